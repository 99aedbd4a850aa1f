/-! ===== the reference: START, STOP, claim, RAISE ===== -/
theorem cL_f : ∀ k, k < 1574 → (cL k).2.1 < 15 := by decide +kernel
theorem cE_hi {A : St} {f j x : Nat} (h : 16 ≤ f) (k : Nat) : cE (mj_up A f j x) k = cE A k := by
  rw [cE_up (by omega) (by omega), if_neg]
  rintro ⟨q1, q2, q3⟩
  have := cL_f k q1
  omega
theorem rR_hi {c : Nat → Int32} {A : St} {f j x : Nat} (h : 16 ≤ f) (hR : rR c A) : rR c (mj_up A f j x) := fun k hk => (hR k hk).trans (cE_hi h k).symm
theorem rR_st {I : mj_M} {A : St} {d x : Nat} (hR : rR (I 464) A) (hd : d < 10) : rR ((mj_up I 464 (1504 + d) (nI x)) 464) (mj_up A 7 d x) := by
  intro k hk
  have h1 := hR k hk
  rw [up464, cE_up7 hd]
  repeat' split
  all_goals first | rfl | omega | exact h1
theorem rR_pr {I : mj_M} {A : St} {d x : Nat} (hR : rR (I 464) A) (hd : d < 10) : rR ((mj_up I 464 (1514 + d) (nI x)) 464) (mj_up A 8 d x) := by
  intro k hk
  have h1 := hR k hk
  rw [up464, cE_up8 hd]
  repeat' split
  all_goals first | rfl | omega | exact h1
theorem rR_wa {I : mj_M} {A : St} {id x : Nat} (hR : rR (I 464) A) (hd : id < 80) : rR ((mj_up I 464 (1424 + id) (nI x)) 464) (mj_up A 6 id x) := by
  intro k hk
  have h1 := hR k hk
  rw [up464, cE_up6 hd]
  repeat' split
  all_goals first | rfl | omega | exact h1
theorem rR_dr {I : mj_M} {A : St} {id x : Nat} (hR : rR (I 464) A) (hd : id < 80) : rR ((mj_up I 464 (1344 + id) (nI x)) 464) (mj_up A 5 id x) := by
  intro k hk
  have h1 := hR k hk
  rw [up464, cE_up5 hd]
  repeat' split
  all_goals first | rfl | omega | exact h1
theorem rR_dp {I : mj_M} {A : St} {d x : Nat} (hR : rR (I 464) A) (hd : d < 10) : rR ((mj_up I 464 (1544 + d) (nI x)) 464) (mj_up A 12 d x) := by
  intro k hk
  have h1 := hR k hk
  rw [up464, cE_up12 hd]
  repeat' split
  all_goals first | rfl | omega | exact h1
theorem rR_de {I : mj_M} {A : St} {d x : Nat} (hR : rR (I 464) A) (hd : d < 10) : rR ((mj_up I 464 (1524 + d) (nI x)) 464) (mj_up A 10 d x) := by
  intro k hk
  have h1 := hR k hk
  rw [up464, cE_up10 hd]
  repeat' split
  all_goals first | rfl | omega | exact h1
theorem rR_ha {I : mj_M} {A : St} {d x : Nat} (hR : rR (I 464) A) (hd : d < 8) : rR ((mj_up I 464 (1562 + d) (nI x)) 464) (mj_up A 13 d x) := by
  intro k hk
  have h1 := hR k hk
  rw [up464, cE_up13 hd]
  repeat' split
  all_goals first | rfl | omega | exact h1
theorem rR_on {I : mj_M} {A : St} {d x : Nat} (hR : rR (I 464) A) (hd : d < 8) : rR ((mj_up I 464 (1554 + d) (nI x)) 464) (mj_up A 9 d x) := by
  intro k hk
  have h1 := hR k hk
  rw [up464, cE_up9 hd]
  repeat' split
  all_goals first | rfl | omega | exact h1
theorem rR_sc {I : mj_M} {A : St} {j x : Nat} (hR : rR (I 464) A) (hd : j < 4) : rR ((mj_up I 464 (1570 + j) (nI x)) 464) (mj_up A 14 j x) := by
  intro k hk
  have h1 := hR k hk
  rw [up464, cE_up14 hd]
  repeat' split
  all_goals first | rfl | omega | exact h1
theorem rR_vs {I : mj_M} {A : St} {p x : Nat} (hR : rR (I 464) A) (hd : p < 256) : rR ((mj_up I 464 p (nI x)) 464) (mj_up A 0 p x) := by
  intro k hk
  have h1 := hR k hk
  rw [up464, cE_up0 hd]
  repeat' split
  all_goals first | rfl | omega | exact h1
theorem rR_cong {c c' : Nat → Int32} {A : St} (h : ∀ k, k < 1775 → c' k = c k) (hR : rR c A) : rR c' A := fun k hk => (h k hk).trans (hR k hk)
/-- a LINE of a DEVICE that begins -/
def aClr (A : St) (id : Nat) : St := mj_up (aNoOld (mj_up A 3 id 0) id) 6 id 0
def aSt0 (A : St) (d : Nat) : St := itN (fun k A => aClr A (8 * d + k)) 8 (mj_up (mj_up A 7 d 1) 8 d 0)
/-- START -/
def aStart (b A : St) (d : Nat) : Nat × St :=
  if A 7 d = 1 then (4, A) else
  match (if b 1 d = 3 then aStQ b (aSt0 A d) d else aStD b (aSt0 A d) d) with
  | none => (1, A)
  | some A' => if aFree b A' < aProm b A' then (2, A) else (0, A')
theorem aOK_clr {A : St} {id : Nat} (h : aOK A) : aOK (aClr A id) := aOK_up (aOK_noOld (aOK_up h (fun _ => by decide))) (fun _ => by decide)
theorem aOK_st0 {A : St} {d : Nat} (h : aOK A) : aOK (aSt0 A d) := itN_P (n := 8) (aOK_up (aOK_up h (fun _ => by decide)) (fun _ => by decide)) (fun k B _ hB => aOK_clr hB) 8 (Nat.le_refl _)
theorem aOK_stD {b A A' : St} {d : Nat} (hk : bOK b) (hd : d < b 0 2) (hA : aOK A) (h : aStD b A d = some A') : aOK A' := by
  have h10 : d < 10 := by have := hk.2.2.1; omega
  have hs := hk.2.2.2 d hd
  have hc8 := hk.1.2
  have hv32 := hk.2.1.2
  unfold aStD at h
  cases hq : aDealt b A (b 2 d) (b 3 d) with
  | none => rw [hq] at h; cases h
  | some p =>
    rw [hq, Option.map_some] at h
    have hp := lstN_lt hq
    cases h
    cases hz : aBlk b A p (b 2 d) with
    | none =>
      have h9 := hp.2
      unfold aDP at h9
      rw [hz] at h9; simp at h9
    | some i =>
      have hi := aBlk_lt hs.2.1.1 hz
      refine itN_P (n := b 2 d) hA (fun k B hk9 hB => aOK_holds hB (by omega) ?_) (b 2 d) (Nat.le_refl _)
      show 32 * p + b 2 d * i + k < 256
      omega
theorem aOK_stQ {b A A' : St} {d : Nat} (hk : bOK b) (hd : d < b 0 2) (hA : aOK A) (h : aStQ b A d = some A') : aOK A' := by
  have h10 : d < 10 := by have := hk.2.2.1; omega
  have hs := hk.2.2.2 d hd
  unfold aStQ at h
  cases hq : aRsvA b d A with
  | none => rw [hq] at h; cases h
  | some A1 =>
    rw [hq, Option.map_some] at h
    cases h
    have h1 : aOK A1 := itO_P (P := aOK) (n := b 2 d) hA (fun k B C hk9 hB hC => itO_P (P := aOK) (n := b 0 0) hB (fun k2 B2 C2 hk2 hB2 hC2 => aOK_rsv hB2 h10 (by omega) hC2) (b 0 0) C (Nat.le_refl _) hC) (b 2 d) A1 (Nat.le_refl _) hq
    exact itN_P (n := b 2 d) h1 (fun k B hk9 hB => aOK_hoQ hk hB h10 (by omega)) (b 2 d) (Nat.le_refl _)
theorem aOK_start {b A : St} {d : Nat} (hk : bOK b) (hd : d < b 0 2) (hA : aOK A) : aOK (aStart b A d).2 := by
  unfold aStart
  split
  · exact hA
  · cases ho : (if b 1 d = 3 then aStQ b (aSt0 A d) d else aStD b (aSt0 A d) d) with
    | none => exact hA
    | some A' =>
      dsimp only
      split
      · exact hA
      · split at ho
        · exact aOK_stQ hk hd (aOK_st0 hA) ho
        · exact aOK_stD hk hd (aOK_st0 hA) ho
theorem aFree_le {b A : St} (hk : bOK b) : aFree b A ≤ 256 := by
  have h1 := hk.1.2
  have h2 := hk.2.1.2
  have h3 : aFree b A ≤ b 0 0 * 32 := sumN_le (fun k _ => by
    split
    · exact Nat.le_trans (aCnt_le b A k 0) h2
    · exact Nat.zero_le _)
  omega
theorem aProm_le {b A : St} (hk : bOK b) : aProm b A ≤ 80 := by
  have h1 := hk.2.2.1
  have h3 : aProm b A ≤ b 0 2 * 8 := sumN_le (fun k hk9 => by
    split
    · exact (hk.2.2.2 k hk9).2.1.2
    · exact Nat.zero_le _)
  omega
section M7
variable {w : mj_Wd} {l : Launch} {I : mj_M} {J : mj_J} {R : mj_R} {b A : St}
theorem rs_X11_starts {d : Nat} (hM : mj_wM R) (hb : mB I b) (hk : bOK b) (hR : rR (I 464) A) (hA : aOK A) (hd : d < b 0 2) (hH : b 1 d = 3 → aHoOK b (aSt0 A d) d) : RsI w l yX11_starts dd_X11_starts [.ref 452, .int (nI d)] (472, I, J, R) (fun x I' => x = nI (aStart b A d).1 ∧ rR (I' 464) (aStart b A d).2 ∧ mF2 I I') := by
  have h10 : d < 10 := by have := hk.2.2.1; omega
  have hs := hk.2.2.2 d hd
  refine rt_intro2 (L := [some (.ref 452), some (.int (nI d)), none]) ⟨by decide, rfl, (fun h => by cases h)⟩ (Nat.le_of_ble_eq_true rfl) rfl (fun Y Q hQ => ?_)
  unfold aStart at hQ
  refine q_aload_n (pc' := 1) dX11_starts_0 rfl rfl (q_iload_n (pc' := 2) dX11_starts_1 rfl rfl (q_cVi (pc' := 5) dX11_starts_2 rfl ml_RX11_283 yv_X11_isStarted (by decide) (rn_X11_isStarted hM hR hA h10) ⟨by omega, rfl⟩ rfl rfl (Nat.le_of_ble_eq_true rfl) (Nat.le_refl _) (q_ifb_eq (pc' := 8) (pt := 10) dX11_starts_5 rfl rfl (fun h1 => ?_) (fun h1 => ?_))))
  · rw [beq_eq_false_iff_ne] at h1
    rw [if_neg h1] at hQ
    refine q_aload_n (pc' := 11) dX11_starts_10 rfl rfl (q_cVv (pc' := 14) dX11_starts_11 rfl ml_RX11_334 yv_X11_putsAside (by decide) (rn_X11_putsAside hM) ⟨by omega, rfl⟩ rfl rfl (Nat.le_of_ble_eq_true rfl) (Nat.le_refl _) ?_)
    have hF1 : mF2 I (mj_cp I 465 1775 (I 464)) := fun a _ h2 => cp_ne h2
    have hR1 : rR ((mj_cp I 465 1775 (I 464)) 464) A := by rw [cp_ne (by decide)]; exact hR
    have hAs : rR ((mj_cp I 465 1775 (I 464)) 465) A := rR_cong (fun k hk9 => cp_in hk9) hR
    generalize mj_cp I 465 1775 (I 464) = I1 at hF1 hR1 hAs ⊢
    have hb1 := mB_F2 hF1 hb
    refine q_aload_n (pc' := 15) dX11_starts_14 rfl rfl (q_getR (pc' := 18) dX11_starts_15 rfl fr_RX11_51 ⟨by omega, rfl⟩ rfl (wM_36 hM) (by decide) (q_sipush (pc' := 21) _ dX11_starts_18 rfl kk_sipush_1504 (q_iload_n (pc' := 22) dX11_starts_21 rfl rfl (q_iadd (pc' := 23) dX11_starts_22 rfl (q_iconst (pc' := 24) _ dX11_starts_23 rfl kk_iconst_1 (q_iast (pc' := 25) (1504 + d) dX11_starts_24 rfl (by first | exact ⟨by omega, rfl⟩ | exact okaS hi hz (by decide) rfl | assumption) (by (first | (simp only [nI_add, pk_mul]; done) | (simp only [nI_add, pk_mul]; exact nI_e (by omega)) | exact nI_e (by omega))) (by omega) (q_aload_n (pc' := 26) dX11_starts_25 rfl rfl (q_getR (pc' := 29) dX11_starts_26 rfl fr_RX11_51 ⟨by omega, rfl⟩ rfl (wM_36 hM) (by decide) (q_sipush (pc' := 32) _ dX11_starts_29 rfl kk_sipush_1514 (q_iload_n (pc' := 33) dX11_starts_32 rfl rfl (q_iadd (pc' := 34) dX11_starts_33 rfl (q_iconst (pc' := 35) _ dX11_starts_34 rfl kk_iconst_0 (q_iast (pc' := 36) (1514 + d) dX11_starts_35 rfl (by first | exact ⟨by omega, rfl⟩ | exact okaS hi hz (by decide) rfl | assumption) (by (first | (simp only [nI_add, pk_mul]; done) | (simp only [nI_add, pk_mul]; exact nI_e (by omega)) | exact nI_e (by omega))) (by omega) ?_)))))))))))))
    refine q_iconst (pc' := 37) _ dX11_starts_36 rfl kk_iconst_0 (q_ist_2 (pc' := 38) dX11_starts_37 rfl (by decide) rfl ?_)
    have hR2 := rR_pr (x := 0) (rR_st (x := 1) hR1 h10) h10
    have hF2 : mF I1 (mj_up (mj_up I1 464 (1504 + d) (nI 1)) 464 (1514 + d) (nI 0)) := mF_up.tr mF_up
    generalize mj_up (mj_up I1 464 (1504 + d) (nI 1)) 464 (1514 + d) (nI 0) = I2 at hF2 hR2 ⊢
    -- the end, from 142 on
    have fin : ∀ (r : Nat) I3 A', r ≤ 2 → mF I1 I3 → (r = 0 → rR (I3 464) A') → (∀ x I', x = nI r ∧ rR (I' 464) (if r = 0 then A' else A) ∧ mF2 I I' → Q (some (.int x)) (472, I', J, R)) → Wq dd_X11_starts (mj_mk w l 472 Y) Q 142 [some (.ref 452), some (.int (nI d)), some (.int (nI r))] [] (472, I3, J, R) := by
      intro r I3 A' hr hF3 hR3 hQ3
      by_cases h0 : r = 0
      · subst h0
        exact q_iload_n (pc' := 143) dX11_starts_142 rfl rfl (q_if_le (pc' := 146) (pt := 150) dX11_starts_143 rfl rfl (fun _ => (q_iload_n (pc' := 151) dX11_starts_150 rfl rfl (q_iret dX11_starts_151 rfl (hQ3 _ _ ⟨rfl, hR3 rfl, hF1.tr hF3.two⟩)))) (fun h9 => absurd (by (first | assumption | exact nI_le (by omega) (by omega) | exact nI_ge (by omega) (by omega) | exact nI_lt (by omega) (by omega) | exact nI_nlt (by omega) (by omega) | exact nI_ne (by omega) (by omega) (by omega) | exact nI_e (by omega) | decide)) h9))
      · rw [if_neg h0] at hQ3
        exact q_iload_n (pc' := 143) dX11_starts_142 rfl rfl (q_if_le (pc' := 146) (pt := 150) dX11_starts_143 rfl rfl (fun h9 => absurd h9 (nI_nle (by omega) (by omega))) (fun _ => (q_aload_n (pc' := 147) dX11_starts_146 rfl rfl (q_cVv (pc' := 150) dX11_starts_147 rfl ml_RX11_353 yv_X11_comesBack (by decide) (rn_X11_comesBack hM) ⟨by omega, rfl⟩ rfl rfl (Nat.le_of_ble_eq_true rfl) (Nat.le_refl _) (q_iload_n (pc' := 151) dX11_starts_150 rfl rfl (q_iret dX11_starts_151 rfl (hQ3 _ _ ⟨rfl, rR_cong (fun k hk9 => (cp_in hk9).trans (congrFun (hF3 465 (by decide)) k)) hAs, fun a h1 h2 => (cp_ne h1).trans ((hF3 a h1).trans (hF1 a h1 h2))⟩)))))))
    have loop : ∀ m k I0, k + m = 8 → mF I1 I0 → rR (I0 464) (itN (fun k A => aClr A (8 * d + k)) k (mj_up (mj_up A 7 d 1) 8 d 0)) → Wq dd_X11_starts (mj_mk w l 472 Y) Q 38 [some (.ref 452), some (.int (nI d)), some (.int (nI k))] [] (472, I0, J, R) := by
      intro m
      induction m with
      | zero =>
        intro k I0 hkm hF0 hR0
        have hkz : k = 8 := by omega
        subst hkz
        have hR0 : rR (I0 464) (aSt0 A d) := hR0
        have hok := aOK_st0 (d := d) hA
        have hb0 := mB_F hF0 hb1
        have hbd := hb0.2.2.2 d hd
        -- behind the two ways to start
        have tail : ∀ (o : Option St) x I3, (o = none → x = nI 1) ∧ (∀ A', o = some A' → x = nI 0 ∧ rR (I3 464) A' ∧ aOK A') ∧ mF I0 I3 → (if b 1 d = 3 then aStQ b (aSt0 A d) d else aStD b (aSt0 A d) d) = o → Wq dd_X11_starts (mj_mk w l 472 Y) Q 124 [some (.ref 452), some (.int (nI d)), some (.int (nI 8))] [.int x] (472, I3, J, R) := by
          intro o x I3 ⟨t1, t2, t3⟩ ho
          rw [ho] at hQ
          cases o with
          | none =>
            rw [t1 rfl]
            refine q_ist_2 (pc' := 125) dX11_starts_124 rfl (by decide) rfl (q_iload_n (pc' := 126) dX11_starts_125 rfl rfl (q_if_ne (pc' := 129) (pt := 142) dX11_starts_126 rfl rfl (fun _ => ?_) (fun h9 => absurd h9 (by (first | assumption | exact nI_le (by omega) (by omega) | exact nI_ge (by omega) (by omega) | exact nI_lt (by omega) (by omega) | exact nI_nlt (by omega) (by omega) | exact nI_ne (by omega) (by omega) (by omega) | exact nI_e (by omega) | decide)))))
            exact fin 1 I3 A (by decide) (hF0.tr t3) (fun z => absurd z (by decide)) (fun x I' h => hQ _ _ _ _ ⟨_, rfl, ⟨rfl, rfl⟩, h⟩)
          | some A' =>
            obtain ⟨u1, u2, u3⟩ := t2 A' rfl
            rw [u1]
            dsimp only at hQ
            have hb3 := mB_F t3 hb0
            have l1 := aFree_le (A := A') hk
            have l2 := aProm_le (A := A') hk
            refine q_ist_2 (pc' := 125) dX11_starts_124 rfl (by decide) rfl (q_iload_n (pc' := 126) dX11_starts_125 rfl rfl (q_if_ne (pc' := 129) (pt := 142) dX11_starts_126 rfl rfl (fun h9 => absurd (by (first | assumption | exact nI_le (by omega) (by omega) | exact nI_ge (by omega) (by omega) | exact nI_lt (by omega) (by omega) | exact nI_nlt (by omega) (by omega) | exact nI_ne (by omega) (by omega) (by omega) | exact nI_e (by omega) | decide)) h9) (fun _ => (q_aload_n (pc' := 130) dX11_starts_129 rfl rfl (q_cVi (pc' := 133) dX11_starts_130 rfl ml_RX11_347 yv_X11_freeOnline (by decide) (rn_X11_freeOnline hM hb3 hk u2 u3) ⟨by omega, rfl⟩ rfl rfl (Nat.le_of_ble_eq_true rfl) (Nat.le_refl _) (q_aload_n (pc' := 134) dX11_starts_133 rfl rfl (q_cVi (pc' := 137) dX11_starts_134 rfl ml_RX11_350 yv_X11_promised (by decide) (rn_X11_promised hM hb3 hk u2 u3) ⟨by omega, rfl⟩ rfl rfl (Nat.le_of_ble_eq_true rfl) (Nat.le_refl _) (q_icmp_ge (pc' := 140) (pt := 142) dX11_starts_137 rfl rfl (fun h5 => ?_) (fun h5 => ?_)))))))))
            · have h6 := (nI_leI (by omega) (by omega)).mp h5
              rw [if_neg (by omega)] at hQ
              exact fin 0 I3 A' (by decide) (hF0.tr t3) (fun _ => u2) (fun x I' h => hQ _ _ _ _ ⟨_, rfl, ⟨rfl, rfl⟩, h⟩)
            · have h6 : ¬ aProm b A' ≤ aFree b A' := fun z => h5 ((nI_leI (by omega) (by omega)).mpr z)
              rw [if_pos (by omega)] at hQ
              refine q_iconst (pc' := 141) _ dX11_starts_140 rfl kk_iconst_2 (q_ist_2 (pc' := 142) dX11_starts_141 rfl (by decide) rfl ?_)
              exact fin 2 I3 A' (by decide) (hF0.tr t3) (fun z => absurd z (by decide)) (fun x I' h => hQ _ _ _ _ ⟨_, rfl, ⟨rfl, rfl⟩, h⟩)
        refine q_iload_n (pc' := 39) dX11_starts_38 rfl rfl (q_bipush (pc' := 41) _ dX11_starts_39 rfl kk_bipush_8 (q_icmp_ge (pc' := 44) (pt := 101) dX11_starts_41 rfl rfl (fun _ => (q_aload_n (pc' := 102) dX11_starts_101 rfl rfl (q_getR (pc' := 105) dX11_starts_102 rfl fr_RX11_29 ⟨by omega, rfl⟩ rfl (wM_29 hM) (by decide) (q_iload_n (pc' := 106) dX11_starts_105 rfl rfl (q_ialde (pc' := 107) _ dX11_starts_106 rfl (by first | exact ⟨by omega, rfl⟩ | exact okaS hi hz (by decide) rfl | assumption) rfl (by omega) hbd.1 (q_iconst (pc' := 108) _ dX11_starts_107 rfl kk_iconst_3 (q_icmp_ne (pc' := 111) (pt := 119) dX11_starts_108 rfl rfl (fun h4 => ?_) (fun h4 => ?_)))))))) (fun h9 => absurd (by (first | assumption | exact nI_le (by omega) (by omega) | exact nI_ge (by omega) (by omega) | exact nI_lt (by omega) (by omega) | exact nI_nlt (by omega) (by omega) | exact nI_ne (by omega) (by omega) (by omega) | exact nI_e (by omega) | decide)) h9)))
        · have h5 : ¬ b 1 d = 3 := fun z => h4 (nI_e z)
          refine q_aload_n (pc' := 120) dX11_starts_119 rfl rfl (q_iload_n (pc' := 121) dX11_starts_120 rfl rfl (q_sVi (pc' := 124) dX11_starts_121 rfl ml_RX11_344 yv_X11_startsDealt (by decide) (rs_X11_startsDealt hM hb0 hk hR0 hok hd) ⟨by omega, rfl⟩ rfl rfl (Nat.le_of_ble_eq_true rfl) (Nat.le_refl _) (fun x3 I3 ⟨t1, t2, t3⟩ => ?_)))
          exact tail (aStD b (aSt0 A d) d) x3 I3 ⟨t1, fun A' h => ⟨(t2 A' h).1, (t2 A' h).2, aOK_stD hk hd hok h⟩, t3⟩ (if_neg h5)
        · have h5 : b 1 d = 3 := (nI_eq (by omega) (by omega)).mp h4
          refine q_aload_n (pc' := 112) dX11_starts_111 rfl rfl (q_iload_n (pc' := 113) dX11_starts_112 rfl rfl (q_sVi (pc' := 116) dX11_starts_113 rfl ml_RX11_341 yv_X11_startsQueues (by decide) (rs_X11_startsQueues hM hb0 hk hR0 hok hd (hH h5)) ⟨by omega, rfl⟩ rfl rfl (Nat.le_of_ble_eq_true rfl) (Nat.le_refl _) (fun x3 I3 ⟨t1, t2, t3⟩ => (q_goto (pc' := 124) dX11_starts_116 rfl ?_))))
          exact tail (aStQ b (aSt0 A d) d) x3 I3 ⟨t1, fun A' h => ⟨(t2 A' h).1, (t2 A' h).2, aOK_stQ hk hd hok h⟩, t3⟩ (if_pos h5)
      | succ m ih =>
        intro k I0 hkm hF0 hR0
        have h3 := rR_held (x := 0) (id := 8 * d + k) hR0 (by omega)
        refine q_iload_n (pc' := 39) dX11_starts_38 rfl rfl (q_bipush (pc' := 41) _ dX11_starts_39 rfl kk_bipush_8 (q_icmp_ge (pc' := 44) (pt := 101) dX11_starts_41 rfl rfl (fun h9 => absurd h9 (by (first | assumption | exact nI_le (by omega) (by omega) | exact nI_ge (by omega) (by omega) | exact nI_lt (by omega) (by omega) | exact nI_nlt (by omega) (by omega) | exact nI_ne (by omega) (by omega) (by omega) | exact nI_e (by omega) | decide))) (fun _ => (q_aload_n (pc' := 45) dX11_starts_44 rfl rfl (q_getR (pc' := 48) dX11_starts_45 rfl fr_RX11_51 ⟨by omega, rfl⟩ rfl (wM_36 hM) (by decide) (q_sipush (pc' := 51) _ dX11_starts_48 rfl kk_sipush_1024 (q_iload_n (pc' := 52) dX11_starts_51 rfl rfl (q_iload_n (pc' := 53) dX11_starts_52 rfl rfl (q_cSi (pc' := 56) dX11_starts_53 rfl ml_RX11_308 ys_X11_lineAt (by decide) (rn_X11_lineAt) rfl rfl (Nat.le_of_ble_eq_true rfl) (Nat.le_refl _) (q_iadd (pc' := 57) dX11_starts_56 rfl (q_iconst (pc' := 58) _ dX11_starts_57 rfl kk_iconst_m1 (q_iast (pc' := 59) (1024 + (8 * d + k)) dX11_starts_58 rfl (by first | exact ⟨by omega, rfl⟩ | exact okaS hi hz (by decide) rfl | assumption) (by (first | (simp only [nI_add, pk_mul]; done) | (simp only [nI_add, pk_mul]; exact nI_e (by omega)) | exact nI_e (by omega))) (by omega) (q_aload_n (pc' := 60) dX11_starts_59 rfl rfl (q_getR (pc' := 63) dX11_starts_60 rfl fr_RX11_51 ⟨by omega, rfl⟩ rfl (wM_36 hM) (by decide) ?_))))))))))))))
        refine q_sipush (pc' := 66) _ dX11_starts_63 rfl kk_sipush_1104 (q_iload_n (pc' := 67) dX11_starts_66 rfl rfl (q_iload_n (pc' := 68) dX11_starts_67 rfl rfl (q_cSi (pc' := 71) dX11_starts_68 rfl ml_RX11_308 ys_X11_lineAt (by decide) (rn_X11_lineAt) rfl rfl (Nat.le_of_ble_eq_true rfl) (Nat.le_refl _) (q_iadd (pc' := 72) dX11_starts_71 rfl (q_iconst (pc' := 73) _ dX11_starts_72 rfl kk_iconst_m1 (q_iast (pc' := 74) (1104 + (8 * d + k)) dX11_starts_73 rfl (by first | exact ⟨by omega, rfl⟩ | exact okaS hi hz (by decide) rfl | assumption) (by (first | (simp only [nI_add, pk_mul]; done) | (simp only [nI_add, pk_mul]; exact nI_e (by omega)) | exact nI_e (by omega))) (by omega) (q_aload_n (pc' := 75) dX11_starts_74 rfl rfl (q_iload_n (pc' := 76) dX11_starts_75 rfl rfl (q_iload_n (pc' := 77) dX11_starts_76 rfl rfl (q_sVv (pc' := 80) dX11_starts_77 rfl ml_RX11_337 yv_X11_noOld (by decide) (rs_X11_noOld hM h3 h10 (by omega)) ⟨by omega, rfl⟩ rfl rfl (Nat.le_of_ble_eq_true rfl) (Nat.le_refl _) (fun I4 ⟨hF4, hR4⟩ => ?_)))))))))))
        have h5 := rR_wa (x := 0) hR4 (show 8 * d + k < 80 by omega)
        refine q_aload_n (pc' := 81) dX11_starts_80 rfl rfl (q_getR (pc' := 84) dX11_starts_81 rfl fr_RX11_51 ⟨by omega, rfl⟩ rfl (wM_36 hM) (by decide) (q_sipush (pc' := 87) _ dX11_starts_84 rfl kk_sipush_1424 (q_iload_n (pc' := 88) dX11_starts_87 rfl rfl (q_iload_n (pc' := 89) dX11_starts_88 rfl rfl (q_cSi (pc' := 92) dX11_starts_89 rfl ml_RX11_308 ys_X11_lineAt (by decide) (rn_X11_lineAt) rfl rfl (Nat.le_of_ble_eq_true rfl) (Nat.le_refl _) (q_iadd (pc' := 93) dX11_starts_92 rfl (q_iconst (pc' := 94) _ dX11_starts_93 rfl kk_iconst_0 (q_iast (pc' := 95) (1424 + (8 * d + k)) dX11_starts_94 rfl (by first | exact ⟨by omega, rfl⟩ | exact okaS hi hz (by decide) rfl | assumption) (by (first | (simp only [nI_add, pk_mul]; done) | (simp only [nI_add, pk_mul]; exact nI_e (by omega)) | exact nI_e (by omega))) (by omega) (q_inc_2 (pc' := 98) dX11_starts_95 rfl (by decide) rfl (q_goto (pc' := 38) dX11_starts_98 rfl ?_))))))))))
        exact ih (k + 1) _ (by omega) ((hF0.tr (mF_up.tr mF_up)).tr (hF4.tr mF_up)) h5
    exact loop 8 0 I2 (by omega) hF2 hR2
  · rw [beq_iff_eq] at h1
    rw [if_pos h1] at hQ
    exact q_iconst (pc' := 9) _ dX11_starts_8 rfl kk_iconst_4 (q_iret dX11_starts_9 rfl (hQ _ _ _ _ ⟨_, rfl, ⟨rfl, rfl⟩, rfl, hR, mF2.rf⟩))
/-- claim() -/
def aClaim (b A : St) (d : Nat) : Nat × St := if A 8 d = 1 ∨ A 7 d = 1 ∨ b 1 d = 3 then (4, A) else if aFree b A < aProm b A + b 2 d then (2, A) else (0, mj_up A 8 d 1)
theorem aOK_claim {b A : St} {d : Nat} (hA : aOK A) : aOK (aClaim b A d).2 := by
  unfold aClaim
  split
  · exact hA
  · split
    · exact hA
    · exact aOK_up hA (fun _ => by decide)
theorem rs_X11_claims {d : Nat} (hM : mj_wM R) (hb : mB I b) (hk : bOK b) (hR : rR (I 464) A) (hA : aOK A) (hd : d < b 0 2) : RsI w l yX11_claims dd_X11_claims [.ref 452, .int (nI d)] (472, I, J, R) (fun x I' => x = nI (aClaim b A d).1 ∧ rR (I' 464) (aClaim b A d).2 ∧ mF I I') := by
  have h10 : d < 10 := by have := hk.2.2.1; omega
  have hs := hk.2.2.2 d hd
  have hbd := hb.2.2.2 d hd
  have h6 := hA.2.2.1 d h10
  refine rt_intro2 (L := [some (.ref 452), some (.int (nI d))]) ⟨by decide, rfl, (fun h => by cases h)⟩ (Nat.le_of_ble_eq_true rfl) rfl (fun Y Q hQ => ?_)
  unfold aClaim at hQ
  have no : A 8 d = 1 ∨ A 7 d = 1 ∨ b 1 d = 3 → Wq dd_X11_claims (mj_mk w l 472 Y) Q 32 [some (.ref 452), some (.int (nI d))] [] (472, I, J, R) := by
    intro h
    rw [if_pos h] at hQ
    exact q_iconst (pc' := 33) _ dX11_claims_32 rfl kk_iconst_4 (q_iret dX11_claims_33 rfl (hQ _ _ _ _ ⟨_, rfl, ⟨rfl, rfl⟩, rfl, hR, mF.rf⟩))
  refine q_aload_n (pc' := 1) dX11_claims_0 rfl rfl (q_getR (pc' := 4) dX11_claims_1 rfl fr_RX11_51 ⟨by omega, rfl⟩ rfl (wM_36 hM) (by decide) (q_sipush (pc' := 7) _ dX11_claims_4 rfl kk_sipush_1514 (q_iload_n (pc' := 8) dX11_claims_7 rfl rfl (q_iadd (pc' := 9) dX11_claims_8 rfl (q_ialde (pc' := 10) (1514 + d) dX11_claims_9 rfl (by first | exact ⟨by omega, rfl⟩ | exact okaS hi hz (by decide) rfl | assumption) (by (first | (simp only [nI_add, pk_mul]; done) | (simp only [nI_add, pk_mul]; exact nI_e (by omega)) | exact nI_e (by omega))) (by omega) ((hR _ (by omega)).trans (cE_pr (by omega))) (q_iconst (pc' := 11) _ dX11_claims_10 rfl kk_iconst_1 (q_icmp_eq (pc' := 14) (pt := 32) dX11_claims_11 rfl rfl (fun h1 => ?_) (fun h1 => ?_))))))))
  · exact no (Or.inl ((nI_eq (by omega) (by omega)).mp h1))
  · refine q_aload_n (pc' := 15) dX11_claims_14 rfl rfl (q_iload_n (pc' := 16) dX11_claims_15 rfl rfl (q_cVi (pc' := 19) dX11_claims_16 rfl ml_RX11_283 yv_X11_isStarted (by decide) (rn_X11_isStarted hM hR hA h10) ⟨by omega, rfl⟩ rfl rfl (Nat.le_of_ble_eq_true rfl) (Nat.le_refl _) (q_ifb_ne (pc' := 22) (pt := 32) dX11_claims_19 rfl rfl (fun h2 => ?_) (fun h2 => ?_))))
    · exact no (Or.inr (Or.inl (beq_iff_eq.mp h2)))
    · refine q_aload_n (pc' := 23) dX11_claims_22 rfl rfl (q_getR (pc' := 26) dX11_claims_23 rfl fr_RX11_29 ⟨by omega, rfl⟩ rfl (wM_29 hM) (by decide) (q_iload_n (pc' := 27) dX11_claims_26 rfl rfl (q_ialde (pc' := 28) _ dX11_claims_27 rfl (by first | exact ⟨by omega, rfl⟩ | exact okaS hi hz (by decide) rfl | assumption) rfl (by omega) hbd.1 (q_iconst (pc' := 29) _ dX11_claims_28 rfl kk_iconst_3 (q_icmp_ne (pc' := 32) (pt := 34) dX11_claims_29 rfl rfl (fun h3 => ?_) (fun h3 => ?_))))))
      · have hn : ¬ (A 8 d = 1 ∨ A 7 d = 1 ∨ b 1 d = 3) := by
          rintro (z | z | z)
          · exact h1 (nI_e z)
          · exact beq_eq_false_iff_ne.mp h2 z
          · exact h3 (nI_e z)
        rw [if_neg hn] at hQ
        have l1 := aFree_le (A := A) hk
        have l2 := aProm_le (A := A) hk
        refine q_aload_n (pc' := 35) dX11_claims_34 rfl rfl (q_cVi (pc' := 38) dX11_claims_35 rfl ml_RX11_347 yv_X11_freeOnline (by decide) (rn_X11_freeOnline hM hb hk hR hA) ⟨by omega, rfl⟩ rfl rfl (Nat.le_of_ble_eq_true rfl) (Nat.le_refl _) (q_aload_n (pc' := 39) dX11_claims_38 rfl rfl (q_cVi (pc' := 42) dX11_claims_39 rfl ml_RX11_350 yv_X11_promised (by decide) (rn_X11_promised hM hb hk hR hA) ⟨by omega, rfl⟩ rfl rfl (Nat.le_of_ble_eq_true rfl) (Nat.le_refl _) (q_aload_n (pc' := 43) dX11_claims_42 rfl rfl (q_getR (pc' := 46) dX11_claims_43 rfl fr_RX11_32 ⟨by omega, rfl⟩ rfl (wM_30 hM) (by decide) (q_iload_n (pc' := 47) dX11_claims_46 rfl rfl (q_ialde (pc' := 48) _ dX11_claims_47 rfl (by first | exact ⟨by omega, rfl⟩ | exact okaS hi hz (by decide) rfl | assumption) rfl (by omega) hbd.2.1 (q_iadd (pc' := 49) dX11_claims_48 rfl ?_))))))))
        refine q_top (nI_add _ _) ?_
        refine q_icmp_ge (pc' := 52) (pt := 54) dX11_claims_49 rfl rfl (fun h5 => ?_) (fun h5 => ?_)
        · have h7 := (nI_leI (by omega) (by omega)).mp h5
          rw [if_neg (by omega)] at hQ
          exact q_aload_n (pc' := 55) dX11_claims_54 rfl rfl (q_getR (pc' := 58) dX11_claims_55 rfl fr_RX11_51 ⟨by omega, rfl⟩ rfl (wM_36 hM) (by decide) (q_sipush (pc' := 61) _ dX11_claims_58 rfl kk_sipush_1514 (q_iload_n (pc' := 62) dX11_claims_61 rfl rfl (q_iadd (pc' := 63) dX11_claims_62 rfl (q_iconst (pc' := 64) _ dX11_claims_63 rfl kk_iconst_1 (q_iast (pc' := 65) (1514 + d) dX11_claims_64 rfl (by first | exact ⟨by omega, rfl⟩ | exact okaS hi hz (by decide) rfl | assumption) (by (first | (simp only [nI_add, pk_mul]; done) | (simp only [nI_add, pk_mul]; exact nI_e (by omega)) | exact nI_e (by omega))) (by omega) (q_iconst (pc' := 66) _ dX11_claims_65 rfl kk_iconst_0 (q_iret dX11_claims_66 rfl (hQ _ _ _ _ ⟨_, rfl, ⟨rfl, rfl⟩, rfl, rR_pr hR h10, mF_up⟩)))))))))
        · have h7 : ¬ aProm b A + b 2 d ≤ aFree b A := fun z => h5 ((nI_leI (by omega) (by omega)).mpr z)
          rw [if_pos (by omega)] at hQ
          exact q_iconst (pc' := 53) _ dX11_claims_52 rfl kk_iconst_2 (q_iret dX11_claims_53 rfl (hQ _ _ _ _ ⟨_, rfl, ⟨rfl, rfl⟩, rfl, hR, mF.rf⟩))
      · exact no (Or.inr (Or.inr ((nI_eq (by omega) (by omega)).mp h3)))
/-- RAISE of a LINE -/
def aRaise (A : St) (d k : Nat) (late : Bool) : Nat × St :=
  if late = true ∧ A 4 (8 * d + k) ≠ 0 then (1 - A 2 (A 4 (8 * d + k) - 1), aPends A d (A 4 (8 * d + k) - 1)) else
  if A 3 (8 * d + k) ≠ 0 then (1 - A 2 (A 3 (8 * d + k) - 1), aPends A d (A 3 (8 * d + k) - 1)) else
  if A 6 (8 * d + k) = 1 then (0, aMerge A d) else (1, mj_up A 6 (8 * d + k) 1)
theorem aOK_raise {A : St} {d k : Nat} {late : Bool} (hA : aOK A) : aOK (aRaise A d k late).2 := by
  unfold aRaise
  split
  · exact aOK_pends hA
  · split
    · exact aOK_pends hA
    · split
      · exact aOK_merge hA
      · exact aOK_up hA (fun _ => by decide)
theorem eC_p {x : Nat} (h : x ≠ 0) : eC x = nI ((x - 1) / 32) := if_neg h
theorem eV_p {x : Nat} (h : x ≠ 0) : eV x = nI ((x - 1) % 32) := if_neg h
theorem pl_e (x : Nat) : 32 * ((x - 1) / 32) + (x - 1) % 32 = x - 1 := by omega
theorem rs_X11_raises {d k : Nat} {late : Bool} (hM : mj_wM R) (hR : rR (I 464) A) (hA : aOK A) (hd : d < 10) (hl : k < 8) : RsI w l yX11_raises dd_X11_raises [.ref 452, .int (nI d), .int (nI k), .int (bI late)] (472, I, J, R) (fun x I' => x = nI (aRaise A d k late).1 ∧ rR (I' 464) (aRaise A d k late).2 ∧ mF I I') := by
  have h6 := hA.2.1 (8 * d + k) (by omega)
  have e1 : I 464 (1184 + (8 * d + k)) = eC (A 4 (8 * d + k)) := (hR _ (by omega)).trans (cE_oc (by omega))
  have e2 : I 464 (1264 + (8 * d + k)) = eV (A 4 (8 * d + k)) := (hR _ (by omega)).trans (cE_ov (by omega))
  have e3 : I 464 (1024 + (8 * d + k)) = eC (A 3 (8 * d + k)) := (hR _ (by omega)).trans (cE_hc (by omega))
  have e4 : I 464 (1104 + (8 * d + k)) = eV (A 3 (8 * d + k)) := (hR _ (by omega)).trans (cE_hv (by omega))
  refine rt_intro2 (L := [some (.ref 452), some (.int (nI d)), some (.int (nI k)), some (.int (bI late)), none]) ⟨by decide, rfl, (fun h => by cases h)⟩ (Nat.le_of_ble_eq_true rfl) rfl (fun Y Q hQ => ?_)
  unfold aRaise at hQ
  refine q_iload_n (pc' := 1) dX11_raises_0 rfl rfl (q_iload_n (pc' := 2) dX11_raises_1 rfl rfl (q_cSi (pc' := 5) dX11_raises_2 rfl ml_RX11_308 ys_X11_lineAt (by decide) (rn_X11_lineAt) rfl rfl (Nat.le_of_ble_eq_true rfl) (Nat.le_refl _) ?_))
  refine q_top (y := nI (8 * d + k)) (by (first | (simp only [nI_add, pk_mul]; done) | (simp only [nI_add, pk_mul]; exact nI_e (by omega)) | exact nI_e (by omega))) ?_
  have rest : ¬ (late = true ∧ A 4 (8 * d + k) ≠ 0) → Wq dd_X11_raises (mj_mk w l 472 Y) Q 48 [some (.ref 452), some (.int (nI d)), some (.int (nI k)), some (.int (bI late)), some (.int (nI (8 * d + k)))] [] (472, I, J, R) := by
    intro hn
    rw [if_neg hn] at hQ
    by_cases h0 : A 3 (8 * d + k) = 0
    · rw [if_neg (fun z => z h0)] at hQ
      refine q_aload_n (pc' := 49) dX11_raises_48 rfl rfl (q_getR (pc' := 52) dX11_raises_49 rfl fr_RX11_51 ⟨by omega, rfl⟩ rfl (wM_36 hM) (by decide) (q_sipush (pc' := 55) _ dX11_raises_52 rfl kk_sipush_1024 (q_iload (pc' := 57) dX11_raises_55 rfl rfl (q_iadd (pc' := 58) dX11_raises_57 rfl (q_ialde (pc' := 59) (1024 + (8 * d + k)) dX11_raises_58 rfl (by first | exact ⟨by omega, rfl⟩ | exact okaS hi hz (by decide) rfl | assumption) (by (first | (simp only [nI_add, pk_mul]; done) | (simp only [nI_add, pk_mul]; exact nI_e (by omega)) | exact nI_e (by omega))) (by omega) e3 (q_iconst (pc' := 60) _ dX11_raises_59 rfl kk_iconst_m1 (q_icmp_eq (pc' := 63) (pt := 91) dX11_raises_60 rfl rfl (fun _ => (q_aload_n (pc' := 92) dX11_raises_91 rfl rfl (q_getR (pc' := 95) dX11_raises_92 rfl fr_RX11_51 ⟨by omega, rfl⟩ rfl (wM_36 hM) (by decide) (q_sipush (pc' := 98) _ dX11_raises_95 rfl kk_sipush_1424 (q_iload (pc' := 100) dX11_raises_98 rfl rfl (q_iadd (pc' := 101) dX11_raises_100 rfl (q_ialde (pc' := 102) (1424 + (8 * d + k)) dX11_raises_101 rfl (by first | exact ⟨by omega, rfl⟩ | exact okaS hi hz (by decide) rfl | assumption) (by (first | (simp only [nI_add, pk_mul]; done) | (simp only [nI_add, pk_mul]; exact nI_e (by omega)) | exact nI_e (by omega))) (by omega) ((hR _ (by omega)).trans (cE_wa (by omega))) ?_))))))) (fun h9 => absurd ((eC_none h6.1).mpr h0) h9))))))))
      refine q_iconst (pc' := 103) _ dX11_raises_102 rfl kk_iconst_1 (q_icmp_ne (pc' := 106) (pt := 113) dX11_raises_103 rfl rfl (fun h5 => ?_) (fun h5 => ?_))
      · rw [if_neg (fun z => h5 (nI_e z))] at hQ
        exact q_aload_n (pc' := 114) dX11_raises_113 rfl rfl (q_getR (pc' := 117) dX11_raises_114 rfl fr_RX11_51 ⟨by omega, rfl⟩ rfl (wM_36 hM) (by decide) (q_sipush (pc' := 120) _ dX11_raises_117 rfl kk_sipush_1424 (q_iload (pc' := 122) dX11_raises_120 rfl rfl (q_iadd (pc' := 123) dX11_raises_122 rfl (q_iconst (pc' := 124) _ dX11_raises_123 rfl kk_iconst_1 (q_iast (pc' := 125) (1424 + (8 * d + k)) dX11_raises_124 rfl (by first | exact ⟨by omega, rfl⟩ | exact okaS hi hz (by decide) rfl | assumption) (by (first | (simp only [nI_add, pk_mul]; done) | (simp only [nI_add, pk_mul]; exact nI_e (by omega)) | exact nI_e (by omega))) (by omega) (q_iconst (pc' := 126) _ dX11_raises_125 rfl kk_iconst_1 (q_iret dX11_raises_126 rfl (hQ _ _ _ _ ⟨_, rfl, ⟨rfl, rfl⟩, rfl, rR_wa hR (by omega), mF_up⟩)))))))))
      · rw [if_pos ((nI_eq (by omega) (by omega)).mp h5)] at hQ
        refine q_aload_n (pc' := 107) dX11_raises_106 rfl rfl (q_iload_n (pc' := 108) dX11_raises_107 rfl rfl (q_sVv (pc' := 111) dX11_raises_108 rfl ml_RX11_311 yv_X11_merges (by decide) (rs_X11_merges hM hR hd) ⟨by omega, rfl⟩ rfl rfl (Nat.le_of_ble_eq_true rfl) (Nat.le_refl _) (fun I1 ⟨hF1, hR1⟩ => ?_)))
        exact q_iconst (pc' := 112) _ dX11_raises_111 rfl kk_iconst_0 (q_iret dX11_raises_112 rfl (hQ _ _ _ _ ⟨_, rfl, ⟨rfl, rfl⟩, rfl, hR1, hF1⟩))
    · rw [if_pos h0] at hQ
      have e5 := e3.trans (eC_p h0)
      have e6 := e4.trans (eV_p h0)
      have e7 := pl_e (A 3 (8 * d + k))
      have hp := rs_X11_pends (w := w) (l := l) (J := J) (d := d) (p := (A 3 (8 * d + k) - 1) / 32) (v := (A 3 (8 * d + k) - 1) % 32) hM hR hA hd (by omega) (by omega)
      rw [e7] at hp
      refine q_aload_n (pc' := 49) dX11_raises_48 rfl rfl (q_getR (pc' := 52) dX11_raises_49 rfl fr_RX11_51 ⟨by omega, rfl⟩ rfl (wM_36 hM) (by decide) (q_sipush (pc' := 55) _ dX11_raises_52 rfl kk_sipush_1024 (q_iload (pc' := 57) dX11_raises_55 rfl rfl (q_iadd (pc' := 58) dX11_raises_57 rfl (q_ialde (pc' := 59) (1024 + (8 * d + k)) dX11_raises_58 rfl (by first | exact ⟨by omega, rfl⟩ | exact okaS hi hz (by decide) rfl | assumption) (by (first | (simp only [nI_add, pk_mul]; done) | (simp only [nI_add, pk_mul]; exact nI_e (by omega)) | exact nI_e (by omega))) (by omega) e5 (q_iconst (pc' := 60) _ dX11_raises_59 rfl kk_iconst_m1 (q_icmp_eq (pc' := 63) (pt := 91) dX11_raises_60 rfl rfl (fun h9 => absurd h9 (nI_m1 (by omega))) (fun _ => (q_aload_n (pc' := 64) dX11_raises_63 rfl rfl (q_iload_n (pc' := 65) dX11_raises_64 rfl rfl (q_aload_n (pc' := 66) dX11_raises_65 rfl rfl (q_getR (pc' := 69) dX11_raises_66 rfl fr_RX11_51 ⟨by omega, rfl⟩ rfl (wM_36 hM) (by decide) (q_sipush (pc' := 72) _ dX11_raises_69 rfl kk_sipush_1024 (q_iload (pc' := 74) dX11_raises_72 rfl rfl ?_))))))))))))))
      exact q_iadd (pc' := 75) dX11_raises_74 rfl (q_ialde (pc' := 76) (1024 + (8 * d + k)) dX11_raises_75 rfl (by first | exact ⟨by omega, rfl⟩ | exact okaS hi hz (by decide) rfl | assumption) (by (first | (simp only [nI_add, pk_mul]; done) | (simp only [nI_add, pk_mul]; exact nI_e (by omega)) | exact nI_e (by omega))) (by omega) e5 (q_aload_n (pc' := 77) dX11_raises_76 rfl rfl (q_getR (pc' := 80) dX11_raises_77 rfl fr_RX11_51 ⟨by omega, rfl⟩ rfl (wM_36 hM) (by decide) (q_sipush (pc' := 83) _ dX11_raises_80 rfl kk_sipush_1104 (q_iload (pc' := 85) dX11_raises_83 rfl rfl (q_iadd (pc' := 86) dX11_raises_85 rfl (q_ialde (pc' := 87) (1104 + (8 * d + k)) dX11_raises_86 rfl (by first | exact ⟨by omega, rfl⟩ | exact okaS hi hz (by decide) rfl | assumption) (by (first | (simp only [nI_add, pk_mul]; done) | (simp only [nI_add, pk_mul]; exact nI_e (by omega)) | exact nI_e (by omega))) (by omega) e6 (q_sVi (pc' := 90) dX11_raises_87 rfl ml_RX11_359 yv_X11_pends (by decide) hp ⟨by omega, rfl⟩ rfl rfl (Nat.le_of_ble_eq_true rfl) (Nat.le_refl _) (fun x1 I1 ⟨hx1, hF1, hR1⟩ => (q_iret dX11_raises_90 rfl (hQ _ _ _ _ ⟨_, rfl, ⟨rfl, rfl⟩, hx1, hR1, hF1⟩)))))))))))
  refine q_ist_4 (pc' := 7) dX11_raises_5 rfl (by decide) rfl (q_iload_n (pc' := 8) dX11_raises_7 rfl rfl (q_ifb_eq (pc' := 11) (pt := 48) dX11_raises_8 rfl rfl (fun h1 => ?_) (fun h1 => ?_)))
  · exact rest (fun z => by rw [h1] at z; exact Bool.noConfusion z.1)
  · refine q_aload_n (pc' := 12) dX11_raises_11 rfl rfl (q_iload_n (pc' := 13) dX11_raises_12 rfl rfl (q_iload_n (pc' := 14) dX11_raises_13 rfl rfl (q_cVi (pc' := 17) dX11_raises_14 rfl ml_RX11_356 yv_X11_hasOld (by decide) (rn_X11_hasOld hM hR hA hd hl) ⟨by omega, rfl⟩ rfl rfl (Nat.le_of_ble_eq_true rfl) (Nat.le_refl _) (q_ifb_eq (pc' := 20) (pt := 48) dX11_raises_17 rfl rfl (fun h2 => ?_) (fun h2 => ?_)))))
    · refine rest (fun z => ?_)
      have := bne_iff_ne.mpr z.2
      rw [h2] at this
      cases this
    · have h3 := bne_iff_ne.mp h2
      rw [if_pos ⟨h1, h3⟩] at hQ
      have e5 := e1.trans (eC_p h3)
      have e6 := e2.trans (eV_p h3)
      have e7 := pl_e (A 4 (8 * d + k))
      have hp := rs_X11_pends (w := w) (l := l) (J := J) (d := d) (p := (A 4 (8 * d + k) - 1) / 32) (v := (A 4 (8 * d + k) - 1) % 32) hM hR hA hd (by omega) (by omega)
      rw [e7] at hp
      refine q_aload_n (pc' := 21) dX11_raises_20 rfl rfl (q_iload_n (pc' := 22) dX11_raises_21 rfl rfl (q_aload_n (pc' := 23) dX11_raises_22 rfl rfl (q_getR (pc' := 26) dX11_raises_23 rfl fr_RX11_51 ⟨by omega, rfl⟩ rfl (wM_36 hM) (by decide) (q_sipush (pc' := 29) _ dX11_raises_26 rfl kk_sipush_1184 (q_iload (pc' := 31) dX11_raises_29 rfl rfl (q_iadd (pc' := 32) dX11_raises_31 rfl (q_ialde (pc' := 33) (1184 + (8 * d + k)) dX11_raises_32 rfl (by first | exact ⟨by omega, rfl⟩ | exact okaS hi hz (by decide) rfl | assumption) (by (first | (simp only [nI_add, pk_mul]; done) | (simp only [nI_add, pk_mul]; exact nI_e (by omega)) | exact nI_e (by omega))) (by omega) e5 (q_aload_n (pc' := 34) dX11_raises_33 rfl rfl (q_getR (pc' := 37) dX11_raises_34 rfl fr_RX11_51 ⟨by omega, rfl⟩ rfl (wM_36 hM) (by decide) (q_sipush (pc' := 40) _ dX11_raises_37 rfl kk_sipush_1264 (q_iload (pc' := 42) dX11_raises_40 rfl rfl (q_iadd (pc' := 43) dX11_raises_42 rfl (q_ialde (pc' := 44) (1264 + (8 * d + k)) dX11_raises_43 rfl (by first | exact ⟨by omega, rfl⟩ | exact okaS hi hz (by decide) rfl | assumption) (by (first | (simp only [nI_add, pk_mul]; done) | (simp only [nI_add, pk_mul]; exact nI_e (by omega)) | exact nI_e (by omega))) (by omega) e6 ?_)))))))))))))
      exact q_sVi (pc' := 47) dX11_raises_44 rfl ml_RX11_359 yv_X11_pends (by decide) hp ⟨by omega, rfl⟩ rfl rfl (Nat.le_of_ble_eq_true rfl) (Nat.le_refl _) (fun x1 I1 ⟨hx1, hF1, hR1⟩ => (q_iret dX11_raises_47 rfl (hQ _ _ _ _ ⟨_, rfl, ⟨rfl, rfl⟩, hx1, hR1, hF1⟩)))
end M7
