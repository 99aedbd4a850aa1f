/-! ===== the reference: room ===== -/
/-- a stretch of VECTORS is HELD -/
def aMark (A : St) (o n : Nat) : St := fun f k => if f = 0 ∧ o ≤ k ∧ k < o + n then 2 else A f k
theorem mark_0 {A : St} {o : Nat} : aMark A o 0 = A := by
  funext f k
  unfold aMark
  rw [if_neg (fun q => by omega)]
theorem mark_s {A : St} {o n : Nat} : mj_up (aMark A o n) 0 (o + n) 2 = aMark A o (n + 1) := by
  funext f k
  unfold mj_up aMark
  by_cases h1 : f = 0
  · subst h1
    by_cases h2 : k = o + n
    · rw [if_pos ⟨rfl, h2⟩, if_pos ⟨rfl, by omega, by omega⟩]
    · rw [if_neg (fun q => h2 q.2)]
      by_cases h3 : o ≤ k ∧ k < o + n
      · rw [if_pos ⟨rfl, h3⟩, if_pos ⟨rfl, h3.1, by omega⟩]
      · rw [if_neg (fun q => h3 q.2), if_neg (fun q => h3 ⟨q.2.1, by omega⟩)]
  · rw [if_neg (fun q => h1 q.1), if_neg (fun q => h1 q.1), if_neg (fun q => h1 q.1)]
theorem mark_f {A : St} {o n f : Nat} (h : f ≠ 0) : aMark A o n f = A f := by
  funext k; unfold aMark; rw [if_neg (fun q => h q.1)]
theorem aOK_mark {A : St} {o n : Nat} (hA : aOK A) : aOK (aMark A o n) := by
  refine ⟨fun k hk => ⟨?_, by rw [mark_f (by decide)]; exact (hA.1 k hk).2.1, by rw [mark_f (by decide)]; exact (hA.1 k hk).2.2⟩, fun k hk => by rw [mark_f (by decide), mark_f (by decide), mark_f (by decide), mark_f (by decide)]; exact hA.2.1 k hk, fun k hk => by rw [mark_f (by decide), mark_f (by decide)]; exact hA.2.2.1 k hk, fun k hk => by rw [mark_f (by decide)]; exact hA.2.2.2 k hk⟩
  unfold aMark
  split
  · decide
  · exact (hA.1 k hk).1
theorem cntN_mono {P P' : Nat → Bool} {n : Nat} (h : ∀ k, k < n → P' k = true → P k = true) : cntN P' n ≤ cntN P n := by
  induction n with
  | zero => exact Nat.le_refl _
  | succ n ih =>
    have h1 := ih (fun k hk => h k (Nat.lt_succ_of_lt hk))
    have h2 := h n (Nat.lt_succ_self n)
    unfold cntN
    by_cases h3 : P' n = true
    · rw [if_pos h3, if_pos (h2 h3)]; omega
    · rw [if_neg h3]; omega
theorem cntN_less {P P' : Nat → Bool} {n k0 : Nat} (h : ∀ k, k < n → P' k = true → P k = true) (hk : k0 < n) (h1 : P k0 = true) (h2 : P' k0 = false) : cntN P' n < cntN P n := by
  induction n with
  | zero => omega
  | succ n ih =>
    have hm := cntN_mono (fun k hk => h k (Nat.lt_succ_of_lt hk))
    have hn := h n (Nat.lt_succ_self n)
    unfold cntN
    by_cases e : k0 = n
    · subst e
      rw [if_pos h1, if_neg (by rw [h2]; decide)]; omega
    · have := ih (fun k hk => h k (Nat.lt_succ_of_lt hk)) (by omega)
      by_cases h3 : P' n = true
      · rw [if_pos h3, if_pos (hn h3)]; omega
      · rw [if_neg h3]; omega
theorem sumN_mono {f f' : Nat → Nat} {n : Nat} (h : ∀ k, k < n → f' k ≤ f k) : sumN f' n ≤ sumN f n := by
  induction n with
  | zero => exact Nat.le_refl _
  | succ n ih =>
    have h1 := ih (fun k hk => h k (Nat.lt_succ_of_lt hk))
    have h2 := h n (Nat.lt_succ_self n)
    unfold sumN; omega
theorem sumN_less {f f' : Nat → Nat} {n k0 : Nat} (h : ∀ k, k < n → f' k ≤ f k) (hk : k0 < n) (h1 : f' k0 < f k0) : sumN f' n < sumN f n := by
  induction n with
  | zero => omega
  | succ n ih =>
    have hm := sumN_mono (fun k hk => h k (Nat.lt_succ_of_lt hk))
    have hn := h n (Nat.lt_succ_self n)
    unfold sumN
    by_cases e : k0 = n
    · subst e; omega
    · have := ih (fun k hk => h k (Nat.lt_succ_of_lt hk)) (by omega)
      omega
/-- one more BLOCK of n is dealt, if it can be -/
def aRm1 (b : St) (n : Nat) (A : St) : Option St := match aDealt b A n (2 ^ b 0 0 - 1) with
  | none => none
  | some p => if aProm b A + n ≤ aFree b A then some (aMark A (32 * p + n * (aBlk b A p n).getD 0) n) else none
def aRoom (b : St) (n : Nat) : Nat → St → Nat
  | 0, _ => 0
  | f + 1, A => match aRm1 b n A with
    | none => 0
    | some A' => aRoom b n f A' + 1
def qRoom (b A : St) (n : Nat) : Nat := aRoom b n 257 A
theorem aFree_l2 {b A : St} (hk : bOK b) : aFree b A ≤ 256 := by
  have h1 := hk.1.2
  have h2 := hk.2.1.2
  have := sumN_le (f := fun p => if A 9 p = 1 then aCnt b A p 0 else 0) (n := b 0 0) (m := 32) (fun p hp => by
    have := aCnt_le b A p 0
    split <;> omega)
  unfold aFree; omega
theorem dealt_some {b A : St} {n set p : Nat} (h : aDealt b A n set = some p) : p < b 0 0 ∧ A 9 p = 1 ∧ ∃ i, aBlk b A p n = some i := by
  have h1 := lstN_lt h
  have h2 := h1.2
  unfold aDP at h2
  rw [Bool.and_eq_true, Bool.and_eq_true, beq_iff_eq] at h2
  exact ⟨h1.1, h2.1.2, Option.isSome_iff_exists.mp h2.2⟩
theorem aRm_less {b A A' : St} {n : Nat} (hn : 1 ≤ n) (h : aRm1 b n A = some A') : aFree b A' < aFree b A := by
  unfold aRm1 at h
  split at h
  · cases h
  · rename_i p hp
    split at h
    · cases h
      obtain ⟨h1, h2, i, h3⟩ := dealt_some hp
      rw [h3]
      have h4 := aBlk_lt hn h3
      have h5 := (ffi_some h3).2.2
      have h6 := allN_iff.mp h5 0 (by omega)
      rw [Nat.add_zero] at h6
      have hm : ∀ q, aCnt b (aMark A (32 * p + n * (some i).getD 0) n) q 0 ≤ aCnt b A q 0 := fun q => cntN_mono (fun v _ hv => by
        unfold aMark at hv
        by_cases hc : (0:Nat) = 0 ∧ 32 * p + n * (some i).getD 0 ≤ 32 * q + v ∧ 32 * q + v < 32 * p + n * (some i).getD 0 + n
        · rw [if_pos hc] at hv; cases hv
        · rw [if_neg hc] at hv; exact hv)
      refine sumN_less (k0 := p) (fun q hq => ?_) h1 ?_
      · rw [mark_f (by decide)]
        have := hm q
        split <;> omega
      · rw [mark_f (by decide), if_pos h2, if_pos h2]
        refine cntN_less (k0 := n * i) (fun v _ hv => ?_) (by omega) h6 ?_
        · unfold aMark at hv
          by_cases hc : (0:Nat) = 0 ∧ 32 * p + n * (some i).getD 0 ≤ 32 * p + v ∧ 32 * p + v < 32 * p + n * (some i).getD 0 + n
          · rw [if_pos hc] at hv; cases hv
          · rw [if_neg hc] at hv; exact hv
        · unfold aMark
          rw [if_pos ⟨rfl, Nat.le_refl _, by show 32 * p + n * i < 32 * p + n * i + n; omega⟩]
          rfl
    · cases h
section M24
variable {w : mj_Wd} {l : Launch} {I : mj_M} {J : mj_J} {R : mj_R} {b A W0 : St} {ps : Nat → St} {u t : Nat} {h : mj_H} {U : St → Prop} {bx : Nat → Option St}
theorem rn_X11_room0 {x : Int32} (h1 : x ≠ nI 1) (h2 : x ≠ nI 2) (h4 : x ≠ nI 4) (h8 : x ≠ nI 8) : Rn w l yX11_room dd_X11_room [.ref 452, .int x] (472, I, J, R) (some (.int (-1))) (472, I, J, R) := by
  refine rn_intro2 (L := [some (.ref 452), some (.int x), none, none, none, none, none]) ⟨by decide, rfl, (fun h => by cases h)⟩ (Nat.le_refl _) (Nat.le_of_ble_eq_true rfl) rfl (fun Y Q hQ => ?_)
  exact q_iload_n (pc' := 1) dX11_room_0 rfl rfl (q_iconst (pc' := 2) _ dX11_room_1 rfl kk_iconst_1 (q_icmp_eq (pc' := 5) (pt := 23) dX11_room_2 rfl rfl (fun h9 => absurd h9 (h1)) (fun _ => (q_iload_n (pc' := 6) dX11_room_5 rfl rfl (q_iconst (pc' := 7) _ dX11_room_6 rfl kk_iconst_2 (q_icmp_eq (pc' := 10) (pt := 23) dX11_room_7 rfl rfl (fun h9 => absurd h9 (h2)) (fun _ => (q_iload_n (pc' := 11) dX11_room_10 rfl rfl (q_iconst (pc' := 12) _ dX11_room_11 rfl kk_iconst_4 (q_icmp_eq (pc' := 15) (pt := 23) dX11_room_12 rfl rfl (fun h9 => absurd h9 (h4)) (fun _ => (q_iload_n (pc' := 16) dX11_room_15 rfl rfl (q_bipush (pc' := 18) _ dX11_room_16 rfl kk_bipush_8 (q_icmp_eq (pc' := 21) (pt := 23) dX11_room_18 rfl rfl (fun h9 => absurd h9 (h8)) (fun _ => (q_iconst (pc' := 22) _ dX11_room_21 rfl kk_iconst_m1 (q_iret dX11_room_22 rfl hQ)))))))))))))))))
theorem rR_vs2 {A : St} {p x : Nat} (hR : rR (I 464) A) (hi : p < 256) : rR ((mj_up I 464 p (nI x)) 464) (mj_up A 0 p x) := by
  intro k hk
  rw [cE_up0 hi]
  by_cases e : k = p
  · rw [if_pos e, e, mj_up_eq]
  · rw [if_neg e, mj_up_ne2 e]; exact hR k hk
theorem rs_X11_room {n : Nat} (hM : mj_wM R) (hb : mB I b) (hk : bOK b) (hR : rR (I 464) A) (hA : aOK A) (hn : n = 1 ∨ n = 2 ∨ n = 4 ∨ n = 8) : RsI w l yX11_room dd_X11_room [.ref 452, .int (nI n)] (472, I, J, R) (fun x I' => x = nI (qRoom b A n) ∧ rR (I' 464) A ∧ mF2 I I') := by
  have hc8 := hk.1
  have hv32 := hk.2.1
  have hn8 : 1 ≤ n ∧ n ≤ 8 := by omega
  have hpw : 2 ^ b 0 0 ≤ 2 ^ 8 := Nat.pow_le_pow_right (by decide) hc8.2
  have hpp : 1 ≤ 2 ^ b 0 0 := Nat.one_le_two_pow
  refine rt_intro2 (L := [some (.ref 452), some (.int (nI n)), none, none, none, none, none]) ⟨by decide, rfl, (fun h => by cases h)⟩ (Nat.le_of_ble_eq_true rfl) rfl (fun Y Q hQ => ?_)
  have g3 : rR ((mj_cp I 465 1775 (I 464)) 464) A := by rw [cp_ne (by decide)]; exact hR
  have g4 : rR ((mj_cp I 465 1775 (I 464)) 465) A := rR_cong (fun k hk9 => cp_in hk9) hR
  have g1 : mF2 I (mj_cp I 465 1775 (I 464)) := fun a _ h2 => cp_ne h2
  have start : Wq dd_X11_room (mj_mk w l 472 Y) Q 23 [some (.ref 452), some (.int (nI n)), none, none, none, none, none] [] (472, I, J, R) := by
    refine q_aload_n (pc' := 24) dX11_room_23 rfl rfl (q_cVv (pc' := 27) dX11_room_24 rfl ml_RX11_334 yv_X11_putsAside (by decide) (rn_X11_putsAside hM) ⟨by omega, rfl⟩ rfl rfl (Nat.le_of_ble_eq_true rfl) (Nat.le_refl _) ?_)
    generalize mj_cp I 465 1775 (I 464) = I1 at g1 g3 g4 ⊢
    have stop : ∀ I0 o4 o5 o6, mF I1 I0 → Wq dd_X11_room (mj_mk w l 472 Y) Q 130 [some (.ref 452), some (.int (nI n)), some (.int (nI (qRoom b A n))), some (.int (bI false)), o4, o5, o6] [] (472, I0, J, R) := by
      intro I0 o4 o5 o6 hF0
      have r1 : rR ((mj_cp I0 464 1775 (I0 465)) 464) A := rR_cong (fun k hk9 => cp_in hk9) (by rw [hF0 465 (by decide)]; exact g4)
      have r2 : mF2 I (mj_cp I0 464 1775 (I0 465)) := fun a h1 h2 => by rw [cp_ne h1, hF0 a h1]; exact g1 a h1 h2
      exact q_aload_n (pc' := 131) dX11_room_130 rfl rfl (q_cVv (pc' := 134) dX11_room_131 rfl ml_RX11_353 yv_X11_comesBack (by decide) (rn_X11_comesBack hM) ⟨by omega, rfl⟩ rfl rfl (Nat.le_of_ble_eq_true rfl) (Nat.le_refl _) (q_iload_n (pc' := 135) dX11_room_134 rfl rfl (q_iret dX11_room_135 rfl (hQ _ _ _ _ ⟨_, rfl, ⟨rfl, rfl⟩, rfl, r1, r2⟩))))
    have loop : ∀ f many B I0 o4 o5 o6, aFree b B < f → many + aRoom b n f B = qRoom b A n → aOK B → mF I1 I0 → rR (I0 464) B → Wq dd_X11_room (mj_mk w l 472 Y) Q 31 [some (.ref 452), some (.int (nI n)), some (.int (nI many)), some (.int (bI true)), o4, o5, o6] [] (472, I0, J, R) := by
      intro f
      induction f with
      | zero => intro many B I0 o4 o5 o6 hf; omega
      | succ f ih =>
        intro many B I0 o4 o5 o6 hf hs hB hF0 hR0
        have hb0 : mB I0 b := mB_F hF0 (mB_F2 g1 hb)
        have hfr := aFree_l2 (A := B) hk
        have hpr : aProm b B ≤ 80 := by
          have := sumN_le (f := fun d => if B 8 d = 1 then b 2 d else 0) (n := b 0 2) (m := 8) (fun d hd => by have := hk.2.2.2 d hd; split <;> omega)
          have := hk.2.2.1
          unfold aProm; omega
        have nomore : aRm1 b n B = none → ∀ o4, Wq dd_X11_room (mj_mk w l 472 Y) Q 73 [some (.ref 452), some (.int (nI n)), some (.int (nI many)), some (.int (bI true)), o4, o5, o6] [] (472, I0, J, R) := by
          intro he o4
          have e : many = qRoom b A n := by rw [aRoom, he] at hs; exact hs
          rw [e]
          refine q_iconst (pc' := 74) _ dX11_room_73 rfl kk_iconst_0 (q_ist_3 (pc' := 75) dX11_room_74 rfl (by decide) rfl (q_iload_n (pc' := 76) dX11_room_75 rfl rfl (q_if_ne (pc' := 79) (pt := 82) dX11_room_76 rfl rfl (fun h9 => absurd (rfl) h9) (fun _ => (q_goto (pc' := 31) dX11_room_79 rfl ?_)))))
          refine q_iload_n (pc' := 32) dX11_room_31 rfl rfl (q_if_eq (pc' := 35) (pt := 130) dX11_room_32 rfl rfl (fun _ => ?_) (fun h9 => absurd (rfl) h9))
          exact stop I0 _ _ _ hF0
        refine q_iload_n (pc' := 32) dX11_room_31 rfl rfl (q_ifb_eq (pc' := 35) (pt := 130) dX11_room_32 rfl rfl (fun h9 => Bool.noConfusion (Eq.trans (Eq.symm (rfl)) h9)) (fun _ => (q_aload_n (pc' := 36) dX11_room_35 rfl rfl (q_iload_n (pc' := 37) dX11_room_36 rfl rfl (q_iconst (pc' := 38) _ dX11_room_37 rfl kk_iconst_1 (q_aload_n (pc' := 39) dX11_room_38 rfl rfl (q_getIe (pc' := 42) dX11_room_39 rfl fr_RX11_240 ⟨by omega, rfl⟩ rfl (mB_0 hb0) ?_)))))))
        refine q_ishl (pc' := 43) dX11_room_42 rfl ?_
        refine q_top (sh1 (by omega)) ?_
        refine q_iconst (pc' := 44) _ dX11_room_43 rfl kk_iconst_1 (q_isub (pc' := 45) dX11_room_44 rfl ?_)
        refine q_top (nI_sb hpp) ?_
        refine q_cVi (pc' := 48) dX11_room_45 rfl ml_RX11_317 yv_X11_dealt (by decide) (rn_X11_dealt hM hb0 hk hR0 hB hn8 (by omega)) ⟨by omega, rfl⟩ rfl rfl (Nat.le_of_ble_eq_true rfl) (Nat.le_refl _) ?_
        cases hd : aDealt b B n (2 ^ b 0 0 - 1) with
        | none =>
          refine q_ist_4 (pc' := 50) dX11_room_48 rfl (by decide) rfl (q_iload (pc' := 52) dX11_room_50 rfl rfl (q_iconst (pc' := 53) _ dX11_room_52 rfl kk_iconst_m1 (q_icmp_eq (pc' := 56) (pt := 73) dX11_room_53 rfl rfl (fun _ => ?_) (fun h9 => absurd (rfl) h9))))
          exact nomore (by unfold aRm1; rw [hd]) _
        | some p =>
          obtain ⟨hp, hon, i, hi⟩ := dealt_some hd
          have hbl := aBlk_lt hn8.1 hi
          refine q_ist_4 (pc' := 50) dX11_room_48 rfl (by decide) rfl (q_iload (pc' := 52) dX11_room_50 rfl rfl (q_iconst (pc' := 53) _ dX11_room_52 rfl kk_iconst_m1 (q_icmp_eq (pc' := 56) (pt := 73) dX11_room_53 rfl rfl (fun h9 => absurd h9 (nI_m1 (by omega))) (fun _ => (q_aload_n (pc' := 57) dX11_room_56 rfl rfl (q_cVi (pc' := 60) dX11_room_57 rfl ml_RX11_347 yv_X11_freeOnline (by decide) (rn_X11_freeOnline hM hb0 hk hR0 hB) ⟨by omega, rfl⟩ rfl rfl (Nat.le_of_ble_eq_true rfl) (Nat.le_refl _) (q_iload_n (pc' := 61) dX11_room_60 rfl rfl (q_isub (pc' := 62) dX11_room_61 rfl (q_aload_n (pc' := 63) dX11_room_62 rfl rfl (q_cVi (pc' := 66) dX11_room_63 rfl ml_RX11_350 yv_X11_promised (by decide) (rn_X11_promised hM hb0 hk hR0 hB) ⟨by omega, rfl⟩ rfl rfl (Nat.le_of_ble_eq_true rfl) (Nat.le_refl _) ?_))))))))))
          by_cases hroom : aProm b B + n ≤ aFree b B
          · have he : aRm1 b n B = some (aMark B (32 * p + n * i) n) := by unfold aRm1; rw [hd]; dsimp only; rw [if_pos hroom, hi]; rfl
            have hls := aRm_less hn8.1 he
            rw [nI_sb (show n ≤ aFree b B by omega)]
            refine q_icmp_lt (pc' := 69) (pt := 73) dX11_room_66 rfl rfl (fun h9 => absurd h9 (Int32.not_lt.mpr (nI_le (by omega) (by omega)))) (fun _ => (q_iconst (pc' := 70) _ dX11_room_69 rfl kk_iconst_1 (q_goto (pc' := 74) dX11_room_70 rfl (q_ist_3 (pc' := 75) dX11_room_74 rfl (by decide) rfl (q_iload_n (pc' := 76) dX11_room_75 rfl rfl (q_if_ne (pc' := 79) (pt := 82) dX11_room_76 rfl rfl (fun _ => (q_aload_n (pc' := 83) dX11_room_82 rfl rfl (q_iload (pc' := 85) dX11_room_83 rfl rfl (q_iload_n (pc' := 86) dX11_room_85 rfl rfl (q_cVi (pc' := 89) dX11_room_86 rfl ml_RX11_298 yv_X11_blockOf (by decide) (rn_X11_blockOf hM hb0 hk hR0 hB (by omega) hn8) ⟨by omega, rfl⟩ rfl rfl (Nat.le_of_ble_eq_true rfl) (Nat.le_refl _) ?_))))) (fun h9 => absurd h9 (by decide))))))))
            refine q_top (y := nI (n * i)) (by rw [hi]; rfl) ?_
            refine q_ist_5 (pc' := 91) dX11_room_89 rfl (by decide) rfl (q_iconst (pc' := 92) _ dX11_room_91 rfl kk_iconst_0 (q_ist_6 (pc' := 94) dX11_room_92 rfl (by decide) rfl ?_))
            have inner : ∀ m k I2, k + m = n → mF I1 I2 → rR (I2 464) (aMark B (32 * p + n * i) k) → Wq dd_X11_room (mj_mk w l 472 Y) Q 94 [some (.ref 452), some (.int (nI n)), some (.int (nI many)), some (.int (bI true)), some (.int (nI p)), some (.int (nI (n * i))), some (.int (nI k))] [] (472, I2, J, R) := by
              intro m
              induction m with
              | zero =>
                intro k I2 hkm hF2 hR2
                have hkz : k = n := by omega
                subst hkz
                refine q_iload (pc' := 96) dX11_room_94 rfl rfl (q_iload_n (pc' := 97) dX11_room_96 rfl rfl (q_icmp_ge (pc' := 100) (pt := 124) dX11_room_97 rfl rfl (fun _ => ?_) (fun h9 => absurd (by (first | assumption | exact nI_le (by omega) (by omega) | exact nI_ge (by omega) (by omega) | exact nI_lt (by omega) (by omega) | exact nI_nlt (by omega) (by omega) | exact nI_ne (by omega) (by omega) (by omega) | exact nI_e (by omega) | decide)) h9)))
                refine q_inc_2 (pc' := 127) dX11_room_124 rfl (by decide) rfl (q_goto (pc' := 31) dX11_room_127 rfl ?_)
                refine ih (many + 1) _ I2 _ _ _ (by omega) ?_ (aOK_mark hB) hF2 hR2
                rw [aRoom, he] at hs
                dsimp only at hs
                omega
              | succ m ih2 =>
                intro k I2 hkm hF2 hR2
                refine q_iload (pc' := 96) dX11_room_94 rfl rfl (q_iload_n (pc' := 97) dX11_room_96 rfl rfl (q_icmp_ge (pc' := 100) (pt := 124) dX11_room_97 rfl rfl (fun h9 => absurd h9 (by (first | assumption | exact nI_le (by omega) (by omega) | exact nI_ge (by omega) (by omega) | exact nI_lt (by omega) (by omega) | exact nI_nlt (by omega) (by omega) | exact nI_ne (by omega) (by omega) (by omega) | exact nI_e (by omega) | decide))) (fun _ => (q_aload_n (pc' := 101) dX11_room_100 rfl rfl (q_getR (pc' := 104) dX11_room_101 rfl fr_RX11_51 ⟨by omega, rfl⟩ rfl (wM_36 hM) (by decide) (q_iconst (pc' := 105) _ dX11_room_104 rfl kk_iconst_0 (q_iload (pc' := 107) dX11_room_105 rfl rfl (q_iload (pc' := 109) dX11_room_107 rfl rfl (q_iload (pc' := 111) dX11_room_109 rfl rfl (q_iadd (pc' := 112) dX11_room_111 rfl (q_cSi (pc' := 115) dX11_room_112 rfl ml_RX11_286 ys_X11_spot (by decide) (rn_X11_spot) rfl rfl (Nat.le_of_ble_eq_true rfl) (Nat.le_refl _) (q_iadd (pc' := 116) dX11_room_115 rfl (q_iconst (pc' := 117) _ dX11_room_116 rfl kk_iconst_2 (q_iast (pc' := 118) (32 * p + (n * i + k)) dX11_room_117 rfl (by first | exact ⟨by omega, rfl⟩ | exact okaS hi hz (by decide) rfl | assumption) (by (first | (simp only [nI_add, pk_mul]; done) | (simp only [nI_add, pk_mul]; exact nI_e (by omega)) | exact nI_e (by omega))) (by omega) ?_))))))))))))))
                have h9 := rR_vs2 (p := 32 * p + (n * i + k)) (x := 2) hR2 (by omega)
                rw [show 32 * p + (n * i + k) = 32 * p + n * i + k by omega, mark_s] at h9
                refine q_inc_6 (pc' := 121) dX11_room_118 rfl (by decide) rfl (q_goto (pc' := 94) dX11_room_121 rfl ?_)
                refine ih2 (k + 1) _ (by omega) (hF2.tr mF_up) ?_
                rw [show 32 * p + (n * i + k) = 32 * p + n * i + k by omega]
                exact h9
            exact inner n 0 I0 (by omega) hF0 (by rw [mark_0]; exact hR0)
          · have hlt : nI (aFree b B) - nI n < nI (aProm b B) := by
              rw [Int32.lt_iff_toInt_lt, pk_sub_toInt (by omega) (by omega), nI_toInt (by omega)]
              omega
            refine q_icmp_lt (pc' := 69) (pt := 73) dX11_room_66 rfl rfl (fun _ => ?_) (fun h9 => absurd (hlt) h9)
            exact nomore (by unfold aRm1; rw [hd]; dsimp only; rw [if_neg hroom]) _
    refine q_iconst (pc' := 28) _ dX11_room_27 rfl kk_iconst_0 (q_ist_2 (pc' := 29) dX11_room_28 rfl (by decide) rfl (q_iconst (pc' := 30) _ dX11_room_29 rfl kk_iconst_1 (q_ist_3 (pc' := 31) dX11_room_30 rfl (by decide) rfl ?_)))
    exact loop 257 0 A I1 _ _ _ (by have := aFree_l2 (A := A) hk; omega) (Nat.zero_add _) hA mF.rf g3
  rcases hn with rfl | rfl | rfl | rfl
  · refine q_iload_n (pc' := 1) dX11_room_0 rfl rfl (q_iconst (pc' := 2) _ dX11_room_1 rfl kk_iconst_1 (q_icmp_eq (pc' := 5) (pt := 23) dX11_room_2 rfl rfl (fun _ => ?_) (fun h9 => absurd (rfl) h9)))
    exact start
  · refine q_iload_n (pc' := 1) dX11_room_0 rfl rfl (q_iconst (pc' := 2) _ dX11_room_1 rfl kk_iconst_1 (q_icmp_eq (pc' := 5) (pt := 23) dX11_room_2 rfl rfl (fun h9 => absurd h9 (by decide)) (fun _ => (q_iload_n (pc' := 6) dX11_room_5 rfl rfl (q_iconst (pc' := 7) _ dX11_room_6 rfl kk_iconst_2 (q_icmp_eq (pc' := 10) (pt := 23) dX11_room_7 rfl rfl (fun _ => ?_) (fun h9 => absurd (rfl) h9)))))))
    exact start
  · refine q_iload_n (pc' := 1) dX11_room_0 rfl rfl (q_iconst (pc' := 2) _ dX11_room_1 rfl kk_iconst_1 (q_icmp_eq (pc' := 5) (pt := 23) dX11_room_2 rfl rfl (fun h9 => absurd h9 (by decide)) (fun _ => (q_iload_n (pc' := 6) dX11_room_5 rfl rfl (q_iconst (pc' := 7) _ dX11_room_6 rfl kk_iconst_2 (q_icmp_eq (pc' := 10) (pt := 23) dX11_room_7 rfl rfl (fun h9 => absurd h9 (by decide)) (fun _ => (q_iload_n (pc' := 11) dX11_room_10 rfl rfl (q_iconst (pc' := 12) _ dX11_room_11 rfl kk_iconst_4 (q_icmp_eq (pc' := 15) (pt := 23) dX11_room_12 rfl rfl (fun _ => ?_) (fun h9 => absurd (rfl) h9)))))))))))
    exact start
  · refine q_iload_n (pc' := 1) dX11_room_0 rfl rfl (q_iconst (pc' := 2) _ dX11_room_1 rfl kk_iconst_1 (q_icmp_eq (pc' := 5) (pt := 23) dX11_room_2 rfl rfl (fun h9 => absurd h9 (by decide)) (fun _ => (q_iload_n (pc' := 6) dX11_room_5 rfl rfl (q_iconst (pc' := 7) _ dX11_room_6 rfl kk_iconst_2 (q_icmp_eq (pc' := 10) (pt := 23) dX11_room_7 rfl rfl (fun h9 => absurd h9 (by decide)) (fun _ => (q_iload_n (pc' := 11) dX11_room_10 rfl rfl (q_iconst (pc' := 12) _ dX11_room_11 rfl kk_iconst_4 (q_icmp_eq (pc' := 15) (pt := 23) dX11_room_12 rfl rfl (fun h9 => absurd h9 (by decide)) (fun _ => (q_iload_n (pc' := 16) dX11_room_15 rfl rfl (q_bipush (pc' := 18) _ dX11_room_16 rfl kk_bipush_8 (q_icmp_eq (pc' := 21) (pt := 23) dX11_room_18 rfl rfl (fun _ => ?_) (fun h9 => absurd (rfl) h9)))))))))))))))
    exact start
end M24
