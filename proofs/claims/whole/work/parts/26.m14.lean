/-! ===== the reference: UNPLUG, PLUG ===== -/
def aAt (A : St) (id p : Nat) : Bool := (A 3 id != 0) && ((A 3 id - 1) / 32 == p)
def aClD (b A : St) (d p : Nat) : Option St :=
  if aAt (itN (fun k A => aOldL b A (8 * d + k) p) (b 2 d) A) (8 * d) p = true then aBro b (itN (fun k A => aOldL b A (8 * d + k) p) (b 2 d) A) d p else some (itN (fun k A => aOldL b A (8 * d + k) p) (b 2 d) A)
def aQ1 (b : St) (d p : Nat) : Nat → St → St := fun q A => if aAt (aOldL b A (8 * d + q) p) (8 * d + q) p = true then aQLv b (aOldL b A (8 * d + q) p) d q p else aOldL b A (8 * d + q) p
def aClear (b A : St) (d p : Nat) : Option St := if b 1 d = 3 then some (itN (aQ1 b d p) (b 2 d) A) else aClD b A d p
/-- what must be known, and stay, while a CPU is left -/
def uCl (b : St) (p : Nat) (U : St → Prop) : Prop := (∀ B, U B → aOK B) ∧ (∀ B d k, U B → d < b 0 2 → B 7 d = 1 → k < b 2 d → B 4 (8 * d + k) ≠ 0 → B 3 (8 * d + k) ≠ 0) ∧ (∀ B d, U B → d < b 0 2 → B 7 d = 1 → b 1 d ≠ 3 → ∀ j, j < b 2 d → B 3 (8 * d + j) ≠ 0)
  ∧ (∀ B d q, U B → d < b 0 2 → B 7 d = 1 → b 1 d = 3 → q < b 2 d → aAt B (8 * d + q) p = true → aQOK b B d q p) ∧ (∀ B d k, U B → d < b 0 2 → B 7 d = 1 → k < b 2 d → U (aOldL b B (8 * d + k) p))
  ∧ (∀ B d q, U B → d < b 0 2 → B 7 d = 1 → b 1 d = 3 → q < b 2 d → aAt B (8 * d + q) p = true → U (aQLv b B d q p)) ∧ (∀ B d B', U B → d < b 0 2 → B 7 d = 1 → b 1 d ≠ 3 → aAt B (8 * d) p = true → aBro b B d p = some B' → U B')
theorem up_f {A : St} {f j x g : Nat} (h : g ≠ f) : mj_up A f j x g = A g := by funext k; exact mj_up_ne h
theorem pends_7 {A : St} {d p : Nat} : aPends A d p 7 = A 7 := by unfold aPends; split <;> rfl
theorem leaves_7 {b A : St} {id p : Nat} : aLeaves b A id p 7 = A 7 := rfl
theorem oldL_7 {b A : St} {id p : Nat} : aOldL b A id p 7 = A 7 := by
  unfold aOldL
  split
  · split
    · rw [pends_7]; rfl
    · rfl
  · rfl
theorem qend_7 {A : St} {d id to was : Nat} : aQend A d id to was 7 = A 7 := by
  unfold aQend
  split
  · rw [pends_7]; rfl
  · rfl
theorem qlv_7 {b A : St} {d q p : Nat} : aQLv b A d q p 7 = A 7 := by
  unfold aQLv
  cases aLeast b (aLeaves b A (8 * d + q) (aPl A (8 * d + q) p)) (aSpread b d q) with
  | none => rfl
  | some to =>
    dsimp only
    split
    · rw [qend_7]; rfl
    · rw [qend_7]; rfl
theorem q1_7 {b A : St} {d p q : Nat} : aQ1 b d p q A 7 = A 7 := by
  unfold aQ1
  split
  · rw [qlv_7, oldL_7]
  · rw [oldL_7]
theorem itN_f {f : Nat → St → St} {g : Nat} (h : ∀ k B, f k B g = B g) {A : St} : ∀ n, itN f n A g = A g
  | 0 => rfl
  | n + 1 => (h n _).trans (itN_f h n)
theorem br1_7 {b A : St} {d p to k : Nat} : aBr1 b d p to k A 7 = A 7 := rfl
theorem bro_7 {b A A' : St} {d p : Nat} (h : aBro b A d p = some A') : A' 7 = A 7 := by
  unfold aBro at h
  cases hz : aBrTo b A d with
  | none => rw [hz] at h; cases h
  | some to => rw [hz, Option.map_some] at h; cases h; exact itN_f (fun k B => br1_7) _
theorem clear_7 {b A A' : St} {d p : Nat} (h : aClear b A d p = some A') : A' 7 = A 7 := by
  unfold aClear at h
  split at h
  · cases h; exact itN_f (fun k B => q1_7) _
  · unfold aClD at h
    split at h
    · rw [bro_7 h]; exact itN_f (fun k B => oldL_7) _
    · cases h; exact itN_f (fun k B => oldL_7) _
section M14
variable {w : mj_Wd} {l : Launch} {I : mj_M} {J : mj_J} {R : mj_R} {b A : St}
theorem aAt_e {A : St} {id p : Nat} (hx : A 3 id ≤ 256) (hp : p < 8) : (eC (A 3 id) = nI p) ↔ aAt A id p = true := by
  rw [eC_eq hx hp]
  unfold aAt
  rw [Bool.and_eq_true, bne_iff_ne, beq_iff_eq]
theorem u_old {U : St → Prop} {d p : Nat} (hU : uCl b p U) (hd : d < b 0 2) (hA : U A) (hs : A 7 d = 1) : ∀ k, k ≤ b 2 d → U (itN (fun k A => aOldL b A (8 * d + k) p) k A) ∧ (itN (fun k A => aOldL b A (8 * d + k) p) k A) 7 d = 1 :=
  itN_P (P := fun B => U B ∧ B 7 d = 1) (n := b 2 d) ⟨hA, hs⟩ (fun k B hk hB => ⟨hU.2.2.2.2.1 B d k hB.1 hd hB.2 hk, by rw [oldL_7]; exact hB.2⟩)
theorem u_q1 {U : St → Prop} {d p : Nat} (hU : uCl b p U) (hd : d < b 0 2) (h3 : b 1 d = 3) (hA : U A) (hs : A 7 d = 1) : ∀ k, k ≤ b 2 d → U (itN (aQ1 b d p) k A) ∧ (itN (aQ1 b d p) k A) 7 d = 1 :=
  itN_P (P := fun B => U B ∧ B 7 d = 1) (n := b 2 d) ⟨hA, hs⟩ (fun k B hk hB => by
    have h1 := hU.2.2.2.2.1 B d k hB.1 hd hB.2 hk
    have h2 : aOldL b B (8 * d + k) p 7 d = 1 := by rw [oldL_7]; exact hB.2
    refine ⟨?_, by rw [q1_7]; exact hB.2⟩
    unfold aQ1
    split
    · exact hU.2.2.2.2.2.1 _ d k h1 hd h2 h3 hk (by assumption)
    · exact h1)
theorem u_clear {U : St → Prop} {d p : Nat} {A' : St} (hU : uCl b p U) (hd : d < b 0 2) (hA : U A) (hs : A 7 d = 1) (h : aClear b A d p = some A') : U A' := by
  unfold aClear at h
  split at h
  · cases h; exact (u_q1 hU hd (by assumption) hA hs (b 2 d) (Nat.le_refl _)).1
  · rename_i h3
    have h1 := u_old hU hd hA hs (b 2 d) (Nat.le_refl _)
    unfold aClD at h
    split at h
    · exact hU.2.2.2.2.2.2 _ d A' h1.1 hd h1.2 h3 (by assumption) h
    · cases h; exact h1.1
theorem rs_X11_isCleared {U : St → Prop} {d p : Nat} (hM : mj_wM R) (hb : mB I b) (hk : bOK b) (hR : rR (I 464) A) (hU : uCl b p U) (hA : U A) (hs : A 7 d = 1) (hd : d < b 0 2) (hp : p < 8) : RsI w l yX11_isCleared dd_X11_isCleared [.ref 452, .int (nI d), .int (nI p)] (472, I, J, R) (fun x I' => (aClear b A d p = none → x = bI false) ∧ (∀ A', aClear b A d p = some A' → x = bI true ∧ rR (I' 464) A') ∧ mF I I') := by
  have h10 : d < 10 := by have := hk.2.2.1; omega
  have hbs := hk.2.2.2 d hd
  have hbd := hb.2.2.2 d hd
  refine rt_intro2 (L := [some (.ref 452), some (.int (nI d)), some (.int (nI p)), none]) ⟨by decide, rfl, (fun h => by cases h)⟩ (Nat.le_of_ble_eq_true rfl) rfl (fun Y Q hQ => ?_)
  unfold aClear at hQ
  by_cases h3 : b 1 d = 3
  · rw [if_pos h3] at hQ
    have loop : ∀ m k I0, k + m = b 2 d → mF I I0 → rR (I0 464) (itN (aQ1 b d p) k A) → Wq dd_X11_isCleared (mj_mk w l 472 Y) Q 70 [some (.ref 452), some (.int (nI d)), some (.int (nI p)), some (.int (nI k))] [] (472, I0, J, R) := by
      intro m
      induction m with
      | zero =>
        intro k I0 hkm hF0 hR0
        have hkz : k = b 2 d := by omega
        subst hkz
        exact q_iload_n (pc' := 71) dX11_isCleared_70 rfl rfl (q_aload_n (pc' := 72) dX11_isCleared_71 rfl rfl (q_getR (pc' := 75) dX11_isCleared_72 rfl fr_RX11_32 ⟨by omega, rfl⟩ rfl (wM_30 hM) (by decide) (q_iload_n (pc' := 76) dX11_isCleared_75 rfl rfl (q_ialde (pc' := 77) _ dX11_isCleared_76 rfl (by first | exact ⟨by omega, rfl⟩ | exact okaS hi hz (by decide) rfl | assumption) rfl (by omega) ((congrFun (hF0 458 (by decide)) d).trans hbd.2.1) (q_icmp_ge (pc' := 80) (pt := 118) dX11_isCleared_77 rfl rfl (fun _ => (q_iconst (pc' := 119) _ dX11_isCleared_118 rfl kk_iconst_1 (q_zret dX11_isCleared_119 rfl (by first | exact Or.inl rfl | exact Or.inr rfl | exact bI_01 _) (hQ _ _ _ _ ⟨_, rfl, ⟨rfl, rfl⟩, fun h => (by cases h), fun A' h => (by cases h; exact ⟨rfl, hR0⟩), hF0⟩)))) (fun h9 => absurd (by (first | assumption | exact nI_le (by omega) (by omega) | exact nI_ge (by omega) (by omega) | exact nI_lt (by omega) (by omega) | exact nI_nlt (by omega) (by omega) | exact nI_ne (by omega) (by omega) (by omega) | exact nI_e (by omega) | decide)) h9))))))
      | succ m ih =>
        intro k I0 hkm hF0 hR0
        have hb0 := mB_F hF0 hb
        have hu := u_q1 hU hd h3 hA hs k (by omega)
        have ih2 := ih (k + 1)
        have hstep : itN (aQ1 b d p) (k + 1) A = aQ1 b d p k (itN (aQ1 b d p) k A) := rfl
        rw [hstep] at ih2
        generalize itN (aQ1 b d p) k A = Ak at hR0 hu ih2 ⊢
        have hok := hU.1 Ak hu.1
        have hu1 := hU.2.2.2.2.1 Ak d k hu.1 hd hu.2 (by omega)
        have hs1 : aOldL b Ak (8 * d + k) p 7 d = 1 := by rw [oldL_7]; exact hu.2
        refine q_iload_n (pc' := 71) dX11_isCleared_70 rfl rfl (q_aload_n (pc' := 72) dX11_isCleared_71 rfl rfl (q_getR (pc' := 75) dX11_isCleared_72 rfl fr_RX11_32 ⟨by omega, rfl⟩ rfl (wM_30 hM) (by decide) (q_iload_n (pc' := 76) dX11_isCleared_75 rfl rfl (q_ialde (pc' := 77) _ dX11_isCleared_76 rfl (by first | exact ⟨by omega, rfl⟩ | exact okaS hi hz (by decide) rfl | assumption) rfl (by omega) ((congrFun (hF0 458 (by decide)) d).trans hbd.2.1) (q_icmp_ge (pc' := 80) (pt := 118) dX11_isCleared_77 rfl rfl (fun h9 => absurd h9 (by (first | assumption | exact nI_le (by omega) (by omega) | exact nI_ge (by omega) (by omega) | exact nI_lt (by omega) (by omega) | exact nI_nlt (by omega) (by omega) | exact nI_ne (by omega) (by omega) (by omega) | exact nI_e (by omega) | decide))) (fun _ => (q_aload_n (pc' := 81) dX11_isCleared_80 rfl rfl (q_iload_n (pc' := 82) dX11_isCleared_81 rfl rfl (q_iload_n (pc' := 83) dX11_isCleared_82 rfl rfl (q_iload_n (pc' := 84) dX11_isCleared_83 rfl rfl (q_sVv (pc' := 87) dX11_isCleared_84 rfl ml_RX11_387 yv_X11_oldLeaves (by decide) (rs_X11_oldLeaves hM hb0 hk hR0 hok hd (by omega) hp (hU.2.1 Ak d k hu.1 hd hu.2 (by omega))) ⟨by omega, rfl⟩ rfl rfl (Nat.le_of_ble_eq_true rfl) (Nat.le_refl _) (fun I4 ⟨hF4, hR4⟩ => ?_))))))))))))
        unfold aQ1 at ih2
        generalize aOldL b Ak (8 * d + k) p = A1 at hR4 hu1 hs1 ih2
        have hok1 := hU.1 A1 hu1
        have h6 := hok1.2.1 (8 * d + k) (by omega)
        have e1 : I4 464 (1024 + (8 * d + k)) = eC (A1 3 (8 * d + k)) := (hR4 _ (by omega)).trans (cE_hc (by omega))
        refine q_aload_n (pc' := 88) dX11_isCleared_87 rfl rfl (q_getR (pc' := 91) dX11_isCleared_88 rfl fr_RX11_51 ⟨by omega, rfl⟩ rfl (wM_36 hM) (by decide) (q_sipush (pc' := 94) _ dX11_isCleared_91 rfl kk_sipush_1024 (q_iload_n (pc' := 95) dX11_isCleared_94 rfl rfl (q_iload_n (pc' := 96) dX11_isCleared_95 rfl rfl (q_cSi (pc' := 99) dX11_isCleared_96 rfl ml_RX11_308 ys_X11_lineAt (by decide) (rn_X11_lineAt) rfl rfl (Nat.le_of_ble_eq_true rfl) (Nat.le_refl _) (q_iadd (pc' := 100) dX11_isCleared_99 rfl (q_ialde (pc' := 101) (1024 + (8 * d + k)) dX11_isCleared_100 rfl (by first | exact ⟨by omega, rfl⟩ | exact okaS hi hz (by decide) rfl | assumption) (by (first | (simp only [nI_add, pk_mul]; done) | (simp only [nI_add, pk_mul]; exact nI_e (by omega)) | exact nI_e (by omega))) (by omega) e1 (q_iload_n (pc' := 102) dX11_isCleared_101 rfl rfl (q_icmp_ne (pc' := 105) (pt := 112) dX11_isCleared_102 rfl rfl (fun h5 => ?_) (fun h5 => ?_))))))))))
        · rw [if_neg (fun z => h5 ((aAt_e h6.1 hp).mpr z))] at ih2
          refine q_inc_3 (pc' := 115) dX11_isCleared_112 rfl (by decide) rfl (q_goto (pc' := 70) dX11_isCleared_115 rfl ?_)
          exact ih2 I4 (by omega) (hF0.tr hF4) hR4
        · have h7 := (aAt_e h6.1 hp).mp h5
          rw [if_pos h7] at ih2
          have hb4 := mB_F hF4 hb0
          have h8 : A1 3 (8 * d + k) ≠ 0 := ((eC_eq h6.1 hp).mp h5).1
          refine q_aload_n (pc' := 106) dX11_isCleared_105 rfl rfl (q_iload_n (pc' := 107) dX11_isCleared_106 rfl rfl (q_iload_n (pc' := 108) dX11_isCleared_107 rfl rfl (q_iload_n (pc' := 109) dX11_isCleared_108 rfl rfl (q_sVv (pc' := 112) dX11_isCleared_109 rfl ml_RX11_394 yv_X11_queueLeaves (by decide) (rs_X11_queueLeaves hM hb4 hk hR4 hok1 hd (by omega) hp h8 (hU.2.2.2.1 A1 d k hu1 hd hs1 h3 (by omega) h7)) ⟨by omega, rfl⟩ rfl rfl (Nat.le_of_ble_eq_true rfl) (Nat.le_refl _) (fun I5 ⟨hF5, hR5⟩ => ?_)))))
          refine q_inc_3 (pc' := 115) dX11_isCleared_112 rfl (by decide) rfl (q_goto (pc' := 70) dX11_isCleared_115 rfl ?_)
          exact ih2 I5 (by omega) ((hF0.tr hF4).tr hF5) hR5
    refine q_aload_n (pc' := 1) dX11_isCleared_0 rfl rfl (q_getR (pc' := 4) dX11_isCleared_1 rfl fr_RX11_29 ⟨by omega, rfl⟩ rfl (wM_29 hM) (by decide) (q_iload_n (pc' := 5) dX11_isCleared_4 rfl rfl (q_ialde (pc' := 6) _ dX11_isCleared_5 rfl (by first | exact ⟨by omega, rfl⟩ | exact okaS hi hz (by decide) rfl | assumption) rfl (by omega) hbd.1 (q_iconst (pc' := 7) _ dX11_isCleared_6 rfl kk_iconst_3 (q_icmp_eq (pc' := 10) (pt := 68) dX11_isCleared_7 rfl rfl (fun _ => (q_iconst (pc' := 69) _ dX11_isCleared_68 rfl kk_iconst_0 (q_ist_3 (pc' := 70) dX11_isCleared_69 rfl (by decide) rfl ?_))) (fun h9 => absurd (nI_e h3) h9))))))
    exact loop (b 2 d) 0 I (by omega) mF.rf hR
  · rw [if_neg h3] at hQ
    unfold aClD at hQ
    have loop : ∀ m k I0, k + m = b 2 d → mF I I0 → rR (I0 464) (itN (fun k A => aOldL b A (8 * d + k) p) k A) → Wq dd_X11_isCleared (mj_mk w l 472 Y) Q 12 [some (.ref 452), some (.int (nI d)), some (.int (nI p)), some (.int (nI k))] [] (472, I0, J, R) := by
      intro m
      induction m with
      | zero =>
        intro k I0 hkm hF0 hR0
        have hkz : k = b 2 d := by omega
        subst hkz
        have hb0 := mB_F hF0 hb
        have hu := u_old hU hd hA hs (b 2 d) (Nat.le_refl _)
        generalize itN (fun k A => aOldL b A (8 * d + k) p) (b 2 d) A = A1 at hR0 hu hQ
        have hok1 := hU.1 A1 hu.1
        have h6 := hok1.2.1 (8 * d) (by omega)
        have e1 : I0 464 (1024 + 8 * d) = eC (A1 3 (8 * d)) := (hR0 _ (by omega)).trans (cE_hc (by omega))
        refine q_iload_n (pc' := 13) dX11_isCleared_12 rfl rfl (q_aload_n (pc' := 14) dX11_isCleared_13 rfl rfl (q_getR (pc' := 17) dX11_isCleared_14 rfl fr_RX11_32 ⟨by omega, rfl⟩ rfl (wM_30 hM) (by decide) (q_iload_n (pc' := 18) dX11_isCleared_17 rfl rfl (q_ialde (pc' := 19) _ dX11_isCleared_18 rfl (by first | exact ⟨by omega, rfl⟩ | exact okaS hi hz (by decide) rfl | assumption) rfl (by omega) ((congrFun (hF0 458 (by decide)) d).trans hbd.2.1) (q_icmp_ge (pc' := 22) (pt := 35) dX11_isCleared_19 rfl rfl (fun _ => (q_aload_n (pc' := 36) dX11_isCleared_35 rfl rfl (q_getR (pc' := 39) dX11_isCleared_36 rfl fr_RX11_51 ⟨by omega, rfl⟩ rfl (wM_36 hM) (by decide) (q_sipush (pc' := 42) _ dX11_isCleared_39 rfl kk_sipush_1024 (q_iload_n (pc' := 43) dX11_isCleared_42 rfl rfl (q_iconst (pc' := 44) _ dX11_isCleared_43 rfl kk_iconst_0 (q_cSi (pc' := 47) dX11_isCleared_44 rfl ml_RX11_308 ys_X11_lineAt (by decide) (rn_X11_lineAt) rfl rfl (Nat.le_of_ble_eq_true rfl) (Nat.le_refl _) (q_iadd (pc' := 48) dX11_isCleared_47 rfl (q_ialde (pc' := 49) (1024 + 8 * d) dX11_isCleared_48 rfl (by first | exact ⟨by omega, rfl⟩ | exact okaS hi hz (by decide) rfl | assumption) (by (first | (simp only [nI_add, pk_mul]; done) | (simp only [nI_add, pk_mul]; exact nI_e (by omega)) | exact nI_e (by omega))) (by omega) e1 ?_))))))))) (fun h9 => absurd (by (first | assumption | exact nI_le (by omega) (by omega) | exact nI_ge (by omega) (by omega) | exact nI_lt (by omega) (by omega) | exact nI_nlt (by omega) (by omega) | exact nI_ne (by omega) (by omega) (by omega) | exact nI_e (by omega) | decide)) h9))))))
        refine q_iload_n (pc' := 50) dX11_isCleared_49 rfl rfl (q_icmp_ne (pc' := 53) (pt := 62) dX11_isCleared_50 rfl rfl (fun h5 => ?_) (fun h5 => ?_))
        · rw [if_neg (fun z => h5 ((aAt_e h6.1 hp).mpr z))] at hQ
          exact q_iconst (pc' := 63) _ dX11_isCleared_62 rfl kk_iconst_1 (q_goto (pc' := 67) dX11_isCleared_63 rfl (q_zret dX11_isCleared_67 rfl (by first | exact Or.inl rfl | exact Or.inr rfl | exact bI_01 _) (hQ _ _ _ _ ⟨_, rfl, ⟨rfl, rfl⟩, fun h => (by cases h), fun A' h => (by cases h; exact ⟨rfl, hR0⟩), hF0⟩)))
        · have h7 := (aAt_e h6.1 hp).mp h5
          rw [if_pos h7] at hQ
          refine q_aload_n (pc' := 54) dX11_isCleared_53 rfl rfl (q_iload_n (pc' := 55) dX11_isCleared_54 rfl rfl (q_iload_n (pc' := 56) dX11_isCleared_55 rfl rfl (q_sVi (pc' := 59) dX11_isCleared_56 rfl ml_RX11_391 yv_X11_isBrought (by decide) (rs_X11_isBrought hM hb0 hk hR0 hok1 hd hp (hU.2.2.1 A1 d hu.1 hd hu.2 h3)) ⟨by omega, rfl⟩ rfl rfl (Nat.le_of_ble_eq_true rfl) (Nat.le_refl _) (fun x4 I4 ⟨t1, t2, t3⟩ => ?_))))
          cases hz : aBro b A1 d p with
          | none =>
            rw [t1 hz]
            exact q_ifb_eq (pc' := 62) (pt := 66) dX11_isCleared_59 rfl rfl (fun _ => (q_iconst (pc' := 67) _ dX11_isCleared_66 rfl kk_iconst_0 (q_zret dX11_isCleared_67 rfl (by first | exact Or.inl rfl | exact Or.inr rfl | exact bI_01 _) (hQ _ _ _ _ ⟨_, rfl, ⟨rfl, rfl⟩, fun _ => rfl, fun A' h => (by rw [hz] at h; cases h), hF0.tr t3⟩)))) (fun h9 => by cases h9)
          | some A2 =>
            rw [(t2 A2 hz).1]
            exact q_ifb_eq (pc' := 62) (pt := 66) dX11_isCleared_59 rfl rfl (fun h9 => by cases h9) (fun _ => (q_iconst (pc' := 63) _ dX11_isCleared_62 rfl kk_iconst_1 (q_goto (pc' := 67) dX11_isCleared_63 rfl (q_zret dX11_isCleared_67 rfl (by first | exact Or.inl rfl | exact Or.inr rfl | exact bI_01 _) (hQ _ _ _ _ ⟨_, rfl, ⟨rfl, rfl⟩, fun h => (by rw [hz] at h; cases h), fun A' h => ⟨rfl, (t2 A' h).2⟩, hF0.tr t3⟩)))))
      | succ m ih =>
        intro k I0 hkm hF0 hR0
        have hb0 := mB_F hF0 hb
        have hu := u_old hU hd hA hs k (by omega)
        have ih2 := ih (k + 1)
        have hstep : itN (fun k A => aOldL b A (8 * d + k) p) (k + 1) A = aOldL b (itN (fun k A => aOldL b A (8 * d + k) p) k A) (8 * d + k) p := rfl
        rw [hstep] at ih2
        generalize itN (fun k A => aOldL b A (8 * d + k) p) k A = Ak at hR0 hu ih2 ⊢
        refine q_iload_n (pc' := 13) dX11_isCleared_12 rfl rfl (q_aload_n (pc' := 14) dX11_isCleared_13 rfl rfl (q_getR (pc' := 17) dX11_isCleared_14 rfl fr_RX11_32 ⟨by omega, rfl⟩ rfl (wM_30 hM) (by decide) (q_iload_n (pc' := 18) dX11_isCleared_17 rfl rfl (q_ialde (pc' := 19) _ dX11_isCleared_18 rfl (by first | exact ⟨by omega, rfl⟩ | exact okaS hi hz (by decide) rfl | assumption) rfl (by omega) ((congrFun (hF0 458 (by decide)) d).trans hbd.2.1) (q_icmp_ge (pc' := 22) (pt := 35) dX11_isCleared_19 rfl rfl (fun h9 => absurd h9 (by (first | assumption | exact nI_le (by omega) (by omega) | exact nI_ge (by omega) (by omega) | exact nI_lt (by omega) (by omega) | exact nI_nlt (by omega) (by omega) | exact nI_ne (by omega) (by omega) (by omega) | exact nI_e (by omega) | decide))) (fun _ => (q_aload_n (pc' := 23) dX11_isCleared_22 rfl rfl (q_iload_n (pc' := 24) dX11_isCleared_23 rfl rfl (q_iload_n (pc' := 25) dX11_isCleared_24 rfl rfl (q_iload_n (pc' := 26) dX11_isCleared_25 rfl rfl (q_sVv (pc' := 29) dX11_isCleared_26 rfl ml_RX11_387 yv_X11_oldLeaves (by decide) (rs_X11_oldLeaves hM hb0 hk hR0 (hU.1 Ak hu.1) hd (by omega) hp (hU.2.1 Ak d k hu.1 hd hu.2 (by omega))) ⟨by omega, rfl⟩ rfl rfl (Nat.le_of_ble_eq_true rfl) (Nat.le_refl _) (fun I4 ⟨hF4, hR4⟩ => ?_))))))))))))
        refine q_inc_3 (pc' := 32) dX11_isCleared_29 rfl (by decide) rfl (q_goto (pc' := 12) dX11_isCleared_32 rfl ?_)
        exact ih2 I4 (by omega) (hF0.tr hF4) hR4
    refine q_aload_n (pc' := 1) dX11_isCleared_0 rfl rfl (q_getR (pc' := 4) dX11_isCleared_1 rfl fr_RX11_29 ⟨by omega, rfl⟩ rfl (wM_29 hM) (by decide) (q_iload_n (pc' := 5) dX11_isCleared_4 rfl rfl (q_ialde (pc' := 6) _ dX11_isCleared_5 rfl (by first | exact ⟨by omega, rfl⟩ | exact okaS hi hz (by decide) rfl | assumption) rfl (by omega) hbd.1 (q_iconst (pc' := 7) _ dX11_isCleared_6 rfl kk_iconst_3 (q_icmp_eq (pc' := 10) (pt := 68) dX11_isCleared_7 rfl rfl (fun h9 => absurd h9 (nI_ne h3 (by omega) (by omega))) (fun _ => (q_iconst (pc' := 11) _ dX11_isCleared_10 rfl kk_iconst_0 (q_ist_3 (pc' := 12) dX11_isCleared_11 rfl (by decide) rfl ?_))))))))
    exact loop (b 2 d) 0 I (by omega) mF.rf hR
/-- UNPLUG -/
def aUn1 (b : St) (p : Nat) : Nat → St → Option St := fun d A => if A 7 d = 1 then aClear b A d p else some A
def aUnplug (b A : St) (p : Nat) : Nat × St :=
  if A 9 p ≠ 1 then (4, A) else
  if bitN (fun p => A 9 p == 1) (b 0 0) = 2 ^ p then (5, A) else
  match itO (aUn1 b p) (b 0 2) (mj_up A 9 p 0) with
  | none => (1, A)
  | some A' => if aFree b A' < aProm b A' then (2, A) else (0, A')
theorem u_un1 {U : St → Prop} {p : Nat} (hU : uCl b p U) (hA : U A) : ∀ k B, k ≤ b 0 2 → itO (aUn1 b p) k A = some B → U B :=
  itO_P (n := b 0 2) hA (fun d B C hd hB h => by
    unfold aUn1 at h
    split at h
    · exact u_clear hU hd hB (by assumption) h
    · cases h; exact hB)
theorem rs_X11_unplugs {U : St → Prop} {p : Nat} (hM : mj_wM R) (hb : mB I b) (hk : bOK b) (hR : rR (I 464) A) (hA : aOK A) (hU : uCl b p U) (hA0 : A 9 p = 1 → U (mj_up A 9 p 0)) (hp : p < b 0 0) : RsI w l yX11_unplugs dd_X11_unplugs [.ref 452, .int (nI p)] (472, I, J, R) (fun x I' => x = nI (aUnplug b A p).1 ∧ rR (I' 464) (aUnplug b A p).2 ∧ mF2 I I') := by
  have hc8 := hk.1.2
  have hd10 := hk.2.2.1
  have hpw : 2 ^ p ≤ 2 ^ 7 := Nat.pow_le_pow_right (by decide) (by omega)
  have hbl := bitN_lt (fun p => A 9 p == 1) (b 0 0)
  have hpw2 : 2 ^ b 0 0 ≤ 2 ^ 8 := Nat.pow_le_pow_right (by decide) hc8
  refine rt_intro2 (L := [some (.ref 452), some (.int (nI p)), none, none]) ⟨by decide, rfl, (fun h => by cases h)⟩ (Nat.le_of_ble_eq_true rfl) rfl (fun Y Q hQ => ?_)
  unfold aUnplug at hQ
  refine q_aload_n (pc' := 1) dX11_unplugs_0 rfl rfl (q_iload_n (pc' := 2) dX11_unplugs_1 rfl rfl (q_cVi (pc' := 5) dX11_unplugs_2 rfl ml_RX11_292 yv_X11_isOnline (by decide) (rn_X11_isOnline hM hR hA (by omega)) ⟨by omega, rfl⟩ rfl rfl (Nat.le_of_ble_eq_true rfl) (Nat.le_refl _) (q_ifb_ne (pc' := 8) (pt := 10) dX11_unplugs_5 rfl rfl (fun h1 => ?_) (fun h1 => ?_))))
  · rw [beq_iff_eq] at h1
    rw [if_neg (fun z => z h1)] at hQ
    refine q_aload_n (pc' := 11) dX11_unplugs_10 rfl rfl (q_cVi (pc' := 14) dX11_unplugs_11 rfl ml_RX11_397 yv_X11_online (by decide) (rn_X11_online hM hb hk hR hA) ⟨by omega, rfl⟩ rfl rfl (Nat.le_of_ble_eq_true rfl) (Nat.le_refl _) (q_iconst (pc' := 15) _ dX11_unplugs_14 rfl kk_iconst_1 (q_iload_n (pc' := 16) dX11_unplugs_15 rfl rfl (q_ishl (pc' := 17) dX11_unplugs_16 rfl ?_))))
    refine q_top (sh1 (by omega)) ?_
    refine q_icmp_ne (pc' := 20) (pt := 22) dX11_unplugs_17 rfl rfl (fun h2 => ?_) (fun h2 => ?_)
    · have h3 : ¬ bitN (fun p => A 9 p == 1) (b 0 0) = 2 ^ p := fun z => h2 (nI_e z)
      rw [if_neg h3] at hQ
      refine q_aload_n (pc' := 23) dX11_unplugs_22 rfl rfl (q_cVv (pc' := 26) dX11_unplugs_23 rfl ml_RX11_334 yv_X11_putsAside (by decide) (rn_X11_putsAside hM) ⟨by omega, rfl⟩ rfl rfl (Nat.le_of_ble_eq_true rfl) (Nat.le_refl _) ?_)
      have hF1 : mF2 I (mj_cp I 465 1775 (I 464)) := fun a _ h2 => cp_ne h2
      have hR1 : rR ((mj_cp I 465 1775 (I 464)) 464) A := by rw [cp_ne (by decide)]; exact hR
      have hAs : rR ((mj_cp I 465 1775 (I 464)) 465) A := rR_cong (fun k hk9 => cp_in hk9) hR
      generalize mj_cp I 465 1775 (I 464) = I1 at hF1 hR1 hAs ⊢
      have hb1 := mB_F2 hF1 hb
      refine q_aload_n (pc' := 27) dX11_unplugs_26 rfl rfl (q_getR (pc' := 30) dX11_unplugs_27 rfl fr_RX11_51 ⟨by omega, rfl⟩ rfl (wM_36 hM) (by decide) (q_sipush (pc' := 33) _ dX11_unplugs_30 rfl kk_sipush_1554 (q_iload_n (pc' := 34) dX11_unplugs_33 rfl rfl (q_iadd (pc' := 35) dX11_unplugs_34 rfl (q_iconst (pc' := 36) _ dX11_unplugs_35 rfl kk_iconst_0 (q_iast (pc' := 37) (1554 + p) dX11_unplugs_36 rfl (by first | exact ⟨by omega, rfl⟩ | exact okaS hi hz (by decide) rfl | assumption) (by (first | (simp only [nI_add, pk_mul]; done) | (simp only [nI_add, pk_mul]; exact nI_e (by omega)) | exact nI_e (by omega))) (by omega) (q_iconst (pc' := 38) _ dX11_unplugs_37 rfl kk_iconst_1 (q_ist_2 (pc' := 39) dX11_unplugs_38 rfl (by decide) rfl (q_iconst (pc' := 40) _ dX11_unplugs_39 rfl kk_iconst_0 (q_ist_3 (pc' := 41) dX11_unplugs_40 rfl (by decide) rfl ?_))))))))))
      have hR2 := rR_on (x := 0) hR1 (show p < 8 by omega)
      have hu0 := hA0 h1
      have fin : ∀ (r : Nat) I3 A', r ≤ 2 → mF I1 I3 → (r = 0 → rR (I3 464) A') → (∀ x I', x = nI r ∧ rR (I' 464) (if r = 0 then A' else A) ∧ mF2 I I' → Q (some (.int x)) (472, I', J, R)) → ∀ (o2 o3 : Option Value), (match o2 with | some (.long _) => false | some (.double _) => false | _ => true) = true → Wq dd_X11_unplugs (mj_mk w l 472 Y) Q 98 [some (.ref 452), some (.int (nI p)), o2, o3] [.int (nI r)] (472, I3, J, R) := by
        intro r I3 A' hr hF3 hR3 hQ3 o2 o3 ho2
        have hnl : mj_nl [some (.ref 452), some (.int (nI p)), o2, o3] 3 = true := by
          unfold mj_nl
          show (match some o2 with | some (some (.long _)) => false | some (some (.double _)) => false | _ => true) = true
          cases o2 with
          | none => rfl
          | some v => cases v <;> first | rfl | cases ho2
        refine q_ist_3 (pc' := 99) dX11_unplugs_98 rfl (by decide) hnl ?_
        by_cases h0 : r = 0
        · subst h0
          exact q_iload_n (pc' := 100) dX11_unplugs_99 rfl rfl (q_if_le (pc' := 103) (pt := 107) dX11_unplugs_100 rfl rfl (fun _ => (q_iload_n (pc' := 108) dX11_unplugs_107 rfl rfl (q_iret dX11_unplugs_108 rfl (hQ3 _ _ ⟨rfl, hR3 rfl, hF1.tr hF3.two⟩)))) (fun h9 => absurd (by (first | assumption | exact nI_le (by omega) (by omega) | exact nI_ge (by omega) (by omega) | exact nI_lt (by omega) (by omega) | exact nI_nlt (by omega) (by omega) | exact nI_ne (by omega) (by omega) (by omega) | exact nI_e (by omega) | decide)) h9))
        · rw [if_neg h0] at hQ3
          exact q_iload_n (pc' := 100) dX11_unplugs_99 rfl rfl (q_if_le (pc' := 103) (pt := 107) dX11_unplugs_100 rfl rfl (fun h9 => absurd h9 (nI_nle (by omega) (by omega))) (fun _ => (q_aload_n (pc' := 104) dX11_unplugs_103 rfl rfl (q_cVv (pc' := 107) dX11_unplugs_104 rfl ml_RX11_353 yv_X11_comesBack (by decide) (rn_X11_comesBack hM) ⟨by omega, rfl⟩ rfl rfl (Nat.le_of_ble_eq_true rfl) (Nat.le_refl _) (q_iload_n (pc' := 108) dX11_unplugs_107 rfl rfl (q_iret dX11_unplugs_108 rfl (hQ3 _ _ ⟨rfl, rR_cong (fun k hk9 => (cp_in hk9).trans (congrFun (hF3 465 (by decide)) k)) hAs, fun a h1 h2 => (cp_ne h1).trans ((hF3 a h1).trans (hF1 a h1 h2))⟩)))))))
      have loop : ∀ m k I0 Ak, k + m = b 0 2 → mF I1 I0 → itO (aUn1 b p) k (mj_up A 9 p 0) = some Ak → rR (I0 464) Ak → Wq dd_X11_unplugs (mj_mk w l 472 Y) Q 41 [some (.ref 452), some (.int (nI p)), some (.int (bI true)), some (.int (nI k))] [] (472, I0, J, R) := by
        intro m
        induction m with
        | zero =>
          intro k I0 Ak hkm hF0 hAk hR0
          have hkz : k = b 0 2 := by omega
          subst hkz
          have hb0 := mB_F hF0 hb1
          have hb := hb0
          have hok := hU.1 Ak (u_un1 hU hu0 _ Ak (Nat.le_refl _) hAk)
          rw [hAk] at hQ
          dsimp only at hQ
          have l1 := aFree_le (A := Ak) hk
          have l2 := aProm_le (A := Ak) hk
          refine q_iload_n (pc' := 42) dX11_unplugs_41 rfl rfl (q_aload_n (pc' := 43) dX11_unplugs_42 rfl rfl (q_getIe (pc' := 46) dX11_unplugs_43 rfl fr_RX11_252 ⟨by omega, rfl⟩ rfl (mB_2 hb) (q_icmp_ge (pc' := 49) (pt := 74) dX11_unplugs_46 rfl rfl (fun _ => (q_iload_n (pc' := 75) dX11_unplugs_74 rfl rfl (q_ifb_ne (pc' := 78) (pt := 82) dX11_unplugs_75 rfl rfl (fun _ => (q_aload_n (pc' := 83) dX11_unplugs_82 rfl rfl (q_cVi (pc' := 86) dX11_unplugs_83 rfl ml_RX11_347 yv_X11_freeOnline (by decide) (rn_X11_freeOnline hM hb0 hk hR0 hok) ⟨by omega, rfl⟩ rfl rfl (Nat.le_of_ble_eq_true rfl) (Nat.le_refl _) (q_aload_n (pc' := 87) dX11_unplugs_86 rfl rfl (q_cVi (pc' := 90) dX11_unplugs_87 rfl ml_RX11_350 yv_X11_promised (by decide) (rn_X11_promised hM hb0 hk hR0 hok) ⟨by omega, rfl⟩ rfl rfl (Nat.le_of_ble_eq_true rfl) (Nat.le_refl _) (q_icmp_ge (pc' := 93) (pt := 97) dX11_unplugs_90 rfl rfl (fun h5 => ?_) (fun h5 => ?_))))))) (fun h9 => by cases h9)))) (fun h9 => absurd (by (first | assumption | exact nI_le (by omega) (by omega) | exact nI_ge (by omega) (by omega) | exact nI_lt (by omega) (by omega) | exact nI_nlt (by omega) (by omega) | exact nI_ne (by omega) (by omega) (by omega) | exact nI_e (by omega) | decide)) h9))))
          · have h6 := (nI_leI (by omega) (by omega)).mp h5
            rw [if_neg (by omega)] at hQ
            refine q_iconst (pc' := 98) _ dX11_unplugs_97 rfl kk_iconst_0 ?_
            exact fin 0 I0 Ak (by decide) hF0 (fun _ => hR0) (fun x I' h => hQ _ _ _ _ ⟨_, rfl, ⟨rfl, rfl⟩, h⟩) _ _ rfl
          · have h6 : ¬ aProm b Ak ≤ aFree b Ak := fun z => h5 ((nI_leI (by omega) (by omega)).mpr z)
            rw [if_pos (by omega)] at hQ
            refine q_iconst (pc' := 94) _ dX11_unplugs_93 rfl kk_iconst_2 (q_goto (pc' := 98) dX11_unplugs_94 rfl ?_)
            exact fin 2 I0 Ak (by decide) hF0 (fun z => absurd z (by decide)) (fun x I' h => hQ _ _ _ _ ⟨_, rfl, ⟨rfl, rfl⟩, h⟩) _ _ rfl
        | succ m ih =>
          intro k I0 Ak hkm hF0 hAk hR0
          have hb0 := mB_F hF0 hb1
          have hb := hb0
          have hu := u_un1 hU hu0 k Ak (by omega) hAk
          have hok := hU.1 Ak hu
          have hstep : itO (aUn1 b p) (k + 1) (mj_up A 9 p 0) = aUn1 b p k Ak := by
            show (itO (aUn1 b p) k (mj_up A 9 p 0)).bind _ = _
            rw [hAk]; rfl
          unfold aUn1 at hstep
          refine q_iload_n (pc' := 42) dX11_unplugs_41 rfl rfl (q_aload_n (pc' := 43) dX11_unplugs_42 rfl rfl (q_getIe (pc' := 46) dX11_unplugs_43 rfl fr_RX11_252 ⟨by omega, rfl⟩ rfl (mB_2 hb) (q_icmp_ge (pc' := 49) (pt := 74) dX11_unplugs_46 rfl rfl (fun h9 => absurd h9 (by (first | assumption | exact nI_le (by omega) (by omega) | exact nI_ge (by omega) (by omega) | exact nI_lt (by omega) (by omega) | exact nI_nlt (by omega) (by omega) | exact nI_ne (by omega) (by omega) (by omega) | exact nI_e (by omega) | decide))) (fun _ => (q_iload_n (pc' := 50) dX11_unplugs_49 rfl rfl (q_ifb_eq (pc' := 53) (pt := 74) dX11_unplugs_50 rfl rfl (fun h9 => by cases h9) (fun _ => (q_aload_n (pc' := 54) dX11_unplugs_53 rfl rfl (q_iload_n (pc' := 55) dX11_unplugs_54 rfl rfl (q_cVi (pc' := 58) dX11_unplugs_55 rfl ml_RX11_283 yv_X11_isStarted (by decide) (rn_X11_isStarted hM hR0 hok (by omega)) ⟨by omega, rfl⟩ rfl rfl (Nat.le_of_ble_eq_true rfl) (Nat.le_refl _) (q_ifb_eq (pc' := 61) (pt := 68) dX11_unplugs_58 rfl rfl (fun h5 => ?_) (fun h5 => ?_))))))))))))
          · rw [if_neg (beq_eq_false_iff_ne.mp h5)] at hstep
            refine q_inc_3 (pc' := 71) dX11_unplugs_68 rfl (by decide) rfl (q_goto (pc' := 41) dX11_unplugs_71 rfl ?_)
            exact ih (k + 1) I0 Ak (by omega) hF0 hstep hR0
          · rw [beq_iff_eq] at h5
            rw [if_pos h5] at hstep
            refine q_aload_n (pc' := 62) dX11_unplugs_61 rfl rfl (q_iload_n (pc' := 63) dX11_unplugs_62 rfl rfl (q_iload_n (pc' := 64) dX11_unplugs_63 rfl rfl (q_sVi (pc' := 67) dX11_unplugs_64 rfl ml_RX11_400 yv_X11_isCleared (by decide) (rs_X11_isCleared hM hb0 hk hR0 hU hu h5 (by omega) (by omega)) ⟨by omega, rfl⟩ rfl rfl (Nat.le_of_ble_eq_true rfl) (Nat.le_refl _) (fun x4 I4 ⟨t1, t2, t3⟩ => ?_))))
            cases hz : aClear b Ak k p with
            | none =>
              rw [t1 hz]
              have hno : itO (aUn1 b p) (b 0 2) (mj_up A 9 p 0) = none := itO_none (k := k + 1) (hstep.trans hz) (by omega)
              rw [hno] at hQ
              have ends : ∀ (m2 : Nat), Wq dd_X11_unplugs (mj_mk w l 472 Y) Q 74 [some (.ref 452), some (.int (nI p)), some (.int (bI false)), some (.int (nI m2))] [] (472, I4, J, R) := by
                intro m2
                refine q_iload_n (pc' := 75) dX11_unplugs_74 rfl rfl (q_ifb_ne (pc' := 78) (pt := 82) dX11_unplugs_75 rfl rfl (fun h9 => by cases h9) (fun _ => (q_iconst (pc' := 79) _ dX11_unplugs_78 rfl kk_iconst_1 (q_goto (pc' := 98) dX11_unplugs_79 rfl ?_))))
                exact fin 1 I4 A (by decide) (hF0.tr t3) (fun z => absurd z (by decide)) (fun x I' h => hQ _ _ _ _ ⟨_, rfl, ⟨rfl, rfl⟩, h⟩) _ _ rfl
              have hb := mB_F t3 hb0
              by_cases hlast : k + 1 = b 0 2
              · refine q_ist_2 (pc' := 68) dX11_unplugs_67 rfl (by decide) rfl (q_inc_3 (pc' := 71) dX11_unplugs_68 rfl (by decide) rfl (q_goto (pc' := 41) dX11_unplugs_71 rfl (q_iload_n (pc' := 42) dX11_unplugs_41 rfl rfl (q_aload_n (pc' := 43) dX11_unplugs_42 rfl rfl (q_getIe (pc' := 46) dX11_unplugs_43 rfl fr_RX11_252 ⟨by omega, rfl⟩ rfl (mB_2 hb) (q_icmp_ge (pc' := 49) (pt := 74) dX11_unplugs_46 rfl rfl (fun _ => ?_) (fun h9 => absurd (by (first | assumption | exact nI_le (by omega) (by omega) | exact nI_ge (by omega) (by omega) | exact nI_lt (by omega) (by omega) | exact nI_nlt (by omega) (by omega) | exact nI_ne (by omega) (by omega) (by omega) | exact nI_e (by omega) | decide)) h9)))))))
                exact ends _
              · refine q_ist_2 (pc' := 68) dX11_unplugs_67 rfl (by decide) rfl (q_inc_3 (pc' := 71) dX11_unplugs_68 rfl (by decide) rfl (q_goto (pc' := 41) dX11_unplugs_71 rfl (q_iload_n (pc' := 42) dX11_unplugs_41 rfl rfl (q_aload_n (pc' := 43) dX11_unplugs_42 rfl rfl (q_getIe (pc' := 46) dX11_unplugs_43 rfl fr_RX11_252 ⟨by omega, rfl⟩ rfl (mB_2 hb) (q_icmp_ge (pc' := 49) (pt := 74) dX11_unplugs_46 rfl rfl (fun h9 => absurd h9 (by (first | assumption | exact nI_le (by omega) (by omega) | exact nI_ge (by omega) (by omega) | exact nI_lt (by omega) (by omega) | exact nI_nlt (by omega) (by omega) | exact nI_ne (by omega) (by omega) (by omega) | exact nI_e (by omega) | decide))) (fun _ => (q_iload_n (pc' := 50) dX11_unplugs_49 rfl rfl (q_ifb_eq (pc' := 53) (pt := 74) dX11_unplugs_50 rfl rfl (fun _ => ?_) (fun h9 => by cases h9))))))))))
                exact ends _
            | some A2 =>
              rw [(t2 A2 hz).1]
              refine q_ist_2 (pc' := 68) dX11_unplugs_67 rfl (by decide) rfl (q_inc_3 (pc' := 71) dX11_unplugs_68 rfl (by decide) rfl (q_goto (pc' := 41) dX11_unplugs_71 rfl ?_))
              exact ih (k + 1) I4 A2 (by omega) (hF0.tr t3) (hstep.trans hz) (t2 A2 hz).2
      exact loop (b 0 2) 0 _ (mj_up A 9 p 0) (by omega) mF_up rfl hR2
    · have h3 : bitN (fun p => A 9 p == 1) (b 0 0) = 2 ^ p := (nI_eq (by omega) (by omega)).mp h2
      rw [if_pos h3] at hQ
      exact q_iconst (pc' := 21) _ dX11_unplugs_20 rfl kk_iconst_5 (q_iret dX11_unplugs_21 rfl (hQ _ _ _ _ ⟨_, rfl, ⟨rfl, rfl⟩, rfl, hR, mF2.rf⟩))
  · rw [beq_eq_false_iff_ne] at h1
    rw [if_pos h1] at hQ
    exact q_iconst (pc' := 9) _ dX11_unplugs_8 rfl kk_iconst_4 (q_iret dX11_unplugs_9 rfl (hQ _ _ _ _ ⟨_, rfl, ⟨rfl, rfl⟩, rfl, hR, mF2.rf⟩))
/-- PLUG -/
def aPg1 (b : St) (p d : Nat) : Nat → St → St := fun q A => if A 3 (8 * d + q) = 0 ∧ (aSpread b d q).testBit p = true then mj_up (mj_up (aHolds A (8 * d + q) (32 * p + (aResv b A (8 * d + q) p).getD 0)) 2 (32 * p + (aResv b A (8 * d + q) p).getD 0) (A 6 (8 * d + q))) 6 (8 * d + q) 0 else A
def aPgD (b : St) (p : Nat) : Nat → St → St := fun d A => if A 7 d = 1 ∧ b 1 d = 3 then itN (aPg1 b p d) (b 2 d) A else A
def aPlug (b A : St) (p : Nat) : Nat × St := if A 9 p = 1 then (4, A) else (0, itN (aPgD b p) (b 0 2) (mj_up A 9 p 1))
/-- what must be known, and stay, while a CPU comes -/
def gCl (b : St) (p : Nat) (U : St → Prop) : Prop := (∀ B, U B → aOK B) ∧ (∀ B d q, U B → d < b 0 2 → B 7 d = 1 → b 1 d = 3 → q < b 2 d → B 3 (8 * d + q) = 0 → (aSpread b d q).testBit p = true → ∃ v, aResv b B (8 * d + q) p = some v) ∧ (∀ B d q, U B → d < b 0 2 → B 7 d = 1 → b 1 d = 3 → q < b 2 d → U (aPg1 b p d q B))
theorem pg1_7 {b A : St} {p d q : Nat} : aPg1 b p d q A 7 = A 7 := by
  unfold aPg1
  split <;> rfl
theorem u_pg1 {U : St → Prop} {d p : Nat} (hU : gCl b p U) (hd : d < b 0 2) (h3 : b 1 d = 3) (hA : U A) (hs : A 7 d = 1) : ∀ k, k ≤ b 2 d → U (itN (aPg1 b p d) k A) ∧ (itN (aPg1 b p d) k A) 7 d = 1 :=
  itN_P (P := fun B => U B ∧ B 7 d = 1) (n := b 2 d) ⟨hA, hs⟩ (fun k B hk hB => ⟨hU.2.2 B d k hB.1 hd hB.2 h3 hk, by rw [pg1_7]; exact hB.2⟩)
theorem u_pgD {U : St → Prop} {p : Nat} (hU : gCl b p U) (hA : U A) : ∀ k, k ≤ b 0 2 → U (itN (aPgD b p) k A) :=
  itN_P (n := b 0 2) hA (fun d B hd hB => by
    unfold aPgD
    split
    · rename_i h; exact (u_pg1 hU hd h.2 hB h.1 (b 2 d) (Nat.le_refl _)).1
    · exact hB)
theorem rs_X11_plugs {U : St → Prop} {p : Nat} (hM : mj_wM R) (hb : mB I b) (hk : bOK b) (hR : rR (I 464) A) (hA : aOK A) (hU : gCl b p U) (hA0 : A 9 p ≠ 1 → U (mj_up A 9 p 1)) (hp : p < b 0 0) : RsI w l yX11_plugs dd_X11_plugs [.ref 452, .int (nI p)] (472, I, J, R) (fun x I' => x = nI (aPlug b A p).1 ∧ rR (I' 464) (aPlug b A p).2 ∧ mF I I') := by
  have hc8 := hk.1.2
  have hd10 := hk.2.2.1
  have hv32 := hk.2.1.2
  refine rt_intro2 (L := [some (.ref 452), some (.int (nI p)), none, none, none]) ⟨by decide, rfl, (fun h => by cases h)⟩ (Nat.le_of_ble_eq_true rfl) rfl (fun Y Q hQ => ?_)
  unfold aPlug at hQ
  refine q_aload_n (pc' := 1) dX11_plugs_0 rfl rfl (q_iload_n (pc' := 2) dX11_plugs_1 rfl rfl (q_cVi (pc' := 5) dX11_plugs_2 rfl ml_RX11_292 yv_X11_isOnline (by decide) (rn_X11_isOnline hM hR hA (by omega)) ⟨by omega, rfl⟩ rfl rfl (Nat.le_of_ble_eq_true rfl) (Nat.le_refl _) (q_ifb_eq (pc' := 8) (pt := 10) dX11_plugs_5 rfl rfl (fun h1 => ?_) (fun h1 => ?_))))
  · rw [beq_eq_false_iff_ne] at h1
    rw [if_neg h1] at hQ
    have hu0 := hA0 h1
    have inner : ∀ d, d < b 0 2 → b 1 d = 3 → ∀ A0, U A0 → A0 7 d = 1 → (∀ I1 (o3 o4 : Option Value), mF I I1 → rR (I1 464) (itN (aPg1 b p d) (b 2 d) A0) → Wq dd_X11_plugs (mj_mk w l 472 Y) Q 169 [some (.ref 452), some (.int (nI p)), some (.int (nI d)), o3, o4] [] (472, I1, J, R)) → ∀ m k I0 (o4 : Option Value), k + m = b 2 d → mF I I0 → rR (I0 464) (itN (aPg1 b p d) k A0) → Wq dd_X11_plugs (mj_mk w l 472 Y) Q 54 [some (.ref 452), some (.int (nI p)), some (.int (nI d)), some (.int (nI k)), o4] [] (472, I0, J, R) := by
      intro d hd h3 A0 hu hst hnext m
      have hbs := hk.2.2.2 d hd
      have hbd := hb.2.2.2 d hd
      induction m with
      | zero =>
        intro k I0 o4 hkm hF0 hR0
        have hkz : k = b 2 d := by omega
        subst hkz
        refine q_iload_n (pc' := 55) dX11_plugs_54 rfl rfl (q_aload_n (pc' := 56) dX11_plugs_55 rfl rfl (q_getR (pc' := 59) dX11_plugs_56 rfl fr_RX11_32 ⟨by omega, rfl⟩ rfl (wM_30 hM) (by decide) (q_iload_n (pc' := 60) dX11_plugs_59 rfl rfl (q_ialde (pc' := 61) _ dX11_plugs_60 rfl (by first | exact ⟨by omega, rfl⟩ | exact okaS hi hz (by decide) rfl | assumption) rfl (by omega) ((congrFun (hF0 458 (by decide)) d).trans hbd.2.1) (q_icmp_ge (pc' := 64) (pt := 169) dX11_plugs_61 rfl rfl (fun _ => ?_) (fun h9 => absurd (by (first | assumption | exact nI_le (by omega) (by omega) | exact nI_ge (by omega) (by omega) | exact nI_lt (by omega) (by omega) | exact nI_nlt (by omega) (by omega) | exact nI_ne (by omega) (by omega) (by omega) | exact nI_e (by omega) | decide)) h9))))))
        exact hnext I0 _ _ hF0 hR0
      | succ m ih =>
        intro k I0 o4 hkm hF0 hR0
        have hb0 := mB_F hF0 hb
        have hu1 := u_pg1 hU hd h3 hu hst k (by omega)
        have ih2 := ih (k + 1)
        have hstep : itN (aPg1 b p d) (k + 1) A0 = aPg1 b p d k (itN (aPg1 b p d) k A0) := rfl
        rw [hstep] at ih2
        generalize itN (aPg1 b p d) k A0 = Ak at hR0 hu1 ih2 ⊢
        have hok := hU.1 Ak hu1.1
        have h6 := hok.2.1 (8 * d + k) (by omega)
        have hsp := aSpread_lt b hk d k
        have e1 : I0 464 (1024 + (8 * d + k)) = eC (Ak 3 (8 * d + k)) := (hR0 _ (by omega)).trans (cE_hc (by omega))
        unfold aPg1 at ih2
        refine q_iload_n (pc' := 55) dX11_plugs_54 rfl rfl (q_aload_n (pc' := 56) dX11_plugs_55 rfl rfl (q_getR (pc' := 59) dX11_plugs_56 rfl fr_RX11_32 ⟨by omega, rfl⟩ rfl (wM_30 hM) (by decide) (q_iload_n (pc' := 60) dX11_plugs_59 rfl rfl (q_ialde (pc' := 61) _ dX11_plugs_60 rfl (by first | exact ⟨by omega, rfl⟩ | exact okaS hi hz (by decide) rfl | assumption) rfl (by omega) ((congrFun (hF0 458 (by decide)) d).trans hbd.2.1) (q_icmp_ge (pc' := 64) (pt := 169) dX11_plugs_61 rfl rfl (fun h9 => absurd h9 (by (first | assumption | exact nI_le (by omega) (by omega) | exact nI_ge (by omega) (by omega) | exact nI_lt (by omega) (by omega) | exact nI_nlt (by omega) (by omega) | exact nI_ne (by omega) (by omega) (by omega) | exact nI_e (by omega) | decide))) (fun _ => (q_iload_n (pc' := 65) dX11_plugs_64 rfl rfl (q_iload_n (pc' := 66) dX11_plugs_65 rfl rfl (q_cSi (pc' := 69) dX11_plugs_66 rfl ml_RX11_308 ys_X11_lineAt (by decide) (rn_X11_lineAt) rfl rfl (Nat.le_of_ble_eq_true rfl) (Nat.le_refl _) ?_)))))))))
        refine q_top (y := nI (8 * d + k)) (by (first | (simp only [nI_add, pk_mul]; done) | (simp only [nI_add, pk_mul]; exact nI_e (by omega)) | exact nI_e (by omega))) ?_
        refine q_ist_4 (pc' := 71) dX11_plugs_69 rfl (by decide) rfl (q_aload_n (pc' := 72) dX11_plugs_71 rfl rfl (q_getR (pc' := 75) dX11_plugs_72 rfl fr_RX11_51 ⟨by omega, rfl⟩ rfl (wM_36 hM) (by decide) (q_sipush (pc' := 78) _ dX11_plugs_75 rfl kk_sipush_1024 (q_iload (pc' := 80) dX11_plugs_78 rfl rfl (q_iadd (pc' := 81) dX11_plugs_80 rfl (q_ialde (pc' := 82) (1024 + (8 * d + k)) dX11_plugs_81 rfl (by first | exact ⟨by omega, rfl⟩ | exact okaS hi hz (by decide) rfl | assumption) (by (first | (simp only [nI_add, pk_mul]; done) | (simp only [nI_add, pk_mul]; exact nI_e (by omega)) | exact nI_e (by omega))) (by omega) e1 (q_iconst (pc' := 83) _ dX11_plugs_82 rfl kk_iconst_m1 (q_icmp_ne (pc' := 86) (pt := 163) dX11_plugs_83 rfl rfl (fun h5 => ?_) (fun h5 => ?_)))))))))
        · rw [if_neg (fun z => h5 ((eC_none h6.1).mpr z.1))] at ih2
          refine q_inc_3 (pc' := 166) dX11_plugs_163 rfl (by decide) rfl (q_goto (pc' := 54) dX11_plugs_166 rfl ?_)
          exact ih2 I0 _ (by omega) hF0 hR0
        · have h7 := (eC_none h6.1).mp h5
          refine q_aload_n (pc' := 87) dX11_plugs_86 rfl rfl (q_iload_n (pc' := 88) dX11_plugs_87 rfl rfl (q_iload_n (pc' := 89) dX11_plugs_88 rfl rfl (q_cVi (pc' := 92) dX11_plugs_89 rfl ml_RX11_324 yv_X11_spreadOf (by decide) (rn_X11_spreadOf hM hb0 hk hd (by omega)) ⟨by omega, rfl⟩ rfl rfl (Nat.le_of_ble_eq_true rfl) (Nat.le_refl _) (q_iload_n (pc' := 93) dX11_plugs_92 rfl rfl (q_cSi (pc' := 96) dX11_plugs_93 rfl ml_RX11_192 ys_X11_isOf (by decide) (rn_X11_isOf) rfl rfl (Nat.le_of_ble_eq_true rfl) (Nat.le_refl _) (q_ifb_ne (pc' := 99) (pt := 102) dX11_plugs_96 rfl rfl (fun h8 => ?_) (fun h8 => ?_)))))))
          · rw [bitS_nI (by omega) (by omega)] at h8
            rw [if_pos ⟨h7, h8⟩] at ih2
            obtain ⟨v, hv⟩ := hU.2.1 Ak d k hu1.1 hd hu1.2 h3 (by omega) h7 h8
            have hv2 := ffi_some hv
            refine q_aload_n (pc' := 103) dX11_plugs_102 rfl rfl (q_iload_n (pc' := 104) dX11_plugs_103 rfl rfl (q_iload_n (pc' := 105) dX11_plugs_104 rfl rfl (q_iload_n (pc' := 106) dX11_plugs_105 rfl rfl (q_aload_n (pc' := 107) dX11_plugs_106 rfl rfl (q_iload_n (pc' := 108) dX11_plugs_107 rfl rfl (q_iload_n (pc' := 109) dX11_plugs_108 rfl rfl (q_iload_n (pc' := 110) dX11_plugs_109 rfl rfl (q_cVi (pc' := 113) dX11_plugs_110 rfl ml_RX11_330 yv_X11_reservedAt (by decide) (rn_X11_reservedAt (p := p) hM hb0 hk hR0 hok (by omega) (by omega) (by omega)) ⟨by omega, rfl⟩ rfl rfl (Nat.le_of_ble_eq_true rfl) (Nat.le_refl _) ?_))))))))
            rw [hv] at ih2 ⊢
            refine q_sVv (pc' := 116) dX11_plugs_113 rfl ml_RX11_320 yv_X11_holds (by decide) (rs_X11_holds (p := p) (v := v) hM hR0 (by omega) (by omega) (by omega) (by omega)) ⟨by omega, rfl⟩ rfl rfl (Nat.le_of_ble_eq_true rfl) (Nat.le_refl _) (fun I4 ⟨hF4, hR4⟩ => ?_)
            have e3 : I4 464 (1104 + (8 * d + k)) = nI v := by
              rw [(hR4 _ (by omega)).trans (cE_hv (by omega))]
              show eV (mj_up _ 3 (8 * d + k) (32 * p + v + 1) 3 (8 * d + k)) = _
              rw [mj_up_eq, eV_p (by omega)]
              exact nI_e (by omega)
            have e4 : I4 464 (1424 + (8 * d + k)) = nI (Ak 6 (8 * d + k)) := (hR4 _ (by omega)).trans (cE_wa (by omega))
            have r5 := rR_pd (p := 32 * p + v) (x := Ak 6 (8 * d + k)) hR4 (by omega)
            have r6 := rR_wa (x := 0) r5 (show 8 * d + k < 80 by omega)
            refine q_aload_n (pc' := 117) dX11_plugs_116 rfl rfl (q_getR (pc' := 120) dX11_plugs_117 rfl fr_RX11_51 ⟨by omega, rfl⟩ rfl (wM_36 hM) (by decide) (q_sipush (pc' := 123) _ dX11_plugs_120 rfl kk_sipush_768 (q_iload_n (pc' := 124) dX11_plugs_123 rfl rfl (q_aload_n (pc' := 125) dX11_plugs_124 rfl rfl (q_getR (pc' := 128) dX11_plugs_125 rfl fr_RX11_51 ⟨by omega, rfl⟩ rfl (wM_36 hM) (by decide) (q_sipush (pc' := 131) _ dX11_plugs_128 rfl kk_sipush_1104 (q_iload (pc' := 133) dX11_plugs_131 rfl rfl (q_iadd (pc' := 134) dX11_plugs_133 rfl (q_ialde (pc' := 135) (1104 + (8 * d + k)) dX11_plugs_134 rfl (by first | exact ⟨by omega, rfl⟩ | exact okaS hi hz (by decide) rfl | assumption) (by (first | (simp only [nI_add, pk_mul]; done) | (simp only [nI_add, pk_mul]; exact nI_e (by omega)) | exact nI_e (by omega))) (by omega) e3 (q_cSi (pc' := 138) dX11_plugs_135 rfl ml_RX11_286 ys_X11_spot (by decide) (rn_X11_spot) rfl rfl (Nat.le_of_ble_eq_true rfl) (Nat.le_refl _) (q_iadd (pc' := 139) dX11_plugs_138 rfl (q_aload_n (pc' := 140) dX11_plugs_139 rfl rfl (q_getR (pc' := 143) dX11_plugs_140 rfl fr_RX11_51 ⟨by omega, rfl⟩ rfl (wM_36 hM) (by decide) ?_)))))))))))))
            refine q_sipush (pc' := 146) _ dX11_plugs_143 rfl kk_sipush_1424 (q_iload (pc' := 148) dX11_plugs_146 rfl rfl (q_iadd (pc' := 149) dX11_plugs_148 rfl (q_ialde (pc' := 150) (1424 + (8 * d + k)) dX11_plugs_149 rfl (by first | exact ⟨by omega, rfl⟩ | exact okaS hi hz (by decide) rfl | assumption) (by (first | (simp only [nI_add, pk_mul]; done) | (simp only [nI_add, pk_mul]; exact nI_e (by omega)) | exact nI_e (by omega))) (by omega) e4 (q_iast (pc' := 151) (768 + (32 * p + v)) dX11_plugs_150 rfl (by first | exact ⟨by omega, rfl⟩ | exact okaS hi hz (by decide) rfl | assumption) (by (first | (simp only [nI_add, pk_mul]; done) | (simp only [nI_add, pk_mul]; exact nI_e (by omega)) | exact nI_e (by omega))) (by omega) (q_aload_n (pc' := 152) dX11_plugs_151 rfl rfl (q_getR (pc' := 155) dX11_plugs_152 rfl fr_RX11_51 ⟨by omega, rfl⟩ rfl (wM_36 hM) (by decide) (q_sipush (pc' := 158) _ dX11_plugs_155 rfl kk_sipush_1424 (q_iload (pc' := 160) dX11_plugs_158 rfl rfl (q_iadd (pc' := 161) dX11_plugs_160 rfl (q_iconst (pc' := 162) _ dX11_plugs_161 rfl kk_iconst_0 (q_iast (pc' := 163) (1424 + (8 * d + k)) dX11_plugs_162 rfl (by first | exact ⟨by omega, rfl⟩ | exact okaS hi hz (by decide) rfl | assumption) (by (first | (simp only [nI_add, pk_mul]; done) | (simp only [nI_add, pk_mul]; exact nI_e (by omega)) | exact nI_e (by omega))) (by omega) (q_inc_3 (pc' := 166) dX11_plugs_163 rfl (by decide) rfl (q_goto (pc' := 54) dX11_plugs_166 rfl ?_)))))))))))))
            exact ih2 _ _ (by omega) ((hF0.tr hF4).tr (mF_up.tr mF_up)) r6
          · rw [bitS_nI (by omega) (by omega)] at h8
            rw [if_neg (fun z => by rw [h8] at z; exact Bool.noConfusion z.2)] at ih2
            refine q_goto (pc' := 163) dX11_plugs_99 rfl (q_inc_3 (pc' := 166) dX11_plugs_163 rfl (by decide) rfl (q_goto (pc' := 54) dX11_plugs_166 rfl ?_))
            exact ih2 I0 _ (by omega) hF0 hR0
    have loop : ∀ m k I0 (o3 o4 : Option Value), k + m = b 0 2 → mF I I0 → rR (I0 464) (itN (aPgD b p) k (mj_up A 9 p 1)) → Wq dd_X11_plugs (mj_mk w l 472 Y) Q 23 [some (.ref 452), some (.int (nI p)), some (.int (nI k)), o3, o4] [] (472, I0, J, R) := by
      intro m
      induction m with
      | zero =>
        intro k I0 o3 o4 hkm hF0 hR0
        have hkz : k = b 0 2 := by omega
        subst hkz
        have hb := mB_F hF0 hb
        exact q_iload_n (pc' := 24) dX11_plugs_23 rfl rfl (q_aload_n (pc' := 25) dX11_plugs_24 rfl rfl (q_getIe (pc' := 28) dX11_plugs_25 rfl fr_RX11_252 ⟨by omega, rfl⟩ rfl (mB_2 hb) (q_icmp_ge (pc' := 31) (pt := 175) dX11_plugs_28 rfl rfl (fun _ => (q_iconst (pc' := 176) _ dX11_plugs_175 rfl kk_iconst_0 (q_iret dX11_plugs_176 rfl (hQ _ _ _ _ ⟨_, rfl, ⟨rfl, rfl⟩, rfl, hR0, hF0⟩)))) (fun h9 => absurd (by (first | assumption | exact nI_le (by omega) (by omega) | exact nI_ge (by omega) (by omega) | exact nI_lt (by omega) (by omega) | exact nI_nlt (by omega) (by omega) | exact nI_ne (by omega) (by omega) (by omega) | exact nI_e (by omega) | decide)) h9))))
      | succ m ih =>
        intro k I0 o3 o4 hkm hF0 hR0
        have hb0 := hb
        have hb := mB_F hF0 hb
        have hu := u_pgD hU hu0 k (by omega)
        have ih2 := ih (k + 1)
        have hstep : itN (aPgD b p) (k + 1) (mj_up A 9 p 1) = aPgD b p k (itN (aPgD b p) k (mj_up A 9 p 1)) := rfl
        rw [hstep] at ih2
        generalize itN (aPgD b p) k (mj_up A 9 p 1) = Ak at hR0 hu ih2 ⊢
        have hok := hU.1 Ak hu
        have hbd := hb.2.2.2 k (by omega)
        have hbs := hk.2.2.2 k (by omega)
        unfold aPgD at ih2
        refine q_iload_n (pc' := 24) dX11_plugs_23 rfl rfl (q_aload_n (pc' := 25) dX11_plugs_24 rfl rfl (q_getIe (pc' := 28) dX11_plugs_25 rfl fr_RX11_252 ⟨by omega, rfl⟩ rfl (mB_2 hb) (q_icmp_ge (pc' := 31) (pt := 175) dX11_plugs_28 rfl rfl (fun h9 => absurd h9 (by (first | assumption | exact nI_le (by omega) (by omega) | exact nI_ge (by omega) (by omega) | exact nI_lt (by omega) (by omega) | exact nI_nlt (by omega) (by omega) | exact nI_ne (by omega) (by omega) (by omega) | exact nI_e (by omega) | decide))) (fun _ => (q_aload_n (pc' := 32) dX11_plugs_31 rfl rfl (q_iload_n (pc' := 33) dX11_plugs_32 rfl rfl (q_cVi (pc' := 36) dX11_plugs_33 rfl ml_RX11_283 yv_X11_isStarted (by decide) (rn_X11_isStarted hM hR0 hok (by omega)) ⟨by omega, rfl⟩ rfl rfl (Nat.le_of_ble_eq_true rfl) (Nat.le_refl _) (q_ifb_eq (pc' := 39) (pt := 169) dX11_plugs_36 rfl rfl (fun h5 => ?_) (fun h5 => ?_)))))))))
        · rw [if_neg (fun z => beq_eq_false_iff_ne.mp h5 z.1)] at ih2
          refine q_inc_2 (pc' := 172) dX11_plugs_169 rfl (by decide) rfl (q_goto (pc' := 23) dX11_plugs_172 rfl ?_)
          exact ih2 I0 _ _ (by omega) hF0 hR0
        · rw [beq_iff_eq] at h5
          refine q_aload_n (pc' := 40) dX11_plugs_39 rfl rfl (q_getR (pc' := 43) dX11_plugs_40 rfl fr_RX11_29 ⟨by omega, rfl⟩ rfl (wM_29 hM) (by decide) (q_iload_n (pc' := 44) dX11_plugs_43 rfl rfl (q_ialde (pc' := 45) _ dX11_plugs_44 rfl (by first | exact ⟨by omega, rfl⟩ | exact okaS hi hz (by decide) rfl | assumption) rfl (by omega) hbd.1 (q_iconst (pc' := 46) _ dX11_plugs_45 rfl kk_iconst_3 (q_icmp_eq (pc' := 49) (pt := 52) dX11_plugs_46 rfl rfl (fun h6 => ?_) (fun h6 => ?_))))))
          · have h7 : b 1 k = 3 := (nI_eq (by omega) (by omega)).mp h6
            rw [if_pos ⟨h5, h7⟩] at ih2
            refine q_iconst (pc' := 53) _ dX11_plugs_52 rfl kk_iconst_0 (q_ist_3 (pc' := 54) dX11_plugs_53 rfl (by decide) rfl ?_)
            refine inner k (by omega) h7 Ak hu h5 (fun I1 o3 o4 hF1 hR1 => ?_) (b 2 k) 0 I0 _ (by omega) hF0 hR0
            refine q_inc_2 (pc' := 172) dX11_plugs_169 rfl (by decide) rfl (q_goto (pc' := 23) dX11_plugs_172 rfl ?_)
            exact ih2 I1 _ _ (by omega) hF1 hR1
          · rw [if_neg (fun z => h6 (nI_e z.2))] at ih2
            refine q_goto (pc' := 169) dX11_plugs_49 rfl (q_inc_2 (pc' := 172) dX11_plugs_169 rfl (by decide) rfl (q_goto (pc' := 23) dX11_plugs_172 rfl ?_))
            exact ih2 I0 _ _ (by omega) hF0 hR0
    refine q_aload_n (pc' := 11) dX11_plugs_10 rfl rfl (q_getR (pc' := 14) dX11_plugs_11 rfl fr_RX11_51 ⟨by omega, rfl⟩ rfl (wM_36 hM) (by decide) (q_sipush (pc' := 17) _ dX11_plugs_14 rfl kk_sipush_1554 (q_iload_n (pc' := 18) dX11_plugs_17 rfl rfl (q_iadd (pc' := 19) dX11_plugs_18 rfl (q_iconst (pc' := 20) _ dX11_plugs_19 rfl kk_iconst_1 (q_iast (pc' := 21) (1554 + p) dX11_plugs_20 rfl (by first | exact ⟨by omega, rfl⟩ | exact okaS hi hz (by decide) rfl | assumption) (by (first | (simp only [nI_add, pk_mul]; done) | (simp only [nI_add, pk_mul]; exact nI_e (by omega)) | exact nI_e (by omega))) (by omega) (q_iconst (pc' := 22) _ dX11_plugs_21 rfl kk_iconst_0 (q_ist_2 (pc' := 23) dX11_plugs_22 rfl (by decide) rfl ?_))))))))
    exact loop (b 0 2) 0 _ _ _ (by omega) mF_up (rR_on hR (by omega))
  · rw [beq_iff_eq] at h1
    rw [if_pos h1] at hQ
    exact q_iconst (pc' := 9) _ dX11_plugs_8 rfl kk_iconst_4 (q_iret dX11_plugs_9 rfl (hQ _ _ _ _ ⟨_, rfl, ⟨rfl, rfl⟩, rfl, hR, mF.rf⟩))
end M14
