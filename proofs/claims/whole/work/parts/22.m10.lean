/-! ===== the reference: TICKS ===== -/
def aDr1 (b : St) (id : Nat) (A : St) : St := if A 5 id = 0 ∨ A 2 (A 4 id - 1) = 1 then A else aNoOld (aLeaves b A id (A 4 id - 1)) id
def aDrain (b A : St) : St := itN (fun d A => itN (fun k A => aDr1 b (8 * d + k) A) (b 2 d) A) (b 0 2) A
def aTick1 (b A : St) : St := itN (fun p A => if A 9 p = 1 then aHandle b A p else A) (b 0 0) A
/-- a TICK -/
def aTick (b A : St) : St := mj_up (aDrain b (aTick1 b A)) 14 0 (aDrain b (aTick1 b A) 14 0 + 1)
def dOK (A : St) : Prop := ∀ k, k < 80 → A 5 k = 1 → A 4 k ≠ 0
theorem aOK_dr1 {b A : St} {id : Nat} (hA : aOK A) (hi : id < 80) : aOK (aDr1 b id A) := by
  unfold aDr1
  split
  · exact hA
  · exact aOK_noOld (aOK_leaves hA hi)
theorem dOK_dr1 {b A : St} {id : Nat} (hD : dOK A) : dOK (aDr1 b id A) := by
  unfold aDr1
  split
  · exact hD
  · intro k hk h5
    unfold aNoOld at h5 ⊢
    by_cases e : k = id
    · subst e; rw [mj_up_eq] at h5; cases h5
    · rw [mj_up_ne2 e, mj_up_ne (show (5 : Nat) ≠ 4 by decide)] at h5
      rw [mj_up_ne (show (4 : Nat) ≠ 5 by decide), mj_up_ne2 e]
      exact hD k hk h5
theorem aHand_ok {A : St} {p pl : Nat} (hA : aOK A) (hP : pOK A) (hpl : pl < 256) : aOK (aHand A p pl) ∧ pOK (aHand A p pl) := by
  have e1 : ∀ id, aHand1 A p pl id 2 = mj_up A 2 pl 0 2 := fun id => rfl
  have e2 : ∀ id, aHand1 A p pl id 1 = A 1 := fun id => rfl
  have e3 : ∀ id, aHand1 A p pl id 5 = A 5 := fun id => rfl
  have e4 : ∀ id, aHand1 A p pl id 4 = A 4 := fun id => rfl
  have hok : ∀ id, aOK (aHand1 A p pl id) := fun id => aOK_hi (aOK_hi (aOK_hi (aOK_hi (aOK_hi (aOK_up hA (fun _ => by decide)) (by decide)) (by decide)) (by decide)) (by decide)) (by decide)
  have hp1 : ∀ k, k < 256 → mj_up A 2 pl 0 2 k = 1 → A 1 k ≠ 0 := by
    intro k hk h
    by_cases e : k = pl
    · subst e; rw [mj_up_eq] at h; cases h
    · rw [mj_up_ne2 e] at h; exact hP.1 k hk h
  unfold aHand
  split
  · rename_i hc
    refine ⟨aOK_up (hok _) (fun _ => by decide), fun k hk h => ?_, fun k hk h => ?_⟩
    · rw [mj_up_ne (show (2 : Nat) ≠ 5 by decide), e1] at h
      rw [mj_up_ne (show (1 : Nat) ≠ 5 by decide), e2]
      exact hp1 k hk h
    · rw [mj_up_ne (show (4 : Nat) ≠ 5 by decide), e4]
      by_cases e : k = A 1 pl - 1
      · rw [e]; exact hc.2
      · rw [mj_up_ne2 e, e3] at h; exact hP.2 k hk h
  · refine ⟨hok _, fun k hk h => ?_, fun k hk h => ?_⟩
    · rw [e1] at h; rw [e2]; exact hp1 k hk h
    · rw [e3] at h; rw [e4]; exact hP.2 k hk h
theorem aHandle_ok {b A : St} {p : Nat} (hk : bOK b) (hA : aOK A) (hP : pOK A) (hp : p < 8) : aOK (aHandle b A p) ∧ pOK (aHandle b A p) := by
  unfold aHandle
  cases ht : aTop b A p with
  | none => exact ⟨hA, hP⟩
  | some v =>
    have h1 := (topN_some ht).1
    have h2 := hk.2.1.2
    exact aHand_ok hA hP (by omega)
theorem aTick1_ok {b A : St} (hk : bOK b) (hA : aOK A) (hP : pOK A) : ∀ m, m ≤ b 0 0 → aOK (itN (fun p A => if A 9 p = 1 then aHandle b A p else A) m A) ∧ pOK (itN (fun p A => if A 9 p = 1 then aHandle b A p else A) m A) := by
  refine itN_P (P := fun B => aOK B ∧ pOK B) (n := b 0 0) ⟨hA, hP⟩ (fun k B hk9 hB => ?_)
  split
  · have := hk.1.2
    exact aHandle_ok hk hB.1 hB.2 (by omega)
  · exact hB
theorem aOK_drain {b A : St} (hk : bOK b) (hA : aOK A) : aOK (aDrain b A) := by
  refine itN_P (n := b 0 2) hA (fun d B hd hB => ?_) (b 0 2) (Nat.le_refl _)
  have h1 := hk.2.2.2 d hd
  have h2 := hk.2.2.1
  exact itN_P (n := b 2 d) hB (fun k C hk9 hC => aOK_dr1 hC (by omega)) (b 2 d) (Nat.le_refl _)
theorem aOK_tick {b A : St} (hk : bOK b) (hA : aOK A) (hP : pOK A) : aOK (aTick b A) := aOK_hi (aOK_drain hk (aTick1_ok hk hA hP (b 0 0) (Nat.le_refl _)).1) (by decide)
section M10
variable {w : mj_Wd} {l : Launch} {I : mj_M} {J : mj_J} {R : mj_R} {b A : St}
theorem rs_X11_drains (hM : mj_wM R) (hb : mB I b) (hk : bOK b) (hR : rR (I 464) A) (hA : aOK A) (hD : dOK A) : RsV w l yX11_drains dd_X11_drains [.ref 452] (472, I, J, R) (fun I' => mF I I' ∧ rR (I' 464) (aDrain b A)) := by
  have hd10 := hk.2.2.1
  refine rt_intro2 (L := [some (.ref 452), none, none, none]) ⟨by decide, rfl, (fun h => by cases h)⟩ (Nat.le_of_ble_eq_true rfl) rfl (fun Y Q hQ => ?_)
  have inner : ∀ d, d < b 0 2 → ∀ A0, aOK A0 → dOK A0 → (∀ I1 o3, mF I I1 → rR (I1 464) (itN (fun k A => aDr1 b (8 * d + k) A) (b 2 d) A0) → Wq dd_X11_drains (mj_mk w l 472 Y) Q 118 [some (.ref 452), some (.int (nI d)), some (.int (nI (b 2 d))), o3] [] (472, I1, J, R)) → ∀ m k I0 (o3 : Option Value), k + m = b 2 d → mF I I0 → rR (I0 464) (itN (fun k A => aDr1 b (8 * d + k) A) k A0) → Wq dd_X11_drains (mj_mk w l 472 Y) Q 12 [some (.ref 452), some (.int (nI d)), some (.int (nI k)), o3] [] (472, I0, J, R) := by
    intro d hd A0 hok hdk hnext m
    have hs := hk.2.2.2 d hd
    have hbd := hb.2.2.2 d hd
    induction m with
    | zero =>
      intro k I0 o3 hkm hF0 hR0
      have hkz : k = b 2 d := by omega
      subst hkz
      refine q_iload_n (pc' := 13) dX11_drains_12 rfl rfl (q_aload_n (pc' := 14) dX11_drains_13 rfl rfl (q_getR (pc' := 17) dX11_drains_14 rfl fr_RX11_32 ⟨by omega, rfl⟩ rfl (wM_30 hM) (by decide) (q_iload_n (pc' := 18) dX11_drains_17 rfl rfl (q_ialde (pc' := 19) _ dX11_drains_18 rfl (by first | exact ⟨by omega, rfl⟩ | exact okaS hi hz (by decide) rfl | assumption) rfl (by omega) ((congrFun (hF0 458 (by decide)) d).trans hbd.2.1) (q_icmp_ge (pc' := 22) (pt := 118) dX11_drains_19 rfl rfl (fun _ => ?_) (fun h9 => absurd (by (first | assumption | exact nI_le (by omega) (by omega) | exact nI_ge (by omega) (by omega) | exact nI_lt (by omega) (by omega) | exact nI_nlt (by omega) (by omega) | exact nI_ne (by omega) (by omega) (by omega) | exact nI_e (by omega) | decide)) h9))))))
      exact hnext I0 o3 hF0 hR0
    | succ m ih =>
      intro k I0 o3 hkm hF0 hR0
      have hb := mB_F hF0 hb
      have hok1 : aOK (itN (fun k A => aDr1 b (8 * d + k) A) k A0) ∧ dOK (itN (fun k A => aDr1 b (8 * d + k) A) k A0) := itN_P (P := fun B => aOK B ∧ dOK B) (n := b 2 d) ⟨hok, hdk⟩ (fun k C hk9 hC => ⟨aOK_dr1 hC.1 (by omega), dOK_dr1 hC.2⟩) k (by omega)
      have hstep : itN (fun k A => aDr1 b (8 * d + k) A) (k + 1) A0 = aDr1 b (8 * d + k) (itN (fun k A => aDr1 b (8 * d + k) A) k A0) := rfl
      have ih2 := ih (k + 1)
      rw [hstep] at ih2
      generalize itN (fun k A => aDr1 b (8 * d + k) A) k A0 = Ak at hR0 hstep hok1 ih2 ⊢
      have h6 := hok1.1.2.1 (8 * d + k) (by omega)
      have e1 : I0 464 (1344 + (8 * d + k)) = nI (Ak 5 (8 * d + k)) := (hR0 _ (by omega)).trans (cE_dr (by omega))
      have e2 : I0 464 (1184 + (8 * d + k)) = eC (Ak 4 (8 * d + k)) := (hR0 _ (by omega)).trans (cE_oc (by omega))
      have e3 : I0 464 (1264 + (8 * d + k)) = eV (Ak 4 (8 * d + k)) := (hR0 _ (by omega)).trans (cE_ov (by omega))
      unfold aDr1 at ih2
      refine q_iload_n (pc' := 13) dX11_drains_12 rfl rfl (q_aload_n (pc' := 14) dX11_drains_13 rfl rfl (q_getR (pc' := 17) dX11_drains_14 rfl fr_RX11_32 ⟨by omega, rfl⟩ rfl (wM_30 hM) (by decide) (q_iload_n (pc' := 18) dX11_drains_17 rfl rfl (q_ialde (pc' := 19) _ dX11_drains_18 rfl (by first | exact ⟨by omega, rfl⟩ | exact okaS hi hz (by decide) rfl | assumption) rfl (by omega) ((congrFun (hF0 458 (by decide)) d).trans hbd.2.1) (q_icmp_ge (pc' := 22) (pt := 118) dX11_drains_19 rfl rfl (fun h9 => absurd h9 (by (first | assumption | exact nI_le (by omega) (by omega) | exact nI_ge (by omega) (by omega) | exact nI_lt (by omega) (by omega) | exact nI_nlt (by omega) (by omega) | exact nI_ne (by omega) (by omega) (by omega) | exact nI_e (by omega) | decide))) (fun _ => (q_iload_n (pc' := 23) dX11_drains_22 rfl rfl (q_iload_n (pc' := 24) dX11_drains_23 rfl rfl (q_cSi (pc' := 27) dX11_drains_24 rfl ml_RX11_308 ys_X11_lineAt (by decide) (rn_X11_lineAt) rfl rfl (Nat.le_of_ble_eq_true rfl) (Nat.le_refl _) ?_)))))))))
      refine q_top (y := nI (8 * d + k)) (by (first | (simp only [nI_add, pk_mul]; done) | (simp only [nI_add, pk_mul]; exact nI_e (by omega)) | exact nI_e (by omega))) ?_
      refine q_ist_3 (pc' := 28) dX11_drains_27 rfl (by decide) rfl (q_aload_n (pc' := 29) dX11_drains_28 rfl rfl (q_getR (pc' := 32) dX11_drains_29 rfl fr_RX11_51 ⟨by omega, rfl⟩ rfl (wM_36 hM) (by decide) (q_sipush (pc' := 35) _ dX11_drains_32 rfl kk_sipush_1344 (q_iload_n (pc' := 36) dX11_drains_35 rfl rfl (q_iadd (pc' := 37) dX11_drains_36 rfl (q_ialde (pc' := 38) (1344 + (8 * d + k)) dX11_drains_37 rfl (by first | exact ⟨by omega, rfl⟩ | exact okaS hi hz (by decide) rfl | assumption) (by (first | (simp only [nI_add, pk_mul]; done) | (simp only [nI_add, pk_mul]; exact nI_e (by omega)) | exact nI_e (by omega))) (by omega) e1 (q_if_eq (pc' := 41) (pt := 112) dX11_drains_38 rfl rfl (fun h1 => ?_) (fun h1 => ?_))))))))
      · have h2 : Ak 5 (8 * d + k) = 0 := (nI_eq (a := Ak 5 (8 * d + k)) (b := 0) (by omega) (by omega)).mp h1
        rw [if_pos (Or.inl h2)] at ih2
        refine q_inc_2 (pc' := 115) dX11_drains_112 rfl (by decide) rfl (q_goto (pc' := 12) dX11_drains_115 rfl ?_)
        exact ih2 I0 _ (by omega) hF0 hR0
      · have h2 : Ak 5 (8 * d + k) = 1 := by
          have : Ak 5 (8 * d + k) ≠ 0 := fun z => h1 (by rw [z]; rfl)
          omega
        have h4 := hok1.2 (8 * d + k) (by omega) h2
        have e5 := e2.trans (eC_p h4)
        have e6 := e3.trans (eV_p h4)
        have e7 := pl_e (Ak 4 (8 * d + k))
        have h8 := hok1.1.1 (Ak 4 (8 * d + k) - 1) (by omega)
        have e8 : I0 464 (768 + (Ak 4 (8 * d + k) - 1)) = nI (Ak 2 (Ak 4 (8 * d + k) - 1)) := (hR0 _ (by omega)).trans (cE_pd (by omega))
        refine q_aload_n (pc' := 42) dX11_drains_41 rfl rfl (q_getR (pc' := 45) dX11_drains_42 rfl fr_RX11_51 ⟨by omega, rfl⟩ rfl (wM_36 hM) (by decide) (q_sipush (pc' := 48) _ dX11_drains_45 rfl kk_sipush_768 (q_aload_n (pc' := 49) dX11_drains_48 rfl rfl (q_getR (pc' := 52) dX11_drains_49 rfl fr_RX11_51 ⟨by omega, rfl⟩ rfl (wM_36 hM) (by decide) (q_sipush (pc' := 55) _ dX11_drains_52 rfl kk_sipush_1184 (q_iload_n (pc' := 56) dX11_drains_55 rfl rfl (q_iadd (pc' := 57) dX11_drains_56 rfl (q_ialde (pc' := 58) (1184 + (8 * d + k)) dX11_drains_57 rfl (by first | exact ⟨by omega, rfl⟩ | exact okaS hi hz (by decide) rfl | assumption) (by (first | (simp only [nI_add, pk_mul]; done) | (simp only [nI_add, pk_mul]; exact nI_e (by omega)) | exact nI_e (by omega))) (by omega) e5 (q_aload_n (pc' := 59) dX11_drains_58 rfl rfl (q_getR (pc' := 62) dX11_drains_59 rfl fr_RX11_51 ⟨by omega, rfl⟩ rfl (wM_36 hM) (by decide) (q_sipush (pc' := 65) _ dX11_drains_62 rfl kk_sipush_1264 (q_iload_n (pc' := 66) dX11_drains_65 rfl rfl (q_iadd (pc' := 67) dX11_drains_66 rfl ?_)))))))))))))
        refine q_ialde (pc' := 68) (1264 + (8 * d + k)) dX11_drains_67 rfl (by first | exact ⟨by omega, rfl⟩ | exact okaS hi hz (by decide) rfl | assumption) (by (first | (simp only [nI_add, pk_mul]; done) | (simp only [nI_add, pk_mul]; exact nI_e (by omega)) | exact nI_e (by omega))) (by omega) e6 (q_cSi (pc' := 71) dX11_drains_68 rfl ml_RX11_286 ys_X11_spot (by decide) (rn_X11_spot) rfl rfl (Nat.le_of_ble_eq_true rfl) (Nat.le_refl _) (q_iadd (pc' := 72) dX11_drains_71 rfl (q_ialde (pc' := 73) (768 + (Ak 4 (8 * d + k) - 1)) dX11_drains_72 rfl (by first | exact ⟨by omega, rfl⟩ | exact okaS hi hz (by decide) rfl | assumption) (by rw [pk_mul, nI_add, nI_add, e7]) (by omega) e8 (q_iconst (pc' := 74) _ dX11_drains_73 rfl kk_iconst_1 (q_icmp_ne (pc' := 77) (pt := 80) dX11_drains_74 rfl rfl (fun h9 => ?_) (fun h9 => ?_))))))
        · have h10 : ¬ Ak 2 (Ak 4 (8 * d + k) - 1) = 1 := fun z => h9 (nI_e z)
          rw [if_neg (fun z => z.elim (fun y => by omega) h10)] at ih2
          have hlv := rs_X11_leaves (w := w) (l := l) (J := J) (p := (Ak 4 (8 * d + k) - 1) / 32) (v := (Ak 4 (8 * d + k) - 1) % 32) (k := k) hM hb hk hR0 (by omega) (by omega) hd (by omega)
          rw [e7] at hlv
          refine q_aload_n (pc' := 81) dX11_drains_80 rfl rfl (q_iload_n (pc' := 82) dX11_drains_81 rfl rfl (q_iload_n (pc' := 83) dX11_drains_82 rfl rfl (q_aload_n (pc' := 84) dX11_drains_83 rfl rfl (q_getR (pc' := 87) dX11_drains_84 rfl fr_RX11_51 ⟨by omega, rfl⟩ rfl (wM_36 hM) (by decide) (q_sipush (pc' := 90) _ dX11_drains_87 rfl kk_sipush_1184 (q_iload_n (pc' := 91) dX11_drains_90 rfl rfl (q_iadd (pc' := 92) dX11_drains_91 rfl (q_ialde (pc' := 93) (1184 + (8 * d + k)) dX11_drains_92 rfl (by first | exact ⟨by omega, rfl⟩ | exact okaS hi hz (by decide) rfl | assumption) (by (first | (simp only [nI_add, pk_mul]; done) | (simp only [nI_add, pk_mul]; exact nI_e (by omega)) | exact nI_e (by omega))) (by omega) e5 (q_aload_n (pc' := 94) dX11_drains_93 rfl rfl (q_getR (pc' := 97) dX11_drains_94 rfl fr_RX11_51 ⟨by omega, rfl⟩ rfl (wM_36 hM) (by decide) (q_sipush (pc' := 100) _ dX11_drains_97 rfl kk_sipush_1264 (q_iload_n (pc' := 101) dX11_drains_100 rfl rfl (q_iadd (pc' := 102) dX11_drains_101 rfl ?_)))))))))))))
          refine q_ialde (pc' := 103) (1264 + (8 * d + k)) dX11_drains_102 rfl (by first | exact ⟨by omega, rfl⟩ | exact okaS hi hz (by decide) rfl | assumption) (by (first | (simp only [nI_add, pk_mul]; done) | (simp only [nI_add, pk_mul]; exact nI_e (by omega)) | exact nI_e (by omega))) (by omega) e6 (q_sVv (pc' := 106) dX11_drains_103 rfl ml_RX11_369 yv_X11_leaves (by decide) hlv ⟨by omega, rfl⟩ rfl rfl (Nat.le_of_ble_eq_true rfl) (Nat.le_refl _) (fun I4 ⟨hF4, hR4⟩ => ?_))
          refine q_aload_n (pc' := 107) dX11_drains_106 rfl rfl (q_iload_n (pc' := 108) dX11_drains_107 rfl rfl (q_iload_n (pc' := 109) dX11_drains_108 rfl rfl (q_sVv (pc' := 112) dX11_drains_109 rfl ml_RX11_337 yv_X11_noOld (by decide) (rs_X11_noOld hM hR4 (by omega) (by omega)) ⟨by omega, rfl⟩ rfl rfl (Nat.le_of_ble_eq_true rfl) (Nat.le_refl _) (fun I5 ⟨hF5, hR5⟩ => ?_))))
          refine q_inc_2 (pc' := 115) dX11_drains_112 rfl (by decide) rfl (q_goto (pc' := 12) dX11_drains_115 rfl ?_)
          exact ih2 I5 _ (by omega) (hF0.tr (hF4.tr hF5)) hR5
        · have h10 : Ak 2 (Ak 4 (8 * d + k) - 1) = 1 := (nI_eq (by omega) (by omega)).mp h9
          rw [if_pos (Or.inr h10)] at ih2
          refine q_goto (pc' := 112) dX11_drains_77 rfl (q_inc_2 (pc' := 115) dX11_drains_112 rfl (by decide) rfl (q_goto (pc' := 12) dX11_drains_115 rfl ?_))
          exact ih2 I0 _ (by omega) hF0 hR0
  have loop : ∀ m k I0 (o2 o3 : Option Value), k + m = b 0 2 → mF I I0 → rR (I0 464) (itN (fun d A => itN (fun k A => aDr1 b (8 * d + k) A) (b 2 d) A) k A) → Wq dd_X11_drains (mj_mk w l 472 Y) Q 2 [some (.ref 452), some (.int (nI k)), o2, o3] [] (472, I0, J, R) := by
    intro m
    induction m with
    | zero =>
      intro k I0 o2 o3 hkm hF0 hR0
      have hkz : k = b 0 2 := by omega
      subst hkz
      have hb := mB_F hF0 hb
      exact q_iload_n (pc' := 3) dX11_drains_2 rfl rfl (q_aload_n (pc' := 4) dX11_drains_3 rfl rfl (q_getIe (pc' := 7) dX11_drains_4 rfl fr_RX11_252 ⟨by omega, rfl⟩ rfl (mB_2 hb) (q_icmp_ge (pc' := 10) (pt := 124) dX11_drains_7 rfl rfl (fun _ => (q_vret dX11_drains_124 rfl (hQ _ _ _ _ ⟨rfl, ⟨rfl, rfl⟩, hF0, hR0⟩))) (fun h9 => absurd (by (first | assumption | exact nI_le (by omega) (by omega) | exact nI_ge (by omega) (by omega) | exact nI_lt (by omega) (by omega) | exact nI_nlt (by omega) (by omega) | exact nI_ne (by omega) (by omega) (by omega) | exact nI_e (by omega) | decide)) h9))))
    | succ m ih =>
      intro k I0 o2 o3 hkm hF0 hR0
      have hb := mB_F hF0 hb
      have hok1 := itN_P (P := fun B => aOK B ∧ dOK B) (f := fun d A => itN (fun k A => aDr1 b (8 * d + k) A) (b 2 d) A) (n := b 0 2) ⟨hA, hD⟩ (fun d B hd hB => itN_P (P := fun B => aOK B ∧ dOK B) (n := b 2 d) hB (fun k C hk9 hC => ⟨aOK_dr1 hC.1 (by have := (hk.2.2.2 d hd).2.1.2; omega), dOK_dr1 hC.2⟩) (b 2 d) (Nat.le_refl _)) k (by omega)
      refine q_iload_n (pc' := 3) dX11_drains_2 rfl rfl (q_aload_n (pc' := 4) dX11_drains_3 rfl rfl (q_getIe (pc' := 7) dX11_drains_4 rfl fr_RX11_252 ⟨by omega, rfl⟩ rfl (mB_2 hb) (q_icmp_ge (pc' := 10) (pt := 124) dX11_drains_7 rfl rfl (fun h9 => absurd h9 (by (first | assumption | exact nI_le (by omega) (by omega) | exact nI_ge (by omega) (by omega) | exact nI_lt (by omega) (by omega) | exact nI_nlt (by omega) (by omega) | exact nI_ne (by omega) (by omega) (by omega) | exact nI_e (by omega) | decide))) (fun _ => (q_iconst (pc' := 11) _ dX11_drains_10 rfl kk_iconst_0 (q_ist_2 (pc' := 12) dX11_drains_11 rfl (by decide) rfl ?_))))))
      refine inner k (by omega) _ hok1.1 hok1.2 (fun I1 o3 hF1 hR1 => ?_) (b 2 k) 0 I0 _ (by omega) hF0 hR0
      refine q_inc_1 (pc' := 121) dX11_drains_118 rfl (by decide) rfl (q_goto (pc' := 2) dX11_drains_121 rfl ?_)
      exact ih (k + 1) I1 _ _ (by omega) hF1 hR1
  refine q_iconst (pc' := 1) _ dX11_drains_0 rfl kk_iconst_0 (q_ist_1 (pc' := 2) dX11_drains_1 rfl (by decide) rfl ?_)
  exact loop (b 0 2) 0 I _ _ (by omega) mF.rf hR
theorem rs_X11_ticks (hM : mj_wM R) (hb : mB I b) (hk : bOK b) (hR : rR (I 464) A) (hA : aOK A) (hP : pOK A) : RsV w l yX11_ticks dd_X11_ticks [.ref 452] (472, I, J, R) (fun I' => mF I I' ∧ rR (I' 464) (aTick b A)) := by
  have hc8 := hk.1.2
  refine rt_intro2 (L := [some (.ref 452), none]) ⟨by decide, rfl, (fun h => by cases h)⟩ (Nat.le_of_ble_eq_true rfl) rfl (fun Y Q hQ => ?_)
  have loop : ∀ m k I0, k + m = b 0 0 → mF I I0 → rR (I0 464) (itN (fun p A => if A 9 p = 1 then aHandle b A p else A) k A) → Wq dd_X11_ticks (mj_mk w l 472 Y) Q 2 [some (.ref 452), some (.int (nI k))] [] (472, I0, J, R) := by
    intro m
    induction m with
    | zero =>
      intro k I0 hkm hF0 hR0
      have hkz : k = b 0 0 := by omega
      subst hkz
      have hb := mB_F hF0 hb
      have h1 := aTick1_ok hk hA hP (b 0 0) (Nat.le_refl _)
      refine q_iload_n (pc' := 3) dX11_ticks_2 rfl rfl (q_aload_n (pc' := 4) dX11_ticks_3 rfl rfl (q_getIe (pc' := 7) dX11_ticks_4 rfl fr_RX11_240 ⟨by omega, rfl⟩ rfl (mB_0 hb) (q_icmp_ge (pc' := 10) (pt := 29) dX11_ticks_7 rfl rfl (fun _ => (q_aload_n (pc' := 30) dX11_ticks_29 rfl rfl (q_sVv (pc' := 33) dX11_ticks_30 rfl ml_RX11_375 yv_X11_drains (by decide) (rs_X11_drains hM hb hk hR0 h1.1 h1.2.2) ⟨by omega, rfl⟩ rfl rfl (Nat.le_of_ble_eq_true rfl) (Nat.le_refl _) (fun I4 ⟨hF4, hR4⟩ => ?_)))) (fun h9 => absurd (by (first | assumption | exact nI_le (by omega) (by omega) | exact nI_ge (by omega) (by omega) | exact nI_lt (by omega) (by omega) | exact nI_nlt (by omega) (by omega) | exact nI_ne (by omega) (by omega) (by omega) | exact nI_e (by omega) | decide)) h9))))
      have e1 : I4 464 1570 = nI (aDrain b (aTick1 b A) 14 0) := (hR4 1570 (by omega)).trans (cE_sc (k := 0) (by omega))
      refine q_aload_n (pc' := 34) dX11_ticks_33 rfl rfl (q_getR (pc' := 37) dX11_ticks_34 rfl fr_RX11_51 ⟨by omega, rfl⟩ rfl (wM_36 hM) (by decide) (q_sipush (pc' := 40) _ dX11_ticks_37 rfl kk_sipush_1570 (q_dup2 (pc' := 41) dX11_ticks_40 rfl (q_ialde (pc' := 42) _ dX11_ticks_41 rfl (by first | exact ⟨by omega, rfl⟩ | exact okaS hi hz (by decide) rfl | assumption) rfl (by omega) e1 (q_iconst (pc' := 43) _ dX11_ticks_42 rfl kk_iconst_1 (q_iadd (pc' := 44) dX11_ticks_43 rfl ?_))))))
      refine q_top (nI_add _ _) ?_
      exact q_iast (pc' := 45) _ dX11_ticks_44 rfl (by first | exact ⟨by omega, rfl⟩ | exact okaS hi hz (by decide) rfl | assumption) rfl (by omega) (q_vret dX11_ticks_45 rfl (hQ _ _ _ _ ⟨rfl, ⟨rfl, rfl⟩, (hF0.tr hF4).tr mF_up, rR_sc (j := 0) hR4 (by decide)⟩))
    | succ m ih =>
      intro k I0 hkm hF0 hR0
      have hb := mB_F hF0 hb
      have h1 := aTick1_ok hk hA hP k (by omega)
      have ih2 := ih (k + 1)
      have hstep : itN (fun p A => if A 9 p = 1 then aHandle b A p else A) (k + 1) A = if (itN (fun p A => if A 9 p = 1 then aHandle b A p else A) k A) 9 k = 1 then aHandle b (itN (fun p A => if A 9 p = 1 then aHandle b A p else A) k A) k else (itN (fun p A => if A 9 p = 1 then aHandle b A p else A) k A) := rfl
      rw [hstep] at ih2
      generalize itN (fun p A => if A 9 p = 1 then aHandle b A p else A) k A = Ak at hR0 h1 ih2 ⊢
      refine q_iload_n (pc' := 3) dX11_ticks_2 rfl rfl (q_aload_n (pc' := 4) dX11_ticks_3 rfl rfl (q_getIe (pc' := 7) dX11_ticks_4 rfl fr_RX11_240 ⟨by omega, rfl⟩ rfl (mB_0 hb) (q_icmp_ge (pc' := 10) (pt := 29) dX11_ticks_7 rfl rfl (fun h9 => absurd h9 (by (first | assumption | exact nI_le (by omega) (by omega) | exact nI_ge (by omega) (by omega) | exact nI_lt (by omega) (by omega) | exact nI_nlt (by omega) (by omega) | exact nI_ne (by omega) (by omega) (by omega) | exact nI_e (by omega) | decide))) (fun _ => (q_aload_n (pc' := 11) dX11_ticks_10 rfl rfl (q_iload_n (pc' := 12) dX11_ticks_11 rfl rfl (q_cVi (pc' := 15) dX11_ticks_12 rfl ml_RX11_292 yv_X11_isOnline (by decide) (rn_X11_isOnline hM hR0 h1.1 (by omega)) ⟨by omega, rfl⟩ rfl rfl (Nat.le_of_ble_eq_true rfl) (Nat.le_refl _) (q_ifb_eq (pc' := 18) (pt := 23) dX11_ticks_15 rfl rfl (fun h2 => ?_) (fun h2 => ?_)))))))))
      · rw [if_neg (beq_eq_false_iff_ne.mp h2)] at ih2
        refine q_inc_1 (pc' := 26) dX11_ticks_23 rfl (by decide) rfl (q_goto (pc' := 2) dX11_ticks_26 rfl ?_)
        exact ih2 I0 (by omega) hF0 hR0
      · rw [if_pos (beq_iff_eq.mp h2)] at ih2
        refine q_aload_n (pc' := 19) dX11_ticks_18 rfl rfl (q_iload_n (pc' := 20) dX11_ticks_19 rfl rfl (q_sVv (pc' := 23) dX11_ticks_20 rfl ml_RX11_372 yv_X11_handles (by decide) (rs_X11_handles hM hb hk hR0 h1.1 h1.2 (by omega)) ⟨by omega, rfl⟩ rfl rfl (Nat.le_of_ble_eq_true rfl) (Nat.le_refl _) (fun I4 ⟨hF4, hR4⟩ => ?_)))
        refine q_inc_1 (pc' := 26) dX11_ticks_23 rfl (by decide) rfl (q_goto (pc' := 2) dX11_ticks_26 rfl ?_)
        exact ih2 I4 (by omega) (hF0.tr hF4) hR4
  refine q_iconst (pc' := 1) _ dX11_ticks_0 rfl kk_iconst_0 (q_ist_1 (pc' := 2) dX11_ticks_1 rfl (by decide) rfl ?_)
  exact loop (b 0 0) 0 I (by omega) mF.rf hR
end M10
