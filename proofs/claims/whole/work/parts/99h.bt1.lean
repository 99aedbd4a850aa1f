/-! ===== the class: a BOARD read, sizes ===== -/
section BT1
variable {w : mj_Wd} {l : Launch} {I : mj_M} {J : mj_J} {R : mj_R} {T : Nat → Nat} {sz : Nat}
theorem kW_bad {K : Nat → Nat} {x : Nat} (h : K 8 ≠ 0) : kW K x = K := if_neg h
theorem rt_X1_readSize {j : Nat} {x y : Bool} {lo hi : Int32} (hV : mj_wV R) (hkw : cKw J) (h800 : sz ≤ 800) (h : cRd I J T sz j) (h5 : kSq T sz j 5 = 1) (hx : I 16 4 = bI x) (hf : I 10 16 = nI 0 ∧ I 10 17 = -1) : RtI w l yX1_readSize dd_X1_readSize [.ref 16, .int (bI y), .int lo, .int hi] (472, I, J, R) (fun r I' J' R' => r = bI (kN (kL2 T sz (kSq T sz j) x y) lo hi 8 == 0) ∧ cGo I' J' T sz (j + 1) (kN (kL2 T sz (kSq T sz j) x y) lo hi) ∧ mAd I J I' J' ∧ R' = R) := by
  have hc : cCur I J T (kSq T sz j) := by obtain ⟨m, _, _, hc, _⟩ := h; exact hc
  have h8 := (kSq_89 (T := T) (sz := sz) j).1
  have hw : ∀ v, kW (kSq T sz j) v 8 = v := fun v => by rw [kW_8 h8, if_neg (by omega)]
  refine rt_intro2 (L := [some (.ref 16), some (.int (bI y)), some (.int lo), some (.int hi)]) ⟨by decide, rfl, (fun h => by cases h)⟩ (Nat.le_of_ble_eq_true rfl) rfl (fun Y Q hQ => ?_)
  cases x with
  | true =>
    have e1 : kL1 (kSq T sz j) true y = kW (kSq T sz j) 2 := by
      unfold kL1
      cases y with
      | true => exact kW_bad (by rw [if_pos rfl, hw]; decide)
      | false => rfl
    have e2 : kN (kL2 T sz (kSq T sz j) true y) lo hi = kW (kSq T sz j) 2 := by
      unfold kL2
      rw [e1, if_neg (by rw [hw]; decide)]
      exact kN_bad (by rw [hw]; decide)
    rw [e2, hw] at hQ
    refine q_aload_n (pc' := 1) dX1_readSize_0 rfl rfl (q_getIe (pc' := 4) dX1_readSize_1 rfl fr_RX1_32 ⟨by omega, rfl⟩ rfl hx (q_ifb_eq (pc' := 7) (pt := 16) dX1_readSize_4 rfl rfl (fun h9 => Bool.noConfusion (Eq.trans (Eq.symm (rfl)) h9)) (fun _ => (q_aload_n (pc' := 8) dX1_readSize_7 rfl rfl (q_getR (pc' := 11) dX1_readSize_8 rfl fr_RX1_18 ⟨by omega, rfl⟩ rfl (wV_1_0 hV) (by decide) (q_iconst (pc' := 12) _ dX1_readSize_11 rfl kk_iconst_2 (q_cVi (pc' := 15) dX1_readSize_12 rfl ml_RX1_85 yv_X9_blame (by decide) (rn_X9_blame) ⟨by omega, rfl⟩ rfl rfl (Nat.le_of_ble_eq_true rfl) (Nat.le_refl _) ?_)))))))
    exact q_zret dX1_readSize_15 rfl (Or.inl rfl) (hQ _ _ _ _ ⟨_, rfl, rfl, fB_go hc h8 (hw 2) (by decide), fB_ad, rfl⟩)
  | false =>
    cases y with
    | true =>
      have e1 : kL1 (kSq T sz j) false true = kW (kSq T sz j) 3 := rfl
      have e2 : kN (kL2 T sz (kSq T sz j) false true) lo hi = kW (kSq T sz j) 3 := by
        unfold kL2
        rw [e1, if_neg (by rw [hw]; decide)]
        exact kN_bad (by rw [hw]; decide)
      rw [e2, hw] at hQ
      refine q_aload_n (pc' := 1) dX1_readSize_0 rfl rfl (q_getIe (pc' := 4) dX1_readSize_1 rfl fr_RX1_32 ⟨by omega, rfl⟩ rfl hx (q_ifb_eq (pc' := 7) (pt := 16) dX1_readSize_4 rfl rfl (fun _ => (q_iload_n (pc' := 17) dX1_readSize_16 rfl rfl (q_ifb_eq (pc' := 20) (pt := 29) dX1_readSize_17 rfl rfl (fun h9 => Bool.noConfusion (Eq.trans (Eq.symm (rfl)) h9)) (fun _ => (q_aload_n (pc' := 21) dX1_readSize_20 rfl rfl (q_getR (pc' := 24) dX1_readSize_21 rfl fr_RX1_18 ⟨by omega, rfl⟩ rfl (wV_1_0 hV) (by decide) (q_iconst (pc' := 25) _ dX1_readSize_24 rfl kk_iconst_3 (q_cVi (pc' := 28) dX1_readSize_25 rfl ml_RX1_85 yv_X9_blame (by decide) (rn_X9_blame) ⟨by omega, rfl⟩ rfl rfl (Nat.le_of_ble_eq_true rfl) (Nat.le_refl _) ?_)))))))) (fun h9 => Bool.noConfusion (Eq.trans (Eq.symm (rfl)) h9))))
      exact q_zret dX1_readSize_28 rfl (Or.inl rfl) (hQ _ _ _ _ ⟨_, rfl, rfl, fB_go hc h8 (hw 3) (by decide), fB_ad, rfl⟩)
    | false =>
      have e1 : kL2 T sz (kSq T sz j) false false = kSq T sz (j + 1) := by
        have : kL1 (kSq T sz j) false false = kSq T sz j := rfl
        unfold kL2
        rw [this, if_pos h8]
        rfl
      rw [e1] at hQ
      refine q_aload_n (pc' := 1) dX1_readSize_0 rfl rfl (q_getIe (pc' := 4) dX1_readSize_1 rfl fr_RX1_32 ⟨by omega, rfl⟩ rfl hx (q_ifb_eq (pc' := 7) (pt := 16) dX1_readSize_4 rfl rfl (fun _ => (q_iload_n (pc' := 17) dX1_readSize_16 rfl rfl (q_ifb_eq (pc' := 20) (pt := 29) dX1_readSize_17 rfl rfl (fun _ => (q_aload_n (pc' := 30) dX1_readSize_29 rfl rfl (q_getR (pc' := 33) dX1_readSize_30 rfl fr_RX1_18 ⟨by omega, rfl⟩ rfl (wV_1_0 hV) (by decide) (q_tVv (pc' := 36) dX1_readSize_33 rfl ml_RX1_76 yv_X9_advance (by decide) (rt_X9_adv hV hkw h800 h (by rw [h5]; decide)) ⟨by omega, rfl⟩ rfl rfl (Nat.le_of_ble_eq_true rfl) (Nat.le_refl _) (fun I2 J2 R2 ⟨c1, f1, f2, f3, hR2⟩ => ?_))))) (fun h9 => Bool.noConfusion (Eq.trans (Eq.symm (rfl)) h9))))) (fun h9 => Bool.noConfusion (Eq.trans (Eq.symm (rfl)) h9))))
      have hR2 : R2 = R := hR2
      rw [hR2]
      have hc2 : cCur I2 J2 T (kSq T sz (j + 1)) := by obtain ⟨m, _, _, hc, _⟩ := c1; exact hc
      have h82 := (kSq_89 (T := T) (sz := sz) (j + 1)).1
      have hm2 : mAd I J I2 J2 := ⟨f1, fun f hf2 => f2 f (by omega), f3⟩
      refine q_aload_n (pc' := 37) dX1_readSize_36 rfl rfl (q_getR (pc' := 40) dX1_readSize_37 rfl fr_RX1_18 ⟨by omega, rfl⟩ rfl (wV_1_0 hV) (by decide) (q_iload_n (pc' := 41) dX1_readSize_40 rfl rfl (q_iload_n (pc' := 42) dX1_readSize_41 rfl rfl (q_cVi (pc' := 45) dX1_readSize_42 rfl ml_RX1_89 yv_X9_fitsNumber (by decide) (rn_X9_fitsNumber hc2 (kOK_sq (j + 1)) h82) ⟨by omega, rfl⟩ rfl rfl (Nat.le_of_ble_eq_true rfl) (Nat.le_refl _) ?_))))
      refine q_zret dX1_readSize_45 rfl (bI_01 _) (hQ _ _ _ _ ⟨_, rfl, rfl, ?_, ?_, rfl⟩)
      · by_cases hg : kN (kSq T sz (j + 1)) lo hi 8 = 0
        · rw [if_pos hg]
          have eN : kN (kSq T sz (j + 1)) lo hi = kSq T sz (j + 1) := by
            unfold kN at hg ⊢
            rw [if_pos h82] at hg ⊢
            by_cases h2 : kSq T sz (j + 1) 5 = 2
            · rw [if_pos h2] at hg ⊢
              by_cases hr : lo ≤ nI (kSq T sz (j + 1) 6) ∧ nI (kSq T sz (j + 1) 6) ≤ hi
              · rw [if_pos hr]
              · rw [if_neg hr, kW_8 h82, if_neg (by omega)] at hg
                cases hg
            · rw [if_neg h2, kW_8 h82] at hg
              split at hg <;> cases hg
          rw [eN]
          exact Or.inl ⟨h82, rfl, c1, (f2 16 (by decide)).trans hf.1, (f2 17 (by decide)).trans hf.2⟩
        · rw [if_neg hg]
          have eN : ∃ v, kN (kSq T sz (j + 1)) lo hi = kW (kSq T sz (j + 1)) v := by
            unfold kN at hg ⊢
            rw [if_pos h82] at hg ⊢
            by_cases h2 : kSq T sz (j + 1) 5 = 2
            · rw [if_pos h2] at hg ⊢
              by_cases hr : lo ≤ nI (kSq T sz (j + 1) 6) ∧ nI (kSq T sz (j + 1) 6) ≤ hi
              · rw [if_pos hr] at hg
                exact absurd h82 hg
              · rw [if_neg hr]; exact ⟨4, rfl⟩
            · rw [if_neg h2]; exact ⟨2, rfl⟩
          obtain ⟨v, e⟩ := eN
          rw [e] at hg ⊢
          exact fB_go hc2 h82 rfl hg
      · split
        · exact hm2
        · have q := fB_ad (I := I2) (J := J2) (x := kN (kSq T sz (j + 1)) lo hi 8)
          exact ⟨fun a ha => (q.1 a ha).trans (hm2.1 a ha), fun f hf2 => (q.2.1 f hf2).trans (hm2.2.1 f hf2), hm2.2.2⟩
end BT1
