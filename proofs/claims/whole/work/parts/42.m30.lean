/-! ===== the reference: words of its own, names, sets ===== -/
/-- the reader after numberHere, numberIn -/
def kN (K : Nat → Nat) (x y : Int32) : Nat → Nat := if K 8 = 0 then (if K 5 = 2 then (if x ≤ nI (K 6) ∧ nI (K 6) ≤ y then K else kW K 4) else kW K 2) else K
def kNi (T : Nat → Nat) (sz : Nat) (K : Nat → Nat) (x y : Int32) : Nat → Nat := if kN K x y 8 = 0 then tkK T sz (kN K x y) else kN K x y
theorem kOK_n {sz : Nat} {K : Nat → Nat} {x y : Int32} (h : kOK sz K) : kOK sz (kN K x y) := by
  unfold kN
  split
  · split
    · split
      · exact h
      · exact kOK_w h (by decide)
    · exact kOK_w h (by decide)
  · exact h
theorem kOK_ni {T : Nat → Nat} {sz : Nat} {K : Nat → Nat} {x y : Int32} (h : kOK sz K) : kOK sz (kNi T sz K x y) := by
  unfold kNi
  split
  · exact kOK_tk (kOK_n h)
  · exact kOK_n h
/-- which order the TOKEN is -/
def ordN (K : Nat → Nat) : Option Nat := if kIs K 495873782388 = true then some 0 else if kIs K 1937010544 = true then some 1 else if kIs K 427020085613 = true then some 2 else if kIs K 491260572517 = true then some 3 else if kIs K 1818326117 = true then some 4 else if kIs K 1836021349 = true then some 5 else if kIs K 1953063787 = true then some 6 else if kIs K 1886156135 = true then some 7 else if kIs K 129117193008487 = true then some 8 else none
/-- whether the word is one of the language's own -/
def ownW (x : Nat) : Bool := (x == 1668314483) || (x == 33325525081485939) || (x == 1801810036) || (x == 7300710) || (x == 110386941092709) || (x == 28526) || (x == 126896661032037) || (x == 444301538672) || (x == 30787899169924452) || (x == 29807)
section M30
variable {w : mj_Wd} {l : Launch} {I : mj_M} {J : mj_J} {R : mj_R} {b A : St} {T : Nat → Nat} {sz : Nat} {K : Nat → Nat}
theorem rs_number {x y : Int32} (h : mRd I J T sz K) (hk : kOK sz K) : RsI w l yX11_numberHere dd_X11_numberHere [.ref 452, .int x, .int y] (472, I, J, R) (fun r I' => r = (if K 8 = 0 then nI (K 6) else 0) ∧ mRd I' J T sz (kN K x y) ∧ mRf I J I' J) := rs_X11_numberHere h hk
theorem rt_X11_numberIn {x y : Int32} (hM : mj_wM R) (h : mRd I J T sz K) (hk : kOK sz K) : RtI w l yX11_numberIn dd_X11_numberIn [.ref 452, .int x, .int y] (472, I, J, R) (fun r I' J' R' => r = (if K 8 = 0 then nI (K 6) else 0) ∧ mRd I' J' T sz (kNi T sz K x y) ∧ mRf I J I' J' ∧ R' = R) := by
  refine rt_intro2 (L := [some (.ref 452), some (.int x), some (.int y), none]) ⟨by decide, rfl, (fun h => by cases h)⟩ (Nat.le_of_ble_eq_true rfl) rfl (fun Y Q hQ => ?_)
  refine q_aload_n (pc' := 1) dX11_numberIn_0 rfl rfl (q_iload_n (pc' := 2) dX11_numberIn_1 rfl rfl (q_iload_n (pc' := 3) dX11_numberIn_2 rfl rfl (q_sVi (pc' := 6) dX11_numberIn_3 rfl ml_RX11_178 yv_X11_numberHere (by decide) (rs_number h hk) ⟨by omega, rfl⟩ rfl rfl (Nat.le_of_ble_eq_true rfl) (Nat.le_refl _) (fun x1 I1 ⟨r1, h1, f1⟩ => ?_))))
  have hk1 := kOK_n (x := x) (y := y) hk
  unfold kNi at hQ
  by_cases hg : kN K x y 8 = 0
  · rw [if_pos hg] at hQ
    refine q_ist_3 (pc' := 7) dX11_numberIn_6 rfl (by decide) rfl (q_aload_n (pc' := 8) dX11_numberIn_7 rfl rfl (q_cVi (pc' := 11) dX11_numberIn_8 rfl ml_RX11_182 yv_X11_isGood (by decide) (rn_good h1 hk1) ⟨by omega, rfl⟩ rfl rfl (Nat.le_of_ble_eq_true rfl) (Nat.le_refl _) (q_ifb_eq (pc' := 14) (pt := 18) dX11_numberIn_11 rfl rfl (fun h9 => Bool.noConfusion (Eq.trans (Eq.symm (beq_iff_eq.mpr hg)) h9)) (fun _ => (q_aload_n (pc' := 15) dX11_numberIn_14 rfl rfl (q_tVv (pc' := 18) dX11_numberIn_15 rfl ml_RX11_186 yv_X11_goOn (by decide) (rt_X11_goOn hM h1 hk1.1) ⟨by omega, rfl⟩ rfl rfl (Nat.le_of_ble_eq_true rfl) (Nat.le_refl _) (fun I2 J2 R2 ⟨h2, f2, rfl⟩ => ?_)))))))
    exact q_iload_n (pc' := 19) dX11_numberIn_18 rfl rfl (q_iret dX11_numberIn_19 rfl (hQ _ _ _ _ ⟨_, rfl, r1, h2, f1.tr f2, rfl⟩))
  · rw [if_neg hg] at hQ
    exact q_ist_3 (pc' := 7) dX11_numberIn_6 rfl (by decide) rfl (q_aload_n (pc' := 8) dX11_numberIn_7 rfl rfl (q_cVi (pc' := 11) dX11_numberIn_8 rfl ml_RX11_182 yv_X11_isGood (by decide) (rn_good h1 hk1) ⟨by omega, rfl⟩ rfl rfl (Nat.le_of_ble_eq_true rfl) (Nat.le_refl _) (q_ifb_eq (pc' := 14) (pt := 18) dX11_numberIn_11 rfl rfl (fun _ => (q_iload_n (pc' := 19) dX11_numberIn_18 rfl rfl (q_iret dX11_numberIn_19 rfl (hQ _ _ _ _ ⟨_, rfl, r1, h1, f1, rfl⟩)))) (fun h9 => Bool.noConfusion (Eq.trans (Eq.symm (beq_eq_false_iff_ne.mpr hg)) h9)))))
theorem rn_X11_orderHere (h : mRd I J T sz K) (hk : kOK sz K) : Rn w l yX11_orderHere dd_X11_orderHere [.ref 452] (472, I, J, R) (some (.int (oI (ordN K)))) (472, I, J, R) := by
  unfold ordN
  refine rn_intro2 (L := [some (.ref 452)]) ⟨by decide, rfl, (fun h => by cases h)⟩ (Nat.le_refl _) (Nat.le_of_ble_eq_true rfl) rfl (fun Y Q hQ => ?_)
  by_cases h0 : kIs K 495873782388 = true
  · rw [if_pos h0] at hQ
    exact q_aload_n (pc' := 1) dX11_orderHere_0 rfl rfl (q_ldc2 (pc' := 4) _ dX11_orderHere_1 rfl kl_RX11_129 (q_cVi (pc' := 7) dX11_orderHere_4 rfl ml_RX11_131 yv_X11_isWord (by decide) (rn_word 495873782388 h hk (by decide)) ⟨by omega, rfl⟩ rfl rfl (Nat.le_of_ble_eq_true rfl) (Nat.le_refl _) (q_ifb_eq (pc' := 10) (pt := 12) dX11_orderHere_7 rfl rfl (fun h9 => Bool.noConfusion (Eq.trans (Eq.symm (h0)) h9)) (fun _ => (q_iconst (pc' := 11) _ dX11_orderHere_10 rfl kk_iconst_0 (q_iret dX11_orderHere_11 rfl hQ))))))
  rw [if_neg h0] at hQ
  refine q_aload_n (pc' := 1) dX11_orderHere_0 rfl rfl (q_ldc2 (pc' := 4) _ dX11_orderHere_1 rfl kl_RX11_129 (q_cVi (pc' := 7) dX11_orderHere_4 rfl ml_RX11_131 yv_X11_isWord (by decide) (rn_word 495873782388 h hk (by decide)) ⟨by omega, rfl⟩ rfl rfl (Nat.le_of_ble_eq_true rfl) (Nat.le_refl _) (q_ifb_eq (pc' := 10) (pt := 12) dX11_orderHere_7 rfl rfl (fun _ => ?_) (fun h9 => Bool.noConfusion (Eq.trans (Eq.symm (Bool.eq_false_iff.mpr h0)) h9)))))
  by_cases h1 : kIs K 1937010544 = true
  · rw [if_pos h1] at hQ
    exact q_aload_n (pc' := 13) dX11_orderHere_12 rfl rfl (q_ldc2 (pc' := 16) _ dX11_orderHere_13 rfl kl_RX11_135 (q_cVi (pc' := 19) dX11_orderHere_16 rfl ml_RX11_131 yv_X11_isWord (by decide) (rn_word 1937010544 h hk (by decide)) ⟨by omega, rfl⟩ rfl rfl (Nat.le_of_ble_eq_true rfl) (Nat.le_refl _) (q_ifb_eq (pc' := 22) (pt := 24) dX11_orderHere_19 rfl rfl (fun h9 => Bool.noConfusion (Eq.trans (Eq.symm (h1)) h9)) (fun _ => (q_iconst (pc' := 23) _ dX11_orderHere_22 rfl kk_iconst_1 (q_iret dX11_orderHere_23 rfl hQ))))))
  rw [if_neg h1] at hQ
  refine q_aload_n (pc' := 13) dX11_orderHere_12 rfl rfl (q_ldc2 (pc' := 16) _ dX11_orderHere_13 rfl kl_RX11_135 (q_cVi (pc' := 19) dX11_orderHere_16 rfl ml_RX11_131 yv_X11_isWord (by decide) (rn_word 1937010544 h hk (by decide)) ⟨by omega, rfl⟩ rfl rfl (Nat.le_of_ble_eq_true rfl) (Nat.le_refl _) (q_ifb_eq (pc' := 22) (pt := 24) dX11_orderHere_19 rfl rfl (fun _ => ?_) (fun h9 => Bool.noConfusion (Eq.trans (Eq.symm (Bool.eq_false_iff.mpr h1)) h9)))))
  by_cases h2 : kIs K 427020085613 = true
  · rw [if_pos h2] at hQ
    exact q_aload_n (pc' := 25) dX11_orderHere_24 rfl rfl (q_ldc2 (pc' := 28) _ dX11_orderHere_25 rfl kl_RX11_137 (q_cVi (pc' := 31) dX11_orderHere_28 rfl ml_RX11_131 yv_X11_isWord (by decide) (rn_word 427020085613 h hk (by decide)) ⟨by omega, rfl⟩ rfl rfl (Nat.le_of_ble_eq_true rfl) (Nat.le_refl _) (q_ifb_eq (pc' := 34) (pt := 36) dX11_orderHere_31 rfl rfl (fun h9 => Bool.noConfusion (Eq.trans (Eq.symm (h2)) h9)) (fun _ => (q_iconst (pc' := 35) _ dX11_orderHere_34 rfl kk_iconst_2 (q_iret dX11_orderHere_35 rfl hQ))))))
  rw [if_neg h2] at hQ
  refine q_aload_n (pc' := 25) dX11_orderHere_24 rfl rfl (q_ldc2 (pc' := 28) _ dX11_orderHere_25 rfl kl_RX11_137 (q_cVi (pc' := 31) dX11_orderHere_28 rfl ml_RX11_131 yv_X11_isWord (by decide) (rn_word 427020085613 h hk (by decide)) ⟨by omega, rfl⟩ rfl rfl (Nat.le_of_ble_eq_true rfl) (Nat.le_refl _) (q_ifb_eq (pc' := 34) (pt := 36) dX11_orderHere_31 rfl rfl (fun _ => ?_) (fun h9 => Bool.noConfusion (Eq.trans (Eq.symm (Bool.eq_false_iff.mpr h2)) h9)))))
  by_cases h3 : kIs K 491260572517 = true
  · rw [if_pos h3] at hQ
    exact q_aload_n (pc' := 37) dX11_orderHere_36 rfl rfl (q_ldc2 (pc' := 40) _ dX11_orderHere_37 rfl kl_RX11_139 (q_cVi (pc' := 43) dX11_orderHere_40 rfl ml_RX11_131 yv_X11_isWord (by decide) (rn_word 491260572517 h hk (by decide)) ⟨by omega, rfl⟩ rfl rfl (Nat.le_of_ble_eq_true rfl) (Nat.le_refl _) (q_ifb_eq (pc' := 46) (pt := 48) dX11_orderHere_43 rfl rfl (fun h9 => Bool.noConfusion (Eq.trans (Eq.symm (h3)) h9)) (fun _ => (q_iconst (pc' := 47) _ dX11_orderHere_46 rfl kk_iconst_3 (q_iret dX11_orderHere_47 rfl hQ))))))
  rw [if_neg h3] at hQ
  refine q_aload_n (pc' := 37) dX11_orderHere_36 rfl rfl (q_ldc2 (pc' := 40) _ dX11_orderHere_37 rfl kl_RX11_139 (q_cVi (pc' := 43) dX11_orderHere_40 rfl ml_RX11_131 yv_X11_isWord (by decide) (rn_word 491260572517 h hk (by decide)) ⟨by omega, rfl⟩ rfl rfl (Nat.le_of_ble_eq_true rfl) (Nat.le_refl _) (q_ifb_eq (pc' := 46) (pt := 48) dX11_orderHere_43 rfl rfl (fun _ => ?_) (fun h9 => Bool.noConfusion (Eq.trans (Eq.symm (Bool.eq_false_iff.mpr h3)) h9)))))
  by_cases h4 : kIs K 1818326117 = true
  · rw [if_pos h4] at hQ
    exact q_aload_n (pc' := 49) dX11_orderHere_48 rfl rfl (q_ldc2 (pc' := 52) _ dX11_orderHere_49 rfl kl_RX11_141 (q_cVi (pc' := 55) dX11_orderHere_52 rfl ml_RX11_131 yv_X11_isWord (by decide) (rn_word 1818326117 h hk (by decide)) ⟨by omega, rfl⟩ rfl rfl (Nat.le_of_ble_eq_true rfl) (Nat.le_refl _) (q_ifb_eq (pc' := 58) (pt := 60) dX11_orderHere_55 rfl rfl (fun h9 => Bool.noConfusion (Eq.trans (Eq.symm (h4)) h9)) (fun _ => (q_iconst (pc' := 59) _ dX11_orderHere_58 rfl kk_iconst_4 (q_iret dX11_orderHere_59 rfl hQ))))))
  rw [if_neg h4] at hQ
  refine q_aload_n (pc' := 49) dX11_orderHere_48 rfl rfl (q_ldc2 (pc' := 52) _ dX11_orderHere_49 rfl kl_RX11_141 (q_cVi (pc' := 55) dX11_orderHere_52 rfl ml_RX11_131 yv_X11_isWord (by decide) (rn_word 1818326117 h hk (by decide)) ⟨by omega, rfl⟩ rfl rfl (Nat.le_of_ble_eq_true rfl) (Nat.le_refl _) (q_ifb_eq (pc' := 58) (pt := 60) dX11_orderHere_55 rfl rfl (fun _ => ?_) (fun h9 => Bool.noConfusion (Eq.trans (Eq.symm (Bool.eq_false_iff.mpr h4)) h9)))))
  by_cases h5 : kIs K 1836021349 = true
  · rw [if_pos h5] at hQ
    exact q_aload_n (pc' := 61) dX11_orderHere_60 rfl rfl (q_ldc2 (pc' := 64) _ dX11_orderHere_61 rfl kl_RX11_143 (q_cVi (pc' := 67) dX11_orderHere_64 rfl ml_RX11_131 yv_X11_isWord (by decide) (rn_word 1836021349 h hk (by decide)) ⟨by omega, rfl⟩ rfl rfl (Nat.le_of_ble_eq_true rfl) (Nat.le_refl _) (q_ifb_eq (pc' := 70) (pt := 72) dX11_orderHere_67 rfl rfl (fun h9 => Bool.noConfusion (Eq.trans (Eq.symm (h5)) h9)) (fun _ => (q_iconst (pc' := 71) _ dX11_orderHere_70 rfl kk_iconst_5 (q_iret dX11_orderHere_71 rfl hQ))))))
  rw [if_neg h5] at hQ
  refine q_aload_n (pc' := 61) dX11_orderHere_60 rfl rfl (q_ldc2 (pc' := 64) _ dX11_orderHere_61 rfl kl_RX11_143 (q_cVi (pc' := 67) dX11_orderHere_64 rfl ml_RX11_131 yv_X11_isWord (by decide) (rn_word 1836021349 h hk (by decide)) ⟨by omega, rfl⟩ rfl rfl (Nat.le_of_ble_eq_true rfl) (Nat.le_refl _) (q_ifb_eq (pc' := 70) (pt := 72) dX11_orderHere_67 rfl rfl (fun _ => ?_) (fun h9 => Bool.noConfusion (Eq.trans (Eq.symm (Bool.eq_false_iff.mpr h5)) h9)))))
  by_cases h6 : kIs K 1953063787 = true
  · rw [if_pos h6] at hQ
    exact q_aload_n (pc' := 73) dX11_orderHere_72 rfl rfl (q_ldc2 (pc' := 76) _ dX11_orderHere_73 rfl kl_RX11_145 (q_cVi (pc' := 79) dX11_orderHere_76 rfl ml_RX11_131 yv_X11_isWord (by decide) (rn_word 1953063787 h hk (by decide)) ⟨by omega, rfl⟩ rfl rfl (Nat.le_of_ble_eq_true rfl) (Nat.le_refl _) (q_ifb_eq (pc' := 82) (pt := 85) dX11_orderHere_79 rfl rfl (fun h9 => Bool.noConfusion (Eq.trans (Eq.symm (h6)) h9)) (fun _ => (q_bipush (pc' := 84) _ dX11_orderHere_82 rfl kk_bipush_6 (q_iret dX11_orderHere_84 rfl hQ))))))
  rw [if_neg h6] at hQ
  refine q_aload_n (pc' := 73) dX11_orderHere_72 rfl rfl (q_ldc2 (pc' := 76) _ dX11_orderHere_73 rfl kl_RX11_145 (q_cVi (pc' := 79) dX11_orderHere_76 rfl ml_RX11_131 yv_X11_isWord (by decide) (rn_word 1953063787 h hk (by decide)) ⟨by omega, rfl⟩ rfl rfl (Nat.le_of_ble_eq_true rfl) (Nat.le_refl _) (q_ifb_eq (pc' := 82) (pt := 85) dX11_orderHere_79 rfl rfl (fun _ => ?_) (fun h9 => Bool.noConfusion (Eq.trans (Eq.symm (Bool.eq_false_iff.mpr h6)) h9)))))
  by_cases h7 : kIs K 1886156135 = true
  · rw [if_pos h7] at hQ
    exact q_aload_n (pc' := 86) dX11_orderHere_85 rfl rfl (q_ldc2 (pc' := 89) _ dX11_orderHere_86 rfl kl_RX11_147 (q_cVi (pc' := 92) dX11_orderHere_89 rfl ml_RX11_131 yv_X11_isWord (by decide) (rn_word 1886156135 h hk (by decide)) ⟨by omega, rfl⟩ rfl rfl (Nat.le_of_ble_eq_true rfl) (Nat.le_refl _) (q_ifb_eq (pc' := 95) (pt := 98) dX11_orderHere_92 rfl rfl (fun h9 => Bool.noConfusion (Eq.trans (Eq.symm (h7)) h9)) (fun _ => (q_bipush (pc' := 97) _ dX11_orderHere_95 rfl kk_bipush_7 (q_iret dX11_orderHere_97 rfl hQ))))))
  rw [if_neg h7] at hQ
  refine q_aload_n (pc' := 86) dX11_orderHere_85 rfl rfl (q_ldc2 (pc' := 89) _ dX11_orderHere_86 rfl kl_RX11_147 (q_cVi (pc' := 92) dX11_orderHere_89 rfl ml_RX11_131 yv_X11_isWord (by decide) (rn_word 1886156135 h hk (by decide)) ⟨by omega, rfl⟩ rfl rfl (Nat.le_of_ble_eq_true rfl) (Nat.le_refl _) (q_ifb_eq (pc' := 95) (pt := 98) dX11_orderHere_92 rfl rfl (fun _ => ?_) (fun h9 => Bool.noConfusion (Eq.trans (Eq.symm (Bool.eq_false_iff.mpr h7)) h9)))))
  by_cases h8 : kIs K 129117193008487 = true
  · rw [if_pos h8] at hQ
    exact q_aload_n (pc' := 99) dX11_orderHere_98 rfl rfl (q_ldc2 (pc' := 102) _ dX11_orderHere_99 rfl kl_RX11_149 (q_cVi (pc' := 105) dX11_orderHere_102 rfl ml_RX11_131 yv_X11_isWord (by decide) (rn_word 129117193008487 h hk (by decide)) ⟨by omega, rfl⟩ rfl rfl (Nat.le_of_ble_eq_true rfl) (Nat.le_refl _) (q_ifb_eq (pc' := 108) (pt := 113) dX11_orderHere_105 rfl rfl (fun h9 => Bool.noConfusion (Eq.trans (Eq.symm (h8)) h9)) (fun _ => (q_bipush (pc' := 110) _ dX11_orderHere_108 rfl kk_bipush_8 (q_goto (pc' := 114) dX11_orderHere_110 rfl (q_iret dX11_orderHere_114 rfl hQ)))))))
  rw [if_neg h8] at hQ
  exact q_aload_n (pc' := 99) dX11_orderHere_98 rfl rfl (q_ldc2 (pc' := 102) _ dX11_orderHere_99 rfl kl_RX11_149 (q_cVi (pc' := 105) dX11_orderHere_102 rfl ml_RX11_131 yv_X11_isWord (by decide) (rn_word 129117193008487 h hk (by decide)) ⟨by omega, rfl⟩ rfl rfl (Nat.le_of_ble_eq_true rfl) (Nat.le_refl _) (q_ifb_eq (pc' := 108) (pt := 113) dX11_orderHere_105 rfl rfl (fun _ => (q_iconst (pc' := 114) _ dX11_orderHere_113 rfl kk_iconst_m1 (q_iret dX11_orderHere_114 rfl hQ))) (fun h9 => Bool.noConfusion (Eq.trans (Eq.symm (Bool.eq_false_iff.mpr h8)) h9)))))
theorem ordN_lt {i : Nat} (h : ordN K = some i) : i < 9 := by
  unfold ordN at h
  repeat' split at h
  all_goals first | (cases h; done) | (cases h; decide)
theorem rn_X11_isOwn (h : mRd I J T sz K) (hk : kOK sz K) : Rn w l yX11_isOwn dd_X11_isOwn [.ref 452] (472, I, J, R) (some (.int (bI (ownW (K 12) || (ordN K).isSome)))) (472, I, J, R) := by
  have e12 := h.2.2.2.2.1
  have hw := hk.2.2.2.2.1
  have yes : ∀ c, K 12 = c → lg_cmp (J 452 12) (nJ c) = 0 := fun c hc => (lg_cmp_eq _ _).mpr (by rw [e12, hc])
  have no : ∀ c, c < 2 ^ 63 → ¬ K 12 = c → ¬ lg_cmp (J 452 12) (nJ c) = 0 := fun c hc hn q => hn ((nJ_eq hw hc).mp (e12.symm.trans ((lg_cmp_eq _ _).mp q)))
  refine rn_intro2 (L := [some (.ref 452)]) ⟨by decide, rfl, (fun h => by cases h)⟩ (Nat.le_refl _) (Nat.le_of_ble_eq_true rfl) rfl (fun Y Q hQ => ?_)
  by_cases h0 : K 12 = 1668314483
  · exact q_aload_n (pc' := 1) dX11_isOwn_0 rfl rfl (q_getJ (pc' := 4) dX11_isOwn_1 rfl fr_RX11_106 ⟨by omega, rfl⟩ rfl (q_ldc2 (pc' := 7) _ dX11_isOwn_4 rfl kl_RX11_151 (q_lcmp (pc' := 8) dX11_isOwn_7 rfl (q_if_eq (pc' := 11) (pt := 66) dX11_isOwn_8 rfl rfl (fun _ => (q_iconst (pc' := 67) _ dX11_isOwn_66 rfl kk_iconst_1 (q_zret dX11_isOwn_67 rfl (by first | exact Or.inl rfl | exact Or.inr rfl | exact bI_01 _) (by rw [show ownW (K 12) = true by rw [h0]; decide] at hQ; exact hQ)))) (fun h9 => absurd (yes 1668314483 h0) h9)))))
  refine q_aload_n (pc' := 1) dX11_isOwn_0 rfl rfl (q_getJ (pc' := 4) dX11_isOwn_1 rfl fr_RX11_106 ⟨by omega, rfl⟩ rfl (q_ldc2 (pc' := 7) _ dX11_isOwn_4 rfl kl_RX11_151 (q_lcmp (pc' := 8) dX11_isOwn_7 rfl (q_if_eq (pc' := 11) (pt := 66) dX11_isOwn_8 rfl rfl (fun h9 => absurd h9 (no 1668314483 (by decide) h0)) (fun _ => ?_)))))
  by_cases h1 : K 12 = 33325525081485939
  · exact q_aload_n (pc' := 12) dX11_isOwn_11 rfl rfl (q_getJ (pc' := 15) dX11_isOwn_12 rfl fr_RX11_106 ⟨by omega, rfl⟩ rfl (q_ldc2 (pc' := 18) _ dX11_isOwn_15 rfl kl_RX11_153 (q_lcmp (pc' := 19) dX11_isOwn_18 rfl (q_if_eq (pc' := 22) (pt := 66) dX11_isOwn_19 rfl rfl (fun _ => (q_iconst (pc' := 67) _ dX11_isOwn_66 rfl kk_iconst_1 (q_zret dX11_isOwn_67 rfl (by first | exact Or.inl rfl | exact Or.inr rfl | exact bI_01 _) (by rw [show ownW (K 12) = true by rw [h1]; decide] at hQ; exact hQ)))) (fun h9 => absurd (yes 33325525081485939 h1) h9)))))
  refine q_aload_n (pc' := 12) dX11_isOwn_11 rfl rfl (q_getJ (pc' := 15) dX11_isOwn_12 rfl fr_RX11_106 ⟨by omega, rfl⟩ rfl (q_ldc2 (pc' := 18) _ dX11_isOwn_15 rfl kl_RX11_153 (q_lcmp (pc' := 19) dX11_isOwn_18 rfl (q_if_eq (pc' := 22) (pt := 66) dX11_isOwn_19 rfl rfl (fun h9 => absurd h9 (no 33325525081485939 (by decide) h1)) (fun _ => ?_)))))
  by_cases h2 : K 12 = 1801810036
  · exact q_aload_n (pc' := 23) dX11_isOwn_22 rfl rfl (q_getJ (pc' := 26) dX11_isOwn_23 rfl fr_RX11_106 ⟨by omega, rfl⟩ rfl (q_ldc2 (pc' := 29) _ dX11_isOwn_26 rfl kl_RX11_155 (q_lcmp (pc' := 30) dX11_isOwn_29 rfl (q_if_eq (pc' := 33) (pt := 66) dX11_isOwn_30 rfl rfl (fun _ => (q_iconst (pc' := 67) _ dX11_isOwn_66 rfl kk_iconst_1 (q_zret dX11_isOwn_67 rfl (by first | exact Or.inl rfl | exact Or.inr rfl | exact bI_01 _) (by rw [show ownW (K 12) = true by rw [h2]; decide] at hQ; exact hQ)))) (fun h9 => absurd (yes 1801810036 h2) h9)))))
  refine q_aload_n (pc' := 23) dX11_isOwn_22 rfl rfl (q_getJ (pc' := 26) dX11_isOwn_23 rfl fr_RX11_106 ⟨by omega, rfl⟩ rfl (q_ldc2 (pc' := 29) _ dX11_isOwn_26 rfl kl_RX11_155 (q_lcmp (pc' := 30) dX11_isOwn_29 rfl (q_if_eq (pc' := 33) (pt := 66) dX11_isOwn_30 rfl rfl (fun h9 => absurd h9 (no 1801810036 (by decide) h2)) (fun _ => ?_)))))
  by_cases h3 : K 12 = 7300710
  · exact q_aload_n (pc' := 34) dX11_isOwn_33 rfl rfl (q_getJ (pc' := 37) dX11_isOwn_34 rfl fr_RX11_106 ⟨by omega, rfl⟩ rfl (q_ldc2 (pc' := 40) _ dX11_isOwn_37 rfl kl_RX11_157 (q_lcmp (pc' := 41) dX11_isOwn_40 rfl (q_if_eq (pc' := 44) (pt := 66) dX11_isOwn_41 rfl rfl (fun _ => (q_iconst (pc' := 67) _ dX11_isOwn_66 rfl kk_iconst_1 (q_zret dX11_isOwn_67 rfl (by first | exact Or.inl rfl | exact Or.inr rfl | exact bI_01 _) (by rw [show ownW (K 12) = true by rw [h3]; decide] at hQ; exact hQ)))) (fun h9 => absurd (yes 7300710 h3) h9)))))
  refine q_aload_n (pc' := 34) dX11_isOwn_33 rfl rfl (q_getJ (pc' := 37) dX11_isOwn_34 rfl fr_RX11_106 ⟨by omega, rfl⟩ rfl (q_ldc2 (pc' := 40) _ dX11_isOwn_37 rfl kl_RX11_157 (q_lcmp (pc' := 41) dX11_isOwn_40 rfl (q_if_eq (pc' := 44) (pt := 66) dX11_isOwn_41 rfl rfl (fun h9 => absurd h9 (no 7300710 (by decide) h3)) (fun _ => ?_)))))
  by_cases h4 : K 12 = 110386941092709
  · exact q_aload_n (pc' := 45) dX11_isOwn_44 rfl rfl (q_getJ (pc' := 48) dX11_isOwn_45 rfl fr_RX11_106 ⟨by omega, rfl⟩ rfl (q_ldc2 (pc' := 51) _ dX11_isOwn_48 rfl kl_RX11_159 (q_lcmp (pc' := 52) dX11_isOwn_51 rfl (q_if_eq (pc' := 55) (pt := 66) dX11_isOwn_52 rfl rfl (fun _ => (q_iconst (pc' := 67) _ dX11_isOwn_66 rfl kk_iconst_1 (q_zret dX11_isOwn_67 rfl (by first | exact Or.inl rfl | exact Or.inr rfl | exact bI_01 _) (by rw [show ownW (K 12) = true by rw [h4]; decide] at hQ; exact hQ)))) (fun h9 => absurd (yes 110386941092709 h4) h9)))))
  refine q_aload_n (pc' := 45) dX11_isOwn_44 rfl rfl (q_getJ (pc' := 48) dX11_isOwn_45 rfl fr_RX11_106 ⟨by omega, rfl⟩ rfl (q_ldc2 (pc' := 51) _ dX11_isOwn_48 rfl kl_RX11_159 (q_lcmp (pc' := 52) dX11_isOwn_51 rfl (q_if_eq (pc' := 55) (pt := 66) dX11_isOwn_52 rfl rfl (fun h9 => absurd h9 (no 110386941092709 (by decide) h4)) (fun _ => ?_)))))
  by_cases h5 : K 12 = 28526
  · exact q_aload_n (pc' := 56) dX11_isOwn_55 rfl rfl (q_getJ (pc' := 59) dX11_isOwn_56 rfl fr_RX11_106 ⟨by omega, rfl⟩ rfl (q_ldc2 (pc' := 62) _ dX11_isOwn_59 rfl kl_RX11_161 (q_lcmp (pc' := 63) dX11_isOwn_62 rfl (q_if_ne (pc' := 66) (pt := 68) dX11_isOwn_63 rfl rfl (fun h9 => absurd (yes 28526 h5) h9) (fun _ => (q_iconst (pc' := 67) _ dX11_isOwn_66 rfl kk_iconst_1 (q_zret dX11_isOwn_67 rfl (by first | exact Or.inl rfl | exact Or.inr rfl | exact bI_01 _) (by rw [show ownW (K 12) = true by rw [h5]; decide] at hQ; exact hQ))))))))
  refine q_aload_n (pc' := 56) dX11_isOwn_55 rfl rfl (q_getJ (pc' := 59) dX11_isOwn_56 rfl fr_RX11_106 ⟨by omega, rfl⟩ rfl (q_ldc2 (pc' := 62) _ dX11_isOwn_59 rfl kl_RX11_161 (q_lcmp (pc' := 63) dX11_isOwn_62 rfl (q_if_ne (pc' := 66) (pt := 68) dX11_isOwn_63 rfl rfl (fun _ => ?_) (fun h9 => absurd h9 (no 28526 (by decide) h5))))))
  by_cases h6 : K 12 = 126896661032037
  · exact q_aload_n (pc' := 69) dX11_isOwn_68 rfl rfl (q_getJ (pc' := 72) dX11_isOwn_69 rfl fr_RX11_106 ⟨by omega, rfl⟩ rfl (q_ldc2 (pc' := 75) _ dX11_isOwn_72 rfl kl_RX11_163 (q_lcmp (pc' := 76) dX11_isOwn_75 rfl (q_if_eq (pc' := 79) (pt := 120) dX11_isOwn_76 rfl rfl (fun _ => (q_iconst (pc' := 121) _ dX11_isOwn_120 rfl kk_iconst_1 (q_goto (pc' := 125) dX11_isOwn_121 rfl (q_zret dX11_isOwn_125 rfl (by first | exact Or.inl rfl | exact Or.inr rfl | exact bI_01 _) (by rw [show ownW (K 12) = true by rw [h6]; decide] at hQ; exact hQ))))) (fun h9 => absurd (yes 126896661032037 h6) h9)))))
  refine q_aload_n (pc' := 69) dX11_isOwn_68 rfl rfl (q_getJ (pc' := 72) dX11_isOwn_69 rfl fr_RX11_106 ⟨by omega, rfl⟩ rfl (q_ldc2 (pc' := 75) _ dX11_isOwn_72 rfl kl_RX11_163 (q_lcmp (pc' := 76) dX11_isOwn_75 rfl (q_if_eq (pc' := 79) (pt := 120) dX11_isOwn_76 rfl rfl (fun h9 => absurd h9 (no 126896661032037 (by decide) h6)) (fun _ => ?_)))))
  by_cases h7 : K 12 = 444301538672
  · exact q_aload_n (pc' := 80) dX11_isOwn_79 rfl rfl (q_getJ (pc' := 83) dX11_isOwn_80 rfl fr_RX11_106 ⟨by omega, rfl⟩ rfl (q_ldc2 (pc' := 86) _ dX11_isOwn_83 rfl kl_RX11_165 (q_lcmp (pc' := 87) dX11_isOwn_86 rfl (q_if_eq (pc' := 90) (pt := 120) dX11_isOwn_87 rfl rfl (fun _ => (q_iconst (pc' := 121) _ dX11_isOwn_120 rfl kk_iconst_1 (q_goto (pc' := 125) dX11_isOwn_121 rfl (q_zret dX11_isOwn_125 rfl (by first | exact Or.inl rfl | exact Or.inr rfl | exact bI_01 _) (by rw [show ownW (K 12) = true by rw [h7]; decide] at hQ; exact hQ))))) (fun h9 => absurd (yes 444301538672 h7) h9)))))
  refine q_aload_n (pc' := 80) dX11_isOwn_79 rfl rfl (q_getJ (pc' := 83) dX11_isOwn_80 rfl fr_RX11_106 ⟨by omega, rfl⟩ rfl (q_ldc2 (pc' := 86) _ dX11_isOwn_83 rfl kl_RX11_165 (q_lcmp (pc' := 87) dX11_isOwn_86 rfl (q_if_eq (pc' := 90) (pt := 120) dX11_isOwn_87 rfl rfl (fun h9 => absurd h9 (no 444301538672 (by decide) h7)) (fun _ => ?_)))))
  by_cases h8 : K 12 = 30787899169924452
  · exact q_aload_n (pc' := 91) dX11_isOwn_90 rfl rfl (q_getJ (pc' := 94) dX11_isOwn_91 rfl fr_RX11_106 ⟨by omega, rfl⟩ rfl (q_ldc2 (pc' := 97) _ dX11_isOwn_94 rfl kl_RX11_167 (q_lcmp (pc' := 98) dX11_isOwn_97 rfl (q_if_eq (pc' := 101) (pt := 120) dX11_isOwn_98 rfl rfl (fun _ => (q_iconst (pc' := 121) _ dX11_isOwn_120 rfl kk_iconst_1 (q_goto (pc' := 125) dX11_isOwn_121 rfl (q_zret dX11_isOwn_125 rfl (by first | exact Or.inl rfl | exact Or.inr rfl | exact bI_01 _) (by rw [show ownW (K 12) = true by rw [h8]; decide] at hQ; exact hQ))))) (fun h9 => absurd (yes 30787899169924452 h8) h9)))))
  refine q_aload_n (pc' := 91) dX11_isOwn_90 rfl rfl (q_getJ (pc' := 94) dX11_isOwn_91 rfl fr_RX11_106 ⟨by omega, rfl⟩ rfl (q_ldc2 (pc' := 97) _ dX11_isOwn_94 rfl kl_RX11_167 (q_lcmp (pc' := 98) dX11_isOwn_97 rfl (q_if_eq (pc' := 101) (pt := 120) dX11_isOwn_98 rfl rfl (fun h9 => absurd h9 (no 30787899169924452 (by decide) h8)) (fun _ => ?_)))))
  by_cases hh9 : K 12 = 29807
  · exact q_aload_n (pc' := 102) dX11_isOwn_101 rfl rfl (q_getJ (pc' := 105) dX11_isOwn_102 rfl fr_RX11_106 ⟨by omega, rfl⟩ rfl (q_ldc2 (pc' := 108) _ dX11_isOwn_105 rfl kl_RX11_169 (q_lcmp (pc' := 109) dX11_isOwn_108 rfl (q_if_eq (pc' := 112) (pt := 120) dX11_isOwn_109 rfl rfl (fun _ => (q_iconst (pc' := 121) _ dX11_isOwn_120 rfl kk_iconst_1 (q_goto (pc' := 125) dX11_isOwn_121 rfl (q_zret dX11_isOwn_125 rfl (by first | exact Or.inl rfl | exact Or.inr rfl | exact bI_01 _) (by rw [show ownW (K 12) = true by rw [hh9]; decide] at hQ; exact hQ))))) (fun h9 => absurd (yes 29807 hh9) h9)))))
  refine q_aload_n (pc' := 102) dX11_isOwn_101 rfl rfl (q_getJ (pc' := 105) dX11_isOwn_102 rfl fr_RX11_106 ⟨by omega, rfl⟩ rfl (q_ldc2 (pc' := 108) _ dX11_isOwn_105 rfl kl_RX11_169 (q_lcmp (pc' := 109) dX11_isOwn_108 rfl (q_if_eq (pc' := 112) (pt := 120) dX11_isOwn_109 rfl rfl (fun h9 => absurd h9 (no 29807 (by decide) hh9)) (fun _ => ?_)))))
  have hn : ownW (K 12) = false := by
    unfold ownW
    rw [beq_eq_false_iff_ne.mpr h0, beq_eq_false_iff_ne.mpr h1, beq_eq_false_iff_ne.mpr h2, beq_eq_false_iff_ne.mpr h3, beq_eq_false_iff_ne.mpr h4, beq_eq_false_iff_ne.mpr h5, beq_eq_false_iff_ne.mpr h6, beq_eq_false_iff_ne.mpr h7, beq_eq_false_iff_ne.mpr h8, beq_eq_false_iff_ne.mpr hh9]
    rfl
  rw [hn, Bool.false_or] at hQ
  cases ho : ordN K with
  | none =>
    rw [ho] at hQ
    exact q_aload_n (pc' := 113) dX11_isOwn_112 rfl rfl (q_cVi (pc' := 116) dX11_isOwn_113 rfl ml_RX11_171 yv_X11_orderHere (by decide) (rn_X11_orderHere h hk) ⟨by omega, rfl⟩ rfl rfl (Nat.le_of_ble_eq_true rfl) (Nat.le_refl _) (q_iconst (pc' := 117) _ dX11_isOwn_116 rfl kk_iconst_m1 (q_icmp_eq (pc' := 120) (pt := 124) dX11_isOwn_117 rfl rfl (fun _ => (q_iconst (pc' := 125) _ dX11_isOwn_124 rfl kk_iconst_0 (q_zret dX11_isOwn_125 rfl (by first | exact Or.inl rfl | exact Or.inr rfl | exact bI_01 _) hQ))) (fun h9 => absurd (by rw [ho]; rfl) h9))))
  | some i =>
    rw [ho] at hQ
    have := ordN_lt ho
    exact q_aload_n (pc' := 113) dX11_isOwn_112 rfl rfl (q_cVi (pc' := 116) dX11_isOwn_113 rfl ml_RX11_171 yv_X11_orderHere (by decide) (rn_X11_orderHere h hk) ⟨by omega, rfl⟩ rfl rfl (Nat.le_of_ble_eq_true rfl) (Nat.le_refl _) (q_iconst (pc' := 117) _ dX11_isOwn_116 rfl kk_iconst_m1 (q_icmp_eq (pc' := 120) (pt := 124) dX11_isOwn_117 rfl rfl (fun h9 => absurd h9 (by rw [ho]; exact nI_m1 (by omega))) (fun _ => (q_iconst (pc' := 121) _ dX11_isOwn_120 rfl kk_iconst_1 (q_goto (pc' := 125) dX11_isOwn_121 rfl (q_zret dX11_isOwn_125 rfl (by first | exact Or.inl rfl | exact Or.inr rfl | exact bI_01 _) hQ)))))))
end M30
