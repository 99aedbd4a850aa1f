/-! ===== the class itself: about, board ===== -/
section VD5
variable {w : mj_Wd} {l : Launch} {I : mj_M} {J : mj_J} {R : mj_R} {b A B : St} {ps : Nat → St} {n u c s t : Nat} {T : Nat → Nat}
theorem rn_X10_aboutC {j : Nat} (hi : c < 21) (hS : mj_wS R c) (h : cR I c b A) (hN : gN b A) (h6 : 6 ≤ j) (h9 : j < 10) : Rn w l yX10_aboutCounts dd_X10_aboutCounts [.ref (sA c 1), .int (nI j)] (472, I, J, R) (some (.int (nI (A 14 (j - 6))))) (472, I, J, R) := by
  have hz : 50 + 20 * c ≤ 472 := by omega
  have ht := h.2.1
  obtain ⟨n1, n2, n3, n4⟩ := hN
  refine rn_intro2 (L := [some (.ref (sA c 1)), some (.int (nI j))]) ⟨by decide, rfl, (fun h => by cases h)⟩ (Nat.le_refl _) (Nat.le_of_ble_eq_true rfl) rfl (fun Y Q hQ => ?_)
  have hc : j = 6 ∨ j = 7 ∨ j = 8 ∨ j = 9 := by omega
  rcases hc with rfl | rfl | rfl | rfl
  · exact q_iload_n (pc' := 1) dX10_aboutCounts_0 rfl rfl (q_tabIn (pc' := 32) dX10_aboutCounts_1 (by decide) (by decide) rfl rfl (q_aload_n (pc' := 33) dX10_aboutCounts_32 rfl rfl (q_getIe (pc' := 36) dX10_aboutCounts_33 rfl fr_RX10_391 (okS hi hz (by decide) rfl) rfl (ht.1.1) (q_iret dX10_aboutCounts_36 rfl hQ))))
  · have hQ2 : Q (some (.int (nI (sumN (A 10) 10)))) (472, I, J, R) := by rw [← n1]; exact hQ
    exact q_iload_n (pc' := 1) dX10_aboutCounts_0 rfl rfl (q_tabIn (pc' := 37) dX10_aboutCounts_1 (by decide) (by decide) rfl rfl (q_aload_n (pc' := 38) dX10_aboutCounts_37 rfl rfl (q_getR (pc' := 41) dX10_aboutCounts_38 rfl fr_RX10_270 (okS hi hz (by decide) rfl) rfl (wS_8_2 hS) (sA_lt hi (by decide)) (q_cSi (pc' := 44) dX10_aboutCounts_41 rfl ml_RX10_394 ys_X8_sum (by decide) (rn_X8_sum (f := A 10) (okaS hi hz (by decide) rfl) (by decide) (fun k hk => (ht.2.1 k hk).1)) rfl rfl (Nat.le_of_ble_eq_true rfl) (Nat.le_refl _) (q_iret dX10_aboutCounts_44 rfl hQ2)))))
  · have hQ2 : Q (some (.int (nI (sumN (A 11) 10)))) (472, I, J, R) := by rw [← n2]; exact hQ
    exact q_iload_n (pc' := 1) dX10_aboutCounts_0 rfl rfl (q_tabIn (pc' := 45) dX10_aboutCounts_1 (by decide) (by decide) rfl rfl (q_aload_n (pc' := 46) dX10_aboutCounts_45 rfl rfl (q_getR (pc' := 49) dX10_aboutCounts_46 rfl fr_RX10_273 (okS hi hz (by decide) rfl) rfl (wS_8_3 hS) (sA_lt hi (by decide)) (q_cSi (pc' := 52) dX10_aboutCounts_49 rfl ml_RX10_394 ys_X8_sum (by decide) (rn_X8_sum (f := A 11) (okaS hi hz (by decide) rfl) (by decide) (fun k hk => (ht.2.1 k hk).2.1)) rfl rfl (Nat.le_of_ble_eq_true rfl) (Nat.le_refl _) (q_iret dX10_aboutCounts_52 rfl hQ2)))))
  · have hQ2 : Q (some (.int (nI (sumN (A 12) 10)))) (472, I, J, R) := by rw [← n3]; exact hQ
    exact q_iload_n (pc' := 1) dX10_aboutCounts_0 rfl rfl (q_tabIn (pc' := 53) dX10_aboutCounts_1 (by decide) (by decide) rfl rfl (q_aload_n (pc' := 54) dX10_aboutCounts_53 rfl rfl (q_getR (pc' := 57) dX10_aboutCounts_54 rfl fr_RX10_276 (okS hi hz (by decide) rfl) rfl (wS_8_4 hS) (sA_lt hi (by decide)) (q_cSi (pc' := 60) dX10_aboutCounts_57 rfl ml_RX10_394 ys_X8_sum (by decide) (rn_X8_sum (f := A 12) (okaS hi hz (by decide) rfl) (by decide) (fun k hk => (ht.2.1 k hk).2.2)) rfl rfl (Nat.le_of_ble_eq_true rfl) (Nat.le_refl _) (q_iret dX10_aboutCounts_60 rfl hQ2)))))
theorem rn_X10_aboutC0 {x : Int32} {r : Nat} {h : mj_H} (hx : x.toInt < 6 ∨ 9 < x.toInt) : Rn w l yX10_aboutCounts dd_X10_aboutCounts [.ref r, .int x] h (some (.int (-1))) h := by
  refine rn_intro2 (L := [some (.ref r), some (.int x)]) ⟨by decide, rfl, (fun h => by cases h)⟩ (Nat.le_refl _) (Nat.le_of_ble_eq_true rfl) rfl (fun Y Q hQ => ?_)
  exact q_iload_n (pc' := 1) dX10_aboutCounts_0 rfl rfl (q_tabOut (pc' := 61) dX10_aboutCounts_1 (hx) rfl (q_iconst (pc' := 62) _ dX10_aboutCounts_61 rfl kk_iconst_m1 (q_iret dX10_aboutCounts_62 rfl hQ)))
theorem rn_X10_about0 {x : Int32} (hW : wSt R) (hc : c < 18) (hn0 : R 28 0 = sA c 0) (hx : inN x 14 = false) : Rn w l yX10_about dd_X10_about [.ref 0, .int x] (472, I, J, R) (some (.int (-1))) (472, I, J, R) := by
  have hV := hW.1
  have hi : c < 21 := by omega
  have hz : 50 + 20 * c ≤ 472 := by omega
  have hS := hW.2.2.2 c hi
  have hs := inN_out (m := 13) (by decide) hx
  refine rn_intro2 (L := [some (.ref 0), some (.int x), none]) ⟨by decide, rfl, (fun h => by cases h)⟩ (Nat.le_refl _) (Nat.le_of_ble_eq_true rfl) rfl (fun Y Q hQ => ?_)
  exact q_aload_n (pc' := 1) dX10_about_0 rfl rfl (q_getR (pc' := 4) dX10_about_1 rfl fr_RX10_62 ⟨by omega, rfl⟩ rfl (wV_10_6 hV) (by decide) (q_getR (pc' := 7) dX10_about_4 rfl fr_RX10_109 ⟨by omega, rfl⟩ rfl (hn0) (sA_lt hi (by decide)) (q_ast_2 (pc' := 8) dX10_about_7 rfl (by decide) rfl (q_iload_n (pc' := 9) dX10_about_8 rfl rfl (q_tabOut (pc' := 151) dX10_about_9 (hs) rfl (q_aload_n (pc' := 152) dX10_about_151 rfl rfl (q_getR (pc' := 155) dX10_about_152 rfl fr_RX10_234 (okS hi hz (by decide) rfl) rfl (wS_5_2 hS) (sA_lt hi (by decide)) (q_iload_n (pc' := 156) dX10_about_155 rfl rfl (q_cSi (pc' := 159) dX10_about_156 rfl ml_RX10_387 ys_X10_aboutCounts (by decide) (rn_X10_aboutC0 (by omega)) rfl rfl (Nat.le_of_ble_eq_true rfl) (Nat.le_refl _) (q_iret dX10_about_159 rfl hQ))))))))))
theorem rn_X10_about {j : Nat} (hW : wSt R) (hb : cB I b) (hk : bOK b) (h : cH I R b ps n u A c s) (hA : gI b 8 A) (hN : gN b A) (ht : I 0 1 = nI t) (hj : j < 14) : Rn w l yX10_about dd_X10_about [.ref 0, .int (nI j)] (472, I, J, R) (some (.int (nI (qAbout b A n u t j)))) (472, I, J, R) := by
  have hV := hW.1
  have hB := hW.2.1
  obtain ⟨hn0, hr⟩ := cH_now h
  obtain ⟨hc, hs18⟩ := cH_lt h
  obtain ⟨o, g, ⟨_, h3, h4, h5⟩, _⟩ := h
  have hi : c < 21 := by omega
  have hz : 50 + 20 * c ≤ 472 := by omega
  have hS := hW.2.2.2 c hi
  refine rn_intro2 (L := [some (.ref 0), some (.int (nI j)), none]) ⟨by decide, rfl, (fun h => by cases h)⟩ (Nat.le_refl _) (Nat.le_of_ble_eq_true rfl) rfl (fun Y Q hQ => ?_)
  have hc7 : j = 0 ∨ j = 1 ∨ j = 2 ∨ j = 3 ∨ j = 4 ∨ j = 5 ∨ j = 6 ∨ j = 7 ∨ j = 8 ∨ j = 9 ∨ j = 10 ∨ j = 11 ∨ j = 12 ∨ j = 13 := by omega
  refine q_aload_n (pc' := 1) dX10_about_0 rfl rfl (q_getR (pc' := 4) dX10_about_1 rfl fr_RX10_62 ⟨by omega, rfl⟩ rfl (wV_10_6 hV) (by decide) (q_getR (pc' := 7) dX10_about_4 rfl fr_RX10_109 ⟨by omega, rfl⟩ rfl (hn0) (sA_lt hi (by decide)) (q_ast_2 (pc' := 8) dX10_about_7 rfl (by decide) rfl ?_)))
  rcases hc7 with rfl | rfl | rfl | rfl | rfl | rfl | rfl | rfl | rfl | rfl | rfl | rfl | rfl | rfl
  · exact q_iload_n (pc' := 9) dX10_about_8 rfl rfl (q_tabIn (pc' := 80) dX10_about_9 (by decide) (by decide) rfl rfl (q_aload_n (pc' := 81) dX10_about_80 rfl rfl (q_getR (pc' := 84) dX10_about_81 rfl fr_RX10_26 ⟨by omega, rfl⟩ rfl (wV_10_3 hV) (by decide) (q_getIe (pc' := 87) dX10_about_84 rfl fr_RX10_367 (by first | assumption | exact ⟨by omega, rfl⟩) rfl (cB_0 hb) (q_iret dX10_about_87 rfl hQ)))))
  · exact q_iload_n (pc' := 9) dX10_about_8 rfl rfl (q_tabIn (pc' := 88) dX10_about_9 (by decide) (by decide) rfl rfl (q_aload_n (pc' := 89) dX10_about_88 rfl rfl (q_getR (pc' := 92) dX10_about_89 rfl fr_RX10_26 ⟨by omega, rfl⟩ rfl (wV_10_3 hV) (by decide) (q_getIe (pc' := 95) dX10_about_92 rfl fr_RX10_369 (by first | assumption | exact ⟨by omega, rfl⟩) rfl (cB_1 hb) (q_iret dX10_about_95 rfl hQ)))))
  · exact q_iload_n (pc' := 9) dX10_about_8 rfl rfl (q_tabIn (pc' := 96) dX10_about_9 (by decide) (by decide) rfl rfl (q_aload_n (pc' := 97) dX10_about_96 rfl rfl (q_getR (pc' := 100) dX10_about_97 rfl fr_RX10_26 ⟨by omega, rfl⟩ rfl (wV_10_3 hV) (by decide) (q_getIe (pc' := 103) dX10_about_100 rfl fr_RX10_118 (by first | assumption | exact ⟨by omega, rfl⟩) rfl (cB_4 hb) (q_iret dX10_about_103 rfl hQ)))))
  · exact q_iload_n (pc' := 9) dX10_about_8 rfl rfl (q_tabIn (pc' := 104) dX10_about_9 (by decide) (by decide) rfl rfl (q_aload_n (pc' := 105) dX10_about_104 rfl rfl (q_getR (pc' := 108) dX10_about_105 rfl fr_RX10_207 (okS hi hz (by decide) rfl) rfl (wS_5_1 hS) (sA_lt hi (by decide)) (q_getIe (pc' := 111) dX10_about_108 rfl fr_RX10_372 (okS hi hz (by decide) rfl) rfl (hr.1.2.2.2) (q_iret dX10_about_111 rfl hQ)))))
  · exact q_iload_n (pc' := 9) dX10_about_8 rfl rfl (q_tabIn (pc' := 112) dX10_about_9 (by decide) (by decide) rfl rfl (q_aload_n (pc' := 113) dX10_about_112 rfl rfl (q_getR (pc' := 116) dX10_about_113 rfl fr_RX10_207 (okS hi hz (by decide) rfl) rfl (wS_5_1 hS) (sA_lt hi (by decide)) (q_cVi (pc' := 119) dX10_about_116 rfl ml_RX10_375 yv_X4_freeOnline (by decide) (rn_X4_freeOnline hi hS hb hk hr.1) (okS hi hz (by decide) rfl) rfl rfl (Nat.le_of_ble_eq_true rfl) (Nat.le_refl _) (q_iret dX10_about_119 rfl hQ)))))
  · exact q_iload_n (pc' := 9) dX10_about_8 rfl rfl (q_tabIn (pc' := 120) dX10_about_9 (by decide) (by decide) rfl rfl (q_aload_n (pc' := 121) dX10_about_120 rfl rfl (q_cVi (pc' := 124) dX10_about_121 rfl ml_RX10_378 yv_X5_promisedVectors (by decide) (rn_X5_promisedVectors hi hS hB hb hk hr.2.2) (okS hi hz (by decide) rfl) rfl rfl (Nat.le_of_ble_eq_true rfl) (Nat.le_refl _) (q_iret dX10_about_124 rfl hQ))))
  · exact q_iload_n (pc' := 9) dX10_about_8 rfl rfl (q_tabIn (pc' := 151) dX10_about_9 (by decide) (by decide) rfl rfl (q_aload_n (pc' := 152) dX10_about_151 rfl rfl (q_getR (pc' := 155) dX10_about_152 rfl fr_RX10_234 (okS hi hz (by decide) rfl) rfl (wS_5_2 hS) (sA_lt hi (by decide)) (q_iload_n (pc' := 156) dX10_about_155 rfl rfl (q_cSi (pc' := 159) dX10_about_156 rfl ml_RX10_387 ys_X10_aboutCounts (by decide) (rn_X10_aboutC (j := 6) hi hS hr hN (by decide) (by decide)) rfl rfl (Nat.le_of_ble_eq_true rfl) (Nat.le_refl _) (q_iret dX10_about_159 rfl hQ))))))
  · exact q_iload_n (pc' := 9) dX10_about_8 rfl rfl (q_tabIn (pc' := 151) dX10_about_9 (by decide) (by decide) rfl rfl (q_aload_n (pc' := 152) dX10_about_151 rfl rfl (q_getR (pc' := 155) dX10_about_152 rfl fr_RX10_234 (okS hi hz (by decide) rfl) rfl (wS_5_2 hS) (sA_lt hi (by decide)) (q_iload_n (pc' := 156) dX10_about_155 rfl rfl (q_cSi (pc' := 159) dX10_about_156 rfl ml_RX10_387 ys_X10_aboutCounts (by decide) (rn_X10_aboutC (j := 7) hi hS hr hN (by decide) (by decide)) rfl rfl (Nat.le_of_ble_eq_true rfl) (Nat.le_refl _) (q_iret dX10_about_159 rfl hQ))))))
  · exact q_iload_n (pc' := 9) dX10_about_8 rfl rfl (q_tabIn (pc' := 151) dX10_about_9 (by decide) (by decide) rfl rfl (q_aload_n (pc' := 152) dX10_about_151 rfl rfl (q_getR (pc' := 155) dX10_about_152 rfl fr_RX10_234 (okS hi hz (by decide) rfl) rfl (wS_5_2 hS) (sA_lt hi (by decide)) (q_iload_n (pc' := 156) dX10_about_155 rfl rfl (q_cSi (pc' := 159) dX10_about_156 rfl ml_RX10_387 ys_X10_aboutCounts (by decide) (rn_X10_aboutC (j := 8) hi hS hr hN (by decide) (by decide)) rfl rfl (Nat.le_of_ble_eq_true rfl) (Nat.le_refl _) (q_iret dX10_about_159 rfl hQ))))))
  · exact q_iload_n (pc' := 9) dX10_about_8 rfl rfl (q_tabIn (pc' := 151) dX10_about_9 (by decide) (by decide) rfl rfl (q_aload_n (pc' := 152) dX10_about_151 rfl rfl (q_getR (pc' := 155) dX10_about_152 rfl fr_RX10_234 (okS hi hz (by decide) rfl) rfl (wS_5_2 hS) (sA_lt hi (by decide)) (q_iload_n (pc' := 156) dX10_about_155 rfl rfl (q_cSi (pc' := 159) dX10_about_156 rfl ml_RX10_387 ys_X10_aboutCounts (by decide) (rn_X10_aboutC (j := 9) hi hS hr hN (by decide) (by decide)) rfl rfl (Nat.le_of_ble_eq_true rfl) (Nat.le_refl _) (q_iret dX10_about_159 rfl hQ))))))
  · exact q_iload_n (pc' := 9) dX10_about_8 rfl rfl (q_tabIn (pc' := 125) dX10_about_9 (by decide) (by decide) rfl rfl (q_aload_n (pc' := 126) dX10_about_125 rfl rfl (q_getR (pc' := 129) dX10_about_126 rfl fr_RX10_62 ⟨by omega, rfl⟩ rfl (wV_10_6 hV) (by decide) (q_getIe (pc' := 132) dX10_about_129 rfl fr_RX10_381 ⟨by omega, rfl⟩ rfl h4 (q_iret dX10_about_132 rfl hQ)))))
  · exact q_iload_n (pc' := 9) dX10_about_8 rfl rfl (q_tabIn (pc' := 133) dX10_about_9 (by decide) (by decide) rfl rfl (q_aload_n (pc' := 134) dX10_about_133 rfl rfl (q_getR (pc' := 137) dX10_about_134 rfl fr_RX10_62 ⟨by omega, rfl⟩ rfl (wV_10_6 hV) (by decide) (q_getIe (pc' := 140) dX10_about_137 rfl fr_RX10_384 ⟨by omega, rfl⟩ rfl h5 (q_iret dX10_about_140 rfl hQ)))))
  · exact q_iload_n (pc' := 9) dX10_about_8 rfl rfl (q_tabIn (pc' := 141) dX10_about_9 (by decide) (by decide) rfl rfl (q_aload_n (pc' := 142) dX10_about_141 rfl rfl (q_getIe (pc' := 145) dX10_about_142 rfl fr_RX10_85 ⟨by omega, rfl⟩ rfl ht (q_iret dX10_about_145 rfl hQ))))
  · exact q_iload_n (pc' := 9) dX10_about_8 rfl rfl (q_tabIn (pc' := 146) dX10_about_9 (by decide) (by decide) rfl rfl (q_aload_n (pc' := 147) dX10_about_146 rfl rfl (q_cVi (pc' := 150) dX10_about_147 rfl ml_RX10_331 yv_X5_unheard (by decide) (rn_X5_unheard hi hS hB hb hk hr (gC_aOK hk hA.1) (w6_of hA.1)) (okS hi hz (by decide) rfl) rfl rfl (Nat.le_of_ble_eq_true rfl) (Nat.le_refl _) (q_iret dX10_about_150 rfl hQ))))
theorem cKw_F {J' : mj_J} (f : J' 11 = J 11) (h : cKw J) : cKw J' := fun j hj => by rw [f]; exact h j hj
/-- what a BOARD with a FAULT leaves as it was -/
def bF0 (I : mj_M) (J : mj_J) (I' : mj_M) (J' : mj_J) : Prop := (∀ a, a ≠ 0 → (a < 10 ∨ 22 < a ∨ a = 11) → I' a = I a) ∧ (∀ f, f ≠ 1 → I' 0 f = I 0 f) ∧ ∀ a, a ≠ 10 → a ≠ 15 → a ≠ 18 → J' a = J a
theorem rt_X10_board {D : St} {K : Nat → Nat} (eD : kBoard T t = (K, D)) (hW : wSt R) (hkw : cKw J) (ht : cTp I T t) (h01 : I 0 1 = nI t) (h : cH I R b ps n u A c s) (hA : ∀ k, k < 80 → A 6 k ≤ 1) : RtI w l yX10_board dd_X10_board [.ref 0] (472, I, J, R) (fun x I' J' R' => R' = R ∧ (I' 10 16 = nI (K 8) ∧ I' 10 17 = lD (K 9)) ∧ I' 0 1 = nI 0 ∧ cKw J' ∧ ((K 8 ≠ 0 ∧ x = -1 ∧ bF0 I J I' J') ∨ (K 8 = 0 ∧ x = nI (D 0 2) ∧ bRd D ∧ cB I' D ∧ cN I' J' D ∧ I' 0 12 = nI 0 ∧ (∀ j, j < 2 → I' 3 j = bI false) ∧ cH I' R D ps 0 0 (aNew D) c s ∧ ∀ a, 450 ≤ a → I' a = I a ∧ J' a = J a))) := by
  have hV := hW.1
  have hB := hW.2.1
  have hB17 := hW.2.2.1
  obtain ⟨hn0, hr⟩ := cH_now h
  obtain ⟨hc, hs18⟩ := cH_lt h
  have hi : c < 21 := by omega
  have hz : 50 + 20 * c ≤ 472 := by omega
  have hS := hW.2.2.2 c hi
  refine rt_intro2 (L := [some (.ref 0), none]) ⟨by decide, rfl, (fun h => by cases h)⟩ (Nat.le_of_ble_eq_true rfl) rfl (fun Y Q hQ => ?_)
  refine q_aload_n (pc' := 1) dX10_board_0 rfl rfl (q_getR (pc' := 4) dX10_board_1 rfl fr_RX10_35 ⟨by omega, rfl⟩ rfl (wV_10_2 hV) (by decide) (q_aload_n (pc' := 5) dX10_board_4 rfl rfl (q_getIe (pc' := 8) dX10_board_5 rfl fr_RX10_85 ⟨by omega, rfl⟩ rfl h01 (q_tVv (pc' := 11) dX10_board_8 rfl ml_RX10_93 yv_X9_open (by decide) (rt_X9_open hV hkw ht) ⟨by omega, rfl⟩ rfl rfl (Nat.le_of_ble_eq_true rfl) (Nat.le_refl _) (fun I1 J1 R1 ⟨k1, k2, k3, k4⟩ => ?_)))))
  subst k4
  refine q_aload_n (pc' := 12) dX10_board_11 rfl rfl (q_iconst (pc' := 13) _ dX10_board_12 rfl kk_iconst_0 (q_putI (pc' := 16) dX10_board_13 rfl fl_RX10_85 ⟨by omega, rfl⟩ rfl (q_aload_n (pc' := 17) dX10_board_16 rfl rfl (q_getR (pc' := 20) dX10_board_17 rfl fr_RX10_44 ⟨by omega, rfl⟩ rfl (wV_10_4 hV) (by decide) ?_))))
  have f1 : ∀ a, a ≠ 0 → mj_up I1 0 1 (nI 0) a = I1 a := fun a ha => up_fI ha
  have j11 : J1 11 = J 11 := by funext k; exact k3.2 11 k (by decide) (fun q => absurd q.1 (by decide))
  have hkw1 := cKw_F j11 hkw
  have hf1 : (mj_up I1 0 1 (nI 0)) 10 16 = nI 0 ∧ (mj_up I1 0 1 (nI 0)) 10 17 = -1 := by rw [f1 10 (by decide)]; exact k2
  have hrd := rt_X1_read (w := w) (l := l) (I := mj_up I1 0 1 (nI 0)) (J := J1) (R := R1) hV hB17 hkw1 ht.1 (cRd_o (fun a h1 h2 => f1 a (by omega)) k1) hf1
  rw [eD] at hrd
  dsimp only at hrd
  refine q_tVi (pc' := 23) dX10_board_20 rfl ml_RX10_96 yv_X1_read (by decide) hrd ⟨by omega, rfl⟩ rfl rfl (Nat.le_of_ble_eq_true rfl) (Nat.le_refl _) (fun x2 I2 J2 R2 ⟨m1, m2, m3, m4, m5⟩ => ?_)
  subst m5
  subst m1
  have e01 : I2 0 1 = nI 0 := by rw [m4.1 0 (by decide) (Or.inl (by decide)), mj_up_eq]
  have j112 : J2 11 = J 11 := by
    funext k
    rw [m4.2.2 11 k (by decide) (fun q => absurd q.1 (by decide)), j11]
  have fbad : bF0 I J I2 J2 := by
    refine ⟨fun a h0 ha => ?_, fun f hf => ?_, fun a q1 q2 q3 => ?_⟩
    · rcases ha with ha | ha | ha
      · rw [m4.1 a (by omega) (Or.inl (by omega)), f1 a h0, k3.1 a (by omega) (by omega) (by omega) (by omega)]
      · rw [m4.1 a (by omega) (Or.inr (by omega)), f1 a h0, k3.1 a (by omega) (by omega) (by omega) (by omega)]
      · rw [m4.1 a (by omega) (Or.inl (by omega)), f1 a h0, k3.1 a (by omega) (by omega) (by omega) (by omega)]
    · rw [m4.1 0 (by decide) (Or.inl (by decide)), mj_up_ne2 hf, k3.1 0 (by decide) (by decide) (by decide) (by decide)]
    · funext k
      rw [m4.2.2 a k q3 (fun q => q1 q.1), k3.2 a k q2 (fun q => q1 q.1)]
  by_cases hg : K 8 = 0
  · obtain ⟨hD, hRd⟩ := m3 hg
    have hk := hRd.1
    refine q_ifb_ne (pc' := 26) (pt := 28) dX10_board_23 rfl rfl (fun _ => (q_aload_n (pc' := 29) dX10_board_28 rfl rfl (q_iconst (pc' := 30) _ dX10_board_29 rfl kk_iconst_0 (q_putI (pc' := 33) dX10_board_30 rfl fl_RX10_100 ⟨by omega, rfl⟩ rfl (q_aload_n (pc' := 34) dX10_board_33 rfl rfl (q_getR (pc' := 37) dX10_board_34 rfl fr_RX10_26 ⟨by omega, rfl⟩ rfl (wV_10_3 hV) (by decide) (q_aload_n (pc' := 38) dX10_board_37 rfl rfl (q_getR (pc' := 41) dX10_board_38 rfl fr_RX10_44 ⟨by omega, rfl⟩ rfl (wV_10_4 hV) (by decide) (q_getR (pc' := 44) dX10_board_41 rfl fr_RX10_103 ⟨by omega, rfl⟩ rfl (wV_1_1 hV) (by decide) (q_tVv (pc' := 47) dX10_board_44 rfl ml_RX10_106 yv_X0_copyFrom (by decide) (rt_X0_copyFrom hB hB17) (by first | assumption | exact ⟨by omega, rfl⟩) rfl rfl (Nat.le_of_ble_eq_true rfl) (Nat.le_refl _) (fun I3 J3 R3 ⟨c1, c2, c3, c4⟩ => ?_))))))))))) (fun h9 => Bool.noConfusion (Eq.trans (Eq.symm (beq_iff_eq.mpr hg)) h9))
    subst c4
    have g3 : ∀ a, a ≠ 0 → a ≠ 4 → (a < 6 ∨ 9 < a) → I3 a = I2 a := fun a h0 h4 h6 => by rw [c2 a h4 h6, up_fI h0]
    have hcD : ∀ f, f < 5 → I3 4 f = I2 17 f := fun f hf => by rw [c1.1 f hf, up_fI (by decide)]
    have hcd : ∀ k, k < 10 → J3 5 k = J2 18 k ∧ I3 6 k = I2 19 k ∧ I3 7 k = I2 20 k ∧ I3 8 k = I2 21 k ∧ I3 9 k = I2 22 k := fun k hk2 => by
      obtain ⟨q1, q2, q3, q4, q5⟩ := c1.2 k hk2
      exact ⟨q1, by rw [q2, up_fI (by decide)], by rw [q3, up_fI (by decide)], by rw [q4, up_fI (by decide)], by rw [q5, up_fI (by decide)]⟩
    obtain ⟨⟨d0, d1, d2, d3, d4⟩, _, dd⟩ := hD
    have h10 := hk.2.2.1
    have hb3 : cB I3 D := by
      refine ⟨⟨by rw [hcD 0 (by decide)]; exact d0, by rw [hcD 1 (by decide)]; exact d1, by rw [hcD 2 (by decide)]; exact d2, by rw [hcD 3 (by decide)]; exact d3, by rw [hcD 4 (by decide)]; exact d4⟩, fun d hd => ?_⟩
      obtain ⟨_, q2, q3, q4, q5⟩ := hcd d (by omega)
      obtain ⟨⟨p1, p2, p3, p4⟩, _⟩ := dd d hd
      exact ⟨by rw [q3]; exact p1, by rw [q4]; exact p2, by rw [q5]; exact p3⟩
    have hn3 : cN I3 J3 D := fun d hd => by
      obtain ⟨q1, q2, q3, q4, q5⟩ := hcd d (by omega)
      obtain ⟨⟨p1, p2, p3, p4⟩, f, p5, p6, p7⟩ := dd d hd
      exact ⟨by rw [q2]; exact p4, f, p5, p6, by rw [q1]; exact p7⟩
    have w3 : ∀ a, 23 ≤ a → I3 a = I a := fun a ha => by rw [g3 a (by omega) (by omega) (Or.inr (by omega)), fbad.1 a (by omega) (by omega)]
    have h10b : ∀ k, k < 80 → I3 (sA c 10) k = 0 ∨ I3 (sA c 10) k = 1 := fun k hk2 => by
      rw [w3 _ (by unfold sA; omega), (hr.2.2.2 k hk2).2.2.2]
      have := hA k hk2
      have hz2 : A 6 k = 0 ∨ A 6 k = 1 := by omega
      rcases hz2 with q | q
      · rw [q]; exact Or.inl rfl
      · rw [q]; exact Or.inr rfl
    refine q_aload_n (pc' := 48) dX10_board_47 rfl rfl (q_getR (pc' := 51) dX10_board_48 rfl fr_RX10_62 ⟨by omega, rfl⟩ rfl (wV_10_6 hV) (by decide) (q_getR (pc' := 54) dX10_board_51 rfl fr_RX10_109 ⟨by omega, rfl⟩ rfl (hn0) (sA_lt hi (by decide)) (q_sVv (pc' := 57) dX10_board_54 rfl ml_RX10_112 yv_X5_empty (by decide) (rs_X5_empty hi hz hS hb3 hk hRd.2.2.1.1 h10b) (okS hi hz (by decide) rfl) rfl rfl (Nat.le_of_ble_eq_true rfl) (Nat.le_refl _) (fun I4 ⟨r4, f4⟩ => ?_))))
    refine q_aload_n (pc' := 58) dX10_board_57 rfl rfl (q_getR (pc' := 61) dX10_board_58 rfl fr_RX10_62 ⟨by omega, rfl⟩ rfl (wV_10_6 hV) (by decide) (q_cVv (pc' := 64) dX10_board_61 rfl ml_RX10_115 yv_X2_forget (by decide) (rn_X2_forget) ⟨by omega, rfl⟩ rfl rfl (Nat.le_of_ble_eq_true rfl) (Nat.le_refl _) (q_iconst (pc' := 65) _ dX10_board_64 rfl kk_iconst_0 (q_ist_1 (pc' := 66) dX10_board_65 rfl (by decide) rfl ?_))))
    refine q_iload_n (pc' := 67) dX10_board_66 rfl rfl (q_iconst (pc' := 68) _ dX10_board_67 rfl kk_iconst_2 (q_icmp_ge (pc' := 71) (pt := 84) dX10_board_68 rfl rfl (fun h9 => absurd h9 (by decide)) (fun _ => (q_aload_n (pc' := 72) dX10_board_71 rfl rfl (q_getR (pc' := 75) dX10_board_72 rfl fr_RX10_19 ⟨by omega, rfl⟩ rfl (wV_10_9 hV) (by decide) (q_iload_n (pc' := 76) dX10_board_75 rfl rfl (q_iconst (pc' := 77) _ dX10_board_76 rfl kk_iconst_0 (q_zast (pc' := 78) (0) dX10_board_77 rfl (by first | exact ⟨by omega, rfl⟩ | exact okaS hi hz (by decide) rfl | assumption) (by (first | (simp only [nI_add, pk_mul]; done) | (simp only [nI_add, pk_mul]; exact nI_e (by omega)) | exact nI_e (by omega))) (by omega) (Or.inl rfl) (q_inc_1 (pc' := 81) dX10_board_78 rfl (by decide) rfl (q_goto (pc' := 66) dX10_board_81 rfl ?_))))))))))
    refine q_iload_n (pc' := 67) dX10_board_66 rfl rfl (q_iconst (pc' := 68) _ dX10_board_67 rfl kk_iconst_2 (q_icmp_ge (pc' := 71) (pt := 84) dX10_board_68 rfl rfl (fun h9 => absurd h9 (by decide)) (fun _ => (q_aload_n (pc' := 72) dX10_board_71 rfl rfl (q_getR (pc' := 75) dX10_board_72 rfl fr_RX10_19 ⟨by omega, rfl⟩ rfl (wV_10_9 hV) (by decide) (q_iload_n (pc' := 76) dX10_board_75 rfl rfl (q_iconst (pc' := 77) _ dX10_board_76 rfl kk_iconst_0 (q_zast (pc' := 78) (1) dX10_board_77 rfl (by first | exact ⟨by omega, rfl⟩ | exact okaS hi hz (by decide) rfl | assumption) (by (first | (simp only [nI_add, pk_mul]; done) | (simp only [nI_add, pk_mul]; exact nI_e (by omega)) | exact nI_e (by omega))) (by omega) (Or.inl rfl) (q_inc_1 (pc' := 81) dX10_board_78 rfl (by decide) rfl (q_goto (pc' := 66) dX10_board_81 rfl ?_))))))))))
    have fI5 : ∀ a, a ≠ 28 → a ≠ 3 → mj_up (mj_up (mj_up (mj_up I4 28 4 (nI 0)) 28 5 (nI 0)) 3 0 (nI 0)) 3 1 (nI 0) a = I4 a := fun a h28 h3 => by rw [up_fI h3, up_fI h3, up_fI h28, up_fI h28]
    have fS : ∀ a, a < 28 → a ≠ 3 → mj_up (mj_up (mj_up (mj_up I4 28 4 (nI 0)) 28 5 (nI 0)) 3 0 (nI 0)) 3 1 (nI 0) a = I3 a := fun a h28 h3 => by rw [fI5 a (by omega) h3, f4 a (fun e _ => by unfold sA; omega)]
    have e28 : mj_up (mj_up (mj_up (mj_up I4 28 4 (nI 0)) 28 5 (nI 0)) 3 0 (nI 0)) 3 1 (nI 0) 28 = mj_up (mj_up I4 28 4 (nI 0)) 28 5 (nI 0) 28 := by rw [up_fI (by decide), up_fI (by decide)]
    have ib3 : I2 3 = I 3 := fbad.1 3 (by decide) (Or.inl (by decide))
    refine q_iload_n (pc' := 67) dX10_board_66 rfl rfl (q_iconst (pc' := 68) _ dX10_board_67 rfl kk_iconst_2 (q_icmp_ge (pc' := 71) (pt := 84) dX10_board_68 rfl rfl (fun _ => (q_aload_n (pc' := 85) dX10_board_84 rfl rfl (q_getR (pc' := 88) dX10_board_85 rfl fr_RX10_26 ⟨by omega, rfl⟩ rfl (wV_10_3 hV) (by decide) (q_getIe (pc' := 91) dX10_board_88 rfl fr_RX10_118 (by first | assumption | exact ⟨by omega, rfl⟩) rfl ((congrFun (fS 4 (by decide) (by decide)) 4).trans (cB_4 hb3)) ?_)))) (fun h9 => absurd (by decide) h9)))
    refine q_iret dX10_board_91 rfl (hQ _ _ _ _ ⟨_, rfl, rfl, ?_, ?_, ?_, Or.inr ⟨hg, rfl, hRd, ?_, ?_, ?_, ?_, ?_, ?_⟩⟩)
    · rw [fS 10 (by decide) (by decide), g3 10 (by decide) (by decide) (Or.inr (by decide))]
      exact m2
    · rw [fS 0 (by decide) (by decide), c2 0 (by decide) (Or.inl (by decide)), mj_up_ne2 (by decide)]
      exact e01
    · refine cKw_F ?_ hkw
      rw [c3 11 (by decide), j112]
    · unfold cB
      rw [fS 4 (by decide) (by decide), fS 7 (by decide) (by decide), fS 8 (by decide) (by decide), fS 9 (by decide) (by decide)]
      exact hb3
    · unfold cN
      rw [fS 6 (by decide) (by decide)]
      exact hn3
    · rw [fS 0 (by decide) (by decide), c2 0 (by decide) (Or.inl (by decide)), mj_up_eq]
    · intro j hj
      have hj2 : j = 0 ∨ j = 1 := by omega
      rcases hj2 with rfl | rfl
      · rw [mj_up_ne2 (by decide), mj_up_eq]; rfl
      · rw [mj_up_eq]; rfl
    · obtain ⟨o, g, ⟨q1, q2, _⟩, q3, _, _⟩ := h
      have e4 : I4 28 = I 28 := (f4 28 (fun e _ => by unfold sA; omega)).trans (w3 28 (by decide))
      refine ⟨o, g, ⟨⟨q1.1, by decide⟩, ?_, ?_, ?_⟩, q3, cR_F (fun e he => fI5 _ (by unfold sA; omega) (by unfold sA; omega)) r4, fun q hq => absurd hq (Nat.not_lt_zero _)⟩
      · rw [e28, mj_up_ne2 (by decide), mj_up_ne2 (by decide), e4]; exact q2
      · rw [e28, mj_up_ne2 (by decide), mj_up_eq]
      · rw [e28, mj_up_eq]
    · intro a ha
      refine ⟨?_, ?_⟩
      · rw [fI5 a (by omega) (by omega), f4 a (fun e he => by unfold sA; omega), w3 a (by omega)]
      · rw [c3 a (by omega), fbad.2.2 a (by omega) (by omega) (by omega)]
  · refine q_ifb_ne (pc' := 26) (pt := 28) dX10_board_23 rfl rfl (fun h9 => Bool.noConfusion (Eq.trans (Eq.symm (beq_eq_false_iff_ne.mpr hg)) h9)) (fun _ => (q_iconst (pc' := 27) _ dX10_board_26 rfl kk_iconst_m1 ?_))
    exact q_iret dX10_board_27 rfl (hQ _ _ _ _ ⟨_, rfl, rfl, m2, e01, cKw_F j112 hkw, Or.inl ⟨hg, rfl, fbad⟩⟩)
end VD5
