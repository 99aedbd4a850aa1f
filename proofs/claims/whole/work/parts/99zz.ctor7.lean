/-! ===== VectorDeal's constructor ===== -/
def vR1 (R : mj_R) : mj_R := bR (mj_up (mj_up (mj_up R 0 0 1) 0 8 2) 0 9 3) 4
def vR2 (R : mj_R) : mj_R := tkR (mj_up (vR1 R) 0 3 4)
def vR3 (R : mj_R) : mj_R := mj_up (mj_up (bR (mj_up (vR2 R) 0 2 10) 17) 16 1 17) 16 0 10
def vR4 (R : mj_R) : mj_R := mj_up (mj_up (mj_up (mj_up (mj_up (mj_up (mj_up (vR3 R) 0 4 16) 23 3 24) 23 4 25) 23 5 26) 23 6 27) 23 0 10) 23 1 4
def vR5 (R : mj_R) : mj_R := mj_up (vR4 R) 0 5 23
def vI1 (I : mj_M) : mj_M := eBd I 4
def vI2 (I : mj_M) : mj_M := mj_up (vI1 I) 10 17 (-1)
def vI3 (I : mj_M) : mj_M := eBd (vI2 I) 17
section CT7
variable {Sx : State → Heap → Prop} {w : mj_Wd} {l : Launch} {I I' : mj_M} {J J' : mj_J} {R R' : mj_R} {b : St} {i n : Nat}
theorem vR5_lo {a : Nat} (h : 28 ≤ a) : vR5 R a = R a := by
  have n0 : a ≠ 0 := by omega
  have n4 : a ≠ 4 := by omega
  have n10 : a ≠ 10 := by omega
  have n16 : a ≠ 16 := by omega
  have n17 : a ≠ 17 := by omega
  have n23 : a ≠ 23 := by omega
  funext k
  simp [vR5, vR4, vR3, vR2, vR1, bR, tkR, mj_up, n0, n4, n10, n16, n17, n23]
theorem vR3_lo {a : Nat} (h : 23 ≤ a) : vR3 R a = R a := by
  have n0 : a ≠ 0 := by omega
  have n4 : a ≠ 4 := by omega
  have n10 : a ≠ 10 := by omega
  have n16 : a ≠ 16 := by omega
  have n17 : a ≠ 17 := by omega
  funext k
  simp [vR3, vR2, vR1, bR, tkR, mj_up, n0, n4, n10, n16, n17]
theorem vR2_lo {a : Nat} (h : 16 ≤ a) : vR2 R a = R a := by
  have n0 : a ≠ 0 := by omega
  have n4 : a ≠ 4 := by omega
  have n10 : a ≠ 10 := by omega
  funext k
  simp [vR2, vR1, bR, tkR, mj_up, n0, n4, n10]
theorem vR1_lo {a : Nat} (h : 10 ≤ a) : vR1 R a = R a := by
  have n0 : a ≠ 0 := by omega
  have n4 : a ≠ 4 := by omega
  funext k
  simp [vR1, bR, mj_up, n0, n4]
theorem vI3_ne {a : Nat} (h : a ≠ 4) (h2 : a ≠ 10) (h3 : a ≠ 17) : vI3 I a = I a := by
  funext k
  simp [vI3, vI2, vI1, eBd, mj_up, h, h2, h3]
theorem vI2_ne {a : Nat} (h : a ≠ 4) (h2 : a ≠ 10) : vI2 I a = I a := by
  funext k
  simp [vI2, vI1, eBd, mj_up, h, h2]
theorem vI1_ne {a : Nat} (h : a ≠ 4) : vI1 I a = I a := by
  funext k
  simp [vI1, eBd, mj_up, h]
theorem Z0_L {z z' : Nat} (h : Z0 z I J R) (hz : z ≤ z') (fI : ∀ a, z' ≤ a → I' a = I a) (fJ : ∀ a, z' ≤ a → J' a = J a) (fR : ∀ a, z' ≤ a → R' a = R a) : Z0 z' I' J' R' := fun a ha => by
  rw [fI a ha, fJ a ha, fR a ha]
  exact h a (by omega)
/-- what VectorDeal's constructor leaves -/
def vdP (I' : mj_M) (J' : mj_J) (R' : mj_R) : Prop := (cB I' bD0 ∧ cKw J') ∧ (I' 0 1 = 0 ∧ I' 0 12 = 0 ∧ I' 10 16 = 0 ∧ I' 10 17 = -1 ∧ ∀ j, I' 3 j = 0) ∧ wSt R' ∧ (I' 28 3 = 0 ∧ I' 28 4 = 0 ∧ I' 28 5 = 0) ∧ (R' 28 0 = sA 0 0 ∧ R' 28 1 = sA 1 0 ∧ ∀ t, t < 16 → R' 29 t = sA (2 + t) 0) ∧ Sts 21 I' R' bD0 ∧ Z0 452 I' J' R'
theorem cB_F {b : St} (f : ∀ a, 4 ≤ a → a < 10 → I' a = I a) (h : cB I b) : cB I' b := by
  unfold cB
  rw [f 4 (by decide) (by decide), f 7 (by decide) (by decide), f 8 (by decide) (by decide), f 9 (by decide) (by decide)]
  exact h
theorem rg_X10_init (hSx : SxM w Sx) (h9 : ∀ I J R, Z0 11 I J R → RgSV Sx w l yX9_init dd_X9_init [.ref 10, .ref 1] (11, I, J, R) 16 (fun I' J' R' => I' = mj_up I 10 17 (-1) ∧ cKw J' ∧ (∀ a, a ≠ 11 → J' a = J a) ∧ R' = tkR R)) (h0 : Z0 0 I J R) : RgSV Sx w l yX10_init dd_X10_init [.ref 0] (1, I, J, R) 452 vdP := by
  have hk : bOK bD0 := bD0_ok.1.1
  have h3 : bD0 0 3 < 2 ^ bD0 0 1 := by decide
  have ha := h0
  refine rgS_intro hSx (L := [some (.ref 0), none]) ⟨by decide, rfl, fun _ => rfl⟩ (by omega) (Nat.le_of_ble_eq_true rfl) rfl (fun Y Q hX hQ => ?_)
  refine q_aload_n (pc' := 1) dX10_init_0 rfl rfl (q_objI (pc' := 4) dX10_init_1 rfl ml_RX10_3 (Nat.le_of_ble_eq_true rfl) (Nat.le_of_ble_eq_true rfl) (q_aload_n (pc' := 5) dX10_init_4 rfl rfl (q_sipush (pc' := 8) _ dX10_init_5 rfl kk_sipush_800 (q_newB (pc' := 10) (z2 := 2) dX10_init_8 rfl rfl (by first | rfl | exact (okaS hi (Nat.le_refl _) (by decide) rfl).2 | assumption) (by decide) (by first | omega | (unfold sA; omega)) (by rw [zf_mk]; first | omega | (unfold sA; omega)) (by (repeat first | exact Z0_mono h0 (by first | omega | (unfold sA; omega)) | refine Z0_upR (by first | omega | (unfold sA; omega)) ?_ | refine Z0_upI (by first | omega | (unfold sA; omega)) ?_ | refine Z0_gr (by first | omega | (unfold sA; omega)) ?_)) (q_putR (pc' := 13) dX10_init_10 rfl fl_RX10_9 (fun _ => rfl) (Or.inr ⟨_, rfl⟩) ⟨(by first | omega | (unfold sA; omega)), (by first | rfl | exact (okS hi (Nat.le_refl _) (by decide) rfl).2 | assumption)⟩ rfl (by first | decide | omega) (q_aload_n (pc' := 14) dX10_init_13 rfl rfl (q_iconst (pc' := 15) _ dX10_init_14 rfl kk_iconst_2 (q_newS (pc' := 18) (z2 := 3) dX10_init_15 rfl rfl T_cl_RX10_13 (by first | rfl | exact (okaS hi (Nat.le_refl _) (by decide) rfl).2 | assumption) (by decide) (by first | omega | (unfold sA; omega)) (by rw [zf_mk]; first | omega | (unfold sA; omega)) (by (repeat first | exact Z0_mono h0 (by first | omega | (unfold sA; omega)) | refine Z0_upR (by first | omega | (unfold sA; omega)) ?_ | refine Z0_upI (by first | omega | (unfold sA; omega)) ?_ | refine Z0_gr (by first | omega | (unfold sA; omega)) ?_)) (q_putR (pc' := 21) dX10_init_18 rfl fl_RX10_15 (fun _ => rfl) (Or.inr ⟨_, rfl⟩) ⟨(by first | omega | (unfold sA; omega)), (by first | rfl | exact (okS hi (Nat.le_refl _) (by decide) rfl).2 | assumption)⟩ rfl (by first | decide | omega) (q_aload_n (pc' := 22) dX10_init_21 rfl rfl (q_iconst (pc' := 23) _ dX10_init_22 rfl kk_iconst_2 (q_newZ (pc' := 25) (z2 := 4) dX10_init_23 rfl rfl (by first | rfl | exact (okaS hi (Nat.le_refl _) (by decide) rfl).2 | assumption) (by decide) (by first | omega | (unfold sA; omega)) (by rw [zf_mk]; first | omega | (unfold sA; omega)) (by (repeat first | exact Z0_mono h0 (by first | omega | (unfold sA; omega)) | refine Z0_upR (by first | omega | (unfold sA; omega)) ?_ | refine Z0_upI (by first | omega | (unfold sA; omega)) ?_ | refine Z0_gr (by first | omega | (unfold sA; omega)) ?_)) (q_putR (pc' := 28) dX10_init_25 rfl fl_RX10_19 (fun _ => rfl) (Or.inr ⟨_, rfl⟩) ⟨(by first | omega | (unfold sA; omega)), (by first | rfl | exact (okS hi (Nat.le_refl _) (by decide) rfl).2 | assumption)⟩ rfl (by first | decide | omega) ?_)))))))))))))
  refine q_aload_n (pc' := 29) dX10_init_28 rfl rfl (q_new (pc' := 32) (ci := 0) (z2 := 5) dX10_init_29 rfl rfl rfl T_cl_RX10_23 T_in_RX10_23 T_ini_RX10_23 (by first | rfl | exact (okS hi (Nat.le_refl _) (by decide) rfl).2 | assumption) (by first | omega | (unfold sA; omega)) (by rw [zf_mk]; first | omega | (unfold sA; omega)) (by (repeat first | exact Z0_mono h0 (by first | omega | (unfold sA; omega)) | refine Z0_upR (by first | omega | (unfold sA; omega)) ?_ | refine Z0_upI (by first | omega | (unfold sA; omega)) ?_ | refine Z0_gr (by first | omega | (unfold sA; omega)) ?_)) (q_dup_a (pc' := 33) dX10_init_32 rfl (q_gI (pc' := 36) (z2 := 10) dX10_init_33 rfl ml_RX10_25 yi_X0_init (Nat.le_of_ble_eq_true rfl) (rg_X0_init (a := 4) rfl rfl rfl rfl rfl rfl (by decide) (by (repeat first | exact Z0_mono h0 (by first | omega | (unfold sA; omega)) | refine Z0_upR (by first | omega | (unfold sA; omega)) ?_ | refine Z0_upI (by first | omega | (unfold sA; omega)) ?_ | refine Z0_gr (by first | omega | (unfold sA; omega)) ?_))) (by first | omega | (unfold sA; omega)) rfl rfl (Nat.le_of_ble_eq_true rfl) (by rw [zf_mk]; first | omega | (unfold sA; omega)) (fun I1 J1 R1 ⟨e1, e2, e3⟩ => ?_))))
  subst e1
  subst e2
  subst e3
  show Wq dd_X10_init (mj_mk w l 452 Y) Q 36 [some (.ref 0), none] [.ref 4, .ref 0] (10, vI1 I, J1, vR1 R)
  have z1 : Z0 10 (vI1 I) J1 (vR1 R) := Z0_L ha (by decide) (fun a h => vI1_ne (by omega)) (fun _ _ => rfl) (fun a h => vR1_lo h)
  clear h0
  have h0 := z1
  refine q_putR (pc' := 39) dX10_init_36 rfl fl_RX10_26 (fun _ => rfl) (Or.inl ⟨_, rfl⟩) ⟨(by first | omega | (unfold sA; omega)), (by first | rfl | exact (okS hi (Nat.le_refl _) (by decide) rfl).2 | assumption)⟩ rfl (by first | decide | omega) (q_aload_n (pc' := 40) dX10_init_39 rfl rfl (q_new (pc' := 43) (ci := 9) (z2 := 11) dX10_init_40 rfl rfl rfl T_cl_RX10_30 T_in_RX10_30 T_ini_RX10_30 (by first | rfl | exact (okS hi (Nat.le_refl _) (by decide) rfl).2 | assumption) (by first | omega | (unfold sA; omega)) (by rw [zf_mk]; first | omega | (unfold sA; omega)) (by (repeat first | exact Z0_mono h0 (by first | omega | (unfold sA; omega)) | refine Z0_upR (by first | omega | (unfold sA; omega)) ?_ | refine Z0_upI (by first | omega | (unfold sA; omega)) ?_ | refine Z0_gr (by first | omega | (unfold sA; omega)) ?_)) (q_dup_a (pc' := 44) dX10_init_43 rfl (q_aload_n (pc' := 45) dX10_init_44 rfl rfl (q_getR (pc' := 48) dX10_init_45 rfl fr_RX10_9 ⟨(by first | omega | (unfold sA; omega)), (by first | rfl | exact (okS hi (Nat.le_refl _) (by decide) rfl).2 | assumption)⟩ rfl (show _ = 1 by simp [vR1, bR, mj_up]) (by decide) (q_gIS (pc' := 51) (z2 := 16) hX dX10_init_48 rfl ml_RX10_32 yi_X9_init (Nat.le_of_ble_eq_true rfl) (h9 _ _ _ (by (repeat first | exact Z0_mono h0 (by first | omega | (unfold sA; omega)) | refine Z0_upR (by first | omega | (unfold sA; omega)) ?_ | refine Z0_upI (by first | omega | (unfold sA; omega)) ?_ | refine Z0_gr (by first | omega | (unfold sA; omega)) ?_))) (by first | omega | (unfold sA; omega)) rfl rfl (Nat.le_of_ble_eq_true rfl) (by rw [zf_mk]; first | omega | (unfold sA; omega)) (fun I2 J2 R2 ⟨e1, k2, j2, e3⟩ => ?_)))))))
  subst e1
  subst e3
  show Wq dd_X10_init (mj_mk w l 452 Y) Q 51 [some (.ref 0), none] [.ref 10, .ref 0] (16, vI2 I, J2, vR2 R)
  have z2 : Z0 16 (vI2 I) J2 (vR2 R) := Z0_L ha (by decide) (fun a h => vI2_ne (by omega) (by omega)) (fun a h => j2 a (by omega)) (fun a h => vR2_lo h)
  clear h0 z1
  have h0 := z2
  refine q_putR (pc' := 54) dX10_init_51 rfl fl_RX10_35 (fun _ => rfl) (Or.inl ⟨_, rfl⟩) ⟨(by first | omega | (unfold sA; omega)), (by first | rfl | exact (okS hi (Nat.le_refl _) (by decide) rfl).2 | assumption)⟩ rfl (by first | decide | omega) (q_aload_n (pc' := 55) dX10_init_54 rfl rfl (q_new (pc' := 58) (ci := 1) (z2 := 17) dX10_init_55 rfl rfl rfl T_cl_RX10_39 T_in_RX10_39 T_ini_RX10_39 (by first | rfl | exact (okS hi (Nat.le_refl _) (by decide) rfl).2 | assumption) (by first | omega | (unfold sA; omega)) (by rw [zf_mk]; first | omega | (unfold sA; omega)) (by (repeat first | exact Z0_mono h0 (by first | omega | (unfold sA; omega)) | refine Z0_upR (by first | omega | (unfold sA; omega)) ?_ | refine Z0_upI (by first | omega | (unfold sA; omega)) ?_ | refine Z0_gr (by first | omega | (unfold sA; omega)) ?_)) (q_dup_a (pc' := 59) dX10_init_58 rfl (q_aload_n (pc' := 60) dX10_init_59 rfl rfl (q_getR (pc' := 63) dX10_init_60 rfl fr_RX10_35 ⟨(by first | omega | (unfold sA; omega)), (by first | rfl | exact (okS hi (Nat.le_refl _) (by decide) rfl).2 | assumption)⟩ rfl (show _ = 10 by simp [mj_up]) (by decide) (q_gI (pc' := 66) (z2 := 23) dX10_init_63 rfl ml_RX10_41 yi_X1_init (Nat.le_of_ble_eq_true rfl) (rg_X1_init (by (repeat first | exact Z0_mono h0 (by first | omega | (unfold sA; omega)) | refine Z0_upR (by first | omega | (unfold sA; omega)) ?_ | refine Z0_upI (by first | omega | (unfold sA; omega)) ?_ | refine Z0_gr (by first | omega | (unfold sA; omega)) ?_))) (by first | omega | (unfold sA; omega)) rfl rfl (Nat.le_of_ble_eq_true rfl) (by rw [zf_mk]; first | omega | (unfold sA; omega)) (fun I3 J3 R3 ⟨e1, e2, e3⟩ => ?_)))))))
  subst e1
  subst e2
  subst e3
  show Wq dd_X10_init (mj_mk w l 452 Y) Q 66 [some (.ref 0), none] [.ref 16, .ref 0] (23, vI3 I, J3, vR3 R)
  have z3 : Z0 23 (vI3 I) J3 (vR3 R) := Z0_L ha (by decide) (fun a h => vI3_ne (by omega) (by omega) (by omega)) (fun a h => j2 a (by omega)) (fun a h => vR3_lo h)
  clear h0 z2
  have h0 := z3
  refine q_putR (pc' := 69) dX10_init_66 rfl fl_RX10_44 (fun _ => rfl) (Or.inl ⟨_, rfl⟩) ⟨(by first | omega | (unfold sA; omega)), (by first | rfl | exact (okS hi (Nat.le_refl _) (by decide) rfl).2 | assumption)⟩ rfl (by first | decide | omega) (q_aload_n (pc' := 70) dX10_init_69 rfl rfl (q_new (pc' := 73) (ci := 3) (z2 := 24) dX10_init_70 rfl rfl rfl T_cl_RX10_48 T_in_RX10_48 T_ini_RX10_48 (by first | rfl | exact (okS hi (Nat.le_refl _) (by decide) rfl).2 | assumption) (by first | omega | (unfold sA; omega)) (by rw [zf_mk]; first | omega | (unfold sA; omega)) (by (repeat first | exact Z0_mono h0 (by first | omega | (unfold sA; omega)) | refine Z0_upR (by first | omega | (unfold sA; omega)) ?_ | refine Z0_upI (by first | omega | (unfold sA; omega)) ?_ | refine Z0_gr (by first | omega | (unfold sA; omega)) ?_)) (q_dup_a (pc' := 74) dX10_init_73 rfl (q_aload_n (pc' := 75) dX10_init_74 rfl rfl (q_getR (pc' := 78) dX10_init_75 rfl fr_RX10_35 ⟨(by first | omega | (unfold sA; omega)), (by first | rfl | exact (okS hi (Nat.le_refl _) (by decide) rfl).2 | assumption)⟩ rfl (show _ = 10 by simp [vR3, vR2, vR1, bR, tkR, mj_up]) (by decide) (q_aload_n (pc' := 79) dX10_init_78 rfl rfl (q_getR (pc' := 82) dX10_init_79 rfl fr_RX10_26 ⟨(by first | omega | (unfold sA; omega)), (by first | rfl | exact (okS hi (Nat.le_refl _) (by decide) rfl).2 | assumption)⟩ rfl (show _ = 4 by simp [vR3, vR2, vR1, bR, tkR, mj_up]) (by decide) (q_gI (pc' := 85) (z2 := 28) dX10_init_82 rfl ml_RX10_50 yi_X3_init (Nat.le_of_ble_eq_true rfl) (rg_X3_init (by (repeat first | exact Z0_mono h0 (by first | omega | (unfold sA; omega)) | refine Z0_upR (by first | omega | (unfold sA; omega)) ?_ | refine Z0_upI (by first | omega | (unfold sA; omega)) ?_ | refine Z0_gr (by first | omega | (unfold sA; omega)) ?_))) (by first | omega | (unfold sA; omega)) rfl rfl (Nat.le_of_ble_eq_true rfl) (by rw [zf_mk]; first | omega | (unfold sA; omega)) (fun I4 J4 R4 ⟨e1, e2, e3⟩ => ?_)))))))))
  subst e1
  subst e2
  subst e3
  show Wq dd_X10_init (mj_mk w l 452 Y) Q 85 [some (.ref 0), none] [.ref 23, .ref 0] (28, vI3 I, J4, vR4 R)
  have z5 : Z0 28 (vI3 I) J4 (vR5 R) := Z0_L ha (by decide) (fun a h => vI3_ne (by omega) (by omega) (by omega)) (fun a h => j2 a (by omega)) (fun a h => vR5_lo h)
  have b5 : cB (vI3 I) bD0 := ⟨⟨by simp [vI3, vI2, vI1, eBd, mj_up, bD0], by simp [vI3, vI2, vI1, eBd, mj_up, bD0], by simp [vI3, vI2, vI1, eBd, mj_up, bD0], by simp [vI3, vI2, vI1, eBd, mj_up, bD0], by simp [vI3, vI2, vI1, eBd, mj_up, bD0]⟩, fun d hd => absurd hd (Nat.not_lt_zero _)⟩
  clear h0 z3
  refine q_putR (pc' := 88) dX10_init_85 rfl fl_RX10_53 (fun _ => rfl) (Or.inl ⟨_, rfl⟩) ⟨(by first | omega | (unfold sA; omega)), (by first | rfl | exact (okS hi (Nat.le_refl _) (by decide) rfl).2 | assumption)⟩ rfl (by first | decide | omega) ?_
  show Wq dd_X10_init (mj_mk w l 452 Y) Q 88 [some (.ref 0), none] [] (28, vI3 I, J4, vR5 R)
  have h0 := z5
  refine q_aload_n (pc' := 89) dX10_init_88 rfl rfl (q_new (pc' := 92) (ci := 2) (z2 := 29) dX10_init_89 rfl rfl rfl T_cl_RX10_57 T_in_RX10_57 T_ini_RX10_57 (by first | rfl | exact (okS hi (Nat.le_refl _) (by decide) rfl).2 | assumption) (by first | omega | (unfold sA; omega)) (by rw [zf_mk]; first | omega | (unfold sA; omega)) (by (repeat first | exact Z0_mono h0 (by first | omega | (unfold sA; omega)) | refine Z0_upR (by first | omega | (unfold sA; omega)) ?_ | refine Z0_upI (by first | omega | (unfold sA; omega)) ?_ | refine Z0_gr (by first | omega | (unfold sA; omega)) ?_)) (q_dup_a (pc' := 93) dX10_init_92 rfl (q_aload_n (pc' := 94) dX10_init_93 rfl rfl (q_getR (pc' := 97) dX10_init_94 rfl fr_RX10_26 ⟨(by first | omega | (unfold sA; omega)), (by first | rfl | exact (okS hi (Nat.le_refl _) (by decide) rfl).2 | assumption)⟩ rfl (show _ = 4 by simp [vR5, vR4, vR3, vR2, vR1, bR, tkR, mj_up]) (by decide) (q_gI (pc' := 100) (z2 := 390) dX10_init_97 rfl ml_RX10_59 yi_X2_init (Nat.le_of_ble_eq_true rfl) (rg_X2_init (b := bD0) (by (repeat first | exact Z0_mono h0 (by first | omega | (unfold sA; omega)) | refine Z0_upR (by first | omega | (unfold sA; omega)) ?_ | refine Z0_upI (by first | omega | (unfold sA; omega)) ?_ | refine Z0_gr (by first | omega | (unfold sA; omega)) ?_)) b5 hk h3) (by first | omega | (unfold sA; omega)) rfl rfl (Nat.le_of_ble_eq_true rfl) (by rw [zf_mk]; first | omega | (unfold sA; omega)) (fun I6 J6 R6 ⟨s6, f6, e2, z6, b6⟩ => ?_))))))
  subst e2
  obtain ⟨fi, fr, g0, g1, g2, gt⟩ := f6
  clear h0 z5
  have h0 := z6
  have r03 : R6 0 3 = 4 := by rw [fr 0 (by decide)]; simp [vR5, vR4, vR3, vR2, vR1, bR, tkR, mj_up]
  have r08 : R6 0 8 = 2 := by rw [fr 0 (by decide)]; simp [vR5, vR4, vR3, vR2, vR1, bR, tkR, mj_up]
  refine q_putR (pc' := 103) dX10_init_100 rfl fl_RX10_62 (fun _ => rfl) (Or.inl ⟨_, rfl⟩) ⟨(by first | omega | (unfold sA; omega)), (by first | rfl | exact (okS hi (Nat.le_refl _) (by decide) rfl).2 | assumption)⟩ rfl (by first | decide | omega) (q_aload_n (pc' := 104) dX10_init_103 rfl rfl (q_new (pc' := 107) (ci := 5) (z2 := sA 18 1) dX10_init_104 rfl rfl rfl T_cl_RX10_13 T_in_RX10_13 T_ini_RX10_13 (by first | rfl | exact (okS hi (Nat.le_refl _) (by decide) rfl).2 | assumption) (by first | omega | (unfold sA; omega)) (by rw [zf_mk]; first | omega | (unfold sA; omega)) (by (repeat first | exact Z0_mono h0 (by first | omega | (unfold sA; omega)) | refine Z0_upR (by first | omega | (unfold sA; omega)) ?_ | refine Z0_upI (by first | omega | (unfold sA; omega)) ?_ | refine Z0_gr (by first | omega | (unfold sA; omega)) ?_)) (q_dup_a (pc' := 108) dX10_init_107 rfl (q_aload_n (pc' := 109) dX10_init_108 rfl rfl (q_getR (pc' := 112) dX10_init_109 rfl fr_RX10_26 ⟨(by first | omega | (unfold sA; omega)), (by first | rfl | exact (okS hi (Nat.le_refl _) (by decide) rfl).2 | assumption)⟩ rfl (show _ = 4 by simp [mj_up, r03]) (by decide) (q_gI (pc' := 115) (z2 := sA 18 20) dX10_init_112 rfl ml_RX10_66 yi_X5_init (Nat.le_of_ble_eq_true rfl) (rg_X5_init (b := bD0) (i := 18) (by decide) (by (repeat first | exact Z0_mono h0 (by first | omega | (unfold sA; omega)) | refine Z0_upR (by first | omega | (unfold sA; omega)) ?_ | refine Z0_upI (by first | omega | (unfold sA; omega)) ?_ | refine Z0_gr (by first | omega | (unfold sA; omega)) ?_)) b6 hk h3) (by first | omega | (unfold sA; omega)) rfl rfl (Nat.le_of_ble_eq_true rfl) (by rw [zf_mk]; first | omega | (unfold sA; omega)) (fun I7 J7 R7 ⟨q1, q2, q3, q4⟩ => ?_)))))))
  subst q3
  subst q4
  have s7 : Sts 19 I7 (sR (mj_up R6 0 6 28) 18) bD0 := Sts_S (n := 18) (by decide) (Sts_F (fun _ _ _ => rfl) (fun a ha _ => up_fR (by omega)) s6) q1 q2
  have z7 : Z0 (sA 18 20) I7 J7 (sR (mj_up R6 0 6 28) 18) := Z0_S (Z0_upR (by decide) (Z0_mono z6 (by decide))) q2
  have b7 := cB_S q2 b6
  have r7 : ∀ a, a < 390 → sR (mj_up R6 0 6 28) 18 a = mj_up R6 0 6 28 a := fun a ha => sR_lo (fun e he => by unfold sA; omega)
  have i7 : ∀ a, a < 390 → I7 a = I6 a := fun a ha => q2 a (fun e he => by unfold sA; omega)
  generalize sR (mj_up R6 0 6 28) 18 = R7 at s7 z7 r7 ⊢
  clear h0
  have h0 := z7
  refine q_putR (pc' := 118) dX10_init_115 rfl fl_RX10_67 (fun _ => rfl) (Or.inl ⟨_, rfl⟩) ⟨(by first | omega | (unfold sA; omega)), (by first | rfl | exact (okS hi (Nat.le_refl _) (by decide) rfl).2 | assumption)⟩ rfl (by first | decide | omega) (q_iconst (pc' := 119) _ dX10_init_118 rfl kk_iconst_0 (q_ist_1 (pc' := 120) dX10_init_119 rfl (by decide) rfl (q_iload_n (pc' := 121) dX10_init_120 rfl rfl (q_iconst (pc' := 122) _ dX10_init_121 rfl kk_iconst_2 (q_icmp_ge (pc' := 125) (pt := 148) dX10_init_122 rfl rfl (fun h9 => absurd h9 (by (first | assumption | exact nI_le (by omega) (by omega) | exact nI_ge (by omega) (by omega) | exact nI_lt (by omega) (by omega) | exact nI_nlt (by omega) (by omega) | exact nI_ne (by omega) (by omega) (by omega) | exact nI_e (by omega) | decide))) (fun _ => (q_aload_n (pc' := 126) dX10_init_125 rfl rfl (q_getR (pc' := 129) dX10_init_126 rfl fr_RX10_15 ⟨(by first | omega | (unfold sA; omega)), (by first | rfl | exact (okS hi (Nat.le_refl _) (by decide) rfl).2 | assumption)⟩ rfl (show _ = 2 by simp [mj_up, r7, r08]) (by decide) (q_iload_n (pc' := 130) dX10_init_129 rfl rfl (q_new (pc' := 133) (ci := 5) (z2 := sA 19 1) dX10_init_130 rfl rfl rfl T_cl_RX10_13 T_in_RX10_13 T_ini_RX10_13 (by first | rfl | exact (okS hi (Nat.le_refl _) (by decide) rfl).2 | assumption) (by first | omega | (unfold sA; omega)) (by rw [zf_mk]; first | omega | (unfold sA; omega)) (by (repeat first | exact Z0_mono h0 (by first | omega | (unfold sA; omega)) | refine Z0_upR (by first | omega | (unfold sA; omega)) ?_ | refine Z0_upI (by first | omega | (unfold sA; omega)) ?_ | refine Z0_gr (by first | omega | (unfold sA; omega)) ?_)) (q_dup_a (pc' := 134) dX10_init_133 rfl (q_aload_n (pc' := 135) dX10_init_134 rfl rfl (q_getR (pc' := 138) dX10_init_135 rfl fr_RX10_26 ⟨(by first | omega | (unfold sA; omega)), (by first | rfl | exact (okS hi (Nat.le_refl _) (by decide) rfl).2 | assumption)⟩ rfl (show _ = 4 by simp [mj_up, r7, r03]) (by decide) ?_)))))))))))))
  refine q_gI (pc' := 141) (z2 := sA 19 20) dX10_init_138 rfl ml_RX10_66 yi_X5_init (Nat.le_of_ble_eq_true rfl) (rg_X5_init (b := bD0) (i := 19) (by decide) (by (repeat first | exact Z0_mono h0 (by first | omega | (unfold sA; omega)) | refine Z0_upR (by first | omega | (unfold sA; omega)) ?_ | refine Z0_upI (by first | omega | (unfold sA; omega)) ?_ | refine Z0_gr (by first | omega | (unfold sA; omega)) ?_)) b7 hk h3) (by first | omega | (unfold sA; omega)) rfl rfl (Nat.le_of_ble_eq_true rfl) (by rw [zf_mk]; first | omega | (unfold sA; omega)) (fun I8 J8 R8 ⟨q1, p2, q3, q4⟩ => ?_)
  subst q3
  subst q4
  have s8 : Sts 20 I8 (sR (mj_up R7 0 7 390) 19) bD0 := Sts_S (n := 19) (by decide) (Sts_F (fun _ _ _ => rfl) (fun a ha _ => up_fR (by omega)) s7) q1 p2
  have z8 : Z0 (sA 19 20) I8 J8 (sR (mj_up R7 0 7 390) 19) := Z0_S (Z0_upR (by decide) (Z0_mono z7 (by decide))) p2
  have b8 := cB_S p2 b7
  have r8 : ∀ a, a < 390 → sR (mj_up R7 0 7 390) 19 a = mj_up R7 0 7 390 a := fun a ha => sR_lo (fun e he => by unfold sA; omega)
  have i8 : ∀ a, a < 390 → I8 a = I6 a := fun a ha => (p2 a (fun e he => by unfold sA; omega)).trans (i7 a ha)
  generalize sR (mj_up R7 0 7 390) 19 = R8 at s8 z8 r8 ⊢
  clear h0
  have h0 := z8
  refine q_aast (pc' := 142) _ dX10_init_141 rfl ⟨(by first | omega | (unfold sA; omega)), rfl⟩ ⟨(by first | omega | (unfold sA; omega)), (by first | rfl | exact (okS (by omega) (Nat.le_refl _) (by decide) rfl).2)⟩ rfl (by omega) (q_inc_1 (pc' := 145) dX10_init_142 rfl (by decide) rfl (q_goto (pc' := 120) dX10_init_145 rfl (q_iload_n (pc' := 121) dX10_init_120 rfl rfl (q_iconst (pc' := 122) _ dX10_init_121 rfl kk_iconst_2 (q_icmp_ge (pc' := 125) (pt := 148) dX10_init_122 rfl rfl (fun h9 => absurd h9 (by (first | assumption | exact nI_le (by omega) (by omega) | exact nI_ge (by omega) (by omega) | exact nI_lt (by omega) (by omega) | exact nI_nlt (by omega) (by omega) | exact nI_ne (by omega) (by omega) (by omega) | exact nI_e (by omega) | decide))) (fun _ => (q_aload_n (pc' := 126) dX10_init_125 rfl rfl (q_getR (pc' := 129) dX10_init_126 rfl fr_RX10_15 ⟨(by first | omega | (unfold sA; omega)), (by first | rfl | exact (okS hi (Nat.le_refl _) (by decide) rfl).2 | assumption)⟩ rfl (show _ = 2 by simp [mj_up, r8, r7, r08]) (by decide) (q_iload_n (pc' := 130) dX10_init_129 rfl rfl (q_new (pc' := 133) (ci := 5) (z2 := sA 20 1) dX10_init_130 rfl rfl rfl T_cl_RX10_13 T_in_RX10_13 T_ini_RX10_13 (by first | rfl | exact (okS hi (Nat.le_refl _) (by decide) rfl).2 | assumption) (by first | omega | (unfold sA; omega)) (by rw [zf_mk]; first | omega | (unfold sA; omega)) (by (repeat first | exact Z0_mono h0 (by first | omega | (unfold sA; omega)) | refine Z0_upR (by first | omega | (unfold sA; omega)) ?_ | refine Z0_upI (by first | omega | (unfold sA; omega)) ?_ | refine Z0_gr (by first | omega | (unfold sA; omega)) ?_)) (q_dup_a (pc' := 134) dX10_init_133 rfl (q_aload_n (pc' := 135) dX10_init_134 rfl rfl (q_getR (pc' := 138) dX10_init_135 rfl fr_RX10_26 ⟨(by first | omega | (unfold sA; omega)), (by first | rfl | exact (okS hi (Nat.le_refl _) (by decide) rfl).2 | assumption)⟩ rfl (show _ = 4 by simp [mj_up, r8, r7, r03]) (by decide) ?_)))))))))))))
  refine q_gI (pc' := 141) (z2 := sA 20 20) dX10_init_138 rfl ml_RX10_66 yi_X5_init (Nat.le_of_ble_eq_true rfl) (rg_X5_init (b := bD0) (i := 20) (by decide) (by (repeat first | exact Z0_mono h0 (by first | omega | (unfold sA; omega)) | refine Z0_upR (by first | omega | (unfold sA; omega)) ?_ | refine Z0_upI (by first | omega | (unfold sA; omega)) ?_ | refine Z0_gr (by first | omega | (unfold sA; omega)) ?_)) b8 hk h3) (by first | omega | (unfold sA; omega)) rfl rfl (Nat.le_of_ble_eq_true rfl) (by rw [zf_mk]; first | omega | (unfold sA; omega)) (fun I9 J9 R9 ⟨q1, p3, q3, q4⟩ => ?_)
  subst q3
  subst q4
  have s9 : Sts 21 I9 (sR (mj_up R8 2 0 (sA 18 20)) 20) bD0 := Sts_S (n := 20) (by decide) (Sts_F (fun _ _ _ => rfl) (fun a ha _ => up_fR (by omega)) s8) q1 p3
  have z9 : Z0 (sA 20 20) I9 J9 (sR (mj_up R8 2 0 (sA 18 20)) 20) := Z0_S (Z0_upR (by decide) (Z0_mono z8 (by decide))) p3
  have b9 := cB_S p3 b8
  have r9 : ∀ a, a < 390 → sR (mj_up R8 2 0 (sA 18 20)) 20 a = mj_up R8 2 0 (sA 18 20) a := fun a ha => sR_lo (fun e he => by unfold sA; omega)
  have i9 : ∀ a, a < 390 → I9 a = I6 a := fun a ha => (p3 a (fun e he => by unfold sA; omega)).trans (i8 a ha)
  generalize sR (mj_up R8 2 0 (sA 18 20)) 20 = R9 at s9 z9 r9 ⊢
  clear h0
  have h0 := z9
  refine q_aast (pc' := 142) _ dX10_init_141 rfl ⟨(by first | omega | (unfold sA; omega)), rfl⟩ ⟨(by first | omega | (unfold sA; omega)), (by first | rfl | exact (okS (by omega) (Nat.le_refl _) (by decide) rfl).2)⟩ rfl (by omega) (q_inc_1 (pc' := 145) dX10_init_142 rfl (by decide) rfl (q_goto (pc' := 120) dX10_init_145 rfl (q_iload_n (pc' := 121) dX10_init_120 rfl rfl (q_iconst (pc' := 122) _ dX10_init_121 rfl kk_iconst_2 (q_icmp_ge (pc' := 125) (pt := 148) dX10_init_122 rfl rfl (fun _ => (q_aload_n (pc' := 149) dX10_init_148 rfl rfl (q_new (pc' := 152) (ci := 7) (z2 := 451) dX10_init_149 rfl rfl rfl T_cl_RX10_71 T_in_RX10_71 T_ini_RX10_71 (by first | rfl | exact (okS hi (Nat.le_refl _) (by decide) rfl).2 | assumption) (by first | omega | (unfold sA; omega)) (by rw [zf_mk]; first | omega | (unfold sA; omega)) (by (repeat first | exact Z0_mono h0 (by first | omega | (unfold sA; omega)) | refine Z0_upR (by first | omega | (unfold sA; omega)) ?_ | refine Z0_upI (by first | omega | (unfold sA; omega)) ?_ | refine Z0_gr (by first | omega | (unfold sA; omega)) ?_)) (q_dup_a (pc' := 153) dX10_init_152 rfl (q_aload_n (pc' := 154) dX10_init_153 rfl rfl (q_getR (pc' := 157) dX10_init_154 rfl fr_RX10_26 ⟨(by first | omega | (unfold sA; omega)), (by first | rfl | exact (okS hi (Nat.le_refl _) (by decide) rfl).2 | assumption)⟩ rfl (show _ = 4 by simp [mj_up, r9, r8, r7, r03]) (by decide) (q_gI (pc' := 160) (z2 := 451) dX10_init_157 rfl ml_RX10_73 yi_X7_init (Nat.le_of_ble_eq_true rfl) (rg_X7_init) (by first | omega | (unfold sA; omega)) rfl rfl (Nat.le_of_ble_eq_true rfl) (by rw [zf_mk]; first | omega | (unfold sA; omega)) (fun Ia Ja Ra ⟨e1, e2, e3⟩ => ?_)))))))) (fun h9 => absurd (by (first | assumption | exact nI_le (by omega) (by omega) | exact nI_ge (by omega) (by omega) | exact nI_lt (by omega) (by omega) | exact nI_nlt (by omega) (by omega) | exact nI_ne (by omega) (by omega) (by omega) | exact nI_e (by omega) | decide)) h9))))))
  subst e1
  subst e2
  subst e3
  clear h0
  have h0 : Z0 451 (mj_up (mj_up I9 450 1 (-1)) 450 2 (-1)) Ja (mj_up (mj_up (mj_up R9 2 1 (sA 19 20)) 450 0 4) 0 10 (sA 20 20)) := Z0_upR (by decide) (Z0_upR (by decide) (Z0_upR (by decide) (Z0_upI (by decide) (Z0_upI (by decide) (Z0_mono z9 (by decide))))))
  refine q_putR (pc' := 163) dX10_init_160 rfl fl_RX10_74 (fun _ => rfl) (Or.inl ⟨_, rfl⟩) ⟨(by first | omega | (unfold sA; omega)), (by first | rfl | exact (okS hi (Nat.le_refl _) (by decide) rfl).2 | assumption)⟩ rfl (by first | decide | omega) (q_aload_n (pc' := 164) dX10_init_163 rfl rfl (q_new (pc' := 167) (ci := 6) (z2 := 452) dX10_init_164 rfl rfl rfl T_cl_RX10_78 T_in_RX10_78 T_ini_RX10_78 (by first | rfl | exact (okS hi (Nat.le_refl _) (by decide) rfl).2 | assumption) (by first | omega | (unfold sA; omega)) (by rw [zf_mk]; first | omega | (unfold sA; omega)) (by (repeat first | exact Z0_mono h0 (by first | omega | (unfold sA; omega)) | refine Z0_upR (by first | omega | (unfold sA; omega)) ?_ | refine Z0_upI (by first | omega | (unfold sA; omega)) ?_ | refine Z0_gr (by first | omega | (unfold sA; omega)) ?_)) (q_dup_a (pc' := 168) dX10_init_167 rfl (q_aload_n (pc' := 169) dX10_init_168 rfl rfl (q_getR (pc' := 172) dX10_init_169 rfl fr_RX10_26 ⟨(by first | omega | (unfold sA; omega)), (by first | rfl | exact (okS hi (Nat.le_refl _) (by decide) rfl).2 | assumption)⟩ rfl (show _ = 4 by simp [mj_up, r9, r8, r7, r03]) (by decide) (q_gI (pc' := 175) (z2 := 452) dX10_init_172 rfl ml_RX10_80 yi_X6_init (Nat.le_of_ble_eq_true rfl) (rg_X6_init) (by first | omega | (unfold sA; omega)) rfl rfl (Nat.le_of_ble_eq_true rfl) (by rw [zf_mk]; first | omega | (unfold sA; omega)) (fun Ib Jb Rb ⟨e1, e2, e3⟩ => ?_)))))))
  subst e1
  subst e2
  subst e3
  refine q_putR (pc' := 178) dX10_init_175 rfl fl_RX10_81 (fun _ => rfl) (Or.inl ⟨_, rfl⟩) ⟨(by first | omega | (unfold sA; omega)), (by first | rfl | exact (okS hi (Nat.le_refl _) (by decide) rfl).2 | assumption)⟩ rfl (by first | decide | omega) ?_
  have lo : ∀ a, a < 28 → a ≠ 0 → a ≠ 2 → mj_up (mj_up (mj_up (mj_up (mj_up R9 2 1 (sA 19 20)) 450 0 4) 0 10 (sA 20 20)) 451 0 4) 0 11 451 a = vR5 R a := fun a h1 h2 h5 => by
    rw [up_fR h2, up_fR (by omega), up_fR h2, up_fR (by omega), up_fR h5, r9 a (by omega), up_fR h5, r8 a (by omega), up_fR h2, r7 a (by omega), up_fR h2]
    exact fr a h1
  have l0 : ∀ k, k ≠ 6 → k ≠ 7 → k ≠ 10 → k ≠ 11 → mj_up (mj_up (mj_up (mj_up (mj_up R9 2 1 (sA 19 20)) 450 0 4) 0 10 (sA 20 20)) 451 0 4) 0 11 451 0 k = vR5 R 0 k := fun k h1 h2 h5 h6 => by
    rw [mj_up_ne2 h6, mj_up_ne (by decide), mj_up_ne2 h5, mj_up_ne (by decide), mj_up_ne (by decide), r9 0 (by decide), mj_up_ne (by decide), r8 0 (by decide), mj_up_ne2 h2, r7 0 (by decide), mj_up_ne2 h1, fr 0 (by decide)]
  have hi : ∀ a, 28 ≤ a → a < 450 → mj_up (mj_up (mj_up (mj_up (mj_up R9 2 1 (sA 19 20)) 450 0 4) 0 10 (sA 20 20)) 451 0 4) 0 11 451 a = R9 a := fun a h1 h2 => by
    rw [up_fR (by omega), up_fR (by omega), up_fR (by omega), up_fR (by omega), up_fR (by omega)]
  have hh : ∀ a, 28 ≤ a → a < 390 → mj_up (mj_up (mj_up (mj_up (mj_up R9 2 1 (sA 19 20)) 450 0 4) 0 10 (sA 20 20)) 451 0 4) 0 11 451 a = R6 a := fun a h1 h2 => by
    rw [hi a h1 (by omega), r9 a (by omega), up_fR (by omega), r8 a (by omega), up_fR (by omega), r7 a (by omega), up_fR (by omega)]
  have v6 : mj_up (mj_up (mj_up (mj_up (mj_up R9 2 1 (sA 19 20)) 450 0 4) 0 10 (sA 20 20)) 451 0 4) 0 11 451 0 6 = 28 := by rw [mj_up_ne2 (by decide), mj_up_ne (by decide), mj_up_ne2 (by decide), mj_up_ne (by decide), mj_up_ne (by decide), r9 0 (by decide), mj_up_ne (by decide), r8 0 (by decide), mj_up_ne2 (by decide), r7 0 (by decide), mj_up_eq]
  have v7 : mj_up (mj_up (mj_up (mj_up (mj_up R9 2 1 (sA 19 20)) 450 0 4) 0 10 (sA 20 20)) 451 0 4) 0 11 451 0 7 = 390 := by rw [mj_up_ne2 (by decide), mj_up_ne (by decide), mj_up_ne2 (by decide), mj_up_ne (by decide), mj_up_ne (by decide), r9 0 (by decide), mj_up_ne (by decide), r8 0 (by decide), mj_up_eq]
  have v10 : mj_up (mj_up (mj_up (mj_up (mj_up R9 2 1 (sA 19 20)) 450 0 4) 0 10 (sA 20 20)) 451 0 4) 0 11 451 0 10 = sA 20 20 := by rw [mj_up_ne2 (by decide), mj_up_ne (by decide), mj_up_eq]
  have v11 : mj_up (mj_up (mj_up (mj_up (mj_up R9 2 1 (sA 19 20)) 450 0 4) 0 10 (sA 20 20)) 451 0 4) 0 11 451 0 11 = 451 := mj_up_eq
  have v20 : mj_up (mj_up (mj_up (mj_up (mj_up R9 2 1 (sA 19 20)) 450 0 4) 0 10 (sA 20 20)) 451 0 4) 0 11 451 2 0 = sA 18 20 := by rw [mj_up_ne (by decide), mj_up_ne (by decide), mj_up_ne (by decide), mj_up_ne (by decide), mj_up_ne2 (by decide), r9 2 (by decide), mj_up_eq]
  have v21 : mj_up (mj_up (mj_up (mj_up (mj_up R9 2 1 (sA 19 20)) 450 0 4) 0 10 (sA 20 20)) 451 0 4) 0 11 451 2 1 = sA 19 20 := by rw [mj_up_ne (by decide), mj_up_ne (by decide), mj_up_ne (by decide), mj_up_ne (by decide), mj_up_eq]
  have v450 : mj_up (mj_up (mj_up (mj_up (mj_up R9 2 1 (sA 19 20)) 450 0 4) 0 10 (sA 20 20)) 451 0 4) 0 11 451 450 0 = 4 := by rw [mj_up_ne (by decide), mj_up_ne (by decide), mj_up_ne (by decide), mj_up_eq]
  have v451 : mj_up (mj_up (mj_up (mj_up (mj_up R9 2 1 (sA 19 20)) 450 0 4) 0 10 (sA 20 20)) 451 0 4) 0 11 451 451 0 = 4 := by rw [mj_up_ne (by decide), mj_up_eq]
  have hz : Z0 452 (mj_up (mj_up I9 450 1 (-1)) 450 2 (-1)) Jb (mj_up (mj_up (mj_up (mj_up (mj_up R9 2 1 (sA 19 20)) 450 0 4) 0 10 (sA 20 20)) 451 0 4) 0 11 451) := Z0_upR (by decide) (Z0_upR (by decide) (Z0_mono h0 (by decide)))
  generalize mj_up (mj_up (mj_up (mj_up (mj_up R9 2 1 (sA 19 20)) 450 0 4) 0 10 (sA 20 20)) 451 0 4) 0 11 451 = Rz at lo l0 hi hh v6 v7 v10 v11 v20 v21 v450 v451 hz ⊢
  have iz : ∀ a, a < 450 → mj_up (mj_up I9 450 1 (-1)) 450 2 (-1) a = I9 a := fun a ha => by rw [up_fI (by omega), up_fI (by omega)]
  have is : ∀ a, a < 30 → mj_up (mj_up I9 450 1 (-1)) 450 2 (-1) a = vI3 I a := fun a h1 => by rw [iz a (by omega), i9 a (by omega), fi a h1]
  have iv : ∀ a f, a ≠ 4 → a ≠ 10 → a ≠ 17 → vI3 I a f = 0 := fun a f h1 h2 h5 => by rw [vI3_ne h1 h2 h5]; exact (ha a (Nat.zero_le _)).1 f
  have bz : cB (mj_up (mj_up I9 450 1 (-1)) 450 2 (-1)) bD0 := cB_F (fun a _ _ => iz a (by omega)) b9
  generalize mj_up (mj_up I9 450 1 (-1)) 450 2 (-1) = Iz at hz iz is bz ⊢
  refine q_vret dX10_init_178 rfl (hQ none Iz Jb Rz ⟨rfl, ⟨bz, k2⟩, ⟨?_, ?_, ?_, ?_, fun j => ?_⟩, ⟨?_, ?_, ?_, fun i h1 => ?_⟩, ⟨?_, ?_, ?_⟩, ⟨?_, ?_, fun t ht => ?_⟩, ?_, hz⟩)
  · rw [is 0 (by decide)]; exact iv 0 1 (by decide) (by decide) (by decide)
  · rw [is 0 (by decide)]; exact iv 0 12 (by decide) (by decide) (by decide)
  · rw [is 10 (by decide)]; simp [vI3, vI2, vI1, eBd, mj_up]; exact (ha 10 (Nat.zero_le _)).1 16
  · rw [is 10 (by decide)]; simp [vI3, vI2, vI1, eBd, mj_up]
  · rw [is 3 (by decide)]; exact iv 3 j (by decide) (by decide) (by decide)
  · unfold mj_wV
    rw [v6, v7, v10, v11, v20, v21, v450, v451, l0 0 (by decide) (by decide) (by decide) (by decide), l0 2 (by decide) (by decide) (by decide) (by decide), l0 3 (by decide) (by decide) (by decide) (by decide), l0 4 (by decide) (by decide) (by decide) (by decide), l0 5 (by decide) (by decide) (by decide) (by decide), l0 8 (by decide) (by decide) (by decide) (by decide), l0 9 (by decide) (by decide) (by decide) (by decide), lo 10 (by decide) (by decide) (by decide), lo 16 (by decide) (by decide) (by decide), lo 23 (by decide) (by decide) (by decide), hh 28 (by decide) (by decide), g2]
    simp [vR5, vR4, vR3, vR2, vR1, bR, tkR, mj_up, sA]
  · unfold mj_wB
    rw [lo 4 (by decide) (by decide) (by decide)]
    simp [vR5, vR4, vR3, vR2, vR1, bR, tkR, mj_up]
  · unfold mj_wB
    rw [lo 17 (by decide) (by decide) (by decide)]
    simp [vR5, vR4, vR3, vR2, vR1, bR, tkR, mj_up]
  · exact wS_F (fun e he => hi _ (by unfold sA; omega) (by unfold sA; omega)) (s9 i h1).2
  · rw [is 28 (by decide)]; exact iv 28 3 (by decide) (by decide) (by decide)
  · rw [is 28 (by decide)]; exact iv 28 4 (by decide) (by decide) (by decide)
  · rw [is 28 (by decide)]; exact iv 28 5 (by decide) (by decide) (by decide)
  · rw [hh 28 (by decide) (by decide)]; exact g0
  · rw [hh 28 (by decide) (by decide)]; exact g1
  · rw [hh 29 (by decide) (by decide)]; exact gt t ht
  · exact Sts_F (fun a _ h2 => iz a (by omega)) (fun a h1 h2 => hi a (by omega) (by omega)) s9
end CT7
