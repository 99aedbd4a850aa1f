/-! ===== the reference: lines of a board ===== -/
theorem mRd_oth {I : mj_M} {J : mj_J} {T : Nat → Nat} {sz : Nat} {K : Nat → Nat} {f : Nat} {x : Int32} (hf : 9 < f) (h : mRd I J T sz K) : mRd (mj_up I 452 f x) J T sz K := by
  refine ⟨?_, h.2.1, fun g g3 g9 => ?_, ?_, h.2.2.2.2.1, fun k hk => ?_⟩
  · rw [mj_up_ne2 (by omega)]; exact h.1
  · rw [mj_up_ne2 (by omega)]; exact h.2.2.1 g g3 g9
  · rw [mj_up_ne2 (by omega)]; exact h.2.2.2.1
  · rw [mj_up_ne (by decide)]; exact h.2.2.2.2.2 k hk
/-- a line that begins with a word that may stand once, and first -/
def kL1 (K : Nat → Nat) (x y : Bool) : Nat → Nat := if y = true then kW (if x = true then kW K 2 else K) 3 else (if x = true then kW K 2 else K)
def kL2 (T : Nat → Nat) (sz : Nat) (K : Nat → Nat) (x y : Bool) : Nat → Nat := if kL1 K x y 8 = 0 then tkK T sz (kL1 K x y) else kL1 K x y
theorem kOK_l1 {sz : Nat} {K : Nat → Nat} {x y : Bool} (h : kOK sz K) : kOK sz (kL1 K x y) := by
  have h1 : kOK sz (if x = true then kW K 2 else K) := by
    split
    · exact kOK_w h (by decide)
    · exact h
  unfold kL1
  split
  · exact kOK_w h1 (by decide)
  · exact h1
theorem kOK_l2 {T : Nat → Nat} {sz : Nat} {K : Nat → Nat} {x y : Bool} (h : kOK sz K) : kOK sz (kL2 T sz K x y) := by
  unfold kL2
  split
  · exact kOK_tk (kOK_l1 h)
  · exact kOK_l1 h
section M36
variable {w : mj_Wd} {l : Launch} {I : mj_M} {J : mj_J} {R : mj_R} {b A : St} {T : Nat → Nat} {sz t : Nat} {K : Nat → Nat}
theorem rt_X11_cpusLine {x y : Bool} (hM : mj_wM R) (h : mRd I J T sz K) (hk : kOK sz K) (hx : I 452 25 = bI x) (hy : I 452 23 = bI y) : RtV w l yX11_cpusLine dd_X11_cpusLine [.ref 452] (472, I, J, R) (fun I' J' R' => ∃ I2, mRd I2 J' T sz (kNi T sz (kL2 T sz K x y) (nI 1) (nI 8)) ∧ mRf (mj_up I 452 23 (nI 1)) J I2 J' ∧ I' = mj_up I2 452 13 (if kL2 T sz K x y 8 = 0 then nI (kL2 T sz K x y 6) else 0) ∧ R' = R) := by
  refine rt_intro2 (L := [some (.ref 452)]) ⟨by decide, rfl, (fun h => by cases h)⟩ (Nat.le_of_ble_eq_true rfl) rfl (fun Y Q hQ => ?_)
  have p35 : ∀ I1 J1, mRd I1 J1 T sz (kL2 T sz K x y) → mRf I J I1 J1 → Wq dd_X11_cpusLine (mj_mk w l 472 Y) Q 35 [some (.ref 452)] [] (472, I1, J1, R) := by
    intro I1 J1 h1 f1
    have hk1 := kOK_l2 (T := T) (x := x) (y := y) hk
    have h2 : mRd (mj_up I1 452 23 (nI 1)) J1 T sz (kL2 T sz K x y) := mRd_oth (by decide) h1
    have f2 : mRf (mj_up I 452 23 (nI 1)) J (mj_up I1 452 23 (nI 1)) J1 := ⟨fun a ha => by rw [up_fI ha, up_fI ha]; exact f1.1 a ha, fun f hf => by
      by_cases e : f = 23
      · subst e; rw [mj_up_eq, mj_up_eq]
      · rw [mj_up_ne2 e, mj_up_ne2 e]; exact f1.2.1 f hf, f1.2.2⟩
    refine q_aload_n (pc' := 36) dX11_cpusLine_35 rfl rfl (q_iconst (pc' := 37) _ dX11_cpusLine_36 rfl kk_iconst_1 (q_putZ (pc' := 40) dX11_cpusLine_37 rfl fl_RX11_211 ⟨by omega, rfl⟩ rfl (by first | exact Or.inl rfl | exact Or.inr rfl | exact bI_01 _) (q_aload_n (pc' := 41) dX11_cpusLine_40 rfl rfl (q_aload_n (pc' := 42) dX11_cpusLine_41 rfl rfl (q_iconst (pc' := 43) _ dX11_cpusLine_42 rfl kk_iconst_1 (q_bipush (pc' := 45) _ dX11_cpusLine_43 rfl kk_bipush_8 (q_tVi (pc' := 48) dX11_cpusLine_45 rfl ml_RX11_221 yv_X11_numberIn (by decide) (rt_X11_numberIn hM h2 hk1) ⟨by omega, rfl⟩ rfl rfl (Nat.le_of_ble_eq_true rfl) (Nat.le_refl _) (fun x3 I3 J3 R3 ⟨r3, h3, f3, eR⟩ => ?_))))))))
    rw [eR, r3]
    exact q_putI (pc' := 51) dX11_cpusLine_48 rfl fl_RX11_196 ⟨by omega, rfl⟩ rfl (q_vret dX11_cpusLine_51 rfl (hQ _ _ _ _ ⟨rfl, I3, h3, f2.tr f3, rfl, rfl⟩))
  have p24 : ∀ I1, mRd I1 J T sz (kL1 K x y) → mRf I J I1 J → Wq dd_X11_cpusLine (mj_mk w l 472 Y) Q 24 [some (.ref 452)] [] (472, I1, J, R) := by
    intro I1 h1 f1
    have hk1 := kOK_l1 (x := x) (y := y) hk
    by_cases g : kL1 K x y 8 = 0
    · refine q_aload_n (pc' := 25) dX11_cpusLine_24 rfl rfl (q_cVi (pc' := 28) dX11_cpusLine_25 rfl ml_RX11_182 yv_X11_isGood (by decide) (rn_good h1 hk1) ⟨by omega, rfl⟩ rfl rfl (Nat.le_of_ble_eq_true rfl) (Nat.le_refl _) (q_ifb_eq (pc' := 31) (pt := 35) dX11_cpusLine_28 rfl rfl (fun h9 => Bool.noConfusion (Eq.trans (Eq.symm (beq_iff_eq.mpr g)) h9)) (fun _ => (q_aload_n (pc' := 32) dX11_cpusLine_31 rfl rfl (q_tVv (pc' := 35) dX11_cpusLine_32 rfl ml_RX11_186 yv_X11_goOn (by decide) (rt_X11_goOn hM h1 hk1.1) ⟨by omega, rfl⟩ rfl rfl (Nat.le_of_ble_eq_true rfl) (Nat.le_refl _) (fun I2 J2 R2 ⟨h2, f2, eR⟩ => ?_))))))
      rw [eR]
      exact p35 I2 J2 (by unfold kL2; rw [if_pos g]; exact h2) (f1.tr f2)
    · refine q_aload_n (pc' := 25) dX11_cpusLine_24 rfl rfl (q_cVi (pc' := 28) dX11_cpusLine_25 rfl ml_RX11_182 yv_X11_isGood (by decide) (rn_good h1 hk1) ⟨by omega, rfl⟩ rfl rfl (Nat.le_of_ble_eq_true rfl) (Nat.le_refl _) (q_ifb_eq (pc' := 31) (pt := 35) dX11_cpusLine_28 rfl rfl (fun _ => ?_) (fun h9 => Bool.noConfusion (Eq.trans (Eq.symm (beq_eq_false_iff_ne.mpr g)) h9))))
      exact p35 I1 J (by unfold kL2; rw [if_neg g]; exact h1) f1
  have p12 : ∀ I1, mRd I1 J T sz (if x = true then kW K 2 else K) → kOK sz (if x = true then kW K 2 else K) → mRf I J I1 J → Wq dd_X11_cpusLine (mj_mk w l 472 Y) Q 12 [some (.ref 452)] [] (472, I1, J, R) := by
    intro I1 h1 hk1 f1
    have e23 : I1 452 23 = bI y := by rw [f1.2.1 23 (by decide)]; exact hy
    cases y with
    | true =>
      refine q_aload_n (pc' := 13) dX11_cpusLine_12 rfl rfl (q_getIe (pc' := 16) dX11_cpusLine_13 rfl fr_RX11_211 ⟨by omega, rfl⟩ rfl e23 (q_ifb_eq (pc' := 19) (pt := 24) dX11_cpusLine_16 rfl rfl (fun h9 => Bool.noConfusion (Eq.trans (Eq.symm (rfl)) h9)) (fun _ => (q_aload_n (pc' := 20) dX11_cpusLine_19 rfl rfl (q_iconst (pc' := 21) _ dX11_cpusLine_20 rfl kk_iconst_3 (q_sVv (pc' := 24) dX11_cpusLine_21 rfl ml_RX11_175 yv_X11_wrong (by decide) (rs_wrong (x := 3) h1 hk1 (by decide)) ⟨by omega, rfl⟩ rfl rfl (Nat.le_of_ble_eq_true rfl) (Nat.le_refl _) (fun I2 ⟨h2, f2⟩ => ?_)))))))
      exact p24 I2 h2 (f1.tr f2)
    | false =>
      refine q_aload_n (pc' := 13) dX11_cpusLine_12 rfl rfl (q_getIe (pc' := 16) dX11_cpusLine_13 rfl fr_RX11_211 ⟨by omega, rfl⟩ rfl e23 (q_ifb_eq (pc' := 19) (pt := 24) dX11_cpusLine_16 rfl rfl (fun _ => ?_) (fun h9 => Bool.noConfusion (Eq.trans (Eq.symm (rfl)) h9))))
      exact p24 I1 h1 f1
  cases x with
  | true =>
    refine q_aload_n (pc' := 1) dX11_cpusLine_0 rfl rfl (q_getIe (pc' := 4) dX11_cpusLine_1 rfl fr_RX11_218 ⟨by omega, rfl⟩ rfl hx (q_ifb_eq (pc' := 7) (pt := 12) dX11_cpusLine_4 rfl rfl (fun h9 => Bool.noConfusion (Eq.trans (Eq.symm (rfl)) h9)) (fun _ => (q_aload_n (pc' := 8) dX11_cpusLine_7 rfl rfl (q_iconst (pc' := 9) _ dX11_cpusLine_8 rfl kk_iconst_2 (q_sVv (pc' := 12) dX11_cpusLine_9 rfl ml_RX11_175 yv_X11_wrong (by decide) (rs_wrong (x := 2) h hk (by decide)) ⟨by omega, rfl⟩ rfl rfl (Nat.le_of_ble_eq_true rfl) (Nat.le_refl _) (fun I2 ⟨h2, f2⟩ => ?_)))))))
    exact p12 I2 h2 (kOK_w hk (by decide)) f2
  | false =>
    refine q_aload_n (pc' := 1) dX11_cpusLine_0 rfl rfl (q_getIe (pc' := 4) dX11_cpusLine_1 rfl fr_RX11_218 ⟨by omega, rfl⟩ rfl hx (q_ifb_eq (pc' := 7) (pt := 12) dX11_cpusLine_4 rfl rfl (fun _ => ?_) (fun h9 => Bool.noConfusion (Eq.trans (Eq.symm (rfl)) h9))))
    exact p12 I h hk mRf.rf
theorem rt_X11_vectorsLine {x y : Bool} (hM : mj_wM R) (h : mRd I J T sz K) (hk : kOK sz K) (hx : I 452 25 = bI x) (hy : I 452 24 = bI y) : RtV w l yX11_vectorsLine dd_X11_vectorsLine [.ref 452] (472, I, J, R) (fun I' J' R' => ∃ I2, mRd I2 J' T sz (kNi T sz (kL2 T sz K x y) (nI 8) (nI 32)) ∧ mRf (mj_up I 452 24 (nI 1)) J I2 J' ∧ I' = mj_up I2 452 14 (if kL2 T sz K x y 8 = 0 then nI (kL2 T sz K x y 6) else 0) ∧ R' = R) := by
  refine rt_intro2 (L := [some (.ref 452)]) ⟨by decide, rfl, (fun h => by cases h)⟩ (Nat.le_of_ble_eq_true rfl) rfl (fun Y Q hQ => ?_)
  have p35 : ∀ I1 J1, mRd I1 J1 T sz (kL2 T sz K x y) → mRf I J I1 J1 → Wq dd_X11_vectorsLine (mj_mk w l 472 Y) Q 35 [some (.ref 452)] [] (472, I1, J1, R) := by
    intro I1 J1 h1 f1
    have hk1 := kOK_l2 (T := T) (x := x) (y := y) hk
    have h2 : mRd (mj_up I1 452 24 (nI 1)) J1 T sz (kL2 T sz K x y) := mRd_oth (by decide) h1
    have f2 : mRf (mj_up I 452 24 (nI 1)) J (mj_up I1 452 24 (nI 1)) J1 := ⟨fun a ha => by rw [up_fI ha, up_fI ha]; exact f1.1 a ha, fun f hf => by
      by_cases e : f = 24
      · subst e; rw [mj_up_eq, mj_up_eq]
      · rw [mj_up_ne2 e, mj_up_ne2 e]; exact f1.2.1 f hf, f1.2.2⟩
    refine q_aload_n (pc' := 36) dX11_vectorsLine_35 rfl rfl (q_iconst (pc' := 37) _ dX11_vectorsLine_36 rfl kk_iconst_1 (q_putZ (pc' := 40) dX11_vectorsLine_37 rfl fl_RX11_215 ⟨by omega, rfl⟩ rfl (by first | exact Or.inl rfl | exact Or.inr rfl | exact bI_01 _) (q_aload_n (pc' := 41) dX11_vectorsLine_40 rfl rfl (q_aload_n (pc' := 42) dX11_vectorsLine_41 rfl rfl (q_bipush (pc' := 44) _ dX11_vectorsLine_42 rfl kk_bipush_8 (q_bipush (pc' := 46) _ dX11_vectorsLine_44 rfl kk_bipush_32 (q_tVi (pc' := 49) dX11_vectorsLine_46 rfl ml_RX11_221 yv_X11_numberIn (by decide) (rt_X11_numberIn hM h2 hk1) ⟨by omega, rfl⟩ rfl rfl (Nat.le_of_ble_eq_true rfl) (Nat.le_refl _) (fun x3 I3 J3 R3 ⟨r3, h3, f3, eR⟩ => ?_))))))))
    rw [eR, r3]
    exact q_putI (pc' := 52) dX11_vectorsLine_49 rfl fl_RX11_199 ⟨by omega, rfl⟩ rfl (q_vret dX11_vectorsLine_52 rfl (hQ _ _ _ _ ⟨rfl, I3, h3, f2.tr f3, rfl, rfl⟩))
  have p24 : ∀ I1, mRd I1 J T sz (kL1 K x y) → mRf I J I1 J → Wq dd_X11_vectorsLine (mj_mk w l 472 Y) Q 24 [some (.ref 452)] [] (472, I1, J, R) := by
    intro I1 h1 f1
    have hk1 := kOK_l1 (x := x) (y := y) hk
    by_cases g : kL1 K x y 8 = 0
    · refine q_aload_n (pc' := 25) dX11_vectorsLine_24 rfl rfl (q_cVi (pc' := 28) dX11_vectorsLine_25 rfl ml_RX11_182 yv_X11_isGood (by decide) (rn_good h1 hk1) ⟨by omega, rfl⟩ rfl rfl (Nat.le_of_ble_eq_true rfl) (Nat.le_refl _) (q_ifb_eq (pc' := 31) (pt := 35) dX11_vectorsLine_28 rfl rfl (fun h9 => Bool.noConfusion (Eq.trans (Eq.symm (beq_iff_eq.mpr g)) h9)) (fun _ => (q_aload_n (pc' := 32) dX11_vectorsLine_31 rfl rfl (q_tVv (pc' := 35) dX11_vectorsLine_32 rfl ml_RX11_186 yv_X11_goOn (by decide) (rt_X11_goOn hM h1 hk1.1) ⟨by omega, rfl⟩ rfl rfl (Nat.le_of_ble_eq_true rfl) (Nat.le_refl _) (fun I2 J2 R2 ⟨h2, f2, eR⟩ => ?_))))))
      rw [eR]
      exact p35 I2 J2 (by unfold kL2; rw [if_pos g]; exact h2) (f1.tr f2)
    · refine q_aload_n (pc' := 25) dX11_vectorsLine_24 rfl rfl (q_cVi (pc' := 28) dX11_vectorsLine_25 rfl ml_RX11_182 yv_X11_isGood (by decide) (rn_good h1 hk1) ⟨by omega, rfl⟩ rfl rfl (Nat.le_of_ble_eq_true rfl) (Nat.le_refl _) (q_ifb_eq (pc' := 31) (pt := 35) dX11_vectorsLine_28 rfl rfl (fun _ => ?_) (fun h9 => Bool.noConfusion (Eq.trans (Eq.symm (beq_eq_false_iff_ne.mpr g)) h9))))
      exact p35 I1 J (by unfold kL2; rw [if_neg g]; exact h1) f1
  have p12 : ∀ I1, mRd I1 J T sz (if x = true then kW K 2 else K) → kOK sz (if x = true then kW K 2 else K) → mRf I J I1 J → Wq dd_X11_vectorsLine (mj_mk w l 472 Y) Q 12 [some (.ref 452)] [] (472, I1, J, R) := by
    intro I1 h1 hk1 f1
    have e24 : I1 452 24 = bI y := by rw [f1.2.1 24 (by decide)]; exact hy
    cases y with
    | true =>
      refine q_aload_n (pc' := 13) dX11_vectorsLine_12 rfl rfl (q_getIe (pc' := 16) dX11_vectorsLine_13 rfl fr_RX11_215 ⟨by omega, rfl⟩ rfl e24 (q_ifb_eq (pc' := 19) (pt := 24) dX11_vectorsLine_16 rfl rfl (fun h9 => Bool.noConfusion (Eq.trans (Eq.symm (rfl)) h9)) (fun _ => (q_aload_n (pc' := 20) dX11_vectorsLine_19 rfl rfl (q_iconst (pc' := 21) _ dX11_vectorsLine_20 rfl kk_iconst_3 (q_sVv (pc' := 24) dX11_vectorsLine_21 rfl ml_RX11_175 yv_X11_wrong (by decide) (rs_wrong (x := 3) h1 hk1 (by decide)) ⟨by omega, rfl⟩ rfl rfl (Nat.le_of_ble_eq_true rfl) (Nat.le_refl _) (fun I2 ⟨h2, f2⟩ => ?_)))))))
      exact p24 I2 h2 (f1.tr f2)
    | false =>
      refine q_aload_n (pc' := 13) dX11_vectorsLine_12 rfl rfl (q_getIe (pc' := 16) dX11_vectorsLine_13 rfl fr_RX11_215 ⟨by omega, rfl⟩ rfl e24 (q_ifb_eq (pc' := 19) (pt := 24) dX11_vectorsLine_16 rfl rfl (fun _ => ?_) (fun h9 => Bool.noConfusion (Eq.trans (Eq.symm (rfl)) h9))))
      exact p24 I1 h1 f1
  cases x with
  | true =>
    refine q_aload_n (pc' := 1) dX11_vectorsLine_0 rfl rfl (q_getIe (pc' := 4) dX11_vectorsLine_1 rfl fr_RX11_218 ⟨by omega, rfl⟩ rfl hx (q_ifb_eq (pc' := 7) (pt := 12) dX11_vectorsLine_4 rfl rfl (fun h9 => Bool.noConfusion (Eq.trans (Eq.symm (rfl)) h9)) (fun _ => (q_aload_n (pc' := 8) dX11_vectorsLine_7 rfl rfl (q_iconst (pc' := 9) _ dX11_vectorsLine_8 rfl kk_iconst_2 (q_sVv (pc' := 12) dX11_vectorsLine_9 rfl ml_RX11_175 yv_X11_wrong (by decide) (rs_wrong (x := 2) h hk (by decide)) ⟨by omega, rfl⟩ rfl rfl (Nat.le_of_ble_eq_true rfl) (Nat.le_refl _) (fun I2 ⟨h2, f2⟩ => ?_)))))))
    exact p12 I2 h2 (kOK_w hk (by decide)) f2
  | false =>
    refine q_aload_n (pc' := 1) dX11_vectorsLine_0 rfl rfl (q_getIe (pc' := 4) dX11_vectorsLine_1 rfl fr_RX11_218 ⟨by omega, rfl⟩ rfl hx (q_ifb_eq (pc' := 7) (pt := 12) dX11_vectorsLine_4 rfl rfl (fun _ => ?_) (fun h9 => Bool.noConfusion (Eq.trans (Eq.symm (rfl)) h9))))
    exact p12 I h hk mRf.rf
end M36
