/-! ===== the class: a BOARD read ===== -/
section BT7
variable {w : mj_Wd} {l : Launch} {I : mj_M} {J : mj_J} {R : mj_R} {T : Nat → Nat} {sz : Nat} {D : St}
theorem sw_L : ∀ v, v < 20 → (v = 0 ∨ 5 < v) → (lD v).toInt < 0 ∨ 4 < (lD v).toInt := by decide +kernel
theorem rt_X1_readLine {j : Nat} (hV : mj_wV R) (hB : mj_wB R 17) (hkw : cKw J) (h800 : sz ≤ 800) (h : cRd I J T sz j) (hD : cDr I J D) (hR : bRd D) (hf : I 10 16 = nI 0 ∧ I 10 17 = -1) : RtI w l yX1_readLine dd_X1_readLine [.ref 16] (472, I, J, R) (fun r I' J' R' => r = bI ((kLine T sz D (kSq T sz j)).1 8 == 0) ∧ (∃ j', cGo I' J' T sz j' (kLine T sz D (kSq T sz j)).1) ∧ ((kLine T sz D (kSq T sz j)).1 8 = 0 → cDr I' J' (kLine T sz D (kSq T sz j)).2) ∧ mBt I J I' J' ∧ R' = R) := by
  have hc : cCur I J T (kSq T sz j) := by obtain ⟨m, _, _, hc, _⟩ := h; exact hc
  have h8 := (kSq_89 (T := T) (sz := sz) j).1
  have e10 : I 10 10 = lD (kwO T (kSq T sz j)) := hc.2.2.2.2
  have hle := kwO_le (T := T) (K := kSq T sz j)
  have i0 := kIs_kw (T := T) (sz := sz) (j := j) (q := 0) (by decide)
  have i1 := kIs_kw (T := T) (sz := sz) (j := j) (q := 1) (by decide)
  have i2 := kIs_kw (T := T) (sz := sz) (j := j) (q := 2) (by decide)
  have i3 := kIs_kw (T := T) (sz := sz) (j := j) (q := 3) (by decide)
  have i4 := kIs_kw (T := T) (sz := sz) (j := j) (q := 4) (by decide)
  rw [show kw8 0 = 1668314483 from rfl] at i0
  rw [show kw8 1 = 33325525081485939 from rfl] at i1
  rw [show kw8 2 = 1801810036 from rfl] at i2
  rw [show kw8 3 = 7300710 from rfl] at i3
  rw [show kw8 4 = 110386941092709 from rfl] at i4
  have h32 := hR.1.2.1
  have h18 := hR.1.1
  have p32 : 2 ^ D 0 1 ≤ 2 ^ 32 := Nat.pow_le_pow_right (by decide) h32.2
  have p8 : 2 ^ D 0 0 ≤ 2 ^ 32 := Nat.pow_le_pow_right (by decide) (by omega)
  have hk3 := hR.2.2.1
  refine rt_intro2 (L := [some (.ref 16)]) ⟨by decide, rfl, (fun h => by cases h)⟩ (Nat.le_of_ble_eq_true rfl) rfl (fun Y Q hQ => ?_)
  by_cases g0 : kwO T (kSq T sz j) = 1
  · have h1 := ((kSq_kw (T := T) (sz := sz) (i := j) 0 (by decide)).mp g0).1
    have e10' : I 10 10 = nI 0 := by rw [e10, g0]; rfl
    unfold kLine kLn0 at hQ
    rw [if_pos (i0.mpr g0)] at hQ
    refine q_aload_n (pc' := 1) dX1_readLine_0 rfl rfl (q_getR (pc' := 4) dX1_readLine_1 rfl fr_RX1_18 ⟨by omega, rfl⟩ rfl (wV_1_0 hV) (by decide) (q_getIe (pc' := 7) dX1_readLine_4 rfl fr_RX1_45 ⟨by omega, rfl⟩ rfl e10' (q_tabIn (pc' := 40) dX1_readLine_7 (by decide) (by decide) rfl rfl (q_aload_n (pc' := 41) dX1_readLine_40 rfl rfl (q_tVi (pc' := 44) dX1_readLine_41 rfl ml_RX1_48 yv_X1_readCpus (by decide) (rt_X1_readCpus hV hkw h800 h h1 hD hf) ⟨by omega, rfl⟩ rfl rfl (Nat.le_of_ble_eq_true rfl) (Nat.le_refl _) (fun x1 I1 J1 R1 ⟨ex, c1, b1, m1, hR1⟩ => ?_))))))
    rw [ex, hR1]
    exact q_zret dX1_readLine_44 rfl (bI_01 _) (hQ _ _ _ _ ⟨_, rfl, rfl, c1, b1, m1, rfl⟩)
  have n0 : ¬ kIs (kSq T sz j) 1668314483 = true := fun q => g0 (i0.mp q)
  by_cases g1 : kwO T (kSq T sz j) = 2
  · have h1 := ((kSq_kw (T := T) (sz := sz) (i := j) 1 (by decide)).mp g1).1
    have e10' : I 10 10 = nI 1 := by rw [e10, g1]; rfl
    unfold kLine kLn0 at hQ
    rw [if_neg n0, if_pos (i1.mpr g1)] at hQ
    refine q_aload_n (pc' := 1) dX1_readLine_0 rfl rfl (q_getR (pc' := 4) dX1_readLine_1 rfl fr_RX1_18 ⟨by omega, rfl⟩ rfl (wV_1_0 hV) (by decide) (q_getIe (pc' := 7) dX1_readLine_4 rfl fr_RX1_45 ⟨by omega, rfl⟩ rfl e10' (q_tabIn (pc' := 45) dX1_readLine_7 (by decide) (by decide) rfl rfl (q_aload_n (pc' := 46) dX1_readLine_45 rfl rfl (q_tVi (pc' := 49) dX1_readLine_46 rfl ml_RX1_51 yv_X1_readVectors (by decide) (rt_X1_readVectors hV hkw h800 h h1 hD hf) ⟨by omega, rfl⟩ rfl rfl (Nat.le_of_ble_eq_true rfl) (Nat.le_refl _) (fun x1 I1 J1 R1 ⟨ex, c1, b1, m1, hR1⟩ => ?_))))))
    rw [ex, hR1]
    exact q_zret dX1_readLine_49 rfl (bI_01 _) (hQ _ _ _ _ ⟨_, rfl, rfl, c1, b1, m1, rfl⟩)
  have n1 : ¬ kIs (kSq T sz j) 33325525081485939 = true := fun q => g1 (i1.mp q)
  by_cases g2 : kwO T (kSq T sz j) = 3
  · have h1 := ((kSq_kw (T := T) (sz := sz) (i := j) 2 (by decide)).mp g2).1
    have e10' : I 10 10 = nI 2 := by rw [e10, g2]; rfl
    unfold kLine kLn0 at hQ
    rw [if_neg n0, if_neg n1, if_pos (i2.mpr g2)] at hQ
    refine q_aload_n (pc' := 1) dX1_readLine_0 rfl rfl (q_getR (pc' := 4) dX1_readLine_1 rfl fr_RX1_18 ⟨by omega, rfl⟩ rfl (wV_1_0 hV) (by decide) (q_getIe (pc' := 7) dX1_readLine_4 rfl fr_RX1_45 ⟨by omega, rfl⟩ rfl e10' (q_tabIn (pc' := 50) dX1_readLine_7 (by decide) (by decide) rfl rfl (q_aload_n (pc' := 51) dX1_readLine_50 rfl rfl (q_tVi (pc' := 54) dX1_readLine_51 rfl ml_RX1_54 yv_X1_readKept (by decide) (rt_X1_readKept hV hkw h800 h h1 hD hf (by omega) (by omega)) ⟨by omega, rfl⟩ rfl rfl (Nat.le_of_ble_eq_true rfl) (Nat.le_refl _) (fun x1 I1 J1 R1 ⟨ex, c1, b1, m1, hR1⟩ => ?_))))))
    rw [ex, hR1]
    exact q_zret dX1_readLine_54 rfl (bI_01 _) (hQ _ _ _ _ ⟨_, rfl, rfl, c1, b1, m1, rfl⟩)
  have n2 : ¬ kIs (kSq T sz j) 1801810036 = true := fun q => g2 (i2.mp q)
  by_cases g3 : kwO T (kSq T sz j) = 4
  · have h1 := ((kSq_kw (T := T) (sz := sz) (i := j) 3 (by decide)).mp g3).1
    have e10' : I 10 10 = nI 3 := by rw [e10, g3]; rfl
    unfold kLine kLn0 at hQ
    rw [if_neg n0, if_neg n1, if_neg n2, if_pos (i3.mpr g3)] at hQ
    refine q_aload_n (pc' := 1) dX1_readLine_0 rfl rfl (q_getR (pc' := 4) dX1_readLine_1 rfl fr_RX1_18 ⟨by omega, rfl⟩ rfl (wV_1_0 hV) (by decide) (q_getIe (pc' := 7) dX1_readLine_4 rfl fr_RX1_45 ⟨by omega, rfl⟩ rfl e10' (q_tabIn (pc' := 55) dX1_readLine_7 (by decide) (by decide) rfl rfl (q_aload_n (pc' := 56) dX1_readLine_55 rfl rfl (q_tVi (pc' := 59) dX1_readLine_56 rfl ml_RX1_57 yv_X1_readOff (by decide) (rt_X1_readOff hV hkw h800 h h1 hD hf (by omega) (by omega)) ⟨by omega, rfl⟩ rfl rfl (Nat.le_of_ble_eq_true rfl) (Nat.le_refl _) (fun x1 I1 J1 R1 ⟨ex, c1, b1, m1, hR1⟩ => ?_))))))
    rw [ex, hR1]
    exact q_zret dX1_readLine_59 rfl (bI_01 _) (hQ _ _ _ _ ⟨_, rfl, rfl, c1, b1, m1, rfl⟩)
  have n3 : ¬ kIs (kSq T sz j) 7300710 = true := fun q => g3 (i3.mp q)
  by_cases g4 : kwO T (kSq T sz j) = 5
  · have h1 := ((kSq_kw (T := T) (sz := sz) (i := j) 4 (by decide)).mp g4).1
    have e10' : I 10 10 = nI 4 := by rw [e10, g4]; rfl
    unfold kLine kLn0 at hQ
    rw [if_neg n0, if_neg n1, if_neg n2, if_neg n3, if_pos (i4.mpr g4)] at hQ
    refine q_aload_n (pc' := 1) dX1_readLine_0 rfl rfl (q_getR (pc' := 4) dX1_readLine_1 rfl fr_RX1_18 ⟨by omega, rfl⟩ rfl (wV_1_0 hV) (by decide) (q_getIe (pc' := 7) dX1_readLine_4 rfl fr_RX1_45 ⟨by omega, rfl⟩ rfl e10' (q_tabIn (pc' := 60) dX1_readLine_7 (by decide) (by decide) rfl rfl (q_aload_n (pc' := 61) dX1_readLine_60 rfl rfl (q_tVi (pc' := 64) dX1_readLine_61 rfl ml_RX1_60 yv_X1_readDevice (by decide) (rt_X1_readDevice hV hB hkw h800 h h1 hD hR hf) ⟨by omega, rfl⟩ rfl rfl (Nat.le_of_ble_eq_true rfl) (Nat.le_refl _) (fun x1 I1 J1 R1 ⟨ex, c1, b1, m1, hR1⟩ => ?_))))))
    rw [ex, hR1]
    exact q_zret dX1_readLine_64 rfl (bI_01 _) (hQ _ _ _ _ ⟨_, rfl, rfl, c1, b1, m1, rfl⟩)
  have n4 : ¬ kIs (kSq T sz j) 110386941092709 = true := fun q => g4 (i4.mp q)
  have hb : kW (kSq T sz j) 2 8 ≠ 0 := kW8 (by decide)
  have eL : kLine T sz D (kSq T sz j) = (kW (kSq T sz j) 2, D) := by
    unfold kLine kLn0
    rw [if_neg n0, if_neg n1, if_neg n2, if_neg n3, if_neg n4, kSg_bad hb]
  have e4 : kW (kSq T sz j) 2 8 = if kSq T sz j 5 = 4 then 1 else 2 := kW_8 h8
  have e5 : ¬ (if kSq T sz j 5 = 4 then 1 else 2) = 0 := by split <;> decide
  rw [eL] at hQ
  dsimp only at hQ
  rw [e4, beq_eq_false_iff_ne.mpr e5] at hQ
  refine q_aload_n (pc' := 1) dX1_readLine_0 rfl rfl (q_getR (pc' := 4) dX1_readLine_1 rfl fr_RX1_18 ⟨by omega, rfl⟩ rfl (wV_1_0 hV) (by decide) (q_getIe (pc' := 7) dX1_readLine_4 rfl fr_RX1_45 ⟨by omega, rfl⟩ rfl e10 (q_tabOut (pc' := 65) dX1_readLine_7 (sw_L _ (by omega) (by omega)) rfl (q_aload_n (pc' := 66) dX1_readLine_65 rfl rfl (q_getR (pc' := 69) dX1_readLine_66 rfl fr_RX1_18 ⟨by omega, rfl⟩ rfl (wV_1_0 hV) (by decide) (q_cVi (pc' := 72) dX1_readLine_69 rfl ml_RX1_63 yv_X9_blameToken (by decide) (rn_X9_blameToken hc.1.1 (kOK_sq j).2.1) ⟨by omega, rfl⟩ rfl rfl (Nat.le_of_ble_eq_true rfl) (Nat.le_refl _) ?_))))))
  exact q_zret dX1_readLine_72 rfl (Or.inl rfl) (hQ _ _ _ _ ⟨_, rfl, rfl, ⟨j, fB_go hc h8 e4 e5⟩, fun q => absurd q e5, mBt_ad mBt_rf fB_ad, rfl⟩)
/-- the class reads a BOARD -/
theorem rt_X1_read (hV : mj_wV R) (hB : mj_wB R 17) (hkw : cKw J) (h800 : sz ≤ 800) (h : cRd I J T sz 0) (hf : I 10 16 = nI 0 ∧ I 10 17 = -1) : RtI w l yX1_read dd_X1_read [.ref 16] (472, I, J, R) (fun r I' J' R' => r = bI ((kBoard T sz).1 8 == 0) ∧ (I' 10 16 = nI ((kBoard T sz).1 8) ∧ I' 10 17 = lD ((kBoard T sz).1 9)) ∧ ((kBoard T sz).1 8 = 0 → cDr I' J' (kBoard T sz).2 ∧ bRd (kBoard T sz).2) ∧ mBt I J I' J' ∧ R' = R) := by
  have o17 : mj_ok 472 17 0 := ⟨by omega, rfl⟩
  refine rt_intro2 (L := [some (.ref 16), none]) ⟨by decide, rfl, (fun h => by cases h)⟩ (Nat.le_of_ble_eq_true rfl) rfl (fun Y Q hQ => ?_)
  refine q_aload_n (pc' := 1) dX1_read_0 rfl rfl (q_getR (pc' := 4) dX1_read_1 rfl fr_RX1_12 ⟨by omega, rfl⟩ rfl (wV_1_1 hV) (by decide) (q_cVv (pc' := 7) dX1_read_4 rfl ml_RX1_22 yv_X0_empty (by decide) (rn_X0_empty o17) (by first | assumption | exact ⟨by omega, rfl⟩) rfl rfl (Nat.le_of_ble_eq_true rfl) (Nat.le_refl _) (q_aload_n (pc' := 8) dX1_read_7 rfl rfl (q_iconst (pc' := 9) _ dX1_read_8 rfl kk_iconst_0 (q_putZ (pc' := 12) dX1_read_9 rfl fl_RX1_25 ⟨by omega, rfl⟩ rfl (by first | exact Or.inl rfl | exact Or.inr rfl | exact bI_01 _) (q_aload_n (pc' := 13) dX1_read_12 rfl rfl (q_iconst (pc' := 14) _ dX1_read_13 rfl kk_iconst_0 (q_putZ (pc' := 17) dX1_read_14 rfl fl_RX1_29 ⟨by omega, rfl⟩ rfl (by first | exact Or.inl rfl | exact Or.inr rfl | exact bI_01 _) (q_aload_n (pc' := 18) dX1_read_17 rfl rfl (q_iconst (pc' := 19) _ dX1_read_18 rfl kk_iconst_0 (q_putZ (pc' := 22) dX1_read_19 rfl fl_RX1_32 ⟨by omega, rfl⟩ rfl (by first | exact Or.inl rfl | exact Or.inr rfl | exact bI_01 _) (q_iconst (pc' := 23) _ dX1_read_22 rfl kk_iconst_0 (q_ist_1 (pc' := 24) dX1_read_23 rfl (by decide) rfl ?_)))))))))))))
  have hr0 : cRd (mj_up (mj_up (mj_up (eBd I 17) 16 2 (nI 0)) 16 3 (nI 0)) 16 4 (nI 0)) J T sz 0 := cRd_o (fun a _ h2 => by rw [up_fI (by omega), up_fI (by omega), up_fI (by omega)]; unfold eBd; rw [up_fI (by omega), up_fI (by omega), up_fI (by omega), up_fI (by omega), up_fI (by omega)]) h
  have hD0 : cDr (mj_up (mj_up (mj_up (eBd I 17) 16 2 (nI 0)) 16 3 (nI 0)) 16 4 (nI 0)) J bD0 := ⟨⟨rfl, rfl, rfl, rfl, rfl⟩, ⟨rfl, rfl, rfl⟩, fun d hd => absurd hd (Nat.not_lt_zero _)⟩
  have hB0 : mBt I J (mj_up (mj_up (mj_up (eBd I 17) 16 2 (nI 0)) 16 3 (nI 0)) 16 4 (nI 0)) J := ⟨fun a _ h2 => by rw [up_fI (by omega), up_fI (by omega), up_fI (by omega)]; unfold eBd; rw [up_fI (by omega), up_fI (by omega), up_fI (by omega), up_fI (by omega), up_fI (by omega)], fun f _ => by rw [mj_up_ne (by decide), mj_up_ne (by decide), mj_up_ne (by decide)]; unfold eBd; rw [mj_up_ne (by decide), mj_up_ne (by decide), mj_up_ne (by decide), mj_up_ne (by decide), mj_up_ne (by decide)], fun _ _ _ _ => rfl⟩
  have hf0 : (mj_up (mj_up (mj_up (eBd I 17) 16 2 (nI 0)) 16 3 (nI 0)) 16 4 (nI 0)) 10 16 = nI 0 ∧ (mj_up (mj_up (mj_up (eBd I 17) 16 2 (nI 0)) 16 3 (nI 0)) 16 4 (nI 0)) 10 17 = -1 := hf
  generalize mj_up (mj_up (mj_up (eBd I 17) 16 2 (nI 0)) 16 3 (nI 0)) 16 4 (nI 0) = I0 at hr0 hD0 hB0 hf0 ⊢
  have loop : ∀ m i, i + m = 800 → ∀ I1 J1 D j, cRd I1 J1 T sz j → cDr I1 J1 D → bDr D → cKw J1 → (I1 10 16 = nI 0 ∧ I1 10 17 = -1) → mBt I J I1 J1 → (kSq T sz j 5 ≠ 0 → i + 1 ≤ kSq T sz j 3) → kBd T sz (m + 2) D (kSq T sz j) = kBoard T sz → Wq dd_X1_read (mj_mk w l 472 Y) Q 24 [some (.ref 16), some (.int (nI i))] [] (472, I1, J1, R) := by
    intro m
    induction m with
    | zero =>
      intro i hi I1 J1 D j hr hD hR hk hf hB1 h3 hb
      have hc : cCur I1 J1 T (kSq T sz j) := by obtain ⟨m, _, _, hc, _⟩ := hr; exact hc
      have hz : kSq T sz j 5 = 0 := Classical.byContradiction (fun q => by
        have := h3 q
        have := (kOK_sq (T := T) (sz := sz) j).1
        omega)
      have e : kBd T sz 2 D (kSq T sz j) = (kSq T sz j, D) := if_neg (fun q => q.2 hz)
      have h8 := kSq_89 (T := T) (sz := sz) j
      rw [← hb, e] at hQ
      dsimp only at hQ
      rw [h8.1, h8.2] at hQ
      refine q_iload_n (pc' := 25) dX1_read_24 rfl rfl (q_sipush (pc' := 28) _ dX1_read_25 rfl kk_sipush_800 (q_icmp_ge (pc' := 31) (pt := 56) dX1_read_28 rfl rfl (fun _ => (q_iconst (pc' := 57) _ dX1_read_56 rfl kk_iconst_1 ?_)) (fun h9 => absurd (by (first | assumption | exact nI_le (by omega) (by omega) | exact nI_ge (by omega) (by omega) | exact nI_lt (by omega) (by omega) | exact nI_nlt (by omega) (by omega) | exact nI_ne (by omega) (by omega) (by omega) | exact nI_e (by omega) | decide)) h9)))
      exact q_zret dX1_read_57 rfl (Or.inr rfl) (hQ _ _ _ _ ⟨_, rfl, rfl, hf, fun _ => ⟨hD, hR.1⟩, hB1, rfl⟩)
    | succ m ih =>
      intro i hi I1 J1 D j hr hD hR hk hf hB1 h3 hb
      have hc : cCur I1 J1 T (kSq T sz j) := by obtain ⟨m, _, _, hc, _⟩ := hr; exact hc
      have h8 := kSq_89 (T := T) (sz := sz) j
      have k5 := (kOK_sq (T := T) (sz := sz) j).2.1
      have e9 : I1 10 9 = nI (kSq T sz j 5) := hc.1.1
      by_cases hz : kSq T sz j 5 = 0
      · have e : kBd T sz (m + 1 + 2) D (kSq T sz j) = (kSq T sz j, D) := if_neg (fun q => q.2 hz)
        rw [← hb, e] at hQ
        dsimp only at hQ
        rw [h8.1, h8.2] at hQ
        refine q_iload_n (pc' := 25) dX1_read_24 rfl rfl (q_sipush (pc' := 28) _ dX1_read_25 rfl kk_sipush_800 (q_icmp_ge (pc' := 31) (pt := 56) dX1_read_28 rfl rfl (fun h9 => absurd h9 (by (first | assumption | exact nI_le (by omega) (by omega) | exact nI_ge (by omega) (by omega) | exact nI_lt (by omega) (by omega) | exact nI_nlt (by omega) (by omega) | exact nI_ne (by omega) (by omega) (by omega) | exact nI_e (by omega) | decide))) (fun _ => (q_aload_n (pc' := 32) dX1_read_31 rfl rfl (q_getR (pc' := 35) dX1_read_32 rfl fr_RX1_18 ⟨by omega, rfl⟩ rfl (wV_1_0 hV) (by decide) (q_getIe (pc' := 38) dX1_read_35 rfl fr_RX1_35 ⟨by omega, rfl⟩ rfl e9 (q_if_eq (pc' := 41) (pt := 56) dX1_read_38 rfl rfl (fun _ => (q_iconst (pc' := 57) _ dX1_read_56 rfl kk_iconst_1 ?_)) (fun h9 => absurd (by rw [hz]; rfl) h9))))))))
        exact q_zret dX1_read_57 rfl (Or.inr rfl) (hQ _ _ _ _ ⟨_, rfl, rfl, hf, fun _ => ⟨hD, hR.1⟩, hB1, rfl⟩)
      · have e : kBd T sz (m + 1 + 2) D (kSq T sz j) = kBd T sz (m + 2) (kLine T sz D (kSq T sz j)).2 (kLine T sz D (kSq T sz j)).1 := if_pos ⟨h8.1, hz⟩
        rw [e] at hb
        refine q_iload_n (pc' := 25) dX1_read_24 rfl rfl (q_sipush (pc' := 28) _ dX1_read_25 rfl kk_sipush_800 (q_icmp_ge (pc' := 31) (pt := 56) dX1_read_28 rfl rfl (fun h9 => absurd h9 (by (first | assumption | exact nI_le (by omega) (by omega) | exact nI_ge (by omega) (by omega) | exact nI_lt (by omega) (by omega) | exact nI_nlt (by omega) (by omega) | exact nI_ne (by omega) (by omega) (by omega) | exact nI_e (by omega) | decide))) (fun _ => (q_aload_n (pc' := 32) dX1_read_31 rfl rfl (q_getR (pc' := 35) dX1_read_32 rfl fr_RX1_18 ⟨by omega, rfl⟩ rfl (wV_1_0 hV) (by decide) (q_getIe (pc' := 38) dX1_read_35 rfl fr_RX1_35 ⟨by omega, rfl⟩ rfl e9 (q_if_eq (pc' := 41) (pt := 56) dX1_read_38 rfl rfl (fun h9 => absurd h9 (fun q => hz ((nI_eq (b := 0) (by omega) (by decide)).mp q))) (fun _ => (q_aload_n (pc' := 42) dX1_read_41 rfl rfl (q_tVi (pc' := 45) dX1_read_42 rfl ml_RX1_41 yv_X1_readLine (by decide) (rt_X1_readLine hV hB hk h800 hr hD hR.1 hf) ⟨by omega, rfl⟩ rfl rfl (Nat.le_of_ble_eq_true rfl) (Nat.le_refl _) (fun x1 I2 J2 R2 ⟨ex, ⟨j2, c2⟩, b2, m2, hR2⟩ => ?_)))))))))))
        have hR2 : R2 = R := hR2
        rw [ex, hR2]
        have hB2 := hB1.tr m2
        have hk2 : cKw J2 := fun q hq => (m2.2.2 11 q (by decide) (fun q2 => absurd q2.1 (by decide))).trans (hk q hq)
        by_cases hg : (kLine T sz D (kSq T sz j)).1 8 = 0
        · rcases c2 with ⟨-, eK, r2, v2, u2⟩ | ⟨q, -⟩
          · obtain ⟨o1, o2⟩ := line_ok (T := T) (kOK_sq j) hR hg
            have b2 := b2 hg
            rw [eK] at hb o2
            refine q_ifb_ne (pc' := 48) (pt := 50) dX1_read_45 rfl rfl (fun _ => (q_inc_1 (pc' := 53) dX1_read_50 rfl (by decide) rfl (q_goto (pc' := 24) dX1_read_53 rfl ?_))) (fun h9 => Bool.noConfusion (Eq.trans (Eq.symm (beq_iff_eq.mpr hg)) h9))
            exact ih (i + 1) (by omega) I2 J2 _ j2 r2 b2 o1 hk2 ⟨v2, u2⟩ hB2 (fun _ => by have := h3 hz; omega) hb
          · exact absurd hg q
        · rcases c2 with ⟨q, -⟩ | ⟨-, v2, u2⟩
          · exact absurd q hg
          · rw [kBd_bad hg] at hb
            rw [← hb] at hQ
            dsimp only at hQ
            rw [beq_eq_false_iff_ne.mpr hg] at hQ
            refine q_ifb_ne (pc' := 48) (pt := 50) dX1_read_45 rfl rfl (fun h9 => Bool.noConfusion (Eq.trans (Eq.symm (beq_eq_false_iff_ne.mpr hg)) h9)) (fun _ => (q_iconst (pc' := 49) _ dX1_read_48 rfl kk_iconst_0 ?_))
            exact q_zret dX1_read_49 rfl (Or.inl rfl) (hQ _ _ _ _ ⟨_, rfl, rfl, ⟨v2, u2⟩, fun q => absurd q hg, hB2, rfl⟩)
  refine loop 800 0 rfl I0 J bD0 0 hr0 hD0 bD0_ok hkw hf0 hB0 (fun q => ?_) rfl
  have := tk_st (T := T) (sz := sz) (K := kZ) q
  exact Nat.lt_of_le_of_lt (Nat.zero_le _) this
end BT7
