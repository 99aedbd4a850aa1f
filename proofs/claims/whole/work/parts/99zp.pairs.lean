/-! ===== each call: class and reference answer alike ===== -/
section PAIRS
variable {w : mj_Wd} {l : Launch} {I I' : mj_M} {J J' : mj_J} {R R' : mj_R} {b A B A' : St} {ps : Nat → St} {n u t m r ft fp : Nat} {T : Nat → Nat} {bx : Nat → Option St} {M : Ms}
/-- the class's spare state alone changes -/
theorem pr_s {yc ym : MethodName} {dc dm : mj_D} {As : List Value} {y : Int32} (hG : GM m (b, A, ps, n, u, T, t, bx, r, ft, fp))
    (hc : ∀ I J R c s, wSt R → cB I b → cH I R b ps n u A c s → RsI w l yc dc (.ref 0 :: As) (472, I, J, R) (fun x I' => x = y ∧ mS s I I'))
    (hm : ∀ I J R, mj_wM R → mB I b → rR (I 464) A → Rn w l ym dm (.ref 452 :: As) (472, I, J, R) (some (.int y)) (472, I, J, R)) : Pr w l m (b, A, ps, n, u, T, t, bx, r, ft, fp) yc dc ym dm As := by
  refine ⟨y, (b, A, ps, n, u, T, t, bx, r, ft, fp), GM_mono (by omega) hG, fun I J R hW hC hM => ?_, fun I J R hW hC hM => ?_⟩
  · have hC0 := hC
    obtain ⟨⟨h1, h2, h3⟩, _, _, _, c, s, h8⟩ := hC
    have hs := (cH_lt h8).2
    refine rt_weak (hc I J R c s hW.1 h1 h8) (fun v I2 J2 R2 ⟨x, e, ⟨e1, e2⟩, q1, q2⟩ => ⟨x, e, q1, ?_, ?_, ?_⟩)
    · rw [show R2 = R from e2]; exact hW
    · rw [show R2 = R from e2, show J2 = J from e1]
      exact CW_h (q2.hF hs) hC0 ⟨c, s, cH_S h8 q2⟩
    · exact MW_lo (fun a ha => (q2.hF hs) a (Or.inr (by omega))) (fun a _ => by rw [show J2 = J from e1]) hM
  · have hM0 := hM
    obtain ⟨m0, m1, m2⟩ := hM
    refine rt_weak (rn_rt (hm I J R hW.2 m0.1 m1)) (fun v I2 J2 R2 ⟨x, e, ⟨e1, e2⟩, q1, q2⟩ => ⟨x, e, q1, ?_, ?_, ?_⟩)
    · rw [show R2 = R from e2]; exact hW
    · rw [show R2 = R from e2, show J2 = J from e1, q2]; exact hC
    · rw [show J2 = J from e1, q2]; exact hM0
theorem pr_start {x : Int32} (hG : GM m M) : Pr w l m M yX10_start dd_X10_start yX11_start dd_X11_start [.int x] := by
  obtain ⟨b, A, ps, n, u, T, t, bx, r, ft, fp⟩ := M
  have hG0 := hG
  obtain ⟨hR, hA, hps, hbx, hnu⟩ := hG
  have hk := hR.1
  have h10 := hk.2.2.1
  by_cases h : inN x (b 0 2) = true
  · obtain ⟨d, hd, rfl⟩ := (inN_iff (by omega)).mp h
    exact pr_act hG0 (gA_mono (by omega) (gA_start hk hd hA)) (fun I J R c s h1 h2 h3 => rt_X10_start h1 h2 hR h3 hA.1 hd) (fun I J R h1 h2 h3 h4 => rs_X11_start h1 h2 hk h3 (gC_aOK hk hA.1.1) hd (fun _ => aHoOK_all) h4)
  · have hf := Bool.eq_false_iff.mpr h
    exact pr_n hG0 (fun I J R c s h1 _ _ _ _ h6 _ => rn_X10_start0 h1 h6 hk hf) (fun I J R h1 h2 h3 h4 => rn_X11_start0 h3 hf)
theorem pr_claim {x : Int32} (hG : GM m M) : Pr w l m M yX10_claim dd_X10_claim yX11_claim dd_X11_claim [.int x] := by
  obtain ⟨b, A, ps, n, u, T, t, bx, r, ft, fp⟩ := M
  have hG0 := hG
  obtain ⟨hR, hA, hps, hbx, hnu⟩ := hG
  have hk := hR.1
  have h10 := hk.2.2.1
  by_cases h : inN x (b 0 2) = true
  · obtain ⟨d, hd, rfl⟩ := (inN_iff (by omega)).mp h
    exact pr_act hG0 (gA_mono (by omega) (gA_claim hd hA)) (fun I J R c s h1 h2 h3 => rt_X10_claim h1 h2 hR h3 hA.1 hd) (fun I J R h1 h2 h3 h4 => rs_X11_claim h1 h2 hk h3 (gC_aOK hk hA.1.1) hd h4)
  · have hf := Bool.eq_false_iff.mpr h
    exact pr_n hG0 (fun I J R c s h1 _ _ _ _ h6 _ => rn_X10_claim0 h1 h6 hk hf) (fun I J R h1 h2 h3 h4 => rn_X11_claim0 h3 hf)
theorem pr_plug {x : Int32} (hG : GM m M) : Pr w l m M yX10_plug dd_X10_plug yX11_plug dd_X11_plug [.int x] := by
  obtain ⟨b, A, ps, n, u, T, t, bx, r, ft, fp⟩ := M
  have hG0 := hG
  obtain ⟨hR, hA, hps, hbx, hnu⟩ := hG
  have hk := hR.1
  have h8 := hk.1.2
  by_cases h : inN x (b 0 0) = true
  · obtain ⟨p, hp, rfl⟩ := (inN_iff (by omega)).mp h
    exact pr_act hG0 (gA_mono (by omega) (gA_plug hk hp hA)) (fun I J R c s h1 h2 h3 => rt_X10_plug h1 h2 hR h3 hA.1 hp) (fun I J R h1 h2 h3 h4 => rs_X11_plug h1 h2 hk h3 (gC_aOK hk hA.1.1) (gCl_of (p0 := 8) hk hp) (fun _ => ⟨gI_on hA.1, mj_up_eq⟩) hp h4)
  · have hf := Bool.eq_false_iff.mpr h
    exact pr_n hG0 (fun I J R c s h1 _ _ _ _ h6 _ => rn_X10_plug0 h1 h6 hk hf) (fun I J R h1 h2 h3 h4 => rn_X11_plug0 h3 hf)
theorem pr_unplug {x : Int32} (hG : GM m M) : Pr w l m M yX10_unplug dd_X10_unplug yX11_unplug dd_X11_unplug [.int x] := by
  obtain ⟨b, A, ps, n, u, T, t, bx, r, ft, fp⟩ := M
  have hG0 := hG
  obtain ⟨hR, hA, hps, hbx, hnu⟩ := hG
  have hk := hR.1
  have h8 := hk.1.2
  by_cases h : inN x (b 0 0) = true
  · obtain ⟨p, hp, rfl⟩ := (inN_iff (by omega)).mp h
    exact pr_act hG0 (gA_mono (by omega) (gA_unplug hk hp hA)) (fun I J R c s h1 h2 h3 => rt_X10_unplug h1 h2 hR h3 hA.1 hp) (fun I J R h1 h2 h3 h4 => rs_X11_unplug h1 h2 hk h3 (gC_aOK hk hA.1.1) (uCl_of hk hp) (fun _ => ⟨gI_off hA.1, by rw [mj_up_eq]; decide⟩) hp h4)
  · have hf := Bool.eq_false_iff.mpr h
    exact pr_n hG0 (fun I J R c s h1 _ _ _ _ h6 _ => rn_X10_unplug0 h1 h6 hk hf) (fun I J R h1 h2 h3 h4 => rn_X11_unplug0 h3 hf)
theorem pr_stop {x : Int32} (hG : GM m M) : Pr w l m M yX10_stop dd_X10_stop yX11_stop dd_X11_stop [.int x] := by
  obtain ⟨b, A, ps, n, u, T, t, bx, r, ft, fp⟩ := M
  have hG0 := hG
  obtain ⟨hR, hA, hps, hbx, hnu⟩ := hG
  have hk := hR.1
  have h10 := hk.2.2.1
  have hok := gC_aOK hk hA.1.1
  by_cases h : inN x (b 0 2) = true
  · obtain ⟨d, hd, rfl⟩ := (inN_iff (by omega)).mp h
    by_cases h7 : A 7 d = 1
    · have h16 := stop_16 (d := d) hk hok (by omega)
      exact pr_done hG0 (gA_mono (by omega) (gA_stop hk hd hA)) (fun I J R c s h1 h2 h3 => rt_X10_stop h1 h2 hR h3 hA.1 hd h7 (nI_m1 (by omega))) (fun I J R h1 h2 h3 h4 => rs_X11_stop h1 h2 hk h3 hok hd h7 h4)
    · exact pr_s hG0 (fun I J R c s h1 h2 h3 => rs_X10_stop1 h1 h2 hR h3 hA.1 hd h7) (fun I J R h1 h2 h3 => rn_X11_stop0 h1 h2 hk h3 hok (fun d2 hd2 e => by rw [← (nI_eq (by omega) (by omega)).mp e]; exact h7))
  · have hf := Bool.eq_false_iff.mpr h
    exact pr_n hG0 (fun I J R c s h1 _ _ _ _ h6 _ => rn_X10_stop0 h1 h6 hk hf) (fun I J R h1 h2 h3 h4 => rn_X11_stop0 h1 h3 hk h4 hok (fun d hd e => absurd ((inN_iff (by omega)).mpr ⟨d, hd, e⟩) h))
theorem pr_raise {x y : Int32} {late : Bool} (hG : GM m M) : Pr w l m M yX10_raise dd_X10_raise yX11_raise dd_X11_raise [.int x, .int y, .int (bI late)] := by
  obtain ⟨b, A, ps, n, u, T, t, bx, r, ft, fp⟩ := M
  have hG0 := hG
  obtain ⟨hR, hA, hps, hbx, hnu⟩ := hG
  have hk := hR.1
  have h10 := hk.2.2.1
  have hok := gC_aOK hk hA.1.1
  by_cases h : inN x (b 0 2) = true
  · obtain ⟨d, hd, rfl⟩ := (inN_iff (by omega)).mp h
    have hs8 := (hk.2.2.2 d hd).2.1
    by_cases hy : inN y (b 2 d) = true
    · by_cases h7 : A 7 d = 1
      · obtain ⟨k, hl, rfl⟩ := (inN_iff (by omega)).mp hy
        exact pr_done hG0 (gA_mono (by omega) (gA_raise hk hd h7 hl hA)) (fun I J R c s h1 h2 h3 => rt_X10_raise h1 h2 hR h3 hA.1 hd hl h7) (fun I J R h1 h2 h3 h4 => rs_X11_raise h1 h2 hk h3 hok hd h7 hl h4)
      · exact pr_s hG0 (fun I J R c s h1 h2 h3 => rs_X10_raise1 h1 h2 hR h3 hA.1 hd hy h7) (fun I J R h1 h2 h3 => rn_X11_raise0 h1 h2 hk h3 hok (fun d2 hd2 e => by rw [← (nI_eq (by omega) (by omega)).mp e, beq_eq_false_iff_ne.mpr h7, Bool.false_and]))
    · have hf := Bool.eq_false_iff.mpr hy
      exact pr_n hG0 (fun I J R c s h1 _ _ _ _ h6 _ => rn_X10_raise0 h1 h6 hk (Or.inr ⟨d, hd, rfl, hf⟩)) (fun I J R h1 h2 h3 h4 => rn_X11_raise0 h1 h3 hk h4 hok (fun d2 hd2 e => by rw [← (nI_eq (by omega) (by omega)).mp e, hf, Bool.and_false]))
  · have hf := Bool.eq_false_iff.mpr h
    exact pr_n hG0 (fun I J R c s h1 _ _ _ _ h6 _ => rn_X10_raise0 h1 h6 hk (Or.inl hf)) (fun I J R h1 h2 h3 h4 => rn_X11_raise0 h1 h3 hk h4 hok (fun d hd e => absurd ((inN_iff (by omega)).mpr ⟨d, hd, e⟩) h))
theorem tick_in {x : Int32} (h : nI 1 ≤ x ∧ x ≤ nI 100) : ∃ k, 1 ≤ k ∧ k ≤ 100 ∧ x = nI k := by
  have h1 := Int32.le_iff_toInt_le.mp h.1
  have h2 := Int32.le_iff_toInt_le.mp h.2
  rw [nI_toInt (by decide)] at h1 h2
  refine ⟨x.toInt.toNat, by omega, by omega, Int32.toInt_inj.mp ?_⟩
  rw [nI_toInt (by omega)]
  omega
theorem pr_tick {x : Int32} (hG : GM m M) (hm : m + 200000 < 2 ^ 31) : Pr w l m M yX10_tick dd_X10_tick yX11_tick dd_X11_tick [.int x] := by
  obtain ⟨b, A, ps, n, u, T, t, bx, r, ft, fp⟩ := M
  have hG0 := hG
  obtain ⟨hR, hA, hps, hbx, hnu⟩ := hG
  have hk := hR.1
  have hok := gC_aOK hk hA.1.1
  by_cases h : nI 1 ≤ x ∧ x ≤ nI 100
  · obtain ⟨k, k1, k2, rfl⟩ := tick_in h
    have hL := hA.2.2
    exact pr_done hG0 (gA_mono (by omega) (gA_ticks (n := k) hk hA)) (fun I J R c s h1 h2 h3 => rt_X10_tick h1 h2 hR h3 hA.1 k1 k2 (by omega)) (fun I J R h1 h2 h3 h4 => rs_X11_tick h1 h2 hk h3 hok (gC_pOK hA.1.1) k1 k2 h4)
  · exact pr_n hG0 (fun I J R c s _ _ _ _ _ _ _ => rn_X10_tick0 h) (fun I J R _ _ _ _ => rn_X11_tick0 h)
theorem pos_in {z : Int32} (h : ¬ z < 0) : ∃ k, k < 2 ^ 31 ∧ z = nI k := by
  have h1 := Int32.le_iff_toInt_le.mp (Int32.not_lt.mp h)
  have h2 := Int32.toInt_lt z
  have h3 : (0 : Int32).toInt = 0 := by decide
  rw [h3] at h1
  refine ⟨z.toInt.toNat, by omega, Int32.toInt_inj.mp ?_⟩
  rw [nI_toInt (by omega)]
  omega
theorem pr_move {x y z : Int32} (hG : GM m M) : Pr w l m M yX10_move dd_X10_move yX11_move dd_X11_move [.int x, .int y, .int z] := by
  obtain ⟨b, A, ps, n, u, T, t, bx, r, ft, fp⟩ := M
  have hG0 := hG
  obtain ⟨hR, hA, hps, hbx, hnu⟩ := hG
  have hk := hR.1
  have h10 := hk.2.2.1
  have hok := gC_aOK hk hA.1.1
  by_cases h : inN x (b 0 2) = true
  · obtain ⟨d, hd, rfl⟩ := (inN_iff (by omega)).mp h
    have hs8 := (hk.2.2.2 d hd).2.1
    by_cases hz : z < 0
    · exact pr_n hG0 (fun I J R c s h1 _ _ _ _ h6 _ => rn_X10_move0 h1 h6 hk (Or.inr hz)) (fun I J R h1 h2 h3 h4 => rn_X11_move0 h3 (Or.inr hz))
    · obtain ⟨set, hset, rfl⟩ := pos_in hz
      by_cases hy : inN y (b 2 d) = true
      · obtain ⟨k, hl, rfl⟩ := (inN_iff (by omega)).mp hy
        refine pr_act hG0 (gA_mono (by omega) (gA_move (set := set) hk hd hl (hR.2.2.2.1 d hd).2.1 hA)) (fun I J R c s h1 h2 h3 => rt_X10_move h1 h2 hR h3 hA.1 hd hl hset) (fun I J R h1 h2 h3 h4 => rs_X11_move h1 h2 hk h3 hok hd hset h4 _ _ move_lt (fun I1 q1 q2 => rs_X11_movesTo h1 q1 hk q2 hok hd hl (fun g3 g7 => gG_3 hA.1 hd g7 g3) (fun g3 g7 g0 g4 q hq => (move_resv hk hA.1 hd hl g3 g7 g0 g4 q hq).2)))
      · have hf := Bool.eq_false_iff.mpr hy
        refine pr_act hG0 (gA_mono (by omega) hA) (fun I J R c s h1 h2 h3 => rt_X10_move1 h1 h2 hR h3 hA.1 hd hset hf) (fun I J R h1 h2 h3 h4 => rs_X11_move h1 h2 hk h3 hok hd hset h4 4 A (by decide) (fun I1 q1 q2 => rt_weak (rn_rt (rs_X11_movesTo0 h1 q1 hk q2 hok hd hf)) (fun v I2 J2 R2 ⟨x, e, e2, q3, q4⟩ => ⟨x, e, e2, q3, by rw [q4]; exact q2, by rw [q4]; exact mF.rf⟩)))
  · have hf := Bool.eq_false_iff.mpr h
    exact pr_n hG0 (fun I J R c s h1 _ _ _ _ h6 _ => rn_X10_move0 h1 h6 hk (Or.inl hf)) (fun I J R h1 h2 h3 h4 => rn_X11_move0 h3 (Or.inl hf))
theorem pr_cpu {x y : Int32} (hG : GM m M) : Pr w l m M yX10_cpu dd_X10_cpu yX11_cpu dd_X11_cpu [.int x, .int y] := by
  obtain ⟨b, A, ps, n, u, T, t, bx, r, ft, fp⟩ := M
  have hG0 := hG
  obtain ⟨hR, hA, hps, hbx, hnu⟩ := hG
  have hk := hR.1
  have h8 := hk.1.2
  have hok := gC_aOK hk hA.1.1
  by_cases h : (inN x (b 0 0) && inN y 7) = true
  · obtain ⟨p, hp, rfl⟩ := (inN_iff (by omega)).mp (Bool.and_eq_true_iff.mp h).1
    obtain ⟨j, hj, rfl⟩ := (inN_iff (by decide)).mp (Bool.and_eq_true_iff.mp h).2
    exact pr_n hG0 (fun I J R c s h1 _ h3 h4 h5 h6 _ => rn_X10_cpu h1 h6 hk h3 h4 h5 hok hp hj) (fun I J R h1 h2 h3 h4 => rn_X11_cpu h1 h3 hk h4 hok hp hj)
  · have hf := Bool.eq_false_iff.mpr h
    exact pr_n hG0 (fun I J R c s h1 _ h3 h4 h5 h6 _ => rn_X10_cpu0 h1 h6 hk h3 h4 hf) (fun I J R h1 h2 h3 h4 => rn_X11_cpu0 h3 hf)
theorem pr_vector {x y z : Int32} (hG : GM m M) : Pr w l m M yX10_vector dd_X10_vector yX11_vector dd_X11_vector [.int x, .int y, .int z] := by
  obtain ⟨b, A, ps, n, u, T, t, bx, r, ft, fp⟩ := M
  have hG0 := hG
  obtain ⟨hR, hA, hps, hbx, hnu⟩ := hG
  have hk := hR.1
  have h8 := hk.1.2
  have h32 := hk.2.1.2
  have hok := gC_aOK hk hA.1.1
  by_cases h : (inN x (b 0 0) && (inN y (b 0 1) && inN z 4)) = true
  · have ha := Bool.and_eq_true_iff.mp h
    have hb := Bool.and_eq_true_iff.mp ha.2
    obtain ⟨p, hp, rfl⟩ := (inN_iff (by omega)).mp ha.1
    obtain ⟨v, hv, rfl⟩ := (inN_iff (by omega)).mp hb.1
    obtain ⟨j, hj, rfl⟩ := (inN_iff (by decide)).mp hb.2
    exact pr_n hG0 (fun I J R c s h1 _ h3 h4 h5 h6 _ => rn_X10_vector h1 h6 hk h3 h4 h5 hok hp hv hj) (fun I J R h1 h2 h3 h4 => rn_X11_vector h1 h3 hk h4 hp hv hj)
  · have hf := Bool.eq_false_iff.mpr h
    exact pr_n hG0 (fun I J R c s h1 _ h3 h4 h5 h6 _ => rn_X10_vector0 h1 h6 hk h3 h4 h5 hf) (fun I J R h1 h2 h3 h4 => rn_X11_vector0 h3 hf)
theorem pr_device {x y : Int32} (hG : GM m M) : Pr w l m M yX10_device dd_X10_device yX11_device dd_X11_device [.int x, .int y] := by
  obtain ⟨b, A, ps, n, u, T, t, bx, r, ft, fp⟩ := M
  have hG0 := hG
  obtain ⟨hR, hA, hps, hbx, hnu⟩ := hG
  have hk := hR.1
  have h10 := hk.2.2.1
  have hok := gC_aOK hk hA.1.1
  by_cases h : (inN x (b 0 2) && inN y 8) = true
  · obtain ⟨d, hd, rfl⟩ := (inN_iff (by omega)).mp (Bool.and_eq_true_iff.mp h).1
    obtain ⟨j, hj, rfl⟩ := (inN_iff (by decide)).mp (Bool.and_eq_true_iff.mp h).2
    exact pr_n hG0 (fun I J R c s h1 _ h3 h4 h5 h6 _ => rn_X10_device h1 h6 hk h3 h4 h5 hok hd hj) (fun I J R h1 h2 h3 h4 => rn_X11_device h1 h3 hk h4 hd hj)
  · have hf := Bool.eq_false_iff.mpr h
    exact pr_n hG0 (fun I J R c s h1 _ h3 h4 h5 h6 _ => rn_X10_device0 h1 h6 hk h3 h4 hf) (fun I J R h1 h2 h3 h4 => rn_X11_device0 h3 hf)
theorem pr_line {x y z : Int32} (hG : GM m M) : Pr w l m M yX10_line dd_X10_line yX11_line_ dd_X11_line_ [.int x, .int y, .int z] := by
  obtain ⟨b, A, ps, n, u, T, t, bx, r, ft, fp⟩ := M
  have hG0 := hG
  obtain ⟨hR, hA, hps, hbx, hnu⟩ := hG
  have hk := hR.1
  have h10 := hk.2.2.1
  have hok := gC_aOK hk hA.1.1
  by_cases h : ∃ d, d < b 0 2 ∧ x = nI d ∧ (((A 7 d == 1) && inN y (b 2 d)) && inN z 6) = true
  · obtain ⟨d, hd, rfl, h⟩ := h
    have hs8 := (hk.2.2.2 d hd).2.1
    have ha := Bool.and_eq_true_iff.mp h
    have hb := Bool.and_eq_true_iff.mp ha.1
    obtain ⟨k, hl, rfl⟩ := (inN_iff (by omega)).mp hb.2
    obtain ⟨j, hj, rfl⟩ := (inN_iff (by decide)).mp ha.2
    have h7 := beq_iff_eq.mp hb.1
    exact pr_n hG0 (fun I J R c s h1 _ h3 h4 h5 h6 _ => rn_X10_line h1 h6 hk h3 h4 h5 hok hd h7 hl hj) (fun I J R h1 h2 h3 h4 => rn_X11_line h1 h3 hk h4 hok hd h7 hl hj)
  · have hf : ∀ d, d < b 0 2 → x = nI d → (((A 7 d == 1) && inN y (b 2 d)) && inN z 6) = false := fun d hd e => Bool.eq_false_iff.mpr (fun q => h ⟨d, hd, e, q⟩)
    exact pr_n hG0 (fun I J R c s h1 _ h3 h4 h5 h6 _ => rn_X10_line0 h1 h6 hk h3 h4 h5 hf) (fun I J R h1 h2 h3 h4 => rn_X11_line0 h1 h3 hk h4 hok hf)
theorem pr_spread {x y : Int32} (hG : GM m M) : Pr w l m M yX10_spread dd_X10_spread yX11_spread dd_X11_spread [.int x, .int y] := by
  obtain ⟨b, A, ps, n, u, T, t, bx, r, ft, fp⟩ := M
  have hG0 := hG
  obtain ⟨hR, hA, hps, hbx, hnu⟩ := hG
  have hk := hR.1
  have h10 := hk.2.2.1
  by_cases h : ∃ d, d < b 0 2 ∧ x = nI d ∧ b 1 d = 3 ∧ inN y (b 2 d) = true
  · obtain ⟨d, hd, rfl, h3, h⟩ := h
    have hs8 := (hk.2.2.2 d hd).2.1
    obtain ⟨k, hl, rfl⟩ := (inN_iff (by omega)).mp h
    exact pr_n hG0 (fun I J R c s h1 _ _ _ _ h6 _ => rn_X10_spread h1 h6 hR hd h3 hl) (fun I J R h1 h2 q3 h4 => rn_X11_spread h1 q3 hk hd h3 hl)
  · have hf : ∀ d, d < b 0 2 → x = nI d → b 1 d = 3 → inN y (b 2 d) = false := fun d hd e e3 => Bool.eq_false_iff.mpr (fun q => h ⟨d, hd, e, e3, q⟩)
    exact pr_n hG0 (fun I J R c s h1 _ _ _ _ h6 _ => rn_X10_spread0 h1 h6 hk hf) (fun I J R h1 h2 q3 h4 => rn_X11_spread0 h1 q3 hk hf)
theorem pr_room {x : Int32} (hG : GM m M) : Pr w l m M yX10_room dd_X10_room yX11_room dd_X11_room [.int x] := by
  obtain ⟨b, A, ps, n, u, T, t, bx, r, ft, fp⟩ := M
  have hG0 := hG
  obtain ⟨hR, hA, hps, hbx, hnu⟩ := hG
  have hk := hR.1
  have hok := gC_aOK hk hA.1.1
  by_cases h : ∃ k, (k = 1 ∨ k = 2 ∨ k = 4 ∨ k = 8) ∧ x = nI k
  · obtain ⟨k, hq, rfl⟩ := h
    exact pr_q hG0 (fun I J R c s h1 _ h3 h4 h5 h6 _ => rt_weak (rn_rt (rn_X10_room h1 h6 hk h3 h4 h5 hq)) (fun v I2 J2 R2 ⟨x, e, e2, q1, q2⟩ => ⟨x, e, e2, q1, fun a _ _ _ => by rw [q2]⟩)) (fun I J R h1 h2 h3 h4 => rt_weak (rs_X11_room h1 h3 hk h4 hok hq) (fun v I2 J2 R2 ⟨x, e, e2, q1, q2, q3⟩ => ⟨x, e, e2, q1, q2, q3.k⟩))
  · have n1 : x ≠ nI 1 := fun q => h ⟨1, by decide, q⟩
    have n2 : x ≠ nI 2 := fun q => h ⟨2, by decide, q⟩
    have n4 : x ≠ nI 4 := fun q => h ⟨4, by decide, q⟩
    have n8 : x ≠ nI 8 := fun q => h ⟨8, by decide, q⟩
    exact pr_n hG0 (fun I J R c s _ _ _ _ _ _ _ => rn_X10_room0 n1 n2 n4 n8) (fun I J R _ _ _ _ => rn_X11_room0 n1 n2 n4 n8)
theorem pr_balance (hG : GM m M) : Pr w l m M yX10_balance dd_X10_balance yX11_balance dd_X11_balance [] := by
  obtain ⟨b, A, ps, n, u, T, t, bx, r, ft, fp⟩ := M
  have hG0 := hG
  obtain ⟨hR, hA, hps, hbx, hnu⟩ := hG
  have hk := hR.1
  exact pr_n hG0 (fun I J R c s h1 _ h3 h4 h5 h6 _ => rn_X10_balance h1 h6 hk h3 h4 h5) (fun I J R h1 h2 h3 h4 => rn_X11_balance h1 h3 hk h4 (gC_aOK hk hA.1.1))
theorem pr_quiet (hG : GM m M) : Pr w l m M yX10_quiet dd_X10_quiet yX11_quiet dd_X11_quiet [] := by
  obtain ⟨b, A, ps, n, u, T, t, bx, r, ft, fp⟩ := M
  have hG0 := hG
  obtain ⟨hR, hA, hps, hbx, hnu⟩ := hG
  have hk := hR.1
  have hok := gC_aOK hk hA.1.1
  exact pr_n hG0 (fun I J R c s h1 _ h3 h4 h5 h6 _ => rn_X10_quiet h1 h6 hk h3 h4 h5 hok) (fun I J R h1 h2 h3 h4 => rn_X11_quiet h1 h3 hk h4 hok)
theorem pr_law (hG : GM m M) : Pr w l m M yX10_law dd_X10_law yX11_law dd_X11_law [] := by
  obtain ⟨b, A, ps, n, u, T, t, bx, r, ft, fp⟩ := M
  have hG0 := hG
  obtain ⟨hR, hA, hps, hbx, hnu⟩ := hG
  have hk := hR.1
  exact pr_n hG0 (fun I J R c s h1 _ h3 h4 h5 h6 _ => rn_X10_law h1 h6 hR h3 h4 h5 (lwOK_of hk hA.1.1)) (fun I J R h1 h2 h3 h4 => rn_X11_law)
theorem pr_nearest (hG : GM m M) : Pr w l m M yX10_nearest dd_X10_nearest yX11_nearest dd_X11_nearest [] := by
  obtain ⟨b, A, ps, n, u, T, t, bx, r, ft, fp⟩ := M
  have hG0 := hG
  obtain ⟨hR, hA, hps, hbx, hnu⟩ := hG
  have hk := hR.1
  have hok := gC_aOK hk hA.1.1
  have h11 : ∀ d, d < b 0 2 → b 1 d = 1 → b 2 d = 1 := fun d hd => (hR.2.2.2.1 d hd).2.1
  exact pr_q hG0 (fun I J R c s h1 _ h3 h4 h5 h6 _ => rt_weak (rs_X10_nearest h1 h6 hk h3 h4 h5 hok (oOw_of hA.1.1 h11)) (fun v I2 J2 R2 ⟨x, e, e2, q1, q2⟩ => ⟨x, e, e2, q1, fun a _ h450 _ => q2 a h450⟩)) (fun I J R h1 h2 h3 h4 => rt_weak (rs_X11_nearest h1 h3 hk h4 hok (vOK_of hA.1.1)) (fun v I2 J2 R2 ⟨x, e, e2, q1, q2⟩ => ⟨x, e, e2, q1, by rw [q2.1 464 (by decide)]; exact h4, q2.k⟩))
theorem pr_clear {x y : Int32} (hG : GM m M) : Pr w l m M yX10_clear dd_X10_clear yX11_clear dd_X11_clear [.int x, .int y] := by
  obtain ⟨b, A, ps, n, u, T, t, bx, r, ft, fp⟩ := M
  have hG0 := hG
  obtain ⟨hR, hA, hps, hbx, hnu⟩ := hG
  have hk := hR.1
  have hok := gC_aOK hk hA.1.1
  have h11 : ∀ d, d < b 0 2 → b 1 d = 1 → b 2 d = 1 := fun d hd => (hR.2.2.2.1 d hd).2.1
  by_cases h : ∃ k, (k = 2 ∨ k = 4 ∨ k = 8) ∧ x = nI k
  · obtain ⟨k, hq, rfl⟩ := h
    by_cases hy : inN y 3 = true
    · obtain ⟨j, hj, rfl⟩ := (inN_iff (by decide)).mp hy
      exact pr_q hG0 (fun I J R c s h1 _ h3 h4 h5 h6 _ => rt_weak (rs_X10_clear h1 h6 hk h3 h4 h5 hok (oOw_of hA.1.1 h11) hq hj) (fun v I2 J2 R2 ⟨x, e, e2, q1, q2⟩ => ⟨x, e, e2, q1, fun a _ h450 _ => q2 a h450⟩)) (fun I J R h1 h2 h3 h4 => rt_weak (rs_X11_clear h1 h3 hk h4 hok (vOK_of hA.1.1) hq hj) (fun v I2 J2 R2 ⟨x, e, e2, q1, q2⟩ => ⟨x, e, e2, q1, by rw [q2.1 464 (by decide)]; exact h4, q2.k⟩))
    · have hf := Bool.eq_false_iff.mpr hy
      exact pr_q hG0 (fun I J R c s h1 _ h3 h4 h5 h6 _ => rt_weak (rs_X10_clear1 h1 h6 hk h3 h4 h5 hok (oOw_of hA.1.1 h11) hq hf) (fun v I2 J2 R2 ⟨x, e, e2, q1, q2⟩ => ⟨x, e, e2, q1, fun a _ h450 _ => q2 a h450⟩)) (fun I J R h1 h2 h3 h4 => rt_weak (rn_rt (rn_X11_clear0 (by rw [hf, Bool.and_false]))) (fun v I2 J2 R2 ⟨x, e, e2, q1, q2⟩ => ⟨x, e, e2, q1, by rw [q2]; exact h4, by rw [q2]; exact kM.rf⟩))
  · have n2 : x ≠ nI 2 := fun q => h ⟨2, by decide, q⟩
    have n4 : x ≠ nI 4 := fun q => h ⟨4, by decide, q⟩
    have n8 : x ≠ nI 8 := fun q => h ⟨8, by decide, q⟩
    exact pr_n hG0 (fun I J R c s _ _ _ _ _ _ _ => rn_X10_clear0 n2 n4 n8) (fun I J R _ _ _ _ => rn_X11_clear0 (by rw [decide_eq_false n2, decide_eq_false n4, decide_eq_false n8]; rfl))
theorem pr_without {x y : Int32} (hG : GM m M) : Pr w l m M yX10_without dd_X10_without yX11_without dd_X11_without [.int x, .int y] := by
  obtain ⟨b, A, ps, n, u, T, t, bx, r, ft, fp⟩ := M
  have hG0 := hG
  obtain ⟨hR, hA, hps, hbx, hnu⟩ := hG
  have hk := hR.1
  have h8 := hk.1.2
  have hok := gC_aOK hk hA.1.1
  by_cases h : (inN x (b 0 0) && inN y 2) = true
  · obtain ⟨p, hp, rfl⟩ := (inN_iff (by omega)).mp (Bool.and_eq_true_iff.mp h).1
    obtain ⟨j, hj, rfl⟩ := (inN_iff (by decide)).mp (Bool.and_eq_true_iff.mp h).2
    exact pr_q hG0 (fun I J R c s h1 _ h3 h4 h5 h6 _ => rt_weak (rs_X10_without h1 h6 hR h3 h4 h5 hA.1 hp hj) (fun v I2 J2 R2 ⟨x, e, e2, q1, q2⟩ => ⟨x, e, e2, q1, fun a ha _ _ => q2 a (fun e he => by unfold sA; omega)⟩)) (fun I J R h1 h2 h3 h4 => rt_weak (rs_X11_without h1 h3 hk h4 hok (uCl_of hk hp) (fun _ => ⟨gI_off hA.1, by rw [mj_up_eq]; decide⟩) hp hj) (fun v I2 J2 R2 ⟨x, e, e2, q1, q2, q3⟩ => ⟨x, e, e2, q1, q2, q3.k⟩))
  · have hf := Bool.eq_false_iff.mpr h
    exact pr_n hG0 (fun I J R c s h1 _ _ _ _ h6 _ => rn_X10_without0 h1 h6 hk hf) (fun I J R h1 h2 h3 h4 => rn_X11_without0 h3 hf)
theorem pr_storm {x y z : Int32} (hG : GM m M) (hm : m + 200000 < 2 ^ 31) : Pr w l m M yX10_storm dd_X10_storm yX11_storm dd_X11_storm [.int x, .int y, .int z] := by
  obtain ⟨b, A, ps, n, u, T, t, bx, r, ft, fp⟩ := M
  have hG0 := hG
  obtain ⟨hR, hA, hps, hbx, hnu⟩ := hG
  have hk := hR.1
  have hL := hA.2.2
  by_cases h : (inN x 10000 && (inN y 501 && inN z 4)) = true
  · have ha := Bool.and_eq_true_iff.mp h
    have hb := Bool.and_eq_true_iff.mp ha.2
    obtain ⟨s1, q1, rfl⟩ := (inN_iff (by decide)).mp ha.1
    obtain ⟨s2, q2, rfl⟩ := (inN_iff (by decide)).mp hb.1
    obtain ⟨j, hj, rfl⟩ := (inN_iff (by decide)).mp hb.2
    exact pr_q hG0 (fun I J R c s h1 _ h3 h4 h5 h6 _ => rt_weak (rs_X10_storm h1 h6 hR h3 h4 h5 hA.1 q1 q2 hj (by omega)) (fun v I2 J2 R2 ⟨x, e, e2, q1, q2⟩ => ⟨x, e, e2, q1, fun a ha _ h451 => q2 a (fun e he => by unfold sA; omega) h451⟩)) (fun I J R h1 h2 h3 h4 => rt_weak (rs_X11_storm h1 h3 hk (sCl_of hk) hA.1 h4 q1 q2 hj) (fun v I2 J2 R2 ⟨x, e, e2, q1, q2, q3⟩ => ⟨x, e, e2, q1, q2, q3.k⟩))
  · have hf := Bool.eq_false_iff.mpr h
    exact pr_n hG0 (fun I J R c s _ _ _ _ _ _ _ => rn_X10_storm0 hf) (fun I J R _ _ _ _ => rn_X11_storm0 hf)
theorem pr_log {x y : Int32} (hG : GM m M) (hm : m + 200000 < 2 ^ 31) : Pr w l m M yX10_log dd_X10_log yX11_log dd_X11_log [.int x, .int y] := by
  obtain ⟨b, A, ps, n, u, T, t, bx, r, ft, fp⟩ := M
  have hG0 := hG
  obtain ⟨hR, hA, hps, hbx, hnu⟩ := hG
  have hL := hA.2.2
  by_cases h : (inN x (min (A 14 4) 40) && inN y 5) = true
  · obtain ⟨k, hk2, rfl⟩ := (inN_iff (by omega)).mp (Bool.and_eq_true_iff.mp h).1
    obtain ⟨j, hj, rfl⟩ := (inN_iff (by decide)).mp (Bool.and_eq_true_iff.mp h).2
    exact pr_n hG0 (fun I J R c s h1 _ h3 h4 h5 h6 _ => rn_X10_log h1 h3 h4 h5 hA.2.1 (by omega) hk2 hj) (fun I J R h1 h2 h3 h4 => rn_X11_log h1 h4 hk2 hj)
  · have hf := Bool.eq_false_iff.mpr h
    exact pr_n hG0 (fun I J R c s h1 _ h3 h4 h5 h6 _ => rn_X10_log0 h1 h3 h4 h5 hA.2.1 (by omega) hf) (fun I J R h1 h2 h3 h4 => rn_X11_log0 h1 h4 hf)
theorem al_in {x : Int32} (h : nI 1 ≤ x ∧ x ≤ nI 7) : ∃ k, 1 ≤ k ∧ k ≤ 7 ∧ x = nI k := by
  have h1 := Int32.le_iff_toInt_le.mp h.1
  have h2 := Int32.le_iff_toInt_le.mp h.2
  rw [nI_toInt (by decide)] at h1 h2
  refine ⟨x.toInt.toNat, by omega, by omega, Int32.toInt_inj.mp ?_⟩
  rw [nI_toInt (by omega)]
  omega
theorem pr_alike {x y : Int32} (hG : GM m M) (hm : m + 200000 < 2 ^ 31) : Pr w l m M yX10_alike dd_X10_alike yX11_alike dd_X11_alike [.int x, .int y] := by
  obtain ⟨b, A, ps, n, u, T, t, bx, r, ft, fp⟩ := M
  have hG0 := hG
  obtain ⟨hR, hA, hps, hbx, hnu⟩ := hG
  have hk := hR.1
  have h10 := hk.2.2.1
  have hL := hA.2.2
  by_cases h : (inN x (b 0 2) && decide (nI 1 ≤ y ∧ y ≤ nI 7)) = true
  · obtain ⟨e, he, rfl⟩ := (inN_iff (by omega)).mp (Bool.and_eq_true_iff.mp h).1
    obtain ⟨g, g1, g7, rfl⟩ := al_in (of_decide_eq_true (Bool.and_eq_true_iff.mp h).2)
    exact pr_n hG0 (fun I J R c s h1 h2 h3 h4 h5 h6 _ => rn_X10_alike h1 h6 hR h2.1.2.1 h3 h4 h5 hA.2.1 (by omega) he g1 g7) (fun I J R h1 h2 h3 h4 => rn_X11_alike h1 h3 hk h4 hR.2.1 h2.1.2.1 (gOK_of hA.2.1) he g1 g7)
  · have hf := Bool.eq_false_iff.mpr h
    exact pr_n hG0 (fun I J R c s h1 _ _ _ _ h6 _ => rn_X10_alike0 h1 h6 hk hf) (fun I J R h1 h2 h3 h4 => rn_X11_alike0 h3 hf)
theorem pr_about {x : Int32} (hG : GM m M) : Pr w l m M yX10_about dd_X10_about yX11_about dd_X11_about [.int x] := by
  obtain ⟨b, A, ps, n, u, T, t, bx, r, ft, fp⟩ := M
  have hG0 := hG
  obtain ⟨hR, hA, hps, hbx, hnu⟩ := hG
  have hk := hR.1
  by_cases h : inN x 14 = true
  · obtain ⟨j, hj, rfl⟩ := (inN_iff (by decide)).mp h
    exact pr_n hG0 (fun I J R c s h1 h2 h3 h4 h5 h6 h7 => rn_X10_about h1 h6 hk h7 hA.1 hA.2.1 h2.2.1.2 hj) (fun I J R h1 h2 h3 h4 => rn_X11_about h1 h3 hk h4 (gC_aOK hk hA.1.1) h2.2.2 h2.1.2.2.2.1.1 hj)
  · have hf := Bool.eq_false_iff.mpr h
    exact pr_n hG0 (fun I J R c s h1 _ h3 h4 _ _ _ => rn_X10_about0 h1 h3 h4 hf) (fun I J R _ _ _ _ => rn_X11_about0 hf)
theorem pr_refused (hG : GM m M) : Pr w l m M yX10_refused dd_X10_refused yX11_refused dd_X11_refused [] := by
  obtain ⟨b, A, ps, n, u, T, t, bx, r, ft, fp⟩ := M
  exact pr_n (y := nI r) hG (fun I J R c s _ h2 _ _ _ _ _ => by rw [← h2.2.2.2.1.1]; exact rn_X10_refused) (fun I J R _ h2 _ _ => by rw [← h2.1.2.2.2.2.1]; exact rn_X11_refused)
theorem pr_fault {x : Int32} (hG : GM m M) : Pr w l m M yX10_fault dd_X10_fault yX11_fault dd_X11_fault [.int x] := by
  obtain ⟨b, A, ps, n, u, T, t, bx, r, ft, fp⟩ := M
  exact pr_n (y := if x = nI 0 then nI ft else if x = nI 1 then lD fp else -1) hG (fun I J R c s h1 h2 _ _ _ _ _ => by rw [← h2.2.2.2.1.2.1, ← h2.2.2.2.1.2.2]; exact rn_X10_fault h1.1) (fun I J R _ h2 _ _ => by rw [← h2.1.2.2.2.2.2.1, ← h2.1.2.2.2.2.2.2]; exact rn_X11_fault)
end PAIRS
