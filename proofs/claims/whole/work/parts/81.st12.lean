/-! ===== the class: what UNPLUG brings away ===== -/
theorem leaves_un {b A : St} {id q : Nat} : aLeaves b (mj_up A 2 q 0) id q = aLeaves b A id q := by
  unfold aLeaves aSets
  rw [mj_up_com (show (2:Nat) ≠ 0 by decide), mj_up_com (show (2:Nat) ≠ 1 by decide)]
  funext f j
  unfold mj_up
  by_cases h : f = 2 ∧ j = q
  · simp only [if_pos h]
  · simp only [if_neg h]
theorem leaves_g {b A : St} {id q g : Nat} (h0 : g ≠ 0) (h1 : g ≠ 1) (h2 : g ≠ 2) : aLeaves b A id q g = A g := by
  unfold aLeaves
  rw [up_f h2, sets_g h0 h1]
theorem leaves_0 {b A : St} {id q k : Nat} (h : k ≠ q) : aLeaves b A id q 0 k = A 0 k ∧ aLeaves b A id q 1 k = A 1 k ∧ aLeaves b A id q 2 k = A 2 k := by
  unfold aLeaves aSets
  rw [mj_up_ne (show (0:Nat) ≠ 2 by decide), mj_up_ne (show (0:Nat) ≠ 1 by decide), mj_up_ne2 h, mj_up_ne (show (1:Nat) ≠ 2 by decide), mj_up_ne2 h, mj_up_ne (show (1:Nat) ≠ 0 by decide), mj_up_ne2 h, mj_up_ne (show (2:Nat) ≠ 1 by decide), mj_up_ne (show (2:Nat) ≠ 0 by decide)]
  exact ⟨rfl, rfl, rfl⟩
theorem noOld_g {A : St} {id g : Nat} (h4 : g ≠ 4) (h5 : g ≠ 5) : aNoOld A id g = A g := by
  unfold aNoOld
  rw [up_f h5, up_f h4]
theorem noOld_leaves {b A : St} {id q j : Nat} : aLeaves b (aNoOld A j) id q = aNoOld (aLeaves b A id q) j := by
  unfold aLeaves aSets aNoOld
  rw [mj_up_com (show (5:Nat) ≠ 0 by decide), mj_up_com (show (4:Nat) ≠ 0 by decide), mj_up_com (show (5:Nat) ≠ 1 by decide), mj_up_com (show (4:Nat) ≠ 1 by decide), mj_up_com (show (5:Nat) ≠ 2 by decide), mj_up_com (show (4:Nat) ≠ 2 by decide)]
/-- a CPU that isn't ONLINE is none to go to, whatever it bears -/
theorem least_off {b A A' : St} {p s : Nat} (h9 : A' 9 = A 9) (hp : A 9 p ≠ 1) (h0 : ∀ q v, q ≠ p → v < 32 → A' 0 (32 * q + v) = A 0 (32 * q + v)) (hb : b 0 1 ≤ 32) : aLeast b A' s = aLeast b A s := by
  unfold aLeast
  refine lstN_congr (fun j hj => by unfold aLP; rw [h9]) (fun j hj hP => ?_)
  have hne : j ≠ p := fun e => by
    unfold aLP at hP
    rw [Bool.and_eq_true, beq_iff_eq, h9, e] at hP
    exact hp hP.2
  unfold aLoad aCnt
  rw [cntN_cong (P := fun v => A' 0 (32 * j + v) == 2) (S := fun v => A 0 (32 * j + v) == 2) (fun v hv => by rw [h0 j v hne (by omega)]), cntN_cong (P := fun v => A' 0 (32 * j + v) == 3) (S := fun v => A 0 (32 * j + v) == 3) (fun v hv => by rw [h0 j v hne (by omega)])]
theorem resv_off {b A A' : St} {id to : Nat} (h0 : ∀ v, v < 32 → A' 0 (32 * to + v) = A 0 (32 * to + v) ∧ A' 1 (32 * to + v) = A 1 (32 * to + v)) (hb : b 0 1 ≤ 32) : aResv b A' id to = aResv b A id to := by
  unfold aResv
  refine ffi_congr (fun j _ hj => ?_)
  unfold aRs
  rw [(h0 j (by omega)).1, (h0 j (by omega)).2]
section ST12
variable {w : mj_Wd} {l : Launch} {I : mj_M} {J : mj_J} {R : mj_R} {b A : St} {i : Nat}
theorem rs_X5_bringOldAway {id p : Nat} (hi : i < 21) (hS : mj_wS R i) (hB : mj_wB R 4) (hb : cB I b) (hk : bOK b) (h : cR I i b A) (hA : aOK A) (hid : id < 80) (hd : id / 8 < b 0 2) (hp : p < 8) (h3 : A 4 id ≠ 0 → A 3 id ≠ 0) (p3 : pv b (A 3 id)) (p4 : pv b (A 4 id)) : RsV w l yX5_bringOldAway dd_X5_bringOldAway [.ref (sA i 0), .int (nI id), .int (nI p)] (472, I, J, R) (fun I' => cR I' i b (aOldL b A id p) ∧ mS i I I') := by
  have hz : 50 + 20 * i ≤ 472 := by omega
  have hln := h.2.2.2 id hid
  have hok := hA.2.1 id hid
  refine rt_intro2 (L := [some (.ref (sA i 0)), some (.int (nI id)), some (.int (nI p)), none]) ⟨by decide, rfl, (fun h => by cases h)⟩ (Nat.le_of_ble_eq_true rfl) rfl (fun Y Q hQ => ?_)
  unfold aOldL at hQ
  by_cases hc : A 4 id ≠ 0 ∧ (A 4 id - 1) / 32 = p
  · rw [if_pos hc] at hQ
    have pp := p4 hc.1
    have e4 : I (sA i 8) id = nI (A 4 id - 1) := hln.2.1.trans (lD_p (by have := hc.1; omega))
    refine q_aload_n (pc' := 1) dX5_bringOldAway_0 rfl rfl (q_getR (pc' := 4) dX5_bringOldAway_1 rfl fr_RX5_22 (okS hi hz (by decide) rfl) rfl (wS_5_6 hS) (sA_lt hi (by decide)) (q_iload_n (pc' := 5) dX5_bringOldAway_4 rfl rfl (q_ialde (pc' := 6) (id) dX5_bringOldAway_5 rfl (by first | exact ⟨by omega, rfl⟩ | exact okaS hi hz (by decide) rfl | assumption) (by (first | (simp only [nI_add, pk_mul]; done) | (simp only [nI_add, pk_mul]; exact nI_e (by omega)) | exact nI_e (by omega))) (by omega) hln.2.1 (q_iload_n (pc' := 7) dX5_bringOldAway_6 rfl rfl (q_cSi (pc' := 10) dX5_bringOldAway_7 rfl ml_RX5_174 ys_X5_isAt (by decide) (rn_X5_isAt hok.2.1 hp) rfl rfl (Nat.le_of_ble_eq_true rfl) (Nat.le_refl _) (q_ifb_ne (pc' := 13) (pt := 14) dX5_bringOldAway_10 rfl rfl (fun _ => ?_) (fun h9 => Bool.noConfusion (Eq.trans (Eq.symm (decide_eq_true hc)) h9))))))))
    refine q_aload_n (pc' := 15) dX5_bringOldAway_14 rfl rfl (q_getR (pc' := 18) dX5_bringOldAway_15 rfl fr_RX5_41 (okS hi hz (by decide) rfl) rfl (wS_5_1 hS) (sA_lt hi (by decide)) (q_aload_n (pc' := 19) dX5_bringOldAway_18 rfl rfl (q_getR (pc' := 22) dX5_bringOldAway_19 rfl fr_RX5_22 (okS hi hz (by decide) rfl) rfl (wS_5_6 hS) (sA_lt hi (by decide)) (q_iload_n (pc' := 23) dX5_bringOldAway_22 rfl rfl (q_ialde (pc' := 24) (id) dX5_bringOldAway_23 rfl (by first | exact ⟨by omega, rfl⟩ | exact okaS hi hz (by decide) rfl | assumption) (by (first | (simp only [nI_add, pk_mul]; done) | (simp only [nI_add, pk_mul]; exact nI_e (by omega)) | exact nI_e (by omega))) (by omega) e4 (q_sVi (pc' := 27) dX5_bringOldAway_24 rfl ml_RX5_187 yv_X4_unpend (by decide) (rs_X4_unpend hi hS hk h.1 pp.1 pp.2) (okS hi hz (by decide) rfl) rfl rfl (Nat.le_of_ble_eq_true rfl) (Nat.le_refl _) (fun x1 I1 ⟨r1, u1, f1⟩ => ?_)))))))
    rw [r1]
    have g1 : cR I1 i b (mj_up A 2 (A 4 id - 1) 0) := cR_2 u1 f1 h
    have s4 : mj_up A 2 (A 4 id - 1) 0 4 id = A 4 id := mj_up_ne (by decide)
    have s2 : mj_up A 2 (A 4 id - 1) 0 2 (A 4 id - 1) ≠ 1 := by rw [mj_up_eq]; decide
    have hro := rs_X5_releaseOld (w := w) (l := l) (J := J) (R := R) (id := id) hi hS hB (cB_S f1.s hb) hk g1 hid hd (by rw [s4]; exact hc.1) (by rw [s4]; exact pp.1) (by rw [s4]; exact pp.2) (by rw [s4]; exact s2)
    rw [s4, leaves_un] at hro
    refine q_ist_3 (pc' := 28) dX5_bringOldAway_27 rfl (by decide) rfl (q_aload_n (pc' := 29) dX5_bringOldAway_28 rfl rfl (q_iload_n (pc' := 30) dX5_bringOldAway_29 rfl rfl (q_sVv (pc' := 33) dX5_bringOldAway_30 rfl ml_RX5_218 yv_X5_releaseOld (by decide) (hro) (okS hi hz (by decide) rfl) rfl rfl (Nat.le_of_ble_eq_true rfl) (Nat.le_refl _) (fun I2 ⟨h2, f2⟩ => ?_))))
    by_cases c2 : A 2 (A 4 id - 1) = 1
    · rw [if_pos c2] at hQ
      have c3 := h3 hc.1
      have pp3 := p3 c3
      have e3 : I2 (sA i 7) id = nI (A 3 id - 1) := by
        rw [(h2.2.2.2 id hid).1, noOld_g (by decide) (by decide), leaves_g (by decide) (by decide) (by decide)]
        exact lD_p (by omega)
      refine q_iload_n (pc' := 34) dX5_bringOldAway_33 rfl rfl (q_ifb_eq (pc' := 37) (pt := 59) dX5_bringOldAway_34 rfl rfl (fun h9 => Bool.noConfusion (Eq.trans (Eq.symm (beq_iff_eq.mpr c2)) h9)) (fun _ => (q_aload_n (pc' := 38) dX5_bringOldAway_37 rfl rfl (q_getR (pc' := 41) dX5_bringOldAway_38 rfl fr_RX5_18 (okS hi hz (by decide) rfl) rfl (wS_5_5 hS) (sA_lt hi (by decide)) (q_iload_n (pc' := 42) dX5_bringOldAway_41 rfl rfl (q_ialde (pc' := 43) (id) dX5_bringOldAway_42 rfl (by first | exact ⟨by omega, rfl⟩ | exact okaS hi hz (by decide) rfl | assumption) (by (first | (simp only [nI_add, pk_mul]; done) | (simp only [nI_add, pk_mul]; exact nI_e (by omega)) | exact nI_e (by omega))) (by omega) e3 (q_iconst (pc' := 44) _ dX5_bringOldAway_43 rfl kk_iconst_m1 (q_icmp_eq (pc' := 47) (pt := 59) dX5_bringOldAway_44 rfl rfl (fun h9 => absurd h9 (nI_m1 (by omega))) (fun _ => (q_aload_n (pc' := 48) dX5_bringOldAway_47 rfl rfl (q_iload_n (pc' := 49) dX5_bringOldAway_48 rfl rfl (q_aload_n (pc' := 50) dX5_bringOldAway_49 rfl rfl (q_getR (pc' := 53) dX5_bringOldAway_50 rfl fr_RX5_18 (okS hi hz (by decide) rfl) rfl (wS_5_5 hS) (sA_lt hi (by decide)) (q_iload_n (pc' := 54) dX5_bringOldAway_53 rfl rfl (q_ialde (pc' := 55) (id) dX5_bringOldAway_54 rfl (by first | exact ⟨by omega, rfl⟩ | exact okaS hi hz (by decide) rfl | assumption) (by (first | (simp only [nI_add, pk_mul]; done) | (simp only [nI_add, pk_mul]; exact nI_e (by omega)) | exact nI_e (by omega))) (by omega) e3 ?_)))))))))))))))
      refine q_sVi (pc' := 58) dX5_bringOldAway_55 rfl ml_RX5_196 yv_X5_pendAt (by decide) (rs_X5_pendAt hi hS hk h2 hid pp3.1 pp3.2) (okS hi hz (by decide) rfl) rfl rfl (Nat.le_of_ble_eq_true rfl) (Nat.le_refl _) (fun x3 I3 ⟨r3, h4, f4⟩ => (q_pop_i (pc' := 59) dX5_bringOldAway_58 rfl ?_))
      refine q_vret dX5_bringOldAway_59 rfl (hQ _ _ _ _ ⟨rfl, ⟨rfl, rfl⟩, h4, (f1.s.tr f2).tr f4⟩)
    · rw [if_neg c2] at hQ
      exact q_iload_n (pc' := 34) dX5_bringOldAway_33 rfl rfl (q_ifb_eq (pc' := 37) (pt := 59) dX5_bringOldAway_34 rfl rfl (fun _ => (q_vret dX5_bringOldAway_59 rfl (hQ _ _ _ _ ⟨rfl, ⟨rfl, rfl⟩, h2, f1.s.tr f2⟩))) (fun h9 => Bool.noConfusion (Eq.trans (Eq.symm (beq_eq_false_iff_ne.mpr c2)) h9)))
  · rw [if_neg hc] at hQ
    exact q_aload_n (pc' := 1) dX5_bringOldAway_0 rfl rfl (q_getR (pc' := 4) dX5_bringOldAway_1 rfl fr_RX5_22 (okS hi hz (by decide) rfl) rfl (wS_5_6 hS) (sA_lt hi (by decide)) (q_iload_n (pc' := 5) dX5_bringOldAway_4 rfl rfl (q_ialde (pc' := 6) (id) dX5_bringOldAway_5 rfl (by first | exact ⟨by omega, rfl⟩ | exact okaS hi hz (by decide) rfl | assumption) (by (first | (simp only [nI_add, pk_mul]; done) | (simp only [nI_add, pk_mul]; exact nI_e (by omega)) | exact nI_e (by omega))) (by omega) hln.2.1 (q_iload_n (pc' := 7) dX5_bringOldAway_6 rfl rfl (q_cSi (pc' := 10) dX5_bringOldAway_7 rfl ml_RX5_174 ys_X5_isAt (by decide) (rn_X5_isAt hok.2.1 hp) rfl rfl (Nat.le_of_ble_eq_true rfl) (Nat.le_refl _) (q_ifb_ne (pc' := 13) (pt := 14) dX5_bringOldAway_10 rfl rfl (fun h9 => Bool.noConfusion (Eq.trans (Eq.symm (decide_eq_false hc)) h9)) (fun _ => (q_vret dX5_bringOldAway_13 rfl (hQ _ _ _ _ ⟨rfl, ⟨rfl, rfl⟩, h, mS.rf⟩)))))))))
/-- a LINE that HOLDS another VECTOR -/
theorem rs_X5_carry {id to : Nat} (hi : i < 21) (hS : mj_wS R i) (hB : mj_wB R 4) (hb : cB I b) (hk : bOK b) (h : cR I i b A) (hA : aOK A) (hid : id < 80) (hd : id / 8 < b 0 2) (h3 : A 3 id ≠ 0) (p3 : pv b (A 3 id)) (t1 : to < 256) (t2 : to % 32 < b 0 1) : RsV w l yX5_carry dd_X5_carry [.ref (sA i 0), .int (nI id), .int (nI to)] (472, I, J, R) (fun I' => cR I' i b (aQend (aLeaves b A id (A 3 id - 1)) (id / 8) id to (A 2 (A 3 id - 1))) ∧ mS i I I') := by
  have hz : 50 + 20 * i ≤ 472 := by omega
  have hln := h.2.2.2 id hid
  have pp := p3 h3
  have e3 : I (sA i 7) id = nI (A 3 id - 1) := hln.1.trans (lD_p (by omega))
  refine rt_intro2 (L := [some (.ref (sA i 0)), some (.int (nI id)), some (.int (nI to)), none]) ⟨by decide, rfl, (fun h => by cases h)⟩ (Nat.le_of_ble_eq_true rfl) rfl (fun Y Q hQ => ?_)
  unfold aQend at hQ
  refine q_aload_n (pc' := 1) dX5_carry_0 rfl rfl (q_getR (pc' := 4) dX5_carry_1 rfl fr_RX5_41 (okS hi hz (by decide) rfl) rfl (wS_5_1 hS) (sA_lt hi (by decide)) (q_aload_n (pc' := 5) dX5_carry_4 rfl rfl (q_getR (pc' := 8) dX5_carry_5 rfl fr_RX5_18 (okS hi hz (by decide) rfl) rfl (wS_5_5 hS) (sA_lt hi (by decide)) (q_iload_n (pc' := 9) dX5_carry_8 rfl rfl (q_ialde (pc' := 10) (id) dX5_carry_9 rfl (by first | exact ⟨by omega, rfl⟩ | exact okaS hi hz (by decide) rfl | assumption) (by (first | (simp only [nI_add, pk_mul]; done) | (simp only [nI_add, pk_mul]; exact nI_e (by omega)) | exact nI_e (by omega))) (by omega) e3 (q_sVi (pc' := 13) dX5_carry_10 rfl ml_RX5_187 yv_X4_unpend (by decide) (rs_X4_unpend hi hS hk h.1 pp.1 pp.2) (okS hi hz (by decide) rfl) rfl rfl (Nat.le_of_ble_eq_true rfl) (Nat.le_refl _) (fun x1 I1 ⟨r1, u1, f1⟩ => ?_)))))))
  rw [r1]
  have g1 : cR I1 i b (mj_up A 2 (A 3 id - 1) 0) := cR_2 u1 f1 h
  have e3' : I1 (sA i 7) id = nI (A 3 id - 1) := (f1.lo (c := 7) (by decide)) ▸ e3
  have s2 : mj_up A 2 (A 3 id - 1) 0 2 (A 3 id - 1) ≠ 1 := by rw [mj_up_eq]; decide
  have hrl := rs_X5_release (w := w) (l := l) (J := J) (R := R) (id := id) (p := A 3 id - 1) hi hS hB (cB_S f1.s hb) hk g1 hid hd pp.1 pp.2 s2
  rw [leaves_un] at hrl
  refine q_ist_3 (pc' := 14) dX5_carry_13 rfl (by decide) rfl (q_aload_n (pc' := 15) dX5_carry_14 rfl rfl (q_iload_n (pc' := 16) dX5_carry_15 rfl rfl (q_aload_n (pc' := 17) dX5_carry_16 rfl rfl (q_getR (pc' := 20) dX5_carry_17 rfl fr_RX5_18 (okS hi hz (by decide) rfl) rfl (wS_5_5 hS) (sA_lt hi (by decide)) (q_iload_n (pc' := 21) dX5_carry_20 rfl rfl (q_ialde (pc' := 22) (id) dX5_carry_21 rfl (by first | exact ⟨by omega, rfl⟩ | exact okaS hi hz (by decide) rfl | assumption) (by (first | (simp only [nI_add, pk_mul]; done) | (simp only [nI_add, pk_mul]; exact nI_e (by omega)) | exact nI_e (by omega))) (by omega) e3' (q_sVv (pc' := 25) dX5_carry_22 rfl ml_RX5_107 yv_X5_release (by decide) (hrl) (okS hi hz (by decide) rfl) rfl rfl (Nat.le_of_ble_eq_true rfl) (Nat.le_refl _) (fun I2 ⟨h2, f2⟩ => ?_))))))))
  refine q_aload_n (pc' := 26) dX5_carry_25 rfl rfl (q_iload_n (pc' := 27) dX5_carry_26 rfl rfl (q_iload_n (pc' := 28) dX5_carry_27 rfl rfl (q_sVv (pc' := 31) dX5_carry_28 rfl ml_RX5_144 yv_X5_hold (by decide) (rs_X5_hold hi hS hk h2 hid t1 t2) (okS hi hz (by decide) rfl) rfl rfl (Nat.le_of_ble_eq_true rfl) (Nat.le_refl _) (fun I3 ⟨h4, f4⟩ => ?_))))
  by_cases c2 : A 2 (A 3 id - 1) = 1
  · rw [if_pos c2] at hQ
    refine q_iload_n (pc' := 32) dX5_carry_31 rfl rfl (q_ifb_eq (pc' := 35) (pt := 42) dX5_carry_32 rfl rfl (fun h9 => Bool.noConfusion (Eq.trans (Eq.symm (beq_iff_eq.mpr c2)) h9)) (fun _ => (q_aload_n (pc' := 36) dX5_carry_35 rfl rfl (q_iload_n (pc' := 37) dX5_carry_36 rfl rfl (q_iload_n (pc' := 38) dX5_carry_37 rfl rfl (q_sVi (pc' := 41) dX5_carry_38 rfl ml_RX5_196 yv_X5_pendAt (by decide) (rs_X5_pendAt hi hS hk h4 hid t1 t2) (okS hi hz (by decide) rfl) rfl rfl (Nat.le_of_ble_eq_true rfl) (Nat.le_refl _) (fun x5 I5 ⟨r5, h5, f5⟩ => (q_pop_i (pc' := 42) dX5_carry_41 rfl ?_))))))))
    refine q_vret dX5_carry_42 rfl (hQ _ _ _ _ ⟨rfl, ⟨rfl, rfl⟩, h5, ((f1.s.tr f2).tr f4).tr f5⟩)
  · rw [if_neg c2] at hQ
    exact q_iload_n (pc' := 32) dX5_carry_31 rfl rfl (q_ifb_eq (pc' := 35) (pt := 42) dX5_carry_32 rfl rfl (fun _ => (q_vret dX5_carry_42 rfl (hQ _ _ _ _ ⟨rfl, ⟨rfl, rfl⟩, h4, (f1.s.tr f2).tr f4⟩))) (fun h9 => Bool.noConfusion (Eq.trans (Eq.symm (beq_eq_false_iff_ne.mpr c2)) h9)))
theorem rs_X5_bringQueueAway {d q p : Nat} (hi : i < 21) (hS : mj_wS R i) (hB : mj_wB R 4) (hb : cB I b) (hk : bOK b) (h : cR I i b A) (hA : aOK A) (hd : d < b 0 2) (hq : q < 8) (hm : b 1 d = 3) (hset : b 3 d < 2 ^ b 0 0) (hp : p < b 0 0) (h9 : A 9 p ≠ 1) (h3 : A 3 (8 * d + q) ≠ 0) (hat : (A 3 (8 * d + q) - 1) / 32 = p) (p3 : pv b (A 3 (8 * d + q))) (p4 : pv b (A 4 (8 * d + q))) (h5 : A 5 (8 * d + q) = 1 → A 4 (8 * d + q) ≠ 0) (hQk : aQOK b A d q p) : RsV w l yX5_bringQueueAway dd_X5_bringQueueAway [.ref (sA i 0), .int (nI (8 * d + q))] (472, I, J, R) (fun I' => cR I' i b (aQLv b A d q p) ∧ mS i I I') := by
  have hz : 50 + 20 * i ≤ 472 := by omega
  have h10 := hk.2.2.1
  have h8 := hk.1.2
  have h32 := hk.2.1.2
  have e8 : 8 * d + q < 80 := by omega
  have ed : (8 * d + q) / 8 = d := by omega
  have em : (8 * d + q) % 8 = q := by omega
  have hln := h.2.2.2 (8 * d + q) e8
  have hok := hA.2.1 (8 * d + q) e8
  have pp := p3 h3
  have ep : aPl A (8 * d + q) p = A 3 (8 * d + q) - 1 := by unfold aPl; omega
  have e3 : I (sA i 7) (8 * d + q) = nI (A 3 (8 * d + q) - 1) := hln.1.trans (lD_p (by omega))
  have hne : ∀ x v, x ≠ p → v < 32 → 32 * x + v ≠ A 3 (8 * d + q) - 1 := fun x v hx hv z => by omega
  have el : ∀ s, aLeast b (aLeaves b A (8 * d + q) (A 3 (8 * d + q) - 1)) s = aLeast b A s := fun s => least_off (p := p) (leaves_g (by decide) (by decide) (by decide)) h9 (fun x v hx hv => (leaves_0 (hne x v hx hv)).1) h32
  have ea : aSpread b d q &&& (2 ^ b 0 0 - 1) = aSpread b d q := by
    rw [Nat.and_two_pow_sub_one_eq_mod]
    exact Nat.mod_eq_of_lt (bitN_lt _ _)
  have elp : aLp b A (8 * d + q) (2 ^ b 0 0 - 1) = (match aLeast b A (aSpread b d q) with | none => none | some to => if A 4 (8 * d + q) ≠ 0 ∧ (A 4 (8 * d + q) - 1) / 32 = to then some (A 4 (8 * d + q) - 1) else aRsP b A (8 * d + q) to) := by
    unfold aLp
    rw [ed, em, ea]
    cases aLeast b A (aSpread b d q) with
    | none => rfl
    | some to => rfl
  unfold aQOK at hQk
  rw [ep, el] at hQk
  refine rt_intro2 (L := [some (.ref (sA i 0)), some (.int (nI (8 * d + q))), none]) ⟨by decide, rfl, (fun h => by cases h)⟩ (Nat.le_of_ble_eq_true rfl) rfl (fun Y Q hQ => ?_)
  unfold aQLv at hQ
  rw [ep, el] at hQ
  refine q_aload_n (pc' := 1) dX5_bringQueueAway_0 rfl rfl (q_iload_n (pc' := 2) dX5_bringQueueAway_1 rfl rfl (q_aload_n (pc' := 3) dX5_bringQueueAway_2 rfl rfl (q_getR (pc' := 6) dX5_bringQueueAway_3 rfl fr_RX5_32 (okS hi hz (by decide) rfl) rfl (wS_5_0 hS) (by decide) (q_cVi (pc' := 9) dX5_bringQueueAway_6 rfl ml_RX5_159 yv_X0_allCpus (by decide) (rn_X0_allCpus hb hk) (by first | assumption | exact ⟨by omega, rfl⟩) rfl rfl (Nat.le_of_ble_eq_true rfl) (Nat.le_refl _) (q_cVi (pc' := 12) dX5_bringQueueAway_9 rfl ml_RX5_162 yv_X5_leastLoadedPlace (by decide) (rn_X5_leastLoadedPlace hi hS hB hb hk h hA e8 (by rw [ed]; exact hd) (by rw [ed]; exact hm) (by rw [ed]; exact hset)) (okS hi hz (by decide) rfl) rfl rfl (Nat.le_of_ble_eq_true rfl) (Nat.le_refl _) ?_)))))
  rw [elp]
  cases hl : aLeast b A (aSpread b d q) with
  | none =>
    rw [hl] at hQ
    show Wq _ _ _ _ _ [.int (oI none)] _
    -- SHUT
    have shut : ∀ I1, cR I1 i b A → mS i I I1 → Wq dd_X5_bringQueueAway (mj_mk w l 472 Y) Q 37 [some (.ref (sA i 0)), some (.int (nI (8 * d + q))), some (.int (oI none))] [] (472, I1, J, R) := by
      intro I1 g1 f1
      have e3' : I1 (sA i 7) (8 * d + q) = nI (A 3 (8 * d + q) - 1) := (g1.2.2.2 _ e8).1.trans (lD_p (by omega))
      have c2 := (hA.1 (A 3 (8 * d + q) - 1) pp.1).2.2
      refine q_iload_n (pc' := 38) dX5_bringQueueAway_37 rfl rfl (q_iconst (pc' := 39) _ dX5_bringQueueAway_38 rfl kk_iconst_m1 (q_icmp_eq (pc' := 42) (pt := 49) dX5_bringQueueAway_39 rfl rfl (fun _ => (q_aload_n (pc' := 50) dX5_bringQueueAway_49 rfl rfl (q_getR (pc' := 53) dX5_bringQueueAway_50 rfl fr_RX5_29 (okS hi hz (by decide) rfl) rfl (wS_5_8 hS) (sA_lt hi (by decide)) (q_iload_n (pc' := 54) dX5_bringQueueAway_53 rfl rfl (q_aload_n (pc' := 55) dX5_bringQueueAway_54 rfl rfl (q_getR (pc' := 58) dX5_bringQueueAway_55 rfl fr_RX5_41 (okS hi hz (by decide) rfl) rfl (wS_5_1 hS) (sA_lt hi (by decide)) (q_aload_n (pc' := 59) dX5_bringQueueAway_58 rfl rfl (q_getR (pc' := 62) dX5_bringQueueAway_59 rfl fr_RX5_18 (okS hi hz (by decide) rfl) rfl (wS_5_5 hS) (sA_lt hi (by decide)) (q_iload_n (pc' := 63) dX5_bringQueueAway_62 rfl rfl (q_ialde (pc' := 64) (8 * d + q) dX5_bringQueueAway_63 rfl (by first | exact ⟨by omega, rfl⟩ | exact okaS hi hz (by decide) rfl | assumption) (by (first | (simp only [nI_add, pk_mul]; done) | (simp only [nI_add, pk_mul]; exact nI_e (by omega)) | exact nI_e (by omega))) (by omega) e3' (q_sVi (pc' := 67) dX5_bringQueueAway_64 rfl ml_RX5_187 yv_X4_unpend (by decide) (rs_X4_unpend hi hS hk g1.1 pp.1 pp.2) (okS hi hz (by decide) rfl) rfl rfl (Nat.le_of_ble_eq_true rfl) (Nat.le_refl _) (fun x2 I2 ⟨r2, u2, f2⟩ => ?_)))))))))))) (fun h9 => absurd (rfl) h9)))
      rw [r2]
      have g2 : cR I2 i b (mj_up A 2 (A 3 (8 * d + q) - 1) 0) := cR_2 u2 f2 g1
      have g3 : cR (mj_up I2 (sA i 10) (8 * d + q) (bI (A 2 (A 3 (8 * d + q) - 1) == 1))) i b (mj_up (mj_up A 2 (A 3 (8 * d + q) - 1) 0) 6 (8 * d + q) (A 2 (A 3 (8 * d + q) - 1))) := cR_ln (Or.inr (Or.inr (Or.inr ⟨rfl, rfl, (bI_n c2).symm⟩))) g2
      have e3'' : mj_up I2 (sA i 10) (8 * d + q) (bI (A 2 (A 3 (8 * d + q) - 1) == 1)) (sA i 7) (8 * d + q) = nI (A 3 (8 * d + q) - 1) := by
        rw [mj_up_ne (sA_ne (by decide)), f2.lo (c := 7) (by decide)]; exact e3'
      have s2 : mj_up (mj_up A 2 (A 3 (8 * d + q) - 1) 0) 6 (8 * d + q) (A 2 (A 3 (8 * d + q) - 1)) 2 (A 3 (8 * d + q) - 1) ≠ 1 := by rw [mj_up_ne (by decide), mj_up_eq]; decide
      have fX : mS i I (mj_up I2 (sA i 10) (8 * d + q) (bI (A 2 (A 3 (8 * d + q) - 1) == 1))) := (f1.tr f2.s).tr (mS_up (by decide))
      have hrl := rs_X5_release (w := w) (l := l) (J := J) (R := R) (id := 8 * d + q) (p := A 3 (8 * d + q) - 1) hi hS hB (cB_S fX hb) hk g3 e8 (by rw [ed]; exact hd) pp.1 pp.2 s2
      refine q_zast (pc' := 68) (8 * d + q) dX5_bringQueueAway_67 rfl (by first | exact ⟨by omega, rfl⟩ | exact okaS hi hz (by decide) rfl | assumption) (by (first | (simp only [nI_add, pk_mul]; done) | (simp only [nI_add, pk_mul]; exact nI_e (by omega)) | exact nI_e (by omega))) (by omega) (by first | exact Or.inl rfl | exact Or.inr rfl | exact bI_01 _) (q_aload_n (pc' := 69) dX5_bringQueueAway_68 rfl rfl (q_iload_n (pc' := 70) dX5_bringQueueAway_69 rfl rfl (q_aload_n (pc' := 71) dX5_bringQueueAway_70 rfl rfl (q_getR (pc' := 74) dX5_bringQueueAway_71 rfl fr_RX5_18 (okS hi hz (by decide) rfl) rfl (wS_5_5 hS) (sA_lt hi (by decide)) (q_iload_n (pc' := 75) dX5_bringQueueAway_74 rfl rfl (q_ialde (pc' := 76) (8 * d + q) dX5_bringQueueAway_75 rfl (by first | exact ⟨by omega, rfl⟩ | exact okaS hi hz (by decide) rfl | assumption) (by (first | (simp only [nI_add, pk_mul]; done) | (simp only [nI_add, pk_mul]; exact nI_e (by omega)) | exact nI_e (by omega))) (by omega) e3'' (q_sVv (pc' := 79) dX5_bringQueueAway_76 rfl ml_RX5_107 yv_X5_release (by decide) (hrl) (okS hi hz (by decide) rfl) rfl rfl (Nat.le_of_ble_eq_true rfl) (Nat.le_refl _) (fun I4 ⟨h4, f4⟩ => ?_))))))))
      have e7 : aLeaves b (mj_up (mj_up A 2 (A 3 (8 * d + q) - 1) 0) 6 (8 * d + q) (A 2 (A 3 (8 * d + q) - 1))) (8 * d + q) (A 3 (8 * d + q) - 1) = mj_up (aLeaves b A (8 * d + q) (A 3 (8 * d + q) - 1)) 6 (8 * d + q) (A 2 (A 3 (8 * d + q) - 1)) := by
        rw [← leaves_un (A := A)]
        unfold aLeaves aSets
        rw [mj_up_com (show (6:Nat) ≠ 0 by decide), mj_up_com (show (6:Nat) ≠ 1 by decide), mj_up_com (show (6:Nat) ≠ 2 by decide)]
      rw [e7] at h4
      have h6 := cR_ln (i := i) (c := 7) (f := 3) (k := 8 * d + q) (x := 0) (v := lD 0) (Or.inl ⟨rfl, rfl, rfl⟩) h4
      rw [mj_up_com (show (6:Nat) ≠ 3 by decide)] at h6
      exact q_aload_n (pc' := 80) dX5_bringQueueAway_79 rfl rfl (q_getR (pc' := 83) dX5_bringQueueAway_80 rfl fr_RX5_18 (okS hi hz (by decide) rfl) rfl (wS_5_5 hS) (sA_lt hi (by decide)) (q_iload_n (pc' := 84) dX5_bringQueueAway_83 rfl rfl (q_iconst (pc' := 85) _ dX5_bringQueueAway_84 rfl kk_iconst_m1 (q_iast (pc' := 86) (8 * d + q) dX5_bringQueueAway_85 rfl (by first | exact ⟨by omega, rfl⟩ | exact okaS hi hz (by decide) rfl | assumption) (by (first | (simp only [nI_add, pk_mul]; done) | (simp only [nI_add, pk_mul]; exact nI_e (by omega)) | exact nI_e (by omega))) (by omega) (q_vret dX5_bringQueueAway_86 rfl (hQ _ _ _ _ ⟨rfl, ⟨rfl, rfl⟩, h6, (fX.tr f4).tr (mS_up (by decide))⟩))))))
    by_cases c4 : A 4 (8 * d + q) = 0
    · have e4 : I (sA i 8) (8 * d + q) = -1 := by rw [hln.2.1, c4]; rfl
      have c5 : A 5 (8 * d + q) = 0 := by
        have := hok.2.2.1
        have : A 5 (8 * d + q) ≠ 1 := fun z => h5 z c4
        omega
      have g1 := cR_ln (i := i) (c := 9) (f := 5) (k := 8 * d + q) (x := 0) (v := nI 0) (Or.inr (Or.inr (Or.inl ⟨rfl, rfl, rfl⟩))) (cR_ln (i := i) (c := 8) (f := 4) (k := 8 * d + q) (x := 0) (v := lD 0) (Or.inr (Or.inl ⟨rfl, rfl, rfl⟩)) h)
      rw [mj_up_self (show A 4 (8 * d + q) = 0 from c4), mj_up_self c5] at g1
      refine q_ist_2 (pc' := 13) dX5_bringQueueAway_12 rfl (by decide) rfl (q_iload_n (pc' := 14) dX5_bringQueueAway_13 rfl rfl (q_aload_n (pc' := 15) dX5_bringQueueAway_14 rfl rfl (q_getR (pc' := 18) dX5_bringQueueAway_15 rfl fr_RX5_22 (okS hi hz (by decide) rfl) rfl (wS_5_6 hS) (sA_lt hi (by decide)) (q_iload_n (pc' := 19) dX5_bringQueueAway_18 rfl rfl (q_ialde (pc' := 20) (8 * d + q) dX5_bringQueueAway_19 rfl (by first | exact ⟨by omega, rfl⟩ | exact okaS hi hz (by decide) rfl | assumption) (by (first | (simp only [nI_add, pk_mul]; done) | (simp only [nI_add, pk_mul]; exact nI_e (by omega)) | exact nI_e (by omega))) (by omega) e4 (q_icmp_ne (pc' := 23) (pt := 37) dX5_bringQueueAway_20 rfl rfl (fun h9 => absurd (rfl) h9) (fun _ => (q_aload_n (pc' := 24) dX5_bringQueueAway_23 rfl rfl (q_getR (pc' := 27) dX5_bringQueueAway_24 rfl fr_RX5_22 (okS hi hz (by decide) rfl) rfl (wS_5_6 hS) (sA_lt hi (by decide)) (q_iload_n (pc' := 28) dX5_bringQueueAway_27 rfl rfl (q_iconst (pc' := 29) _ dX5_bringQueueAway_28 rfl kk_iconst_m1 (q_iast (pc' := 30) (8 * d + q) dX5_bringQueueAway_29 rfl (by first | exact ⟨by omega, rfl⟩ | exact okaS hi hz (by decide) rfl | assumption) (by (first | (simp only [nI_add, pk_mul]; done) | (simp only [nI_add, pk_mul]; exact nI_e (by omega)) | exact nI_e (by omega))) (by omega) (q_aload_n (pc' := 31) dX5_bringQueueAway_30 rfl rfl (q_getR (pc' := 34) dX5_bringQueueAway_31 rfl fr_RX5_25 (okS hi hz (by decide) rfl) rfl (wS_5_7 hS) (sA_lt hi (by decide)) ?_))))))))))))))
      refine q_iload_n (pc' := 35) dX5_bringQueueAway_34 rfl rfl (q_iconst (pc' := 36) _ dX5_bringQueueAway_35 rfl kk_iconst_0 (q_zast (pc' := 37) (8 * d + q) dX5_bringQueueAway_36 rfl (by first | exact ⟨by omega, rfl⟩ | exact okaS hi hz (by decide) rfl | assumption) (by (first | (simp only [nI_add, pk_mul]; done) | (simp only [nI_add, pk_mul]; exact nI_e (by omega)) | exact nI_e (by omega))) (by omega) (by first | exact Or.inl rfl | exact Or.inr rfl | exact bI_01 _) ?_))
      exact shut _ g1 ((mS_up (by decide)).tr (mS_up (by decide)))
    · have e4 : I (sA i 8) (8 * d + q) = nI (A 4 (8 * d + q) - 1) := hln.2.1.trans (lD_p (by omega))
      refine q_ist_2 (pc' := 13) dX5_bringQueueAway_12 rfl (by decide) rfl (q_iload_n (pc' := 14) dX5_bringQueueAway_13 rfl rfl (q_aload_n (pc' := 15) dX5_bringQueueAway_14 rfl rfl (q_getR (pc' := 18) dX5_bringQueueAway_15 rfl fr_RX5_22 (okS hi hz (by decide) rfl) rfl (wS_5_6 hS) (sA_lt hi (by decide)) (q_iload_n (pc' := 19) dX5_bringQueueAway_18 rfl rfl (q_ialde (pc' := 20) (8 * d + q) dX5_bringQueueAway_19 rfl (by first | exact ⟨by omega, rfl⟩ | exact okaS hi hz (by decide) rfl | assumption) (by (first | (simp only [nI_add, pk_mul]; done) | (simp only [nI_add, pk_mul]; exact nI_e (by omega)) | exact nI_e (by omega))) (by omega) e4 (q_icmp_ne (pc' := 23) (pt := 37) dX5_bringQueueAway_20 rfl rfl (fun _ => ?_) (fun h9 => absurd h9 (fun z => nI_m1 (by omega) z.symm))))))))
      exact shut I h mS.rf
  | some to =>
    rw [hl] at hQ
    have hto := lstN_lt hl
    have hton : to ≠ p := fun z => by
      have := hto.2
      unfold aLP at this
      rw [Bool.and_eq_true, beq_iff_eq, z] at this
      exact h9 this.2
    by_cases hc : A 4 (8 * d + q) ≠ 0 ∧ (A 4 (8 * d + q) - 1) / 32 = to
    · have hQ2 : ∀ I', cR I' i b (aQend (aNoOld (aLeaves b A (8 * d + q) (A 3 (8 * d + q) - 1)) (8 * d + q)) d (8 * d + q) (A 4 (8 * d + q) - 1) (A 2 (A 3 (8 * d + q) - 1))) → mS i I I' → Q none (472, I', J, R) := fun I' g f => hQ _ _ _ _ ⟨rfl, ⟨rfl, rfl⟩, (by show cR I' i b (if A 4 (8 * d + q) ≠ 0 ∧ (A 4 (8 * d + q) - 1) / 32 = to then _ else _); rw [if_pos hc]; exact g), f⟩
      have pp4 := p4 hc.1
      have e4 : I (sA i 8) (8 * d + q) = nI (A 4 (8 * d + q) - 1) := hln.2.1.trans (lD_p (by have := hc.1; omega))
      show Wq _ _ _ _ _ [.int (oI (if A 4 (8 * d + q) ≠ 0 ∧ (A 4 (8 * d + q) - 1) / 32 = to then some (A 4 (8 * d + q) - 1) else aRsP b A (8 * d + q) to))] _
      rw [if_pos hc]
      have g1 := cR_ln (i := i) (c := 9) (f := 5) (k := 8 * d + q) (x := 0) (v := nI 0) (Or.inr (Or.inr (Or.inl ⟨rfl, rfl, rfl⟩))) (cR_ln (i := i) (c := 8) (f := 4) (k := 8 * d + q) (x := 0) (v := lD 0) (Or.inr (Or.inl ⟨rfl, rfl, rfl⟩)) h)
      have fX : mS i I (mj_up (mj_up I (sA i 8) (8 * d + q) (lD 0)) (sA i 9) (8 * d + q) (nI 0)) := (mS_up (by decide)).tr (mS_up (by decide))
      have s3 : mj_up (mj_up A 4 (8 * d + q) 0) 5 (8 * d + q) 0 3 (8 * d + q) = A 3 (8 * d + q) := by rw [mj_up_ne (by decide), mj_up_ne (by decide)]
      have hcar := rs_X5_carry (w := w) (l := l) (J := J) (R := R) (id := 8 * d + q) (to := A 4 (8 * d + q) - 1) hi hS hB (cB_S fX hb) hk g1 (aOK_noOld hA) e8 (by rw [ed]; exact hd) (by rw [s3]; exact h3) (by rw [s3]; exact p3) pp4.1 pp4.2
      have s2 : mj_up (mj_up A 4 (8 * d + q) 0) 5 (8 * d + q) 0 2 (A 3 (8 * d + q) - 1) = A 2 (A 3 (8 * d + q) - 1) := by rw [mj_up_ne (by decide), mj_up_ne (by decide)]
      rw [s3, s2, ed, show mj_up (mj_up A 4 (8 * d + q) 0) 5 (8 * d + q) 0 = aNoOld A (8 * d + q) from rfl, noOld_leaves] at hcar
      refine q_ist_2 (pc' := 13) dX5_bringQueueAway_12 rfl (by decide) rfl (q_iload_n (pc' := 14) dX5_bringQueueAway_13 rfl rfl (q_aload_n (pc' := 15) dX5_bringQueueAway_14 rfl rfl (q_getR (pc' := 18) dX5_bringQueueAway_15 rfl fr_RX5_22 (okS hi hz (by decide) rfl) rfl (wS_5_6 hS) (sA_lt hi (by decide)) (q_iload_n (pc' := 19) dX5_bringQueueAway_18 rfl rfl (q_ialde (pc' := 20) (8 * d + q) dX5_bringQueueAway_19 rfl (by first | exact ⟨by omega, rfl⟩ | exact okaS hi hz (by decide) rfl | assumption) (by (first | (simp only [nI_add, pk_mul]; done) | (simp only [nI_add, pk_mul]; exact nI_e (by omega)) | exact nI_e (by omega))) (by omega) e4 (q_icmp_ne (pc' := 23) (pt := 37) dX5_bringQueueAway_20 rfl rfl (fun h9 => absurd (rfl) h9) (fun _ => (q_aload_n (pc' := 24) dX5_bringQueueAway_23 rfl rfl (q_getR (pc' := 27) dX5_bringQueueAway_24 rfl fr_RX5_22 (okS hi hz (by decide) rfl) rfl (wS_5_6 hS) (sA_lt hi (by decide)) (q_iload_n (pc' := 28) dX5_bringQueueAway_27 rfl rfl (q_iconst (pc' := 29) _ dX5_bringQueueAway_28 rfl kk_iconst_m1 (q_iast (pc' := 30) (8 * d + q) dX5_bringQueueAway_29 rfl (by first | exact ⟨by omega, rfl⟩ | exact okaS hi hz (by decide) rfl | assumption) (by (first | (simp only [nI_add, pk_mul]; done) | (simp only [nI_add, pk_mul]; exact nI_e (by omega)) | exact nI_e (by omega))) (by omega) (q_aload_n (pc' := 31) dX5_bringQueueAway_30 rfl rfl (q_getR (pc' := 34) dX5_bringQueueAway_31 rfl fr_RX5_25 (okS hi hz (by decide) rfl) rfl (wS_5_7 hS) (sA_lt hi (by decide)) ?_))))))))))))))
      refine q_iload_n (pc' := 35) dX5_bringQueueAway_34 rfl rfl (q_iconst (pc' := 36) _ dX5_bringQueueAway_35 rfl kk_iconst_0 (q_zast (pc' := 37) (8 * d + q) dX5_bringQueueAway_36 rfl (by first | exact ⟨by omega, rfl⟩ | exact okaS hi hz (by decide) rfl | assumption) (by (first | (simp only [nI_add, pk_mul]; done) | (simp only [nI_add, pk_mul]; exact nI_e (by omega)) | exact nI_e (by omega))) (by omega) (by first | exact Or.inl rfl | exact Or.inr rfl | exact bI_01 _) ?_))
      refine q_iload_n (pc' := 38) dX5_bringQueueAway_37 rfl rfl (q_iconst (pc' := 39) _ dX5_bringQueueAway_38 rfl kk_iconst_m1 (q_icmp_eq (pc' := 42) (pt := 49) dX5_bringQueueAway_39 rfl rfl (fun h9 => absurd h9 (nI_m1 (by omega))) (fun _ => (q_aload_n (pc' := 43) dX5_bringQueueAway_42 rfl rfl (q_iload_n (pc' := 44) dX5_bringQueueAway_43 rfl rfl (q_iload_n (pc' := 45) dX5_bringQueueAway_44 rfl rfl (q_sVv (pc' := 48) dX5_bringQueueAway_45 rfl ml_RX5_239 yv_X5_carry (by decide) (hcar) (okS hi hz (by decide) rfl) rfl rfl (Nat.le_of_ble_eq_true rfl) (Nat.le_refl _) (fun I2 ⟨h2, f2⟩ => ?_))))))))
      refine q_vret dX5_bringQueueAway_48 rfl (hQ2 I2 h2 (fX.tr f2))
    · obtain ⟨v, hv⟩ := hQk to hl hc
      have er : aResv b (aLeaves b A (8 * d + q) (A 3 (8 * d + q) - 1)) (8 * d + q) to = aResv b A (8 * d + q) to := resv_off (fun v hv => ⟨(leaves_0 (hne to v hton hv)).1, (leaves_0 (hne to v hton hv)).2.1⟩) h32
      rw [er] at hv
      have hrs := resv_some hv
      have hQ2 : ∀ I', cR I' i b (aQend (aLeaves b A (8 * d + q) (A 3 (8 * d + q) - 1)) d (8 * d + q) (32 * to + v) (A 2 (A 3 (8 * d + q) - 1))) → mS i I I' → Q none (472, I', J, R) := fun I' g f => hQ _ _ _ _ ⟨rfl, ⟨rfl, rfl⟩, (by show cR I' i b (if A 4 (8 * d + q) ≠ 0 ∧ (A 4 (8 * d + q) - 1) / 32 = to then _ else _); rw [if_neg hc, er, hv]; exact g), f⟩
      have ers : aRsP b A (8 * d + q) to = some (32 * to + v) := by unfold aRsP; rw [hv]; rfl
      show Wq _ _ _ _ _ [.int (oI (if A 4 (8 * d + q) ≠ 0 ∧ (A 4 (8 * d + q) - 1) / 32 = to then some (A 4 (8 * d + q) - 1) else aRsP b A (8 * d + q) to))] _
      rw [if_neg hc, ers]
      have hno : ¬ nI (32 * to + v) = lD (A 4 (8 * d + q)) := by
        intro z
        by_cases c4 : A 4 (8 * d + q) = 0
        · rw [c4] at z; exact nI_m1 (by omega) z
        · rw [lD_p (by omega)] at z
          have := (nI_eq (by omega) (by omega)).mp z
          exact hc ⟨c4, by omega⟩
      have hcar := rs_X5_carry (w := w) (l := l) (J := J) (R := R) (id := 8 * d + q) (to := 32 * to + v) hi hS hB hb hk h hA e8 (by rw [ed]; exact hd) h3 p3 (by omega) (by rw [show (32 * to + v) % 32 = v by omega]; exact hrs.1)
      rw [ed] at hcar
      refine q_ist_2 (pc' := 13) dX5_bringQueueAway_12 rfl (by decide) rfl (q_iload_n (pc' := 14) dX5_bringQueueAway_13 rfl rfl (q_aload_n (pc' := 15) dX5_bringQueueAway_14 rfl rfl (q_getR (pc' := 18) dX5_bringQueueAway_15 rfl fr_RX5_22 (okS hi hz (by decide) rfl) rfl (wS_5_6 hS) (sA_lt hi (by decide)) (q_iload_n (pc' := 19) dX5_bringQueueAway_18 rfl rfl (q_ialde (pc' := 20) (8 * d + q) dX5_bringQueueAway_19 rfl (by first | exact ⟨by omega, rfl⟩ | exact okaS hi hz (by decide) rfl | assumption) (by (first | (simp only [nI_add, pk_mul]; done) | (simp only [nI_add, pk_mul]; exact nI_e (by omega)) | exact nI_e (by omega))) (by omega) hln.2.1 (q_icmp_ne (pc' := 23) (pt := 37) dX5_bringQueueAway_20 rfl rfl (fun _ => ?_) (fun h9 => absurd h9 (hno))))))))
      refine q_iload_n (pc' := 38) dX5_bringQueueAway_37 rfl rfl (q_iconst (pc' := 39) _ dX5_bringQueueAway_38 rfl kk_iconst_m1 (q_icmp_eq (pc' := 42) (pt := 49) dX5_bringQueueAway_39 rfl rfl (fun h9 => absurd h9 (nI_m1 (by omega))) (fun _ => (q_aload_n (pc' := 43) dX5_bringQueueAway_42 rfl rfl (q_iload_n (pc' := 44) dX5_bringQueueAway_43 rfl rfl (q_iload_n (pc' := 45) dX5_bringQueueAway_44 rfl rfl (q_sVv (pc' := 48) dX5_bringQueueAway_45 rfl ml_RX5_239 yv_X5_carry (by decide) (hcar) (okS hi hz (by decide) rfl) rfl rfl (Nat.le_of_ble_eq_true rfl) (Nat.le_refl _) (fun I2 ⟨h2, f2⟩ => ?_))))))))
      refine q_vret dX5_bringQueueAway_48 rfl (hQ2 I2 h2 f2)
end ST12
