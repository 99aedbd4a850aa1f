/-! ===== the class: a BOARD read, VECTORS, what is kept and what is off ===== -/
section BT3
variable {w : mj_Wd} {l : Launch} {I : mj_M} {J : mj_J} {R : mj_R} {T : Nat → Nat} {sz : Nat} {D : St}
theorem rt_X1_readVectors {j : Nat} (hV : mj_wV R) (hkw : cKw J) (h800 : sz ≤ 800) (h : cRd I J T sz j) (h5 : kSq T sz j 5 = 1) (hD : cDr I J D) (hf : I 10 16 = nI 0 ∧ I 10 17 = -1) : RtI w l yX1_readVectors dd_X1_readVectors [.ref 16] (472, I, J, R) (fun r I' J' R' => r = bI (kSg T sz (kNi T sz (kL2 T sz (kSq T sz j) (D 0 7 == 1) (D 0 6 == 1)) (nI 8) (nI 32)) 8 == 0) ∧ (∃ j', cGo I' J' T sz j' (kSg T sz (kNi T sz (kL2 T sz (kSq T sz j) (D 0 7 == 1) (D 0 6 == 1)) (nI 8) (nI 32)))) ∧ (kSg T sz (kNi T sz (kL2 T sz (kSq T sz j) (D 0 7 == 1) (D 0 6 == 1)) (nI 8) (nI 32)) 8 = 0 → cDr I' J' (mj_up (mj_up D 0 6 1) 0 1 (if kL2 T sz (kSq T sz j) (D 0 7 == 1) (D 0 6 == 1) 8 = 0 then kL2 T sz (kSq T sz j) (D 0 7 == 1) (D 0 6 == 1) 6 else 0))) ∧ mBt I J I' J' ∧ R' = R) := by
  refine rt_intro2 (L := [some (.ref 16)]) ⟨by decide, rfl, (fun h => by cases h)⟩ (Nat.le_of_ble_eq_true rfl) rfl (fun Y Q hQ => ?_)
  have hrs := rt_X1_readSize (w := w) (l := l) (j := j) (lo := nI 8) (hi := nI 32) (y := (D 0 6 == 1)) hV hkw h800 h h5 hD.2.1.2.2 hf
  unfold kNi at hQ
  generalize kL2 T sz (kSq T sz j) (D 0 7 == 1) (D 0 6 == 1) = K2 at hrs hQ
  refine q_aload_n (pc' := 1) dX1_readVectors_0 rfl rfl (q_aload_n (pc' := 2) dX1_readVectors_1 rfl rfl (q_getIe (pc' := 5) dX1_readVectors_2 rfl fr_RX1_29 ⟨by omega, rfl⟩ rfl hD.2.1.2.1 (q_bipush (pc' := 7) _ dX1_readVectors_5 rfl kk_bipush_8 (q_bipush (pc' := 9) _ dX1_readVectors_7 rfl kk_bipush_32 (q_tVi (pc' := 12) dX1_readVectors_9 rfl ml_RX1_66 yv_X1_readSize (by decide) hrs ⟨by omega, rfl⟩ rfl rfl (Nat.le_of_ble_eq_true rfl) (Nat.le_refl _) (fun x1 I1 J1 R1 ⟨ex, c1, m1, hR1⟩ => ?_))))))
  have hR1 : R1 = R := hR1
  rw [ex, hR1]
  by_cases hg : kN K2 (nI 8) (nI 32) 8 = 0
  · rcases c1 with ⟨-, eK, hr1, hf1⟩ | ⟨q, -⟩
    · have h82 := (kSq_89 (T := T) (sz := sz) (j + 1)).1
      have eK2 : K2 = kSq T sz (j + 1) ∧ kSq T sz (j + 1) 5 = 2 := by
        by_cases k8 : K2 8 = 0
        · unfold kN at eK hg
          rw [if_pos k8] at eK hg
          by_cases k5 : K2 5 = 2
          · rw [if_pos k5] at eK hg
            by_cases kr : nI 8 ≤ nI (K2 6) ∧ nI (K2 6) ≤ nI 32
            · rw [if_pos kr] at eK
              exact ⟨eK, by rw [← eK]; exact k5⟩
            · rw [if_neg kr, kW_8 k8, if_neg (by omega)] at hg
              cases hg
          · rw [if_neg k5, kW_8 k8] at hg
            split at hg <;> cases hg
        · rw [kN_bad k8] at hg
          exact absurd hg k8
      obtain ⟨eA, e2⟩ := eK2
      have hc1 : cCur I1 J1 T (kSq T sz (j + 1)) := by obtain ⟨m, _, _, hc, _⟩ := hr1; exact hc
      have e12 : mj_up I1 16 3 (nI 1) 10 12 = nI (kSq T sz (j + 1) 6) := by rw [mj_up_ne (by decide), hc1.2.2.2.1, if_pos e2]
      rw [if_pos hg, eK, eA, if_pos h82] at hQ
      have hD1 := cDr_ad m1 hD
      have hr2 : cRd (mj_up (mj_up I1 16 3 (nI 1)) 17 1 (nI (kSq T sz (j + 1) 6))) J1 T sz (j + 1) := cRd_o (fun a _ h2 => by rw [up_fI (by omega), up_fI (by omega)]) hr1
      have hkw1 : cKw J1 := fun q hq => (m1.2.2 11 q (fun q2 => absurd q2.1 (by decide))).trans (hkw q hq)
      have hD2 : cDr (mj_up (mj_up I1 16 3 (nI 1)) 17 1 (nI (kSq T sz (j + 1) 6))) J1 (mj_up (mj_up D 0 6 1) 0 1 (kSq T sz (j + 1) 6)) := by
        obtain ⟨⟨d1, d2, d3, d4, d5⟩, ⟨t1, t2, t3⟩, dd⟩ := hD1
        exact ⟨⟨d1, rfl, d3, d4, d5⟩, ⟨t1, rfl, t3⟩, dd⟩
      have hB2 : mBt I J (mj_up (mj_up I1 16 3 (nI 1)) 17 1 (nI (kSq T sz (j + 1) 6))) J1 := ⟨fun a h1 h2 => by rw [up_fI (by omega), up_fI (by omega)]; exact m1.1 a h1, fun f hf2 => by rw [mj_up_ne (by decide), mj_up_ne (by decide)]; exact m1.2.1 f (Or.inl hf2), fun a f _ h2 => m1.2.2 a f h2⟩
      refine q_ifb_ne (pc' := 15) (pt := 17) dX1_readVectors_12 rfl rfl (fun _ => (q_aload_n (pc' := 18) dX1_readVectors_17 rfl rfl (q_iconst (pc' := 19) _ dX1_readVectors_18 rfl kk_iconst_1 (q_putZ (pc' := 22) dX1_readVectors_19 rfl fl_RX1_29 ⟨by omega, rfl⟩ rfl (by first | exact Or.inl rfl | exact Or.inr rfl | exact bI_01 _) (q_aload_n (pc' := 23) dX1_readVectors_22 rfl rfl (q_getR (pc' := 26) dX1_readVectors_23 rfl fr_RX1_12 ⟨by omega, rfl⟩ rfl (wV_1_1 hV) (by decide) (q_aload_n (pc' := 27) dX1_readVectors_26 rfl rfl (q_getR (pc' := 30) dX1_readVectors_27 rfl fr_RX1_18 ⟨by omega, rfl⟩ rfl (wV_1_0 hV) (by decide) (q_getIe (pc' := 33) dX1_readVectors_30 rfl fr_RX1_70 ⟨by omega, rfl⟩ rfl e12 (q_putI (pc' := 36) dX1_readVectors_33 rfl fl_RX1_82 (by first | assumption | exact ⟨by omega, rfl⟩) rfl (q_aload_n (pc' := 37) dX1_readVectors_36 rfl rfl (q_getR (pc' := 40) dX1_readVectors_37 rfl fr_RX1_18 ⟨by omega, rfl⟩ rfl (wV_1_0 hV) (by decide) (q_tVv (pc' := 43) dX1_readVectors_40 rfl ml_RX1_76 yv_X9_advance (by decide) (rt_X9_adv hV hkw1 h800 hr2 (by rw [e2]; decide)) ⟨by omega, rfl⟩ rfl rfl (Nat.le_of_ble_eq_true rfl) (Nat.le_refl _) (fun I2 J2 R2 ⟨c2, f1, f2, f3, hR2⟩ => ?_)))))))))))))) (fun h9 => Bool.noConfusion (Eq.trans (Eq.symm (beq_iff_eq.mpr hg)) h9))
      have hR2 : R2 = R := hR2
      rw [hR2]
      have m2 : mAd (mj_up (mj_up I1 16 3 (nI 1)) 17 1 (nI (kSq T sz (j + 1) 6))) J1 I2 J2 := ⟨f1, fun f hf2 => f2 f (by omega), f3⟩
      have hkw2 : cKw J2 := fun q hq => (f3 11 q (fun q2 => absurd q2.1 (by decide))).trans (hkw1 q hq)
      have hf2 : I2 10 16 = nI 0 ∧ I2 10 17 = -1 := ⟨by rw [f2 16 (by decide), mj_up_ne (by decide), mj_up_ne (by decide)]; exact hf1.1, by rw [f2 17 (by decide), mj_up_ne (by decide), mj_up_ne (by decide)]; exact hf1.2⟩
      have eT : tkK T sz (kSq T sz (j + 1)) = kSq T sz (j + 2) := rfl
      rw [eT, kSg_8] at hQ
      refine q_aload_n (pc' := 44) dX1_readVectors_43 rfl rfl (q_getR (pc' := 47) dX1_readVectors_44 rfl fr_RX1_18 ⟨by omega, rfl⟩ rfl (wV_1_0 hV) (by decide) (q_tVi (pc' := 50) dX1_readVectors_47 rfl ml_RX1_79 yv_X9_takeSign (by decide) (rt_X9_takeSign hV hkw2 h800 c2 hf2) ⟨by omega, rfl⟩ rfl rfl (Nat.le_of_ble_eq_true rfl) (Nat.le_refl _) (fun x3 I3 J3 R3 ⟨ex3, c3, m3, hR3⟩ => ?_)))
      rw [ex3, hR3]
      refine q_zret dX1_readVectors_50 rfl (bI_01 _) (hQ _ _ _ _ ⟨_, rfl, rfl, ⟨j + 3, ?_⟩, fun _ => cDr_ad m3 (cDr_ad m2 hD2), mBt_ad (mBt_ad hB2 m2) m3, rfl⟩)
      rw [kSg_sq]
      exact c3
    · exact absurd hg q
  · rw [if_neg hg, kSg_bad hg, beq_eq_false_iff_ne.mpr hg] at hQ
    refine q_ifb_ne (pc' := 15) (pt := 17) dX1_readVectors_12 rfl rfl (fun h9 => Bool.noConfusion (Eq.trans (Eq.symm (beq_eq_false_iff_ne.mpr hg)) h9)) (fun _ => (q_iconst (pc' := 16) _ dX1_readVectors_15 rfl kk_iconst_0 ?_))
    exact q_zret dX1_readVectors_16 rfl (Or.inl rfl) (hQ _ _ _ _ ⟨_, rfl, rfl, ⟨j + 1, c1⟩, fun q => absurd q hg, mBt_ad mBt_rf m1, rfl⟩)
theorem rt_X1_readKept {j : Nat} (hV : mj_wV R) (hkw : cKw J) (h800 : sz ≤ 800) (h : cRd I J T sz j) (h5 : kSq T sz j 5 = 1) (hD : cDr I J D) (hf : I 10 16 = nI 0 ∧ I 10 17 = -1) (hn : 1 ≤ D 0 1 ∧ D 0 1 ≤ 32) (hs : D 0 3 < 2 ^ 32) : RtI w l yX1_readKept dd_X1_readKept [.ref 16] (472, I, J, R) (fun r I' J' R' => r = bI (kSg T sz (kSetOf T sz (D 0 1) (D 0 3) (tkK T sz (kSq T sz j))).2 8 == 0) ∧ (∃ j', cGo I' J' T sz j' (kSg T sz (kSetOf T sz (D 0 1) (D 0 3) (tkK T sz (kSq T sz j))).2)) ∧ (kSg T sz (kSetOf T sz (D 0 1) (D 0 3) (tkK T sz (kSq T sz j))).2 8 = 0 → cDr I' J' (mj_up (mj_up D 0 7 1) 0 3 (kSetOf T sz (D 0 1) (D 0 3) (tkK T sz (kSq T sz j))).1)) ∧ mBt I J I' J' ∧ R' = R) := by
  have hr0 : cRd (mj_up I 16 4 (nI 1)) J T sz j := cRd_o (fun a _ h2 => by rw [up_fI (by omega)]) h
  have o17 : mj_ok 472 17 0 := ⟨by omega, rfl⟩
  refine rt_intro2 (L := [some (.ref 16)]) ⟨by decide, rfl, (fun h => by cases h)⟩ (Nat.le_of_ble_eq_true rfl) rfl (fun Y Q hQ => ?_)
  have h81 := (kSq_89 (T := T) (sz := sz) (j + 1)).1
  have eS : kSetOf T sz (D 0 1) (D 0 3) (tkK T sz (kSq T sz j)) = kSet T sz (D 0 1) 802 (D 0 3) (kSq T sz (j + 1)) := if_pos h81
  rw [eS] at hQ
  refine q_aload_n (pc' := 1) dX1_readKept_0 rfl rfl (q_iconst (pc' := 2) _ dX1_readKept_1 rfl kk_iconst_1 (q_putZ (pc' := 5) dX1_readKept_2 rfl fl_RX1_32 ⟨by omega, rfl⟩ rfl (by first | exact Or.inl rfl | exact Or.inr rfl | exact bI_01 _) (q_aload_n (pc' := 6) dX1_readKept_5 rfl rfl (q_getR (pc' := 9) dX1_readKept_6 rfl fr_RX1_18 ⟨by omega, rfl⟩ rfl (wV_1_0 hV) (by decide) (q_tVv (pc' := 12) dX1_readKept_9 rfl ml_RX1_76 yv_X9_advance (by decide) (rt_X9_adv hV hkw h800 hr0 (by rw [h5]; decide)) ⟨by omega, rfl⟩ rfl rfl (Nat.le_of_ble_eq_true rfl) (Nat.le_refl _) (fun I1 J1 R1 ⟨c1, f1, f2, f3, hR1⟩ => ?_))))))
  have hR1 : R1 = R := hR1
  rw [hR1]
  have m1 : mAd (mj_up I 16 4 (nI 1)) J I1 J1 := ⟨f1, fun f hf2 => f2 f (by omega), f3⟩
  have hkw1 : cKw J1 := fun q hq => (f3 11 q (fun q2 => absurd q2.1 (by decide))).trans (hkw q hq)
  have hf1 : I1 10 16 = nI 0 ∧ I1 10 17 = -1 := ⟨by rw [f2 16 (by decide), mj_up_ne (by decide)]; exact hf.1, by rw [f2 17 (by decide), mj_up_ne (by decide)]; exact hf.2⟩
  have hD0 : cDr (mj_up I 16 4 (nI 1)) J (mj_up D 0 7 1) := by
    obtain ⟨dn, ⟨t1, t2, t3⟩, dd⟩ := hD
    exact ⟨dn, ⟨t1, t2, rfl⟩, dd⟩
  have hD1 := cDr_ad m1 hD0
  have e2 : I1 17 2 = nI (D 0 3) := hD1.1.2.2.1
  have e1 : I1 17 1 = nI (D 0 1) := hD1.1.2.1
  have hts := rt_X9_takeSet (w := w) (l := l) (n := D 0 1) (s := D 0 3) hV hkw1 h800 c1 hn hs hf1
  generalize kSet T sz (D 0 1) 802 (D 0 3) (kSq T sz (j + 1)) = r at hts hQ
  refine q_aload_n (pc' := 13) dX1_readKept_12 rfl rfl (q_getR (pc' := 16) dX1_readKept_13 rfl fr_RX1_18 ⟨by omega, rfl⟩ rfl (wV_1_0 hV) (by decide) (q_aload_n (pc' := 17) dX1_readKept_16 rfl rfl (q_getR (pc' := 20) dX1_readKept_17 rfl fr_RX1_12 ⟨by omega, rfl⟩ rfl (wV_1_1 hV) (by decide) (q_getIe (pc' := 23) dX1_readKept_20 rfl fr_RX1_93 (by first | assumption | exact ⟨by omega, rfl⟩) rfl e2 (q_aload_n (pc' := 24) dX1_readKept_23 rfl rfl (q_getR (pc' := 27) dX1_readKept_24 rfl fr_RX1_12 ⟨by omega, rfl⟩ rfl (wV_1_1 hV) (by decide) (q_getIe (pc' := 30) dX1_readKept_27 rfl fr_RX1_82 (by first | assumption | exact ⟨by omega, rfl⟩) rfl e1 (q_tVi (pc' := 33) dX1_readKept_30 rfl ml_RX1_96 yv_X9_takeSet (by decide) hts ⟨by omega, rfl⟩ rfl rfl (Nat.le_of_ble_eq_true rfl) (Nat.le_refl _) (fun x2 I2 J2 R2 ⟨ex, ⟨j2, c2⟩, b2, m2, hR2⟩ => ?_)))))))))
  have hR2 : R2 = R := hR2
  rw [ex, hR2]
  have hB0 : mBt I J (mj_up I 16 4 (nI 1)) J := ⟨fun a h1 h2 => up_fI (by omega), fun f _ => mj_up_ne (by decide), fun _ _ _ _ => rfl⟩
  have hB1 := mBt_ad hB0 m1
  have hB2 : mBt I J I2 J2 := ⟨fun a h1 h2 => (m2.1 a h1).trans (hB1.1 a h1 h2), fun f hf2 => (m2.2.1 f hf2).trans (hB1.2.1 f hf2), fun a f h1 h2 => (m2.2.2 a f h2).trans (hB1.2.2 a f h1 h2)⟩
  have hD2 : cDr I2 J2 (mj_up D 0 7 1) := cDr_F (fun a h1 _ => m2.1 a (by omega)) (fun d => m2.2.2 18 d (fun q => absurd q.1 (by decide))) hD1
  by_cases hg : r.2 8 = 0
  · rcases c2 with ⟨-, eK, hr2, hf2⟩ | ⟨q, -⟩
    · have e15 : I2 10 15 = nI r.1 := b2 hg
      have hkw2 : cKw J2 := fun q hq => (m2.2.2 11 q (fun q2 => absurd q2.1 (by decide))).trans (hkw1 q hq)
      have hr3 : cRd (mj_up I2 17 2 (nI r.1)) J2 T sz j2 := cRd_o (fun a _ h2 => by rw [up_fI (by omega)]) hr2
      have hf3 : mj_up I2 17 2 (nI r.1) 10 16 = nI 0 ∧ mj_up I2 17 2 (nI r.1) 10 17 = -1 := ⟨by rw [mj_up_ne (by decide)]; exact hf2.1, by rw [mj_up_ne (by decide)]; exact hf2.2⟩
      have hD3 : cDr (mj_up I2 17 2 (nI r.1)) J2 (mj_up (mj_up D 0 7 1) 0 3 r.1) := by
        obtain ⟨⟨d1, d2, d3, d4, d5⟩, dt, dd⟩ := hD2
        exact ⟨⟨d1, d2, rfl, d4, d5⟩, dt, dd⟩
      have hB3 : mBt I J (mj_up I2 17 2 (nI r.1)) J2 := ⟨fun a h1 h2 => by rw [up_fI (by omega)]; exact hB2.1 a h1 h2, fun f hf2 => by rw [mj_up_ne (by decide)]; exact hB2.2.1 f hf2, hB2.2.2⟩
      rw [eK, kSg_8] at hQ
      refine q_ifb_ne (pc' := 36) (pt := 38) dX1_readKept_33 rfl rfl (fun _ => (q_aload_n (pc' := 39) dX1_readKept_38 rfl rfl (q_getR (pc' := 42) dX1_readKept_39 rfl fr_RX1_12 ⟨by omega, rfl⟩ rfl (wV_1_1 hV) (by decide) (q_aload_n (pc' := 43) dX1_readKept_42 rfl rfl (q_getR (pc' := 46) dX1_readKept_43 rfl fr_RX1_18 ⟨by omega, rfl⟩ rfl (wV_1_0 hV) (by decide) (q_getIe (pc' := 49) dX1_readKept_46 rfl fr_RX1_99 ⟨by omega, rfl⟩ rfl e15 (q_putI (pc' := 52) dX1_readKept_49 rfl fl_RX1_93 (by first | assumption | exact ⟨by omega, rfl⟩) rfl (q_aload_n (pc' := 53) dX1_readKept_52 rfl rfl (q_getR (pc' := 56) dX1_readKept_53 rfl fr_RX1_18 ⟨by omega, rfl⟩ rfl (wV_1_0 hV) (by decide) (q_tVi (pc' := 59) dX1_readKept_56 rfl ml_RX1_79 yv_X9_takeSign (by decide) (rt_X9_takeSign hV hkw2 h800 hr3 hf3) ⟨by omega, rfl⟩ rfl rfl (Nat.le_of_ble_eq_true rfl) (Nat.le_refl _) (fun x3 I3 J3 R3 ⟨ex3, c3, m3, hR3⟩ => ?_))))))))))) (fun h9 => Bool.noConfusion (Eq.trans (Eq.symm (beq_iff_eq.mpr hg)) h9))
      rw [ex3, hR3]
      refine q_zret dX1_readKept_59 rfl (bI_01 _) (hQ _ _ _ _ ⟨_, rfl, rfl, ⟨j2 + 1, ?_⟩, fun _ => cDr_ad m3 hD3, mBt_ad hB3 m3, rfl⟩)
      rw [kSg_sq]
      exact c3
    · exact absurd hg q
  · rw [kSg_bad hg, beq_eq_false_iff_ne.mpr hg] at hQ
    refine q_ifb_ne (pc' := 36) (pt := 38) dX1_readKept_33 rfl rfl (fun h9 => Bool.noConfusion (Eq.trans (Eq.symm (beq_eq_false_iff_ne.mpr hg)) h9)) (fun _ => (q_iconst (pc' := 37) _ dX1_readKept_36 rfl kk_iconst_0 ?_))
    exact q_zret dX1_readKept_37 rfl (Or.inl rfl) (hQ _ _ _ _ ⟨_, rfl, rfl, ⟨j2, c2⟩, fun q => absurd q hg, hB2, rfl⟩)
theorem rt_X1_readOff {j : Nat} (hV : mj_wV R) (hkw : cKw J) (h800 : sz ≤ 800) (h : cRd I J T sz j) (h5 : kSq T sz j 5 = 1) (hD : cDr I J D) (hf : I 10 16 = nI 0 ∧ I 10 17 = -1) (hn : 1 ≤ D 0 0 ∧ D 0 0 ≤ 32) (hs : D 0 4 < 2 ^ 32) : RtI w l yX1_readOff dd_X1_readOff [.ref 16] (472, I, J, R) (fun r I' J' R' => r = bI (kSg T sz (kSetOf T sz (D 0 0) (D 0 4) (tkK T sz (kSq T sz j))).2 8 == 0) ∧ (∃ j', cGo I' J' T sz j' (kSg T sz (kSetOf T sz (D 0 0) (D 0 4) (tkK T sz (kSq T sz j))).2)) ∧ (kSg T sz (kSetOf T sz (D 0 0) (D 0 4) (tkK T sz (kSq T sz j))).2 8 = 0 → cDr I' J' (mj_up (mj_up D 0 7 1) 0 4 (kSetOf T sz (D 0 0) (D 0 4) (tkK T sz (kSq T sz j))).1)) ∧ mBt I J I' J' ∧ R' = R) := by
  have hr0 : cRd (mj_up I 16 4 (nI 1)) J T sz j := cRd_o (fun a _ h2 => by rw [up_fI (by omega)]) h
  have o17 : mj_ok 472 17 0 := ⟨by omega, rfl⟩
  refine rt_intro2 (L := [some (.ref 16)]) ⟨by decide, rfl, (fun h => by cases h)⟩ (Nat.le_of_ble_eq_true rfl) rfl (fun Y Q hQ => ?_)
  have h81 := (kSq_89 (T := T) (sz := sz) (j + 1)).1
  have eS : kSetOf T sz (D 0 0) (D 0 4) (tkK T sz (kSq T sz j)) = kSet T sz (D 0 0) 802 (D 0 4) (kSq T sz (j + 1)) := if_pos h81
  rw [eS] at hQ
  refine q_aload_n (pc' := 1) dX1_readOff_0 rfl rfl (q_iconst (pc' := 2) _ dX1_readOff_1 rfl kk_iconst_1 (q_putZ (pc' := 5) dX1_readOff_2 rfl fl_RX1_32 ⟨by omega, rfl⟩ rfl (by first | exact Or.inl rfl | exact Or.inr rfl | exact bI_01 _) (q_aload_n (pc' := 6) dX1_readOff_5 rfl rfl (q_getR (pc' := 9) dX1_readOff_6 rfl fr_RX1_18 ⟨by omega, rfl⟩ rfl (wV_1_0 hV) (by decide) (q_tVv (pc' := 12) dX1_readOff_9 rfl ml_RX1_76 yv_X9_advance (by decide) (rt_X9_adv hV hkw h800 hr0 (by rw [h5]; decide)) ⟨by omega, rfl⟩ rfl rfl (Nat.le_of_ble_eq_true rfl) (Nat.le_refl _) (fun I1 J1 R1 ⟨c1, f1, f2, f3, hR1⟩ => ?_))))))
  have hR1 : R1 = R := hR1
  rw [hR1]
  have m1 : mAd (mj_up I 16 4 (nI 1)) J I1 J1 := ⟨f1, fun f hf2 => f2 f (by omega), f3⟩
  have hkw1 : cKw J1 := fun q hq => (f3 11 q (fun q2 => absurd q2.1 (by decide))).trans (hkw q hq)
  have hf1 : I1 10 16 = nI 0 ∧ I1 10 17 = -1 := ⟨by rw [f2 16 (by decide), mj_up_ne (by decide)]; exact hf.1, by rw [f2 17 (by decide), mj_up_ne (by decide)]; exact hf.2⟩
  have hD0 : cDr (mj_up I 16 4 (nI 1)) J (mj_up D 0 7 1) := by
    obtain ⟨dn, ⟨t1, t2, t3⟩, dd⟩ := hD
    exact ⟨dn, ⟨t1, t2, rfl⟩, dd⟩
  have hD1 := cDr_ad m1 hD0
  have e2 : I1 17 3 = nI (D 0 4) := hD1.1.2.2.2.1
  have e1 : I1 17 0 = nI (D 0 0) := hD1.1.1
  have hts := rt_X9_takeSet (w := w) (l := l) (n := D 0 0) (s := D 0 4) hV hkw1 h800 c1 hn hs hf1
  generalize kSet T sz (D 0 0) 802 (D 0 4) (kSq T sz (j + 1)) = r at hts hQ
  refine q_aload_n (pc' := 13) dX1_readOff_12 rfl rfl (q_getR (pc' := 16) dX1_readOff_13 rfl fr_RX1_18 ⟨by omega, rfl⟩ rfl (wV_1_0 hV) (by decide) (q_aload_n (pc' := 17) dX1_readOff_16 rfl rfl (q_getR (pc' := 20) dX1_readOff_17 rfl fr_RX1_12 ⟨by omega, rfl⟩ rfl (wV_1_1 hV) (by decide) (q_getIe (pc' := 23) dX1_readOff_20 rfl fr_RX1_102 (by first | assumption | exact ⟨by omega, rfl⟩) rfl e2 (q_aload_n (pc' := 24) dX1_readOff_23 rfl rfl (q_getR (pc' := 27) dX1_readOff_24 rfl fr_RX1_12 ⟨by omega, rfl⟩ rfl (wV_1_1 hV) (by decide) (q_getIe (pc' := 30) dX1_readOff_27 rfl fr_RX1_73 (by first | assumption | exact ⟨by omega, rfl⟩) rfl e1 (q_tVi (pc' := 33) dX1_readOff_30 rfl ml_RX1_96 yv_X9_takeSet (by decide) hts ⟨by omega, rfl⟩ rfl rfl (Nat.le_of_ble_eq_true rfl) (Nat.le_refl _) (fun x2 I2 J2 R2 ⟨ex, ⟨j2, c2⟩, b2, m2, hR2⟩ => ?_)))))))))
  have hR2 : R2 = R := hR2
  rw [ex, hR2]
  have hB0 : mBt I J (mj_up I 16 4 (nI 1)) J := ⟨fun a h1 h2 => up_fI (by omega), fun f _ => mj_up_ne (by decide), fun _ _ _ _ => rfl⟩
  have hB1 := mBt_ad hB0 m1
  have hB2 : mBt I J I2 J2 := ⟨fun a h1 h2 => (m2.1 a h1).trans (hB1.1 a h1 h2), fun f hf2 => (m2.2.1 f hf2).trans (hB1.2.1 f hf2), fun a f h1 h2 => (m2.2.2 a f h2).trans (hB1.2.2 a f h1 h2)⟩
  have hD2 : cDr I2 J2 (mj_up D 0 7 1) := cDr_F (fun a h1 _ => m2.1 a (by omega)) (fun d => m2.2.2 18 d (fun q => absurd q.1 (by decide))) hD1
  by_cases hg : r.2 8 = 0
  · rcases c2 with ⟨-, eK, hr2, hf2⟩ | ⟨q, -⟩
    · have e15 : I2 10 15 = nI r.1 := b2 hg
      have hkw2 : cKw J2 := fun q hq => (m2.2.2 11 q (fun q2 => absurd q2.1 (by decide))).trans (hkw1 q hq)
      have hr3 : cRd (mj_up I2 17 3 (nI r.1)) J2 T sz j2 := cRd_o (fun a _ h2 => by rw [up_fI (by omega)]) hr2
      have hf3 : mj_up I2 17 3 (nI r.1) 10 16 = nI 0 ∧ mj_up I2 17 3 (nI r.1) 10 17 = -1 := ⟨by rw [mj_up_ne (by decide)]; exact hf2.1, by rw [mj_up_ne (by decide)]; exact hf2.2⟩
      have hD3 : cDr (mj_up I2 17 3 (nI r.1)) J2 (mj_up (mj_up D 0 7 1) 0 4 r.1) := by
        obtain ⟨⟨d1, d2, d3, d4, d5⟩, dt, dd⟩ := hD2
        exact ⟨⟨d1, d2, d3, rfl, d5⟩, dt, dd⟩
      have hB3 : mBt I J (mj_up I2 17 3 (nI r.1)) J2 := ⟨fun a h1 h2 => by rw [up_fI (by omega)]; exact hB2.1 a h1 h2, fun f hf2 => by rw [mj_up_ne (by decide)]; exact hB2.2.1 f hf2, hB2.2.2⟩
      rw [eK, kSg_8] at hQ
      refine q_ifb_ne (pc' := 36) (pt := 38) dX1_readOff_33 rfl rfl (fun _ => (q_aload_n (pc' := 39) dX1_readOff_38 rfl rfl (q_getR (pc' := 42) dX1_readOff_39 rfl fr_RX1_12 ⟨by omega, rfl⟩ rfl (wV_1_1 hV) (by decide) (q_aload_n (pc' := 43) dX1_readOff_42 rfl rfl (q_getR (pc' := 46) dX1_readOff_43 rfl fr_RX1_18 ⟨by omega, rfl⟩ rfl (wV_1_0 hV) (by decide) (q_getIe (pc' := 49) dX1_readOff_46 rfl fr_RX1_99 ⟨by omega, rfl⟩ rfl e15 (q_putI (pc' := 52) dX1_readOff_49 rfl fl_RX1_102 (by first | assumption | exact ⟨by omega, rfl⟩) rfl (q_aload_n (pc' := 53) dX1_readOff_52 rfl rfl (q_getR (pc' := 56) dX1_readOff_53 rfl fr_RX1_18 ⟨by omega, rfl⟩ rfl (wV_1_0 hV) (by decide) (q_tVi (pc' := 59) dX1_readOff_56 rfl ml_RX1_79 yv_X9_takeSign (by decide) (rt_X9_takeSign hV hkw2 h800 hr3 hf3) ⟨by omega, rfl⟩ rfl rfl (Nat.le_of_ble_eq_true rfl) (Nat.le_refl _) (fun x3 I3 J3 R3 ⟨ex3, c3, m3, hR3⟩ => ?_))))))))))) (fun h9 => Bool.noConfusion (Eq.trans (Eq.symm (beq_iff_eq.mpr hg)) h9))
      rw [ex3, hR3]
      refine q_zret dX1_readOff_59 rfl (bI_01 _) (hQ _ _ _ _ ⟨_, rfl, rfl, ⟨j2 + 1, ?_⟩, fun _ => cDr_ad m3 hD3, mBt_ad hB3 m3, rfl⟩)
      rw [kSg_sq]
      exact c3
    · exact absurd hg q
  · rw [kSg_bad hg, beq_eq_false_iff_ne.mpr hg] at hQ
    refine q_ifb_ne (pc' := 36) (pt := 38) dX1_readOff_33 rfl rfl (fun h9 => Bool.noConfusion (Eq.trans (Eq.symm (beq_eq_false_iff_ne.mpr hg)) h9)) (fun _ => (q_iconst (pc' := 37) _ dX1_readOff_36 rfl kk_iconst_0 ?_))
    exact q_zret dX1_readOff_37 rfl (Or.inl rfl) (hQ _ _ _ _ ⟨_, rfl, rfl, ⟨j2, c2⟩, fun q => absurd q hg, hB2, rfl⟩)
end BT3
