/-! ===== the class: a BOARD read, a DEVICE ===== -/
theorem nm_of {n a : Nat} {J : mj_J} {D : St} (h7 : ∀ d, d < n → D 4 d ≤ 7) (h : ∀ d, d < n → ∃ f : Nat → Nat, ltr f 0 (D 4 d) ∧ D 5 d = wV f 0 (D 4 d) ∧ J a d = nJ (wP f 0 (D 4 d))) : ∃ nm : Nat → Nat, (∀ d, d < n → J a d = nJ (nm d) ∧ nm d < 2 ^ 63) ∧ ∀ d, d < n → ∀ (S : Nat → Nat) (c m : Nat), m ≤ 7 → ltr S c m → (nm d = wP S c m ↔ D 5 d = wV S c m) := by
  have h' : ∀ d, ∃ x : Nat, d < n → (J a d = nJ x ∧ x < 2 ^ 63) ∧ ∀ (S : Nat → Nat) (c m : Nat), m ≤ 7 → ltr S c m → (x = wP S c m ↔ D 5 d = wV S c m) := by
    intro d
    by_cases hd : d < n
    · obtain ⟨f, h1, h2, h3⟩ := h d hd
      refine ⟨wP f 0 (D 4 d), fun _ => ⟨⟨h3, ?_⟩, fun S c m hm hS => ?_⟩⟩
      · exact Nat.lt_trans (wP_lt (fun k hk => (h1 k hk).2)) (by decide)
      · rw [h2]
        exact wPV (h7 d hd) hm h1 hS
    · exact ⟨0, fun q => absurd q hd⟩
  obtain ⟨nm, hnm⟩ := Classical.axiomOfChoice h'
  exact ⟨nm, fun d hd => (hnm d hd).1, fun d hd => (hnm d hd).2⟩
theorem kNm_bad {K : Nat → Nat} (h8 : K 8 = 0) (h : kNm K 8 ≠ 0) : kNm K = kW K 2 := by
  unfold kNm at h ⊢
  by_cases hc : K 8 = 0 ∧ ¬ (K 5 = 1 ∧ K 7 ≤ 7 ∧ (ownW (K 12) || (ordN K).isSome) = false)
  · rw [if_pos hc]
  · rw [if_neg hc] at h
    exact absurd h8 h
theorem dvD_at {D : St} {o : Option Nat} {ln s lt nm : Nat} : (∀ j, j ≠ 2 → dvD D o ln s lt nm 0 j = D 0 j) ∧ dvD D o ln s lt nm 0 2 = D 0 2 + 1 ∧ ∀ d, dvD D o ln s lt nm 1 d = (if d = D 0 2 then o.getD 0 else D 1 d) ∧ dvD D o ln s lt nm 2 d = (if d = D 0 2 then ln else D 2 d) ∧ dvD D o ln s lt nm 3 d = (if d = D 0 2 then s else D 3 d) ∧ dvD D o ln s lt nm 4 d = (if d = D 0 2 then lt else D 4 d) ∧ dvD D o ln s lt nm 5 d = (if d = D 0 2 then nm else D 5 d) := by
  refine ⟨fun j hj => ?_, mj_up_eq, fun d => ?_⟩
  · unfold dvD
    rw [mj_up_ne2 hj, mj_up_ne (by decide), mj_up_ne (by decide), mj_up_ne (by decide), mj_up_ne (by decide), mj_up_ne (by decide)]
  · unfold dvD
    rw [mj_up_ne (show (1:Nat) ≠ 0 by decide), mj_up_ne (show (2:Nat) ≠ 0 by decide), mj_up_ne (show (3:Nat) ≠ 0 by decide), mj_up_ne (show (4:Nat) ≠ 0 by decide), mj_up_ne (show (5:Nat) ≠ 0 by decide)]
    rw [mj_up_ne (show (1:Nat) ≠ 5 by decide), mj_up_ne (show (2:Nat) ≠ 5 by decide), mj_up_ne (show (3:Nat) ≠ 5 by decide), mj_up_ne (show (4:Nat) ≠ 5 by decide)]
    rw [mj_up_ne (show (1:Nat) ≠ 4 by decide), mj_up_ne (show (2:Nat) ≠ 4 by decide), mj_up_ne (show (3:Nat) ≠ 4 by decide)]
    rw [mj_up_ne (show (1:Nat) ≠ 3 by decide), mj_up_ne (show (2:Nat) ≠ 3 by decide), mj_up_ne (show (1:Nat) ≠ 2 by decide)]
    by_cases e : d = D 0 2
    · rw [e, if_pos rfl, if_pos rfl, if_pos rfl, if_pos rfl, if_pos rfl]
      exact ⟨mj_up_eq, mj_up_eq, mj_up_eq, mj_up_eq, mj_up_eq⟩
    · rw [if_neg e, if_neg e, if_neg e, if_neg e, if_neg e]
      exact ⟨mj_up_ne2 e, mj_up_ne2 e, mj_up_ne2 e, mj_up_ne2 e, mj_up_ne2 e⟩
theorem cRd_F {I I' : mj_M} {J J' : mj_J} {T : Nat → Nat} {sz j : Nat} (f : ∀ a, 10 ≤ a → a < 16 → I' a = I a) (g : ∀ a, 10 ≤ a → a < 16 → J' a = J a) (h : cRd I J T sz j) : cRd I' J' T sz j := by
  obtain ⟨m, ⟨h1, h2, h3, h4⟩, hj, hc, h8⟩ := h
  refine ⟨m, ⟨h1, fun q hq => cTk_F ⟨by rw [f 12 (by decide) (by decide)], by rw [f 13 (by decide) (by decide)], by rw [f 14 (by decide) (by decide)]⟩ (by rw [g 15 (by decide) (by decide)]) (h2 q hq), h3, h4⟩, hj, ?_, ?_⟩
  · unfold cCur; rw [f 10 (by decide) (by decide), g 10 (by decide) (by decide)]; exact hc
  · rw [f 10 (by decide) (by decide)]; exact h8
theorem up_fJ {J : mj_J} {a j b : Nat} {x : Int64} (h : b ≠ a) : mj_up J a j x b = J b := by funext k; exact mj_up_ne h
theorem mBt.tr {I I' I2 : mj_M} {J J' J2 : mj_J} (h : mBt I J I' J') (h2 : mBt I' J' I2 J2) : mBt I J I2 J2 := ⟨fun a h1 h3 => (h2.1 a h1 h3).trans (h.1 a h1 h3), fun f hf => (h2.2.1 f hf).trans (h.2.1 f hf), fun a f h1 h3 => (h2.2.2 a f h1 h3).trans (h.2.2 a f h1 h3)⟩
/-- nothing changes but the reading and what is told of one DEVICE -/
def mDd (n : Nat) (I : mj_M) (J : mj_J) (I' : mj_M) (J' : mj_J) : Prop := (∀ k, k ≠ n → (I' 20 k = I 20 k ∧ I' 21 k = I 21 k ∧ I' 22 k = I 22 k ∧ I' 19 k = I 19 k) ∧ J' 18 k = J 18 k) ∧ I' 16 = I 16 ∧ I' 17 = I 17 ∧ mBt I J I' J'
theorem mDd.tr {n : Nat} {I I' I2 : mj_M} {J J' J2 : mj_J} (h : mDd n I J I' J') (h2 : mDd n I' J' I2 J2) : mDd n I J I2 J2 := by
  refine ⟨fun k hk => ?_, h2.2.1.trans h.2.1, h2.2.2.1.trans h.2.2.1, h.2.2.2.tr h2.2.2.2⟩
  obtain ⟨⟨a1, a2, a3, a4⟩, a5⟩ := h.1 k hk
  obtain ⟨⟨b1, b2, b3, b4⟩, b5⟩ := h2.1 k hk
  exact ⟨⟨b1.trans a1, b2.trans a2, b3.trans a3, b4.trans a4⟩, b5.trans a5⟩
theorem mDd_ad {n : Nat} {I I' : mj_M} {J J' : mj_J} (h : mAd I J I' J') : mDd n I J I' J' := ⟨fun k _ => ⟨⟨congrFun (h.1 20 (by decide)) k, congrFun (h.1 21 (by decide)) k, congrFun (h.1 22 (by decide)) k, congrFun (h.1 19 (by decide)) k⟩, h.2.2 18 k (fun q => absurd q.1 (by decide))⟩, h.1 16 (by decide), h.1 17 (by decide), mBt_ad mBt_rf h⟩
theorem mDd_wt {n : Nat} {I I' : mj_M} {J J' : mj_J} (h : mWt n I J I' J') : mDd n I J I' J' := ⟨fun k hk => ⟨⟨(h.2.1 k hk).1, (h.2.1 k hk).2, congrFun (h.1 22 (by decide) (by decide) (by decide)) k, congrFun (h.1 19 (by decide) (by decide) (by decide)) k⟩, h.2.2.2 18 k (fun q => absurd q.1 (by decide))⟩, h.1 16 (by decide) (by decide) (by decide), h.1 17 (by decide) (by decide) (by decide), ⟨fun a h1 h2 => h.1 a h1 (by omega) (by omega), h.2.2.1, fun a f _ h2 => h.2.2.2 a f h2⟩⟩
theorem mDd_on {n : Nat} {I I' : mj_M} {J J' : mj_J} (h : mOn n I J I' J') : mDd n I J I' J' := ⟨fun k hk => ⟨⟨congrFun (h.1 20 (by decide) (by decide)) k, congrFun (h.1 21 (by decide) (by decide)) k, h.2.1 k hk, congrFun (h.1 19 (by decide) (by decide)) k⟩, h.2.2.2 18 k (fun q => absurd q.1 (by decide))⟩, h.1 16 (by decide) (by decide), h.1 17 (by decide) (by decide), ⟨fun a h1 h2 => h.1 a h1 (by omega), h.2.2.1, fun a f _ h2 => h.2.2.2 a f h2⟩⟩
theorem mDd_nm {n : Nat} {I : mj_M} {J : mj_J} {x : Int32} {y : Int64} : mDd n I J (mj_up I 19 n x) (mj_up J 18 n y) := ⟨fun k hk => ⟨⟨mj_up_ne (by decide), mj_up_ne (by decide), mj_up_ne (by decide), mj_up_ne2 hk⟩, mj_up_ne2 hk⟩, up_fI (by decide), up_fI (by decide), ⟨fun a h1 h2 => up_fI (by omega), fun f _ => mj_up_ne (by decide), fun a f h1 _ => mj_up_ne h1⟩⟩
/-- the draft with one DEVICE more -/
theorem cDr_dv {I1 I7 : mj_M} {J1 J7 : mj_J} {D : St} {o : Option Nat} {ln s lt nm : Nat} (hD : cDr I1 J1 D) (hk : ∀ k, k ≠ D 0 2 → (I7 20 k = I1 20 k ∧ I7 21 k = I1 21 k ∧ I7 22 k = I1 22 k ∧ I7 19 k = I1 19 k) ∧ J7 18 k = J1 18 k) (h16 : I7 16 = I1 16) (h17 : ∀ f, f ≠ 4 → I7 17 f = I1 17 f) (h174 : I7 17 4 = nI (D 0 2 + 1)) (hn : I7 20 (D 0 2) = nI (o.getD 0) ∧ I7 21 (D 0 2) = nI ln ∧ I7 22 (D 0 2) = nI s ∧ I7 19 (D 0 2) = nI lt) (hf : ∃ f : Nat → Nat, ltr f 0 lt ∧ nm = wV f 0 lt ∧ J7 18 (D 0 2) = nJ (wP f 0 lt)) : cDr I7 J7 (dvD D o ln s lt nm) := by
  obtain ⟨d0, d2, dd⟩ := dvD_at (D := D) (o := o) (ln := ln) (s := s) (lt := lt) (nm := nm)
  refine ⟨?_, ?_, fun d hd => ?_⟩
  · unfold cDn
    rw [d0 0 (by decide), d0 1 (by decide), d0 3 (by decide), d0 4 (by decide), d2, h17 0 (by decide), h17 1 (by decide), h17 2 (by decide), h17 3 (by decide)]
    exact ⟨hD.1.1, hD.1.2.1, hD.1.2.2.1, hD.1.2.2.2.1, h174⟩
  · unfold cDt
    rw [d0 5 (by decide), d0 6 (by decide), d0 7 (by decide), h16]
    exact hD.2.1
  · rw [d2] at hd
    rw [(dd d).1, (dd d).2.1, (dd d).2.2.1, (dd d).2.2.2.1, (dd d).2.2.2.2]
    by_cases e : d = D 0 2
    · rw [if_pos e, if_pos e, if_pos e, if_pos e, if_pos e, e]
      exact ⟨hn, hf⟩
    · rw [if_neg e, if_neg e, if_neg e, if_neg e, if_neg e]
      obtain ⟨⟨a1, a2, a3, a4⟩, a5⟩ := hk d e
      rw [a1, a2, a3, a4, a5]
      exact hD.2.2 d (by omega)
section BT6
variable {w : mj_Wd} {l : Launch} {I : mj_M} {J : mj_J} {R : mj_R} {T : Nat → Nat} {sz : Nat} {D : St}
theorem rt_X1_readDevice {j : Nat} (hV : mj_wV R) (hB : mj_wB R 17) (hkw : cKw J) (h800 : sz ≤ 800) (h : cRd I J T sz j) (h5 : kSq T sz j 5 = 1) (hD : cDr I J D) (hR : bRd D) (hf : I 10 16 = nI 0 ∧ I 10 17 = -1) : RtI w l yX1_readDevice dd_X1_readDevice [.ref 16] (472, I, J, R) (fun r I' J' R' => r = bI (kSg T sz (kDv T sz (mj_up D 0 7 1) (kSq T sz j)).1 8 == 0) ∧ (∃ j', cGo I' J' T sz j' (kSg T sz (kDv T sz (mj_up D 0 7 1) (kSq T sz j)).1)) ∧ (kSg T sz (kDv T sz (mj_up D 0 7 1) (kSq T sz j)).1 8 = 0 → cDr I' J' (kDv T sz (mj_up D 0 7 1) (kSq T sz j)).2) ∧ mBt I J I' J' ∧ R' = R) := by
  have o17 : mj_ok 472 17 0 := ⟨by omega, rfl⟩
  have oa18 : mj_oka 472 18 15 10 := ⟨by omega, rfl⟩
  have h8 := (kSq_89 (T := T) (sz := sz) j).1
  have hD1 : cDr (mj_up I 16 4 (nI 1)) J (mj_up D 0 7 1) := by
    obtain ⟨⟨d1, d2, d3, d4, d5⟩, ⟨t1, t2, t3⟩, dd⟩ := hD
    exact ⟨⟨d1, d2, d3, d4, d5⟩, ⟨t1, t2, rfl⟩, dd⟩
  have hR1 : bRd (mj_up D 0 7 1) := bRd_7 hR
  have B0 : mBt I J (mj_up I 16 4 (nI 1)) J := ⟨fun a h1 h2 => up_fI (by omega), fun f _ => mj_up_ne (by decide), fun _ _ _ _ => rfl⟩
  have hr0 : cRd (mj_up I 16 4 (nI 1)) J T sz j := cRd_o (fun a _ h2 => up_fI (by omega)) h
  have hf0 : mj_up I 16 4 (nI 1) 10 16 = nI 0 ∧ mj_up I 16 4 (nI 1) 10 17 = -1 := ⟨(mj_up_ne (by decide)).trans hf.1, (mj_up_ne (by decide)).trans hf.2⟩
  refine rt_intro2 (L := [some (.ref 16), none]) ⟨by decide, rfl, (fun h => by cases h)⟩ (Nat.le_of_ble_eq_true rfl) rfl (fun Y Q hQ => ?_)
  refine q_aload_n (pc' := 1) dX1_readDevice_0 rfl rfl (q_iconst (pc' := 2) _ dX1_readDevice_1 rfl kk_iconst_1 (q_putZ (pc' := 5) dX1_readDevice_2 rfl fl_RX1_32 ⟨by omega, rfl⟩ rfl (by first | exact Or.inl rfl | exact Or.inr rfl | exact bI_01 _) ?_))
  generalize mj_up I 16 4 (nI 1) = I0 at hD1 B0 hr0 hf0 ⊢
  generalize mj_up D 0 7 1 = D1 at hD1 hR1 hQ
  have hc0 : cCur I0 J T (kSq T sz j) := by obtain ⟨m, _, _, hc, _⟩ := hr0; exact hc
  have hn := hR1.1.2.2.1
  have e4 : I0 17 4 = nI (D1 0 2) := hD1.1.2.2.2.2
  by_cases hten : D1 0 2 = 10
  · have e8 : kW (kSq T sz j) 2 8 = 2 := by rw [kW_8 h8, if_neg (by omega)]
    have hb : kW (kSq T sz j) 2 8 ≠ 0 := kW8 (by decide)
    have eB : dvB T sz D1 (kSq T sz j) = kW (kSq T sz j) 2 := by
      have eA : dvA T sz D1 (kSq T sz j) = kW (kSq T sz j) 2 := by
        unfold dvA
        rw [if_pos hten]
        exact kG_bad hb
      have eN : kNm (kW (kSq T sz j) 2) = kW (kSq T sz j) 2 := if_neg (fun q => hb q.1)
      unfold dvB
      rw [eA]
      unfold dvB1
      rw [eN]
      exact if_neg (fun q => hb q.1)
    have eD : (kDv T sz D1 (kSq T sz j)).1 = kW (kSq T sz j) 2 := by
      unfold kDv
      rw [eB, if_neg hb]
    rw [eD, kSg_bad hb, e8] at hQ
    refine q_aload_n (pc' := 6) dX1_readDevice_5 rfl rfl (q_getR (pc' := 9) dX1_readDevice_6 rfl fr_RX1_12 ⟨by omega, rfl⟩ rfl (wV_1_1 hV) (by decide) (q_getIe (pc' := 12) dX1_readDevice_9 rfl fr_RX1_105 (by first | assumption | exact ⟨by omega, rfl⟩) rfl e4 (q_ist_1 (pc' := 13) dX1_readDevice_12 rfl (by decide) rfl (q_iload_n (pc' := 14) dX1_readDevice_13 rfl rfl (q_bipush (pc' := 16) _ dX1_readDevice_14 rfl kk_bipush_10 (q_icmp_lt (pc' := 19) (pt := 28) dX1_readDevice_16 rfl rfl (fun h9 => absurd h9 (by rw [hten]; decide)) (fun _ => (q_aload_n (pc' := 20) dX1_readDevice_19 rfl rfl (q_getR (pc' := 23) dX1_readDevice_20 rfl fr_RX1_18 ⟨by omega, rfl⟩ rfl (wV_1_0 hV) (by decide) (q_iconst (pc' := 24) _ dX1_readDevice_23 rfl kk_iconst_2 (q_cVi (pc' := 27) dX1_readDevice_24 rfl ml_RX1_85 yv_X9_blame (by decide) (rn_X9_blame) ⟨by omega, rfl⟩ rfl rfl (Nat.le_of_ble_eq_true rfl) (Nat.le_refl _) ?_)))))))))))
    exact q_zret dX1_readDevice_27 rfl (Or.inl rfl) (hQ _ _ _ _ ⟨_, rfl, rfl, ⟨j, fB_go hc0 h8 e8 (by decide)⟩, fun q => absurd q (by decide), mBt_ad B0 (fB_ad (x := 2)), rfl⟩)
  have hlt : D1 0 2 < 10 := by omega
  have eA : dvA T sz D1 (kSq T sz j) = kSq T sz (j + 1) := by
    unfold dvA
    rw [if_neg hten]
    exact if_pos h8
  refine q_aload_n (pc' := 6) dX1_readDevice_5 rfl rfl (q_getR (pc' := 9) dX1_readDevice_6 rfl fr_RX1_12 ⟨by omega, rfl⟩ rfl (wV_1_1 hV) (by decide) (q_getIe (pc' := 12) dX1_readDevice_9 rfl fr_RX1_105 (by first | assumption | exact ⟨by omega, rfl⟩) rfl e4 (q_ist_1 (pc' := 13) dX1_readDevice_12 rfl (by decide) rfl (q_iload_n (pc' := 14) dX1_readDevice_13 rfl rfl (q_bipush (pc' := 16) _ dX1_readDevice_14 rfl kk_bipush_10 (q_icmp_lt (pc' := 19) (pt := 28) dX1_readDevice_16 rfl rfl (fun _ => (q_aload_n (pc' := 29) dX1_readDevice_28 rfl rfl (q_getR (pc' := 32) dX1_readDevice_29 rfl fr_RX1_18 ⟨by omega, rfl⟩ rfl (wV_1_0 hV) (by decide) (q_tVv (pc' := 35) dX1_readDevice_32 rfl ml_RX1_76 yv_X9_advance (by decide) (rt_X9_adv hV hkw h800 hr0 (by rw [h5]; decide)) ⟨by omega, rfl⟩ rfl rfl (Nat.le_of_ble_eq_true rfl) (Nat.le_refl _) (fun I1 J1 R1 ⟨c1, f1, f2, f3, eR1⟩ => ?_))))) (fun h9 => absurd (by (first | assumption | exact nI_le (by omega) (by omega) | exact nI_ge (by omega) (by omega) | exact nI_lt (by omega) (by omega) | exact nI_nlt (by omega) (by omega) | exact nI_ne (by omega) (by omega) (by omega) | exact nI_e (by omega) | decide)) h9)))))))
  have eR1 : R1 = R := eR1
  rw [eR1]
  have m1 : mAd I0 J I1 J1 := ⟨f1, fun f hf2 => f2 f (by omega), f3⟩
  have hf1 : I1 10 16 = nI 0 ∧ I1 10 17 = -1 := ⟨by rw [f2 16 (by decide)]; exact hf0.1, by rw [f2 17 (by decide)]; exact hf0.2⟩
  have hkw1 : cKw J1 := fun q hq => (f3 11 q (fun q2 => absurd q2.1 (by decide))).trans (hkw q hq)
  have hc1 : cCur I1 J1 T (kSq T sz (j + 1)) := by obtain ⟨m, _, _, hc, _⟩ := c1; exact hc
  have h81 := (kSq_89 (T := T) (sz := sz) (j + 1)).1
  have hk1 := kOK_sq (T := T) (sz := sz) (j + 1)
  have B1 := mBt_ad B0 m1
  have hD2 := cDr_ad m1 hD1
  refine q_aload_n (pc' := 36) dX1_readDevice_35 rfl rfl (q_getR (pc' := 39) dX1_readDevice_36 rfl fr_RX1_18 ⟨by omega, rfl⟩ rfl (wV_1_0 hV) (by decide) (q_cVi (pc' := 42) dX1_readDevice_39 rfl ml_RX1_108 yv_X9_fitsName (by decide) (rn_X9_fitsName hc1 hk1 h800 h81 kSq_kw) ⟨by omega, rfl⟩ rfl rfl (Nat.le_of_ble_eq_true rfl) (Nat.le_refl _) ?_))
  by_cases hg : kNm (kSq T sz (j + 1)) 8 = 0
  · obtain ⟨eN, -, g5, g7⟩ := kNm8 hg
    rw [if_pos hg]
    have l1 : ltr T (kSq T sz (j + 1) 4) (kSq T sz (j + 1) 7) ∧ kSq T sz (j + 1) 12 = wV T (kSq T sz (j + 1) 4) (kSq T sz (j + 1) 7) := by
      have g5' := g5
      rw [kSq_pv] at g5'
      have := tk_ltr g5'
      rw [← kSq_pv] at this
      exact this
    obtain ⟨nm, hnm, hnm2⟩ := nm_of (n := D1 0 2) (a := 18) (J := J1) (D := D1) (fun d hd => (hR1.2.1 d hd).1.2) (fun d hd => (hD2.2.2 d hd).2)
    have eF := dF_last (b := D1) (nm := nm) (x := wP T (kSq T sz (j + 1) 4) (kSq T sz (j + 1) 7)) (y := kSq T sz (j + 1) 12) (n := D1 0 2) (fun d hd => by rw [l1.2]; exact hnm2 d hd _ _ _ g7 l1.1) hR1.2.2.2.2
    have e13 : J1 10 13 = nJ (wP T (kSq T sz (j + 1) 4) (kSq T sz (j + 1) 7)) := by rw [hc1.2.2.1, if_pos g5]
    have e11 : I1 10 11 = nI (kSq T sz (j + 1) 7) := by rw [hc1.2.1, if_pos g5]
    have hwp : wP T (kSq T sz (j + 1) 4) (kSq T sz (j + 1) 7) < 2 ^ 63 := Nat.lt_trans (kSq_wP g5) (by decide)
    have ew : kWd (kSq T sz (j + 1)) = kSq T sz (j + 1) 12 := if_pos h81
    have e41 : I1 17 4 = nI (D1 0 2) := hD2.1.2.2.2.2
    refine q_ifb_ne (pc' := 45) (pt := 47) dX1_readDevice_42 rfl rfl (fun _ => (q_aload_n (pc' := 48) dX1_readDevice_47 rfl rfl (q_getR (pc' := 51) dX1_readDevice_48 rfl fr_RX1_12 ⟨by omega, rfl⟩ rfl (wV_1_1 hV) (by decide) (q_aload_n (pc' := 52) dX1_readDevice_51 rfl rfl (q_getR (pc' := 55) dX1_readDevice_52 rfl fr_RX1_18 ⟨by omega, rfl⟩ rfl (wV_1_0 hV) (by decide) (q_getJ (pc' := 58) dX1_readDevice_55 rfl fr_RX1_111 ⟨by omega, rfl⟩ rfl ?_)))))) (fun h9 => Bool.noConfusion (Eq.trans (Eq.symm (beq_iff_eq.mpr hg)) h9))
    rw [e13]
    refine q_cVi (pc' := 61) dX1_readDevice_58 rfl ml_RX1_115 yv_X0_deviceNamed (by decide) (rn_X0_deviceNamed (nm := nm) o17 hB (by decide) oa18 e41 hn hnm hwp) (by first | assumption | exact ⟨by omega, rfl⟩) rfl rfl (Nat.le_of_ble_eq_true rfl) (Nat.le_refl _) ?_
    cases hl : dLast D1 (kSq T sz (j + 1) 12) (D1 0 2) with
    | some q =>
      have hq := (dLast_lt hl).1
      have eR : ¬ lD (dF nm (wP T (kSq T sz (j + 1) 4) (kSq T sz (j + 1) 7)) (D1 0 2) 0) = -1 := by
        rw [eF, hl]
        exact fun q2 => absurd ((lD_m1 (v := q + 1) (by omega)).mp q2) (by omega)
      have e8 : kW (kSq T sz (j + 1)) 3 8 = 3 := by rw [kW_8 h81, if_neg (by omega)]
      have hb : kW (kSq T sz (j + 1)) 3 8 ≠ 0 := kW8 (by decide)
      have eB : dvB T sz D1 (kSq T sz j) = kW (kSq T sz (j + 1)) 3 := by
        unfold dvB
        rw [eA]
        unfold dvB1
        rw [ew, hl, eN, if_pos ⟨h81, rfl⟩]
      have eD : (kDv T sz D1 (kSq T sz j)).1 = kW (kSq T sz (j + 1)) 3 := by
        unfold kDv
        rw [eB, if_neg hb]
      rw [eD, kSg_bad hb, e8] at hQ
      refine q_iconst (pc' := 62) _ dX1_readDevice_61 rfl kk_iconst_m1 (q_icmp_eq (pc' := 65) (pt := 74) dX1_readDevice_62 rfl rfl (fun h9 => absurd h9 (eR)) (fun _ => (q_aload_n (pc' := 66) dX1_readDevice_65 rfl rfl (q_getR (pc' := 69) dX1_readDevice_66 rfl fr_RX1_18 ⟨by omega, rfl⟩ rfl (wV_1_0 hV) (by decide) (q_iconst (pc' := 70) _ dX1_readDevice_69 rfl kk_iconst_3 (q_cVi (pc' := 73) dX1_readDevice_70 rfl ml_RX1_85 yv_X9_blame (by decide) (rn_X9_blame) ⟨by omega, rfl⟩ rfl rfl (Nat.le_of_ble_eq_true rfl) (Nat.le_refl _) ?_))))))
      exact q_zret dX1_readDevice_73 rfl (Or.inl rfl) (hQ _ _ _ _ ⟨_, rfl, rfl, ⟨j, fB_go hc1 h81 e8 (by decide)⟩, fun q => absurd q (by decide), mBt_ad B1 (fB_ad (x := 3)), rfl⟩)
    | none =>
      have eR : lD (dF nm (wP T (kSq T sz (j + 1) 4) (kSq T sz (j + 1) 7)) (D1 0 2) 0) = -1 := by
        rw [eF, hl]
        rfl
      have eB : dvB T sz D1 (kSq T sz j) = kSq T sz (j + 1) := by
        unfold dvB
        rw [eA]
        unfold dvB1
        rw [ew, hl, eN, if_neg (fun q => by cases q.2)]
      have eT : tkK T sz (kSq T sz (j + 1)) = kSq T sz (j + 2) := rfl
      refine q_iconst (pc' := 62) _ dX1_readDevice_61 rfl kk_iconst_m1 (q_icmp_eq (pc' := 65) (pt := 74) dX1_readDevice_62 rfl rfl (fun _ => (q_aload_n (pc' := 75) dX1_readDevice_74 rfl rfl (q_getR (pc' := 78) dX1_readDevice_75 rfl fr_RX1_12 ⟨by omega, rfl⟩ rfl (wV_1_1 hV) (by decide) (q_getR (pc' := 81) dX1_readDevice_78 rfl fr_RX1_119 (by first | assumption | exact ⟨by omega, rfl⟩) rfl (wB_5 hB) (by omega) (q_iload_n (pc' := 82) dX1_readDevice_81 rfl rfl (q_aload_n (pc' := 83) dX1_readDevice_82 rfl rfl (q_getR (pc' := 86) dX1_readDevice_83 rfl fr_RX1_18 ⟨by omega, rfl⟩ rfl (wV_1_0 hV) (by decide) (q_getJ (pc' := 89) dX1_readDevice_86 rfl fr_RX1_111 ⟨by omega, rfl⟩ rfl ?_)))))))) (fun h9 => absurd (eR) h9))
      rw [e13]
      have hr2 : cRd (mj_up I1 19 (D1 0 2) (nI (kSq T sz (j + 1) 7))) (mj_up J1 18 (D1 0 2) (nJ (wP T (kSq T sz (j + 1) 4) (kSq T sz (j + 1) 7)))) T sz (j + 1) := cRd_F (fun a _ g => up_fI (by omega)) (fun a _ g => up_fJ (by omega)) c1
      have hkw2 : cKw (mj_up J1 18 (D1 0 2) (nJ (wP T (kSq T sz (j + 1) 4) (kSq T sz (j + 1) 7)))) := fun q hq => (mj_up_ne (by decide)).trans (hkw1 q hq)
      refine q_last (pc' := 90) (D1 0 2) dX1_readDevice_89 rfl (by first | exact ⟨by omega, rfl⟩ | exact okaS hi hz (by decide) rfl | assumption) (by (first | (simp only [nI_add, pk_mul]; done) | (simp only [nI_add, pk_mul]; exact nI_e (by omega)) | exact nI_e (by omega))) (by omega) (q_aload_n (pc' := 91) dX1_readDevice_90 rfl rfl (q_getR (pc' := 94) dX1_readDevice_91 rfl fr_RX1_12 ⟨by omega, rfl⟩ rfl (wV_1_1 hV) (by decide) (q_getR (pc' := 97) dX1_readDevice_94 rfl fr_RX1_122 (by first | assumption | exact ⟨by omega, rfl⟩) rfl (wB_6 hB) (by omega) (q_iload_n (pc' := 98) dX1_readDevice_97 rfl rfl (q_aload_n (pc' := 99) dX1_readDevice_98 rfl rfl (q_getR (pc' := 102) dX1_readDevice_99 rfl fr_RX1_18 ⟨by omega, rfl⟩ rfl (wV_1_0 hV) (by decide) (q_getIe (pc' := 105) dX1_readDevice_102 rfl fr_RX1_126 ⟨by omega, rfl⟩ rfl e11 (q_iast (pc' := 106) (D1 0 2) dX1_readDevice_105 rfl (by first | exact ⟨by omega, rfl⟩ | exact okaS hi hz (by decide) rfl | assumption) (by (first | (simp only [nI_add, pk_mul]; done) | (simp only [nI_add, pk_mul]; exact nI_e (by omega)) | exact nI_e (by omega))) (by omega) (q_aload_n (pc' := 107) dX1_readDevice_106 rfl rfl (q_getR (pc' := 110) dX1_readDevice_107 rfl fr_RX1_18 ⟨by omega, rfl⟩ rfl (wV_1_0 hV) (by decide) (q_tVv (pc' := 113) dX1_readDevice_110 rfl ml_RX1_76 yv_X9_advance (by decide) (rt_X9_adv hV hkw2 h800 hr2 (by rw [g5]; decide)) ⟨by omega, rfl⟩ rfl rfl (Nat.le_of_ble_eq_true rfl) (Nat.le_refl _) (fun I3 J3 R3 ⟨c3, k1, k2, k3, eR3⟩ => ?_))))))))))))
      have eR3 : R3 = R := eR3
      rw [eR3]
      have m3 : mAd (mj_up I1 19 (D1 0 2) (nI (kSq T sz (j + 1) 7))) (mj_up J1 18 (D1 0 2) (nJ (wP T (kSq T sz (j + 1) 4) (kSq T sz (j + 1) 7)))) I3 J3 := ⟨k1, fun f hf2 => k2 f (by omega), k3⟩
      have hf3 : I3 10 16 = nI 0 ∧ I3 10 17 = -1 := ⟨by rw [k2 16 (by decide), mj_up_ne (by decide)]; exact hf1.1, by rw [k2 17 (by decide), mj_up_ne (by decide)]; exact hf1.2⟩
      have hkw3 : cKw J3 := fun q hq => (k3 11 q (fun q2 => absurd q2.1 (by decide))).trans (hkw2 q hq)
      have z3 : I3 19 (D1 0 2) = nI (kSq T sz (j + 1) 7) := by rw [k1 19 (by decide)]; exact mj_up_eq
      have y3 : J3 18 (D1 0 2) = nJ (wP T (kSq T sz (j + 1) 4) (kSq T sz (j + 1) 7)) := by rw [k3 18 _ (fun q => absurd q.1 (by decide))]; exact mj_up_eq
      have M3 : mDd (D1 0 2) I1 J1 I3 J3 := mDd_nm.tr (mDd_ad m3)
      have eW0 : dvR T sz (D1 0 0) (kSq T sz (j + 2)) = dvS T sz (D1 0 0) (dvW T sz (kSq T sz (j + 2))) := rfl
      have eD1 : (kDv T sz D1 (kSq T sz j)).1 = (dvS T sz (D1 0 0) (dvW T sz (kSq T sz (j + 2)))).2 := by
        unfold kDv
        rw [eB, if_pos h81, eT, eW0]
      refine q_aload_n (pc' := 114) dX1_readDevice_113 rfl rfl (q_iload_n (pc' := 115) dX1_readDevice_114 rfl rfl (q_tVi (pc' := 118) dX1_readDevice_115 rfl ml_RX1_128 yv_X1_readWants (by decide) (rt_X1_readWants (d := D1 0 2) hV hB hkw3 h800 c3 hlt hf3) ⟨by omega, rfl⟩ rfl rfl (Nat.le_of_ble_eq_true rfl) (Nat.le_refl _) (fun x4 I4 J4 R4 ⟨ex4, ⟨j4, c4⟩, b4, m4, eR4⟩ => ?_)))
      have eR4 : R4 = R := eR4
      rw [ex4, eR4]
      have M4 : mDd (D1 0 2) I1 J1 I4 J4 := M3.tr (mDd_wt m4)
      by_cases g4 : dvW T sz (kSq T sz (j + 2)) 8 = 0
      · rcases c4 with ⟨-, eW, r4, v4, u4⟩ | ⟨q, -⟩
        · have hkw4 : cKw J4 := fun q hq => (m4.2.2.2 11 q (fun q2 => absurd q2.1 (by decide))).trans (hkw3 q hq)
          have e0 : I4 17 0 = nI (D1 0 0) := by rw [M4.2.2.1]; exact hD2.1.1
          have b4 := b4 g4
          rw [eW] at eD1
          refine q_ifb_eq (pc' := 121) (pt := 129) dX1_readDevice_118 rfl rfl (fun h9 => Bool.noConfusion (Eq.trans (Eq.symm (beq_iff_eq.mpr g4)) h9)) (fun _ => (q_aload_n (pc' := 122) dX1_readDevice_121 rfl rfl (q_iload_n (pc' := 123) dX1_readDevice_122 rfl rfl (q_tVi (pc' := 126) dX1_readDevice_123 rfl ml_RX1_131 yv_X1_readOn (by decide) (rt_X1_readOn (D := D1) hV hB hkw4 h800 r4 e0 hR1.1.1 hlt ⟨v4, u4⟩) ⟨by omega, rfl⟩ rfl rfl (Nat.le_of_ble_eq_true rfl) (Nat.le_refl _) (fun x5 I5 J5 R5 ⟨ex5, ⟨j5, c5⟩, b5, m5, eR5⟩ => ?_)))))
          have eR5 : R5 = R := eR5
          rw [ex5, eR5]
          have M5 : mDd (D1 0 2) I1 J1 I5 J5 := M4.tr (mDd_on m5)
          by_cases g6 : (dvS T sz (D1 0 0) (kSq T sz j4)).2 8 = 0
          · rcases c5 with ⟨-, eS, r5, v5, u5⟩ | ⟨q, -⟩
            · have b5 := b5 g6
              have eD2 : (kDv T sz D1 (kSq T sz j)).2 = dvD D1 (dvKd (kSq T sz (j + 2))) (dvLn (dvKd (kSq T sz (j + 2))) (dvC T sz (dvKd (kSq T sz (j + 2))) (kSq T sz (j + 2)))) (dvS T sz (D1 0 0) (kSq T sz j4)).1 (kSq T sz (j + 1) 7) (kSq T sz (j + 1) 12) := by
                unfold kDv
                rw [eB, if_pos h81, eT, eW0, eW, if_pos g6]
              rw [eD1, eD2, eS, kSg_8] at hQ
              have e5 : I5 17 4 = nI (D1 0 2) := by rw [M5.2.2.1]; exact e41
              have hr6 : cRd (mj_up I5 17 4 (nI (D1 0 2) + nI 1)) J5 T sz j5 := cRd_o (fun a _ g => up_fI (by omega)) r5
              have hkw5 : cKw J5 := fun q hq => (m5.2.2.2 11 q (fun q2 => absurd q2.1 (by decide))).trans (hkw4 q hq)
              refine q_ifb_ne (pc' := 129) (pt := 131) dX1_readDevice_126 rfl rfl (fun _ => (q_aload_n (pc' := 132) dX1_readDevice_131 rfl rfl (q_getR (pc' := 135) dX1_readDevice_132 rfl fr_RX1_12 ⟨by omega, rfl⟩ rfl (wV_1_1 hV) (by decide) (q_dup_a (pc' := 136) dX1_readDevice_135 rfl (q_getIe (pc' := 139) dX1_readDevice_136 rfl fr_RX1_105 (by first | assumption | exact ⟨by omega, rfl⟩) rfl e5 (q_iconst (pc' := 140) _ dX1_readDevice_139 rfl kk_iconst_1 (q_iadd (pc' := 141) dX1_readDevice_140 rfl (q_putI (pc' := 144) dX1_readDevice_141 rfl fl_RX1_105 (by first | assumption | exact ⟨by omega, rfl⟩) rfl (q_aload_n (pc' := 145) dX1_readDevice_144 rfl rfl (q_getR (pc' := 148) dX1_readDevice_145 rfl fr_RX1_18 ⟨by omega, rfl⟩ rfl (wV_1_0 hV) (by decide) (q_tVi (pc' := 151) dX1_readDevice_148 rfl ml_RX1_79 yv_X9_takeSign (by decide) (rt_X9_takeSign hV hkw5 h800 hr6 ⟨(mj_up_ne (by decide)).trans v5, (mj_up_ne (by decide)).trans u5⟩) ⟨by omega, rfl⟩ rfl rfl (Nat.le_of_ble_eq_true rfl) (Nat.le_refl _) (fun x7 I7 J7 R7 ⟨ex7, c7, m7, eR7⟩ => ?_)))))))))))) (fun h9 => Bool.noConfusion (Eq.trans (Eq.symm (beq_iff_eq.mpr g6)) h9))
              have eR7 : R7 = R := eR7
              rw [ex7, eR7]
              have n7 : ∀ a, a ≠ 10 → a ≠ 17 → I7 a = I5 a := fun a g1 g2 => (m7.1 a g1).trans (up_fI g2)
              have j7 : ∀ k, J7 18 k = J5 18 k := fun k => m7.2.2 18 k (fun q => absurd q.1 (by decide))
              refine q_zret dX1_readDevice_151 rfl (bI_01 _) (hQ _ _ _ _ ⟨_, rfl, rfl, ⟨j5 + 1, ?_⟩, fun _ => ?_, ?_, rfl⟩)
              · rw [kSg_sq]
                exact c7
              · refine cDr_dv hD2 (fun k hk => ?_) ((n7 16 (by decide) (by decide)).trans M5.2.1) (fun f hf2 => ?_) ?_ ⟨?_, ?_, ?_, ?_⟩ ⟨fun k => T (kSq T sz (j + 1) 4 + k), ?_, ?_, ?_⟩
                · rw [n7 20 (by decide) (by decide), n7 21 (by decide) (by decide), n7 22 (by decide) (by decide), n7 19 (by decide) (by decide), j7 k]
                  exact M5.1 k hk
                · rw [m7.1 17 (by decide), mj_up_ne2 hf2, M5.2.2.1]
                · rw [m7.1 17 (by decide), mj_up_eq, nI_add]
                · rw [n7 20 (by decide) (by decide), m5.1 20 (by decide) (by decide)]; exact b4.1
                · rw [n7 21 (by decide) (by decide), m5.1 21 (by decide) (by decide)]; exact b4.2
                · rw [n7 22 (by decide) (by decide)]; exact b5
                · rw [n7 19 (by decide) (by decide), m5.1 19 (by decide) (by decide), m4.1 19 (by decide) (by decide) (by decide)]; exact z3
                · intro k hk
                  have := l1.1 k hk
                  rw [Nat.zero_add]
                  exact this
                · rw [l1.2, wV_sh]
                · rw [j7, m5.2.2.2 18 _ (fun q => absurd q.1 (by decide)), m4.2.2.2 18 _ (fun q => absurd q.1 (by decide)), y3]
                  exact congrArg nJ (wP_cong (fun k _ => by rw [Nat.zero_add]))
              · refine (B1.tr M5.2.2.2).tr (mBt_ad ?_ m7)
                exact ⟨fun a _ h2 => up_fI (by omega), fun f _ => mj_up_ne (by decide), fun _ _ _ _ => rfl⟩
            · exact absurd g6 q
          · rw [eD1, kSg_bad g6, beq_eq_false_iff_ne.mpr g6] at hQ
            refine q_ifb_ne (pc' := 129) (pt := 131) dX1_readDevice_126 rfl rfl (fun h9 => Bool.noConfusion (Eq.trans (Eq.symm (beq_eq_false_iff_ne.mpr g6)) h9)) (fun _ => (q_iconst (pc' := 130) _ dX1_readDevice_129 rfl kk_iconst_0 ?_))
            exact q_zret dX1_readDevice_130 rfl (Or.inl rfl) (hQ _ _ _ _ ⟨_, rfl, rfl, ⟨j5, c5⟩, fun q => absurd q g6, B1.tr M5.2.2.2, rfl⟩)
        · exact absurd g4 q
      · have eS : dvS T sz (D1 0 0) (dvW T sz (kSq T sz (j + 2))) = (2 ^ D1 0 0 - 1, dvW T sz (kSq T sz (j + 2))) := by
          unfold dvS
          rw [if_neg]
          unfold kIs
          rw [beq_eq_false_iff_ne.mpr g4]
          simp
        rw [eS] at eD1
        have eD1 : (kDv T sz D1 (kSq T sz j)).1 = dvW T sz (kSq T sz (j + 2)) := eD1
        rw [eD1, kSg_bad g4, beq_eq_false_iff_ne.mpr g4] at hQ
        refine q_ifb_eq (pc' := 121) (pt := 129) dX1_readDevice_118 rfl rfl (fun _ => (q_iconst (pc' := 130) _ dX1_readDevice_129 rfl kk_iconst_0 ?_)) (fun h9 => Bool.noConfusion (Eq.trans (Eq.symm (beq_eq_false_iff_ne.mpr g4)) h9))
        exact q_zret dX1_readDevice_130 rfl (Or.inl rfl) (hQ _ _ _ _ ⟨_, rfl, rfl, ⟨j4, c4⟩, fun q => absurd q g4, B1.tr M4.2.2.2, rfl⟩)
  · have eN := kNm_bad h81 hg
    have eB : dvB T sz D1 (kSq T sz j) = kNm (kSq T sz (j + 1)) := by
      unfold dvB
      rw [eA]
      exact if_neg (fun q => hg q.1)
    have eD : (kDv T sz D1 (kSq T sz j)).1 = kNm (kSq T sz (j + 1)) := by
      unfold kDv
      rw [eB, if_neg hg]
    rw [eD, kSg_bad hg, beq_eq_false_iff_ne.mpr hg, eN] at hQ
    rw [eN] at hg ⊢
    rw [if_neg hg]
    refine q_ifb_ne (pc' := 45) (pt := 47) dX1_readDevice_42 rfl rfl (fun h9 => Bool.noConfusion (Eq.trans (Eq.symm (beq_eq_false_iff_ne.mpr hg)) h9)) (fun _ => (q_iconst (pc' := 46) _ dX1_readDevice_45 rfl kk_iconst_0 ?_))
    exact q_zret dX1_readDevice_46 rfl (Or.inl rfl) (hQ _ _ _ _ ⟨_, rfl, rfl, ⟨j, fB_go hc1 h81 rfl hg⟩, fun q => absurd q hg, mBt_ad B1 fB_ad, rfl⟩)
end BT6
