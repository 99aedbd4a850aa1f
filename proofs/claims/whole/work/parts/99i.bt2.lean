/-! ===== the class: a BOARD read, lines of sizes ===== -/
/-- the class's draft of a BOARD -/
def cDn (I : mj_M) (D : St) : Prop := I 17 0 = nI (D 0 0) ∧ I 17 1 = nI (D 0 1) ∧ I 17 2 = nI (D 0 3) ∧ I 17 3 = nI (D 0 4) ∧ I 17 4 = nI (D 0 2)
def cDt (I : mj_M) (D : St) : Prop := I 16 2 = bI (D 0 5 == 1) ∧ I 16 3 = bI (D 0 6 == 1) ∧ I 16 4 = bI (D 0 7 == 1)
def cDd (I : mj_M) (J : mj_J) (D : St) : Prop := ∀ d, d < D 0 2 → (I 20 d = nI (D 1 d) ∧ I 21 d = nI (D 2 d) ∧ I 22 d = nI (D 3 d) ∧ I 19 d = nI (D 4 d)) ∧ ∃ f : Nat → Nat, ltr f 0 (D 4 d) ∧ D 5 d = wV f 0 (D 4 d) ∧ J 18 d = nJ (wP f 0 (D 4 d))
def cDr (I : mj_M) (J : mj_J) (D : St) : Prop := cDn I D ∧ cDt I D ∧ cDd I J D
theorem cDr_F {I I' : mj_M} {J J' : mj_J} {D : St} (f : ∀ a, 16 ≤ a → a < 23 → I' a = I a) (g : ∀ d, J' 18 d = J 18 d) (h : cDr I J D) : cDr I' J' D := by
  refine ⟨?_, ?_, fun d hd => ?_⟩
  · unfold cDn; rw [f 17 (by decide) (by decide)]; exact h.1
  · unfold cDt; rw [f 16 (by decide) (by decide)]; exact h.2.1
  · rw [f 20 (by decide) (by decide), f 21 (by decide) (by decide), f 22 (by decide) (by decide), f 19 (by decide) (by decide), g d]; exact h.2.2 d hd
theorem cDr_ad {I I' : mj_M} {J J' : mj_J} {D : St} (f : mAd I J I' J') (h : cDr I J D) : cDr I' J' D := cDr_F (fun a h1 _ => f.1 a (by omega)) (fun d => f.2.2 18 d (fun q => absurd q.1 (by decide))) h
/-- what reading a line of a BOARD leaves -/
def mBt (I : mj_M) (J : mj_J) (I' : mj_M) (J' : mj_J) : Prop := (∀ a, a ≠ 10 → (a < 16 ∨ 22 < a) → I' a = I a) ∧ (∀ f, f < 8 → I' 10 f = I 10 f) ∧ (∀ a f, a ≠ 18 → ¬ (a = 10 ∧ f = 13) → J' a f = J a f)
theorem mBt_ad {I I1 I2 : mj_M} {J J1 J2 : mj_J} (h : mBt I J I1 J1) (f : mAd I1 J1 I2 J2) : mBt I J I2 J2 := ⟨fun a h1 h2 => (f.1 a h1).trans (h.1 a h1 h2), fun q hq => (f.2.1 q (Or.inl hq)).trans (h.2.1 q hq), fun a q h1 h2 => (f.2.2 a q h2).trans (h.2.2 a q h1 h2)⟩
theorem mBt_rf {I : mj_M} {J : mj_J} : mBt I J I J := ⟨fun _ _ _ => rfl, fun _ _ => rfl, fun _ _ _ _ => rfl⟩
theorem kG_bad {T : Nat → Nat} {sz : Nat} {K : Nat → Nat} (h : K 8 ≠ 0) : kG T sz K = K := if_neg h
theorem kSg_bad {T : Nat → Nat} {sz : Nat} {K : Nat → Nat} (h : K 8 ≠ 0) : kSg T sz K = K := by
  have e : (if K 8 = 0 ∧ K 5 ≠ 3 then kW K 2 else K) = K := if_neg (fun q => h q.1)
  unfold kSg
  rw [e]
  exact kG_bad h
theorem kSg_sq {T : Nat → Nat} {sz j : Nat} : kSg T sz (kSq T sz j) = kG T sz (if kSq T sz j 5 = 3 then kSq T sz j else kW (kSq T sz j) 2) := by
  have h8 := (kSq_89 (T := T) (sz := sz) j).1
  unfold kSg
  by_cases h : kSq T sz j 5 = 3
  · rw [if_neg (fun q => q.2 h), if_pos h]
  · rw [if_pos ⟨h8, h⟩, if_neg h]
theorem kSg_8 {T : Nat → Nat} {sz j : Nat} : (kSg T sz (kSq T sz j) 8 == 0) = (kSq T sz j 5 == 3) := by
  have h8 := (kSq_89 (T := T) (sz := sz) j).1
  rw [kSg_sq]
  by_cases h : kSq T sz j 5 = 3
  · have e : kG T sz (kSq T sz j) = kSq T sz (j + 1) := if_pos h8
    rw [if_pos h, e, (kSq_89 (T := T) (sz := sz) (j + 1)).1, h]
    rfl
  · have e4 : kW (kSq T sz j) 2 8 = if kSq T sz j 5 = 4 then 1 else 2 := kW_8 h8
    have e5 : ¬ (if kSq T sz j 5 = 4 then 1 else 2) = 0 := by split <;> decide
    rw [if_neg h, kG_bad (by rw [e4]; exact e5), e4, beq_eq_false_iff_ne.mpr e5, beq_eq_false_iff_ne.mpr h]
theorem cRd_o {I I' : mj_M} {J : mj_J} {T : Nat → Nat} {sz j : Nat} (f : ∀ a, 10 ≤ a → a < 16 → I' a = I a) (h : cRd I J T sz j) : cRd I' J T sz j := by
  obtain ⟨m, ⟨h1, h2, h3, h4⟩, hj, hc, h8⟩ := h
  refine ⟨m, ⟨h1, fun q hq => cTk_F ⟨by rw [f 12 (by decide) (by decide)], by rw [f 13 (by decide) (by decide)], by rw [f 14 (by decide) (by decide)]⟩ rfl (h2 q hq), h3, h4⟩, hj, ?_, ?_⟩
  · unfold cCur; rw [f 10 (by decide) (by decide)]; exact hc
  · rw [f 10 (by decide) (by decide)]; exact h8
section BT2
variable {w : mj_Wd} {l : Launch} {I : mj_M} {J : mj_J} {R : mj_R} {T : Nat → Nat} {sz : Nat} {D : St}
theorem rt_X1_readCpus {j : Nat} (hV : mj_wV R) (hkw : cKw J) (h800 : sz ≤ 800) (h : cRd I J T sz j) (h5 : kSq T sz j 5 = 1) (hD : cDr I J D) (hf : I 10 16 = nI 0 ∧ I 10 17 = -1) : RtI w l yX1_readCpus dd_X1_readCpus [.ref 16] (472, I, J, R) (fun r I' J' R' => r = bI (kSg T sz (kNi T sz (kL2 T sz (kSq T sz j) (D 0 7 == 1) (D 0 5 == 1)) (nI 1) (nI 8)) 8 == 0) ∧ (∃ j', cGo I' J' T sz j' (kSg T sz (kNi T sz (kL2 T sz (kSq T sz j) (D 0 7 == 1) (D 0 5 == 1)) (nI 1) (nI 8)))) ∧ (kSg T sz (kNi T sz (kL2 T sz (kSq T sz j) (D 0 7 == 1) (D 0 5 == 1)) (nI 1) (nI 8)) 8 = 0 → cDr I' J' (mj_up (mj_up D 0 5 1) 0 0 (if kL2 T sz (kSq T sz j) (D 0 7 == 1) (D 0 5 == 1) 8 = 0 then kL2 T sz (kSq T sz j) (D 0 7 == 1) (D 0 5 == 1) 6 else 0))) ∧ mBt I J I' J' ∧ R' = R) := by
  refine rt_intro2 (L := [some (.ref 16)]) ⟨by decide, rfl, (fun h => by cases h)⟩ (Nat.le_of_ble_eq_true rfl) rfl (fun Y Q hQ => ?_)
  have hrs := rt_X1_readSize (w := w) (l := l) (j := j) (lo := nI 1) (hi := nI 8) (y := (D 0 5 == 1)) hV hkw h800 h h5 hD.2.1.2.2 hf
  unfold kNi at hQ
  generalize kL2 T sz (kSq T sz j) (D 0 7 == 1) (D 0 5 == 1) = K2 at hrs hQ
  refine q_aload_n (pc' := 1) dX1_readCpus_0 rfl rfl (q_aload_n (pc' := 2) dX1_readCpus_1 rfl rfl (q_getIe (pc' := 5) dX1_readCpus_2 rfl fr_RX1_25 ⟨by omega, rfl⟩ rfl hD.2.1.1 (q_iconst (pc' := 6) _ dX1_readCpus_5 rfl kk_iconst_1 (q_bipush (pc' := 8) _ dX1_readCpus_6 rfl kk_bipush_8 (q_tVi (pc' := 11) dX1_readCpus_8 rfl ml_RX1_66 yv_X1_readSize (by decide) hrs ⟨by omega, rfl⟩ rfl rfl (Nat.le_of_ble_eq_true rfl) (Nat.le_refl _) (fun x1 I1 J1 R1 ⟨ex, c1, m1, hR1⟩ => ?_))))))
  have hR1 : R1 = R := hR1
  rw [ex, hR1]
  by_cases hg : kN K2 (nI 1) (nI 8) 8 = 0
  · rcases c1 with ⟨-, eK, hr1, hf1⟩ | ⟨q, -⟩
    · have h82 := (kSq_89 (T := T) (sz := sz) (j + 1)).1
      have eK2 : K2 = kSq T sz (j + 1) ∧ kSq T sz (j + 1) 5 = 2 := by
        by_cases k8 : K2 8 = 0
        · unfold kN at eK hg
          rw [if_pos k8] at eK hg
          by_cases k5 : K2 5 = 2
          · rw [if_pos k5] at eK hg
            by_cases kr : nI 1 ≤ nI (K2 6) ∧ nI (K2 6) ≤ nI 8
            · rw [if_pos kr] at eK
              exact ⟨eK, by rw [← eK]; exact k5⟩
            · rw [if_neg kr, kW_8 k8, if_neg (by omega)] at hg
              cases hg
          · rw [if_neg k5, kW_8 k8] at hg
            split at hg <;> cases hg
        · rw [kN_bad k8] at hg
          exact absurd hg k8
      obtain ⟨eA, e2⟩ := eK2
      have hc1 : cCur I1 J1 T (kSq T sz (j + 1)) := by obtain ⟨m, _, _, hc, _⟩ := hr1; exact hc
      have e12 : mj_up I1 16 2 (nI 1) 10 12 = nI (kSq T sz (j + 1) 6) := by rw [mj_up_ne (by decide), hc1.2.2.2.1, if_pos e2]
      rw [if_pos hg, eK, eA, if_pos h82] at hQ
      have hD1 := cDr_ad m1 hD
      have hr2 : cRd (mj_up (mj_up I1 16 2 (nI 1)) 17 0 (nI (kSq T sz (j + 1) 6))) J1 T sz (j + 1) := cRd_o (fun a _ h2 => by rw [up_fI (by omega), up_fI (by omega)]) hr1
      have hkw1 : cKw J1 := fun q hq => (m1.2.2 11 q (fun q2 => absurd q2.1 (by decide))).trans (hkw q hq)
      have hD2 : cDr (mj_up (mj_up I1 16 2 (nI 1)) 17 0 (nI (kSq T sz (j + 1) 6))) J1 (mj_up (mj_up D 0 5 1) 0 0 (kSq T sz (j + 1) 6)) := by
        obtain ⟨⟨d1, d2, d3, d4, d5⟩, ⟨t1, t2, t3⟩, dd⟩ := hD1
        exact ⟨⟨rfl, d2, d3, d4, d5⟩, ⟨rfl, t2, t3⟩, dd⟩
      have hB2 : mBt I J (mj_up (mj_up I1 16 2 (nI 1)) 17 0 (nI (kSq T sz (j + 1) 6))) J1 := ⟨fun a h1 h2 => by rw [up_fI (by omega), up_fI (by omega)]; exact m1.1 a h1, fun f hf2 => by rw [mj_up_ne (by decide), mj_up_ne (by decide)]; exact m1.2.1 f (Or.inl hf2), fun a f _ h2 => m1.2.2 a f h2⟩
      refine q_ifb_ne (pc' := 14) (pt := 16) dX1_readCpus_11 rfl rfl (fun _ => (q_aload_n (pc' := 17) dX1_readCpus_16 rfl rfl (q_iconst (pc' := 18) _ dX1_readCpus_17 rfl kk_iconst_1 (q_putZ (pc' := 21) dX1_readCpus_18 rfl fl_RX1_25 ⟨by omega, rfl⟩ rfl (by first | exact Or.inl rfl | exact Or.inr rfl | exact bI_01 _) (q_aload_n (pc' := 22) dX1_readCpus_21 rfl rfl (q_getR (pc' := 25) dX1_readCpus_22 rfl fr_RX1_12 ⟨by omega, rfl⟩ rfl (wV_1_1 hV) (by decide) (q_aload_n (pc' := 26) dX1_readCpus_25 rfl rfl (q_getR (pc' := 29) dX1_readCpus_26 rfl fr_RX1_18 ⟨by omega, rfl⟩ rfl (wV_1_0 hV) (by decide) (q_getIe (pc' := 32) dX1_readCpus_29 rfl fr_RX1_70 ⟨by omega, rfl⟩ rfl e12 (q_putI (pc' := 35) dX1_readCpus_32 rfl fl_RX1_73 (by first | assumption | exact ⟨by omega, rfl⟩) rfl (q_aload_n (pc' := 36) dX1_readCpus_35 rfl rfl (q_getR (pc' := 39) dX1_readCpus_36 rfl fr_RX1_18 ⟨by omega, rfl⟩ rfl (wV_1_0 hV) (by decide) (q_tVv (pc' := 42) dX1_readCpus_39 rfl ml_RX1_76 yv_X9_advance (by decide) (rt_X9_adv hV hkw1 h800 hr2 (by rw [e2]; decide)) ⟨by omega, rfl⟩ rfl rfl (Nat.le_of_ble_eq_true rfl) (Nat.le_refl _) (fun I2 J2 R2 ⟨c2, f1, f2, f3, hR2⟩ => ?_)))))))))))))) (fun h9 => Bool.noConfusion (Eq.trans (Eq.symm (beq_iff_eq.mpr hg)) h9))
      have hR2 : R2 = R := hR2
      rw [hR2]
      have m2 : mAd (mj_up (mj_up I1 16 2 (nI 1)) 17 0 (nI (kSq T sz (j + 1) 6))) J1 I2 J2 := ⟨f1, fun f hf2 => f2 f (by omega), f3⟩
      have hkw2 : cKw J2 := fun q hq => (f3 11 q (fun q2 => absurd q2.1 (by decide))).trans (hkw1 q hq)
      have hf2 : I2 10 16 = nI 0 ∧ I2 10 17 = -1 := ⟨by rw [f2 16 (by decide), mj_up_ne (by decide), mj_up_ne (by decide)]; exact hf1.1, by rw [f2 17 (by decide), mj_up_ne (by decide), mj_up_ne (by decide)]; exact hf1.2⟩
      have eT : tkK T sz (kSq T sz (j + 1)) = kSq T sz (j + 2) := rfl
      rw [eT, kSg_8] at hQ
      refine q_aload_n (pc' := 43) dX1_readCpus_42 rfl rfl (q_getR (pc' := 46) dX1_readCpus_43 rfl fr_RX1_18 ⟨by omega, rfl⟩ rfl (wV_1_0 hV) (by decide) (q_tVi (pc' := 49) dX1_readCpus_46 rfl ml_RX1_79 yv_X9_takeSign (by decide) (rt_X9_takeSign hV hkw2 h800 c2 hf2) ⟨by omega, rfl⟩ rfl rfl (Nat.le_of_ble_eq_true rfl) (Nat.le_refl _) (fun x3 I3 J3 R3 ⟨ex3, c3, m3, hR3⟩ => ?_)))
      rw [ex3, hR3]
      refine q_zret dX1_readCpus_49 rfl (bI_01 _) (hQ _ _ _ _ ⟨_, rfl, rfl, ⟨j + 3, ?_⟩, fun _ => cDr_ad m3 (cDr_ad m2 hD2), mBt_ad (mBt_ad hB2 m2) m3, rfl⟩)
      rw [kSg_sq]
      exact c3
    · exact absurd hg q
  · rw [if_neg hg, kSg_bad hg, beq_eq_false_iff_ne.mpr hg] at hQ
    refine q_ifb_ne (pc' := 14) (pt := 16) dX1_readCpus_11 rfl rfl (fun h9 => Bool.noConfusion (Eq.trans (Eq.symm (beq_eq_false_iff_ne.mpr hg)) h9)) (fun _ => (q_iconst (pc' := 15) _ dX1_readCpus_14 rfl kk_iconst_0 ?_))
    exact q_zret dX1_readCpus_15 rfl (Or.inl rfl) (hQ _ _ _ _ ⟨_, rfl, rfl, ⟨j + 1, c1⟩, fun q => absurd q hg, mBt_ad mBt_rf m1, rfl⟩)
end BT2
