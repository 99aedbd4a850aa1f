/-! ===== the class: a BOARD read, what a DEVICE wants ===== -/
theorem kN_cs {K : Nat → Nat} {a b : Nat} (h8 : K 8 = 0) (h6 : K 6 < 1000) (ha : a < 1000) (hb : b < 1000) : kN K (nI a) (nI b) = if K 5 = 2 then (if a ≤ K 6 ∧ K 6 ≤ b then K else kW K 4) else kW K 2 := by
  unfold kN
  rw [if_pos h8]
  by_cases h5 : K 5 = 2
  · rw [if_pos h5, if_pos h5]
    by_cases hr : a ≤ K 6 ∧ K 6 ≤ b
    · rw [if_pos hr, if_pos ⟨nI_le hr.1 (by omega), nI_le hr.2 (by omega)⟩]
    · have hn : ¬ (nI a ≤ nI (K 6) ∧ nI (K 6) ≤ nI b) := fun q => by
        by_cases h1 : a ≤ K 6
        · exact absurd q.2 (Int32.not_le.mpr (nI_lt (by omega) (by omega)))
        · exact absurd q.1 (Int32.not_le.mpr (nI_lt (by omega) (by omega)))
      rw [if_neg hr, if_neg hn]
  · rw [if_neg h5, if_neg h5]
theorem pw_8 : ∀ n, n < 9 → 2 ≤ n → (n &&& (n - 1) = 0 ↔ n = 2 ∨ n = 4 ∨ n = 8) := by decide
theorem dvF_bad {o : Option Nat} {ln : Nat} {K : Nat → Nat} (h : K 8 ≠ 0) : dvF o ln K = K := if_neg (fun q => h q.2.1)
/-- the number of LINES, and what is read behind it -/
def dvG0 (o : Nat) (K : Nat → Nat) : Nat → Nat := if K 5 = 2 then (if 1 ≤ K 6 ∧ K 6 ≤ 8 ∧ (o = 2 → K 6 = 2 ∨ K 6 = 4 ∨ K 6 = 8) then K else kW K 4) else kW K 2
def dvG (T : Nat → Nat) (sz o : Nat) (K : Nat → Nat) : Nat → Nat := kG T sz (dvG0 o K)
theorem ln_cs {o : Nat} {K : Nat → Nat} (ho : o = 2 ∨ o = 3) (h8 : K 8 = 0) (h6 : K 6 < 1000) : dvF (some o) (dvLn (some o) K) (dvE (some o) K) = dvG0 o K := by
  have eL : dvLn (some o) K = K 6 := by
    unfold dvLn
    rw [if_neg (by rcases ho with h | h <;> subst h <;> decide), if_pos h8]
  rw [eL]
  unfold dvG0
  rcases ho with h | h
  · subst h
    have eE : dvE (some 2) K = kN K (nI 2) (nI 8) := by
      unfold dvE
      rw [if_neg (by decide), if_pos rfl]
    rw [eE, kN_cs h8 h6 (by decide) (by decide)]
    by_cases h5 : K 5 = 2
    · rw [if_pos h5, if_pos h5]
      by_cases hr : 2 ≤ K 6 ∧ K 6 ≤ 8
      · rw [if_pos hr]
        by_cases hp : K 6 &&& (K 6 - 1) = 0
        · have e1 : dvF (some 2) (K 6) K = K := if_neg (fun q => q.2.2 hp)
          rw [e1, if_pos ⟨by omega, hr.2, fun _ => (pw_8 _ (by omega) hr.1).mp hp⟩]
        · have e1 : dvF (some 2) (K 6) K = kW K 4 := if_pos ⟨rfl, h8, hp⟩
          rw [e1, if_neg (fun q => hp ((pw_8 _ (by omega) hr.1).mpr (q.2.2 rfl)))]
      · rw [if_neg hr, dvF_bad (kW8 (by decide)), if_neg (fun q => hr ⟨by have := q.2.2 rfl; omega, q.2.1⟩)]
    · rw [if_neg h5, if_neg h5]
      exact dvF_bad (kW8 (by decide))
  · subst h
    have eE : dvE (some 3) K = kN K (nI 1) (nI 8) := by
      unfold dvE
      rw [if_neg (by decide), if_neg (by decide)]
    have e1 : ∀ K2 : Nat → Nat, dvF (some 3) (K 6) K2 = K2 := fun K2 => if_neg (fun q => by cases q.1)
    rw [eE, e1, kN_cs h8 h6 (by decide) (by decide)]
    by_cases h5 : K 5 = 2
    · rw [if_pos h5, if_pos h5]
      by_cases hr : 1 ≤ K 6 ∧ K 6 ≤ 8
      · rw [if_pos hr, if_pos ⟨hr.1, hr.2, fun q => by cases q⟩]
      · rw [if_neg hr, if_neg (fun q => hr ⟨q.1, q.2.1⟩)]
    · rw [if_neg h5, if_neg h5]
/-- nothing changes but the reading, kind and LINES of one DEVICE -/
def mWt (d : Nat) (I : mj_M) (J : mj_J) (I' : mj_M) (J' : mj_J) : Prop := (∀ a, a ≠ 10 → a ≠ 20 → a ≠ 21 → I' a = I a) ∧ (∀ k, k ≠ d → I' 20 k = I 20 k ∧ I' 21 k = I 21 k) ∧ (∀ f, f < 8 → I' 10 f = I 10 f) ∧ (∀ a f, ¬ (a = 10 ∧ f = 13) → J' a f = J a f)
theorem mWt_ad {d : Nat} {I I' : mj_M} {J J' : mj_J} (h : mAd I J I' J') : mWt d I J I' J' := ⟨fun a h1 _ _ => h.1 a h1, fun k _ => ⟨congrFun (h.1 20 (by decide)) k, congrFun (h.1 21 (by decide)) k⟩, fun f hf => h.2.1 f (Or.inl hf), h.2.2⟩
theorem mWt.tr {d : Nat} {I I' I2 : mj_M} {J J' J2 : mj_J} (h : mWt d I J I' J') (h2 : mWt d I' J' I2 J2) : mWt d I J I2 J2 := ⟨fun a h1 h3 h4 => (h2.1 a h1 h3 h4).trans (h.1 a h1 h3 h4), fun k hk => ⟨(h2.2.1 k hk).1.trans (h.2.1 k hk).1, (h2.2.1 k hk).2.trans (h.2.1 k hk).2⟩, fun f hf => (h2.2.2.1 f hf).trans (h.2.2.1 f hf), fun a f hf => (h2.2.2.2 a f hf).trans (h.2.2.2 a f hf)⟩
theorem mWt_20 {d : Nat} {I : mj_M} {J : mj_J} {x : Int32} : mWt d I J (mj_up I 20 d x) J := ⟨fun a _ h _ => up_fI h, fun k hk => ⟨mj_up_ne2 hk, mj_up_ne (by decide)⟩, fun f _ => mj_up_ne (by decide), fun _ _ _ => rfl⟩
theorem mWt_21 {d : Nat} {I : mj_M} {J : mj_J} {x : Int32} : mWt d I J (mj_up I 21 d x) J := ⟨fun a _ _ h => up_fI h, fun k hk => ⟨mj_up_ne (by decide), mj_up_ne2 hk⟩, fun f _ => mj_up_ne (by decide), fun _ _ _ => rfl⟩
section BT5
variable {w : mj_Wd} {l : Launch} {I : mj_M} {J : mj_J} {R : mj_R} {T : Nat → Nat} {sz : Nat} {D : St}
theorem rt_X1_readLines {j d o : Nat} (hV : mj_wV R) (hB : mj_wB R 17) (hkw : cKw J) (h800 : sz ≤ 800) (h : cRd I J T sz j) (h5 : kSq T sz j 5 = 1) (ho : o = 2 ∨ o = 3) (hd : d < 10) (h20 : I 20 d = nI o) (hf : I 10 16 = nI 0 ∧ I 10 17 = -1) : RtI w l yX1_readLines dd_X1_readLines [.ref 16, .int (nI d)] (472, I, J, R) (fun r I' J' R' => r = bI (dvG T sz o (kSq T sz (j + 1)) 8 == 0) ∧ (∃ j', cGo I' J' T sz j' (dvG T sz o (kSq T sz (j + 1)))) ∧ (dvG T sz o (kSq T sz (j + 1)) 8 = 0 → I' 21 d = nI (kSq T sz (j + 1) 6)) ∧ mWt d I J I' J' ∧ I' 20 = I 20 ∧ R' = R) := by
  have o17 : mj_ok 472 17 0 := ⟨by omega, rfl⟩
  refine rt_intro2 (L := [some (.ref 16), some (.int (nI d))]) ⟨by decide, rfl, (fun h => by cases h)⟩ (Nat.le_of_ble_eq_true rfl) rfl (fun Y Q hQ => ?_)
  refine q_aload_n (pc' := 1) dX1_readLines_0 rfl rfl (q_getR (pc' := 4) dX1_readLines_1 rfl fr_RX1_18 ⟨by omega, rfl⟩ rfl (wV_1_0 hV) (by decide) (q_tVv (pc' := 7) dX1_readLines_4 rfl ml_RX1_76 yv_X9_advance (by decide) (rt_X9_adv hV hkw h800 h (by rw [h5]; decide)) ⟨by omega, rfl⟩ rfl rfl (Nat.le_of_ble_eq_true rfl) (Nat.le_refl _) (fun I1 J1 R1 ⟨c1, f1, f2, f3, hR1⟩ => ?_)))
  have hR1 : R1 = R := hR1
  rw [hR1]
  have m1 : mAd I J I1 J1 := ⟨f1, fun f hf2 => f2 f (by omega), f3⟩
  have hf1 : I1 10 16 = nI 0 ∧ I1 10 17 = -1 := ⟨by rw [f2 16 (by decide)]; exact hf.1, by rw [f2 17 (by decide)]; exact hf.2⟩
  have hkw1 : cKw J1 := fun q hq => (f3 11 q (fun q2 => absurd q2.1 (by decide))).trans (hkw q hq)
  have hc1 : cCur I1 J1 T (kSq T sz (j + 1)) := by obtain ⟨m, _, _, hc, _⟩ := c1; exact hc
  have h81 := (kSq_89 (T := T) (sz := sz) (j + 1)).1
  have hk1 := kOK_sq (T := T) (sz := sz) (j + 1)
  have h61 := hk1.2.2.1
  have e18 := kN_cs (K := kSq T sz (j + 1)) (a := 1) (b := 8) h81 h61 (by decide) (by decide)
  have e20 : I1 20 d = nI o := by rw [f1 20 (by decide)]; exact h20
  refine q_aload_n (pc' := 8) dX1_readLines_7 rfl rfl (q_getR (pc' := 11) dX1_readLines_8 rfl fr_RX1_18 ⟨by omega, rfl⟩ rfl (wV_1_0 hV) (by decide) (q_iconst (pc' := 12) _ dX1_readLines_11 rfl kk_iconst_1 (q_bipush (pc' := 14) _ dX1_readLines_12 rfl kk_bipush_8 (q_cVi (pc' := 17) dX1_readLines_14 rfl ml_RX1_89 yv_X9_fitsNumber (by decide) (rn_X9_fitsNumber (x := nI 1) (y := nI 8) hc1 hk1 h81) ⟨by omega, rfl⟩ rfl rfl (Nat.le_of_ble_eq_true rfl) (Nat.le_refl _) ?_))))
  by_cases h52 : kSq T sz (j + 1) 5 = 2
  · have e12 : I1 10 12 = nI (kSq T sz (j + 1) 6) := by rw [hc1.2.2.2.1, if_pos h52]
    have e4 : kW (kSq T sz (j + 1)) 4 8 = 4 := by rw [kW_8 h81, if_neg (by omega)]
    by_cases hr : 1 ≤ kSq T sz (j + 1) 6 ∧ kSq T sz (j + 1) 6 ≤ 8
    · have eN : kN (kSq T sz (j + 1)) (nI 1) (nI 8) = kSq T sz (j + 1) := by rw [e18, if_pos h52, if_pos hr]
      rw [eN, if_pos h81]
      by_cases hg : o = 2 → kSq T sz (j + 1) 6 = 2 ∨ kSq T sz (j + 1) 6 = 4 ∨ kSq T sz (j + 1) 6 = 8
      · have eG : dvG T sz o (kSq T sz (j + 1)) = kSq T sz (j + 2) := by
          unfold dvG dvG0
          rw [if_pos h52, if_pos ⟨hr.1, hr.2, hg⟩]
          exact if_pos h81
        have h82 := (kSq_89 (T := T) (sz := sz) (j + 2)).1
        rw [eG, h82] at hQ
        have hr2 : cRd (mj_up I1 21 d (nI (kSq T sz (j + 1) 6))) J1 T sz (j + 1) := cRd_o (fun a _ g => up_fI (by omega)) c1
        have fin : Wq dd_X1_readLines (mj_mk w l 472 Y) Q 57 [some (.ref 16), some (.int (nI d))] [] (472, I1, J1, R) := by
          refine q_aload_n (pc' := 58) dX1_readLines_57 rfl rfl (q_getR (pc' := 61) dX1_readLines_58 rfl fr_RX1_12 ⟨by omega, rfl⟩ rfl (wV_1_1 hV) (by decide) (q_getR (pc' := 64) dX1_readLines_61 rfl fr_RX1_136 (by first | assumption | exact ⟨by omega, rfl⟩) rfl (wB_8 hB) (by omega) (q_iload_n (pc' := 65) dX1_readLines_64 rfl rfl (q_aload_n (pc' := 66) dX1_readLines_65 rfl rfl (q_getR (pc' := 69) dX1_readLines_66 rfl fr_RX1_18 ⟨by omega, rfl⟩ rfl (wV_1_0 hV) (by decide) (q_getIe (pc' := 72) dX1_readLines_69 rfl fr_RX1_70 ⟨by omega, rfl⟩ rfl e12 (q_iast (pc' := 73) (d) dX1_readLines_72 rfl (by first | exact ⟨by omega, rfl⟩ | exact okaS hi hz (by decide) rfl | assumption) (by (first | (simp only [nI_add, pk_mul]; done) | (simp only [nI_add, pk_mul]; exact nI_e (by omega)) | exact nI_e (by omega))) (by omega) (q_aload_n (pc' := 74) dX1_readLines_73 rfl rfl (q_getR (pc' := 77) dX1_readLines_74 rfl fr_RX1_18 ⟨by omega, rfl⟩ rfl (wV_1_0 hV) (by decide) (q_tVv (pc' := 80) dX1_readLines_77 rfl ml_RX1_76 yv_X9_advance (by decide) (rt_X9_adv hV hkw1 h800 hr2 (by rw [h52]; decide)) ⟨by omega, rfl⟩ rfl rfl (Nat.le_of_ble_eq_true rfl) (Nat.le_refl _) (fun I2 J2 R2 ⟨c2, g1, g2, g3, hR2⟩ => ?_)))))))))))
          have hR2 : R2 = R := hR2
          rw [hR2]
          have m2 : mAd (mj_up I1 21 d (nI (kSq T sz (j + 1) 6))) J1 I2 J2 := ⟨g1, fun f hf2 => g2 f (by omega), g3⟩
          refine q_iconst (pc' := 81) _ dX1_readLines_80 rfl kk_iconst_1 ?_
          refine q_zret dX1_readLines_81 rfl (Or.inr rfl) (hQ _ _ _ _ ⟨_, rfl, rfl, ⟨j + 2, Or.inl ⟨h82, rfl, c2, ?_, ?_⟩⟩, fun _ => ?_, ((mWt_ad m1).tr mWt_21).tr (mWt_ad m2), ?_, rfl⟩)
          · rw [g2 16 (by decide), mj_up_ne (by decide)]; exact hf1.1
          · rw [g2 17 (by decide), mj_up_ne (by decide)]; exact hf1.2
          · rw [g1 21 (by decide)]; exact mj_up_eq
          · rw [g1 20 (by decide), up_fI (by decide), f1 20 (by decide)]
        rcases ho with ho | ho
        · subst ho
          refine q_ifb_ne (pc' := 20) (pt := 22) dX1_readLines_17 rfl rfl (fun _ => (q_aload_n (pc' := 23) dX1_readLines_22 rfl rfl (q_getR (pc' := 26) dX1_readLines_23 rfl fr_RX1_12 ⟨by omega, rfl⟩ rfl (wV_1_1 hV) (by decide) (q_getR (pc' := 29) dX1_readLines_26 rfl fr_RX1_134 (by first | assumption | exact ⟨by omega, rfl⟩) rfl (wB_7 hB) (by omega) (q_iload_n (pc' := 30) dX1_readLines_29 rfl rfl (q_ialde (pc' := 31) (d) dX1_readLines_30 rfl (by first | exact ⟨by omega, rfl⟩ | exact okaS hi hz (by decide) rfl | assumption) (by (first | (simp only [nI_add, pk_mul]; done) | (simp only [nI_add, pk_mul]; exact nI_e (by omega)) | exact nI_e (by omega))) (by omega) e20 (q_iconst (pc' := 32) _ dX1_readLines_31 rfl kk_iconst_2 (q_icmp_ne (pc' := 35) (pt := 57) dX1_readLines_32 rfl rfl (fun h9 => absurd (rfl) h9) (fun _ => (q_aload_n (pc' := 36) dX1_readLines_35 rfl rfl (q_getR (pc' := 39) dX1_readLines_36 rfl fr_RX1_18 ⟨by omega, rfl⟩ rfl (wV_1_0 hV) (by decide) (q_getIe (pc' := 42) dX1_readLines_39 rfl fr_RX1_70 ⟨by omega, rfl⟩ rfl e12 ?_)))))))))))) (fun h9 => Bool.noConfusion (Eq.trans (Eq.symm (beq_iff_eq.mpr h81)) h9))
          refine q_callSN (pc' := 45) dX1_readLines_42 rfl nest_group ys_X10_isGroupSize (by decide) (rn_X10_isGroupSize (by omega)) rfl rfl (Nat.le_of_ble_eq_true rfl) (Nat.le_refl _) ?_
          rw [decide_eq_true (hg rfl)]
          refine q_ifb_ne (pc' := 48) (pt := 57) dX1_readLines_45 rfl rfl (fun _ => ?_) (fun h9 => Bool.noConfusion (Eq.trans (Eq.symm (rfl)) h9))
          exact fin
        · subst ho
          refine q_ifb_ne (pc' := 20) (pt := 22) dX1_readLines_17 rfl rfl (fun _ => (q_aload_n (pc' := 23) dX1_readLines_22 rfl rfl (q_getR (pc' := 26) dX1_readLines_23 rfl fr_RX1_12 ⟨by omega, rfl⟩ rfl (wV_1_1 hV) (by decide) (q_getR (pc' := 29) dX1_readLines_26 rfl fr_RX1_134 (by first | assumption | exact ⟨by omega, rfl⟩) rfl (wB_7 hB) (by omega) (q_iload_n (pc' := 30) dX1_readLines_29 rfl rfl (q_ialde (pc' := 31) (d) dX1_readLines_30 rfl (by first | exact ⟨by omega, rfl⟩ | exact okaS hi hz (by decide) rfl | assumption) (by (first | (simp only [nI_add, pk_mul]; done) | (simp only [nI_add, pk_mul]; exact nI_e (by omega)) | exact nI_e (by omega))) (by omega) e20 (q_iconst (pc' := 32) _ dX1_readLines_31 rfl kk_iconst_2 (q_icmp_ne (pc' := 35) (pt := 57) dX1_readLines_32 rfl rfl (fun _ => ?_) (fun h9 => absurd h9 (by decide)))))))))) (fun h9 => Bool.noConfusion (Eq.trans (Eq.symm (beq_iff_eq.mpr h81)) h9))
          exact fin
      · have ho2 : o = 2 := Classical.byContradiction (fun q => hg (fun q2 => absurd q2 q))
        subst ho2
        have hn : ¬ (kSq T sz (j + 1) 6 = 2 ∨ kSq T sz (j + 1) 6 = 4 ∨ kSq T sz (j + 1) 6 = 8) := fun q => hg (fun _ => q)
        have eG : dvG T sz 2 (kSq T sz (j + 1)) = kW (kSq T sz (j + 1)) 4 := by
          unfold dvG dvG0
          rw [if_pos h52, if_neg (fun q => hn (q.2.2 rfl))]
          exact kG_bad (kW8 (by decide))
        rw [eG, e4] at hQ
        refine q_ifb_ne (pc' := 20) (pt := 22) dX1_readLines_17 rfl rfl (fun _ => (q_aload_n (pc' := 23) dX1_readLines_22 rfl rfl (q_getR (pc' := 26) dX1_readLines_23 rfl fr_RX1_12 ⟨by omega, rfl⟩ rfl (wV_1_1 hV) (by decide) (q_getR (pc' := 29) dX1_readLines_26 rfl fr_RX1_134 (by first | assumption | exact ⟨by omega, rfl⟩) rfl (wB_7 hB) (by omega) (q_iload_n (pc' := 30) dX1_readLines_29 rfl rfl (q_ialde (pc' := 31) (d) dX1_readLines_30 rfl (by first | exact ⟨by omega, rfl⟩ | exact okaS hi hz (by decide) rfl | assumption) (by (first | (simp only [nI_add, pk_mul]; done) | (simp only [nI_add, pk_mul]; exact nI_e (by omega)) | exact nI_e (by omega))) (by omega) e20 (q_iconst (pc' := 32) _ dX1_readLines_31 rfl kk_iconst_2 (q_icmp_ne (pc' := 35) (pt := 57) dX1_readLines_32 rfl rfl (fun h9 => absurd (rfl) h9) (fun _ => (q_aload_n (pc' := 36) dX1_readLines_35 rfl rfl (q_getR (pc' := 39) dX1_readLines_36 rfl fr_RX1_18 ⟨by omega, rfl⟩ rfl (wV_1_0 hV) (by decide) (q_getIe (pc' := 42) dX1_readLines_39 rfl fr_RX1_70 ⟨by omega, rfl⟩ rfl e12 ?_)))))))))))) (fun h9 => Bool.noConfusion (Eq.trans (Eq.symm (beq_iff_eq.mpr h81)) h9))
        refine q_callSN (pc' := 45) dX1_readLines_42 rfl nest_group ys_X10_isGroupSize (by decide) (rn_X10_isGroupSize (by omega)) rfl rfl (Nat.le_of_ble_eq_true rfl) (Nat.le_refl _) ?_
        rw [decide_eq_false hn]
        refine q_ifb_ne (pc' := 48) (pt := 57) dX1_readLines_45 rfl rfl (fun h9 => Bool.noConfusion (Eq.trans (Eq.symm (rfl)) h9)) (fun _ => (q_aload_n (pc' := 49) dX1_readLines_48 rfl rfl (q_getR (pc' := 52) dX1_readLines_49 rfl fr_RX1_18 ⟨by omega, rfl⟩ rfl (wV_1_0 hV) (by decide) (q_iconst (pc' := 53) _ dX1_readLines_52 rfl kk_iconst_4 (q_cVi (pc' := 56) dX1_readLines_53 rfl ml_RX1_85 yv_X9_blame (by decide) (rn_X9_blame) ⟨by omega, rfl⟩ rfl rfl (Nat.le_of_ble_eq_true rfl) (Nat.le_refl _) ?_)))))
        exact q_zret dX1_readLines_56 rfl (Or.inl rfl) (hQ _ _ _ _ ⟨_, rfl, rfl, ⟨j, fB_go hc1 h81 e4 (by decide)⟩, fun q => absurd q (by decide), (mWt_ad m1).tr (mWt_ad (fB_ad (x := 4))), f1 20 (by decide), rfl⟩)
    · have eN : kN (kSq T sz (j + 1)) (nI 1) (nI 8) = kW (kSq T sz (j + 1)) 4 := by rw [e18, if_pos h52, if_neg hr]
      have eG : dvG T sz o (kSq T sz (j + 1)) = kW (kSq T sz (j + 1)) 4 := by
        unfold dvG dvG0
        rw [if_pos h52, if_neg (fun q => hr ⟨q.1, q.2.1⟩)]
        exact kG_bad (kW8 (by decide))
      rw [eN, e4, if_neg (by decide)]
      rw [eG, e4] at hQ
      refine q_ifb_ne (pc' := 20) (pt := 22) dX1_readLines_17 rfl rfl (fun h9 => Bool.noConfusion (Eq.trans (Eq.symm (rfl)) h9)) (fun _ => (q_iconst (pc' := 21) _ dX1_readLines_20 rfl kk_iconst_0 ?_))
      exact q_zret dX1_readLines_21 rfl (Or.inl rfl) (hQ _ _ _ _ ⟨_, rfl, rfl, ⟨j, fB_go hc1 h81 e4 (by decide)⟩, fun q => absurd q (by decide), (mWt_ad m1).tr (mWt_ad (fB_ad (x := 4))), f1 20 (by decide), rfl⟩)
  · have eN : kN (kSq T sz (j + 1)) (nI 1) (nI 8) = kW (kSq T sz (j + 1)) 2 := by rw [e18, if_neg h52]
    have eG : dvG T sz o (kSq T sz (j + 1)) = kW (kSq T sz (j + 1)) 2 := by
      unfold dvG dvG0
      rw [if_neg h52]
      exact kG_bad (kW8 (by decide))
    have e4 : kW (kSq T sz (j + 1)) 2 8 = if kSq T sz (j + 1) 5 = 4 then 1 else 2 := kW_8 h81
    have e5 : ¬ (if kSq T sz (j + 1) 5 = 4 then 1 else 2) = 0 := by split <;> decide
    rw [eN, e4, if_neg e5, beq_eq_false_iff_ne.mpr e5]
    rw [eG, e4, beq_eq_false_iff_ne.mpr e5] at hQ
    refine q_ifb_ne (pc' := 20) (pt := 22) dX1_readLines_17 rfl rfl (fun h9 => Bool.noConfusion (Eq.trans (Eq.symm (rfl)) h9)) (fun _ => (q_iconst (pc' := 21) _ dX1_readLines_20 rfl kk_iconst_0 ?_))
    exact q_zret dX1_readLines_21 rfl (Or.inl rfl) (hQ _ _ _ _ ⟨_, rfl, rfl, ⟨j, fB_go hc1 h81 e4 e5⟩, fun q => absurd q e5, (mWt_ad m1).tr (mWt_ad fB_ad), f1 20 (by decide), rfl⟩)
theorem kIs_kw {j q : Nat} (hq : q < 19) : kIs (kSq T sz j) (kw8 q) = true ↔ kwO T (kSq T sz j) = q + 1 := by
  rw [kSq_kw (T := T) (sz := sz) (i := j) q hq]
  unfold kIs
  rw [(kSq_89 (T := T) (sz := sz) j).1]
  simp
theorem sw_W : ∀ v, v < 20 → v ≠ 6 → v ≠ 7 → v ≠ 8 → (lD v).toInt < 5 ∨ 7 < (lD v).toInt := by decide +kernel
/-- what is read behind the name of a DEVICE, up to its set -/
def dvW (T : Nat → Nat) (sz : Nat) (K : Nat → Nat) : Nat → Nat := dvH T sz (dvKd K) (dvF (dvKd K) (dvLn (dvKd K) (dvC T sz (dvKd K) K)) (dvE (dvKd K) (dvC T sz (dvKd K) K)))
theorem rt_X1_readWants {j d : Nat} (hV : mj_wV R) (hB : mj_wB R 17) (hkw : cKw J) (h800 : sz ≤ 800) (h : cRd I J T sz j) (hd : d < 10) (hf : I 10 16 = nI 0 ∧ I 10 17 = -1) : RtI w l yX1_readWants dd_X1_readWants [.ref 16, .int (nI d)] (472, I, J, R) (fun r I' J' R' => r = bI (dvW T sz (kSq T sz j) 8 == 0) ∧ (∃ j', cGo I' J' T sz j' (dvW T sz (kSq T sz j))) ∧ (dvW T sz (kSq T sz j) 8 = 0 → I' 20 d = nI ((dvKd (kSq T sz j)).getD 0) ∧ I' 21 d = nI (dvLn (dvKd (kSq T sz j)) (dvC T sz (dvKd (kSq T sz j)) (kSq T sz j)))) ∧ mWt d I J I' J' ∧ R' = R) := by
  have o17 : mj_ok 472 17 0 := ⟨by omega, rfl⟩
  have hc : cCur I J T (kSq T sz j) := by obtain ⟨m, _, _, hc, _⟩ := h; exact hc
  have h8 := (kSq_89 (T := T) (sz := sz) j).1
  have h81 := (kSq_89 (T := T) (sz := sz) (j + 1)).1
  have h61 := (kOK_sq (T := T) (sz := sz) (j + 1)).2.2.1
  have e10 : I 10 10 = lD (kwO T (kSq T sz j)) := hc.2.2.2.2
  have hle := kwO_le (T := T) (K := kSq T sz j)
  have i5 := kIs_kw (T := T) (sz := sz) (j := j) (q := 5) (by decide)
  have i6 := kIs_kw (T := T) (sz := sz) (j := j) (q := 6) (by decide)
  have i7 := kIs_kw (T := T) (sz := sz) (j := j) (q := 7) (by decide)
  have w5 : kw8 5 = 126896661032037 := rfl
  have w6 : kw8 6 = 444301538672 := rfl
  have w7 : kw8 7 = 30787899169924452 := rfl
  rw [w5] at i5
  rw [w6] at i6
  rw [w7] at i7
  have hC : ∀ i, dvC T sz (some i) (kSq T sz j) = kSq T sz (j + 1) := fun i => by
    unfold dvC
    rw [if_neg (by simp)]
    exact if_pos h8
  have lines : ∀ o, (o = 2 ∨ o = 3) → dvKd (kSq T sz j) = some o → dvW T sz (kSq T sz j) = dvG T sz o (kSq T sz (j + 1)) ∧ dvLn (dvKd (kSq T sz j)) (dvC T sz (dvKd (kSq T sz j)) (kSq T sz j)) = kSq T sz (j + 1) 6 := by
    intro o ho e
    unfold dvW
    rw [e, hC, ln_cs ho h81 h61]
    constructor
    · unfold dvH
      rw [if_neg (by rcases ho with h | h <;> subst h <;> decide)]
      rfl
    · unfold dvLn
      rw [if_neg (by rcases ho with h | h <;> subst h <;> decide), if_pos h81]
  refine rt_intro2 (L := [some (.ref 16), some (.int (nI d))]) ⟨by decide, rfl, (fun h => by cases h)⟩ (Nat.le_of_ble_eq_true rfl) rfl (fun Y Q hQ => ?_)
  by_cases g5 : kwO T (kSq T sz j) = 6
  · have e : dvKd (kSq T sz j) = some 1 := if_pos (i5.mpr g5)
    have h1 := ((kSq_kw (T := T) (sz := sz) (i := j) 5 (by decide)).mp g5).1
    have eW : dvW T sz (kSq T sz j) = kSq T sz (j + 1) := by
      unfold dvW
      rw [e, hC]
      have e1 : dvE (some 1) (kSq T sz (j + 1)) = kSq T sz (j + 1) := if_pos rfl
      have e2 : ∀ n, dvF (some 1) n (kSq T sz (j + 1)) = kSq T sz (j + 1) := fun n => if_neg (fun q => by cases q.1)
      rw [e1, e2]
      exact if_pos rfl
    have eL : dvLn (dvKd (kSq T sz j)) (dvC T sz (dvKd (kSq T sz j)) (kSq T sz j)) = 1 := by rw [e]; exact if_pos rfl
    rw [eW, eL, e, h81] at hQ
    have e10' : I 10 10 = nI 5 := by rw [e10, g5]; rfl
    have hr0 : cRd (mj_up (mj_up I 20 d (nI 1)) 21 d (nI 1)) J T sz j := cRd_o (fun a _ g => by rw [up_fI (by omega), up_fI (by omega)]) h
    refine q_aload_n (pc' := 1) dX1_readWants_0 rfl rfl (q_getR (pc' := 4) dX1_readWants_1 rfl fr_RX1_18 ⟨by omega, rfl⟩ rfl (wV_1_0 hV) (by decide) (q_getIe (pc' := 7) dX1_readWants_4 rfl fr_RX1_45 ⟨by omega, rfl⟩ rfl e10' (q_tabIn (pc' := 32) dX1_readWants_7 (by decide) (by decide) rfl rfl (q_aload_n (pc' := 33) dX1_readWants_32 rfl rfl (q_getR (pc' := 36) dX1_readWants_33 rfl fr_RX1_12 ⟨by omega, rfl⟩ rfl (wV_1_1 hV) (by decide) (q_getR (pc' := 39) dX1_readWants_36 rfl fr_RX1_134 (by first | assumption | exact ⟨by omega, rfl⟩) rfl (wB_7 hB) (by omega) (q_iload_n (pc' := 40) dX1_readWants_39 rfl rfl (q_iconst (pc' := 41) _ dX1_readWants_40 rfl kk_iconst_1 (q_iast (pc' := 42) (d) dX1_readWants_41 rfl (by first | exact ⟨by omega, rfl⟩ | exact okaS hi hz (by decide) rfl | assumption) (by (first | (simp only [nI_add, pk_mul]; done) | (simp only [nI_add, pk_mul]; exact nI_e (by omega)) | exact nI_e (by omega))) (by omega) (q_aload_n (pc' := 43) dX1_readWants_42 rfl rfl (q_getR (pc' := 46) dX1_readWants_43 rfl fr_RX1_12 ⟨by omega, rfl⟩ rfl (wV_1_1 hV) (by decide) (q_getR (pc' := 49) dX1_readWants_46 rfl fr_RX1_136 (by first | assumption | exact ⟨by omega, rfl⟩) rfl (wB_8 hB) (by omega) (q_iload_n (pc' := 50) dX1_readWants_49 rfl rfl ?_)))))))))))))
    refine q_iconst (pc' := 51) _ dX1_readWants_50 rfl kk_iconst_1 (q_iast (pc' := 52) (d) dX1_readWants_51 rfl (by first | exact ⟨by omega, rfl⟩ | exact okaS hi hz (by decide) rfl | assumption) (by (first | (simp only [nI_add, pk_mul]; done) | (simp only [nI_add, pk_mul]; exact nI_e (by omega)) | exact nI_e (by omega))) (by omega) (q_aload_n (pc' := 53) dX1_readWants_52 rfl rfl (q_getR (pc' := 56) dX1_readWants_53 rfl fr_RX1_18 ⟨by omega, rfl⟩ rfl (wV_1_0 hV) (by decide) (q_tVv (pc' := 59) dX1_readWants_56 rfl ml_RX1_76 yv_X9_advance (by decide) (rt_X9_adv hV hkw h800 hr0 (by rw [h1]; decide)) ⟨by omega, rfl⟩ rfl rfl (Nat.le_of_ble_eq_true rfl) (Nat.le_refl _) (fun I1 J1 R1 ⟨c1, f1, f2, f3, hR1⟩ => ?_)))))
    have hR1 : R1 = R := hR1
    rw [hR1]
    have m1 : mAd (mj_up (mj_up I 20 d (nI 1)) 21 d (nI 1)) J I1 J1 := ⟨f1, fun f hf2 => f2 f (by omega), f3⟩
    refine q_iconst (pc' := 60) _ dX1_readWants_59 rfl kk_iconst_1 ?_
    refine q_zret dX1_readWants_60 rfl (Or.inr rfl) (hQ _ _ _ _ ⟨_, rfl, rfl, ⟨j + 1, Or.inl ⟨h81, rfl, c1, ?_, ?_⟩⟩, fun _ => ⟨?_, ?_⟩, (mWt_20.tr mWt_21).tr (mWt_ad m1), rfl⟩)
    · rw [f2 16 (by decide), mj_up_ne (by decide), mj_up_ne (by decide)]; exact hf.1
    · rw [f2 17 (by decide), mj_up_ne (by decide), mj_up_ne (by decide)]; exact hf.2
    · rw [f1 20 (by decide), mj_up_ne (by decide), mj_up_eq]; rfl
    · rw [f1 21 (by decide)]; exact mj_up_eq
  · have n5 : ¬ kIs (kSq T sz j) 126896661032037 = true := fun q => g5 (i5.mp q)
    by_cases g6 : kwO T (kSq T sz j) = 7
    · have e : dvKd (kSq T sz j) = some 2 := by unfold dvKd; rw [if_neg n5, if_pos (i6.mpr g6)]
      have h1 := ((kSq_kw (T := T) (sz := sz) (i := j) 6 (by decide)).mp g6).1
      obtain ⟨eW, eL⟩ := lines 2 (Or.inl rfl) e
      rw [eW, eL, e] at hQ
      have e10' : I 10 10 = nI 6 := by rw [e10, g6]; rfl
      have hr0 : cRd (mj_up I 20 d (nI 2)) J T sz j := cRd_o (fun a _ g => up_fI (by omega)) h
      refine q_aload_n (pc' := 1) dX1_readWants_0 rfl rfl (q_getR (pc' := 4) dX1_readWants_1 rfl fr_RX1_18 ⟨by omega, rfl⟩ rfl (wV_1_0 hV) (by decide) (q_getIe (pc' := 7) dX1_readWants_4 rfl fr_RX1_45 ⟨by omega, rfl⟩ rfl e10' (q_tabIn (pc' := 61) dX1_readWants_7 (by decide) (by decide) rfl rfl (q_aload_n (pc' := 62) dX1_readWants_61 rfl rfl (q_getR (pc' := 65) dX1_readWants_62 rfl fr_RX1_12 ⟨by omega, rfl⟩ rfl (wV_1_1 hV) (by decide) (q_getR (pc' := 68) dX1_readWants_65 rfl fr_RX1_134 (by first | assumption | exact ⟨by omega, rfl⟩) rfl (wB_7 hB) (by omega) (q_iload_n (pc' := 69) dX1_readWants_68 rfl rfl (q_iconst (pc' := 70) _ dX1_readWants_69 rfl kk_iconst_2 (q_iast (pc' := 71) (d) dX1_readWants_70 rfl (by first | exact ⟨by omega, rfl⟩ | exact okaS hi hz (by decide) rfl | assumption) (by (first | (simp only [nI_add, pk_mul]; done) | (simp only [nI_add, pk_mul]; exact nI_e (by omega)) | exact nI_e (by omega))) (by omega) (q_aload_n (pc' := 72) dX1_readWants_71 rfl rfl (q_iload_n (pc' := 73) dX1_readWants_72 rfl rfl (q_tVi (pc' := 76) dX1_readWants_73 rfl ml_RX1_139 yv_X1_readLines (by decide) (rt_X1_readLines (o := 2) hV hB hkw h800 hr0 h1 (Or.inl rfl) hd mj_up_eq ⟨(mj_up_ne (by decide)).trans hf.1, (mj_up_ne (by decide)).trans hf.2⟩) ⟨by omega, rfl⟩ rfl rfl (Nat.le_of_ble_eq_true rfl) (Nat.le_refl _) (fun x1 I1 J1 R1 ⟨ex, c1, b1, m1, t1, hR1⟩ => ?_)))))))))))))
      have hR1 : R1 = R := hR1
      rw [ex, hR1]
      exact q_zret dX1_readWants_76 rfl (bI_01 _) (hQ _ _ _ _ ⟨_, rfl, rfl, c1, fun q => ⟨by rw [t1]; exact mj_up_eq, b1 q⟩, mWt_20.tr m1, rfl⟩)
    · have n6 : ¬ kIs (kSq T sz j) 444301538672 = true := fun q => g6 (i6.mp q)
      by_cases g7 : kwO T (kSq T sz j) = 8
      · have e : dvKd (kSq T sz j) = some 3 := by unfold dvKd; rw [if_neg n5, if_neg n6, if_pos (i7.mpr g7)]
        have h1 := ((kSq_kw (T := T) (sz := sz) (i := j) 7 (by decide)).mp g7).1
        obtain ⟨eW, eL⟩ := lines 3 (Or.inr rfl) e
        rw [eW, eL, e] at hQ
        have e10' : I 10 10 = nI 7 := by rw [e10, g7]; rfl
        have hr0 : cRd (mj_up I 20 d (nI 3)) J T sz j := cRd_o (fun a _ g => up_fI (by omega)) h
        refine q_aload_n (pc' := 1) dX1_readWants_0 rfl rfl (q_getR (pc' := 4) dX1_readWants_1 rfl fr_RX1_18 ⟨by omega, rfl⟩ rfl (wV_1_0 hV) (by decide) (q_getIe (pc' := 7) dX1_readWants_4 rfl fr_RX1_45 ⟨by omega, rfl⟩ rfl e10' (q_tabIn (pc' := 77) dX1_readWants_7 (by decide) (by decide) rfl rfl (q_aload_n (pc' := 78) dX1_readWants_77 rfl rfl (q_getR (pc' := 81) dX1_readWants_78 rfl fr_RX1_12 ⟨by omega, rfl⟩ rfl (wV_1_1 hV) (by decide) (q_getR (pc' := 84) dX1_readWants_81 rfl fr_RX1_134 (by first | assumption | exact ⟨by omega, rfl⟩) rfl (wB_7 hB) (by omega) (q_iload_n (pc' := 85) dX1_readWants_84 rfl rfl (q_iconst (pc' := 86) _ dX1_readWants_85 rfl kk_iconst_3 (q_iast (pc' := 87) (d) dX1_readWants_86 rfl (by first | exact ⟨by omega, rfl⟩ | exact okaS hi hz (by decide) rfl | assumption) (by (first | (simp only [nI_add, pk_mul]; done) | (simp only [nI_add, pk_mul]; exact nI_e (by omega)) | exact nI_e (by omega))) (by omega) (q_aload_n (pc' := 88) dX1_readWants_87 rfl rfl (q_iload_n (pc' := 89) dX1_readWants_88 rfl rfl (q_tVi (pc' := 92) dX1_readWants_89 rfl ml_RX1_139 yv_X1_readLines (by decide) (rt_X1_readLines (o := 3) hV hB hkw h800 hr0 h1 (Or.inr rfl) hd mj_up_eq ⟨(mj_up_ne (by decide)).trans hf.1, (mj_up_ne (by decide)).trans hf.2⟩) ⟨by omega, rfl⟩ rfl rfl (Nat.le_of_ble_eq_true rfl) (Nat.le_refl _) (fun x1 I1 J1 R1 ⟨ex, c1, b1, m1, t1, hR1⟩ => ?_)))))))))))))
        have hR1 : R1 = R := hR1
        rw [ex, hR1]
        exact q_zret dX1_readWants_92 rfl (bI_01 _) (hQ _ _ _ _ ⟨_, rfl, rfl, c1, fun q => ⟨by rw [t1]; exact mj_up_eq, b1 q⟩, mWt_20.tr m1, rfl⟩)
      · have n7 : ¬ kIs (kSq T sz j) 30787899169924452 = true := fun q => g7 (i7.mp q)
        have e : dvKd (kSq T sz j) = none := by unfold dvKd; rw [if_neg n5, if_neg n6, if_neg n7]
        have hb : kW (kSq T sz j) 2 8 ≠ 0 := kW8 (by decide)
        have eW : dvW T sz (kSq T sz j) = kW (kSq T sz j) 2 := by
          unfold dvW
          rw [e]
          have e1 : dvC T sz none (kSq T sz j) = kW (kSq T sz j) 2 := by
            unfold dvC
            rw [if_pos rfl]
            exact kG_bad hb
          have e2 : dvE none (kW (kSq T sz j) 2) = kW (kSq T sz j) 2 := by
            unfold dvE
            rw [if_neg (by decide), if_neg (by decide)]
            exact kN_bad hb
          rw [e1, e2, dvF_bad hb]
          unfold dvH
          rw [if_neg (by decide)]
          exact kG_bad hb
        have e4 : kW (kSq T sz j) 2 8 = if kSq T sz j 5 = 4 then 1 else 2 := kW_8 h8
        have e5 : ¬ (if kSq T sz j 5 = 4 then 1 else 2) = 0 := by split <;> decide
        rw [eW, e4, beq_eq_false_iff_ne.mpr e5] at hQ
        refine q_aload_n (pc' := 1) dX1_readWants_0 rfl rfl (q_getR (pc' := 4) dX1_readWants_1 rfl fr_RX1_18 ⟨by omega, rfl⟩ rfl (wV_1_0 hV) (by decide) (q_getIe (pc' := 7) dX1_readWants_4 rfl fr_RX1_45 ⟨by omega, rfl⟩ rfl e10 (q_tabOut (pc' := 93) dX1_readWants_7 (sw_W _ (by omega) g5 g6 g7) rfl (q_aload_n (pc' := 94) dX1_readWants_93 rfl rfl (q_getR (pc' := 97) dX1_readWants_94 rfl fr_RX1_18 ⟨by omega, rfl⟩ rfl (wV_1_0 hV) (by decide) (q_cVi (pc' := 100) dX1_readWants_97 rfl ml_RX1_63 yv_X9_blameToken (by decide) (rn_X9_blameToken hc.1.1 (kOK_sq j).2.1) ⟨by omega, rfl⟩ rfl rfl (Nat.le_of_ble_eq_true rfl) (Nat.le_refl _) ?_))))))
        exact q_zret dX1_readWants_100 rfl (Or.inl rfl) (hQ _ _ _ _ ⟨_, rfl, rfl, ⟨j, fB_go hc h8 e4 e5⟩, fun q => absurd q e5, mWt_ad fB_ad, rfl⟩)
end BT5
