/-! ===== the class: a set of numbers read ===== -/
theorem cRd_15 {I : mj_M} {J : mj_J} {T : Nat → Nat} {sz j : Nat} {x : Int32} (h : cRd I J T sz j) : cRd (mj_up I 10 15 x) J T sz j := by
  obtain ⟨m, ⟨h1, h2, h3, h4⟩, hj, ⟨⟨c1, c2⟩, c3, c4, c5, c6⟩, h8⟩ := h
  refine ⟨m, ⟨h1, fun q hq => cTk_F ⟨mj_up_ne (by decide), mj_up_ne (by decide), mj_up_ne (by decide)⟩ rfl (h2 q hq), h3, h4⟩, hj, ⟨⟨?_, ?_⟩, ?_, c4, ?_, ?_⟩, ?_⟩
  · rw [mj_up_ne2 (by decide)]; exact c1
  · rw [mj_up_ne2 (by decide)]; exact c2
  · rw [mj_up_ne2 (by decide)]; exact c3
  · rw [mj_up_ne2 (by decide)]; exact c5
  · rw [mj_up_ne2 (by decide)]; exact c6
  · rw [mj_up_ne2 (by decide)]; exact h8
/-- TOKEN j is no end: the text has so many bytes -/
theorem cRd_lt {I : mj_M} {J : mj_J} {T : Nat → Nat} {sz j : Nat} (h : cRd I J T sz j) (hs : ¬ kStp T sz j) : j + 1 ≤ sz := by
  obtain ⟨m, ⟨h1, h2, h3, h4⟩, hj, -, -⟩ := h
  have hne : j ≠ m := fun q => hs (by rw [q]; exact h3)
  have h5 := kPv_ge (T := T) (sz := sz) (j + 1) (fun q hq => h4 q (by omega))
  have h6 := kPv_le (T := T) (sz := sz) (j + 1)
  omega
def mA2 (I : mj_M) (J : mj_J) (I' : mj_M) (J' : mj_J) : Prop := (∀ a, a ≠ 10 → I' a = I a) ∧ (∀ f, f < 8 → I' 10 f = I 10 f) ∧ (∀ a f, ¬ (a = 10 ∧ f = 13) → J' a f = J a f)
theorem kN_in {K : Nat → Nat} {n : Nat} (h8 : K 8 = 0) (h5 : K 5 = 2) (h6 : K 6 < 1000) (hn : 1 ≤ n ∧ n ≤ 32) : kN K (nI 0) (nI n - nI 1) = if K 6 < n then K else kW K 4 := by
  unfold kN
  rw [if_pos h8, if_pos h5, nI_sb hn.1]
  by_cases h : K 6 < n
  · rw [if_pos h, if_pos ⟨nI_le (by omega) (by omega), nI_le (by omega) (by omega)⟩]
  · rw [if_neg h, if_neg (fun q => absurd q.2 (Int32.not_le.mpr (nI_lt (by omega) (by omega))))]
section TOK9
variable {w : mj_Wd} {l : Launch} {I : mj_M} {J : mj_J} {R : mj_R} {T : Nat → Nat} {sz : Nat}
theorem rt_X9_takeSet {j n s : Nat} (hV : mj_wV R) (hkw : cKw J) (h800 : sz ≤ 800) (h : cRd I J T sz j) (hn : 1 ≤ n ∧ n ≤ 32) (hs : s < 2 ^ 32) (hf : I 10 16 = nI 0 ∧ I 10 17 = -1) : RtI w l yX9_takeSet dd_X9_takeSet [.ref 10, .int (nI s), .int (nI n)] (472, I, J, R) (fun x I' J' R' => x = bI ((kSet T sz n 802 s (kSq T sz j)).2 8 == 0) ∧ (∃ j', cGo I' J' T sz j' (kSet T sz n 802 s (kSq T sz j)).2) ∧ ((kSet T sz n 802 s (kSq T sz j)).2 8 = 0 → I' 10 15 = nI (kSet T sz n 802 s (kSq T sz j)).1) ∧ mA2 I J I' J' ∧ R' = R) := by
  refine rt_intro2 (L := [some (.ref 10), some (.int (nI s)), some (.int (nI n)), none]) ⟨by decide, rfl, (fun h => by cases h)⟩ (Nat.le_of_ble_eq_true rfl) rfl (fun Y Q hQ => ?_)
  have loop : ∀ f i j1 s1 I1 J1, i + f = 802 → i ≤ j1 → kSet T sz n f s1 (kSq T sz j1) = kSet T sz n 802 s (kSq T sz j) → cRd I1 J1 T sz j1 → kSq T sz j1 5 = 2 → s1 < 2 ^ 32 → I1 10 15 = nI s1 → (I1 10 16 = nI 0 ∧ I1 10 17 = -1) → mA2 I J I1 J1 → Wq dd_X9_takeSet (mj_mk w l 472 Y) Q 20 [some (.ref 10), some (.int (nI s)), some (.int (nI n)), some (.int (nI i))] [] (472, I1, J1, R) := by
    intro f
    induction f with
    | zero =>
      intro i j1 s1 I1 J1 hif hij _ hr h2
      have := cRd_lt hr (fun q => q.elim (fun q => by rw [h2] at q; cases q) (fun q => by rw [h2] at q; cases q))
      omega
    | succ f ih =>
      intro i j1 s1 I1 J1 hif hij hset hr h2 hs1 h15 hf1 hm
      have hlt := cRd_lt hr (fun q => q.elim (fun q => by rw [h2] at q; cases q) (fun q => by rw [h2] at q; cases q))
      have hc : cCur I1 J1 T (kSq T sz j1) := by obtain ⟨m, _, _, hc, _⟩ := hr; exact hc
      have k6 := (kOK_sq (T := T) (sz := sz) j1).2.2.1
      have h8 := (kSq_89 (T := T) (sz := sz) j1).1
      have e9 := hc.1.1
      have e12 : I1 10 12 = nI (kSq T sz j1 6) := by rw [hc.2.2.2.1, if_pos h2]
      have hkw1 : cKw J1 := fun q hq => (hm.2.2 11 q (fun q2 => absurd q2.1 (by decide))).trans (hkw q hq)
      have eN := kN_in h8 h2 k6 hn
      have eS : kSet T sz n (f + 1) s1 (kSq T sz j1) = if kN (kSq T sz j1) (nI 0) (nI n - nI 1) 8 = 0 then
          (if s1.testBit (kSq T sz j1 6) = true then (s1, kW (kN (kSq T sz j1) (nI 0) (nI n - nI 1)) 3)
          else if tkK T sz (kN (kSq T sz j1) (nI 0) (nI n - nI 1)) 8 = 0 ∧ tkK T sz (kN (kSq T sz j1) (nI 0) (nI n - nI 1)) 5 = 2 then kSet T sz n f (s1 ||| 2 ^ kSq T sz j1 6) (tkK T sz (kN (kSq T sz j1) (nI 0) (nI n - nI 1)))
          else (s1 ||| 2 ^ kSq T sz j1 6, tkK T sz (kN (kSq T sz j1) (nI 0) (nI n - nI 1))))
        else (s1, kN (kSq T sz j1) (nI 0) (nI n - nI 1)) := rfl
      rw [hset] at eS
      have fin : ∀ x, x ≠ 0 → x ≠ 1 → kSet T sz n 802 s (kSq T sz j) = (s1, kW (kSq T sz j1) x) → Q (some (.int (bI false))) (472, fB I1 x, J1, R) := by
        intro x hx0 hx1 e
        have e4 : kW (kSq T sz j1) x 8 = x := by rw [kW_8 h8, if_neg (by omega)]
        refine hQ _ _ _ _ ⟨_, rfl, ?_, ?_, fun q => ?_, ⟨fun a ha => ?_, fun f hf2 => ?_, hm.2.2⟩, rfl⟩
        · rw [e]
          show _ = bI (kW (kSq T sz j1) x 8 == 0)
          rw [e4, beq_eq_false_iff_ne.mpr hx0]
        · rw [e]
          exact ⟨j1, fB_go hc h8 e4 hx0⟩
        · rw [e] at q
          exact absurd (e4.symm.trans q) hx0
        · rw [(fB_ad (J := J1)).1 a ha]; exact hm.1 a ha
        · rw [(fB_ad (J := J1)).2.1 f (Or.inl hf2)]; exact hm.2.1 f hf2
      by_cases h6 : kSq T sz j1 6 < n
      · rw [if_pos h6] at eN
        rw [eN, if_pos h8] at eS
        have hub := ubit hs1 (show kSq T sz j1 6 < 32 by omega)
        by_cases hb : s1.testBit (kSq T sz j1 6) = true
        · rw [if_pos hb] at eS
          rw [hb] at hub
          refine q_iload_n (pc' := 21) dX9_takeSet_20 rfl rfl (q_sipush (pc' := 24) _ dX9_takeSet_21 rfl kk_sipush_800 (q_icmp_ge (pc' := 27) (pt := 95) dX9_takeSet_24 rfl rfl (fun h9 => absurd h9 (Int32.not_le.mpr (nI_lt (by omega) (by decide)))) (fun _ => (q_aload_n (pc' := 28) dX9_takeSet_27 rfl rfl (q_getIe (pc' := 31) dX9_takeSet_28 rfl fr_RX9_96 ⟨by omega, rfl⟩ rfl e9 (q_iconst (pc' := 32) _ dX9_takeSet_31 rfl kk_iconst_2 (q_icmp_ne (pc' := 35) (pt := 95) dX9_takeSet_32 rfl rfl (fun h9 => absurd (congrArg nI h2) h9) (fun _ => (q_aload_n (pc' := 36) dX9_takeSet_35 rfl rfl (q_getIe (pc' := 39) dX9_takeSet_36 rfl fr_RX9_109 ⟨by omega, rfl⟩ rfl e12 (q_iload_n (pc' := 40) dX9_takeSet_39 rfl rfl (q_icmp_lt (pc' := 43) (pt := 49) dX9_takeSet_40 rfl rfl (fun _ => (q_aload_n (pc' := 50) dX9_takeSet_49 rfl rfl (q_getIe (pc' := 53) dX9_takeSet_50 rfl fr_RX9_127 ⟨by omega, rfl⟩ rfl h15 (q_aload_n (pc' := 54) dX9_takeSet_53 rfl rfl ?_)))) (fun h9 => absurd (nI_lt h6 (by omega)) h9)))))))))))))
          refine q_getIe (pc' := 57) dX9_takeSet_54 rfl fr_RX9_109 ⟨by omega, rfl⟩ rfl e12 (q_iushr (pc' := 58) dX9_takeSet_57 rfl (q_iconst (pc' := 59) _ dX9_takeSet_58 rfl kk_iconst_1 (q_iand (pc' := 60) dX9_takeSet_59 rfl (q_iconst (pc' := 61) _ dX9_takeSet_60 rfl kk_iconst_1 (q_icmp_ne (pc' := 64) (pt := 70) dX9_takeSet_61 rfl rfl (fun h9 => absurd (of_decide_eq_true hub) h9) (fun _ => (q_aload_n (pc' := 65) dX9_takeSet_64 rfl rfl (q_iconst (pc' := 66) _ dX9_takeSet_65 rfl kk_iconst_3 (q_cVi (pc' := 69) dX9_takeSet_66 rfl ml_RX9_123 yv_X9_blame (by decide) (rn_X9_blame) ⟨by omega, rfl⟩ rfl rfl (Nat.le_of_ble_eq_true rfl) (Nat.le_refl _) ?_)))))))))
          exact q_zret dX9_takeSet_69 rfl (Or.inl rfl) (fin 3 (by decide) (by decide) eS)
        · rw [if_neg hb] at eS
          rw [Bool.eq_false_iff.mpr hb] at hub
          refine q_iload_n (pc' := 21) dX9_takeSet_20 rfl rfl (q_sipush (pc' := 24) _ dX9_takeSet_21 rfl kk_sipush_800 (q_icmp_ge (pc' := 27) (pt := 95) dX9_takeSet_24 rfl rfl (fun h9 => absurd h9 (Int32.not_le.mpr (nI_lt (by omega) (by decide)))) (fun _ => (q_aload_n (pc' := 28) dX9_takeSet_27 rfl rfl (q_getIe (pc' := 31) dX9_takeSet_28 rfl fr_RX9_96 ⟨by omega, rfl⟩ rfl e9 (q_iconst (pc' := 32) _ dX9_takeSet_31 rfl kk_iconst_2 (q_icmp_ne (pc' := 35) (pt := 95) dX9_takeSet_32 rfl rfl (fun h9 => absurd (congrArg nI h2) h9) (fun _ => (q_aload_n (pc' := 36) dX9_takeSet_35 rfl rfl (q_getIe (pc' := 39) dX9_takeSet_36 rfl fr_RX9_109 ⟨by omega, rfl⟩ rfl e12 (q_iload_n (pc' := 40) dX9_takeSet_39 rfl rfl (q_icmp_lt (pc' := 43) (pt := 49) dX9_takeSet_40 rfl rfl (fun _ => (q_aload_n (pc' := 50) dX9_takeSet_49 rfl rfl (q_getIe (pc' := 53) dX9_takeSet_50 rfl fr_RX9_127 ⟨by omega, rfl⟩ rfl h15 (q_aload_n (pc' := 54) dX9_takeSet_53 rfl rfl ?_)))) (fun h9 => absurd (nI_lt h6 (by omega)) h9)))))))))))))
          refine q_getIe (pc' := 57) dX9_takeSet_54 rfl fr_RX9_109 ⟨by omega, rfl⟩ rfl e12 (q_iushr (pc' := 58) dX9_takeSet_57 rfl (q_iconst (pc' := 59) _ dX9_takeSet_58 rfl kk_iconst_1 (q_iand (pc' := 60) dX9_takeSet_59 rfl (q_iconst (pc' := 61) _ dX9_takeSet_60 rfl kk_iconst_1 (q_icmp_ne (pc' := 64) (pt := 70) dX9_takeSet_61 rfl rfl (fun _ => (q_aload_n (pc' := 71) dX9_takeSet_70 rfl rfl (q_dup_a (pc' := 72) dX9_takeSet_71 rfl (q_getIe (pc' := 75) dX9_takeSet_72 rfl fr_RX9_127 ⟨by omega, rfl⟩ rfl h15 (q_iconst (pc' := 76) _ dX9_takeSet_75 rfl kk_iconst_1 (q_aload_n (pc' := 77) dX9_takeSet_76 rfl rfl (q_getIe (pc' := 80) dX9_takeSet_77 rfl fr_RX9_109 ⟨by omega, rfl⟩ rfl e12 ?_))))))) (fun h9 => absurd h9 (of_decide_eq_false hub)))))))
          refine q_ishl dX9_takeSet_80 rfl ?_
          refine q_top (sh32 _ (by omega)) ?_
          refine q_ior (pc' := 82) dX9_takeSet_81 rfl ?_
          refine q_top (nI_or _ _) ?_
          refine q_putI (pc' := 85) dX9_takeSet_82 rfl fl_RX9_127 ⟨by omega, rfl⟩ rfl (q_aload_n (pc' := 86) dX9_takeSet_85 rfl rfl (q_tVv (pc' := 89) dX9_takeSet_86 rfl ml_RX9_76 yv_X9_advance (by decide) (rt_X9_adv hV hkw1 h800 (cRd_15 hr) (fun q => q.elim (fun q => by rw [h2] at q; cases q) (fun q => by rw [h2] at q; cases q))) ⟨by omega, rfl⟩ rfl rfl (Nat.le_of_ble_eq_true rfl) (Nat.le_refl _) (fun I2 J2 R2 ⟨c1, f1, f2, f3, hR2⟩ => ?_)))
          have hR2 : R2 = R := hR2
          rw [hR2]
          have hm2 : mA2 I J I2 J2 := ⟨fun a ha => by rw [f1 a ha, up_fI ha]; exact hm.1 a ha, fun f hf2 => by rw [f2 f (Or.inl hf2), mj_up_ne2 (by omega)]; exact hm.2.1 f hf2, fun a f hf2 => by rw [f3 a f hf2]; exact hm.2.2 a f hf2⟩
          have hf2 : I2 10 16 = nI 0 ∧ I2 10 17 = -1 := ⟨by rw [f2 16 (by decide), mj_up_ne2 (by decide)]; exact hf1.1, by rw [f2 17 (by decide), mj_up_ne2 (by decide)]; exact hf1.2⟩
          have h152 : I2 10 15 = nI (s1 ||| 2 ^ kSq T sz j1 6) := by rw [f2 15 (by decide), mj_up_eq]
          have hs2 : s1 ||| 2 ^ kSq T sz j1 6 < 2 ^ 32 := Nat.or_lt_two_pow hs1 (Nat.pow_lt_pow_right (by decide) (by omega))
          have h82 := (kSq_89 (T := T) (sz := sz) (j1 + 1)).1
          have hc2 : cCur I2 J2 T (kSq T sz (j1 + 1)) := by obtain ⟨m, _, _, hc, _⟩ := c1; exact hc
          have e92 := hc2.1.1
          have k52 := (kOK_sq (T := T) (sz := sz) (j1 + 1)).2.1
          by_cases h22 : kSq T sz (j1 + 1) 5 = 2
          · rw [if_pos ⟨h82, h22⟩] at eS
            refine q_inc_3 (pc' := 92) dX9_takeSet_89 rfl (by decide) rfl (q_goto (pc' := 20) dX9_takeSet_92 rfl ?_)
            exact ih (i + 1) (j1 + 1) _ I2 J2 (by omega) (by omega) eS.symm c1 h22 hs2 h152 hf2 hm2
          · rw [if_neg (fun q => h22 q.2)] at eS
            have done : Q (some (.int (bI true))) (472, I2, J2, R) := by
              refine hQ _ _ _ _ ⟨_, rfl, ?_, ⟨j1 + 1, ?_⟩, fun _ => ?_, hm2, rfl⟩
              · rw [eS]
                show _ = bI (kSq T sz (j1 + 1) 8 == 0)
                rw [h82]; rfl
              · rw [eS]
                exact Or.inl ⟨h82, rfl, c1, hf2.1, hf2.2⟩
              · rw [eS]; exact h152
            by_cases hi8 : i + 1 < 800
            · refine q_inc_3 (pc' := 92) dX9_takeSet_89 rfl (by decide) rfl (q_goto (pc' := 20) dX9_takeSet_92 rfl (q_iload_n (pc' := 21) dX9_takeSet_20 rfl rfl (q_sipush (pc' := 24) _ dX9_takeSet_21 rfl kk_sipush_800 (q_icmp_ge (pc' := 27) (pt := 95) dX9_takeSet_24 rfl rfl (fun h9 => absurd h9 (Int32.not_le.mpr (nI_lt (by omega) (by decide)))) (fun _ => (q_aload_n (pc' := 28) dX9_takeSet_27 rfl rfl (q_getIe (pc' := 31) dX9_takeSet_28 rfl fr_RX9_96 ⟨by omega, rfl⟩ rfl e92 (q_iconst (pc' := 32) _ dX9_takeSet_31 rfl kk_iconst_2 (q_icmp_ne (pc' := 35) (pt := 95) dX9_takeSet_32 rfl rfl (fun _ => (q_iconst (pc' := 96) _ dX9_takeSet_95 rfl kk_iconst_1 ?_)) (fun h9 => absurd h9 (nI_ne h22 (by omega) (by decide))))))))))))
              exact q_zret dX9_takeSet_96 rfl (Or.inr rfl) done
            · refine q_inc_3 (pc' := 92) dX9_takeSet_89 rfl (by decide) rfl (q_goto (pc' := 20) dX9_takeSet_92 rfl (q_iload_n (pc' := 21) dX9_takeSet_20 rfl rfl (q_sipush (pc' := 24) _ dX9_takeSet_21 rfl kk_sipush_800 (q_icmp_ge (pc' := 27) (pt := 95) dX9_takeSet_24 rfl rfl (fun _ => (q_iconst (pc' := 96) _ dX9_takeSet_95 rfl kk_iconst_1 ?_)) (fun h9 => absurd (nI_le (by omega) (by omega)) h9)))))
              exact q_zret dX9_takeSet_96 rfl (Or.inr rfl) done
      · rw [if_neg h6] at eN
        have e4 : kW (kSq T sz j1) 4 8 = 4 := by rw [kW_8 h8, if_neg (by omega)]
        rw [eN, if_neg (by rw [e4]; decide)] at eS
        refine q_iload_n (pc' := 21) dX9_takeSet_20 rfl rfl (q_sipush (pc' := 24) _ dX9_takeSet_21 rfl kk_sipush_800 (q_icmp_ge (pc' := 27) (pt := 95) dX9_takeSet_24 rfl rfl (fun h9 => absurd h9 (Int32.not_le.mpr (nI_lt (by omega) (by decide)))) (fun _ => (q_aload_n (pc' := 28) dX9_takeSet_27 rfl rfl (q_getIe (pc' := 31) dX9_takeSet_28 rfl fr_RX9_96 ⟨by omega, rfl⟩ rfl e9 (q_iconst (pc' := 32) _ dX9_takeSet_31 rfl kk_iconst_2 (q_icmp_ne (pc' := 35) (pt := 95) dX9_takeSet_32 rfl rfl (fun h9 => absurd (congrArg nI h2) h9) (fun _ => (q_aload_n (pc' := 36) dX9_takeSet_35 rfl rfl (q_getIe (pc' := 39) dX9_takeSet_36 rfl fr_RX9_109 ⟨by omega, rfl⟩ rfl e12 (q_iload_n (pc' := 40) dX9_takeSet_39 rfl rfl (q_icmp_lt (pc' := 43) (pt := 49) dX9_takeSet_40 rfl rfl (fun h9 => absurd h9 (Int32.not_lt.mpr (nI_le (by omega) (by omega)))) (fun _ => (q_aload_n (pc' := 44) dX9_takeSet_43 rfl rfl (q_iconst (pc' := 45) _ dX9_takeSet_44 rfl kk_iconst_4 (q_cVi (pc' := 48) dX9_takeSet_45 rfl ml_RX9_123 yv_X9_blame (by decide) (rn_X9_blame) ⟨by omega, rfl⟩ rfl rfl (Nat.le_of_ble_eq_true rfl) (Nat.le_refl _) ?_))))))))))))))))
        exact q_zret dX9_takeSet_48 rfl (Or.inl rfl) (fin 4 (by decide) (by decide) eS)
  have hc : cCur I J T (kSq T sz j) := by obtain ⟨m, _, _, hc, _⟩ := h; exact hc
  have k5 := (kOK_sq (T := T) (sz := sz) j).2.1
  have h8 := (kSq_89 (T := T) (sz := sz) j).1
  have e9 : mj_up I 10 15 (nI s) 10 9 = nI (kSq T sz j 5) := (mj_up_ne2 (by decide)).trans hc.1.1
  have hm0 : mA2 I J (mj_up I 10 15 (nI s)) J := ⟨fun a ha => up_fI ha, fun f hf2 => mj_up_ne2 (by omega), fun _ _ _ => rfl⟩
  have hr0 := cRd_15 (x := nI s) h
  have hc0 : cCur (mj_up I 10 15 (nI s)) J T (kSq T sz j) := by obtain ⟨m, _, _, hc, _⟩ := hr0; exact hc
  by_cases h2 : kSq T sz j 5 = 2
  · refine q_aload_n (pc' := 1) dX9_takeSet_0 rfl rfl (q_iload_n (pc' := 2) dX9_takeSet_1 rfl rfl (q_putI (pc' := 5) dX9_takeSet_2 rfl fl_RX9_127 ⟨by omega, rfl⟩ rfl (q_aload_n (pc' := 6) dX9_takeSet_5 rfl rfl (q_getIe (pc' := 9) dX9_takeSet_6 rfl fr_RX9_96 ⟨by omega, rfl⟩ rfl e9 (q_iconst (pc' := 10) _ dX9_takeSet_9 rfl kk_iconst_2 (q_icmp_eq (pc' := 13) (pt := 18) dX9_takeSet_10 rfl rfl (fun _ => (q_iconst (pc' := 19) _ dX9_takeSet_18 rfl kk_iconst_0 (q_ist_3 (pc' := 20) dX9_takeSet_19 rfl (by decide) rfl ?_))) (fun h9 => absurd (congrArg nI h2) h9)))))))
    exact loop 802 0 j s _ J rfl (Nat.zero_le _) rfl hr0 h2 hs mj_up_eq ⟨(mj_up_ne2 (by decide)).trans hf.1, (mj_up_ne2 (by decide)).trans hf.2⟩ hm0
  · have eN : kN (kSq T sz j) (nI 0) (nI n - nI 1) = kW (kSq T sz j) 2 := by
      unfold kN
      rw [if_pos h8, if_neg h2]
    have e4 : kW (kSq T sz j) 2 8 = if kSq T sz j 5 = 4 then 1 else 2 := kW_8 h8
    have e5 : ¬ (if kSq T sz j 5 = 4 then 1 else 2) = 0 := by split <;> decide
    have e6 : ¬ kN (kSq T sz j) (nI 0) (nI n - nI 1) 8 = 0 := by rw [eN, e4]; exact e5
    have eS : kSet T sz n 802 s (kSq T sz j) = (s, kW (kSq T sz j) 2) := by
      have e7 : kSet T sz n (801 + 1) s (kSq T sz j) = (s, kN (kSq T sz j) (nI 0) (nI n - nI 1)) := by
        unfold kSet
        exact if_neg e6
      rw [eN] at e7
      exact e7
    refine q_aload_n (pc' := 1) dX9_takeSet_0 rfl rfl (q_iload_n (pc' := 2) dX9_takeSet_1 rfl rfl (q_putI (pc' := 5) dX9_takeSet_2 rfl fl_RX9_127 ⟨by omega, rfl⟩ rfl (q_aload_n (pc' := 6) dX9_takeSet_5 rfl rfl (q_getIe (pc' := 9) dX9_takeSet_6 rfl fr_RX9_96 ⟨by omega, rfl⟩ rfl e9 (q_iconst (pc' := 10) _ dX9_takeSet_9 rfl kk_iconst_2 (q_icmp_eq (pc' := 13) (pt := 18) dX9_takeSet_10 rfl rfl (fun h9 => absurd h9 (nI_ne h2 (by omega) (by decide))) (fun _ => (q_aload_n (pc' := 14) dX9_takeSet_13 rfl rfl (q_cVi (pc' := 17) dX9_takeSet_14 rfl ml_RX9_119 yv_X9_blameToken (by decide) (rn_X9_blameToken e9 k5) ⟨by omega, rfl⟩ rfl rfl (Nat.le_of_ble_eq_true rfl) (Nat.le_refl _) ?_)))))))))
    refine q_zret dX9_takeSet_17 rfl (Or.inl rfl) (hQ _ _ _ _ ⟨_, rfl, ?_, ?_, fun q => ?_, ⟨fun a ha => ?_, fun f hf2 => ?_, hm0.2.2⟩, rfl⟩)
    · rw [eS]
      show _ = bI (kW (kSq T sz j) 2 8 == 0)
      rw [e4, beq_eq_false_iff_ne.mpr e5]
    · rw [eS]
      exact ⟨j, fB_go hc0 h8 e4 e5⟩
    · rw [eS] at q
      exact absurd (e4.symm.trans q) e5
    · rw [up_fI ha, up_fI ha]; exact hm0.1 a ha
    · rw [mj_up_ne2 (by omega), mj_up_ne2 (by omega)]; exact hm0.2.1 f hf2
end TOK9
