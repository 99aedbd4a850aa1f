/-! ===== the class: an order read, its pieces ===== -/
/-- the names of the class's board -/
def cN (I : mj_M) (J : mj_J) (b : St) : Prop := ∀ d, d < b 0 2 → I 6 d = nI (b 4 d) ∧ ∃ f : Nat → Nat, ltr f 0 (b 4 d) ∧ b 5 d = wV f 0 (b 4 d) ∧ J 5 d = nJ (wP f 0 (b 4 d))
/-- nothing changes but the reading and one number of an order -/
def mOa (x k : Nat) (I : mj_M) (J : mj_J) (I' : mj_M) (J' : mj_J) : Prop := (∀ a, a ≠ 10 → a ≠ x → I' a = I a) ∧ (∀ q, q ≠ k → I' x q = I x q) ∧ (∀ f, f < 8 → I' 10 f = I 10 f) ∧ (∀ a f, ¬ (a = 10 ∧ f = 13) → J' a f = J a f)
theorem mOa_ad {x k : Nat} {I I' : mj_M} {J J' : mj_J} (hx : x ≠ 10) (h : mAd I J I' J') : mOa x k I J I' J' := ⟨fun a h1 _ => h.1 a h1, fun q _ => congrFun (h.1 x hx) q, fun f hf => h.2.1 f (Or.inl hf), h.2.2⟩
theorem mOa_a2 {x k : Nat} {I I' : mj_M} {J J' : mj_J} (hx : x ≠ 10) (h : mA2 I J I' J') : mOa x k I J I' J' := ⟨fun a h1 _ => h.1 a h1, fun q _ => congrFun (h.1 x hx) q, h.2.1, h.2.2⟩
theorem mOa.tr {x k : Nat} {I I' I2 : mj_M} {J J' J2 : mj_J} (h : mOa x k I J I' J') (h2 : mOa x k I' J' I2 J2) : mOa x k I J I2 J2 := ⟨fun a h1 h3 => (h2.1 a h1 h3).trans (h.1 a h1 h3), fun q hq => (h2.2.1 q hq).trans (h.2.1 q hq), fun f hf => (h2.2.2.1 f hf).trans (h.2.2.1 f hf), fun a f hf => (h2.2.2.2 a f hf).trans (h.2.2.2 a f hf)⟩
theorem mOa_up {x k : Nat} {I : mj_M} {J : mj_J} {v : Int32} (hx : x ≠ 10) : mOa x k I J (mj_up I x k v) J := ⟨fun a _ h => up_fI h, fun q hq => mj_up_ne2 hq, fun f _ => mj_up_ne (fun e => hx e.symm), fun _ _ _ => rfl⟩
theorem kNi_bad {T : Nat → Nat} {sz : Nat} {K : Nat → Nat} {x y : Int32} (h : K 8 ≠ 0) : kNi T sz K x y = K := by
  unfold kNi
  rw [kN_bad h, if_neg h]
theorem kSetOf_bad {T : Nat → Nat} {sz n s : Nat} {K : Nat → Nat} (h : K 8 ≠ 0) : (kSetOf T sz n s K).2 = K := by
  unfold kSetOf
  rw [if_neg h]
theorem odTo_bad {T : Nat → Nat} {sz : Nat} {K : Nat → Nat} (h : K 8 ≠ 0) : odTo T sz K = K := by
  unfold odTo
  rw [if_neg (Bool.eq_false_iff.mp (kIs_bad h)), kW_bad h]
  exact kG_bad h
theorem kN_bd {K : Nat → Nat} {x y : Int32} (h8 : K 8 = 0) (h : kN K x y 8 ≠ 0) : ∃ v, kN K x y = kW K v := by
  unfold kN at h ⊢
  rw [if_pos h8] at h ⊢
  by_cases h2 : K 5 = 2
  · rw [if_pos h2] at h ⊢
    by_cases hr : x ≤ nI (K 6) ∧ nI (K 6) ≤ y
    · rw [if_pos hr] at h
      exact absurd h8 h
    · rw [if_neg hr]; exact ⟨4, rfl⟩
  · rw [if_neg h2]; exact ⟨2, rfl⟩
section OT1
variable {w : mj_Wd} {l : Launch} {I : mj_M} {J : mj_J} {R : mj_R} {T : Nat → Nat} {sz : Nat} {b : St}
theorem rt_X3_readName {j k : Nat} (hV : mj_wV R) (hB : mj_wB R 4) (hkw : cKw J) (h800 : sz ≤ 800) (h : cRd I J T sz j) (h5 : kSq T sz j 5 = 1) (hb4 : I 4 4 = nI (b 0 2)) (hN : cN I J b) (hR : bRd b) (hk : k < 160) (hf : I 10 16 = nI 0 ∧ I 10 17 = -1) : RtI w l yX3_readName dd_X3_readName [.ref 23, .int (nI k)] (472, I, J, R) (fun r I' J' R' => r = bI (kKd T sz b (kSq T sz (j + 1)) 8 == 0) ∧ (∃ j', cGo I' J' T sz j' (kKd T sz b (kSq T sz (j + 1)))) ∧ (kKd T sz b (kSq T sz (j + 1)) 8 = 0 → I' 25 k = lD (oR (dLast b (kWd (kSq T sz (j + 1))) (b 0 2)))) ∧ mOa 25 k I J I' J' ∧ R' = R) := by
  have o4 : mj_ok 472 4 0 := ⟨by omega, rfl⟩
  have oa5 : mj_oka 472 5 15 10 := ⟨by omega, rfl⟩
  refine rt_intro2 (L := [some (.ref 23), some (.int (nI k))]) ⟨by decide, rfl, (fun h => by cases h)⟩ (Nat.le_of_ble_eq_true rfl) rfl (fun Y Q hQ => ?_)
  refine q_aload_n (pc' := 1) dX3_readName_0 rfl rfl (q_getR (pc' := 4) dX3_readName_1 rfl fr_RX3_24 ⟨by omega, rfl⟩ rfl (wV_3_0 hV) (by decide) (q_tVv (pc' := 7) dX3_readName_4 rfl ml_RX3_65 yv_X9_advance (by decide) (rt_X9_adv hV hkw h800 h (by rw [h5]; decide)) ⟨by omega, rfl⟩ rfl rfl (Nat.le_of_ble_eq_true rfl) (Nat.le_refl _) (fun I1 J1 R1 ⟨c1, f1, f2, f3, eR1⟩ => ?_)))
  have eR1 : R1 = R := eR1
  rw [eR1]
  have m1 : mAd I J I1 J1 := ⟨f1, fun f hf2 => f2 f (by omega), f3⟩
  have hf1 : I1 10 16 = nI 0 ∧ I1 10 17 = -1 := ⟨by rw [f2 16 (by decide)]; exact hf.1, by rw [f2 17 (by decide)]; exact hf.2⟩
  have hkw1 : cKw J1 := fun q hq => (f3 11 q (fun q2 => absurd q2.1 (by decide))).trans (hkw q hq)
  have hc1 : cCur I1 J1 T (kSq T sz (j + 1)) := by obtain ⟨m, _, _, hc, _⟩ := c1; exact hc
  have h81 := (kSq_89 (T := T) (sz := sz) (j + 1)).1
  have hk1 := kOK_sq (T := T) (sz := sz) (j + 1)
  refine q_aload_n (pc' := 8) dX3_readName_7 rfl rfl (q_getR (pc' := 11) dX3_readName_8 rfl fr_RX3_24 ⟨by omega, rfl⟩ rfl (wV_3_0 hV) (by decide) (q_cVi (pc' := 14) dX3_readName_11 rfl ml_RX3_75 yv_X9_fitsName (by decide) (rn_X9_fitsName hc1 hk1 h800 h81 kSq_kw) ⟨by omega, rfl⟩ rfl rfl (Nat.le_of_ble_eq_true rfl) (Nat.le_refl _) ?_))
  by_cases hg : kNm (kSq T sz (j + 1)) 8 = 0
  · obtain ⟨eN, -, g5, g7⟩ := kNm8 hg
    rw [if_pos hg]
    have l1 : ltr T (kSq T sz (j + 1) 4) (kSq T sz (j + 1) 7) ∧ kSq T sz (j + 1) 12 = wV T (kSq T sz (j + 1) 4) (kSq T sz (j + 1) 7) := by
      have g5' := g5
      rw [kSq_pv] at g5'
      have := tk_ltr g5'
      rw [← kSq_pv] at this
      exact this
    obtain ⟨nm, hnm, hnm2⟩ := nm_of (n := b 0 2) (a := 5) (J := J1) (D := b) (fun d hd => (hR.2.1 d hd).1.2) (fun d hd => by rw [f3 5 d (fun q => absurd q.1 (by decide))]; exact (hN d hd).2)
    have eF := dF_last (b := b) (nm := nm) (x := wP T (kSq T sz (j + 1) 4) (kSq T sz (j + 1) 7)) (y := kSq T sz (j + 1) 12) (n := b 0 2) (fun d hd => by rw [l1.2]; exact hnm2 d hd _ _ _ g7 l1.1) hR.2.2.2.2
    have e13 : J1 10 13 = nJ (wP T (kSq T sz (j + 1) 4) (kSq T sz (j + 1) 7)) := by rw [hc1.2.2.1, if_pos g5]
    have hwp : wP T (kSq T sz (j + 1) 4) (kSq T sz (j + 1) 7) < 2 ^ 63 := Nat.lt_trans (kSq_wP g5) (by decide)
    have ew : kWd (kSq T sz (j + 1)) = kSq T sz (j + 1) 12 := if_pos h81
    have e44 : I1 4 4 = nI (b 0 2) := by rw [f1 4 (by decide)]; exact hb4
    refine q_ifb_ne (pc' := 17) (pt := 19) dX3_readName_14 rfl rfl (fun _ => (q_aload_n (pc' := 20) dX3_readName_19 rfl rfl (q_getR (pc' := 23) dX3_readName_20 rfl fr_RX3_15 ⟨by omega, rfl⟩ rfl (wV_3_4 hV) (by decide) (q_iload_n (pc' := 24) dX3_readName_23 rfl rfl (q_aload_n (pc' := 25) dX3_readName_24 rfl rfl (q_getR (pc' := 28) dX3_readName_25 rfl fr_RX3_28 ⟨by omega, rfl⟩ rfl (wV_3_1 hV) (by decide) (q_aload_n (pc' := 29) dX3_readName_28 rfl rfl (q_getR (pc' := 32) dX3_readName_29 rfl fr_RX3_24 ⟨by omega, rfl⟩ rfl (wV_3_0 hV) (by decide) (q_getJ (pc' := 35) dX3_readName_32 rfl fr_RX3_78 ⟨by omega, rfl⟩ rfl ?_))))))))) (fun h9 => Bool.noConfusion (Eq.trans (Eq.symm (beq_iff_eq.mpr hg)) h9))
    rw [e13]
    refine q_cVi (pc' := 38) dX3_readName_35 rfl ml_RX3_82 yv_X0_deviceNamed (by decide) (rn_X0_deviceNamed (nm := nm) o4 hB (by decide) oa5 e44 hR.1.2.2.1 hnm hwp) (by first | assumption | exact ⟨by omega, rfl⟩) rfl rfl (Nat.le_of_ble_eq_true rfl) (Nat.le_refl _) (q_iast (pc' := 39) (k) dX3_readName_38 rfl (by first | exact ⟨by omega, rfl⟩ | exact okaS hi hz (by decide) rfl | assumption) (by (first | (simp only [nI_add, pk_mul]; done) | (simp only [nI_add, pk_mul]; exact nI_e (by omega)) | exact nI_e (by omega))) (by omega) ?_)
    rw [eF]
    have hc2 : cCur (mj_up I1 25 k (lD (oR (dLast b (kSq T sz (j + 1) 12) (b 0 2))))) J1 T (kSq T sz (j + 1)) := by
      unfold cCur
      rw [up_fI (by decide)]
      exact hc1
    cases hl : dLast b (kSq T sz (j + 1) 12) (b 0 2) with
    | none =>
      have e8 : kW (kSq T sz (j + 1)) 3 8 = 3 := by rw [kW_8 h81, if_neg (by omega)]
      have hb : kW (kSq T sz (j + 1)) 3 8 ≠ 0 := kW8 (by decide)
      have eK : kKd T sz b (kSq T sz (j + 1)) = kW (kSq T sz (j + 1)) 3 := by
        have e1 : kKd1 b (kSq T sz (j + 1)) = kW (kSq T sz (j + 1)) 3 := by
          unfold kKd1
          rw [ew, hl, eN, if_pos ⟨h81, rfl⟩]
        unfold kKd
        rw [e1, if_neg hb]
      rw [eK, e8] at hQ
      rw [hl] at hc2
      refine q_aload_n (pc' := 40) dX3_readName_39 rfl rfl (q_getR (pc' := 43) dX3_readName_40 rfl fr_RX3_15 ⟨by omega, rfl⟩ rfl (wV_3_4 hV) (by decide) (q_iload_n (pc' := 44) dX3_readName_43 rfl rfl (q_ialde (pc' := 45) (k) dX3_readName_44 rfl (by first | exact ⟨by omega, rfl⟩ | exact okaS hi hz (by decide) rfl | assumption) (by (first | (simp only [nI_add, pk_mul]; done) | (simp only [nI_add, pk_mul]; exact nI_e (by omega)) | exact nI_e (by omega))) (by omega) mj_up_eq (q_iconst (pc' := 46) _ dX3_readName_45 rfl kk_iconst_m1 (q_icmp_ne (pc' := 49) (pt := 58) dX3_readName_46 rfl rfl (fun h9 => absurd (rfl) h9) (fun _ => (q_aload_n (pc' := 50) dX3_readName_49 rfl rfl (q_getR (pc' := 53) dX3_readName_50 rfl fr_RX3_24 ⟨by omega, rfl⟩ rfl (wV_3_0 hV) (by decide) (q_iconst (pc' := 54) _ dX3_readName_53 rfl kk_iconst_3 (q_cVi (pc' := 57) dX3_readName_54 rfl ml_RX3_86 yv_X9_blame (by decide) (rn_X9_blame) ⟨by omega, rfl⟩ rfl rfl (Nat.le_of_ble_eq_true rfl) (Nat.le_refl _) ?_))))))))))
      exact q_zret dX3_readName_57 rfl (Or.inl rfl) (hQ _ _ _ _ ⟨_, rfl, rfl, ⟨j, fB_go hc2 h81 e8 (by decide)⟩, fun q => absurd q (by decide), ((mOa_ad (by decide) m1).tr (mOa_up (by decide))).tr (mOa_ad (by decide) (fB_ad (x := 3))), rfl⟩)
    | some q =>
      have hq := (dLast_lt hl).1
      have h10 := hR.1.2.2.1
      have eK : kKd T sz b (kSq T sz (j + 1)) = kSq T sz (j + 2) := by
        have e1 : kKd1 b (kSq T sz (j + 1)) = kSq T sz (j + 1) := by
          unfold kKd1
          rw [ew, hl, eN, if_neg (fun q => by cases q.2)]
        unfold kKd
        rw [e1, if_pos h81]
        rfl
      have h82 := (kSq_89 (T := T) (sz := sz) (j + 2)).1
      rw [eK, h82, ew, hl] at hQ
      have hr2 : cRd (mj_up I1 25 k (lD (oR (some q)))) J1 T sz (j + 1) := cRd_o (fun a _ g => up_fI (by omega)) c1
      have en : ¬ lD (oR (some q)) = -1 := fun q2 => absurd ((lD_m1 (v := q + 1) (by omega)).mp q2) (by omega)
      refine q_aload_n (pc' := 40) dX3_readName_39 rfl rfl (q_getR (pc' := 43) dX3_readName_40 rfl fr_RX3_15 ⟨by omega, rfl⟩ rfl (wV_3_4 hV) (by decide) (q_iload_n (pc' := 44) dX3_readName_43 rfl rfl (q_ialde (pc' := 45) (k) dX3_readName_44 rfl (by first | exact ⟨by omega, rfl⟩ | exact okaS hi hz (by decide) rfl | assumption) (by (first | (simp only [nI_add, pk_mul]; done) | (simp only [nI_add, pk_mul]; exact nI_e (by omega)) | exact nI_e (by omega))) (by omega) mj_up_eq (q_iconst (pc' := 46) _ dX3_readName_45 rfl kk_iconst_m1 (q_icmp_ne (pc' := 49) (pt := 58) dX3_readName_46 rfl rfl (fun _ => (q_aload_n (pc' := 59) dX3_readName_58 rfl rfl (q_getR (pc' := 62) dX3_readName_59 rfl fr_RX3_24 ⟨by omega, rfl⟩ rfl (wV_3_0 hV) (by decide) (q_tVv (pc' := 65) dX3_readName_62 rfl ml_RX3_65 yv_X9_advance (by decide) (rt_X9_adv hV hkw1 h800 hr2 (by rw [g5]; decide)) ⟨by omega, rfl⟩ rfl rfl (Nat.le_of_ble_eq_true rfl) (Nat.le_refl _) (fun I3 J3 R3 ⟨c3, k1, k2, k3, eR3⟩ => ?_))))) (fun h9 => absurd h9 (en)))))))
      have eR3 : R3 = R := eR3
      rw [eR3]
      have m3 : mAd (mj_up I1 25 k (lD (oR (some q)))) J1 I3 J3 := ⟨k1, fun f hf2 => k2 f (by omega), k3⟩
      refine q_iconst (pc' := 66) _ dX3_readName_65 rfl kk_iconst_1 ?_
      refine q_zret dX3_readName_66 rfl (Or.inr rfl) (hQ _ _ _ _ ⟨_, rfl, rfl, ⟨j + 2, Or.inl ⟨h82, rfl, c3, ?_, ?_⟩⟩, fun _ => ?_, ((mOa_ad (by decide) m1).tr (mOa_up (by decide))).tr (mOa_ad (by decide) m3), rfl⟩)
      · rw [k2 16 (by decide), mj_up_ne (by decide)]; exact hf1.1
      · rw [k2 17 (by decide), mj_up_ne (by decide)]; exact hf1.2
      · rw [k1 25 (by decide)]; exact mj_up_eq
  · have eN := kNm_bad h81 hg
    have eK : kKd T sz b (kSq T sz (j + 1)) = kNm (kSq T sz (j + 1)) := by
      have e1 : kKd1 b (kSq T sz (j + 1)) = kNm (kSq T sz (j + 1)) := if_neg (fun q => hg q.1)
      unfold kKd
      rw [e1, if_neg hg]
    rw [eK, beq_eq_false_iff_ne.mpr hg, eN] at hQ
    rw [eN] at hg ⊢
    rw [if_neg hg]
    refine q_ifb_ne (pc' := 17) (pt := 19) dX3_readName_14 rfl rfl (fun h9 => Bool.noConfusion (Eq.trans (Eq.symm (beq_eq_false_iff_ne.mpr hg)) h9)) (fun _ => (q_iconst (pc' := 18) _ dX3_readName_17 rfl kk_iconst_0 ?_))
    exact q_zret dX3_readName_18 rfl (Or.inl rfl) (hQ _ _ _ _ ⟨_, rfl, rfl, ⟨j, fB_go hc1 h81 rfl hg⟩, fun q => absurd q hg, (mOa_ad (by decide) m1).tr (mOa_ad (by decide) fB_ad), rfl⟩)
theorem rt_X3_readNumber {j k : Nat} {lo hi : Int32} (hV : mj_wV R) (hkw : cKw J) (h800 : sz ≤ 800) (h : cRd I J T sz j) (hk : k < 160) (hf : I 10 16 = nI 0 ∧ I 10 17 = -1) : RtI w l yX3_readNumber dd_X3_readNumber [.ref 23, .int (nI k), .int lo, .int hi] (472, I, J, R) (fun r I' J' R' => r = bI (kNi T sz (kSq T sz j) lo hi 8 == 0) ∧ (∃ j', cGo I' J' T sz j' (kNi T sz (kSq T sz j) lo hi)) ∧ (kNi T sz (kSq T sz j) lo hi 8 = 0 → I' 26 k = nI (kSq T sz j 6)) ∧ mOa 26 k I J I' J' ∧ R' = R) := by
  have hc : cCur I J T (kSq T sz j) := by obtain ⟨m, _, _, hc, _⟩ := h; exact hc
  have h8 := (kSq_89 (T := T) (sz := sz) j).1
  have h81 := (kSq_89 (T := T) (sz := sz) (j + 1)).1
  refine rt_intro2 (L := [some (.ref 23), some (.int (nI k)), some (.int lo), some (.int hi)]) ⟨by decide, rfl, (fun h => by cases h)⟩ (Nat.le_of_ble_eq_true rfl) rfl (fun Y Q hQ => ?_)
  refine q_aload_n (pc' := 1) dX3_readNumber_0 rfl rfl (q_getR (pc' := 4) dX3_readNumber_1 rfl fr_RX3_24 ⟨by omega, rfl⟩ rfl (wV_3_0 hV) (by decide) (q_iload_n (pc' := 5) dX3_readNumber_4 rfl rfl (q_iload_n (pc' := 6) dX3_readNumber_5 rfl rfl (q_cVi (pc' := 9) dX3_readNumber_6 rfl ml_RX3_89 yv_X9_fitsNumber (by decide) (rn_X9_fitsNumber hc (kOK_sq j) h8) ⟨by omega, rfl⟩ rfl rfl (Nat.le_of_ble_eq_true rfl) (Nat.le_refl _) ?_))))
  by_cases hg : kN (kSq T sz j) lo hi 8 = 0
  · obtain ⟨eN, -, h52, -⟩ := kN_gd hg
    have e12 : I 10 12 = nI (kSq T sz j 6) := by rw [hc.2.2.2.1, if_pos h52]
    have eI : kNi T sz (kSq T sz j) lo hi = kSq T sz (j + 1) := by
      unfold kNi
      rw [if_pos hg, eN]
      rfl
    rw [eI, h81] at hQ
    rw [if_pos hg]
    have hr2 : cRd (mj_up I 26 k (nI (kSq T sz j 6))) J T sz j := cRd_o (fun a _ g => up_fI (by omega)) h
    refine q_ifb_ne (pc' := 12) (pt := 14) dX3_readNumber_9 rfl rfl (fun _ => (q_aload_n (pc' := 15) dX3_readNumber_14 rfl rfl (q_getR (pc' := 18) dX3_readNumber_15 rfl fr_RX3_18 ⟨by omega, rfl⟩ rfl (wV_3_5 hV) (by decide) (q_iload_n (pc' := 19) dX3_readNumber_18 rfl rfl (q_aload_n (pc' := 20) dX3_readNumber_19 rfl rfl (q_getR (pc' := 23) dX3_readNumber_20 rfl fr_RX3_24 ⟨by omega, rfl⟩ rfl (wV_3_0 hV) (by decide) (q_getIe (pc' := 26) dX3_readNumber_23 rfl fr_RX3_93 ⟨by omega, rfl⟩ rfl e12 (q_iast (pc' := 27) (k) dX3_readNumber_26 rfl (by first | exact ⟨by omega, rfl⟩ | exact okaS hi hz (by decide) rfl | assumption) (by (first | (simp only [nI_add, pk_mul]; done) | (simp only [nI_add, pk_mul]; exact nI_e (by omega)) | exact nI_e (by omega))) (by omega) (q_aload_n (pc' := 28) dX3_readNumber_27 rfl rfl (q_getR (pc' := 31) dX3_readNumber_28 rfl fr_RX3_24 ⟨by omega, rfl⟩ rfl (wV_3_0 hV) (by decide) (q_tVv (pc' := 34) dX3_readNumber_31 rfl ml_RX3_65 yv_X9_advance (by decide) (rt_X9_adv hV hkw h800 hr2 (by rw [h52]; decide)) ⟨by omega, rfl⟩ rfl rfl (Nat.le_of_ble_eq_true rfl) (Nat.le_refl _) (fun I3 J3 R3 ⟨c3, k1, k2, k3, eR3⟩ => ?_)))))))))))) (fun h9 => Bool.noConfusion (Eq.trans (Eq.symm (beq_iff_eq.mpr hg)) h9))
    have eR3 : R3 = R := eR3
    rw [eR3]
    have m3 : mAd (mj_up I 26 k (nI (kSq T sz j 6))) J I3 J3 := ⟨k1, fun f hf2 => k2 f (by omega), k3⟩
    refine q_iconst (pc' := 35) _ dX3_readNumber_34 rfl kk_iconst_1 ?_
    refine q_zret dX3_readNumber_35 rfl (Or.inr rfl) (hQ _ _ _ _ ⟨_, rfl, rfl, ⟨j + 1, Or.inl ⟨h81, rfl, c3, ?_, ?_⟩⟩, fun _ => ?_, (mOa_up (by decide)).tr (mOa_ad (by decide) m3), rfl⟩)
    · rw [k2 16 (by decide), mj_up_ne (by decide)]; exact hf.1
    · rw [k2 17 (by decide), mj_up_ne (by decide)]; exact hf.2
    · rw [k1 26 (by decide)]; exact mj_up_eq
  · have eI : kNi T sz (kSq T sz j) lo hi = kN (kSq T sz j) lo hi := by
      unfold kNi
      rw [if_neg hg]
    obtain ⟨v, eN⟩ := kN_bd h8 hg
    rw [eI, beq_eq_false_iff_ne.mpr hg, eN] at hQ
    rw [eN] at hg ⊢
    rw [if_neg hg]
    refine q_ifb_ne (pc' := 12) (pt := 14) dX3_readNumber_9 rfl rfl (fun h9 => Bool.noConfusion (Eq.trans (Eq.symm (beq_eq_false_iff_ne.mpr hg)) h9)) (fun _ => (q_iconst (pc' := 13) _ dX3_readNumber_12 rfl kk_iconst_0 ?_))
    exact q_zret dX3_readNumber_13 rfl (Or.inl rfl) (hQ _ _ _ _ ⟨_, rfl, rfl, ⟨j, fB_go hc h8 rfl hg⟩, fun q => absurd q hg, mOa_ad (by decide) fB_ad, rfl⟩)
theorem rt_X3_readTo {j k : Nat} (hV : mj_wV R) (hB : mj_wB R 4) (hkw : cKw J) (h800 : sz ≤ 800) (h : cRd I J T sz j) (hb0 : I 4 0 = nI (b 0 0)) (hn : 1 ≤ b 0 0 ∧ b 0 0 ≤ 8) (hk : k < 160) (hf : I 10 16 = nI 0 ∧ I 10 17 = -1) : RtI w l yX3_readTo dd_X3_readTo [.ref 23, .int (nI k)] (472, I, J, R) (fun r I' J' R' => r = bI ((kSetOf T sz (b 0 0) 0 (odTo T sz (kSq T sz j))).2 8 == 0) ∧ (∃ j', cGo I' J' T sz j' (kSetOf T sz (b 0 0) 0 (odTo T sz (kSq T sz j))).2) ∧ ((kSetOf T sz (b 0 0) 0 (odTo T sz (kSq T sz j))).2 8 = 0 → I' 27 k = nI (kSetOf T sz (b 0 0) 0 (odTo T sz (kSq T sz j))).1) ∧ mOa 27 k I J I' J' ∧ R' = R) := by
  have o4 : mj_ok 472 4 0 := ⟨by omega, rfl⟩
  have h8 := (kSq_89 (T := T) (sz := sz) j).1
  have h81 := (kSq_89 (T := T) (sz := sz) (j + 1)).1
  refine rt_intro2 (L := [some (.ref 23), some (.int (nI k))]) ⟨by decide, rfl, (fun h => by cases h)⟩ (Nat.le_of_ble_eq_true rfl) rfl (fun Y Q hQ => ?_)
  refine q_aload_n (pc' := 1) dX3_readTo_0 rfl rfl (q_getR (pc' := 4) dX3_readTo_1 rfl fr_RX3_24 ⟨by omega, rfl⟩ rfl (wV_3_0 hV) (by decide) (q_bipush (pc' := 6) _ dX3_readTo_4 rfl kk_bipush_15 (q_tVi (pc' := 9) dX3_readTo_6 rfl ml_RX3_95 yv_X9_takeWord (by decide) (rt_X9_takeWord (q := 15) hV hkw h800 h (by decide) hf) ⟨by omega, rfl⟩ rfl rfl (Nat.le_of_ble_eq_true rfl) (Nat.le_refl _) (fun x1 I1 J1 R1 ⟨ex, c1, m1, eR1⟩ => ?_))))
  have eR1 : R1 = R := eR1
  rw [ex, eR1]
  have c1 : cGo I1 J1 T sz (j + 1) (odTo T sz (kSq T sz j)) := c1
  have hkw1 : cKw J1 := fun q hq => (m1.2.2 11 q (fun q2 => absurd q2.1 (by decide))).trans (hkw q hq)
  by_cases hg : kIs (kSq T sz j) (kw8 15) = true
  · have eO : odTo T sz (kSq T sz j) = kSq T sz (j + 1) := by
      unfold odTo
      rw [if_pos (show kIs (kSq T sz j) 29807 = true from hg)]
      exact if_pos h8
    rcases c1 with ⟨-, eK, r1, v1, u1⟩ | ⟨q, -⟩
    · have eS : kSetOf T sz (b 0 0) 0 (kSq T sz (j + 1)) = kSet T sz (b 0 0) 802 0 (kSq T sz (j + 1)) := if_pos h81
      rw [eO, eS] at hQ
      have e0 : I1 4 0 = nI (b 0 0) := by rw [m1.1 4 (by decide)]; exact hb0
      have hts := rt_X9_takeSet (w := w) (l := l) (n := b 0 0) (s := 0) hV hkw1 h800 r1 ⟨hn.1, by omega⟩ (by decide) ⟨v1, u1⟩
      generalize kSet T sz (b 0 0) 802 0 (kSq T sz (j + 1)) = r at hts hQ
      refine q_ifb_eq (pc' := 12) (pt := 30) dX3_readTo_9 rfl rfl (fun h9 => Bool.noConfusion (Eq.trans (Eq.symm (hg)) h9)) (fun _ => (q_aload_n (pc' := 13) dX3_readTo_12 rfl rfl (q_getR (pc' := 16) dX3_readTo_13 rfl fr_RX3_24 ⟨by omega, rfl⟩ rfl (wV_3_0 hV) (by decide) (q_iconst (pc' := 17) _ dX3_readTo_16 rfl kk_iconst_0 (q_aload_n (pc' := 18) dX3_readTo_17 rfl rfl (q_getR (pc' := 21) dX3_readTo_18 rfl fr_RX3_28 ⟨by omega, rfl⟩ rfl (wV_3_1 hV) (by decide) (q_getIe (pc' := 24) dX3_readTo_21 rfl fr_RX3_68 (by first | assumption | exact ⟨by omega, rfl⟩) rfl e0 (q_tVi (pc' := 27) dX3_readTo_24 rfl ml_RX3_98 yv_X9_takeSet (by decide) hts ⟨by omega, rfl⟩ rfl rfl (Nat.le_of_ble_eq_true rfl) (Nat.le_refl _) (fun x2 I2 J2 R2 ⟨ex2, ⟨j2, c2⟩, b2, m2, eR2⟩ => ?_)))))))))
      have eR2 : R2 = R := eR2
      rw [ex2, eR2]
      have hM := (mOa_ad (x := 27) (k := k) (by decide) m1).tr (mOa_a2 (by decide) m2)
      by_cases hg2 : r.2 8 = 0
      · have e15 : I2 10 15 = nI r.1 := b2 hg2
        rw [beq_iff_eq.mpr hg2] at hQ
        refine q_ifb_ne (pc' := 30) (pt := 32) dX3_readTo_27 rfl rfl (fun _ => (q_aload_n (pc' := 33) dX3_readTo_32 rfl rfl (q_getR (pc' := 36) dX3_readTo_33 rfl fr_RX3_21 ⟨by omega, rfl⟩ rfl (wV_3_6 hV) (by decide) (q_iload_n (pc' := 37) dX3_readTo_36 rfl rfl (q_aload_n (pc' := 38) dX3_readTo_37 rfl rfl (q_getR (pc' := 41) dX3_readTo_38 rfl fr_RX3_24 ⟨by omega, rfl⟩ rfl (wV_3_0 hV) (by decide) (q_getIe (pc' := 44) dX3_readTo_41 rfl fr_RX3_101 ⟨by omega, rfl⟩ rfl e15 (q_iast (pc' := 45) (k) dX3_readTo_44 rfl (by first | exact ⟨by omega, rfl⟩ | exact okaS hi hz (by decide) rfl | assumption) (by (first | (simp only [nI_add, pk_mul]; done) | (simp only [nI_add, pk_mul]; exact nI_e (by omega)) | exact nI_e (by omega))) (by omega) (q_iconst (pc' := 46) _ dX3_readTo_45 rfl kk_iconst_1 ?_))))))))) (fun h9 => Bool.noConfusion (Eq.trans (Eq.symm (beq_iff_eq.mpr hg2)) h9))
        refine q_zret dX3_readTo_46 rfl (Or.inr rfl) (hQ _ _ _ _ ⟨_, rfl, rfl, ⟨j2, ?_⟩, fun _ => mj_up_eq, hM.tr (mOa_up (by decide)), rfl⟩)
        rcases c2 with ⟨q1, q2, q3, q4, q5⟩ | ⟨q1, -⟩
        · exact Or.inl ⟨q1, q2, cRd_o (fun a _ g => up_fI (by omega)) q3, by rw [mj_up_ne (by decide)]; exact q4, by rw [mj_up_ne (by decide)]; exact q5⟩
        · exact absurd hg2 q1
      · rw [beq_eq_false_iff_ne.mpr hg2] at hQ
        refine q_ifb_ne (pc' := 30) (pt := 32) dX3_readTo_27 rfl rfl (fun h9 => Bool.noConfusion (Eq.trans (Eq.symm (beq_eq_false_iff_ne.mpr hg2)) h9)) (fun _ => (q_iconst (pc' := 31) _ dX3_readTo_30 rfl kk_iconst_0 ?_))
        exact q_zret dX3_readTo_31 rfl (Or.inl rfl) (hQ _ _ _ _ ⟨_, rfl, rfl, ⟨j2, c2⟩, fun q => absurd q hg2, hM, rfl⟩)
    · rw [eO] at q
      exact absurd h81 q
  · have hb : kW (kSq T sz j) 2 8 ≠ 0 := kW8 (by decide)
    have eO : odTo T sz (kSq T sz j) = kW (kSq T sz j) 2 := by
      unfold odTo
      rw [if_neg (show ¬ kIs (kSq T sz j) 29807 = true from hg)]
      exact kG_bad hb
    rw [eO] at hQ c1
    rw [kSetOf_bad hb, beq_eq_false_iff_ne.mpr hb] at hQ
    refine q_ifb_eq (pc' := 12) (pt := 30) dX3_readTo_9 rfl rfl (fun _ => (q_iconst (pc' := 31) _ dX3_readTo_30 rfl kk_iconst_0 ?_)) (fun h9 => Bool.noConfusion (Eq.trans (Eq.symm (Bool.eq_false_iff.mpr hg)) h9))
    exact q_zret dX3_readTo_31 rfl (Or.inl rfl) (hQ _ _ _ _ ⟨_, rfl, rfl, ⟨j + 1, c1⟩, fun q => absurd q hb, mOa_ad (by decide) m1, rfl⟩)
end OT1
