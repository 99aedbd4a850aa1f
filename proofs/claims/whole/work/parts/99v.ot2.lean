/-! ===== the class: an order read ===== -/
/-- the class's number of an order's word -/
def wI (i : Nat) : Nat := if i < 6 then 9 + i else 10 + i
theorem sw_O : ∀ v, v < 20 → (v < 10 ∨ v = 16 ∨ 19 < v) → ((lD v).toInt < 9 ∨ 18 < (lD v).toInt) ∨ v = 16 := by decide +kernel
section OT2
variable {w : mj_Wd} {l : Launch} {I : mj_M} {J : mj_J} {R : mj_R} {T : Nat → Nat} {sz : Nat} {b : St}
theorem ordN_kw {j : Nat} : (∀ i, i < 9 → kwO T (kSq T sz j) = wI i + 1 → ordN (kSq T sz j) = some i) ∧ ((∀ i, i < 9 → kwO T (kSq T sz j) ≠ wI i + 1) → ordN (kSq T sz j) = none) := by
  have i0 := kIs_kw (T := T) (sz := sz) (j := j) (q := 9) (by decide)
  rw [show kw8 9 = 495873782388 from rfl] at i0
  have i1 := kIs_kw (T := T) (sz := sz) (j := j) (q := 10) (by decide)
  rw [show kw8 10 = 1937010544 from rfl] at i1
  have i2 := kIs_kw (T := T) (sz := sz) (j := j) (q := 11) (by decide)
  rw [show kw8 11 = 427020085613 from rfl] at i2
  have i3 := kIs_kw (T := T) (sz := sz) (j := j) (q := 12) (by decide)
  rw [show kw8 12 = 491260572517 from rfl] at i3
  have i4 := kIs_kw (T := T) (sz := sz) (j := j) (q := 13) (by decide)
  rw [show kw8 13 = 1818326117 from rfl] at i4
  have i5 := kIs_kw (T := T) (sz := sz) (j := j) (q := 14) (by decide)
  rw [show kw8 14 = 1836021349 from rfl] at i5
  have i6 := kIs_kw (T := T) (sz := sz) (j := j) (q := 16) (by decide)
  rw [show kw8 16 = 1953063787 from rfl] at i6
  have i7 := kIs_kw (T := T) (sz := sz) (j := j) (q := 17) (by decide)
  rw [show kw8 17 = 1886156135 from rfl] at i7
  have i8 := kIs_kw (T := T) (sz := sz) (j := j) (q := 18) (by decide)
  rw [show kw8 18 = 129117193008487 from rfl] at i8
  generalize kwO T (kSq T sz j) = v at i0 i1 i2 i3 i4 i5 i6 i7 i8 ⊢
  unfold ordN
  refine ⟨fun i hi hv => ?_, fun hv => ?_⟩
  · have hc : i = 0 ∨ i = 1 ∨ i = 2 ∨ i = 3 ∨ i = 4 ∨ i = 5 ∨ i = 6 ∨ i = 7 ∨ i = 8 := by omega
    rcases hc with rfl | rfl | rfl | rfl | rfl | rfl | rfl | rfl | rfl
    · have hv : v = 10 := hv
      rw [if_pos (i0.mpr hv)]
    · have hv : v = 11 := hv
      rw [if_neg (fun q => by have := i0.mp q; omega), if_pos (i1.mpr hv)]
    · have hv : v = 12 := hv
      rw [if_neg (fun q => by have := i0.mp q; omega), if_neg (fun q => by have := i1.mp q; omega), if_pos (i2.mpr hv)]
    · have hv : v = 13 := hv
      rw [if_neg (fun q => by have := i0.mp q; omega), if_neg (fun q => by have := i1.mp q; omega), if_neg (fun q => by have := i2.mp q; omega), if_pos (i3.mpr hv)]
    · have hv : v = 14 := hv
      rw [if_neg (fun q => by have := i0.mp q; omega), if_neg (fun q => by have := i1.mp q; omega), if_neg (fun q => by have := i2.mp q; omega), if_neg (fun q => by have := i3.mp q; omega), if_pos (i4.mpr hv)]
    · have hv : v = 15 := hv
      rw [if_neg (fun q => by have := i0.mp q; omega), if_neg (fun q => by have := i1.mp q; omega), if_neg (fun q => by have := i2.mp q; omega), if_neg (fun q => by have := i3.mp q; omega), if_neg (fun q => by have := i4.mp q; omega), if_pos (i5.mpr hv)]
    · have hv : v = 17 := hv
      rw [if_neg (fun q => by have := i0.mp q; omega), if_neg (fun q => by have := i1.mp q; omega), if_neg (fun q => by have := i2.mp q; omega), if_neg (fun q => by have := i3.mp q; omega), if_neg (fun q => by have := i4.mp q; omega), if_neg (fun q => by have := i5.mp q; omega), if_pos (i6.mpr hv)]
    · have hv : v = 18 := hv
      rw [if_neg (fun q => by have := i0.mp q; omega), if_neg (fun q => by have := i1.mp q; omega), if_neg (fun q => by have := i2.mp q; omega), if_neg (fun q => by have := i3.mp q; omega), if_neg (fun q => by have := i4.mp q; omega), if_neg (fun q => by have := i5.mp q; omega), if_neg (fun q => by have := i6.mp q; omega), if_pos (i7.mpr hv)]
    · have hv : v = 19 := hv
      rw [if_neg (fun q => by have := i0.mp q; omega), if_neg (fun q => by have := i1.mp q; omega), if_neg (fun q => by have := i2.mp q; omega), if_neg (fun q => by have := i3.mp q; omega), if_neg (fun q => by have := i4.mp q; omega), if_neg (fun q => by have := i5.mp q; omega), if_neg (fun q => by have := i6.mp q; omega), if_neg (fun q => by have := i7.mp q; omega), if_pos (i8.mpr hv)]
  · rw [if_neg (fun q => hv 0 (by decide) (i0.mp q)), if_neg (fun q => hv 1 (by decide) (i1.mp q)), if_neg (fun q => hv 2 (by decide) (i2.mp q)), if_neg (fun q => hv 3 (by decide) (i3.mp q)), if_neg (fun q => hv 4 (by decide) (i4.mp q)), if_neg (fun q => hv 5 (by decide) (i5.mp q)), if_neg (fun q => hv 6 (by decide) (i6.mp q)), if_neg (fun q => hv 7 (by decide) (i7.mp q)), if_neg (fun q => hv 8 (by decide) (i8.mp q))]
/-- nothing changes but the reading and the numbers of an order -/
def mOk (k : Nat) (I : mj_M) (J : mj_J) (I' : mj_M) (J' : mj_J) : Prop := (∀ a, a ≠ 10 → a ≠ 25 → a ≠ 26 → a ≠ 27 → I' a = I a) ∧ (∀ q, q ≠ k → I' 25 q = I 25 q ∧ I' 26 q = I 26 q ∧ I' 27 q = I 27 q) ∧ (∀ f, f < 8 → I' 10 f = I 10 f) ∧ (∀ a f, ¬ (a = 10 ∧ f = 13) → J' a f = J a f)
theorem mOk_a {x k : Nat} {I I' : mj_M} {J J' : mj_J} (hx : x = 25 ∨ x = 26 ∨ x = 27) (h : mOa x k I J I' J') : mOk k I J I' J' := by
  refine ⟨fun a h1 h2 h3 h4 => h.1 a h1 (by omega), fun q hq => ?_, h.2.2.1, h.2.2.2⟩
  have g : ∀ a, a = 25 ∨ a = 26 ∨ a = 27 → I' a q = I a q := fun a ha => by
    by_cases e : a = x
    · rw [e]; exact h.2.1 q hq
    · exact congrFun (h.1 a (by omega) e) q
  exact ⟨g 25 (Or.inl rfl), g 26 (Or.inr (Or.inl rfl)), g 27 (Or.inr (Or.inr rfl))⟩
theorem mOk_ad {k : Nat} {I I' : mj_M} {J J' : mj_J} (h : mAd I J I' J') : mOk k I J I' J' := mOk_a (Or.inl rfl) (mOa_ad (x := 25) (by decide) h)
theorem mOk.tr {k : Nat} {I I' I2 : mj_M} {J J' J2 : mj_J} (h : mOk k I J I' J') (h2 : mOk k I' J' I2 J2) : mOk k I J I2 J2 := by
  refine ⟨fun a h1 h3 h4 h5 => (h2.1 a h1 h3 h4 h5).trans (h.1 a h1 h3 h4 h5), fun q hq => ?_, fun f hf => (h2.2.2.1 f hf).trans (h.2.2.1 f hf), fun a f hf => (h2.2.2.2 a f hf).trans (h.2.2.2 a f hf)⟩
  obtain ⟨a1, a2, a3⟩ := h.2.1 q hq
  obtain ⟨b1, b2, b3⟩ := h2.2.1 q hq
  exact ⟨b1.trans a1, b2.trans a2, b3.trans a3⟩
theorem cN_ok {k : Nat} {I I' : mj_M} {J J' : mj_J} (h : mOk k I J I' J') (hN : cN I J b) : cN I' J' b := fun d hd => by
  rw [h.1 6 (by decide) (by decide) (by decide) (by decide), h.2.2.2 5 d (fun q => absurd q.1 (by decide))]
  exact hN d hd
/-- what is read behind an order's word -/
def odP (T : Nat → Nat) (sz : Nat) (b : St) (K : Nat → Nat) : Nat → Nat := match ordN K with
  | none => kW K 2
  | some i => odR T sz b i (tkK T sz K)
def odQ (T : Nat → Nat) (sz : Nat) (b : St) (K : Nat → Nat) : Nat → Nat := match ordN K with
  | none => fun _ => 0
  | some i => odO T sz b i (tkK T sz K)
theorem kOrd_e {K : Nat → Nat} : kOrd T sz b K = (kSg T sz (odP T sz b K), odQ T sz b K) := by
  unfold kOrd odP odQ
  cases ordN K with
  | none =>
    have hb : kW K 2 8 ≠ 0 := kW8 (by decide)
    show (kW K 2, fun _ => 0) = (kSg T sz (kW K 2), fun _ => 0)
    rw [kSg_bad hb]
  | some i => rfl
theorem rt_X3_readRest {j k : Nat} (hV : mj_wV R) (hB : mj_wB R 4) (hkw : cKw J) (h800 : sz ≤ 800) (h : cRd I J T sz j) (hb0 : I 4 0 = nI (b 0 0)) (hb4 : I 4 4 = nI (b 0 2)) (hN : cN I J b) (hR : bRd b) (hk : k < 160) (hf : I 10 16 = nI 0 ∧ I 10 17 = -1) (e24 : I 24 k = lD (kwO T (kSq T sz j))) (e25 : I 25 k = -1) (e26 : I 26 k = -1) (e27 : I 27 k = nI 0) : RtI w l yX3_readRest dd_X3_readRest [.ref 23, .int (nI k)] (472, I, J, R) (fun r I' J' R' => r = bI (odP T sz b (kSq T sz j) 8 == 0) ∧ (∃ j', cGo I' J' T sz j' (odP T sz b (kSq T sz j))) ∧ (odP T sz b (kSq T sz j) 8 = 0 → I' 25 k = lD (odQ T sz b (kSq T sz j) 1) ∧ I' 26 k = lD (odQ T sz b (kSq T sz j) 2) ∧ I' 27 k = nI (odQ T sz b (kSq T sz j) 3)) ∧ mOk k I J I' J' ∧ R' = R) := by
  have o4 : mj_ok 472 4 0 := ⟨by omega, rfl⟩
  have hc : cCur I J T (kSq T sz j) := by obtain ⟨m, _, _, hc, _⟩ := h; exact hc
  have h8 := (kSq_89 (T := T) (sz := sz) j).1
  have h81 := (kSq_89 (T := T) (sz := sz) (j + 1)).1
  have hle := kwO_le (T := T) (K := kSq T sz j)
  have hkw1 := kSq_kw (T := T) (sz := sz) (i := j)
  obtain ⟨oS, oN⟩ := ordN_kw (T := T) (sz := sz) (j := j)
  have eT : tkK T sz (kSq T sz j) = kSq T sz (j + 1) := rfl
  refine rt_intro2 (L := [some (.ref 23), some (.int (nI k))]) ⟨by decide, rfl, (fun h => by cases h)⟩ (Nat.le_of_ble_eq_true rfl) rfl (fun Y Q hQ => ?_)
  by_cases g0 : kwO T (kSq T sz j) = 10
  · have eo := oS 0 (by decide) g0
    have h1 := ((hkw1 9 (by decide)).mp g0).1
    have e24' : I 24 k = nI 9 := by rw [e24, g0]; rfl
    have eP : odP T sz b (kSq T sz j) = kKd T sz b (kSq T sz (j + 1)) := by
      unfold odP
      rw [eo]
      rfl
    have eQ : odQ T sz b (kSq T sz j) 1 = oR (dLast b (kWd (kSq T sz (j + 1))) (b 0 2)) ∧ odQ T sz b (kSq T sz j) 2 = 0 ∧ odQ T sz b (kSq T sz j) 3 = 0 := by
      unfold odQ
      rw [eo]
      exact ⟨rfl, rfl, rfl⟩
    rw [eP, eQ.1, eQ.2.1, eQ.2.2] at hQ
    refine q_aload_n (pc' := 1) dX3_readRest_0 rfl rfl (q_getR (pc' := 4) dX3_readRest_1 rfl fr_RX3_9 ⟨by omega, rfl⟩ rfl (wV_3_3 hV) (by decide) (q_iload_n (pc' := 5) dX3_readRest_4 rfl rfl (q_ialde (pc' := 6) (k) dX3_readRest_5 rfl (by first | exact ⟨by omega, rfl⟩ | exact okaS hi hz (by decide) rfl | assumption) (by (first | (simp only [nI_add, pk_mul]; done) | (simp only [nI_add, pk_mul]; exact nI_e (by omega)) | exact nI_e (by omega))) (by omega) e24' (q_tabIn (pc' := 60) dX3_readRest_6 (by decide) (by decide) rfl rfl (q_aload_n (pc' := 61) dX3_readRest_60 rfl rfl (q_iload_n (pc' := 62) dX3_readRest_61 rfl rfl (q_tVi (pc' := 65) dX3_readRest_62 rfl ml_RX3_55 yv_X3_readName (by decide) (rt_X3_readName hV hB hkw h800 h h1 hb4 hN hR hk hf) ⟨by omega, rfl⟩ rfl rfl (Nat.le_of_ble_eq_true rfl) (Nat.le_refl _) (fun x1 I1 J1 R1 ⟨ex, c1, b1, m1, eR1⟩ => ?_))))))))
    have eR1 : R1 = R := eR1
    rw [ex, eR1]
    exact q_zret dX3_readRest_65 rfl (bI_01 _) (hQ _ _ _ _ ⟨_, rfl, rfl, c1, fun q => ⟨b1 q, by rw [m1.1 26 (by decide) (by decide)]; exact e26, by rw [m1.1 27 (by decide) (by decide)]; exact e27⟩, mOk_a (Or.inl rfl) m1, rfl⟩)
  by_cases g1 : kwO T (kSq T sz j) = 11
  · have eo := oS 1 (by decide) g1
    have h1 := ((hkw1 10 (by decide)).mp g1).1
    have e24' : I 24 k = nI 10 := by rw [e24, g1]; rfl
    have eP : odP T sz b (kSq T sz j) = kKd T sz b (kSq T sz (j + 1)) := by
      unfold odP
      rw [eo]
      rfl
    have eQ : odQ T sz b (kSq T sz j) 1 = oR (dLast b (kWd (kSq T sz (j + 1))) (b 0 2)) ∧ odQ T sz b (kSq T sz j) 2 = 0 ∧ odQ T sz b (kSq T sz j) 3 = 0 := by
      unfold odQ
      rw [eo]
      exact ⟨rfl, rfl, rfl⟩
    rw [eP, eQ.1, eQ.2.1, eQ.2.2] at hQ
    refine q_aload_n (pc' := 1) dX3_readRest_0 rfl rfl (q_getR (pc' := 4) dX3_readRest_1 rfl fr_RX3_9 ⟨by omega, rfl⟩ rfl (wV_3_3 hV) (by decide) (q_iload_n (pc' := 5) dX3_readRest_4 rfl rfl (q_ialde (pc' := 6) (k) dX3_readRest_5 rfl (by first | exact ⟨by omega, rfl⟩ | exact okaS hi hz (by decide) rfl | assumption) (by (first | (simp only [nI_add, pk_mul]; done) | (simp only [nI_add, pk_mul]; exact nI_e (by omega)) | exact nI_e (by omega))) (by omega) e24' (q_tabIn (pc' := 60) dX3_readRest_6 (by decide) (by decide) rfl rfl (q_aload_n (pc' := 61) dX3_readRest_60 rfl rfl (q_iload_n (pc' := 62) dX3_readRest_61 rfl rfl (q_tVi (pc' := 65) dX3_readRest_62 rfl ml_RX3_55 yv_X3_readName (by decide) (rt_X3_readName hV hB hkw h800 h h1 hb4 hN hR hk hf) ⟨by omega, rfl⟩ rfl rfl (Nat.le_of_ble_eq_true rfl) (Nat.le_refl _) (fun x1 I1 J1 R1 ⟨ex, c1, b1, m1, eR1⟩ => ?_))))))))
    have eR1 : R1 = R := eR1
    rw [ex, eR1]
    exact q_zret dX3_readRest_65 rfl (bI_01 _) (hQ _ _ _ _ ⟨_, rfl, rfl, c1, fun q => ⟨b1 q, by rw [m1.1 26 (by decide) (by decide)]; exact e26, by rw [m1.1 27 (by decide) (by decide)]; exact e27⟩, mOk_a (Or.inl rfl) m1, rfl⟩)
  by_cases g2 : kwO T (kSq T sz j) = 12
  · have eo := oS 2 (by decide) g2
    have h1 := ((hkw1 11 (by decide)).mp g2).1
    have e24' : I 24 k = nI 11 := by rw [e24, g2]; rfl
    have eP : odP T sz b (kSq T sz j) = kKd T sz b (kSq T sz (j + 1)) := by
      unfold odP
      rw [eo]
      rfl
    have eQ : odQ T sz b (kSq T sz j) 1 = oR (dLast b (kWd (kSq T sz (j + 1))) (b 0 2)) ∧ odQ T sz b (kSq T sz j) 2 = 0 ∧ odQ T sz b (kSq T sz j) 3 = 0 := by
      unfold odQ
      rw [eo]
      exact ⟨rfl, rfl, rfl⟩
    rw [eP, eQ.1, eQ.2.1, eQ.2.2] at hQ
    refine q_aload_n (pc' := 1) dX3_readRest_0 rfl rfl (q_getR (pc' := 4) dX3_readRest_1 rfl fr_RX3_9 ⟨by omega, rfl⟩ rfl (wV_3_3 hV) (by decide) (q_iload_n (pc' := 5) dX3_readRest_4 rfl rfl (q_ialde (pc' := 6) (k) dX3_readRest_5 rfl (by first | exact ⟨by omega, rfl⟩ | exact okaS hi hz (by decide) rfl | assumption) (by (first | (simp only [nI_add, pk_mul]; done) | (simp only [nI_add, pk_mul]; exact nI_e (by omega)) | exact nI_e (by omega))) (by omega) e24' (q_tabIn (pc' := 60) dX3_readRest_6 (by decide) (by decide) rfl rfl (q_aload_n (pc' := 61) dX3_readRest_60 rfl rfl (q_iload_n (pc' := 62) dX3_readRest_61 rfl rfl (q_tVi (pc' := 65) dX3_readRest_62 rfl ml_RX3_55 yv_X3_readName (by decide) (rt_X3_readName hV hB hkw h800 h h1 hb4 hN hR hk hf) ⟨by omega, rfl⟩ rfl rfl (Nat.le_of_ble_eq_true rfl) (Nat.le_refl _) (fun x1 I1 J1 R1 ⟨ex, c1, b1, m1, eR1⟩ => ?_))))))))
    have eR1 : R1 = R := eR1
    rw [ex, eR1]
    exact q_zret dX3_readRest_65 rfl (bI_01 _) (hQ _ _ _ _ ⟨_, rfl, rfl, c1, fun q => ⟨b1 q, by rw [m1.1 26 (by decide) (by decide)]; exact e26, by rw [m1.1 27 (by decide) (by decide)]; exact e27⟩, mOk_a (Or.inl rfl) m1, rfl⟩)
  by_cases g3 : kwO T (kSq T sz j) = 13
  · have eo := oS 3 (by decide) g3
    have h1 := ((hkw1 12 (by decide)).mp g3).1
    have e24' : I 24 k = nI 12 := by rw [e24, g3]; rfl
    have eP : odP T sz b (kSq T sz j) = kNi T sz (kKd T sz b (kSq T sz (j + 1))) (nI 0) (nI 7) := by
      unfold odP
      rw [eo]
      rfl
    have eQ : odQ T sz b (kSq T sz j) 1 = oR (dLast b (kWd (kSq T sz (j + 1))) (b 0 2)) ∧ odQ T sz b (kSq T sz j) 2 = odV (kKd T sz b (kSq T sz (j + 1))) + 1 ∧ odQ T sz b (kSq T sz j) 3 = 0 := by
      unfold odQ
      rw [eo]
      exact ⟨rfl, rfl, rfl⟩
    rw [eP, eQ.1, eQ.2.1, eQ.2.2] at hQ
    refine q_aload_n (pc' := 1) dX3_readRest_0 rfl rfl (q_getR (pc' := 4) dX3_readRest_1 rfl fr_RX3_9 ⟨by omega, rfl⟩ rfl (wV_3_3 hV) (by decide) (q_iload_n (pc' := 5) dX3_readRest_4 rfl rfl (q_ialde (pc' := 6) (k) dX3_readRest_5 rfl (by first | exact ⟨by omega, rfl⟩ | exact okaS hi hz (by decide) rfl | assumption) (by (first | (simp only [nI_add, pk_mul]; done) | (simp only [nI_add, pk_mul]; exact nI_e (by omega)) | exact nI_e (by omega))) (by omega) e24' (q_tabIn (pc' := 66) dX3_readRest_6 (by decide) (by decide) rfl rfl (q_aload_n (pc' := 67) dX3_readRest_66 rfl rfl (q_iload_n (pc' := 68) dX3_readRest_67 rfl rfl (q_tVi (pc' := 71) dX3_readRest_68 rfl ml_RX3_55 yv_X3_readName (by decide) (rt_X3_readName hV hB hkw h800 h h1 hb4 hN hR hk hf) ⟨by omega, rfl⟩ rfl rfl (Nat.le_of_ble_eq_true rfl) (Nat.le_refl _) (fun x1 I1 J1 R1 ⟨ex, ⟨j1, c1⟩, b1, m1, eR1⟩ => ?_))))))))
    have eR1 : R1 = R := eR1
    rw [ex, eR1]
    have hkw2 : cKw J1 := fun q hq => (m1.2.2.2 11 q (fun q2 => absurd q2.1 (by decide))).trans (hkw q hq)
    by_cases hg : kKd T sz b (kSq T sz (j + 1)) 8 = 0
    · rcases c1 with ⟨-, eK, r1, v1, u1⟩ | ⟨q, -⟩
      · have b1 := b1 hg
        have eV : odV (kKd T sz b (kSq T sz (j + 1))) = kSq T sz j1 6 := by
          unfold odV
          rw [if_pos hg, eK]
        rw [eV, eK] at hQ
        refine q_ifb_eq (pc' := 74) (pt := 89) dX3_readRest_71 rfl rfl (fun h9 => Bool.noConfusion (Eq.trans (Eq.symm (beq_iff_eq.mpr hg)) h9)) (fun _ => (q_aload_n (pc' := 75) dX3_readRest_74 rfl rfl (q_iload_n (pc' := 76) dX3_readRest_75 rfl rfl (q_iconst (pc' := 77) _ dX3_readRest_76 rfl kk_iconst_0 (q_bipush (pc' := 79) _ dX3_readRest_77 rfl kk_bipush_7 (q_tVi (pc' := 82) dX3_readRest_79 rfl ml_RX3_58 yv_X3_readNumber (by decide) (rt_X3_readNumber (lo := nI 0) (hi := nI 7) hV hkw2 h800 r1 hk ⟨v1, u1⟩) ⟨by omega, rfl⟩ rfl rfl (Nat.le_of_ble_eq_true rfl) (Nat.le_refl _) (fun x2 I2 J2 R2 ⟨ex2, c2, b2, m2, eR2⟩ => ?_)))))))
        have eR2 : R2 = R := eR2
        rw [ex2, eR2]
        have hM := (mOk_a (Or.inl rfl) m1).tr (mOk_a (Or.inr (Or.inl rfl)) m2)
        by_cases hg2 : kNi T sz (kSq T sz j1) (nI 0) (nI 7) 8 = 0
        · rw [beq_iff_eq.mpr hg2] at hQ
          refine q_ifb_eq (pc' := 85) (pt := 89) dX3_readRest_82 rfl rfl (fun h9 => Bool.noConfusion (Eq.trans (Eq.symm (beq_iff_eq.mpr hg2)) h9)) (fun _ => (q_iconst (pc' := 86) _ dX3_readRest_85 rfl kk_iconst_1 (q_goto (pc' := 90) dX3_readRest_86 rfl ?_)))
          exact q_zret dX3_readRest_90 rfl (Or.inr rfl) (hQ _ _ _ _ ⟨_, rfl, rfl, c2, fun q => ⟨by rw [m2.1 25 (by decide) (by decide)]; exact b1, (b2 q).trans lD_s.symm, by rw [m2.1 27 (by decide) (by decide), m1.1 27 (by decide) (by decide)]; exact e27⟩, hM, rfl⟩)
        · rw [beq_eq_false_iff_ne.mpr hg2] at hQ
          refine q_ifb_eq (pc' := 85) (pt := 89) dX3_readRest_82 rfl rfl (fun _ => (q_iconst (pc' := 90) _ dX3_readRest_89 rfl kk_iconst_0 ?_)) (fun h9 => Bool.noConfusion (Eq.trans (Eq.symm (beq_eq_false_iff_ne.mpr hg2)) h9))
          exact q_zret dX3_readRest_90 rfl (Or.inl rfl) (hQ _ _ _ _ ⟨_, rfl, rfl, c2, fun q => absurd q hg2, hM, rfl⟩)
      · exact absurd hg q
    · rw [kNi_bad hg, beq_eq_false_iff_ne.mpr hg] at hQ
      refine q_ifb_eq (pc' := 74) (pt := 89) dX3_readRest_71 rfl rfl (fun _ => (q_iconst (pc' := 90) _ dX3_readRest_89 rfl kk_iconst_0 ?_)) (fun h9 => Bool.noConfusion (Eq.trans (Eq.symm (beq_eq_false_iff_ne.mpr hg)) h9))
      exact q_zret dX3_readRest_90 rfl (Or.inl rfl) (hQ _ _ _ _ ⟨_, rfl, rfl, ⟨j1, c1⟩, fun q => absurd q hg, mOk_a (Or.inl rfl) m1, rfl⟩)
  by_cases g4 : kwO T (kSq T sz j) = 14
  · have eo := oS 4 (by decide) g4
    have h1 := ((hkw1 13 (by decide)).mp g4).1
    have e24' : I 24 k = nI 13 := by rw [e24, g4]; rfl
    have eP : odP T sz b (kSq T sz j) = kNi T sz (kKd T sz b (kSq T sz (j + 1))) (nI 0) (nI 7) := by
      unfold odP
      rw [eo]
      rfl
    have eQ : odQ T sz b (kSq T sz j) 1 = oR (dLast b (kWd (kSq T sz (j + 1))) (b 0 2)) ∧ odQ T sz b (kSq T sz j) 2 = odV (kKd T sz b (kSq T sz (j + 1))) + 1 ∧ odQ T sz b (kSq T sz j) 3 = 0 := by
      unfold odQ
      rw [eo]
      exact ⟨rfl, rfl, rfl⟩
    rw [eP, eQ.1, eQ.2.1, eQ.2.2] at hQ
    refine q_aload_n (pc' := 1) dX3_readRest_0 rfl rfl (q_getR (pc' := 4) dX3_readRest_1 rfl fr_RX3_9 ⟨by omega, rfl⟩ rfl (wV_3_3 hV) (by decide) (q_iload_n (pc' := 5) dX3_readRest_4 rfl rfl (q_ialde (pc' := 6) (k) dX3_readRest_5 rfl (by first | exact ⟨by omega, rfl⟩ | exact okaS hi hz (by decide) rfl | assumption) (by (first | (simp only [nI_add, pk_mul]; done) | (simp only [nI_add, pk_mul]; exact nI_e (by omega)) | exact nI_e (by omega))) (by omega) e24' (q_tabIn (pc' := 66) dX3_readRest_6 (by decide) (by decide) rfl rfl (q_aload_n (pc' := 67) dX3_readRest_66 rfl rfl (q_iload_n (pc' := 68) dX3_readRest_67 rfl rfl (q_tVi (pc' := 71) dX3_readRest_68 rfl ml_RX3_55 yv_X3_readName (by decide) (rt_X3_readName hV hB hkw h800 h h1 hb4 hN hR hk hf) ⟨by omega, rfl⟩ rfl rfl (Nat.le_of_ble_eq_true rfl) (Nat.le_refl _) (fun x1 I1 J1 R1 ⟨ex, ⟨j1, c1⟩, b1, m1, eR1⟩ => ?_))))))))
    have eR1 : R1 = R := eR1
    rw [ex, eR1]
    have hkw2 : cKw J1 := fun q hq => (m1.2.2.2 11 q (fun q2 => absurd q2.1 (by decide))).trans (hkw q hq)
    by_cases hg : kKd T sz b (kSq T sz (j + 1)) 8 = 0
    · rcases c1 with ⟨-, eK, r1, v1, u1⟩ | ⟨q, -⟩
      · have b1 := b1 hg
        have eV : odV (kKd T sz b (kSq T sz (j + 1))) = kSq T sz j1 6 := by
          unfold odV
          rw [if_pos hg, eK]
        rw [eV, eK] at hQ
        refine q_ifb_eq (pc' := 74) (pt := 89) dX3_readRest_71 rfl rfl (fun h9 => Bool.noConfusion (Eq.trans (Eq.symm (beq_iff_eq.mpr hg)) h9)) (fun _ => (q_aload_n (pc' := 75) dX3_readRest_74 rfl rfl (q_iload_n (pc' := 76) dX3_readRest_75 rfl rfl (q_iconst (pc' := 77) _ dX3_readRest_76 rfl kk_iconst_0 (q_bipush (pc' := 79) _ dX3_readRest_77 rfl kk_bipush_7 (q_tVi (pc' := 82) dX3_readRest_79 rfl ml_RX3_58 yv_X3_readNumber (by decide) (rt_X3_readNumber (lo := nI 0) (hi := nI 7) hV hkw2 h800 r1 hk ⟨v1, u1⟩) ⟨by omega, rfl⟩ rfl rfl (Nat.le_of_ble_eq_true rfl) (Nat.le_refl _) (fun x2 I2 J2 R2 ⟨ex2, c2, b2, m2, eR2⟩ => ?_)))))))
        have eR2 : R2 = R := eR2
        rw [ex2, eR2]
        have hM := (mOk_a (Or.inl rfl) m1).tr (mOk_a (Or.inr (Or.inl rfl)) m2)
        by_cases hg2 : kNi T sz (kSq T sz j1) (nI 0) (nI 7) 8 = 0
        · rw [beq_iff_eq.mpr hg2] at hQ
          refine q_ifb_eq (pc' := 85) (pt := 89) dX3_readRest_82 rfl rfl (fun h9 => Bool.noConfusion (Eq.trans (Eq.symm (beq_iff_eq.mpr hg2)) h9)) (fun _ => (q_iconst (pc' := 86) _ dX3_readRest_85 rfl kk_iconst_1 (q_goto (pc' := 90) dX3_readRest_86 rfl ?_)))
          exact q_zret dX3_readRest_90 rfl (Or.inr rfl) (hQ _ _ _ _ ⟨_, rfl, rfl, c2, fun q => ⟨by rw [m2.1 25 (by decide) (by decide)]; exact b1, (b2 q).trans lD_s.symm, by rw [m2.1 27 (by decide) (by decide), m1.1 27 (by decide) (by decide)]; exact e27⟩, hM, rfl⟩)
        · rw [beq_eq_false_iff_ne.mpr hg2] at hQ
          refine q_ifb_eq (pc' := 85) (pt := 89) dX3_readRest_82 rfl rfl (fun _ => (q_iconst (pc' := 90) _ dX3_readRest_89 rfl kk_iconst_0 ?_)) (fun h9 => Bool.noConfusion (Eq.trans (Eq.symm (beq_eq_false_iff_ne.mpr hg2)) h9))
          exact q_zret dX3_readRest_90 rfl (Or.inl rfl) (hQ _ _ _ _ ⟨_, rfl, rfl, c2, fun q => absurd q hg2, hM, rfl⟩)
      · exact absurd hg q
    · rw [kNi_bad hg, beq_eq_false_iff_ne.mpr hg] at hQ
      refine q_ifb_eq (pc' := 74) (pt := 89) dX3_readRest_71 rfl rfl (fun _ => (q_iconst (pc' := 90) _ dX3_readRest_89 rfl kk_iconst_0 ?_)) (fun h9 => Bool.noConfusion (Eq.trans (Eq.symm (beq_eq_false_iff_ne.mpr hg)) h9))
      exact q_zret dX3_readRest_90 rfl (Or.inl rfl) (hQ _ _ _ _ ⟨_, rfl, rfl, ⟨j1, c1⟩, fun q => absurd q hg, mOk_a (Or.inl rfl) m1, rfl⟩)
  by_cases g5 : kwO T (kSq T sz j) = 15
  · have eo := oS 5 (by decide) g5
    have h1 := ((hkw1 14 (by decide)).mp g5).1
    have e24' : I 24 k = nI 14 := by rw [e24, g5]; rfl
    have eP : odP T sz b (kSq T sz j) = (kSetOf T sz (b 0 0) 0 (odTo T sz (kNi T sz (kKd T sz b (kSq T sz (j + 1))) (nI 0) (nI 7)))).2 := by
      unfold odP
      rw [eo]
      rfl
    have eQ : odQ T sz b (kSq T sz j) 1 = oR (dLast b (kWd (kSq T sz (j + 1))) (b 0 2)) ∧ odQ T sz b (kSq T sz j) 2 = odV (kKd T sz b (kSq T sz (j + 1))) + 1 ∧ odQ T sz b (kSq T sz j) 3 = (kSetOf T sz (b 0 0) 0 (odTo T sz (kNi T sz (kKd T sz b (kSq T sz (j + 1))) (nI 0) (nI 7)))).1 := by
      unfold odQ
      rw [eo]
      exact ⟨rfl, rfl, rfl⟩
    rw [eP, eQ.1, eQ.2.1, eQ.2.2] at hQ
    refine q_aload_n (pc' := 1) dX3_readRest_0 rfl rfl (q_getR (pc' := 4) dX3_readRest_1 rfl fr_RX3_9 ⟨by omega, rfl⟩ rfl (wV_3_3 hV) (by decide) (q_iload_n (pc' := 5) dX3_readRest_4 rfl rfl (q_ialde (pc' := 6) (k) dX3_readRest_5 rfl (by first | exact ⟨by omega, rfl⟩ | exact okaS hi hz (by decide) rfl | assumption) (by (first | (simp only [nI_add, pk_mul]; done) | (simp only [nI_add, pk_mul]; exact nI_e (by omega)) | exact nI_e (by omega))) (by omega) e24' (q_tabIn (pc' := 91) dX3_readRest_6 (by decide) (by decide) rfl rfl (q_aload_n (pc' := 92) dX3_readRest_91 rfl rfl (q_iload_n (pc' := 93) dX3_readRest_92 rfl rfl (q_tVi (pc' := 96) dX3_readRest_93 rfl ml_RX3_55 yv_X3_readName (by decide) (rt_X3_readName hV hB hkw h800 h h1 hb4 hN hR hk hf) ⟨by omega, rfl⟩ rfl rfl (Nat.le_of_ble_eq_true rfl) (Nat.le_refl _) (fun x1 I1 J1 R1 ⟨ex, ⟨j1, c1⟩, b1, m1, eR1⟩ => ?_))))))))
    have eR1 : R1 = R := eR1
    rw [ex, eR1]
    have hkw2 : cKw J1 := fun q hq => (m1.2.2.2 11 q (fun q2 => absurd q2.1 (by decide))).trans (hkw q hq)
    by_cases hg : kKd T sz b (kSq T sz (j + 1)) 8 = 0
    · rcases c1 with ⟨-, eK, r1, v1, u1⟩ | ⟨q, -⟩
      · have b1 := b1 hg
        have eV : odV (kKd T sz b (kSq T sz (j + 1))) = kSq T sz j1 6 := by
          unfold odV
          rw [if_pos hg, eK]
        rw [eV, eK] at hQ
        refine q_ifb_eq (pc' := 99) (pt := 122) dX3_readRest_96 rfl rfl (fun h9 => Bool.noConfusion (Eq.trans (Eq.symm (beq_iff_eq.mpr hg)) h9)) (fun _ => (q_aload_n (pc' := 100) dX3_readRest_99 rfl rfl (q_iload_n (pc' := 101) dX3_readRest_100 rfl rfl (q_iconst (pc' := 102) _ dX3_readRest_101 rfl kk_iconst_0 (q_bipush (pc' := 104) _ dX3_readRest_102 rfl kk_bipush_7 (q_tVi (pc' := 107) dX3_readRest_104 rfl ml_RX3_58 yv_X3_readNumber (by decide) (rt_X3_readNumber (lo := nI 0) (hi := nI 7) hV hkw2 h800 r1 hk ⟨v1, u1⟩) ⟨by omega, rfl⟩ rfl rfl (Nat.le_of_ble_eq_true rfl) (Nat.le_refl _) (fun x2 I2 J2 R2 ⟨ex2, ⟨j2, c2⟩, b2, m2, eR2⟩ => ?_)))))))
        have eR2 : R2 = R := eR2
        rw [ex2, eR2]
        have hM := (mOk_a (Or.inl rfl) m1).tr (mOk_a (Or.inr (Or.inl rfl)) m2)
        have hkw3 : cKw J2 := fun q hq => (m2.2.2.2 11 q (fun q2 => absurd q2.1 (by decide))).trans (hkw2 q hq)
        by_cases hg2 : kNi T sz (kSq T sz j1) (nI 0) (nI 7) 8 = 0
        · rcases c2 with ⟨-, eK2, r2, v2, u2⟩ | ⟨q, -⟩
          · have b2 := b2 hg2
            rw [eK2] at hQ
            have e0 : I2 4 0 = nI (b 0 0) := by rw [hM.1 4 (by decide) (by decide) (by decide) (by decide)]; exact hb0
            have hts := rt_X3_readTo (w := w) (l := l) (b := b) hV hB hkw3 h800 r2 e0 hR.1.1 hk ⟨v2, u2⟩
            generalize kSetOf T sz (b 0 0) 0 (odTo T sz (kSq T sz j2)) = r at hts hQ
            refine q_ifb_eq (pc' := 110) (pt := 122) dX3_readRest_107 rfl rfl (fun h9 => Bool.noConfusion (Eq.trans (Eq.symm (beq_iff_eq.mpr hg2)) h9)) (fun _ => (q_aload_n (pc' := 111) dX3_readRest_110 rfl rfl (q_iload_n (pc' := 112) dX3_readRest_111 rfl rfl (q_tVi (pc' := 115) dX3_readRest_112 rfl ml_RX3_62 yv_X3_readTo (by decide) hts ⟨by omega, rfl⟩ rfl rfl (Nat.le_of_ble_eq_true rfl) (Nat.le_refl _) (fun x3 I3 J3 R3 ⟨ex3, c3, b3, m3, eR3⟩ => ?_)))))
            have eR3 : R3 = R := eR3
            rw [ex3, eR3]
            have hM3 := hM.tr (mOk_a (Or.inr (Or.inr rfl)) m3)
            by_cases hg3 : r.2 8 = 0
            · rw [beq_iff_eq.mpr hg3] at hQ
              refine q_ifb_eq (pc' := 118) (pt := 122) dX3_readRest_115 rfl rfl (fun h9 => Bool.noConfusion (Eq.trans (Eq.symm (beq_iff_eq.mpr hg3)) h9)) (fun _ => (q_iconst (pc' := 119) _ dX3_readRest_118 rfl kk_iconst_1 (q_goto (pc' := 123) dX3_readRest_119 rfl ?_)))
              exact q_zret dX3_readRest_123 rfl (Or.inr rfl) (hQ _ _ _ _ ⟨_, rfl, rfl, c3, fun q => ⟨by rw [m3.1 25 (by decide) (by decide), m2.1 25 (by decide) (by decide)]; exact b1, by rw [m3.1 26 (by decide) (by decide)]; exact b2.trans lD_s.symm, b3 q⟩, hM3, rfl⟩)
            · rw [beq_eq_false_iff_ne.mpr hg3] at hQ
              refine q_ifb_eq (pc' := 118) (pt := 122) dX3_readRest_115 rfl rfl (fun _ => (q_iconst (pc' := 123) _ dX3_readRest_122 rfl kk_iconst_0 ?_)) (fun h9 => Bool.noConfusion (Eq.trans (Eq.symm (beq_eq_false_iff_ne.mpr hg3)) h9))
              exact q_zret dX3_readRest_123 rfl (Or.inl rfl) (hQ _ _ _ _ ⟨_, rfl, rfl, c3, fun q => absurd q hg3, hM3, rfl⟩)
          · exact absurd hg2 q
        · rw [odTo_bad hg2, kSetOf_bad hg2, beq_eq_false_iff_ne.mpr hg2] at hQ
          refine q_ifb_eq (pc' := 110) (pt := 122) dX3_readRest_107 rfl rfl (fun _ => (q_iconst (pc' := 123) _ dX3_readRest_122 rfl kk_iconst_0 ?_)) (fun h9 => Bool.noConfusion (Eq.trans (Eq.symm (beq_eq_false_iff_ne.mpr hg2)) h9))
          exact q_zret dX3_readRest_123 rfl (Or.inl rfl) (hQ _ _ _ _ ⟨_, rfl, rfl, ⟨j2, c2⟩, fun q => absurd q hg2, hM, rfl⟩)
      · exact absurd hg q
    · rw [kNi_bad hg, odTo_bad hg, kSetOf_bad hg, beq_eq_false_iff_ne.mpr hg] at hQ
      refine q_ifb_eq (pc' := 99) (pt := 122) dX3_readRest_96 rfl rfl (fun _ => (q_iconst (pc' := 123) _ dX3_readRest_122 rfl kk_iconst_0 ?_)) (fun h9 => Bool.noConfusion (Eq.trans (Eq.symm (beq_eq_false_iff_ne.mpr hg)) h9))
      exact q_zret dX3_readRest_123 rfl (Or.inl rfl) (hQ _ _ _ _ ⟨_, rfl, rfl, ⟨j1, c1⟩, fun q => absurd q hg, mOk_a (Or.inl rfl) m1, rfl⟩)
  by_cases g6 : kwO T (kSq T sz j) = 17
  · have eo := oS 6 (by decide) g6
    have h1 := ((hkw1 16 (by decide)).mp g6).1
    have e24' : I 24 k = nI 16 := by rw [e24, g6]; rfl
    have eP : odP T sz b (kSq T sz j) = kNi T sz (kSq T sz (j + 1)) (nI 1) (nI 100) := by
      unfold odP
      rw [eo]
      rfl
    have eQ : odQ T sz b (kSq T sz j) 1 = 0 ∧ odQ T sz b (kSq T sz j) 2 = odV (kSq T sz (j + 1)) + 1 ∧ odQ T sz b (kSq T sz j) 3 = 0 := by
      unfold odQ
      rw [eo]
      exact ⟨rfl, rfl, rfl⟩
    have eV : odV (kSq T sz (j + 1)) = kSq T sz (j + 1) 6 := if_pos h81
    rw [eP, eQ.1, eQ.2.1, eQ.2.2, eV] at hQ
    refine q_aload_n (pc' := 1) dX3_readRest_0 rfl rfl (q_getR (pc' := 4) dX3_readRest_1 rfl fr_RX3_9 ⟨by omega, rfl⟩ rfl (wV_3_3 hV) (by decide) (q_iload_n (pc' := 5) dX3_readRest_4 rfl rfl (q_ialde (pc' := 6) (k) dX3_readRest_5 rfl (by first | exact ⟨by omega, rfl⟩ | exact okaS hi hz (by decide) rfl | assumption) (by (first | (simp only [nI_add, pk_mul]; done) | (simp only [nI_add, pk_mul]; exact nI_e (by omega)) | exact nI_e (by omega))) (by omega) e24' (q_tabIn (pc' := 124) dX3_readRest_6 (by decide) (by decide) rfl rfl (q_aload_n (pc' := 125) dX3_readRest_124 rfl rfl (q_getR (pc' := 128) dX3_readRest_125 rfl fr_RX3_24 ⟨by omega, rfl⟩ rfl (wV_3_0 hV) (by decide) (q_tVv (pc' := 131) dX3_readRest_128 rfl ml_RX3_65 yv_X9_advance (by decide) (rt_X9_adv hV hkw h800 h (by rw [h1]; decide)) ⟨by omega, rfl⟩ rfl rfl (Nat.le_of_ble_eq_true rfl) (Nat.le_refl _) (fun I1 J1 R1 ⟨c1, f1, f2, f3, eR1⟩ => ?_))))))))
    have eR1 : R1 = R := eR1
    rw [eR1]
    have m1 : mAd I J I1 J1 := ⟨f1, fun f hf2 => f2 f (by omega), f3⟩
    have hf1 : I1 10 16 = nI 0 ∧ I1 10 17 = -1 := ⟨by rw [f2 16 (by decide)]; exact hf.1, by rw [f2 17 (by decide)]; exact hf.2⟩
    have hkw2 : cKw J1 := fun q hq => (f3 11 q (fun q2 => absurd q2.1 (by decide))).trans (hkw q hq)
    have e0 : I1 4 0 = nI (b 0 0) := by rw [f1 4 (by decide)]; exact hb0
    refine q_aload_n (pc' := 132) dX3_readRest_131 rfl rfl (q_iload_n (pc' := 133) dX3_readRest_132 rfl rfl (q_iconst (pc' := 134) _ dX3_readRest_133 rfl kk_iconst_1 (q_bipush (pc' := 136) _ dX3_readRest_134 rfl kk_bipush_100 (q_tVi (pc' := 139) dX3_readRest_136 rfl ml_RX3_58 yv_X3_readNumber (by decide) (rt_X3_readNumber (lo := nI 1) (hi := nI 100) hV hkw2 h800 c1 hk hf1) ⟨by omega, rfl⟩ rfl rfl (Nat.le_of_ble_eq_true rfl) (Nat.le_refl _) (fun x2 I2 J2 R2 ⟨ex2, c2, b2, m2, eR2⟩ => ?_)))))
    have eR2 : R2 = R := eR2
    rw [ex2, eR2]
    exact q_zret dX3_readRest_139 rfl (bI_01 _) (hQ _ _ _ _ ⟨_, rfl, rfl, c2, fun q => ⟨by rw [m2.1 25 (by decide) (by decide), f1 25 (by decide)]; exact e25, (b2 q).trans lD_s.symm, by rw [m2.1 27 (by decide) (by decide), f1 27 (by decide)]; exact e27⟩, (mOk_ad m1).tr (mOk_a (Or.inr (Or.inl rfl)) m2), rfl⟩)
  by_cases g7 : kwO T (kSq T sz j) = 18
  · have eo := oS 7 (by decide) g7
    have h1 := ((hkw1 17 (by decide)).mp g7).1
    have e24' : I 24 k = nI 17 := by rw [e24, g7]; rfl
    have eP : odP T sz b (kSq T sz j) = kNi T sz (kSq T sz (j + 1)) (nI 0) (nI (b 0 0) - nI 1) := by
      unfold odP
      rw [eo]
      rfl
    have eQ : odQ T sz b (kSq T sz j) 1 = 0 ∧ odQ T sz b (kSq T sz j) 2 = odV (kSq T sz (j + 1)) + 1 ∧ odQ T sz b (kSq T sz j) 3 = 0 := by
      unfold odQ
      rw [eo]
      exact ⟨rfl, rfl, rfl⟩
    have eV : odV (kSq T sz (j + 1)) = kSq T sz (j + 1) 6 := if_pos h81
    rw [eP, eQ.1, eQ.2.1, eQ.2.2, eV] at hQ
    refine q_aload_n (pc' := 1) dX3_readRest_0 rfl rfl (q_getR (pc' := 4) dX3_readRest_1 rfl fr_RX3_9 ⟨by omega, rfl⟩ rfl (wV_3_3 hV) (by decide) (q_iload_n (pc' := 5) dX3_readRest_4 rfl rfl (q_ialde (pc' := 6) (k) dX3_readRest_5 rfl (by first | exact ⟨by omega, rfl⟩ | exact okaS hi hz (by decide) rfl | assumption) (by (first | (simp only [nI_add, pk_mul]; done) | (simp only [nI_add, pk_mul]; exact nI_e (by omega)) | exact nI_e (by omega))) (by omega) e24' (q_tabIn (pc' := 140) dX3_readRest_6 (by decide) (by decide) rfl rfl (q_aload_n (pc' := 141) dX3_readRest_140 rfl rfl (q_getR (pc' := 144) dX3_readRest_141 rfl fr_RX3_24 ⟨by omega, rfl⟩ rfl (wV_3_0 hV) (by decide) (q_tVv (pc' := 147) dX3_readRest_144 rfl ml_RX3_65 yv_X9_advance (by decide) (rt_X9_adv hV hkw h800 h (by rw [h1]; decide)) ⟨by omega, rfl⟩ rfl rfl (Nat.le_of_ble_eq_true rfl) (Nat.le_refl _) (fun I1 J1 R1 ⟨c1, f1, f2, f3, eR1⟩ => ?_))))))))
    have eR1 : R1 = R := eR1
    rw [eR1]
    have m1 : mAd I J I1 J1 := ⟨f1, fun f hf2 => f2 f (by omega), f3⟩
    have hf1 : I1 10 16 = nI 0 ∧ I1 10 17 = -1 := ⟨by rw [f2 16 (by decide)]; exact hf.1, by rw [f2 17 (by decide)]; exact hf.2⟩
    have hkw2 : cKw J1 := fun q hq => (f3 11 q (fun q2 => absurd q2.1 (by decide))).trans (hkw q hq)
    have e0 : I1 4 0 = nI (b 0 0) := by rw [f1 4 (by decide)]; exact hb0
    refine q_aload_n (pc' := 148) dX3_readRest_147 rfl rfl (q_iload_n (pc' := 149) dX3_readRest_148 rfl rfl (q_iconst (pc' := 150) _ dX3_readRest_149 rfl kk_iconst_0 (q_aload_n (pc' := 151) dX3_readRest_150 rfl rfl (q_getR (pc' := 154) dX3_readRest_151 rfl fr_RX3_28 ⟨by omega, rfl⟩ rfl (wV_3_1 hV) (by decide) (q_getIe (pc' := 157) dX3_readRest_154 rfl fr_RX3_68 (by first | assumption | exact ⟨by omega, rfl⟩) rfl e0 (q_iconst (pc' := 158) _ dX3_readRest_157 rfl kk_iconst_1 (q_isub (pc' := 159) dX3_readRest_158 rfl (q_tVi (pc' := 162) dX3_readRest_159 rfl ml_RX3_58 yv_X3_readNumber (by decide) (rt_X3_readNumber (lo := nI 0) (hi := nI (b 0 0) - nI 1) hV hkw2 h800 c1 hk hf1) ⟨by omega, rfl⟩ rfl rfl (Nat.le_of_ble_eq_true rfl) (Nat.le_refl _) (fun x2 I2 J2 R2 ⟨ex2, c2, b2, m2, eR2⟩ => ?_)))))))))
    have eR2 : R2 = R := eR2
    rw [ex2, eR2]
    exact q_zret dX3_readRest_162 rfl (bI_01 _) (hQ _ _ _ _ ⟨_, rfl, rfl, c2, fun q => ⟨by rw [m2.1 25 (by decide) (by decide), f1 25 (by decide)]; exact e25, (b2 q).trans lD_s.symm, by rw [m2.1 27 (by decide) (by decide), f1 27 (by decide)]; exact e27⟩, (mOk_ad m1).tr (mOk_a (Or.inr (Or.inl rfl)) m2), rfl⟩)
  by_cases g8 : kwO T (kSq T sz j) = 19
  · have eo := oS 8 (by decide) g8
    have h1 := ((hkw1 18 (by decide)).mp g8).1
    have e24' : I 24 k = nI 18 := by rw [e24, g8]; rfl
    have eP : odP T sz b (kSq T sz j) = kNi T sz (kSq T sz (j + 1)) (nI 0) (nI (b 0 0) - nI 1) := by
      unfold odP
      rw [eo]
      rfl
    have eQ : odQ T sz b (kSq T sz j) 1 = 0 ∧ odQ T sz b (kSq T sz j) 2 = odV (kSq T sz (j + 1)) + 1 ∧ odQ T sz b (kSq T sz j) 3 = 0 := by
      unfold odQ
      rw [eo]
      exact ⟨rfl, rfl, rfl⟩
    have eV : odV (kSq T sz (j + 1)) = kSq T sz (j + 1) 6 := if_pos h81
    rw [eP, eQ.1, eQ.2.1, eQ.2.2, eV] at hQ
    refine q_aload_n (pc' := 1) dX3_readRest_0 rfl rfl (q_getR (pc' := 4) dX3_readRest_1 rfl fr_RX3_9 ⟨by omega, rfl⟩ rfl (wV_3_3 hV) (by decide) (q_iload_n (pc' := 5) dX3_readRest_4 rfl rfl (q_ialde (pc' := 6) (k) dX3_readRest_5 rfl (by first | exact ⟨by omega, rfl⟩ | exact okaS hi hz (by decide) rfl | assumption) (by (first | (simp only [nI_add, pk_mul]; done) | (simp only [nI_add, pk_mul]; exact nI_e (by omega)) | exact nI_e (by omega))) (by omega) e24' (q_tabIn (pc' := 140) dX3_readRest_6 (by decide) (by decide) rfl rfl (q_aload_n (pc' := 141) dX3_readRest_140 rfl rfl (q_getR (pc' := 144) dX3_readRest_141 rfl fr_RX3_24 ⟨by omega, rfl⟩ rfl (wV_3_0 hV) (by decide) (q_tVv (pc' := 147) dX3_readRest_144 rfl ml_RX3_65 yv_X9_advance (by decide) (rt_X9_adv hV hkw h800 h (by rw [h1]; decide)) ⟨by omega, rfl⟩ rfl rfl (Nat.le_of_ble_eq_true rfl) (Nat.le_refl _) (fun I1 J1 R1 ⟨c1, f1, f2, f3, eR1⟩ => ?_))))))))
    have eR1 : R1 = R := eR1
    rw [eR1]
    have m1 : mAd I J I1 J1 := ⟨f1, fun f hf2 => f2 f (by omega), f3⟩
    have hf1 : I1 10 16 = nI 0 ∧ I1 10 17 = -1 := ⟨by rw [f2 16 (by decide)]; exact hf.1, by rw [f2 17 (by decide)]; exact hf.2⟩
    have hkw2 : cKw J1 := fun q hq => (f3 11 q (fun q2 => absurd q2.1 (by decide))).trans (hkw q hq)
    have e0 : I1 4 0 = nI (b 0 0) := by rw [f1 4 (by decide)]; exact hb0
    refine q_aload_n (pc' := 148) dX3_readRest_147 rfl rfl (q_iload_n (pc' := 149) dX3_readRest_148 rfl rfl (q_iconst (pc' := 150) _ dX3_readRest_149 rfl kk_iconst_0 (q_aload_n (pc' := 151) dX3_readRest_150 rfl rfl (q_getR (pc' := 154) dX3_readRest_151 rfl fr_RX3_28 ⟨by omega, rfl⟩ rfl (wV_3_1 hV) (by decide) (q_getIe (pc' := 157) dX3_readRest_154 rfl fr_RX3_68 (by first | assumption | exact ⟨by omega, rfl⟩) rfl e0 (q_iconst (pc' := 158) _ dX3_readRest_157 rfl kk_iconst_1 (q_isub (pc' := 159) dX3_readRest_158 rfl (q_tVi (pc' := 162) dX3_readRest_159 rfl ml_RX3_58 yv_X3_readNumber (by decide) (rt_X3_readNumber (lo := nI 0) (hi := nI (b 0 0) - nI 1) hV hkw2 h800 c1 hk hf1) ⟨by omega, rfl⟩ rfl rfl (Nat.le_of_ble_eq_true rfl) (Nat.le_refl _) (fun x2 I2 J2 R2 ⟨ex2, c2, b2, m2, eR2⟩ => ?_)))))))))
    have eR2 : R2 = R := eR2
    rw [ex2, eR2]
    exact q_zret dX3_readRest_162 rfl (bI_01 _) (hQ _ _ _ _ ⟨_, rfl, rfl, c2, fun q => ⟨by rw [m2.1 25 (by decide) (by decide), f1 25 (by decide)]; exact e25, (b2 q).trans lD_s.symm, by rw [m2.1 27 (by decide) (by decide), f1 27 (by decide)]; exact e27⟩, (mOk_ad m1).tr (mOk_a (Or.inr (Or.inl rfl)) m2), rfl⟩)
  have eo := oN (fun i hi q => by
    unfold wI at q
    split at q <;> omega)
  have hb : kW (kSq T sz j) 2 8 ≠ 0 := kW8 (by decide)
  have eP : odP T sz b (kSq T sz j) = kW (kSq T sz j) 2 := by
    unfold odP
    rw [eo]
  have e4 : kW (kSq T sz j) 2 8 = if kSq T sz j 5 = 4 then 1 else 2 := kW_8 h8
  have e5 : ¬ (if kSq T sz j 5 = 4 then 1 else 2) = 0 := by split <;> decide
  rw [eP, e4, beq_eq_false_iff_ne.mpr e5] at hQ
  have fin : Wq dd_X3_readRest (mj_mk w l 472 Y) Q 163 [some (.ref 23), some (.int (nI k))] [] (472, I, J, R) := by
    refine q_aload_n (pc' := 164) dX3_readRest_163 rfl rfl (q_getR (pc' := 167) dX3_readRest_164 rfl fr_RX3_24 ⟨by omega, rfl⟩ rfl (wV_3_0 hV) (by decide) (q_cVi (pc' := 170) dX3_readRest_167 rfl ml_RX3_72 yv_X9_blameToken (by decide) (rn_X9_blameToken hc.1.1 (kOK_sq j).2.1) ⟨by omega, rfl⟩ rfl rfl (Nat.le_of_ble_eq_true rfl) (Nat.le_refl _) ?_))
    exact q_zret dX3_readRest_170 rfl (Or.inl rfl) (hQ _ _ _ _ ⟨_, rfl, rfl, ⟨j, fB_go hc h8 e4 e5⟩, fun q => absurd q e5, mOk_ad fB_ad, rfl⟩)
  rcases sw_O _ (show kwO T (kSq T sz j) < 20 by omega) (by omega) with hs | hs
  · refine q_aload_n (pc' := 1) dX3_readRest_0 rfl rfl (q_getR (pc' := 4) dX3_readRest_1 rfl fr_RX3_9 ⟨by omega, rfl⟩ rfl (wV_3_3 hV) (by decide) (q_iload_n (pc' := 5) dX3_readRest_4 rfl rfl (q_ialde (pc' := 6) (k) dX3_readRest_5 rfl (by first | exact ⟨by omega, rfl⟩ | exact okaS hi hz (by decide) rfl | assumption) (by (first | (simp only [nI_add, pk_mul]; done) | (simp only [nI_add, pk_mul]; exact nI_e (by omega)) | exact nI_e (by omega))) (by omega) e24 (q_tabOut (pc' := 163) dX3_readRest_6 (hs) rfl ?_))))
    exact fin
  · have e24' : I 24 k = nI 15 := by rw [e24, hs]; rfl
    refine q_aload_n (pc' := 1) dX3_readRest_0 rfl rfl (q_getR (pc' := 4) dX3_readRest_1 rfl fr_RX3_9 ⟨by omega, rfl⟩ rfl (wV_3_3 hV) (by decide) (q_iload_n (pc' := 5) dX3_readRest_4 rfl rfl (q_ialde (pc' := 6) (k) dX3_readRest_5 rfl (by first | exact ⟨by omega, rfl⟩ | exact okaS hi hz (by decide) rfl | assumption) (by (first | (simp only [nI_add, pk_mul]; done) | (simp only [nI_add, pk_mul]; exact nI_e (by omega)) | exact nI_e (by omega))) (by omega) e24' (q_tabIn (pc' := 163) dX3_readRest_6 (by decide) (by decide) rfl rfl ?_))))
    exact fin
end OT2
