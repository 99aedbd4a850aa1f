/-! ===== the class: ORDERS read ===== -/
theorem tk4_lt {T : Nat → Nat} {sz : Nat} {K : Nat → Nat} (h : tkK T sz K 5 ≠ 0) : tkK T sz K 4 < sz := by
  unfold tkK at h ⊢
  generalize tkE (tBl T sz) 801 (K 3) = a at h ⊢
  by_cases hs : a < sz
  · rw [if_neg (fun q => q hs)]
    by_cases hl : tLt T sz a = true
    · rw [if_pos hl]; exact hs
    · rw [if_neg hl]
      by_cases hd : tDg T sz a = true
      · rw [if_pos hd]; exact hs
      · rw [if_neg hd]; exact hs
  · rw [if_pos hs] at h
    exact absurd rfl h
/-- ORDERS as the class keeps them -/
def cOr (I : mj_M) (O : St) (n : Nat) : Prop := ∀ i, i < n → I 24 i = nI (wI (O i 0)) ∧ I 25 i = lD (O i 1) ∧ I 26 i = lD (O i 2) ∧ I 27 i = nI (O i 3)
/-- nothing changes but the reading and an order -/
def mOw (k : Nat) (I : mj_M) (J : mj_J) (I' : mj_M) (J' : mj_J) : Prop := (∀ a, a ≠ 10 → (a < 24 ∨ 27 < a) → I' a = I a) ∧ (∀ q, q ≠ k → I' 24 q = I 24 q ∧ I' 25 q = I 25 q ∧ I' 26 q = I 26 q ∧ I' 27 q = I 27 q) ∧ (∀ f, f < 8 → I' 10 f = I 10 f) ∧ (∀ a f, ¬ (a = 10 ∧ f = 13) → J' a f = J a f)
/-- nothing changes but the reading and ORDERS -/
def mOx (I : mj_M) (J : mj_J) (I' : mj_M) (J' : mj_J) : Prop := (∀ a, a ≠ 10 → (a < 23 ∨ 27 < a) → I' a = I a) ∧ (∀ f, f < 8 → I' 10 f = I 10 f) ∧ (∀ a f, ¬ (a = 10 ∧ f = 13) → J' a f = J a f)
section OT3
variable {w : mj_Wd} {l : Launch} {I : mj_M} {J : mj_J} {R : mj_R} {T : Nat → Nat} {sz : Nat} {b : St}
theorem ordN_of {j i : Nat} (h : ordN (kSq T sz j) = some i) : i < 9 ∧ kwO T (kSq T sz j) = wI i + 1 := by
  obtain ⟨oS, oN⟩ := ordN_kw (T := T) (sz := sz) (j := j)
  by_cases hx : ∃ i, i < 9 ∧ kwO T (kSq T sz j) = wI i + 1
  · obtain ⟨i2, h1, h2⟩ := hx
    have := oS i2 h1 h2
    rw [h] at this
    cases this
    exact ⟨h1, h2⟩
  · have := oN (fun i hi q => hx ⟨i, hi, q⟩)
    rw [h] at this
    cases this
theorem rt_X3_readOrder {j k : Nat} (hV : mj_wV R) (hB : mj_wB R 4) (hkw : cKw J) (h800 : sz ≤ 800) (h : cRd I J T sz j) (hb0 : I 4 0 = nI (b 0 0)) (hb4 : I 4 4 = nI (b 0 2)) (hN : cN I J b) (hR : bRd b) (hk : k < 160) (hf : I 10 16 = nI 0 ∧ I 10 17 = -1) : RtI w l yX3_readOrder dd_X3_readOrder [.ref 23, .int (nI k)] (472, I, J, R) (fun r I' J' R' => r = bI ((kOrd T sz b (kSq T sz j)).1 8 == 0) ∧ (∃ j', cGo I' J' T sz j' (kOrd T sz b (kSq T sz j)).1) ∧ ((kOrd T sz b (kSq T sz j)).1 8 = 0 → I' 24 k = nI (wI ((kOrd T sz b (kSq T sz j)).2 0)) ∧ I' 25 k = lD ((kOrd T sz b (kSq T sz j)).2 1) ∧ I' 26 k = lD ((kOrd T sz b (kSq T sz j)).2 2) ∧ I' 27 k = nI ((kOrd T sz b (kSq T sz j)).2 3)) ∧ mOw k I J I' J' ∧ R' = R) := by
  have hc : cCur I J T (kSq T sz j) := by obtain ⟨m, _, _, hc, _⟩ := h; exact hc
  have e10 : I 10 10 = lD (kwO T (kSq T sz j)) := hc.2.2.2.2
  refine rt_intro2 (L := [some (.ref 23), some (.int (nI k))]) ⟨by decide, rfl, (fun h => by cases h)⟩ (Nat.le_of_ble_eq_true rfl) rfl (fun Y Q hQ => ?_)
  refine q_aload_n (pc' := 1) dX3_readOrder_0 rfl rfl (q_getR (pc' := 4) dX3_readOrder_1 rfl fr_RX3_9 ⟨by omega, rfl⟩ rfl (wV_3_3 hV) (by decide) (q_iload_n (pc' := 5) dX3_readOrder_4 rfl rfl (q_aload_n (pc' := 6) dX3_readOrder_5 rfl rfl (q_getR (pc' := 9) dX3_readOrder_6 rfl fr_RX3_24 ⟨by omega, rfl⟩ rfl (wV_3_0 hV) (by decide) (q_getIe (pc' := 12) dX3_readOrder_9 rfl fr_RX3_45 ⟨by omega, rfl⟩ rfl e10 (q_iast (pc' := 13) (k) dX3_readOrder_12 rfl (by first | exact ⟨by omega, rfl⟩ | exact okaS hi hz (by decide) rfl | assumption) (by (first | (simp only [nI_add, pk_mul]; done) | (simp only [nI_add, pk_mul]; exact nI_e (by omega)) | exact nI_e (by omega))) (by omega) (q_aload_n (pc' := 14) dX3_readOrder_13 rfl rfl (q_getR (pc' := 17) dX3_readOrder_14 rfl fr_RX3_15 ⟨by omega, rfl⟩ rfl (wV_3_4 hV) (by decide) (q_iload_n (pc' := 18) dX3_readOrder_17 rfl rfl (q_iconst (pc' := 19) _ dX3_readOrder_18 rfl kk_iconst_m1 (q_iast (pc' := 20) (k) dX3_readOrder_19 rfl (by first | exact ⟨by omega, rfl⟩ | exact okaS hi hz (by decide) rfl | assumption) (by (first | (simp only [nI_add, pk_mul]; done) | (simp only [nI_add, pk_mul]; exact nI_e (by omega)) | exact nI_e (by omega))) (by omega) (q_aload_n (pc' := 21) dX3_readOrder_20 rfl rfl (q_getR (pc' := 24) dX3_readOrder_21 rfl fr_RX3_18 ⟨by omega, rfl⟩ rfl (wV_3_5 hV) (by decide) ?_)))))))))))))
  refine q_iload_n (pc' := 25) dX3_readOrder_24 rfl rfl (q_iconst (pc' := 26) _ dX3_readOrder_25 rfl kk_iconst_m1 (q_iast (pc' := 27) (k) dX3_readOrder_26 rfl (by first | exact ⟨by omega, rfl⟩ | exact okaS hi hz (by decide) rfl | assumption) (by (first | (simp only [nI_add, pk_mul]; done) | (simp only [nI_add, pk_mul]; exact nI_e (by omega)) | exact nI_e (by omega))) (by omega) (q_aload_n (pc' := 28) dX3_readOrder_27 rfl rfl (q_getR (pc' := 31) dX3_readOrder_28 rfl fr_RX3_21 ⟨by omega, rfl⟩ rfl (wV_3_6 hV) (by decide) (q_iload_n (pc' := 32) dX3_readOrder_31 rfl rfl (q_iconst (pc' := 33) _ dX3_readOrder_32 rfl kk_iconst_0 (q_iast (pc' := 34) (k) dX3_readOrder_33 rfl (by first | exact ⟨by omega, rfl⟩ | exact okaS hi hz (by decide) rfl | assumption) (by (first | (simp only [nI_add, pk_mul]; done) | (simp only [nI_add, pk_mul]; exact nI_e (by omega)) | exact nI_e (by omega))) (by omega) ?_)))))))
  have f0 : ∀ a, (a < 24 ∨ 27 < a) → mj_up (mj_up (mj_up (mj_up I 24 k (lD (kwO T (kSq T sz j)))) 25 k (-1)) 26 k (-1)) 27 k (nI 0) a = I a := fun a ha => by rw [up_fI (by omega), up_fI (by omega), up_fI (by omega), up_fI (by omega)]
  have q0 : ∀ q, q ≠ k → mj_up (mj_up (mj_up (mj_up I 24 k (lD (kwO T (kSq T sz j)))) 25 k (-1)) 26 k (-1)) 27 k (nI 0) 24 q = I 24 q ∧ mj_up (mj_up (mj_up (mj_up I 24 k (lD (kwO T (kSq T sz j)))) 25 k (-1)) 26 k (-1)) 27 k (nI 0) 25 q = I 25 q ∧ mj_up (mj_up (mj_up (mj_up I 24 k (lD (kwO T (kSq T sz j)))) 25 k (-1)) 26 k (-1)) 27 k (nI 0) 26 q = I 26 q ∧ mj_up (mj_up (mj_up (mj_up I 24 k (lD (kwO T (kSq T sz j)))) 25 k (-1)) 26 k (-1)) 27 k (nI 0) 27 q = I 27 q := fun q hq => by
    have g : ∀ a, mj_up (mj_up (mj_up (mj_up I 24 k (lD (kwO T (kSq T sz j)))) 25 k (-1)) 26 k (-1)) 27 k (nI 0) a q = I a q := fun a => by rw [mj_up_ne2 hq, mj_up_ne2 hq, mj_up_ne2 hq, mj_up_ne2 hq]
    exact ⟨g 24, g 25, g 26, g 27⟩
  have e24 : mj_up (mj_up (mj_up (mj_up I 24 k (lD (kwO T (kSq T sz j)))) 25 k (-1)) 26 k (-1)) 27 k (nI 0) 24 k = lD (kwO T (kSq T sz j)) := by rw [mj_up_ne (by decide), mj_up_ne (by decide), mj_up_ne (by decide), mj_up_eq]
  have e25 : mj_up (mj_up (mj_up (mj_up I 24 k (lD (kwO T (kSq T sz j)))) 25 k (-1)) 26 k (-1)) 27 k (nI 0) 25 k = -1 := by rw [mj_up_ne (by decide), mj_up_ne (by decide), mj_up_eq]
  have e26 : mj_up (mj_up (mj_up (mj_up I 24 k (lD (kwO T (kSq T sz j)))) 25 k (-1)) 26 k (-1)) 27 k (nI 0) 26 k = -1 := by rw [mj_up_ne (by decide), mj_up_eq]
  have e27 : mj_up (mj_up (mj_up (mj_up I 24 k (lD (kwO T (kSq T sz j)))) 25 k (-1)) 26 k (-1)) 27 k (nI 0) 27 k = nI 0 := mj_up_eq
  generalize mj_up (mj_up (mj_up (mj_up I 24 k (lD (kwO T (kSq T sz j)))) 25 k (-1)) 26 k (-1)) 27 k (nI 0) = I0 at f0 q0 e24 e25 e26 e27 ⊢
  have hr0 : cRd I0 J T sz j := cRd_o (fun a _ g => f0 a (by omega)) h
  have hN0 : cN I0 J b := fun d hd => by rw [f0 6 (by decide)]; exact hN d hd
  rw [kOrd_e] at hQ
  dsimp only at hQ
  refine q_aload_n (pc' := 35) dX3_readOrder_34 rfl rfl (q_iload_n (pc' := 36) dX3_readOrder_35 rfl rfl (q_tVi (pc' := 39) dX3_readOrder_36 rfl ml_RX3_48 yv_X3_readRest (by decide) (rt_X3_readRest hV hB hkw h800 hr0 (by rw [f0 4 (by decide)]; exact hb0) (by rw [f0 4 (by decide)]; exact hb4) hN0 hR hk (by rw [f0 10 (by decide)]; exact hf) e24 e25 e26 e27) ⟨by omega, rfl⟩ rfl rfl (Nat.le_of_ble_eq_true rfl) (Nat.le_refl _) (fun x1 I1 J1 R1 ⟨ex, ⟨j1, c1⟩, b1, m1, eR1⟩ => ?_)))
  have eR1 : R1 = R := eR1
  rw [ex, eR1]
  have hkw1 : cKw J1 := fun q hq => (m1.2.2.2 11 q (fun q2 => absurd q2.1 (by decide))).trans (hkw q hq)
  have e241 : I1 24 k = lD (kwO T (kSq T sz j)) := by rw [m1.1 24 (by decide) (by decide) (by decide) (by decide)]; exact e24
  have hM : mOw k I J I1 J1 := by
    refine ⟨fun a h1 h2 => (m1.1 a h1 (by omega) (by omega) (by omega)).trans (f0 a h2), fun q hq => ?_, fun f hf2 => by rw [m1.2.2.1 f hf2, f0 10 (by decide)], m1.2.2.2⟩
    obtain ⟨a1, a2, a3, a4⟩ := q0 q hq
    obtain ⟨b1, b2, b3⟩ := m1.2.1 q hq
    exact ⟨by rw [m1.1 24 (by decide) (by decide) (by decide) (by decide)]; exact a1, b1.trans a2, b2.trans a3, b3.trans a4⟩
  by_cases hg : odP T sz b (kSq T sz j) 8 = 0
  · rcases c1 with ⟨-, eK, r1, v1, u1⟩ | ⟨q, -⟩
    · have b1 := b1 hg
      have eO : ∃ i, ordN (kSq T sz j) = some i := by
        cases ho : ordN (kSq T sz j) with
        | none =>
          unfold odP at hg
          rw [ho] at hg
          exact absurd hg (kW8 (by decide))
        | some i => exact ⟨i, rfl⟩
      obtain ⟨i, eO⟩ := eO
      obtain ⟨hi, hw⟩ := ordN_of eO
      have eQ0 : odQ T sz b (kSq T sz j) 0 = i := by
        unfold odQ
        rw [eO]
        rfl
      rw [eK, kSg_8] at hQ
      refine q_ifb_ne (pc' := 42) (pt := 44) dX3_readOrder_39 rfl rfl (fun _ => (q_aload_n (pc' := 45) dX3_readOrder_44 rfl rfl (q_getR (pc' := 48) dX3_readOrder_45 rfl fr_RX3_24 ⟨by omega, rfl⟩ rfl (wV_3_0 hV) (by decide) (q_tVi (pc' := 51) dX3_readOrder_48 rfl ml_RX3_51 yv_X9_takeSign (by decide) (rt_X9_takeSign hV hkw1 h800 r1 ⟨v1, u1⟩) ⟨by omega, rfl⟩ rfl rfl (Nat.le_of_ble_eq_true rfl) (Nat.le_refl _) (fun x2 I2 J2 R2 ⟨ex2, c2, m2, eR2⟩ => ?_))))) (fun h9 => Bool.noConfusion (Eq.trans (Eq.symm (beq_iff_eq.mpr hg)) h9))
      have eR2 : R2 = R := eR2
      rw [ex2, eR2]
      refine q_zret dX3_readOrder_51 rfl (bI_01 _) (hQ _ _ _ _ ⟨_, rfl, rfl, ⟨j1 + 1, ?_⟩, fun _ => ?_, ?_, rfl⟩)
      · rw [kSg_sq]
        exact c2
      · rw [m2.1 24 (by decide), m2.1 25 (by decide), m2.1 26 (by decide), m2.1 27 (by decide), eQ0]
        refine ⟨?_, b1⟩
        rw [e241, hw]
        exact lD_s
      · refine ⟨fun a h1 h2 => (m2.1 a h1).trans (hM.1 a h1 h2), fun q hq => ?_, fun f hf2 => (m2.2.1 f (Or.inl hf2)).trans (hM.2.2.1 f hf2), fun a f g => (m2.2.2 a f g).trans (hM.2.2.2 a f g)⟩
        rw [m2.1 24 (by decide), m2.1 25 (by decide), m2.1 26 (by decide), m2.1 27 (by decide)]
        exact hM.2.1 q hq
    · exact absurd hg q
  · rw [kSg_bad hg, beq_eq_false_iff_ne.mpr hg] at hQ
    refine q_ifb_ne (pc' := 42) (pt := 44) dX3_readOrder_39 rfl rfl (fun h9 => Bool.noConfusion (Eq.trans (Eq.symm (beq_eq_false_iff_ne.mpr hg)) h9)) (fun _ => (q_iconst (pc' := 43) _ dX3_readOrder_42 rfl kk_iconst_0 ?_))
    exact q_zret dX3_readOrder_43 rfl (Or.inl rfl) (hQ _ _ _ _ ⟨_, rfl, rfl, ⟨j1, c1⟩, fun q => absurd q hg, hM, rfl⟩)
/-- the class reads ORDERS -/
theorem rt_X3_read (hV : mj_wV R) (hB : mj_wB R 4) (hkw : cKw J) (h800 : sz ≤ 800) (h : cRd I J T sz 0) (hb0 : I 4 0 = nI (b 0 0)) (hb4 : I 4 4 = nI (b 0 2)) (hN : cN I J b) (hR : bRd b) (hf : I 10 16 = nI 0 ∧ I 10 17 = -1) : RtI w l yX3_read dd_X3_read [.ref 23] (472, I, J, R) (fun r I' J' R' => r = bI ((kOrders T sz b).1 8 == 0) ∧ (I' 10 16 = nI ((kOrders T sz b).1 8) ∧ I' 10 17 = lD ((kOrders T sz b).1 9)) ∧ ((kOrders T sz b).1 8 = 0 → I' 23 2 = nI (kOrders T sz b).2.1 ∧ cOr I' (kOrders T sz b).2.2 (kOrders T sz b).2.1 ∧ (kOrders T sz b).2.1 ≤ 160 ∧ ∀ i, i < (kOrders T sz b).2.1 → oOK b ((kOrders T sz b).2.2 i)) ∧ mOx I J I' J' ∧ R' = R) := by
  refine rt_intro2 (L := [some (.ref 23), none]) ⟨by decide, rfl, (fun h => by cases h)⟩ (Nat.le_of_ble_eq_true rfl) rfl (fun Y Q hQ => ?_)
  refine q_aload_n (pc' := 1) dX3_read_0 rfl rfl (q_iconst (pc' := 2) _ dX3_read_1 rfl kk_iconst_0 (q_putI (pc' := 5) dX3_read_2 rfl fl_RX3_32 ⟨by omega, rfl⟩ rfl (q_iconst (pc' := 6) _ dX3_read_5 rfl kk_iconst_0 (q_ist_1 (pc' := 7) dX3_read_6 rfl (by decide) rfl ?_))))
  have loop : ∀ m n, n + m = 160 → ∀ I1 J1 O j, cRd I1 J1 T sz j → cOr I1 O n → (∀ i, i < n → oOK b (O i)) → cKw J1 → (I1 10 16 = nI 0 ∧ I1 10 17 = -1) → I1 23 2 = nI n → mOx I J I1 J1 → 5 * n ≤ kSq T sz j 4 → kOrs T sz b (m + 642) n O (kSq T sz j) = kOrders T sz b → Wq dd_X3_read (mj_mk w l 472 Y) Q 7 [some (.ref 23), some (.int (nI n))] [] (472, I1, J1, R) := by
    intro m
    induction m with
    | zero =>
      intro n hn I1 J1 O j hr hO hok hk hf hcn hM h5 hb
      have hz : kSq T sz j 5 = 0 := Classical.byContradiction (fun q => by
        rw [kSq_pv] at q
        have := tk4_lt q
        rw [← kSq_pv] at this
        omega)
      have e : kOrs T sz b (0 + 642) n O (kSq T sz j) = (kSq T sz j, n, O) := if_neg (fun q => q.2 hz)
      have h8 := kSq_89 (T := T) (sz := sz) j
      rw [← hb, e] at hQ
      dsimp only at hQ
      rw [h8.1, h8.2] at hQ
      refine q_iload_n (pc' := 8) dX3_read_7 rfl rfl (q_sipush (pc' := 11) _ dX3_read_8 rfl kk_sipush_160 (q_icmp_ge (pc' := 14) (pt := 50) dX3_read_11 rfl rfl (fun _ => (q_iconst (pc' := 51) _ dX3_read_50 rfl kk_iconst_1 ?_)) (fun h9 => absurd (by (first | assumption | exact nI_le (by omega) (by omega) | exact nI_ge (by omega) (by omega) | exact nI_lt (by omega) (by omega) | exact nI_nlt (by omega) (by omega) | exact nI_ne (by omega) (by omega) (by omega) | exact nI_e (by omega) | decide)) h9)))
      exact q_zret dX3_read_51 rfl (Or.inr rfl) (hQ _ _ _ _ ⟨_, rfl, rfl, hf, fun _ => ⟨hcn, hO, by omega, hok⟩, hM, rfl⟩)
    | succ m ih =>
      intro n hn I1 J1 O j hr hO hok hk hf hcn hM h5 hb
      have hc : cCur I1 J1 T (kSq T sz j) := by obtain ⟨m, _, _, hc, _⟩ := hr; exact hc
      have h8 := kSq_89 (T := T) (sz := sz) j
      have k5 := (kOK_sq (T := T) (sz := sz) j).2.1
      have e9 : I1 10 9 = nI (kSq T sz j 5) := hc.1.1
      by_cases hz : kSq T sz j 5 = 0
      · have e : kOrs T sz b (m + 1 + 642) n O (kSq T sz j) = (kSq T sz j, n, O) := by
          rw [show m + 1 + 642 = (m + 642) + 1 by omega]
          exact if_neg (fun q => q.2 hz)
        rw [← hb, e] at hQ
        dsimp only at hQ
        rw [h8.1, h8.2] at hQ
        refine q_iload_n (pc' := 8) dX3_read_7 rfl rfl (q_sipush (pc' := 11) _ dX3_read_8 rfl kk_sipush_160 (q_icmp_ge (pc' := 14) (pt := 50) dX3_read_11 rfl rfl (fun h9 => absurd h9 (by (first | assumption | exact nI_le (by omega) (by omega) | exact nI_ge (by omega) (by omega) | exact nI_lt (by omega) (by omega) | exact nI_nlt (by omega) (by omega) | exact nI_ne (by omega) (by omega) (by omega) | exact nI_e (by omega) | decide))) (fun _ => (q_aload_n (pc' := 15) dX3_read_14 rfl rfl (q_getR (pc' := 18) dX3_read_15 rfl fr_RX3_24 ⟨by omega, rfl⟩ rfl (wV_3_0 hV) (by decide) (q_getIe (pc' := 21) dX3_read_18 rfl fr_RX3_36 ⟨by omega, rfl⟩ rfl e9 (q_if_eq (pc' := 24) (pt := 50) dX3_read_21 rfl rfl (fun _ => (q_iconst (pc' := 51) _ dX3_read_50 rfl kk_iconst_1 ?_)) (fun h9 => absurd (by rw [hz]; rfl) h9))))))))
        exact q_zret dX3_read_51 rfl (Or.inr rfl) (hQ _ _ _ _ ⟨_, rfl, rfl, hf, fun _ => ⟨hcn, hO, by omega, hok⟩, hM, rfl⟩)
      · have e : kOrs T sz b (m + 1 + 642) n O (kSq T sz j) = kOrs T sz b (m + 642) (n + 1) (fun i => if i = n then (kOrd T sz b (kSq T sz j)).2 else O i) (kOrd T sz b (kSq T sz j)).1 := by
          rw [show m + 1 + 642 = (m + 642) + 1 by omega]
          exact if_pos ⟨h8.1, hz⟩
        rw [e] at hb
        have hb0' : I1 4 0 = nI (b 0 0) := by rw [hM.1 4 (by decide) (by decide)]; exact hb0
        have hb4' : I1 4 4 = nI (b 0 2) := by rw [hM.1 4 (by decide) (by decide)]; exact hb4
        have hN' : cN I1 J1 b := fun d hd => by
          rw [hM.1 6 (by decide) (by decide), hM.2.2 5 d (fun q => absurd q.1 (by decide))]
          exact hN d hd
        refine q_iload_n (pc' := 8) dX3_read_7 rfl rfl (q_sipush (pc' := 11) _ dX3_read_8 rfl kk_sipush_160 (q_icmp_ge (pc' := 14) (pt := 50) dX3_read_11 rfl rfl (fun h9 => absurd h9 (by (first | assumption | exact nI_le (by omega) (by omega) | exact nI_ge (by omega) (by omega) | exact nI_lt (by omega) (by omega) | exact nI_nlt (by omega) (by omega) | exact nI_ne (by omega) (by omega) (by omega) | exact nI_e (by omega) | decide))) (fun _ => (q_aload_n (pc' := 15) dX3_read_14 rfl rfl (q_getR (pc' := 18) dX3_read_15 rfl fr_RX3_24 ⟨by omega, rfl⟩ rfl (wV_3_0 hV) (by decide) (q_getIe (pc' := 21) dX3_read_18 rfl fr_RX3_36 ⟨by omega, rfl⟩ rfl e9 (q_if_eq (pc' := 24) (pt := 50) dX3_read_21 rfl rfl (fun h9 => absurd h9 (fun q => hz ((nI_eq (b := 0) (by omega) (by decide)).mp q))) (fun _ => (q_aload_n (pc' := 25) dX3_read_24 rfl rfl (q_iload_n (pc' := 26) dX3_read_25 rfl rfl (q_tVi (pc' := 29) dX3_read_26 rfl ml_RX3_41 yv_X3_readOrder (by decide) (rt_X3_readOrder (k := n) hV hB hk h800 hr hb0' hb4' hN' hR (by omega) hf) ⟨by omega, rfl⟩ rfl rfl (Nat.le_of_ble_eq_true rfl) (Nat.le_refl _) (fun x1 I2 J2 R2 ⟨ex, ⟨j2, c2⟩, b2, m2, hR2⟩ => ?_))))))))))))
        have hR2 : R2 = R := hR2
        rw [ex, hR2]
        have hk2 : cKw J2 := fun q hq => (m2.2.2.2 11 q (fun q2 => absurd q2.1 (by decide))).trans (hk q hq)
        have hM2 : mOx I J I2 J2 := ⟨fun a h1 h2 => (m2.1 a h1 (by omega)).trans (hM.1 a h1 h2), fun f hf2 => (m2.2.2.1 f hf2).trans (hM.2.1 f hf2), fun a f g => (m2.2.2.2 a f g).trans (hM.2.2 a f g)⟩
        have hcn2 : I2 23 2 = nI n := by rw [m2.1 23 (by decide) (by decide)]; exact hcn
        by_cases hg : (kOrd T sz b (kSq T sz j)).1 8 = 0
        · rcases c2 with ⟨-, eK, r2, v2, u2⟩ | ⟨q, -⟩
          · obtain ⟨o1, o2, o3, o4⟩ := ord_ok (T := T) hR.1 (kOK_sq j) hg
            have o3 := o3 (by rw [kSq_pv]; exact kTk_tk)
            have b2 := b2 hg
            rw [eK] at hb o3
            have hr3 : cRd (mj_up I2 23 2 (nI n + nI 1)) J2 T sz j2 := cRd_o (fun a _ g => up_fI (by omega)) r2
            refine q_ifb_ne (pc' := 32) (pt := 34) dX3_read_29 rfl rfl (fun _ => (q_aload_n (pc' := 35) dX3_read_34 rfl rfl (q_dup_a (pc' := 36) dX3_read_35 rfl (q_getIe (pc' := 39) dX3_read_36 rfl fr_RX3_32 ⟨by omega, rfl⟩ rfl hcn2 (q_iconst (pc' := 40) _ dX3_read_39 rfl kk_iconst_1 (q_iadd (pc' := 41) dX3_read_40 rfl (q_putI (pc' := 44) dX3_read_41 rfl fl_RX3_32 ⟨by omega, rfl⟩ rfl (q_inc_1 (pc' := 47) dX3_read_44 rfl (by decide) rfl (q_goto (pc' := 7) dX3_read_47 rfl ?_))))))))) (fun h9 => Bool.noConfusion (Eq.trans (Eq.symm (beq_iff_eq.mpr hg)) h9))
            refine ih (n + 1) (by omega) _ J2 _ j2 hr3 (fun i hi => ?_) (fun i hi => ?_) hk2 ⟨(mj_up_ne (by decide)).trans v2, (mj_up_ne (by decide)).trans u2⟩ ?_ ⟨fun a h1 h2 => (up_fI (by omega)).trans (hM2.1 a h1 h2), fun f hf2 => (mj_up_ne (by decide)).trans (hM2.2.1 f hf2), hM2.2.2⟩ (by omega) hb
            · rw [up_fI (show (24:Nat) ≠ 23 by decide), up_fI (show (25:Nat) ≠ 23 by decide), up_fI (show (26:Nat) ≠ 23 by decide), up_fI (show (27:Nat) ≠ 23 by decide)]
              by_cases ei : i = n
              · rw [if_pos ei, ei]
                exact b2
              · rw [if_neg ei]
                obtain ⟨a1, a2, a3, a4⟩ := m2.2.1 i ei
                rw [a1, a2, a3, a4]
                exact hO i (by omega)
            · by_cases ei : i = n
              · rw [if_pos ei]
                exact o2
              · rw [if_neg ei]
                exact hok i (by omega)
            · rw [mj_up_eq, nI_add]
          · exact absurd hg q
        · rcases c2 with ⟨q, -⟩ | ⟨-, v2, u2⟩
          · exact absurd q hg
          · rw [kOrs_bad hg] at hb
            rw [← hb] at hQ
            dsimp only at hQ
            rw [beq_eq_false_iff_ne.mpr hg] at hQ
            refine q_ifb_ne (pc' := 32) (pt := 34) dX3_read_29 rfl rfl (fun h9 => Bool.noConfusion (Eq.trans (Eq.symm (beq_eq_false_iff_ne.mpr hg)) h9)) (fun _ => (q_iconst (pc' := 33) _ dX3_read_32 rfl kk_iconst_0 ?_))
            exact q_zret dX3_read_33 rfl (Or.inl rfl) (hQ _ _ _ _ ⟨_, rfl, rfl, ⟨v2, u2⟩, fun q => absurd q hg, hM2, rfl⟩)
  refine loop 160 0 rfl (mj_up I 23 2 (nI 0)) J (fun _ _ => 0) 0 (cRd_o (fun a _ g => up_fI (by omega)) h) (fun i hi => absurd hi (Nat.not_lt_zero _)) (fun i hi => absurd hi (Nat.not_lt_zero _)) hkw ⟨(mj_up_ne (by decide)).trans hf.1, (mj_up_ne (by decide)).trans hf.2⟩ mj_up_eq ⟨fun a _ h2 => up_fI (by omega), fun f _ => mj_up_ne (by decide), fun _ _ _ => rfl⟩ (Nat.zero_le _) rfl
end OT3
