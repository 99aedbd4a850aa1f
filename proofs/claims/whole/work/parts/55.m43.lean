/-! ===== the reference: orders are read ===== -/
theorem tk_pl {T : Nat → Nat} {sz : Nat} {K : Nat → Nat} : K 3 ≤ tkK T sz K 4 ∧ (tkK T sz K 5 = 1 → tkK T sz K 3 = tkK T sz K 4 + tkK T sz K 7) := by
  have ha := tkE_ge (tBl T sz) 801 (K 3)
  unfold tkK
  generalize tkE (tBl T sz) 801 (K 3) = a at ha ⊢
  split
  · refine ⟨ha, fun h => ?_⟩
    have h' : (0:Nat) = 1 := h
    cases h'
  · split
    · refine ⟨ha, fun _ => ?_⟩
      show tkE (tLt T sz) 801 a = a + (tkE (tLt T sz) 801 a - a)
      have := tkE_ge (tLt T sz) 801 a
      omega
    · split
      · refine ⟨ha, fun h => ?_⟩
        have h' : (if 3 < tkE (tDg T sz) 801 a - a ∨ tLt T sz (tkE (tDg T sz) 801 a) = true then 4 else 2) = 1 := h
        split at h' <;> cases h'
      · refine ⟨ha, fun h => ?_⟩
        have h' : (if T a = 59 then 3 else 4) = 1 := h
        split at h' <;> cases h'
/-- a word's end, its letters -/
def kTk (K : Nat → Nat) : Prop := K 5 = 1 → K 3 = K 4 + K 7 ∧ K 12 < 256 ^ K 7
theorem kTk_tk {T : Nat → Nat} {sz : Nat} {K : Nat → Nat} : kTk (tkK T sz K) := fun h => ⟨tk_pl.2 h, (tk_wd h).2.1.2⟩
/-- a good order -/
def oOK (b : St) (r : Nat → Nat) : Prop := r 0 < 9 ∧ (r 0 < 6 → 1 ≤ r 1 ∧ r 1 - 1 < b 0 2) ∧ (3 ≤ r 0 → r 0 ≤ 5 → 1 ≤ r 2 ∧ r 2 - 1 < 8) ∧ (r 0 = 6 → 2 ≤ r 2 ∧ r 2 - 1 ≤ 100) ∧ (6 < r 0 → 1 ≤ r 2 ∧ r 2 - 1 < b 0 0) ∧ r 3 < 2 ^ b 0 0
theorem kKd_good {T : Nat → Nat} {sz : Nat} {b : St} {K : Nat → Nat} (h : kKd T sz b K 8 = 0) : K 8 = 0 ∧ K 5 = 1 ∧ (∃ d, dLast b (kWd K) (b 0 2) = some d) ∧ kKd T sz b K = tkK T sz K := by
  unfold kKd at h ⊢
  by_cases g : kKd1 b K 8 = 0
  · rw [if_pos g]
    unfold kKd1 at g ⊢
    by_cases hc : kNm K 8 = 0 ∧ dLast b (kWd K) (b 0 2) = none
    · rw [if_pos hc] at g; exact absurd g (kW8 (by decide))
    · rw [if_neg hc] at g ⊢
      obtain ⟨e1, e2, e3, e4⟩ := kNm8 g
      refine ⟨e2, e3, ?_, by rw [e1]⟩
      cases hd : dLast b (kWd K) (b 0 2) with
      | none => exact absurd ⟨g, hd⟩ hc
      | some d => exact ⟨d, rfl⟩
  · rw [if_neg g] at h; exact absurd h g
theorem odTo_good {T : Nat → Nat} {sz : Nat} {K : Nat → Nat} (h : odTo T sz K 8 = 0) : K 8 = 0 ∧ odTo T sz K = tkK T sz K := by
  unfold odTo at h ⊢
  rw [kG8] at h
  by_cases hc : kIs K 29807 = true
  · rw [if_pos hc] at h ⊢; exact ⟨h, if_pos h⟩
  · rw [if_neg hc] at h; exact absurd h (kW8 (by decide))
theorem od_step {K K' : Nat → Nat} {c : Prop} [Decidable c] (h : (if c then K' else K) 8 = 0) (h1 : K' 8 = 0 → K 8 = 0 ∧ K 3 ≤ K' 3) : K 8 = 0 ∧ K 3 ≤ (if c then K' else K) 3 := by
  by_cases hc : c
  · rw [if_pos hc] at h ⊢; exact h1 h
  · rw [if_neg hc] at h ⊢; exact ⟨h, Nat.le_refl _⟩
theorem kNi_st {T : Nat → Nat} {sz : Nat} {K : Nat → Nat} {x y : Int32} (h : kNi T sz K x y 8 = 0) : K 8 = 0 ∧ K 3 ≤ kNi T sz K x y 3 := by
  obtain ⟨n1, n2⟩ := kNi_good h
  exact ⟨(kN_gd n1).2.1, by rw [n2]; exact tk3⟩
theorem ord_ok {T : Nat → Nat} {sz : Nat} {b : St} {K : Nat → Nat} (hB : bOK b) (hk : kOK sz K) (h : (kOrd T sz b K).1 8 = 0) : K 3 < (kOrd T sz b K).1 3 ∧ oOK b (kOrd T sz b K).2 ∧ (kTk K → K 4 + 5 ≤ (kOrd T sz b K).1 4) ∧ kTk (kOrd T sz b K).1 := by
  have hc8 := hB.1.2
  cases ho : ordN K with
  | none =>
    have e : kOrd T sz b K = (kW K 2, fun _ => 0) := by unfold kOrd; rw [ho]
    rw [e] at h
    exact absurd h (kW8 (by decide))
  | some i =>
    have hi := ordN_lt ho
    have e : kOrd T sz b K = (kSg T sz (odR T sz b i (tkK T sz K)), odO T sz b i (tkK T sz K)) := by unfold kOrd; rw [ho]
    rw [e] at h ⊢
    have hkt := kOK_tk (T := T) hk
    obtain ⟨s1, s2, s3⟩ := kSg_good h
    obtain ⟨og1, og2, og3⟩ := ordN_good ho
    have t8 : tkK T sz K 8 = 0 := tk8.trans og1
    -- back through the stages
    have s7 : odR T sz b i (tkK T sz K) 8 = 0 := s1
    unfold odR odK7 at s7
    obtain ⟨q6, m6⟩ := od_step s7 kNi_st
    have q6' := q6
    unfold odK6 at q6'
    obtain ⟨q5, m5⟩ := od_step q6' kNi_st
    have k5 : odK4 T sz i (odK3 T sz b i (tkK T sz K)) 8 = 0 ∧ odK4 T sz i (odK3 T sz b i (tkK T sz K)) 3 ≤ (odK5 T sz b i (odK4 T sz i (odK3 T sz b i (tkK T sz K)))).2 3 := by
      by_cases h5 : i = 5
      · have e5 : odK5 T sz b i (odK4 T sz i (odK3 T sz b i (tkK T sz K))) = kSetOf T sz (b 0 0) 0 (odTo T sz (odK4 T sz i (odK3 T sz b i (tkK T sz K)))) := if_pos h5
        rw [e5] at q5 ⊢
        have n := kSetOf_num q5
        have n2 := odTo_good n.1
        refine ⟨n2.1, Nat.le_trans ?_ kSetOf3⟩
        rw [n2.2]
        exact tk3
      · have e5 : odK5 T sz b i (odK4 T sz i (odK3 T sz b i (tkK T sz K))) = (0, odK4 T sz i (odK3 T sz b i (tkK T sz K))) := if_neg h5
        rw [e5] at q5 ⊢
        exact ⟨q5, Nat.le_refl _⟩
    have q4' := k5.1
    unfold odK4 at q4'
    obtain ⟨q3, m3⟩ := od_step q4' kNi_st
    have q3' := q3
    unfold odK3 at q3'
    obtain ⟨q2, m2⟩ := od_step q3' (fun g => ⟨(kKd_good g).1, by rw [(kKd_good g).2.2.2]; exact tk3⟩)
    have mono : tkK T sz K 3 ≤ odR T sz b i (tkK T sz K) 3 := by
      have a1 : tkK T sz K 3 ≤ odK3 T sz b i (tkK T sz K) 3 := m2
      have a2 : odK3 T sz b i (tkK T sz K) 3 ≤ odK4 T sz i (odK3 T sz b i (tkK T sz K)) 3 := m3
      have a3 := k5.2
      have a4 : (odK5 T sz b i (odK4 T sz i (odK3 T sz b i (tkK T sz K)))).2 3 ≤ odK6 T sz i (odK5 T sz b i (odK4 T sz i (odK3 T sz b i (tkK T sz K)))).2 3 := m5
      have a5 : odK6 T sz i (odK5 T sz b i (odK4 T sz i (odK3 T sz b i (tkK T sz K)))).2 3 ≤ odR T sz b i (tkK T sz K) 3 := m6
      omega
    have hdev : i < 6 → tkK T sz K 5 = 1 ∧ ∃ d, dLast b (kWd (tkK T sz K)) (b 0 2) = some d := fun h6 => by
      rw [if_pos h6] at q3'
      have := kKd_good q3'
      exact ⟨this.2.1, this.2.2.1⟩
    have eK3 : ¬ i < 6 → (odK5 T sz b i (odK4 T sz i (odK3 T sz b i (tkK T sz K)))).2 = tkK T sz K := fun h6 => by
      unfold odK5 odK4 odK3
      rw [if_neg (by omega), if_neg (by omega), if_neg (by omega)]
    have h6n : i = 6 → tkK T sz K 5 = 2 ∧ nI 1 ≤ nI (tkK T sz K 6) ∧ nI (tkK T sz K 6) ≤ nI 100 := fun h6 => by
      rw [if_pos h6, eK3 (by omega)] at q6'
      have := kN_gd (kNi_good q6').1
      exact this.2.2
    have h7n : 6 < i → tkK T sz K 5 = 2 ∧ nI 0 ≤ nI (tkK T sz K 6) ∧ nI (tkK T sz K 6) ≤ nI (b 0 0) - nI 1 := fun h6 => by
      have e6 : odK6 T sz i (odK5 T sz b i (odK4 T sz i (odK3 T sz b i (tkK T sz K)))).2 = tkK T sz K := by
        rw [eK3 (by omega)]; unfold odK6; rw [if_neg (by omega)]
      rw [if_pos h6, e6] at s7
      have := kN_gd (kNi_good s7).1
      exact this.2.2
    have h5t : tkK T sz K 5 ≠ 0 := by
      by_cases h6 : i < 6
      · rw [(hdev h6).1]; decide
      · by_cases h7 : i = 6
        · rw [(h6n h7).1]; decide
        · rw [(h7n (by omega)).1]; decide
    have hst := tk_st h5t
    refine ⟨?_, ?_, fun ht => ?_, ?_⟩
    · show K 3 < kSg T sz (odR T sz b i (tkK T sz K)) 3
      rw [s3]
      have := tk3 (T := T) (sz := sz) (K := odR T sz b i (tkK T sz K))
      omega
    · have o0 : odO T sz b i (tkK T sz K) 0 = i := rfl
      have o1e : odO T sz b i (tkK T sz K) 1 = (if i < 6 then oR (dLast b (kWd (tkK T sz K)) (b 0 2)) else 0) := rfl
      have o2e : odO T sz b i (tkK T sz K) 2 = (if 3 ≤ i then (if i ≤ 5 then odV (odK3 T sz b i (tkK T sz K)) + 1 else odV (tkK T sz K) + 1) else 0) := rfl
      have o3e : odO T sz b i (tkK T sz K) 3 = (if i = 5 then (odK5 T sz b i (odK4 T sz i (odK3 T sz b i (tkK T sz K)))).1 else 0) := rfl
      have k6 := hkt.2.2.1
      show oOK b (odO T sz b i (tkK T sz K))
      refine ⟨by rw [o0]; exact hi, fun h6 => ?_, fun h3 h5 => ?_, fun h6 => ?_, fun h6 => ?_, ?_⟩
      · rw [o0] at h6
        rw [o1e, if_pos h6]
        obtain ⟨d, hd⟩ := (hdev h6).2
        rw [hd]
        exact ⟨Nat.succ_le_succ (Nat.zero_le d), (dLast_lt hd).1⟩
      · rw [o0] at h3 h5
        rw [o2e, if_pos h3, if_pos h5]
        have e4 : odK4 T sz i (odK3 T sz b i (tkK T sz K)) = kNi T sz (odK3 T sz b i (tkK T sz K)) (nI 0) (nI 7) := if_pos ⟨h3, h5⟩
        have g4 := k5.1
        rw [e4] at g4
        have gg := kN_gd (kNi_good g4).1
        have k36 := (kOK_od3 (T := T) (b := b) (i := i) hkt).2.2.1
        have g7 := gg.2.2.2.2
        rw [nI_leI (by omega) (by omega)] at g7
        unfold odV
        rw [if_pos gg.2.1]
        omega
      · rw [o0] at h6
        obtain ⟨n1, n2, n3⟩ := h6n h6
        rw [nI_leI (by omega) (by omega)] at n2 n3
        rw [o2e, if_pos (by omega), if_neg (by omega)]
        unfold odV
        rw [if_pos t8]
        omega
      · rw [o0] at h6
        obtain ⟨n1, n2, n3⟩ := h7n h6
        have hc1 := hB.1.1
        rw [nI_sb hc1, nI_leI (by omega) (by omega)] at n3
        rw [o2e, if_pos (by omega), if_neg (by omega)]
        unfold odV
        rw [if_pos t8]
        omega
      · rw [o3e]
        split
        · rename_i h5
          have e5 : odK5 T sz b i (odK4 T sz i (odK3 T sz b i (tkK T sz K))) = kSetOf T sz (b 0 0) 0 (odTo T sz (odK4 T sz i (odK3 T sz b i (tkK T sz K)))) := if_pos h5
          rw [e5]
          exact kSetOf_lt (by omega) (kOK_to (kOK_od4 (kOK_od3 hkt))) (Nat.two_pow_pos _)
        · exact Nat.two_pow_pos _
    · show K 4 + 5 ≤ kSg T sz (odR T sz b i (tkK T sz K)) 4
      rw [s3]
      have h1 := (tk_pl (T := T) (sz := sz) (K := odR T sz b i (tkK T sz K))).1
      obtain ⟨t1, t2⟩ := ht og2
      have h4 : 4 ≤ K 7 := by
        refine Decidable.byContradiction fun q => ?_
        have : 256 ^ K 7 ≤ 256 ^ 3 := Nat.pow_le_pow_right (by decide) (by omega)
        have e3 : (256:Nat) ^ 3 = 2 ^ 24 := by decide
        omega
      omega
    · show kTk (kSg T sz (odR T sz b i (tkK T sz K)))
      rw [s3]
      exact kTk_tk
/-- all orders: the reader behind them, how many, their numbers -/
def kOrs (T : Nat → Nat) (sz : Nat) (b : St) : Nat → Nat → St → (Nat → Nat) → (Nat → Nat) × Nat × St
  | 0, n, O, K => (K, n, O)
  | f + 1, n, O, K => if K 8 = 0 ∧ K 5 ≠ 0 then kOrs T sz b f (n + 1) (fun i => if i = n then (kOrd T sz b K).2 else O i) (kOrd T sz b K).1 else (K, n, O)
theorem kOrs_bad {T : Nat → Nat} {sz f n : Nat} {b O : St} {K : Nat → Nat} (h : K 8 ≠ 0) : kOrs T sz b f n O K = (K, n, O) := by
  cases f with
  | zero => rfl
  | succ f => unfold kOrs; rw [if_neg (fun q => h q.1)]
def kOrders (T : Nat → Nat) (t : Nat) (b : St) : (Nat → Nat) × Nat × St := kOrs T t b 802 0 (fun _ _ => 0) (tk0 T t)
section M43
variable {w : mj_Wd} {l : Launch} {I : mj_M} {J : mj_J} {R : mj_R} {b A D : St} {T : Nat → Nat} {sz t : Nat} {K : Nat → Nat}
/-- what reading orders leaves as it was -/
def mOf (I : mj_M) (J : mj_J) (I' : mj_M) (J' : mj_J) : Prop := (∀ a, a ≠ 452 → a ≠ 468 → I' a = I a) ∧ (∀ f, 11 < f → f ≠ 43 → f ≠ 44 → I' 452 f = I 452 f) ∧ ∀ a f, ¬ (a = 452 ∧ f = 12) → J' a f = J a f
theorem mOf.tr {I I' I2 : mj_M} {J J' J2 : mj_J} (h : mOf I J I' J') (h2 : mOf I' J' I2 J2) : mOf I J I2 J2 := ⟨fun a h1 h3 => (h2.1 a h1 h3).trans (h.1 a h1 h3), fun f h1 h3 h4 => (h2.2.1 f h1 h3 h4).trans (h.2.1 f h1 h3 h4), fun a f h1 => (h2.2.2 a f h1).trans (h.2.2 a f h1)⟩
theorem mB_of {I I' : mj_M} {J J' : mj_J} (h : mOf I J I' J') (hb : mB I b) : mB I' b := by
  have f := h.2.1
  have g := h.1
  refine ⟨?_, ?_, ?_, fun d hd => ?_⟩
  · rw [f 18 (by decide) (by decide) (by decide)]; exact hb.1
  · rw [f 19 (by decide) (by decide) (by decide)]; exact hb.2.1
  · rw [f 22 (by decide) (by decide) (by decide)]; exact hb.2.2.1
  · rw [g 457 (by decide) (by decide), g 458 (by decide) (by decide), g 459 (by decide) (by decide)]; exact hb.2.2.2 d hd
theorem mN_of {I I' : mj_M} {J J' : mj_J} (h : mOf I J I' J') (hn : mN I J b) : mN I' J' b := fun d hd => by
  rw [h.1 461 (by decide) (by decide), h.2.2 463 d (by omega)]; exact hn d hd
/-- orders() as far as its text is read -/
theorem w_ors (Q : Option Value → mj_H → Prop) (Y : mj_Y) (hM : mj_wM R) (hT : mTp I T t) (hb : mB I b) (hB : bOK b) (hN : bNm b) (hn : mN I J b)
    (hbad : ∀ I1 J1, (kOrders T t b).1 8 ≠ 0 → I1 452 1 = nI 0 → I1 452 10 = nI ((kOrders T t b).1 8) → I1 452 11 = (if (kOrders T t b).1 9 = 0 then -1 else nI ((kOrders T t b).1 9 - 1)) → I1 452 44 = nI 0 → mOf I J I1 J1 → Q (some (.int (-1))) (472, I1, J1, R))
    (hgood : ∀ I1 J1, (kOrders T t b).1 8 = 0 → I1 452 1 = nI 0 → I1 452 10 = nI ((kOrders T t b).1 8) → I1 452 11 = (if (kOrders T t b).1 9 = 0 then -1 else nI ((kOrders T t b).1 9 - 1)) → I1 452 44 = nI 0 → mOf I J I1 J1 → I1 452 43 = nI (kOrders T t b).2.1 → (kOrders T t b).2.1 ≤ 160 → mO I1 (kOrders T t b).2.2 (kOrders T t b).2.1 → (∀ i, i < (kOrders T t b).2.1 → oOK b ((kOrders T t b).2.2 i)) → Wq dd_X11_orders (mj_mk w l 472 Y) Q 44 [some (.ref 452), none] [] (472, I1, J1, R)) :
    Wq dd_X11_orders (mj_mk w l 472 Y) Q 0 [some (.ref 452), none] [] (472, I, J, R) := by
  have h800 := hT.2.1
  refine q_aload_n (pc' := 1) dX11_orders_0 rfl rfl (q_tVv (pc' := 4) dX11_orders_1 rfl ml_RX11_271 yv_X11_beginsText (by decide) (rt_X11_beginsText hM hT) ⟨by omega, rfl⟩ rfl rfl (Nat.le_of_ble_eq_true rfl) (Nat.le_refl _) (fun I1 J1 R1 ⟨h1, e1, f1, f2, f3, eR⟩ => ?_))
  rw [eR]
  refine q_aload_n (pc' := 5) dX11_orders_4 rfl rfl (q_iconst (pc' := 6) _ dX11_orders_5 rfl kk_iconst_0 (q_putI (pc' := 9) dX11_orders_6 rfl fl_RX11_442 ⟨by omega, rfl⟩ rfl (q_aload_n (pc' := 10) dX11_orders_9 rfl rfl (q_iconst (pc' := 11) _ dX11_orders_10 rfl kk_iconst_0 (q_putI (pc' := 14) dX11_orders_11 rfl fl_RX11_265 ⟨by omega, rfl⟩ rfl ?_)))))
  have h2 : mRd (mj_up (mj_up I1 452 43 (nI 0)) 452 44 (nI 0)) J1 T t (tk0 T t) := mRd_oth (by decide) (mRd_oth (by decide) h1)
  have e2 : mj_up (mj_up I1 452 43 (nI 0)) 452 44 (nI 0) 452 1 = nI 0 := by rw [mj_up_ne2 (by decide), mj_up_ne2 (by decide)]; exact e1
  have e43 : mj_up (mj_up I1 452 43 (nI 0)) 452 44 (nI 0) 452 43 = nI 0 := by rw [mj_up_ne2 (by decide), mj_up_eq]
  have e44 : mj_up (mj_up I1 452 43 (nI 0)) 452 44 (nI 0) 452 44 = nI 0 := mj_up_eq
  have g2 : mOf I J (mj_up (mj_up I1 452 43 (nI 0)) 452 44 (nI 0)) J1 := ⟨fun a h _ => by rw [up_fI h, up_fI h]; exact f1 a h, fun f q1 q2 q3 => by rw [mj_up_ne2 q3, mj_up_ne2 q2]; exact f2 f (by omega), f3⟩
  generalize mj_up (mj_up I1 452 43 (nI 0)) 452 44 (nI 0) = I2 at h2 e2 e43 e44 g2 ⊢
  have fin : ∀ I3 J3 K3 n3 O3, kOrders T t b = (K3, n3, O3) → mRd I3 J3 T t K3 → kOK t K3 → I3 452 1 = nI 0 → I3 452 44 = nI 0 → mOf I J I3 J3 → I3 452 43 = nI n3 → n3 ≤ 160 ∨ K3 8 ≠ 0 → (K3 8 = 0 → mO I3 O3 n3 ∧ ∀ i, i < n3 → oOK b (O3 i)) → Wq dd_X11_orders (mj_mk w l 472 Y) Q 35 [some (.ref 452), none] [] (472, I3, J3, R) := by
    intro I3 J3 K3 n3 O3 he h3 hk3 q1 q44 g3 q43 hle hO
    rw [he] at hbad hgood
    refine q_aload_n (pc' := 36) dX11_orders_35 rfl rfl (q_sVi (pc' := 39) dX11_orders_36 rfl ml_RX11_277 yv_X11_endsText (by decide) (rs_X11_endsText h3 hk3) ⟨by omega, rfl⟩ rfl rfl (Nat.le_of_ble_eq_true rfl) (Nat.le_refl _) (fun x4 I4 ⟨r4, eI⟩ => ?_))
    rw [r4]
    have e1' : I4 452 1 = nI 0 := by rw [eI, mj_up_ne2 (by decide), mj_up_ne2 (by decide)]; exact q1
    have e10 : I4 452 10 = nI (K3 8) := by rw [eI, mj_up_ne2 (by decide), mj_up_eq]
    have e11 : I4 452 11 = (if K3 9 = 0 then -1 else nI (K3 9 - 1)) := by rw [eI, mj_up_eq]
    have e44' : I4 452 44 = nI 0 := by rw [eI, mj_up_ne2 (by decide), mj_up_ne2 (by decide)]; exact q44
    have e43' : I4 452 43 = nI n3 := by rw [eI, mj_up_ne2 (by decide), mj_up_ne2 (by decide)]; exact q43
    have g5 : mOf I J I4 J3 := g3.tr ⟨fun a h _ => by rw [eI, up_fI h, up_fI h], fun f w1 w2 w3 => by rw [eI, mj_up_ne2 (by omega), mj_up_ne2 (by omega)], fun _ _ _ => rfl⟩
    by_cases g : K3 8 = 0
    · have eO : I4 468 = I3 468 := by rw [eI, up_fI (by decide), up_fI (by decide)]
      refine q_ifb_ne (pc' := 42) (pt := 44) dX11_orders_39 rfl rfl (fun _ => ?_) (fun h9 => Bool.noConfusion (Eq.trans (Eq.symm (beq_iff_eq.mpr g)) h9))
      exact hgood I4 J3 g e1' e10 e11 e44' g5 e43' (hle.resolve_right (fun q => q g)) (fun i hi => by rw [eO]; exact (hO g).1 i hi) (hO g).2
    · exact q_ifb_ne (pc' := 42) (pt := 44) dX11_orders_39 rfl rfl (fun h9 => Bool.noConfusion (Eq.trans (Eq.symm (beq_eq_false_iff_ne.mpr g)) h9)) (fun _ => (q_iconst (pc' := 43) _ dX11_orders_42 rfl kk_iconst_m1 (q_iret dX11_orders_43 rfl (hbad I4 J3 g e1' e10 e11 e44' g5))))
  have loop : ∀ f I3 J3 K3 n3 O3, t + 2 ≤ K3 3 + f → kOrs T t b f n3 O3 K3 = kOrders T t b → mRd I3 J3 T t K3 → kOK t K3 → K3 8 = 0 → kTk K3 → 5 * n3 ≤ K3 4 → I3 452 1 = nI 0 → I3 452 44 = nI 0 → mOf I J I3 J3 → I3 452 43 = nI n3 → mO I3 O3 n3 → (∀ i, i < n3 → oOK b (O3 i)) → Wq dd_X11_orders (mj_mk w l 472 Y) Q 14 [some (.ref 452), none] [] (472, I3, J3, R) := by
    intro f
    induction f with
    | zero => intro I3 J3 K3 n3 O3 hf _ _ hk3; have := hk3.1; omega
    | succ f ih =>
      intro I3 J3 K3 n3 O3 hf he h3 hk3 g hkt hn5 q1 q44 g3 q43 hO hok
      have e5 := h3.2.2.1 5 (by decide) (by decide)
      have b5 := hk3.2.1
      have b4 := hk3.2.2.2.2.2.2
      unfold kOrs at he
      by_cases g5 : K3 5 = 0
      · rw [if_neg (fun q => q.2 g5)] at he
        refine q_aload_n (pc' := 15) dX11_orders_14 rfl rfl (q_cVi (pc' := 18) dX11_orders_15 rfl ml_RX11_182 yv_X11_isGood (by decide) (rn_good h3 hk3) ⟨by omega, rfl⟩ rfl rfl (Nat.le_of_ble_eq_true rfl) (Nat.le_refl _) (q_ifb_eq (pc' := 21) (pt := 35) dX11_orders_18 rfl rfl (fun h9 => Bool.noConfusion (Eq.trans (Eq.symm (beq_iff_eq.mpr g)) h9)) (fun _ => (q_aload_n (pc' := 22) dX11_orders_21 rfl rfl (q_getIe (pc' := 25) dX11_orders_22 rfl fr_RX11_116 ⟨by omega, rfl⟩ rfl e5 (q_if_eq (pc' := 28) (pt := 35) dX11_orders_25 rfl rfl (fun _ => ?_) (fun h9 => absurd (congrArg nI g5) h9)))))))
        exact fin I3 J3 K3 n3 O3 he.symm h3 hk3 q1 q44 g3 q43 (Or.inl (by omega)) (fun _ => ⟨hO, hok⟩)
      · rw [if_pos ⟨g, g5⟩] at he
        refine q_aload_n (pc' := 15) dX11_orders_14 rfl rfl (q_cVi (pc' := 18) dX11_orders_15 rfl ml_RX11_182 yv_X11_isGood (by decide) (rn_good h3 hk3) ⟨by omega, rfl⟩ rfl rfl (Nat.le_of_ble_eq_true rfl) (Nat.le_refl _) (q_ifb_eq (pc' := 21) (pt := 35) dX11_orders_18 rfl rfl (fun h9 => Bool.noConfusion (Eq.trans (Eq.symm (beq_iff_eq.mpr g)) h9)) (fun _ => (q_aload_n (pc' := 22) dX11_orders_21 rfl rfl (q_getIe (pc' := 25) dX11_orders_22 rfl fr_RX11_116 ⟨by omega, rfl⟩ rfl e5 (q_if_eq (pc' := 28) (pt := 35) dX11_orders_25 rfl rfl (fun h9 => absurd h9 (nI_ne (b := 0) g5 (by omega) (by omega))) (fun _ => (q_aload_n (pc' := 29) dX11_orders_28 rfl rfl (q_tVv (pc' := 32) dX11_orders_29 rfl ml_RX11_457 yv_X11_readOrder (by decide) (rt_X11_readOrder hM (mB_of g3 hb) hB hN (mN_of g3 hn) h3 hk3 g q43 (by omega)) ⟨by omega, rfl⟩ rfl rfl (Nat.le_of_ble_eq_true rfl) (Nat.le_refl _) (fun I4 J4 R4 ⟨h4, o4, p4, q4, r4, s4, j4, eR4⟩ => ?_))))))))))
        rw [eR4]
        have hk4 := kOK_ord (T := T) (b := b) hk3
        have e4 : I4 452 1 = nI 0 := (s4 1 (by decide) (by decide)).trans q1
        have e44' : I4 452 44 = nI 0 := (s4 44 (by decide) (by decide)).trans q44
        have g4 : mOf I J I4 J4 := g3.tr ⟨r4, fun f w1 w2 w3 => s4 f (by omega) w2, j4⟩
        refine q_goto (pc' := 14) dX11_orders_32 rfl ?_
        by_cases gg : (kOrd T t b K3).1 8 = 0
        · obtain ⟨k1, k2, k3, k4⟩ := ord_ok hB hk3 gg
          have k5 := k3 hkt
          refine ih I4 J4 _ _ _ (by omega) he h4 hk4 gg k4 (by omega) e4 e44' g4 q4 (fun i hi => ?_) (fun i hi => ?_)
          · by_cases ei : i = n3
            · subst ei
              show I4 468 (4 * i) = nI ((if i = i then (kOrd T t b K3).2 else O3 i) 0) ∧ I4 468 (4 * i + 1) = lD ((if i = i then (kOrd T t b K3).2 else O3 i) 1) ∧ I4 468 (4 * i + 2) = lD ((if i = i then (kOrd T t b K3).2 else O3 i) 2) ∧ I4 468 (4 * i + 3) = nI ((if i = i then (kOrd T t b K3).2 else O3 i) 3)
              rw [if_pos rfl]
              exact o4 gg
            · show I4 468 (4 * i) = nI ((if i = n3 then (kOrd T t b K3).2 else O3 i) 0) ∧ I4 468 (4 * i + 1) = lD ((if i = n3 then (kOrd T t b K3).2 else O3 i) 1) ∧ I4 468 (4 * i + 2) = lD ((if i = n3 then (kOrd T t b K3).2 else O3 i) 2) ∧ I4 468 (4 * i + 3) = nI ((if i = n3 then (kOrd T t b K3).2 else O3 i) 3)
              rw [if_neg ei, p4 _ (by omega), p4 _ (by omega), p4 _ (by omega), p4 _ (by omega)]
              exact hO i (by omega)
          · show oOK b (if i = n3 then (kOrd T t b K3).2 else O3 i)
            by_cases ei : i = n3
            · rw [if_pos ei]; exact k2
            · rw [if_neg ei]; exact hok i (by omega)
        · rw [kOrs_bad gg] at he
          refine q_aload_n (pc' := 15) dX11_orders_14 rfl rfl (q_cVi (pc' := 18) dX11_orders_15 rfl ml_RX11_182 yv_X11_isGood (by decide) (rn_good h4 hk4) ⟨by omega, rfl⟩ rfl rfl (Nat.le_of_ble_eq_true rfl) (Nat.le_refl _) (q_ifb_eq (pc' := 21) (pt := 35) dX11_orders_18 rfl rfl (fun _ => ?_) (fun h9 => Bool.noConfusion (Eq.trans (Eq.symm (beq_eq_false_iff_ne.mpr gg)) h9))))
          exact fin I4 J4 _ _ _ he.symm h4 hk4 e4 e44' g4 q4 (Or.inr gg) (fun q => absurd q gg)
  have h08 : tk0 T t 8 = 0 := tk8
  exact loop 802 I2 J1 _ 0 _ (by omega) rfl h2 kOK_0 h08 kTk_tk (Nat.zero_le _) e2 e44 g2 e43 (fun i hi => absurd hi (Nat.not_lt_zero _)) (fun i hi => absurd hi (Nat.not_lt_zero _))
end M43
