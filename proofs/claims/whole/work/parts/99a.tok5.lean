/-! ===== the class: all TOKENS of a text ===== -/
/-- the TOKENS of a text, one behind the other -/
def kSq (T : Nat → Nat) (sz : Nat) : Nat → Nat → Nat
  | 0 => tk0 T sz
  | i + 1 => tkK T sz (kSq T sz i)
def kPv (T : Nat → Nat) (sz : Nat) : Nat → Nat → Nat
  | 0 => kZ
  | i + 1 => kSq T sz i
theorem kSq_pv {T : Nat → Nat} {sz i : Nat} : kSq T sz i = tkK T sz (kPv T sz i) := by
  cases i with
  | zero => rfl
  | succ i => rfl
theorem kOK_sq {T : Nat → Nat} {sz : Nat} : ∀ i, kOK sz (kSq T sz i)
  | 0 => kOK_0
  | i + 1 => kOK_tk (kOK_sq i)
theorem kPv_le {T : Nat → Nat} {sz : Nat} : ∀ i, kPv T sz i 3 ≤ sz
  | 0 => Nat.zero_le _
  | i + 1 => (kOK_sq i).1
theorem kSq_wP {T : Nat → Nat} {sz i : Nat} (h : kSq T sz i 5 = 1) : wP T (kSq T sz i 4) (kSq T sz i 7) < 2 ^ 35 := by
  rw [kSq_pv] at h ⊢
  generalize kPv T sz i = K at h ⊢
  refine wP_lt (fun k hk => ?_)
  unfold tkK at h hk ⊢
  by_cases h1 : tkE (tBl T sz) 801 (K 3) < sz
  · rw [if_neg (fun q => q h1)] at h hk ⊢
    by_cases h2 : tLt T sz (tkE (tBl T sz) 801 (K 3)) = true
    · rw [if_pos h2] at h hk ⊢
      have hk2 : k < tkE (tLt T sz) 801 (tkE (tBl T sz) 801 (K 3)) - tkE (tBl T sz) 801 (K 3) := hk
      show T (tkE (tBl T sz) 801 (K 3) + k) ≤ 122
      have hr : tLt T sz (tkE (tBl T sz) 801 (K 3) + k) = true := tkE_run (P := tLt T sz) 801 (tkE (tBl T sz) 801 (K 3)) _ (Nat.le_add_right _ k) (by omega)
      exact (of_decide_eq_true hr).2.2
    · rw [if_neg h2] at h hk ⊢
      by_cases h3 : tDg T sz (tkE (tBl T sz) 801 (K 3)) = true
      · rw [if_pos h3] at h
        have q : (if 3 < tkE (tDg T sz) 801 (tkE (tBl T sz) 801 (K 3)) - tkE (tBl T sz) 801 (K 3) ∨ tLt T sz (tkE (tDg T sz) 801 (tkE (tBl T sz) 801 (K 3))) = true then 4 else 2) = 1 := h
        split at q <;> cases q
      · rw [if_neg h3] at h
        have q : (if T (tkE (tBl T sz) 801 (K 3)) = 59 then 3 else 4) = 1 := h
        split at q <;> cases q
  · rw [if_pos h1] at h
    cases h
/-- the class has split a text: so many TOKENS, and behind them the end or what is none -/
def cTs (I : mj_M) (J : mj_J) (T : Nat → Nat) (sz m : Nat) : Prop := m ≤ 800 ∧ (∀ q, q ≤ m → cTk I J T q (kSq T sz q)) ∧ (kSq T sz m 5 = 0 ∨ kSq T sz m 5 = 4) ∧ ∀ q, q < m → ¬ (kSq T sz q 5 = 0 ∨ kSq T sz q 5 = 4)
/-- .. and reads it at one of them -/
def cRd (I : mj_M) (J : mj_J) (T : Nat → Nat) (sz j : Nat) : Prop := ∃ m, cTs I J T sz m ∧ j ≤ m ∧ cCur I J T (kSq T sz j) ∧ I 10 8 = nI (if j = m then m else j + 1)
/-- nothing changes but the TOKENS -/
def mTs (I : mj_M) (J : mj_J) (I' : mj_M) (J' : mj_J) : Prop := (∀ a, a ≠ 10 → a ≠ 12 → a ≠ 13 → a ≠ 14 → I' a = I a) ∧ (∀ a f, a ≠ 15 → ¬ (a = 10 ∧ f = 13) → J' a f = J a f)
theorem cTk_F {I I' : mj_M} {J J' : mj_J} {T : Nat → Nat} {i : Nat} {K : Nat → Nat} (f : I' 12 i = I 12 i ∧ I' 13 i = I 13 i ∧ I' 14 i = I 14 i) (g : J' 15 i = J 15 i) (h : cTk I J T i K) : cTk I' J' T i K := by
  unfold cTk
  rw [f.1, f.2.1, f.2.2, g]
  exact h
theorem rt_weak {w : mj_Wd} {l : Launch} {y : MethodName} {d : mj_D} {As : List Value} {h0 : mj_H} {P P' : mj_P} (h : Rt w l y d As h0 P) (hw : ∀ v I' J' R', P v I' J' R' → P' v I' J' R') : Rt w l y d As h0 P' := by
  intro p e h1 h2 h3 s m args below g1 g2 g3 g4
  obtain ⟨n, o, a1, a2, a3, ⟨⟨v, I', J', R', q1, q2, q3⟩, q4⟩, q5⟩ := h p e h1 h2 h3 s m args below g1 g2 g3 g4
  exact ⟨n, o, a1, a2, a3, ⟨⟨v, I', J', R', q1, hw _ _ _ _ q2, q3⟩, q4⟩, q5⟩
section TOK5
variable {w : mj_Wd} {l : Launch} {I : mj_M} {J : mj_J} {R : mj_R} {T : Nat → Nat} {sz j : Nat}
theorem rt_X9_adv (hV : mj_wV R) (hkw : cKw J) (hsz : sz ≤ 800) (h : cRd I J T sz j) (hj : ¬ (kSq T sz j 5 = 0 ∨ kSq T sz j 5 = 4)) : RtV w l yX9_advance dd_X9_advance [.ref 10] (472, I, J, R) (fun I' J' R' => cRd I' J' T sz (j + 1) ∧ (∀ a, a ≠ 10 → I' a = I a) ∧ (∀ f, (f < 8 ∨ 14 < f ∨ f = 13) → I' 10 f = I 10 f) ∧ (∀ a f, ¬ (a = 10 ∧ f = 13) → J' a f = J a f) ∧ R' = R) := by
  obtain ⟨m, ⟨hm, t1, t2, t3⟩, hjm, hc, h8⟩ := h
  have hne : j ≠ m := fun q => hj (by rw [q]; exact t2)
  rw [if_neg hne] at h8
  refine rt_weak (rt_X9_advance hV hkw h8 (by omega) (t1 (j + 1) (by omega)) (kOK_sq (j + 1)) hsz kSq_wP) (fun v I' J' R' ⟨hv, c1, n1, f1, f2, f3, hR⟩ => ⟨hv, ⟨m, ⟨hm, fun q hq => ?_, t2, t3⟩, by omega, c1, ?_⟩, f1, f2, f3, hR⟩)
  · exact cTk_F ⟨by rw [f1 12 (by decide)], by rw [f1 13 (by decide)], by rw [f1 14 (by decide)]⟩ (f3 15 q (fun q2 => absurd q2.1 (by decide))) (t1 q hq)
  · rw [n1]
    congr 1
    by_cases e : j + 1 = m
    · have : kSq T sz (j + 1) 5 = 0 ∨ kSq T sz (j + 1) 5 = 4 ∨ j + 1 = 800 := by
        rw [e]
        exact t2.elim Or.inl (fun q => Or.inr (Or.inl q))
      rw [if_pos this, if_pos e, e]
    · have hno := t3 (j + 1) (by omega)
      rw [if_neg (fun q => q.elim (fun q => hno (Or.inl q)) (fun q => q.elim (fun q => hno (Or.inr q)) (fun q => by omega))), if_neg e]
end TOK5
