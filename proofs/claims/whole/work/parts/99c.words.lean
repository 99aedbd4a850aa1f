/-! ===== words: by five bits a letter, and by eight ===== -/
/-- letters stand there -/
def ltr (T : Nat → Nat) (a n : Nat) : Prop := ∀ k, k < n → 97 ≤ T (a + k) ∧ T (a + k) ≤ 122
theorem ltr_le {T : Nat → Nat} {a n m : Nat} (h : ltr T a n) (hm : m ≤ n) : ltr T a m := fun k hk => h k (by omega)
def h5 (T : Nat → Nat) (a : Nat) : Nat → Nat
  | 0 => 0
  | n + 1 => 32 * h5 T a n + (T (a + n) - 96)
theorem h5_s {T : Nat → Nat} {a n : Nat} : h5 T a (n + 1) = 32 * h5 T a n + (T (a + n) - 96) := rfl
theorem wV_s {T : Nat → Nat} {a n : Nat} (h : n < 8) : wV T a (n + 1) = wV T a n * 256 + T (a + n) := by
  show (if n < 8 then wV T a n * 256 + T (a + n) else wV T a n) = _
  rw [if_pos h]
theorem wP_h5 {T : Nat → Nat} {a n : Nat} (h : ltr T a n) (hn : n ≤ 7) : wP T a n = 2 ^ (5 * (7 - n)) * h5 T a n := by
  induction n with
  | zero => rfl
  | succ n ih =>
    have h1 := ih (ltr_le h (by omega)) (by omega)
    have h2 := h n (by omega)
    have e : wP T a (n + 1) = wP T a n ||| (if n < 7 then (T (a + n) - 96) * 2 ^ (5 * (6 - n)) else 0) := rfl
    rw [e, if_pos (by omega), h1, h5_s]
    generalize hd : T (a + n) - 96 = d
    have hd32 : d < 32 := by omega
    have e2 : 2 ^ (5 * (7 - n)) = 2 ^ (5 * (6 - n)) * 32 := by
      rw [show 5 * (7 - n) = 5 * (6 - n) + 5 by omega, Nat.pow_add]
    have e3 : 7 - (n + 1) = 6 - n := by omega
    have hlt : d * 2 ^ (5 * (6 - n)) < 2 ^ (5 * (7 - n)) := by
      rw [e2, Nat.mul_comm]
      exact Nat.mul_lt_mul_of_pos_left hd32 (Nat.two_pow_pos _)
    rw [← Nat.two_pow_add_eq_or_of_lt hlt, e3, e2, Nat.mul_add, Nat.mul_assoc, Nat.mul_comm d]
theorem h5_inj {T S : Nat → Nat} {a c n : Nat} (hT : ltr T a n) (hS : ltr S c n) (h : h5 T a n = h5 S c n) : ∀ k, k < n → T (a + k) = S (c + k) := by
  induction n with
  | zero => intro k hk; omega
  | succ n ih =>
    rw [h5_s, h5_s] at h
    have h1 := hT n (by omega)
    have h2 := hS n (by omega)
    intro k hk
    by_cases e : k = n
    · subst e; omega
    · exact ih (ltr_le hT (by omega)) (ltr_le hS (by omega)) (by omega) k (by omega)
theorem wV_inj {T S : Nat → Nat} {a c n : Nat} (hn : n ≤ 8) (hT : ltr T a n) (hS : ltr S c n) (h : wV T a n = wV S c n) : ∀ k, k < n → T (a + k) = S (c + k) := by
  induction n with
  | zero => intro k hk; omega
  | succ n ih =>
    rw [wV_s (by omega), wV_s (by omega)] at h
    have h1 := hT n (by omega)
    have h2 := hS n (by omega)
    intro k hk
    by_cases e : k = n
    · subst e; omega
    · exact ih (by omega) (ltr_le hT (by omega)) (ltr_le hS (by omega)) (by omega) k (by omega)
theorem wV_lo {T : Nat → Nat} {a n : Nat} (hn : n ≤ 8) (hT : ltr T a n) (h0 : 1 ≤ n) : 256 ^ (n - 1) ≤ wV T a n := by
  induction n with
  | zero => omega
  | succ n ih =>
    rw [wV_s (by omega)]
    have h1 := hT n (by omega)
    by_cases e : n = 0
    · subst e
      show 1 ≤ _
      omega
    · have h2 := ih (by omega) (ltr_le hT (by omega)) (by omega)
      have e2 : 256 ^ (n + 1 - 1) = 256 ^ (n - 1) * 256 := by rw [← Nat.pow_succ]; congr 1; omega
      rw [e2]
      omega
theorem wV_hi {T : Nat → Nat} {a n : Nat} (hn : n ≤ 8) (hT : ltr T a n) : wV T a n < 256 ^ n := by
  have h1 := wV_lt (T := T) (a := a) (n := n) (fun k hk => (hT k hk).2)
  rw [Nat.min_eq_left hn] at h1
  omega
theorem wV_len {T S : Nat → Nat} {a c n m : Nat} (hn : n ≤ 8) (hm : m ≤ 8) (hT : ltr T a n) (hS : ltr S c m) (h : wV T a n = wV S c m) : ¬ n < m := by
  intro hlt
  have h1 := wV_hi hn hT
  have h2 := wV_lo hm hS (by omega)
  have h3 : 256 ^ n ≤ 256 ^ (m - 1) := Nat.pow_le_pow_right (by decide) (by omega)
  omega
theorem wP_len {T S : Nat → Nat} {a c n m : Nat} (hn : n ≤ 7) (hm : m ≤ 7) (hT : ltr T a n) (hS : ltr S c m) (h : wP T a n = wP S c m) : ¬ n < m := by
  intro hlt
  rw [wP_h5 hT hn, wP_h5 hS hm] at h
  have e : 5 * (7 - n) = 5 * (7 - m) + 5 * (m - n) := by omega
  rw [e, Nat.pow_add, Nat.mul_assoc] at h
  have h1 := Nat.eq_of_mul_eq_mul_left (Nat.two_pow_pos _) h
  obtain ⟨p, rfl⟩ : ∃ p, m = p + 1 := ⟨m - 1, by omega⟩
  have e2 : 5 * (p + 1 - n) = 5 + 5 * (p - n) := by omega
  rw [e2, Nat.pow_add, Nat.mul_assoc, h5_s] at h1
  have h2 := hS p (by omega)
  generalize 2 ^ (5 * (p - n)) * h5 T a n = x at h1
  generalize h5 S c p = y at h1
  have h3 : 2 ^ 5 * x = 32 * y + (S (c + p) - 96) := h1
  omega
theorem wV_cong {T S : Nat → Nat} {a c n : Nat} (h : ∀ k, k < n → T (a + k) = S (c + k)) : wV T a n = wV S c n := by
  induction n with
  | zero => rfl
  | succ n ih =>
    unfold wV
    rw [ih (fun k hk => h k (by omega)), h n (by omega)]
theorem wP_cong {T S : Nat → Nat} {a c n : Nat} (h : ∀ k, k < n → T (a + k) = S (c + k)) : wP T a n = wP S c n := by
  induction n with
  | zero => rfl
  | succ n ih =>
    unfold wP
    rw [ih (fun k hk => h k (by omega)), h n (by omega)]
/-- two words are alike by five bits a letter exactly if they are by eight -/
theorem wPV {T S : Nat → Nat} {a c n m : Nat} (hn : n ≤ 7) (hm : m ≤ 7) (hT : ltr T a n) (hS : ltr S c m) : wP T a n = wP S c m ↔ wV T a n = wV S c m := by
  constructor
  · intro h
    have e : n = m := by
      have h1 := wP_len hn hm hT hS h
      have h2 := wP_len hm hn hS hT h.symm
      omega
    subst e
    rw [wP_h5 hT hn, wP_h5 hS hn] at h
    exact wV_cong (h5_inj hT hS (Nat.eq_of_mul_eq_mul_left (Nat.two_pow_pos _) h))
  · intro h
    have e : n = m := by
      have h1 := wV_len (by omega) (by omega) hT hS h
      have h2 := wV_len (by omega) (by omega) hS hT h.symm
      omega
    subst e
    exact wP_cong (wV_inj (by omega) hT hS h)
/-- the words that stand for themselves: their letters, and as the reference packs them -/
def kwL (j : Nat) : List Nat := [[99,112,117,115],[118,101,99,116,111,114,115],[107,101,112,116],[111,102,102],[100,101,118,105,99,101],[115,105,110,103,108,101],[103,114,111,117,112],[109,97,110,97,103,101,100],[111,110],[115,116,97,114,116],[115,116,111,112],[99,108,97,105,109],[114,97,105,115,101],[108,97,116,101],[109,111,118,101],[116,111],[116,105,99,107],[112,108,117,103],[117,110,112,108,117,103]].getD j []
def kw8 (j : Nat) : Nat := [1668314483, 33325525081485939, 1801810036, 7300710, 110386941092709, 126896661032037, 444301538672, 30787899169924452, 28526, 495873782388, 1937010544, 427020085613, 491260572517, 1818326117, 1836021349, 29807, 1953063787, 1886156135, 129117193008487].getD j 0
theorem kwL_ok : ∀ j, j < 19 → (kwL j).length ≤ 7 ∧ (∀ k, k < (kwL j).length → 97 ≤ (kwL j).getD (0 + k) 0 ∧ (kwL j).getD (0 + k) 0 ≤ 122) ∧ wP (fun k => (kwL j).getD k 0) 0 (kwL j).length = kw5 j ∧ wV (fun k => (kwL j).getD k 0) 0 (kwL j).length = kw8 j := by decide +kernel
theorem kw8_lt : ∀ j, j < 19 → kw8 j < 256 ^ 7 := by decide +kernel
theorem kw_58 {T : Nat → Nat} {a n j : Nat} (hn : n ≤ 7) (hT : ltr T a n) (hj : j < 19) : kw5 j = wP T a n ↔ wV T a n = kw8 j := by
  obtain ⟨h1, h2, h3, h4⟩ := kwL_ok j hj
  rw [← h3, ← h4, eq_comm]
  exact wPV hn h1 hT h2
theorem kw_8 {T : Nat → Nat} {a j : Nat} (hT : ltr T a 8) (hj : j < 19) : wV T a 8 ≠ kw8 j := by
  have h1 := wV_lo (by decide) hT (by decide)
  have h2 := kw8_lt j hj
  intro q
  rw [q] at h1
  have h3 : 256 ^ 7 ≤ kw8 j := h1
  omega
