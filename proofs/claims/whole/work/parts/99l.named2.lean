/-! ===== a DEVICE by its name: the class's and the reference's ===== -/
theorem dF_ge {nm : Nat → Nat} {x : Nat} : ∀ m k, dF nm x m k = 0 ∨ (k < dF nm x m k ∧ dF nm x m k ≤ k + m ∧ nm (dF nm x m k - 1) = x)
  | 0, k => Or.inl rfl
  | m + 1, k => by
    have e : dF nm x (m + 1) k = if nm k = x then k + 1 else dF nm x m (k + 1) := rfl
    rw [e]
    by_cases h : nm k = x
    · rw [if_pos h]
      exact Or.inr ⟨by omega, by omega, h⟩
    · rw [if_neg h]
      rcases dF_ge m (k + 1) with h1 | ⟨h1, h2, h3⟩
      · exact Or.inl h1
      · exact Or.inr ⟨by omega, by omega, h3⟩
theorem dF_no {nm : Nat → Nat} {x : Nat} : ∀ m k, dF nm x m k = 0 → ∀ j, k ≤ j → j < k + m → nm j ≠ x
  | 0, k, _, j, h1, h2 => by omega
  | m + 1, k, h, j, h1, h2 => by
    have e : dF nm x (m + 1) k = if nm k = x then k + 1 else dF nm x m (k + 1) := rfl
    rw [e] at h
    by_cases hc : nm k = x
    · rw [if_pos hc] at h; cases h
    · rw [if_neg hc] at h
      by_cases ej : j = k
      · rw [ej]; exact hc
      · exact dF_no m (k + 1) h j (by omega) (by omega)
theorem dLast_n2 {b : St} {x : Nat} : ∀ k, dLast b x k = none → ∀ d, d < k → b 5 d ≠ x
  | 0, _, d, hd => by omega
  | k + 1, h, d, hd => by
    have e : dLast b x (k + 1) = if b 5 k = x then some k else dLast b x k := rfl
    rw [e] at h
    by_cases hc : b 5 k = x
    · rw [if_pos hc] at h; cases h
    · rw [if_neg hc] at h
      by_cases ed : d = k
      · rw [ed]; exact hc
      · exact dLast_n2 k h d (by omega)
/-- where the names are told once, first and last are one -/
theorem dF_last {b : St} {nm : Nat → Nat} {x y n : Nat} (h : ∀ d, d < n → (nm d = x ↔ b 5 d = y)) (hu : ∀ d e, d < n → e < n → b 5 d = b 5 e → d = e) : dF nm x n 0 = oR (dLast b y n) := by
  cases hl : dLast b y n with
  | none =>
    have h1 := dLast_n2 n hl
    rcases dF_ge (nm := nm) (x := x) n 0 with h2 | ⟨h2, h3, h4⟩
    · rw [h2]; rfl
    · exact absurd ((h _ (by omega)).mp h4) (h1 _ (by omega))
  | some d =>
    obtain ⟨h1, h2⟩ := dLast_lt hl
    rcases dF_ge (nm := nm) (x := x) n 0 with h3 | ⟨h3, h4, h5⟩
    · exact absurd ((h d h1).mpr h2) (dF_no n 0 h3 d (by omega) (by omega))
    · have h6 := (h _ (by omega)).mp h5
      have h7 := hu _ d (by omega) h1 (h6.trans h2.symm)
      show dF nm x n 0 = d + 1
      omega
