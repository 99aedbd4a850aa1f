/-! ===== what holds of every state ===== -/
/-- a LINE of a STARTED DEVICE -/
def lOK (b A : St) (id : Nat) : Prop := id / 8 < b 0 2 ∧ id % 8 < b 2 (id / 8) ∧ A 7 (id / 8) = 1
def kIn (b : St) (k : Nat) : Prop := k / 32 < b 0 0 ∧ k % 32 < b 0 1
/-- what a VECTOR is for a LINE -/
def gW (b : St) (p0 : Nat) (A : St) (k id : Nat) : Prop := ((A 0 k = 2 ∧ A 3 id = k + 1 ∧ (A 9 (k / 32) = 1 ∨ k / 32 = p0)) ∨ (A 0 k = 3 ∧ A 4 id = k + 1 ∧ (A 9 (k / 32) = 1 ∨ k / 32 = p0)) ∨ (A 0 k = 4 ∧ A 2 k = 0 ∧ b 1 (id / 8) = 3)) ∧ (b 1 (id / 8) = 3 → (aSpread b (id / 8) (id % 8)).testBit (k / 32) = true)
def gV (b : St) (p0 : Nat) (A : St) (k : Nat) : Prop := A 2 k < 2 ∧ ((A 1 k = 0 ∧ A 0 k < 2 ∧ A 2 k = 0) ∨ (kIn b k ∧ ∃ i, A 1 k = i + 1 ∧ lOK b A i ∧ gW b p0 A k i))
/-- what a LINE has -/
def gL (b : St) (fl : Bool) (A : St) (id : Nat) : Prop := (A 5 id < 2 ∧ A 6 id < 2) ∧ (¬ lOK b A id → A 3 id = 0 ∧ A 4 id = 0 ∧ A 5 id = 0 ∧ A 6 id = 0) ∧ (∀ q, A 3 id = q + 1 → q < 256 ∧ A 0 q = 2 ∧ A 1 q = id + 1) ∧ (∀ q, A 4 id = q + 1 → A 3 id ≠ 0 ∧ q < 256 ∧ A 0 q = 3 ∧ A 1 q = id + 1) ∧ (A 5 id = 1 → ∃ q, A 4 id = q + 1 ∧ (fl = true → A 2 q = 1)) ∧ (b 1 (id / 8) = 3 → ∀ q r, A 3 id = q + 1 → A 4 id = r + 1 → q / 32 ≠ r / 32)
def gB (b A : St) (d : Nat) : Prop := A 7 d < 2 ∧ A 8 d < 2 ∧ (d < b 0 2 → b 1 d = 3 → A 8 d = 0) ∧ (b 0 2 ≤ d → A 7 d = 0)
def gC (b : St) (p0 : Nat) (fl : Bool) (A : St) : Prop := (∀ k, k < 256 → gV b p0 A k) ∧ (∀ i, i < 80 → gL b fl A i) ∧ (∀ d, d < 10 → gB b A d) ∧ ∀ p, p < 8 → A 9 p < 2
/-- what a STARTED DEVICE has -/
def gM (b A : St) (d : Nat) : Prop := b 1 d = 3 → ∀ q, q < b 2 d → ∀ p, p < b 0 0 → (aSpread b d q).testBit p = true → ∃ v, v < b 0 1 ∧ A 1 (32 * p + v) = 8 * d + q + 1
def gG (b A : St) (d : Nat) : Prop := b 1 d ≠ 3 → ∃ p, ∀ j, j < b 2 d → ∃ q, A 3 (8 * d + j) = q + 1 ∧ q / 32 = p
def gI (b : St) (p0 : Nat) (A : St) : Prop := gC b p0 true A ∧ ∀ d, d < b 0 2 → A 7 d = 1 → gM b A d ∧ gG b A d
section INV1
variable {b A A' : St} {p0 : Nat} {fl : Bool}
theorem lOK_lt (hk : bOK b) {id : Nat} (h : lOK b A id) : id < 80 := by
  have := hk.2.2.1
  have := h.1
  omega
theorem lOK_of {d j : Nat} (hk : bOK b) (hd : d < b 0 2) (hj : j < b 2 d) (h7 : A 7 d = 1) : lOK b A (8 * d + j) := by
  have h8 := (hk.2.2.2 d hd).2.1.2
  have e1 : (8 * d + j) / 8 = d := by omega
  have e2 : (8 * d + j) % 8 = j := by omega
  unfold lOK
  rw [e1, e2]
  exact ⟨hd, hj, h7⟩
theorem kIn_lt (hk : bOK b) {k : Nat} (h : kIn b k) : k < 256 := by
  have := hk.1.2
  have := h.1
  omega
theorem kIn_of {p v : Nat} (hk : bOK b) (hp : p < b 0 0) (hv : v < b 0 1) : kIn b (32 * p + v) := by
  have := hk.2.1.2
  unfold kIn
  omega
theorem gV_own {k id : Nat} (h : gV b p0 A k) (ho : A 1 k = id + 1) : A 2 k < 2 ∧ kIn b k ∧ lOK b A id ∧ gW b p0 A k id := by
  obtain ⟨h2, h | ⟨w1, i, w2, w3, w4⟩⟩ := h
  · exact absurd h.1 (by omega)
  · have e : i = id := by omega
    subst e
    exact ⟨h2, w1, w3, w4⟩
theorem gV_free {k : Nat} (h : gV b p0 A k) (ho : A 0 k < 2) : A 1 k = 0 ∧ A 2 k = 0 := by
  obtain ⟨h2, h | ⟨w1, i, w2, w3, w4, w5⟩⟩ := h
  · exact ⟨h.1, h.2.2⟩
  · rcases w4 with w | w | w <;> exact absurd w.1 (by omega)
theorem gL_ok {id : Nat} (h : gL b fl A id) (hn : A 3 id ≠ 0 ∨ A 4 id ≠ 0 ∨ A 5 id ≠ 0 ∨ A 6 id ≠ 0) : lOK b A id := Classical.byContradiction fun q => by
  have := h.2.1 q
  omega
theorem gW_keep {k id : Nat} (h : gW b p0 A k id) (e0 : A' 0 k = A 0 k) (e2 : A' 2 k = A 2 k) (e9 : A' 9 = A 9) (h3 : A 0 k = 2 → A 3 id = k + 1 → A' 3 id = k + 1) (h4 : A 0 k = 3 → A 4 id = k + 1 → A' 4 id = k + 1) : gW b p0 A' k id := by
  obtain ⟨h1, h5⟩ := h
  unfold gW
  rw [e0, e2, e9]
  refine ⟨?_, h5⟩
  rcases h1 with ⟨x1, x2, x3⟩ | ⟨x1, x2, x3⟩ | h1
  · exact Or.inl ⟨x1, h3 x1 x2, x3⟩
  · exact Or.inr (Or.inl ⟨x1, h4 x1 x2, x3⟩)
  · exact Or.inr (Or.inr h1)
/-- one LINE, and VECTORS of its own, change -/
theorem gC_op {id0 : Nat} (S : Nat → Prop) (hC : gC b p0 fl A) (h7 : A' 7 = A 7) (h8 : A' 8 = A 8) (h9 : A' 9 = A 9) (hid : lOK b A id0) (hl : ∀ f, 3 ≤ f → f < 7 → ∀ i, i ≠ id0 → A' f i = A f i)
    (hs : ∀ k, k < 256 → ¬ S k → A' 0 k = A 0 k ∧ A' 1 k = A 1 k ∧ A' 2 k = A 2 k) (h3 : ∀ k, ¬ S k → A 0 k = 2 → A 3 id0 = k + 1 → A' 3 id0 = k + 1) (h4 : ∀ k, ¬ S k → A 0 k = 3 → A 4 id0 = k + 1 → A' 4 id0 = k + 1)
    (ht : ∀ k, k < 256 → S k → (A 1 k = 0 ∨ A 1 k = id0 + 1) ∧ A' 2 k < 2 ∧ ((A' 1 k = 0 ∧ A' 0 k < 2 ∧ A' 2 k = 0) ∨ (A' 1 k = id0 + 1 ∧ kIn b k ∧ gW b p0 A' k id0))) (hL : gL b fl A' id0) : gC b p0 fl A' := by
  have hlk : ∀ i, lOK b A' i ↔ lOK b A i := fun i => by unfold lOK; rw [h7]
  refine ⟨fun k hk => ?_, fun i hi => ?_, fun d hd => ?_, fun p hp => ?_⟩
  · by_cases hS : S k
    · obtain ⟨_, c2, c3⟩ := ht k hk hS
      refine ⟨c2, ?_⟩
      rcases c3 with c3 | ⟨c3, c4, c5⟩
      · exact Or.inl c3
      · exact Or.inr ⟨c4, id0, c3, (hlk id0).mpr hid, c5⟩
    · obtain ⟨a0, a1, a2⟩ := hs k hk hS
      obtain ⟨v1, v2⟩ := hC.1 k hk
      refine ⟨by rw [a2]; exact v1, ?_⟩
      rcases v2 with v2 | ⟨w1, i, w2, w3, w4⟩
      · left; rw [a0, a1, a2]; exact v2
      · right
        refine ⟨w1, i, by rw [a1]; exact w2, (hlk i).mpr w3, ?_⟩
        by_cases e : i = id0
        · subst e
          exact gW_keep w4 a0 a2 h9 (h3 k hS) (h4 k hS)
        · exact gW_keep w4 a0 a2 h9 (fun _ q => by rw [hl 3 (by decide) (by decide) i e]; exact q) (fun _ q => by rw [hl 4 (by decide) (by decide) i e]; exact q)
  · by_cases e : i = id0
    · rw [e]; exact hL
    · obtain ⟨l1, l3, l4, l5, l6, l7⟩ := hC.2.1 i hi
      have same : ∀ k, k < 256 → A 1 k = i + 1 → A' 0 k = A 0 k ∧ A' 1 k = A 1 k ∧ A' 2 k = A 2 k := fun k hk h1 => by
        by_cases hS : S k
        · rcases (ht k hk hS).1 with z | z
          · rw [h1] at z; exact absurd z (Nat.succ_ne_zero _)
          · rw [h1] at z; exact absurd (Nat.succ.inj z) e
        · exact hs k hk hS
      unfold gL
      rw [hl 3 (by decide) (by decide) i e, hl 4 (by decide) (by decide) i e, hl 5 (by decide) (by decide) i e, hl 6 (by decide) (by decide) i e, hlk]
      refine ⟨l1, l3, fun q hq => ?_, fun q hq => ?_, fun hq => ?_, l7⟩
      · obtain ⟨x1, x2, x3⟩ := l4 q hq
        have s := same q x1 x3
        rw [s.1, s.2.1]
        exact ⟨x1, x2, x3⟩
      · obtain ⟨x0, x1, x2, x3⟩ := l5 q hq
        have s := same q x1 x3
        rw [s.1, s.2.1]
        exact ⟨x0, x1, x2, x3⟩
      · obtain ⟨q, x0, x1⟩ := l6 hq
        obtain ⟨_, y1, _, y3⟩ := l5 q x0
        exact ⟨q, x0, fun z => by rw [(same q y1 y3).2.2]; exact x1 z⟩
  · unfold gB
    rw [h7, h8]
    exact hC.2.2.1 d hd
  · rw [h9]
    exact hC.2.2.2 p hp
theorem gC_cong (h : ∀ f, f < 10 → A' f = A f) (hC : gC b p0 fl A) : gC b p0 fl A' := by
  have hlk : ∀ id, lOK b A' id ↔ lOK b A id := fun id => by unfold lOK; rw [h 7 (by decide)]
  refine ⟨fun k hk => ?_, fun id hid => ?_, fun d hd => ?_, fun p hp => ?_⟩
  · have := hC.1 k hk
    unfold gV gW lOK at this ⊢
    rw [h 0 (by decide), h 1 (by decide), h 2 (by decide), h 3 (by decide), h 4 (by decide), h 7 (by decide), h 9 (by decide)]
    exact this
  · have := hC.2.1 id hid
    unfold gL at this ⊢
    rw [h 0 (by decide), h 1 (by decide), h 2 (by decide), h 3 (by decide), h 4 (by decide), h 5 (by decide), h 6 (by decide), hlk]
    exact this
  · unfold gB
    rw [h 7 (by decide), h 8 (by decide)]
    exact hC.2.2.1 d hd
  · rw [h 9 (by decide)]
    exact hC.2.2.2 p hp
theorem gM_keep {d : Nat} (hk : bOK b) (hd : d < b 0 2) (h : ∀ k, k < 256 → A 1 k ≠ 0 → (A 1 k - 1) / 8 = d → A' 1 k = A 1 k) (hM : gM b A d) : gM b A' d := by
  intro h3 q hq p hp ht
  obtain ⟨v, v1, v2⟩ := hM h3 q hq p hp ht
  have h8 := (hk.2.2.2 d hd).2.1.2
  have hc := hk.1.2
  have hv := hk.2.1.2
  refine ⟨v, v1, ?_⟩
  rw [h (32 * p + v) (by omega) (by omega) (by omega)]
  exact v2
theorem gG_keep {d : Nat} (h : ∀ j, j < b 2 d → A' 3 (8 * d + j) = A 3 (8 * d + j)) (hG : gG b A d) : gG b A' d := by
  intro h3
  obtain ⟨p, hp⟩ := hG h3
  refine ⟨p, fun j hj => ?_⟩
  rw [h j hj]
  exact hp j hj
theorem gI_cong (hk : bOK b) (h : ∀ f, f < 10 → A' f = A f) (hI : gI b p0 A) : gI b p0 A' := by
  refine ⟨gC_cong h hI.1, fun d hd h7 => ?_⟩
  rw [h 7 (by decide)] at h7
  exact ⟨gM_keep hk hd (fun k _ _ _ => by rw [h 1 (by decide)]) (hI.2 d hd h7).1, gG_keep (fun j _ => by rw [h 3 (by decide)]) (hI.2 d hd h7).2⟩
/-- one LINE changes: what all DEVICES have -/
theorem gI_op {id0 : Nat} (hk : bOK b) (hI : gI b p0 A) (hC : gC b p0 true A') (h7 : A' 7 = A 7) (hid : id0 < 80) (hl : ∀ i, i ≠ id0 → A' 3 i = A 3 i) (h1 : ∀ k, k < 256 → A 1 k ≠ 0 → (A 1 k ≠ id0 + 1 ∨ b 1 (id0 / 8) = 3) → A' 1 k = A 1 k) (h3 : b 1 (id0 / 8) ≠ 3 → gG b A (id0 / 8) → gG b A' (id0 / 8)) : gI b p0 A' := by
  refine ⟨hC, fun d hd h => ?_⟩
  rw [h7] at h
  obtain ⟨g1, g2⟩ := hI.2 d hd h
  have h8 := (hk.2.2.2 d hd).2.1.2
  by_cases e : d = id0 / 8
  · subst e
    refine ⟨?_, ?_⟩
    · intro h9
      exact gM_keep hk hd (fun k q1 q2 _ => h1 k q1 q2 (Or.inr h9)) g1 h9
    · intro h9
      exact h3 h9 g2 h9
  · exact ⟨gM_keep hk hd (fun k q1 q2 q3 => h1 k q1 q2 (Or.inl (by omega))) g1, gG_keep (fun j hj => hl _ (by omega)) g2⟩
end INV1
