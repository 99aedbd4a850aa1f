/-! ===== the class: what its cells stand for ===== -/
theorem ubit {s v : Nat} (hs : s < 2 ^ 32) (hv : v < 32) : decide (((nI s).toUInt32 >>> ((nI v).toUInt32 &&& Int32.toUInt32 31)).toInt32 &&& nI 1 = nI 1) = s.testBit v := by
  have h2 : s / 2 ^ v % 2 = 0 ∨ s / 2 ^ v % 2 = 1 := by omega
  rw [us32 hs hv, nI_and, Nat.and_one_is_mod, Nat.testBit_eq_decide_div_mod_eq, decide_eq_decide]
  rcases h2 with h | h
  · rw [h]; exact ⟨fun q => by revert q; decide, fun q => by cases q⟩
  · rw [h]; exact ⟨fun _ => rfl, fun _ => rfl⟩
theorem bitN_cong {P S : Nat → Bool} {n : Nat} (h : ∀ k, k < n → P k = S k) : bitN P n = bitN S n := by
  apply Nat.eq_of_testBit_eq
  intro k
  rw [bitN_bit, bitN_bit]
  by_cases hk : k < n
  · rw [h k hk]
  · rw [decide_eq_false hk, Bool.false_and, Bool.false_and]
theorem bitN_orN {P S : Nat → Bool} {n : Nat} : bitN P n ||| bitN S n = bitN (fun k => P k || S k) n := by
  apply Nat.eq_of_testBit_eq
  intro k
  rw [Nat.testBit_or, bitN_bit, bitN_bit, bitN_bit, Bool.and_or_distrib_left]
theorem cntN_or {P S : Nat → Bool} {n : Nat} (h : ∀ k, k < n → P k = true → S k = false) : cntN (fun k => P k || S k) n = cntN P n + cntN S n := by
  induction n with
  | zero => rfl
  | succ n ih =>
    unfold cntN
    rw [ih (fun k hk => h k (by omega))]
    have hn := h n (by omega)
    cases hp : P n with
    | true => rw [hn hp]; show _ + 1 = _ + 1 + (_ + 0); omega
    | false => cases S n <;> (show _ = _ + 0 + _; simp; try omega)
theorem bit32_lt {P : Nat → Bool} {n : Nat} (hn : n ≤ 32) : bitN P n < 2 ^ 32 := Nat.lt_of_lt_of_le (bitN_lt P n) (Nat.pow_le_pow_right (by decide) hn)
/-- a CPU's row of a kind; of what is PENDING; the ONLINE CPUS -/
def cT (b A : St) (p s : Nat) : Nat := bitN (fun v => A 0 (32 * p + v) == s) (b 0 1)
def cPe (b A : St) (p : Nat) : Nat := bitN (fun v => A 2 (32 * p + v) == 1) (b 0 1)
def cOn (b A : St) : Nat := bitN (fun p => A 9 p == 1) (b 0 0)
/-- rows, counts, LINES of a state that the class keeps -/
def cRr (I : mj_M) (i : Nat) (b A : St) : Prop := (∀ s, s < 5 → ∀ p, p < 8 → I (sA i (13 + s)) p = nI (cT b A p s)) ∧ (∀ p, p < 8 → I (sA i 18) p = nI (cPe b A p)) ∧ (∀ k, k < 256 → I (sA i 19) k = lD (A 1 k)) ∧ I (sA i 11) 1 = nI (cOn b A)
def cRt (I : mj_M) (i : Nat) (A : St) : Prop := (I (sA i 1) 0 = nI (A 14 0) ∧ I (sA i 1) 1 = nI (A 14 4)) ∧ (∀ d, d < 10 → I (sA i 2) d = nI (A 10 d) ∧ I (sA i 3) d = nI (A 11 d) ∧ I (sA i 4) d = nI (A 12 d)) ∧ (∀ p, p < 8 → I (sA i 5) p = nI (A 13 p)) ∧ ∀ k, k < min (A 14 4) 40 → I (sA i 6) ((A 14 4 - 1 - k) % 40) = nI (A 15 (A 14 4 - 1 - k))
def cRs (I : mj_M) (i : Nat) (A : St) : Prop := (I (sA i 0) 3 = nI (bitN (fun d => A 7 d == 1) 10) ∧ I (sA i 0) 4 = nI (bitN (fun d => A 8 d == 1) 10)) ∧ ∀ k, k < 80 → I (sA i 7) k = lD (A 3 k) ∧ I (sA i 8) k = lD (A 4 k) ∧ I (sA i 9) k = nI (A 5 k) ∧ I (sA i 10) k = nI (A 6 k)
def cR (I : mj_M) (i : Nat) (b A : St) : Prop := cRr I i b A ∧ cRt I i A ∧ cRs I i A
/-- the class's board -/
def cB (I : mj_M) (b : St) : Prop := (I 4 0 = nI (b 0 0) ∧ I 4 1 = nI (b 0 1) ∧ I 4 2 = nI (b 0 3) ∧ I 4 3 = nI (b 0 4) ∧ I 4 4 = nI (b 0 2)) ∧ ∀ d, d < b 0 2 → I 7 d = nI (b 1 d) ∧ I 8 d = nI (b 2 d) ∧ I 9 d = nI (b 3 d)
theorem cB_0 {I : mj_M} {b : St} (h : cB I b) : I 4 0 = nI (b 0 0) := h.1.1
theorem cB_1 {I : mj_M} {b : St} (h : cB I b) : I 4 1 = nI (b 0 1) := h.1.2.1
theorem cB_2 {I : mj_M} {b : St} (h : cB I b) : I 4 2 = nI (b 0 3) := h.1.2.2.1
theorem cB_3 {I : mj_M} {b : St} (h : cB I b) : I 4 3 = nI (b 0 4) := h.1.2.2.2.1
theorem cB_4 {I : mj_M} {b : St} (h : cB I b) : I 4 4 = nI (b 0 2) := h.1.2.2.2.2
/-- nothing changes but the cells of one state -/
def mS (i : Nat) (I I' : mj_M) : Prop := ∀ a, (∀ c, c < 20 → a ≠ sA i c) → I' a = I a
theorem mS.rf {i : Nat} {I : mj_M} : mS i I I := fun _ _ => rfl
theorem mS.tr {i : Nat} {I I' I2 : mj_M} (h : mS i I I') (h2 : mS i I' I2) : mS i I I2 := fun a ha => (h2 a ha).trans (h a ha)
theorem mS_up {i c j : Nat} {I : mj_M} {x : Int32} (hc : c < 20) : mS i I (mj_up I (sA i c) j x) := fun a ha => up_fI (ha c hc)
theorem cB_S {i : Nat} {I I' : mj_M} {b : St} (h : mS i I I') (hb : cB I b) : cB I' b := by
  have f : ∀ a, a < 30 → I' a = I a := fun a ha => h a (fun c _ => by unfold sA; omega)
  refine ⟨?_, fun d hd => ?_⟩
  · rw [f 4 (by decide)]; exact hb.1
  · rw [f 7 (by decide), f 8 (by decide), f 9 (by decide)]; exact hb.2 d hd
theorem sA_ne {i c e : Nat} (h : c ≠ e) : sA i c ≠ sA i e := by unfold sA; omega
/-- a row's place, as the class finds it -/
theorem d32 : ∀ k, k < 256 → nI k / nI 32 = nI (k / 32) := by decide +kernel
