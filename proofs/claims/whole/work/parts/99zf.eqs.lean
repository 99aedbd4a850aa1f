/-! ===== where class and reference count otherwise: room, without, alike ===== -/
theorem allN_congr {P Q : Nat → Bool} {n : Nat} (h : ∀ k, k < n → P k = Q k) : allN P n = allN Q n := by
  induction n with
  | zero => rfl
  | succ n ih =>
    show (allN P n && P n) = (allN Q n && Q n)
    rw [ih (fun k hk => h k (by omega)), h n (by omega)]
section EQS
variable {b A B A' : St} {p0 p : Nat}
theorem dealt_none {n : Nat} (h : aDealt b A n (2 ^ b 0 0 - 1) = none) : cBlks b A n (b 0 0) = 0 := by
  unfold cBlks
  refine sumN_0 (fun q hq => ?_)
  have h1 := lstN_none h q hq
  unfold aDP at h1
  rw [Nat.testBit_two_pow_sub_one, decide_eq_true hq, Bool.true_and] at h1
  by_cases h9 : A 9 q = 1
  · rw [h9] at h1
    have hb : aBlk b A q n = none := by
      cases hb : aBlk b A q n with
      | none => rfl
      | some i => rw [hb] at h1; cases h1
    show (if A 9 q = 1 then cntN (aBl A q n) (b 0 1 / n) else 0) = 0
    rw [if_pos h9]
    exact cntN_zero.mpr (fun k hk => ffi_none.mp hb k (Nat.zero_le _) (by omega))
  · exact if_neg h9
theorem bl_in {n j k : Nat} (hj : j < b 0 1 / n) (hk : k < n) : n * j + k < b 0 1 := by
  have h1 : n * (j + 1) ≤ n * (b 0 1 / n) := Nat.mul_le_mul_left n hj
  have h2 := Nat.mul_div_le (b 0 1) n
  rw [Nat.mul_add, Nat.mul_one] at h1
  omega
theorem rm_step {n q i : Nat} (hk : bOK b) (hn : 1 ≤ n) (hq : q < b 0 0) (h9 : A 9 q = 1) (hi : aBlk b A q n = some i) : cBlks b (aMark A (32 * q + n * i) n) n (b 0 0) + 1 = cBlks b A n (b 0 0) ∧ aFree b (aMark A (32 * q + n * i) n) + n = aFree b A := by
  have hv32 := hk.2.1.2
  have hc8 := hk.1.2
  obtain ⟨f1, f2⟩ := blk_free hn hi
  have hs := ffi_some hi
  have m0 : ∀ k, aMark A (32 * q + n * i) n 0 k = if 32 * q + n * i ≤ k ∧ k < 32 * q + n * i + n then 2 else A 0 k := fun k => by
    unfold aMark
    by_cases z : 32 * q + n * i ≤ k ∧ k < 32 * q + n * i + n
    · rw [if_pos ⟨rfl, z⟩, if_pos z]
    · rw [if_neg (fun w => z w.2), if_neg z]
  refine ⟨?_, ?_⟩
  · have hc : cntN (aBl (aMark A (32 * q + n * i) n) q n) (b 0 1 / n) + 1 = cntN (aBl A q n) (b 0 1 / n) := by
      have u : cntN (aBl (aMark A (32 * q + n * i) n) q n) (b 0 1 / n) + (if aBl A q n i = true then 1 else 0) = cntN (aBl A q n) (b 0 1 / n) + (if aBl (aMark A (32 * q + n * i) n) q n i = true then 1 else 0) := cntN_up (P := aBl A q n) (S := aBl (aMark A (32 * q + n * i) n) q n) (v := i) (by omega) (fun j hj hne => by
        unfold aBl
        refine allN_congr (fun k hk2 => ?_)
        rw [m0, if_neg (fun z => ?_)]
        rcases Nat.lt_or_gt_of_ne hne with w | w
        · have h1 : n * (j + 1) ≤ n * i := Nat.mul_le_mul_left n w
          rw [Nat.mul_add, Nat.mul_one] at h1
          omega
        · have h1 : n * (i + 1) ≤ n * j := Nat.mul_le_mul_left n w
          rw [Nat.mul_add, Nat.mul_one] at h1
          omega)
      rw [if_pos hs.2.2, if_neg (fun z => ?_)] at u
      · omega
      · unfold aBl at z
        have := allN_iff.mp z 0 (by omega)
        rw [m0, if_pos ⟨by omega, by omega⟩] at this
        cases this
    have u := sumN_up (f := fun p => if A 9 p = 1 then cntN (aBl A p n) (b 0 1 / n) else 0) (g := fun p => if aMark A (32 * q + n * i) n 9 p = 1 then cntN (aBl (aMark A (32 * q + n * i) n) p n) (b 0 1 / n) else 0) (n := b 0 0) (v := q) hq (fun r hr hne => by
      show (if aMark A (32 * q + n * i) n 9 r = 1 then cntN (aBl (aMark A (32 * q + n * i) n) r n) (b 0 1 / n) else 0) = (if A 9 r = 1 then cntN (aBl A r n) (b 0 1 / n) else 0)
      rw [mark_f (by decide), cntN_congr (P' := aBl A r n) (fun j hj => ?_)]
      unfold aBl
      refine allN_congr (fun k hk2 => ?_)
      have := bl_in hj hk2
      rw [m0, if_neg (fun z => by omega)])
    have e1 : (if A 9 q = 1 then cntN (aBl A q n) (b 0 1 / n) else 0) = cntN (aBl A q n) (b 0 1 / n) := if_pos h9
    have e2 : (if aMark A (32 * q + n * i) n 9 q = 1 then cntN (aBl (aMark A (32 * q + n * i) n) q n) (b 0 1 / n) else 0) = cntN (aBl (aMark A (32 * q + n * i) n) q n) (b 0 1 / n) := if_pos (by rw [mark_f (by decide)]; exact h9)
    have u2 : cBlks b (aMark A (32 * q + n * i) n) n (b 0 0) + cntN (aBl A q n) (b 0 1 / n) = cBlks b A n (b 0 0) + cntN (aBl (aMark A (32 * q + n * i) n) q n) (b 0 1 / n) := by
      rw [← e1, ← e2]; exact u
    omega
  · have key : ∀ m, m ≤ n → aFree b (aMark A (32 * q + n * i) m) + m = aFree b A := by
      intro m
      induction m with
      | zero => intro _; rw [mark_0]; rfl
      | succ m ih =>
        intro hm
        have h1 := ih (by omega)
        rw [← mark_s]
        have e : (32 * q + n * i + m) / 32 = q := by omega
        have h2 := free_1 (A := aMark A (32 * q + n * i) m) (k := 32 * q + n * i + m) (s := 2) hk (by omega) (by omega) (by
          unfold aMark
          rw [if_neg (fun z => by omega), Nat.add_assoc]
          exact f2 m (by omega)) (by rw [e, mark_f (by decide)]; exact h9) (by decide)
        omega
    exact key n (Nat.le_refl _)
theorem room_e {n : Nat} (hk : bOK b) (hn : n = 1 ∨ n = 2 ∨ n = 4 ∨ n = 8) : ∀ f A, aFree b A < f → aRoom b n f A = cRoom b A n := by
  intro f
  induction f with
  | zero => intro A h; omega
  | succ f ih =>
    intro A h
    show (match aRm1 b n A with | none => 0 | some A' => aRoom b n f A' + 1) = cRoom b A n
    have h1 : aRm1 b n A = (match aDealt b A n (2 ^ b 0 0 - 1) with | none => none | some p => if aProm b A + n ≤ aFree b A then some (aMark A (32 * p + n * (aBlk b A p n).getD 0) n) else none) := rfl
    cases hd : aDealt b A n (2 ^ b 0 0 - 1) with
    | none =>
      rw [hd] at h1
      rw [h1]
      unfold cRoom
      rw [dealt_none hd]
      exact (Nat.zero_min _).symm
    | some q =>
      obtain ⟨q1, q2, q3, i, hi⟩ := dealt_3 hd
      rw [hd] at h1
      have h1 : aRm1 b n A = if aProm b A + n ≤ aFree b A then some (aMark A (32 * q + n * (aBlk b A q n).getD 0) n) else none := h1
      rw [hi] at h1
      have h1 : aRm1 b n A = if aProm b A + n ≤ aFree b A then some (aMark A (32 * q + n * i) n) else none := h1
      by_cases hc : aProm b A + n ≤ aFree b A
      · rw [if_pos hc] at h1
        rw [h1]
        show aRoom b n f (aMark A (32 * q + n * i) n) + 1 = _
        obtain ⟨s1, s2⟩ := rm_step hk (by omega) q1 q3 hi
        rw [ih _ (by omega)]
        have s3 : aProm b (aMark A (32 * q + n * i) n) = aProm b A := by
          unfold aProm
          rw [mark_f (by decide)]
        unfold cRoom
        rw [s3]
        rcases hn with e | e | e | e <;> subst e <;> omega
      · rw [if_neg hc] at h1
        rw [h1]
        unfold cRoom
        show 0 = _
        rcases hn with e | e | e | e <;> subst e <;> omega
theorem qRoom_e {n : Nat} (hk : bOK b) (hn : n = 1 ∨ n = 2 ∨ n = 4 ∨ n = 8) : qRoom b A n = cRoom b A n := room_e hk hn 257 A (by have := aFree_le (A := A) hk; omega)
theorem cnt_inj {P Q : Nat → Bool} {f : Nat → Nat} {n m : Nat} (h : ∀ i, i < n → P i = true → f i < m ∧ Q (f i) = true) (hi : ∀ i j, i < n → j < n → P i = true → P j = true → f i = f j → i = j) : cntN P n ≤ cntN Q m := by
  induction n generalizing Q with
  | zero => exact Nat.zero_le _
  | succ n ih =>
    show cntN P n + (if P n = true then 1 else 0) ≤ cntN Q m
    by_cases hp : P n = true
    · obtain ⟨h1, h2⟩ := h n (by omega) hp
      have k := ih (Q := fun j => Q j && (j != f n)) (fun i hi2 hpi => ⟨(h i (by omega) hpi).1, by
        show (Q (f i) && (f i != f n)) = true
        rw [(h i (by omega) hpi).2, Bool.true_and, bne_iff_ne]
        exact fun e => by have := hi i n (by omega) (by omega) hpi hp e; omega⟩) (fun i j q1 q2 => hi i j (by omega) (by omega))
      have u : cntN (fun j => Q j && (j != f n)) m + (if Q (f n) = true then 1 else 0) = cntN Q m + (if (Q (f n) && (f n != f n)) = true then 1 else 0) := cntN_up (P := Q) (S := fun j => Q j && (j != f n)) (n := m) (v := f n) h1 (fun k _ hne => by
        show (Q k && (k != f n)) = Q k
        rw [bne_iff_ne.mpr hne, Bool.and_true])
      have s0 : (Q (f n) && (f n != f n)) = false := by simp
      rw [if_pos h2, s0, if_neg (by decide)] at u
      rw [if_pos hp]
      omega
    · rw [if_neg hp]
      exact ih (fun i hi2 => h i (by omega)) (fun i j q1 q2 => hi i j (by omega) (by omega))
theorem un_cases : ((aUnplug b A p).1 ≠ 0 ∧ (aUnplug b A p).2 = A) ∨ ((aUnplug b A p).1 = 0 ∧ itO (aUn1 b p) (b 0 2) (mj_up A 9 p 0) = some (aUnplug b A p).2) := by
  unfold aUnplug
  split
  · exact Or.inl ⟨Nat.succ_ne_zero _, rfl⟩
  · split
    · exact Or.inl ⟨Nat.succ_ne_zero _, rfl⟩
    · split
      · exact Or.inl ⟨Nat.succ_ne_zero _, rfl⟩
      · rename_i X hX
        split
        · exact Or.inl ⟨Nat.succ_ne_zero _, rfl⟩
        · exact Or.inr ⟨rfl, hX⟩
theorem held_cnt {fl : Bool} (hk : bOK b) (hI : gC b p0 fl A) (hp : p < b 0 0) : cntN (fun i => decide (at3 p A i)) 80 = aCnt b A p 2 := by
  have hc8 := hk.1.2
  have hv32 := hk.2.1.2
  have l1 : cntN (fun i => decide (at3 p A i)) 80 ≤ cntN (fun v => A 0 (32 * p + v) == 2) (b 0 1) := by
    refine cnt_inj (f := fun i => A 3 i - 1 - 32 * p) (fun i hi h => ?_) (fun i j hi hj h1 h2 e => ?_)
    · rw [decide_eq_true_eq] at h
      obtain ⟨z1, z2, z3⟩ := (hI.2.1 i hi).2.2.1 (A 3 i - 1) (by omega)
      have hin := (gV_own (hI.1 _ z1) z3).2.1
      have := h.2
      have h2 := hin.2
      refine ⟨?_, ?_⟩
      · show A 3 i - 1 - 32 * p < b 0 1
        omega
      · show (A 0 (32 * p + (A 3 i - 1 - 32 * p)) == 2) = true
        rw [show 32 * p + (A 3 i - 1 - 32 * p) = A 3 i - 1 by omega, z2]
        rfl
    · rw [decide_eq_true_eq] at h1 h2
      obtain ⟨z1, z2, z3⟩ := (hI.2.1 i hi).2.2.1 (A 3 i - 1) (by omega)
      obtain ⟨y1, y2, y3⟩ := (hI.2.1 j hj).2.2.1 (A 3 j - 1) (by omega)
      have e : A 3 i - 1 - 32 * p = A 3 j - 1 - 32 * p := e
      have x1 := h1.2
      have x2 := h2.2
      have e2 : A 3 i - 1 = A 3 j - 1 := by omega
      rw [e2, y3] at z3
      omega
  have l2 : cntN (fun v => A 0 (32 * p + v) == 2) (b 0 1) ≤ cntN (fun i => decide (at3 p A i)) 80 := by
    have own : ∀ v, v < b 0 1 → A 0 (32 * p + v) = 2 → ∃ i, i < 80 ∧ A 1 (32 * p + v) = i + 1 ∧ A 3 i = 32 * p + v + 1 := fun v hv h => by
      obtain ⟨_, w | ⟨w1, i, w2, w3, w4, w5⟩⟩ := hI.1 (32 * p + v) (by omega)
      · omega
      · refine ⟨i, lOK_lt hk w3, w2, ?_⟩
        rcases w4 with w | w | w
        · exact w.2.1
        · omega
        · omega
    refine cnt_inj (f := fun v => A 1 (32 * p + v) - 1) (fun v hv h => ?_) (fun v u hv hu h1 h2 e => ?_)
    · obtain ⟨i, i1, i2, i3⟩ := own v hv (beq_iff_eq.mp h)
      show A 1 (32 * p + v) - 1 < 80 ∧ decide (at3 p A (A 1 (32 * p + v) - 1)) = true
      rw [i2, Nat.add_sub_cancel, decide_eq_true_eq]
      show i < 80 ∧ A 3 i ≠ 0 ∧ (A 3 i - 1) / 32 = p
      rw [i3, Nat.add_sub_cancel]
      exact ⟨i1, Nat.succ_ne_zero _, by omega⟩
    · obtain ⟨i, i1, i2, i3⟩ := own v hv (beq_iff_eq.mp h1)
      obtain ⟨j, j1, j2, j3⟩ := own u hu (beq_iff_eq.mp h2)
      have e : A 1 (32 * p + v) - 1 = A 1 (32 * p + u) - 1 := e
      rw [i2, j2, Nat.add_sub_cancel, Nat.add_sub_cancel] at e
      subst e
      omega
  unfold aCnt
  omega
theorem without_e (hk : bOK b) (hI : gI b 8 A) (hp : p < b 0 0) : qWithout b A p 1 = if (aUnplug b A p).1 = 0 then aCnt b A p 2 else 0 := by
  show cntN (fun k => decide (¬ eC ((aUnplug b A p).2 3 k) = eC (A 3 k))) 80 = _
  rcases un_cases (b := b) (A := A) (p := p) with ⟨h1, h2⟩ | ⟨h1, h2⟩
  · rw [if_neg h1, h2]
    exact cntN_zero.mpr (fun k _ => decide_eq_false (fun q => q rfl))
  · rw [if_pos h1, ← held_cnt hk hI.1 hp]
    obtain ⟨u1, u2, u3⟩ := unplug_ok hk hI hp h2
    have hc8 := hk.1.2
    refine cntN_congr (fun k hk2 => ?_)
    by_cases z : at3 p A k
    · have e1 : eC (A 3 k) = nI p := (eC_eq ((gC_aOK hk hI.1).2.1 k hk2).1 (by omega)).mpr z
      rw [e1, decide_eq_true z]
      exact decide_eq_true (fun q => u2 k hk2 ((eC_eq ((gC_aOK hk u1.1).2.1 k hk2).1 (by omega)).mp q))
    · rw [u3 k z, decide_eq_false z]
      exact decide_eq_false (fun q => q rfl)
end EQS
theorem wV_pre {f : Nat → Nat} {m : Nat} : ∀ n, n ≤ 8 → m ≤ n → ltr f 0 n → wV f 0 n / 2 ^ (8 * (n - m)) = wV f 0 m := by
  intro n
  induction n with
  | zero =>
    intro _ h _
    rw [show m = 0 by omega]
    exact Nat.zero_div _
  | succ n ih =>
    intro h8 hm hl
    by_cases e : m = n + 1
    · rw [e, Nat.sub_self]
      show _ / 1 = _
      rw [Nat.div_one]
    · have h1 := ih (by omega) (by omega) (ltr_le hl (by omega))
      have h2 := hl n (by omega)
      rw [wV_s (by omega), show 8 * (n + 1 - m) = 8 + 8 * (n - m) by omega, Nat.pow_add, ← Nat.div_div_eq_div_mul]
      rw [show (wV f 0 n * 256 + f (0 + n)) / 2 ^ 8 = wV f 0 n by omega]
      exact h1
theorem h5_pre {f : Nat → Nat} {m : Nat} : ∀ n, m ≤ n → ltr f 0 n → h5 f 0 n / 2 ^ (5 * (n - m)) = h5 f 0 m := by
  intro n
  induction n with
  | zero =>
    intro h _
    rw [show m = 0 by omega]
    exact Nat.zero_div _
  | succ n ih =>
    intro hm hl
    by_cases e : m = n + 1
    · rw [e, Nat.sub_self]
      show _ / 1 = _
      rw [Nat.div_one]
    · have h1 := ih (by omega) (ltr_le hl (by omega))
      have h2 := hl n (by omega)
      rw [h5_s, show 5 * (n + 1 - m) = 5 + 5 * (n - m) by omega, Nat.pow_add, ← Nat.div_div_eq_div_mul]
      rw [show (32 * h5 f 0 n + (f (0 + n) - 96)) / 2 ^ 5 = h5 f 0 n by omega]
      exact h1
theorem wP_pre {f : Nat → Nat} {n m : Nat} (hn : n ≤ 7) (hm : m ≤ n) (hl : ltr f 0 n) : wP f 0 n / 2 ^ (5 * (7 - m)) = h5 f 0 m := by
  rw [wP_h5 hl hn, show 5 * (7 - m) = 5 * (7 - n) + 5 * (n - m) by omega, Nat.pow_add, ← Nat.div_div_eq_div_mul, Nat.mul_div_cancel_left _ (Nat.two_pow_pos _)]
  exact h5_pre n hm hl
theorem wP_sh {f : Nat → Nat} {n m : Nat} (hm : m ≤ 7) (hn : n < m) (hl : ltr f 0 n) : wP f 0 n / 2 ^ (5 * (7 - m)) = 2 ^ (5 * (m - n)) * h5 f 0 n := by
  rw [wP_h5 hl (by omega), show 5 * (7 - n) = 5 * (7 - m) + 5 * (m - n) by omega, Nat.pow_add, Nat.mul_assoc, Nat.mul_div_cancel_left _ (Nat.two_pow_pos _)]
theorem h5_cong {T S : Nat → Nat} {n : Nat} (h : ∀ k, k < n → T (0 + k) = S (0 + k)) : h5 T 0 n = h5 S 0 n := by
  induction n with
  | zero => rfl
  | succ n ih => rw [h5_s, h5_s, ih (fun k hk => h k (by omega)), h n (by omega)]
theorem alk_e {f g : Nat → Nat} {n l m : Nat} (hn : n ≤ 7) (hl : l ≤ 7) (h1 : 1 ≤ m) (hm : m ≤ l) (hf : ltr f 0 n) (hg : ltr g 0 l) : wP f 0 n / 2 ^ (5 * (7 - m)) = wP g 0 l / 2 ^ (5 * (7 - m)) ↔ (m ≤ n ∧ wV f 0 n / 2 ^ (8 * (n - m)) = wV g 0 l / 2 ^ (8 * (l - m))) := by
  rw [wP_pre hl hm hg, wV_pre l (by omega) hm hg]
  by_cases h : m ≤ n
  · rw [wP_pre hn h hf, wV_pre n (by omega) h hf]
    constructor
    · intro e
      exact ⟨h, wV_cong (h5_inj (ltr_le hf h) (ltr_le hg hm) e)⟩
    · intro e
      exact h5_cong (wV_inj (by omega) (ltr_le hf h) (ltr_le hg hm) e.2)
  · rw [wP_sh (by omega) (by omega) hf]
    constructor
    · intro e
      obtain ⟨q, rfl⟩ : ∃ q, m = q + 1 := ⟨m - 1, by omega⟩
      have h2 := hg q (by omega)
      rw [show 5 * (q + 1 - n) = 5 + 5 * (q - n) by omega, Nat.pow_add, Nat.mul_assoc, h5_s] at e
      generalize 2 ^ (5 * (q - n)) * h5 f 0 n = x at e
      generalize h5 g 0 q = y at e
      have e : 2 ^ 5 * x = 32 * y + (g (0 + q) - 96) := e
      omega
    · intro e; exact absurd e.1 h
