/-! ===== START of QUEUES: there is room, or there is not ===== -/
theorem cntN_zero {P : Nat → Bool} {n : Nat} : cntN P n = 0 ↔ ∀ k, k < n → P k = false := by
  induction n with
  | zero => exact ⟨fun _ k hk => by omega, fun _ => rfl⟩
  | succ n ih =>
    unfold cntN
    constructor
    · intro h k hk
      by_cases e : k = n
      · subst e
        refine Bool.eq_false_iff.mpr (fun q => ?_)
        rw [if_pos q] at h; omega
      · exact ih.mp (by omega) k (by omega)
    · intro h
      rw [ih.mpr (fun k hk => h k (by omega)), h n (by omega)]
      rfl
section RSV
variable {b A : St}
theorem bl1 {p v : Nat} : aBl A p 1 v = (A 0 (32 * p + v) == 0) := by
  show (true && (A 0 (32 * p + (1 * v + 0)) == 0)) = _
  rw [Bool.true_and, Nat.one_mul, Nat.add_zero]
theorem blk1_none {p : Nat} : aBlk b A p 1 = none ↔ aCnt b A p 0 = 0 := by
  unfold aBlk aCnt
  rw [ffi_none, cntN_zero, Nat.div_one]
  constructor
  · intro h k hk
    rw [← bl1]
    exact h k (Nat.zero_le _) (by omega)
  · intro h j _ hj
    rw [bl1]
    exact h j (by omega)
theorem blk1_some {p v : Nat} (h : aBlk b A p 1 = some v) : v < b 0 1 ∧ A 0 (32 * p + v) = 0 := by
  have h1 := ffi_some h
  rw [Nat.div_one] at h1
  have h2 := h1.2.2
  rw [bl1, beq_iff_eq] at h2
  exact ⟨by omega, h2⟩
theorem sets_0 {k s o : Nat} : aSets A k s o 0 = mj_up A 0 k s 0 := by unfold aSets; exact up_f (by decide)
theorem sets_g {k s o g : Nat} (h0 : g ≠ 0) (h1 : g ≠ 1) : aSets A k s o g = A g := by unfold aSets; rw [up_f h1, up_f h0]
/-- a CPU less one FREE one -/
theorem cnt_rs {p v q o : Nat} (hk : bOK b) (hv : v < b 0 1) (h0 : A 0 (32 * p + v) = 0) : aCnt b (aSets A (32 * p + v) 4 o) q 0 + (if q = p then 1 else 0) = aCnt b A q 0 := by
  have h32 := hk.2.1.2
  have h1 := cnt_k (A := A) (k := 32 * p + v) (s := 4) (t := 0) (p := q) (by rw [show (32 * p + v) % 32 = v by omega]; exact hv) h32
  rw [show (32 * p + v) / 32 = p by omega] at h1
  rw [aCnt_A sets_0]
  rw [if_neg (show ¬ (q = p ∧ (4:Nat) = 0) from fun z => by cases z.2)] at h1
  by_cases e : q = p
  · rw [if_pos e]
    rw [if_pos ⟨e, h0⟩] at h1
    omega
  · rw [if_neg e]
    rw [if_neg (fun z => e z.1)] at h1
    omega
theorem rsv_in {d q : Nat} (hk : bOK b) : ∀ n B, itO (aRsv b d q) n A = some B → ∀ p, aCnt b B p 0 + (if p < n ∧ (aSpread b d q).testBit p = true then 1 else 0) = aCnt b A p 0 := by
  intro n
  induction n with
  | zero => intro B h p; cases h; rw [if_neg (fun z => Nat.not_lt_zero _ z.1)]; rfl
  | succ n ih =>
    intro B h p
    have h' : (itO (aRsv b d q) n A).bind (aRsv b d q n) = some B := h
    cases hC : itO (aRsv b d q) n A with
    | none => rw [hC] at h'; cases h'
    | some C =>
      rw [hC] at h'
      have hB : aRsv b d q n C = some B := h'
      have h1 := ih C hC p
      unfold aRsv at hB
      by_cases hb : (aSpread b d q).testBit n = true
      · rw [if_pos hb] at hB
        cases hz : aBlk b C n 1 with
        | none => rw [hz] at hB; cases hB
        | some v =>
          rw [hz] at hB
          have eB : aSets C (32 * n + v) 4 (8 * d + q + 1) = B := Option.some.inj hB
          have hv := blk1_some hz
          have h2 := cnt_rs (q := p) (o := 8 * d + q + 1) hk hv.1 hv.2
          rw [eB] at h2
          by_cases e : p = n
          · subst e
            rw [if_pos rfl] at h2
            rw [if_neg (fun z => Nat.lt_irrefl _ z.1)] at h1
            rw [if_pos ⟨Nat.lt_succ_self _, hb⟩]
            omega
          · rw [if_neg e] at h2
            have ec : (if p < n + 1 ∧ (aSpread b d q).testBit p = true then 1 else 0) = (if p < n ∧ (aSpread b d q).testBit p = true then 1 else 0) := by
              by_cases c : p < n ∧ (aSpread b d q).testBit p = true
              · rw [if_pos c, if_pos ⟨by omega, c.2⟩]
              · rw [if_neg c, if_neg (fun z => c ⟨by omega, z.2⟩)]
            omega
      · rw [if_neg hb] at hB
        have eB : C = B := Option.some.inj hB
        rw [← eB]
        have ec : (if p < n + 1 ∧ (aSpread b d q).testBit p = true then 1 else 0) = (if p < n ∧ (aSpread b d q).testBit p = true then 1 else 0) := by
          by_cases c : p < n ∧ (aSpread b d q).testBit p = true
          · rw [if_pos c, if_pos ⟨by omega, c.2⟩]
          · rw [if_neg c, if_neg (fun z => c ⟨by
              have : p ≠ n := fun y => hb (by rw [← y]; exact z.2)
              omega, z.2⟩)]
        omega
theorem rsv_out {d : Nat} (hk : bOK b) : ∀ m B, itO (fun q A => itO (aRsv b d q) (b 0 0) A) m A = some B → ∀ p, p < b 0 0 → aCnt b B p 0 + qN b d p m = aCnt b A p 0 := by
  intro m
  induction m with
  | zero => intro B h p _; cases h; rfl
  | succ m ih =>
    intro B h p hp
    have h' : (itO (fun q A => itO (aRsv b d q) (b 0 0) A) m A).bind (fun A => itO (aRsv b d m) (b 0 0) A) = some B := h
    cases hC : itO (fun q A => itO (aRsv b d q) (b 0 0) A) m A with
    | none => rw [hC] at h'; cases h'
    | some C =>
      rw [hC] at h'
      have h1 := ih C hC p hp
      have h2 := rsv_in (d := d) (q := m) hk (b 0 0) B h' p
      have e : qN b d p (m + 1) = qN b d p m + (if (aSpread b d m).testBit p = true then 1 else 0) := rfl
      have ec : (if p < b 0 0 ∧ (aSpread b d m).testBit p = true then 1 else 0) = (if (aSpread b d m).testBit p = true then 1 else 0) := by
        by_cases c : (aSpread b d m).testBit p = true
        · rw [if_pos c, if_pos ⟨hp, c⟩]
        · rw [if_neg c, if_neg (fun z => c z.2)]
      omega
theorem rsv_in_ok {d q : Nat} (hk : bOK b) : ∀ n, (∀ p, p < n → (aSpread b d q).testBit p = true → 1 ≤ aCnt b A p 0) → itO (aRsv b d q) n A = some (itN (aRsT b d q) n A) := by
  intro n
  induction n with
  | zero => intro _; rfl
  | succ n ih =>
    intro h
    have h1 := ih (fun p hp => h p (by omega))
    have h2 := rsv_in hk n _ h1 n
    rw [if_neg (fun z => Nat.lt_irrefl _ z.1)] at h2
    show (itO (aRsv b d q) n A).bind (aRsv b d q n) = some (aRsT b d q n (itN (aRsT b d q) n A))
    rw [h1]
    show aRsv b d q n (itN (aRsT b d q) n A) = _
    unfold aRsv
    by_cases hb : (aSpread b d q).testBit n = true
    · rw [if_pos hb]
      have h3 := h n (Nat.lt_succ_self _) hb
      cases hz : aBlk b (itN (aRsT b d q) n A) n 1 with
      | none =>
        have := blk1_none.mp hz
        omega
      | some v =>
        have e : aRsT b d q n (itN (aRsT b d q) n A) = aSets (itN (aRsT b d q) n A) (32 * n + v) 4 (8 * d + q + 1) := by
          show (if (aSpread b d q).testBit n = true then (match aBlk b (itN (aRsT b d q) n A) n 1 with | none => itN (aRsT b d q) n A | some v => aSets (itN (aRsT b d q) n A) (32 * n + v) 4 (8 * d + q + 1)) else itN (aRsT b d q) n A) = _
          rw [if_pos hb, hz]
        rw [e]
        rfl
    · rw [if_neg hb]
      have e : aRsT b d q n (itN (aRsT b d q) n A) = itN (aRsT b d q) n A := if_neg hb
      rw [e]
/-- all that the class RESERVES -/
def aRsAll (b : St) (d m : Nat) (A : St) : St := itN (fun q A => itN (aRsT b d q) (b 0 0) A) m A
theorem rsv_ok {d : Nat} (hk : bOK b) : ∀ m, (∀ p, p < b 0 0 → qN b d p m ≤ aCnt b A p 0) → itO (fun q A => itO (aRsv b d q) (b 0 0) A) m A = some (aRsAll b d m A) := by
  intro m
  induction m with
  | zero => intro _; rfl
  | succ m ih =>
    intro h
    have hq : ∀ p, qN b d p (m + 1) = qN b d p m + (if (aSpread b d m).testBit p = true then 1 else 0) := fun p => rfl
    have h1 := ih (fun p hp => by have := h p hp; have := hq p; omega)
    show (itO (fun q A => itO (aRsv b d q) (b 0 0) A) m A).bind (fun A => itO (aRsv b d m) (b 0 0) A) = some (itN (aRsT b d m) (b 0 0) (aRsAll b d m A))
    rw [h1]
    show itO (aRsv b d m) (b 0 0) (aRsAll b d m A) = _
    refine rsv_in_ok hk (b 0 0) (fun p hp hb => ?_)
    have h2 := rsv_out hk m _ h1 p hp
    have h3 := h p hp
    rw [hq p, if_pos hb] at h3
    omega
/-- room for all QUEUES, CPU by CPU -/
theorem rsvA_e {d : Nat} (hk : bOK b) : aRsvA b d A = (if ∀ p, p < b 0 0 → qN b d p (b 2 d) ≤ aCnt b A p 0 then some (aRsAll b d (b 2 d) A) else none) := by
  unfold aRsvA
  by_cases h : ∀ p, p < b 0 0 → qN b d p (b 2 d) ≤ aCnt b A p 0
  · rw [if_pos h]; exact rsv_ok hk _ h
  · rw [if_neg h]
    cases hz : itO (fun q A => itO (aRsv b d q) (b 0 0) A) (b 2 d) A with
    | none => rfl
    | some B =>
      exfalso
      exact h (fun p hp => by have := rsv_out hk _ B hz p hp; omega)
theorem rsT_com {d q p f j x : Nat} (h0 : f ≠ 0) (h1 : f ≠ 1) : aRsT b d q p (mj_up A f j x) = mj_up (aRsT b d q p A) f j x := by
  unfold aRsT
  rw [aBlk_A (up_f (Ne.symm h0))]
  split
  · split
    · rfl
    · unfold aSets; rw [mj_up_com h0, mj_up_com h1]
  · rfl
theorem rsAll_com {d f j x : Nat} (h0 : f ≠ 0) (h1 : f ≠ 1) (m : Nat) : aRsAll b d m (mj_up A f j x) = mj_up (aRsAll b d m A) f j x := by
  unfold aRsAll
  induction m with
  | zero => rfl
  | succ m ih =>
    show itN (aRsT b d m) (b 0 0) (itN (fun q A => itN (aRsT b d q) (b 0 0) A) m (mj_up A f j x)) = mj_up (itN (aRsT b d m) (b 0 0) (itN (fun q A => itN (aRsT b d q) (b 0 0) A) m A)) f j x
    rw [ih]
    have : ∀ n B, itN (aRsT b d m) n (mj_up B f j x) = mj_up (itN (aRsT b d m) n B) f j x := by
      intro n B
      induction n with
      | zero => rfl
      | succ n ih2 =>
        show aRsT b d m n (itN (aRsT b d m) n (mj_up B f j x)) = mj_up (aRsT b d m n (itN (aRsT b d m) n B)) f j x
        rw [ih2, rsT_com h0 h1]
    exact this _ _
theorem rsAll_P {P : St → Prop} {d : Nat} (m : Nat) (hP : P A) (hs : ∀ q p B, P B → P (aRsT b d q p B)) : P (aRsAll b d m A) := itN_P (n := m) hP (fun q B _ hB => itN_P (n := b 0 0) hB (fun p C _ hC => hs q p C hC) (b 0 0) (Nat.le_refl _)) m (Nat.le_refl _)
theorem rsT_g {d q p g : Nat} (h0 : g ≠ 0) (h1 : g ≠ 1) : aRsT b d q p A g = A g := by
  unfold aRsT
  by_cases hb : (aSpread b d q).testBit p = true
  · rw [if_pos hb]
    cases aBlk b A p 1 with
    | none => rfl
    | some v => exact sets_g h0 h1
  · rw [if_neg hb]
theorem rsAll_g {d g : Nat} (h0 : g ≠ 0) (h1 : g ≠ 1) (m : Nat) : aRsAll b d m A g = A g := rsAll_P (P := fun B => B g = A g) m rfl (fun q p B hB => (rsT_g h0 h1).trans hB)
theorem aLeast_A {A' : St} {set : Nat} (h : A' 0 = A 0) (h9 : A' 9 = A 9) : aLeast b A' set = aLeast b A set := by
  unfold aLeast
  rw [aLoad_A h]
  refine lstN_congr (fun p hp => ?_) (fun _ _ _ => rfl)
  unfold aLP
  rw [h9]
theorem aResv_A {A' : St} {id p : Nat} (h : A' 0 = A 0) (h1 : A' 1 = A 1) : aResv b A' id p = aResv b A id p := by
  unfold aResv
  refine ffi_congr (fun j _ _ => ?_)
  unfold aRs
  rw [h, h1]
theorem hoQ_com {d q f j x : Nat} (h0 : f ≠ 0) (h1 : f ≠ 1) (h3 : f ≠ 3) (h9 : f ≠ 9) : aHoQ b d q (mj_up A f j x) = mj_up (aHoQ b d q A) f j x := by
  unfold aHoQ
  rw [aLeast_A (up_f (Ne.symm h0)) (up_f (Ne.symm h9))]
  cases aLeast b A (aSpread b d q) with
  | none => rfl
  | some p =>
    show aHolds (mj_up A f j x) (8 * d + q) (32 * p + (aResv b (mj_up A f j x) (8 * d + q) p).getD 0) = mj_up (aHolds A (8 * d + q) (32 * p + (aResv b A (8 * d + q) p).getD 0)) f j x
    rw [aResv_A (up_f (Ne.symm h0)) (up_f (Ne.symm h1)), holds_com h0 h1 h3]
theorem hoQs_com {d f j x : Nat} (h0 : f ≠ 0) (h1 : f ≠ 1) (h3 : f ≠ 3) (h9 : f ≠ 9) (m : Nat) : itN (aHoQ b d) m (mj_up A f j x) = mj_up (itN (aHoQ b d) m A) f j x := by
  induction m with
  | zero => rfl
  | succ m ih =>
    show aHoQ b d m (itN (aHoQ b d) m (mj_up A f j x)) = mj_up (aHoQ b d m (itN (aHoQ b d) m A)) f j x
    rw [ih, hoQ_com h0 h1 h3 h9]
theorem hoQ_g {d q g : Nat} (h0 : g ≠ 0) (h1 : g ≠ 1) (h3 : g ≠ 3) : aHoQ b d q A g = A g := by
  unfold aHoQ
  cases aLeast b A (aSpread b d q) with
  | none => rfl
  | some p => exact holds_g h0 h1 h3
theorem hoQs_g {d g : Nat} (h0 : g ≠ 0) (h1 : g ≠ 1) (h3 : g ≠ 3) (m : Nat) : itN (aHoQ b d) m A g = A g := itN_P (P := fun B => B g = A g) (n := m) rfl (fun k B _ hB => (hoQ_g h0 h1 h3).trans hB) m (Nat.le_refl _)
theorem resv_some {id p v : Nat} (h : aResv b A id p = some v) : v < b 0 1 ∧ A 0 (32 * p + v) = 4 ∧ A 1 (32 * p + v) = id + 1 := by
  have h1 := ffi_some h
  have h2 := h1.2.2
  unfold aRs at h2
  rw [Bool.and_eq_true, beq_iff_eq, beq_iff_eq] at h2
  exact ⟨by omega, h2⟩
/-- what is RESERVED is HELD: no FREE one more, none less -/
theorem hoQ_cnt {d q : Nat} (hk : bOK b) (hv : ∀ p, aLeast b A (aSpread b d q) = some p → ∃ v, aResv b A (8 * d + q) p = some v) (t : Nat) : aCnt b (aHoQ b d q A) t 0 = aCnt b A t 0 := by
  unfold aHoQ
  cases hl : aLeast b A (aSpread b d q) with
  | none => rfl
  | some p =>
    obtain ⟨v, hv2⟩ := hv p hl
    have hr := resv_some hv2
    have h32 := hk.2.1.2
    show aCnt b (aHolds A (8 * d + q) (32 * p + (aResv b A (8 * d + q) p).getD 0)) t 0 = _
    rw [hv2]
    show aCnt b (aHolds A (8 * d + q) (32 * p + v)) t 0 = _
    rw [aCnt_A holds_0]
    have h1 := cnt_k (A := A) (k := 32 * p + v) (s := 2) (t := 0) (p := t) (by rw [show (32 * p + v) % 32 = v by omega]; exact hr.1) h32
    rw [if_neg (fun z => by rw [hr.2.1] at z; cases z.2), if_neg (fun z => by cases z.2)] at h1
    exact h1
end RSV
