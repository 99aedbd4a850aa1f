/-! ===== START keeps it ===== -/
theorem itO_ind {P : Nat → St → Prop} {f : Nat → St → Option St} {n : Nat} {A : St} (h0 : P 0 A) (hs : ∀ k B C, k < n → P k B → f k B = some C → P (k + 1) C) : ∀ m B, m ≤ n → itO f m A = some B → P m B := by
  intro m
  induction m with
  | zero => intro B _ h; cases h; exact h0
  | succ m ih =>
    intro B hm h
    cases hb : itO f m A with
    | none =>
      have h2 : (itO f m A).bind (f m) = some B := h
      rw [hb] at h2
      cases h2
    | some D =>
      have h2 : (itO f m A).bind (f m) = some B := h
      rw [hb] at h2
      exact hs m D B (by omega) (ih D (by omega) hb) h2
/-- something is RESERVED for a QUEUE on each of its CPUS -/
def rsd (b : St) (d q : Nat) (B : St) : Prop := ∀ p, p < b 0 0 → (aSpread b d q).testBit p = true → ∃ v, v < b 0 1 ∧ B 0 (32 * p + v) = 4 ∧ B 1 (32 * p + v) = 8 * d + q + 1
section INV4
variable {b A B A' A1 : St} {p0 : Nat} {fl : Bool}
theorem resv_of {id p v : Nat} (hv : v < b 0 1) (h0 : A 0 (32 * p + v) = 4) (h1 : A 1 (32 * p + v) = id + 1) : ∃ v, aResv b A id p = some v := by
  cases h : aResv b A id p with
  | some v => exact ⟨v, rfl⟩
  | none =>
    have := ffi_none.mp h v (Nat.zero_le _) (by omega)
    unfold aRs at this
    rw [h0, h1] at this
    simp at this
theorem least_some {set p : Nat} (h : aLeast b A set = some p) : p < b 0 0 ∧ set.testBit p = true ∧ A 9 p = 1 := by
  obtain ⟨h1, h2⟩ := lstN_lt h
  unfold aLP at h2
  rw [Bool.and_eq_true, beq_iff_eq] at h2
  exact ⟨h1, h2.1, h2.2⟩
theorem rsv_step {d q p : Nat} {C : St} (h : aRsv b d q p B = some C) : (C = B ∧ (aSpread b d q).testBit p = false) ∨ ((aSpread b d q).testBit p = true ∧ ∃ v, v < b 0 1 ∧ B 0 (32 * p + v) = 0 ∧ C = aSets B (32 * p + v) 4 (8 * d + q + 1)) := by
  unfold aRsv at h
  by_cases ht : (aSpread b d q).testBit p = true
  · rw [if_pos ht] at h
    cases hb : aBlk b B p 1 with
    | none => rw [hb] at h; cases h
    | some v =>
      rw [hb, Option.map_some] at h
      cases h
      have := blk1_some hb
      exact Or.inr ⟨ht, v, this.1, this.2, rfl⟩
  · rw [if_neg ht] at h
    cases h
    exact Or.inl ⟨rfl, Bool.eq_false_iff.mpr ht⟩
theorem sets_at {k s o j : Nat} : aSets A k s o 0 j = (if j = k then s else A 0 j) ∧ aSets A k s o 1 j = (if j = k then o else A 1 j) := by
  constructor <;> simp [aSets, mj_up]
theorem rsd_sets {d q k o : Nat} (h0 : B 0 k = 0) (h : rsd b d q B) : rsd b d q (aSets B k 4 o) := fun p hp ht => by
  obtain ⟨v, v1, v2, v3⟩ := h p hp ht
  have hne : 32 * p + v ≠ k := fun e => by rw [e] at v2; omega
  exact ⟨v, v1, by rw [sets_at.1, if_neg hne]; exact v2, by rw [sets_at.2, if_neg hne]; exact v3⟩
theorem rsv_rsd {d : Nat} (h : aRsvA b d A = some A1) : ∀ q, q < b 2 d → rsd b d q A1 := by
  have key := itO_ind (P := fun m B => ∀ q, q < m → rsd b d q B) (f := fun q A => itO (aRsv b d q) (b 0 0) A) (n := b 2 d) (A := A) (fun q hq => absurd hq (Nat.not_lt_zero _)) (fun m B C hm hB hC => by
    have k2 := itO_ind (P := fun r D => (∀ q, q < m → rsd b d q D) ∧ ∀ p, p < r → (aSpread b d m).testBit p = true → ∃ v, v < b 0 1 ∧ D 0 (32 * p + v) = 4 ∧ D 1 (32 * p + v) = 8 * d + m + 1) (f := aRsv b d m) (n := b 0 0) (A := B) ⟨hB, fun p hp => absurd hp (Nat.not_lt_zero _)⟩ (fun r D E hr hD hE => by
      rcases rsv_step hE with ⟨e, hf⟩ | ⟨ht, v, v1, v2, e⟩
      · subst e
        refine ⟨hD.1, fun p hp ht => ?_⟩
        by_cases z : p = r
        · rw [z, hf] at ht; cases ht
        · exact hD.2 p (by omega) ht
      · subst e
        refine ⟨fun q hq => rsd_sets v2 (hD.1 q hq), fun p hp ht2 => ?_⟩
        by_cases z : p = r
        · subst z
          exact ⟨v, v1, by rw [sets_at.1, if_pos rfl], by rw [sets_at.2, if_pos rfl]⟩
        · obtain ⟨u, u1, u2, u3⟩ := hD.2 p (by omega) ht2
          have hne : 32 * p + u ≠ 32 * r + v := fun q => by rw [q] at u2; omega
          exact ⟨u, u1, by rw [sets_at.1, if_neg hne]; exact u2, by rw [sets_at.2, if_neg hne]; exact u3⟩) (b 0 0) C (Nat.le_refl _) hC
    intro q hq
    by_cases z : q = m
    · rw [z]; exact k2.2
    · exact k2.1 q (by omega)) (b 2 d) A1 (Nat.le_refl _) h
  exact key
theorem holds_at {id k j : Nat} : aHolds A id k 0 j = (if j = k then 2 else A 0 j) ∧ aHolds A id k 1 j = (if j = k then id + 1 else A 1 j) ∧ aHolds A id k 3 j = (if j = id then k + 1 else A 3 j) := by
  refine ⟨?_, ?_, ?_⟩ <;> simp [aHolds, aSets, mj_up]
theorem hoQ_rsd {d m : Nat} (h : ∀ q, q < b 2 d → rsd b d q A) (hm : m ≤ b 2 d) : ∀ q, m ≤ q → q < b 2 d → rsd b d q (itN (aHoQ b d) m A) := by
  refine itN_ind (P := fun m B => ∀ q, m ≤ q → q < b 2 d → rsd b d q B) (f := aHoQ b d) (n := b 2 d) (A := A) (fun q _ hq => h q hq) (fun r B hr hB q hq hq2 => ?_) m hm
  unfold aHoQ
  cases hl : aLeast b B (aSpread b d r) with
  | none => exact hB q (by omega) hq2
  | some p =>
    obtain ⟨l1, l2, l3⟩ := least_some hl
    obtain ⟨v, v1, v2, v3⟩ := hB r (Nat.le_refl _) hr p l1 l2
    obtain ⟨u, hu⟩ := resv_of v1 v2 v3
    obtain ⟨u1, u2, u3⟩ := resv_some hu
    show rsd b d q (aHolds B (8 * d + r) (32 * p + (aResv b B (8 * d + r) p).getD 0))
    rw [hu]
    show rsd b d q (aHolds B (8 * d + r) (32 * p + u))
    intro p2 hp2 ht2
    obtain ⟨x, x1, x2, x3⟩ := hB q (by omega) hq2 p2 hp2 ht2
    have hne : 32 * p2 + x ≠ 32 * p + u := fun e => by rw [e, u3] at x3; omega
    exact ⟨x, x1, by rw [holds_at.1, if_neg hne]; exact x2, by rw [holds_at.2.1, if_neg hne]; exact x3⟩
theorem aHoOK_all {d : Nat} : aHoOK b A d := fun A1 h q hq p hl => by
  obtain ⟨l1, l2, l3⟩ := least_some hl
  obtain ⟨v, v1, v2, v3⟩ := hoQ_rsd (rsv_rsd h) (Nat.le_of_lt hq) q (Nat.le_refl _) hq p l1 l2
  exact resv_of v1 v2 v3
theorem gC_hold2 {k id : Nat} (hC : gC b p0 fl A) (hlo : lOK b A id) (hid : id < 80) (h3 : A 3 id = 0) (hin : kIn b k) (h256 : k < 256) (h9 : A 9 (k / 32) = 1) (hT : (A 0 k = 0 ∧ A 1 k = 0 ∧ b 1 (id / 8) ≠ 3) ∨ (A 0 k = 4 ∧ A 1 k = id + 1)) : gC b p0 fl (aHolds A id k) := by
  have h2 : A 2 k = 0 := by
    rcases hT with h | h
    · exact (gV_free (hC.1 k h256) (by omega)).2
    · rcases (gV_own (hC.1 k h256) h.2).2.2.2.1 with w | w | w
      · omega
      · omega
      · exact w.2.1
  have := gC_hold (x := 0) (y := A 6 id) hC hlo hid h3 hin h256 h9 hT (by decide) (hC.2.1 id hid).1.2
  rw [mj_up_self (f := mj_up (aHolds A id k) 2 k 0) (a := 6) (j := id) (x := A 6 id) rfl, mj_up_self (f := aHolds A id k) (a := 2) (j := k) (x := 0) h2] at this
  exact this
theorem rsv_gC {d : Nat} (hk : bOK b) (hd : d < b 0 2) (h3 : b 1 d = 3) (hC : gC b p0 fl A) (h7 : A 7 d = 1) (h : aRsvA b d A = some A1) : gC b p0 fl A1 ∧ (∀ k, k < 256 → A 1 k ≠ 0 → A1 1 k = A 1 k) ∧ ∀ g, 2 ≤ g → A1 g = A g := by
  have hc8 := hk.1.2
  have hv32 := hk.2.1.2
  have hs := (hk.2.2.2 d hd).2.1
  have h10 := hk.2.2.1
  refine itO_P (P := fun B => gC b p0 fl B ∧ (∀ k, k < 256 → A 1 k ≠ 0 → B 1 k = A 1 k) ∧ ∀ g, 2 ≤ g → B g = A g) (f := fun q A => itO (aRsv b d q) (b 0 0) A) (n := b 2 d) (A := A) ⟨hC, fun _ _ _ => rfl, fun _ _ => rfl⟩ (fun q B C hq hB hCC => ?_) (b 2 d) A1 (Nat.le_refl _) h
  refine itO_P (P := fun B => gC b p0 fl B ∧ (∀ k, k < 256 → A 1 k ≠ 0 → B 1 k = A 1 k) ∧ ∀ g, 2 ≤ g → B g = A g) (f := aRsv b d q) (n := b 0 0) (A := B) hB (fun p D E hp hD hE => ?_) (b 0 0) C (Nat.le_refl _) hCC
  rcases rsv_step hE with ⟨e, hf⟩ | ⟨ht, v, v1, v2, e⟩
  · rw [e]; exact hD
  · subst e
    have e1 : (8 * d + q) / 8 = d := by omega
    have e2 : (8 * d + q) % 8 = q := by omega
    have e3 : (32 * p + v) / 32 = p := by omega
    have d7 : D 7 d = 1 := by rw [hD.2.2 7 (by decide)]; exact h7
    refine ⟨gC_rsv hD.1 (lOK_of hk hd hq d7) (by omega) (by rw [e1]; exact h3) (kIn_of hk hp v1) (by omega) v2 (by rw [e1, e2, e3]; exact ht), fun k h256 h1 => ?_, fun g hg => ?_⟩
    · have hfr := (gV_free (hD.1.1 (32 * p + v) (by omega)) (by omega)).1
      have := hD.2.1 k h256 h1
      have hne : k ≠ 32 * p + v := fun z => h1 (by rw [← this, z]; exact hfr)
      rw [sets_at.2, if_neg hne]
      exact this
    · rw [sets_g (by omega) (by omega)]; exact hD.2.2 g hg
theorem hoQ_e {d r p u : Nat} (hl : aLeast b B (aSpread b d r) = some p) (hu : aResv b B (8 * d + r) p = some u) : aHoQ b d r B = aHolds B (8 * d + r) (32 * p + u) := by
  unfold aHoQ
  rw [hl]
  show aHolds B (8 * d + r) (32 * p + (aResv b B (8 * d + r) p).getD 0) = _
  rw [hu]
  rfl
theorem hoQ_n {d r : Nat} (hl : aLeast b B (aSpread b d r) = none) : aHoQ b d r B = B := by
  unfold aHoQ
  rw [hl]
theorem hoQ_gC {d : Nat} (hk : bOK b) (hd : d < b 0 2) (h3 : b 1 d = 3) (hC : gC b p0 fl A) (h7 : A 7 d = 1) (hz : ∀ q, q < b 2 d → A 3 (8 * d + q) = 0) (hr : ∀ q, q < b 2 d → rsd b d q A) : gC b p0 fl (itN (aHoQ b d) (b 2 d) A) ∧ (∀ k, k < 256 → itN (aHoQ b d) (b 2 d) A 1 k = A 1 k) ∧ itN (aHoQ b d) (b 2 d) A 7 = A 7 ∧ ∀ i, i / 8 ≠ d → itN (aHoQ b d) (b 2 d) A 3 i = A 3 i := by
  have hc8 := hk.1.2
  have hv32 := hk.2.1.2
  have hs := (hk.2.2.2 d hd).2.1
  have h10 := hk.2.2.1
  have key := itN_ind (P := fun m B => (gC b p0 fl B ∧ (∀ q, m ≤ q → q < b 2 d → rsd b d q B)) ∧ (∀ q, m ≤ q → q < b 2 d → B 3 (8 * d + q) = 0) ∧ (∀ k, k < 256 → B 1 k = A 1 k) ∧ B 7 = A 7 ∧ ∀ i, i / 8 ≠ d → B 3 i = A 3 i) (f := aHoQ b d) (n := b 2 d) (A := A) ⟨⟨hC, fun q _ hq => hr q hq⟩, fun q _ hq => hz q hq, fun _ _ => rfl, rfl, fun _ _ => rfl⟩ (fun r B hrr hB => by
    obtain ⟨⟨b1, b2⟩, b3, b4, b5, b6⟩ := hB
    cases hl : aLeast b B (aSpread b d r) with
    | none =>
      rw [hoQ_n hl]
      exact ⟨⟨b1, fun q hq hq2 => b2 q (by omega) hq2⟩, fun q hq hq2 => b3 q (by omega) hq2, b4, b5, b6⟩
    | some p =>
      obtain ⟨l1, l2, l3⟩ := least_some hl
      obtain ⟨v, v1, v2, v3⟩ := b2 r (Nat.le_refl _) hrr p l1 l2
      obtain ⟨u, hu⟩ := resv_of v1 v2 v3
      obtain ⟨u1, u2, u3⟩ := resv_some hu
      rw [hoQ_e hl hu]
      show (gC b p0 fl (aHolds B (8 * d + r) (32 * p + u)) ∧ (∀ q, r + 1 ≤ q → q < b 2 d → rsd b d q (aHolds B (8 * d + r) (32 * p + u)))) ∧ (∀ q, r + 1 ≤ q → q < b 2 d → aHolds B (8 * d + r) (32 * p + u) 3 (8 * d + q) = 0) ∧ (∀ k, k < 256 → aHolds B (8 * d + r) (32 * p + u) 1 k = A 1 k) ∧ aHolds B (8 * d + r) (32 * p + u) 7 = A 7 ∧ ∀ i, i / 8 ≠ d → aHolds B (8 * d + r) (32 * p + u) 3 i = A 3 i
      have e3 : (32 * p + u) / 32 = p := by omega
      refine ⟨⟨gC_hold2 b1 (lOK_of hk hd hrr (by rw [b5]; exact h7)) (by omega) (b3 r (Nat.le_refl _) hrr) (kIn_of hk l1 u1) (by omega) (by rw [e3]; exact l3) (Or.inr ⟨u2, u3⟩), fun q hq hq2 p2 hp2 ht2 => ?_⟩, fun q hq hq2 => ?_, fun k hk2 => ?_, b5, fun i hi => ?_⟩
      · obtain ⟨x, x1, x2, x3⟩ := b2 q (by omega) hq2 p2 hp2 ht2
        have hne : 32 * p2 + x ≠ 32 * p + u := fun e => by rw [e, u3] at x3; omega
        exact ⟨x, x1, by rw [holds_at.1, if_neg hne]; exact x2, by rw [holds_at.2.1, if_neg hne]; exact x3⟩
      · rw [holds_at.2.2, if_neg (by omega)]
        exact b3 q (by omega) hq2
      · rw [holds_at.2.1]
        split
        · rename_i z
          rw [← b4 k hk2, z, u3]
        · exact b4 k hk2
      · rw [holds_at.2.2, if_neg (by omega)]
        exact b6 i hi) (b 2 d) (Nat.le_refl _)
  exact ⟨key.1.1, key.2.2.1, key.2.2.2.1, key.2.2.2.2⟩
theorem dealt_3 {n set p : Nat} (h : aDealt b A n set = some p) : p < b 0 0 ∧ set.testBit p = true ∧ A 9 p = 1 ∧ ∃ i, aBlk b A p n = some i := by
  obtain ⟨h1, h2⟩ := lstN_lt h
  unfold aDP at h2
  rw [Bool.and_eq_true, Bool.and_eq_true, beq_iff_eq] at h2
  refine ⟨h1, h2.1.1, h2.1.2, ?_⟩
  cases hb : aBlk b A p n with
  | none => rw [hb] at h2; exact absurd h2.2 (by decide)
  | some i => exact ⟨i, rfl⟩
/-- a BLOCK is FREE -/
theorem blk_free {p n i : Nat} (hn : 1 ≤ n) (h : aBlk b A p n = some i) : n * i + n ≤ b 0 1 ∧ ∀ k, k < n → A 0 (32 * p + (n * i + k)) = 0 := by
  refine ⟨(aBlk_lt hn h).1, fun k hk => ?_⟩
  have h2 := (ffi_some h).2.2
  unfold aBl at h2
  exact beq_iff_eq.mp (allN_iff.mp h2 k hk)
theorem clrD_of {d : Nat} (hk : bOK b) (hC : gC b p0 fl A) (hd : d < b 0 2) (h7 : A 7 d ≠ 1) : clrD A d := fun j hj => by
  have h10 := hk.2.2.1
  refine (hC.2.1 (8 * d + j) (by omega)).2.1 (fun q => h7 ?_)
  have := q.2.2
  rw [show (8 * d + j) / 8 = d by omega] at this
  exact this
theorem clrL_of {d : Nat} (hk : bOK b) (hC : gC b p0 fl A) (hd : d < b 0 2) : clrL b A d := fun j hj hj8 => by
  have h10 := hk.2.2.1
  refine (hC.2.1 (8 * d + j) (by omega)).2.1 (fun q => ?_)
  have := q.2.1
  rw [show (8 * d + j) / 8 = d by omega, show (8 * d + j) % 8 = j by omega] at this
  omega
theorem gI_start {d : Nat} (hk : bOK b) (hI : gI b p0 A) (hd : d < b 0 2) : gI b p0 (aStart b A d).2 := by
  have hc8 := hk.1.2
  have hv32 := hk.2.1.2
  have hs := (hk.2.2.2 d hd).2.1
  have h10 := hk.2.2.1
  unfold aStart
  by_cases h7 : A 7 d = 1
  · rw [if_pos h7]; exact hI
  · rw [if_neg h7, st0_e (clrD_of hk hI.1 hd h7)]
    have c0 := gC_st hk hI.1 hd h7
    have hcl := clrD_of hk hI.1 hd h7
    have z7 : mj_up (mj_up A 7 d 1) 8 d 0 7 d = 1 := by rw [up_f (by decide), mj_up_eq]
    have y7 : ∀ e, e ≠ d → mj_up (mj_up A 7 d 1) 8 d 0 7 e = A 7 e := fun e he => by rw [up_f (by decide), mj_up_ne2 he]
    have z3 : ∀ q, q < b 2 d → mj_up (mj_up A 7 d 1) 8 d 0 3 (8 * d + q) = 0 := fun q hq => (hcl q (by omega)).1
    have i2 : ∀ e, e < b 0 2 → e ≠ d → mj_up (mj_up A 7 d 1) 8 d 0 7 e = 1 → gM b (mj_up (mj_up A 7 d 1) 8 d 0) e ∧ gG b (mj_up (mj_up A 7 d 1) 8 d 0) e := fun e he hne h => hI.2 e he (by rw [← y7 e hne]; exact h)
    generalize mj_up (mj_up A 7 d 1) 8 d 0 = A0 at c0 z7 z3 i2
    by_cases h3 : b 1 d = 3
    · rw [if_pos h3]
      cases hq : aStQ b A0 d with
      | none => exact hI
      | some A' =>
        show gI b p0 (if aFree b A' < aProm b A' then (2, A) else (0, A')).2
        split
        · exact hI
        · unfold aStQ at hq
          cases hr : aRsvA b d A0 with
          | none => rw [hr] at hq; cases hq
          | some A1 =>
            rw [hr, Option.map_some] at hq
            cases hq
            obtain ⟨r1, r2, r3⟩ := rsv_gC hk hd h3 c0 z7 hr
            have r4 := rsv_rsd hr
            obtain ⟨s1, s2, s3, s4⟩ := hoQ_gC hk hd h3 r1 (by rw [r3 7 (by decide)]; exact z7) (fun q hq => by rw [r3 3 (by decide)]; exact z3 q hq) r4
            show gI b p0 (itN (aHoQ b d) (b 2 d) A1)
            refine ⟨s1, fun e he h7e => ?_⟩
            by_cases ed : e = d
            · subst ed
              refine ⟨fun _ q hq p hp ht => ?_, fun h => absurd h3 h⟩
              obtain ⟨v, v1, v2, v3⟩ := r4 q hq p hp ht
              exact ⟨v, v1, by rw [s2 _ (by omega)]; exact v3⟩
            · have he8 := (hk.2.2.2 e he).2.1
              rw [s3, r3 7 (by decide)] at h7e
              obtain ⟨g1, g2⟩ := i2 e he ed h7e
              refine ⟨gM_keep hk he (fun k q1 q2 _ => by rw [s2 k q1]; exact r2 k q1 q2) g1, gG_keep (fun j hj => ?_) g2⟩
              rw [s4 _ (by omega), r3 3 (by decide)]
    · rw [if_neg h3]
      cases hq : aStD b A0 d with
      | none => exact hI
      | some A' =>
        show gI b p0 (if aFree b A' < aProm b A' then (2, A) else (0, A')).2
        split
        · exact hI
        · unfold aStD at hq
          cases hr : aDealt b A0 (b 2 d) (b 3 d) with
          | none => rw [hr] at hq; cases hq
          | some p =>
            obtain ⟨p1, p2, p3, i, hi⟩ := dealt_3 hr
            rw [hr, Option.map_some, hi] at hq
            have hq : some (itN (aPutD d (32 * p + b 2 d * i)) (b 2 d) A0) = some A' := hq
            cases hq
            obtain ⟨f1, f2⟩ := blk_free hs.1 hi
            have key := itN_ind (P := fun m B => (gC b p0 true B ∧ B 9 = A0 9 ∧ B 7 = A0 7) ∧ (∀ j, m ≤ j → j < b 2 d → B 0 (32 * p + b 2 d * i + j) = 0 ∧ B 3 (8 * d + j) = 0) ∧ (∀ j, j < m → B 3 (8 * d + j) = 32 * p + b 2 d * i + j + 1) ∧ (∀ k, k < 256 → A0 1 k ≠ 0 → B 1 k = A0 1 k) ∧ ∀ t, t / 8 ≠ d → B 3 t = A0 3 t) (f := aPutD d (32 * p + b 2 d * i)) (n := b 2 d) (A := A0) ⟨⟨c0, rfl, rfl⟩, fun j _ hj => ⟨by rw [Nat.add_assoc]; exact f2 j hj, z3 j hj⟩, fun j hj => absurd hj (Nat.not_lt_zero _), fun _ _ _ => rfl, fun _ _ => rfl⟩ (fun r B hrr hB => by
              obtain ⟨⟨b1, b9, b7⟩, b2, b3, b4, b5⟩ := hB
              obtain ⟨w0, w3⟩ := b2 r (Nat.le_refl _) hrr
              have hk256 : 32 * p + b 2 d * i + r < 256 := by omega
              have w1 := (gV_free (b1.1 _ hk256) (by omega)).1
              have ec : (32 * p + b 2 d * i + r) / 32 = p := by omega
              have e8 : (8 * d + r) / 8 = d := by omega
              show (gC b p0 true (aHolds B (8 * d + r) (32 * p + b 2 d * i + r)) ∧ aHolds B (8 * d + r) (32 * p + b 2 d * i + r) 9 = A0 9 ∧ aHolds B (8 * d + r) (32 * p + b 2 d * i + r) 7 = A0 7) ∧ (∀ j, r + 1 ≤ j → j < b 2 d → aHolds B (8 * d + r) (32 * p + b 2 d * i + r) 0 (32 * p + b 2 d * i + j) = 0 ∧ aHolds B (8 * d + r) (32 * p + b 2 d * i + r) 3 (8 * d + j) = 0) ∧ (∀ j, j < r + 1 → aHolds B (8 * d + r) (32 * p + b 2 d * i + r) 3 (8 * d + j) = 32 * p + b 2 d * i + j + 1) ∧ (∀ k, k < 256 → A0 1 k ≠ 0 → aHolds B (8 * d + r) (32 * p + b 2 d * i + r) 1 k = A0 1 k) ∧ ∀ t, t / 8 ≠ d → aHolds B (8 * d + r) (32 * p + b 2 d * i + r) 3 t = A0 3 t
              refine ⟨⟨gC_hold2 b1 (lOK_of hk hd hrr (by rw [b7]; exact z7)) (by omega) w3 ⟨by omega, by omega⟩ hk256 (by rw [ec, b9]; exact p3) (Or.inl ⟨w0, w1, by rw [e8]; exact h3⟩), b9, b7⟩, fun j hj hj2 => ?_, fun j hj => ?_, fun k hk2 h1 => ?_, fun t ht => ?_⟩
              · rw [holds_at.1, holds_at.2.2, if_neg (by omega), if_neg (by omega)]
                exact b2 j (by omega) hj2
              · rw [holds_at.2.2]
                by_cases z : j = r
                · rw [if_pos (by rw [z]), z]
                · rw [if_neg (by omega)]; exact b3 j (by omega)
              · have := b4 k hk2 h1
                rw [holds_at.2.1, if_neg (fun z => by rw [z, w1] at this; rw [z] at h1; exact h1 this.symm)]
                exact this
              · rw [holds_at.2.2, if_neg (by omega)]; exact b5 t ht) (b 2 d) (Nat.le_refl _)
            obtain ⟨⟨s1, s9, s7⟩, _, s3, s4, s5⟩ := key
            show gI b p0 (itN (aPutD d (32 * p + b 2 d * i)) (b 2 d) A0)
            refine ⟨s1, fun e he h7e => ?_⟩
            by_cases ed : e = d
            · subst ed
              refine ⟨fun h => absurd h h3, fun _ => ⟨p, fun j hj => ⟨32 * p + b 2 e * i + j, s3 j hj, by omega⟩⟩⟩
            · have he8 := (hk.2.2.2 e he).2.1
              rw [s7] at h7e
              obtain ⟨g1, g2⟩ := i2 e he ed h7e
              exact ⟨gM_keep hk he (fun k q1 q2 _ => s4 k q1 q2) g1, gG_keep (fun j hj => s5 _ (by omega)) g2⟩
end INV4
