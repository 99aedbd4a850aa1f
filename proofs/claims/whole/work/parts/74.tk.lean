/-! ===== a TICK: what it keeps ===== -/
/-- what a TICK needs of the state -/
def tI (b A : St) : Prop := aOK A ∧ pOK A ∧ (∀ k, k < 256 → A 2 k = 1 → (k / 32 < b 0 0 ∧ k % 32 < b 0 1) ∧ ((A 1 k - 1) / 8 < b 0 2 ∧ (A 1 k - 1) % 8 < b 2 ((A 1 k - 1) / 8)) ∧ (A 0 k = 3 ↔ A 4 (A 1 k - 1) = k + 1))
  ∧ (∀ id, id < 80 → A 4 id ≠ 0 → (A 4 id - 1 < 256 ∧ (A 4 id - 1) % 32 < b 0 1) ∧ A 1 (A 4 id - 1) = id + 1) ∧ ∀ id, id < 80 → A 5 id = 1 → id / 8 < b 0 2 ∧ id % 8 < b 2 (id / 8)
/-- an OLD VECTOR that DRAINS waits for what is PENDING at it -/
def dI (A : St) : Prop := ∀ id, id < 80 → A 5 id = 1 → A 2 (A 4 id - 1) = 1
theorem itN_add {f : Nat → St → St} {m n : Nat} {A : St} : itN f (m + n) A = itN (fun k => f (m + k)) n (itN f m A) := by
  induction n with
  | zero => rfl
  | succ n ih =>
    show f (m + n) (itN f (m + n) A) = f (m + n) (itN (fun k => f (m + k)) n (itN f m A))
    rw [ih]
section TK
variable {b A : St}
theorem tI_14 {j x : Nat} (h : tI b A) : tI b (mj_up A 14 j x) := ⟨aOK_hi h.1 (by decide), h.2.1, h.2.2.1, h.2.2.2.1, h.2.2.2.2⟩
theorem tI_hand {pl : Nat} (h : tI b A) (h256 : pl < 256) (hp : A 2 pl = 1) : tI b (aHand A (pl / 32) pl) := by
  have h1 := h.2.1.1 pl h256 hp
  have c80 := (h.1.1 pl h256).2.1
  have ok := aHand_ok (p := pl / 32) h.1 h.2.1 h256
  have e0 : aHand A (pl / 32) pl 0 = A 0 := hand_g (by decide) (by decide) (by decide) (by decide) (by decide) (by decide)
  have e1 : aHand A (pl / 32) pl 1 = A 1 := hand_g (by decide) (by decide) (by decide) (by decide) (by decide) (by decide)
  have e4 : aHand A (pl / 32) pl 4 = A 4 := hand_g (by decide) (by decide) (by decide) (by decide) (by decide) (by decide)
  refine ⟨ok.1, ok.2, fun k hk h2 => ?_, fun id hid h4 => ?_, fun id hid h5 => ?_⟩
  · rw [hand_2] at h2
    rw [e0, e1, e4]
    by_cases e : k = pl
    · rw [e, mj_up_eq] at h2; cases h2
    · rw [mj_up_ne2 e] at h2; exact h.2.2.1 k hk h2
  · rw [e4] at h4 ⊢
    rw [e1]
    exact h.2.2.2.1 id hid h4
  · rw [hand_5] at h5
    split at h5
    · by_cases e : id = A 1 pl - 1
      · rw [e]; exact (h.2.2.1 pl h256 hp).2.1
      · rw [mj_up_ne2 e] at h5; exact h.2.2.2.2 id hid h5
    · exact h.2.2.2.2 id hid h5
theorem top_pend {p v : Nat} (h : aTop b A p = some v) : v < b 0 1 ∧ A 2 (32 * p + v) = 1 := by
  have := topN_some h
  exact ⟨this.1, beq_iff_eq.mp this.2⟩
theorem tI_handle {p : Nat} (hk : bOK b) (h : tI b A) (hp : p < b 0 0) : tI b (aHandle b A p) := by
  unfold aHandle
  cases ht : aTop b A p with
  | none => exact h
  | some v =>
    have hv := top_pend ht
    have h32 := hk.2.1.2
    have h8 := hk.1.2
    have := tI_hand (pl := 32 * p + v) h (by omega) hv.2
    rw [show (32 * p + v) / 32 = p by omega] at this
    exact this
theorem tI_dr1 {id : Nat} (h : tI b A) (hid : id < 80) : tI b (aDr1 b id A) := by
  have hok := aOK_dr1 (b := b) h.1 hid
  unfold aDr1 at hok ⊢
  by_cases hc : A 5 id = 0 ∨ A 2 (A 4 id - 1) = 1
  · rw [if_pos hc]; exact h
  · rw [if_neg hc] at hok ⊢
    have c5 : A 5 id = 1 := by
      have := (h.1.2.1 id hid).2.2.1
      have : A 5 id ≠ 0 := fun z => hc (Or.inl z)
      omega
    have c4 := h.2.1.2 id hid c5
    obtain ⟨hpv, ho⟩ := h.2.2.2.1 id hid c4
    generalize hq : A 4 id - 1 = q at hok hpv ho hc ⊢
    have e2 : ∀ k, aNoOld (aLeaves b A id q) id 2 k = (if k = q then 0 else A 2 k) := fun k => by
      unfold aNoOld aLeaves
      rw [mj_up_ne (by decide), mj_up_ne (by decide)]
      by_cases e : k = q
      · rw [if_pos e, e, mj_up_eq]
      · rw [if_neg e, mj_up_ne2 e]
        unfold aSets
        rw [mj_up_ne (by decide), mj_up_ne (by decide)]
    have e01 : ∀ k, k ≠ q → aNoOld (aLeaves b A id q) id 0 k = A 0 k ∧ aNoOld (aLeaves b A id q) id 1 k = A 1 k := fun k hne => by
      unfold aNoOld aLeaves aSets
      rw [mj_up_ne (show (0:Nat) ≠ 5 by decide), mj_up_ne (show (0:Nat) ≠ 4 by decide), mj_up_ne (show (0:Nat) ≠ 2 by decide), mj_up_ne (show (0:Nat) ≠ 1 by decide), mj_up_ne2 hne]
      rw [mj_up_ne (show (1:Nat) ≠ 5 by decide), mj_up_ne (show (1:Nat) ≠ 4 by decide), mj_up_ne (show (1:Nat) ≠ 2 by decide), mj_up_ne2 hne, mj_up_ne (by decide)]
      exact ⟨rfl, rfl⟩
    have e4 : ∀ j, aNoOld (aLeaves b A id q) id 4 j = (if j = id then 0 else A 4 j) := fun j => by
      unfold aNoOld
      rw [mj_up_ne (by decide)]
      by_cases e : j = id
      · rw [if_pos e, e, mj_up_eq]
      · rw [if_neg e, mj_up_ne2 e]
        unfold aLeaves aSets
        rw [mj_up_ne (by decide), mj_up_ne (by decide), mj_up_ne (by decide)]
    have e5 : ∀ j, aNoOld (aLeaves b A id q) id 5 j = (if j = id then 0 else A 5 j) := fun j => by
      unfold aNoOld
      by_cases e : j = id
      · rw [if_pos e, e, mj_up_eq]
      · rw [if_neg e, mj_up_ne2 e]
        unfold aLeaves aSets
        rw [mj_up_ne (by decide), mj_up_ne (by decide), mj_up_ne (by decide), mj_up_ne (by decide)]
    refine ⟨hok, ⟨fun k hk h2 => ?_, fun k hk h5 => ?_⟩, fun k hk h2 => ?_, fun j hj h4 => ?_, fun j hj h5 => ?_⟩
    · rw [e2] at h2
      by_cases e : k = q
      · rw [if_pos e] at h2; cases h2
      · rw [if_neg e] at h2
        rw [(e01 k e).2]
        exact h.2.1.1 k hk h2
    · rw [e5] at h5
      rw [e4]
      by_cases e : k = id
      · rw [if_pos e] at h5; cases h5
      · rw [if_neg e] at h5 ⊢
        exact h.2.1.2 k hk h5
    · rw [e2] at h2
      by_cases e : k = q
      · rw [if_pos e] at h2; cases h2
      · rw [if_neg e] at h2
        rw [(e01 k e).1, (e01 k e).2, e4]
        obtain ⟨g1, g2, g3⟩ := h.2.2.1 k hk h2
        refine ⟨g1, g2, ?_⟩
        by_cases ei : A 1 k - 1 = id
        · rw [if_pos ei]
          rw [ei] at g3
          exact ⟨fun z => by have := g3.mp z; omega, fun z => by omega⟩
        · rw [if_neg ei]; exact g3
    · rw [e4] at h4 ⊢
      by_cases e : j = id
      · rw [if_pos e] at h4; exact absurd rfl h4
      · rw [if_neg e] at h4 ⊢
        obtain ⟨g1, g2⟩ := h.2.2.2.1 j hj h4
        refine ⟨g1, ?_⟩
        have hne : A 4 j - 1 ≠ q := fun z => by rw [z, ho] at g2; omega
        rw [(e01 _ hne).2]
        exact g2
    · rw [e5] at h5
      by_cases e : j = id
      · rw [if_pos e] at h5; cases h5
      · rw [if_neg e] at h5; exact h.2.2.2.2 j hj h5
theorem tI_drs (h : tI b A) : ∀ m, m ≤ 80 → tI b (itN (fun id A => aDr1 b id A) m A) := fun m hm => itN_P (n := 80) h (fun k B hk hB => tI_dr1 hB hk) m hm
theorem dr1_0 {id : Nat} (h5 : A 5 id = 0) : aDr1 b id A = A := if_pos (Or.inl h5)
/-- all LINES one behind another, as the class goes through them -/
theorem drain_flat (hk : bOK b) (h : tI b A) : itN (fun id A => aDr1 b id A) (b 0 2 * 8) A = aDrain b A := by
  have h10 := hk.2.2.1
  unfold aDrain
  have key : ∀ m, m ≤ b 0 2 → itN (fun id A => aDr1 b id A) (m * 8) A = itN (fun d A => itN (fun k A => aDr1 b (8 * d + k) A) (b 2 d) A) m A := by
    intro m
    induction m with
    | zero => intro _; rw [Nat.zero_mul]; rfl
    | succ m ih =>
      intro hm
      have hs := hk.2.2.2 m (by omega)
      rw [show (m + 1) * 8 = m * 8 + 8 by omega, itN_add]
      show _ = itN (fun k A => aDr1 b (8 * m + k) A) (b 2 m) (itN (fun d A => itN (fun k A => aDr1 b (8 * d + k) A) (b 2 d) A) m A)
      rw [← ih (by omega)]
      have hB := tI_drs h (m * 8) (by omega)
      generalize itN (fun id A => aDr1 b id A) (m * 8) A = B at hB
      have e : (fun k => (fun id A => aDr1 b id A) (m * 8 + k)) = (fun k A => aDr1 b (8 * m + k) A) := by
        funext k C
        show aDr1 b (m * 8 + k) C = _
        rw [Nat.mul_comm m 8]
      rw [e, show (8:Nat) = b 2 m + (8 - b 2 m) by omega, itN_add]
      rw [show b 2 m + (8 - b 2 m) = 8 by omega]
      have hC : tI b (itN (fun k A => aDr1 b (8 * m + k) A) (b 2 m) B) := itN_P (n := 8) hB (fun k D hk2 hD => tI_dr1 hD (by omega)) (b 2 m) (by omega)
      generalize itN (fun k A => aDr1 b (8 * m + k) A) (b 2 m) B = C at hC
      have k2 : ∀ j, j ≤ 8 - b 2 m → itN (fun k => (fun k A => aDr1 b (8 * m + k) A) (b 2 m + k)) j C = C := by
        intro j
        induction j with
        | zero => intro _; rfl
        | succ j ih2 =>
          intro hj
          show aDr1 b (8 * m + (b 2 m + j)) (itN (fun k => (fun k A => aDr1 b (8 * m + k) A) (b 2 m + k)) j C) = C
          rw [ih2 (by omega)]
          refine dr1_0 ?_
          have h2 := (hC.1.2.1 (8 * m + (b 2 m + j)) (by omega)).2.2.1
          have h3 : A 5 0 = A 5 0 := rfl
          refine Decidable.byContradiction fun q => ?_
          have h5 : C 5 (8 * m + (b 2 m + j)) = 1 := by omega
          have := (hC.2.2.2.2 _ (by omega) h5).2
          rw [show (8 * m + (b 2 m + j)) % 8 = b 2 m + j by omega, show (8 * m + (b 2 m + j)) / 8 = m by omega] at this
          omega
      exact k2 _ (Nat.le_refl _)
  exact key (b 0 2) (Nat.le_refl _)
/-- where nothing was handled, nothing ends -/
theorem drain_same (hk : bOK b) (h : tI b A) (hd : dI A) : aDrain b A = A := by
  have h10 := hk.2.2.1
  rw [← drain_flat hk h]
  have key : ∀ m, m ≤ 80 → itN (fun id A => aDr1 b id A) m A = A := by
    intro m
    induction m with
    | zero => intro _; rfl
    | succ m ih =>
      intro hm
      show aDr1 b m (itN (fun id A => aDr1 b id A) m A) = A
      rw [ih (by omega)]
      unfold aDr1
      have h5 := (h.1.2.1 m (by omega)).2.2.1
      by_cases c : A 5 m = 0
      · rw [if_pos (Or.inl c)]
      · rw [if_pos (Or.inr (hd m (by omega) (by omega)))]
  exact key _ (by omega)
/-- behind it, what DRAINS still waits -/
theorem dI_drain (hk : bOK b) (h : tI b A) : dI (aDrain b A) ∧ tI b (aDrain b A) := by
  have h10 := hk.2.2.1
  rw [← drain_flat hk h]
  have key : ∀ m, m ≤ b 0 2 * 8 → ∀ id, id < m → itN (fun id A => aDr1 b id A) m A 5 id = 1 → itN (fun id A => aDr1 b id A) m A 2 (itN (fun id A => aDr1 b id A) m A 4 id - 1) = 1 := by
    intro m
    induction m with
    | zero => intro _ id hid; omega
    | succ m ih =>
      intro hm id hid
      have hB := tI_drs h m (by omega)
      have ih2 := ih (by omega)
      show aDr1 b m (itN (fun id A => aDr1 b id A) m A) 5 id = 1 → aDr1 b m (itN (fun id A => aDr1 b id A) m A) 2 (aDr1 b m (itN (fun id A => aDr1 b id A) m A) 4 id - 1) = 1
      generalize itN (fun id A => aDr1 b id A) m A = B at hB ih2
      unfold aDr1
      by_cases hc : B 5 m = 0 ∨ B 2 (B 4 m - 1) = 1
      · rw [if_pos hc]
        intro h5
        by_cases e : id = m
        · rw [e] at h5 ⊢
          rcases hc with c | c
          · omega
          · exact c
        · exact ih2 id (by omega) h5
      · rw [if_neg hc]
        intro h5
        have c5 : B 5 m = 1 := by
          have := (hB.1.2.1 m (by omega)).2.2.1
          have : B 5 m ≠ 0 := fun z => hc (Or.inl z)
          omega
        have c4 := hB.2.1.2 m (by omega) c5
        obtain ⟨hpv, ho⟩ := hB.2.2.2.1 m (by omega) c4
        by_cases e : id = m
        · rw [e] at h5
          unfold aNoOld at h5
          rw [mj_up_eq] at h5
          cases h5
        · have e5 : aNoOld (aLeaves b B m (B 4 m - 1)) m 5 id = B 5 id := by
            unfold aNoOld aLeaves aSets
            rw [mj_up_ne2 e, mj_up_ne (by decide), mj_up_ne (by decide), mj_up_ne (by decide), mj_up_ne (by decide)]
          have e4 : aNoOld (aLeaves b B m (B 4 m - 1)) m 4 id = B 4 id := by
            unfold aNoOld aLeaves aSets
            rw [mj_up_ne (by decide), mj_up_ne2 e, mj_up_ne (by decide), mj_up_ne (by decide), mj_up_ne (by decide)]
          rw [e5] at h5
          rw [e4]
          have i4 := hB.2.1.2 id (by omega) h5
          have io := (hB.2.2.2.1 id (by omega) i4).2
          have hne : B 4 id - 1 ≠ B 4 m - 1 := fun z => by rw [z, ho] at io; omega
          have e2 : aNoOld (aLeaves b B m (B 4 m - 1)) m 2 (B 4 id - 1) = B 2 (B 4 id - 1) := by
            unfold aNoOld aLeaves aSets
            rw [mj_up_ne (by decide), mj_up_ne (by decide), mj_up_ne2 hne, mj_up_ne (by decide), mj_up_ne (by decide)]
          rw [e2]
          exact ih2 id (by omega) h5
  have hT := tI_drs h (b 0 2 * 8) (by omega)
  refine ⟨fun id hid h5 => ?_, hT⟩
  have h6 := (hT.2.2.2.2 id hid h5).1
  exact key _ (Nat.le_refl _) id (by omega) h5
theorem tI_tick1 (hk : bOK b) (h : tI b A) : ∀ m, m ≤ b 0 0 → tI b (itN (fun p A => if A 9 p = 1 then aHandle b A p else A) m A) := fun m hm => itN_P (n := b 0 0) h (fun p B hp hB => by
  show tI b (if B 9 p = 1 then aHandle b B p else B)
  split
  · exact tI_handle hk hB hp
  · exact hB) m hm
theorem tI_tick (hk : bOK b) (h : tI b A) : tI b (aTick b A) ∧ dI (aTick b A) := by
  have := dI_drain hk (tI_tick1 hk h (b 0 0) (Nat.le_refl _))
  exact ⟨tI_14 this.2, this.1⟩
theorem dr1_com {id j x : Nat} : aDr1 b id (mj_up A 14 j x) = mj_up (aDr1 b id A) 14 j x := by
  unfold aDr1
  have e5 : mj_up A 14 j x 5 id = A 5 id := mj_up_ne (by decide)
  have e4 : mj_up A 14 j x 4 id = A 4 id := mj_up_ne (by decide)
  have e2 : mj_up A 14 j x 2 (A 4 id - 1) = A 2 (A 4 id - 1) := mj_up_ne (by decide)
  rw [e5, e4, e2]
  by_cases hc : A 5 id = 0 ∨ A 2 (A 4 id - 1) = 1
  · rw [if_pos hc, if_pos hc]
  · rw [if_neg hc, if_neg hc]
    unfold aNoOld aLeaves aSets
    rw [mj_up_com (show (14:Nat) ≠ 0 by decide), mj_up_com (show (14:Nat) ≠ 1 by decide), mj_up_com (show (14:Nat) ≠ 2 by decide), mj_up_com (show (14:Nat) ≠ 4 by decide), mj_up_com (show (14:Nat) ≠ 5 by decide)]
theorem drs_com {j x : Nat} (m : Nat) : itN (fun id A => aDr1 b id A) m (mj_up A 14 j x) = mj_up (itN (fun id A => aDr1 b id A) m A) 14 j x := by
  induction m with
  | zero => rfl
  | succ m ih =>
    show aDr1 b m (itN (fun id A => aDr1 b id A) m (mj_up A 14 j x)) = mj_up (aDr1 b m (itN (fun id A => aDr1 b id A) m A)) 14 j x
    rw [ih, dr1_com]
theorem dr1_14 {id : Nat} : aDr1 b id A 14 = A 14 := by
  unfold aDr1
  split
  · rfl
  · unfold aNoOld aLeaves aSets
    rw [up_f (by decide), up_f (by decide), up_f (by decide), up_f (by decide), up_f (by decide)]
theorem drs_14 (m : Nat) : itN (fun id A => aDr1 b id A) m A 14 = A 14 := itN_P (P := fun B => B 14 = A 14) (n := m) rfl (fun k B _ hB => dr1_14.trans hB) m (Nat.le_refl _)
end TK
