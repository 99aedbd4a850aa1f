/-! ===== steps that keep it ===== -/
section INV2
variable {b A A' : St} {p0 : Nat} {fl : Bool}
theorem rel_0 {id q k : Nat} : aNoOld (aLeaves b A id q) id 0 k = if k = q then (if b 1 (id / 8) = 3 then 4 else 0) else A 0 k := by simp [aNoOld, aLeaves, aSets, mj_up]
theorem rel_1 {id q k : Nat} : aNoOld (aLeaves b A id q) id 1 k = if k = q then (if b 1 (id / 8) = 3 then id + 1 else 0) else A 1 k := by simp [aNoOld, aLeaves, aSets, mj_up]
theorem rel_2 {id q k : Nat} : aNoOld (aLeaves b A id q) id 2 k = if k = q then 0 else A 2 k := by simp [aNoOld, aLeaves, aSets, mj_up]
theorem rel_4 {id q k : Nat} : aNoOld (aLeaves b A id q) id 4 k = if k = id then 0 else A 4 k := by simp [aNoOld, aLeaves, aSets, mj_up]
theorem rel_5 {id q k : Nat} : aNoOld (aLeaves b A id q) id 5 k = if k = id then 0 else A 5 k := by simp [aNoOld, aLeaves, aSets, mj_up]
theorem rel_l {id q f i : Nat} (h1 : 3 ≤ f) (hi : i ≠ id) : aNoOld (aLeaves b A id q) id f i = A f i := by
  unfold aNoOld
  rw [mj_up_ne2 hi, mj_up_ne2 hi, leaves_g (by omega) (by omega) (by omega)]
/-- an OLD VECTOR ends -/
theorem gC_rel {id q : Nat} (hC : gC b p0 fl A) (hid : id < 80) (h4 : A 4 id = q + 1) : gC b p0 fl (aNoOld (aLeaves b A id q) id) := by
  have hg := hC.2.1 id hid
  obtain ⟨x0, x1, x2, x3⟩ := hg.2.2.2.1 q h4
  obtain ⟨y2, y1, hlo, y4⟩ := gV_own (hC.1 q x1) x3
  refine gC_op (id0 := id) (fun k => k = q) hC rfl rfl rfl hlo (fun f h1 _ i hi => rel_l h1 hi) (fun k _ hn => ⟨by rw [rel_0, if_neg hn], by rw [rel_1, if_neg hn], by rw [rel_2, if_neg hn]⟩) (fun k _ _ h => h) (fun k hn _ h => absurd (show k = q by omega) hn) (fun k _ e => ?_) ?_
  · have e : k = q := e
    subst e
    refine ⟨Or.inr x3, by rw [rel_2, if_pos rfl]; decide, ?_⟩
    by_cases hm : b 1 (id / 8) = 3
    · exact Or.inr ⟨by rw [rel_1, if_pos rfl, if_pos hm], y1, Or.inr (Or.inr ⟨by rw [rel_0, if_pos rfl, if_pos hm], by rw [rel_2, if_pos rfl], hm⟩), y4.2⟩
    · exact Or.inl ⟨by rw [rel_1, if_pos rfl, if_neg hm], by rw [rel_0, if_pos rfl, if_neg hm]; decide, by rw [rel_2, if_pos rfl]⟩
  · have r4 : aNoOld (aLeaves b A id q) id 4 id = 0 := by rw [rel_4, if_pos rfl]
    have r5 : aNoOld (aLeaves b A id q) id 5 id = 0 := by rw [rel_5, if_pos rfl]
    refine ⟨⟨by rw [r5]; decide, hg.1.2⟩, fun h => absurd hlo h, fun s h => ?_, fun s h => ?_, fun h => ?_, fun _ s r _ h => ?_⟩
    · obtain ⟨z1, z2, z3⟩ := hg.2.2.1 s h
      have hne : s ≠ q := fun e => by rw [e] at z2; omega
      exact ⟨z1, by rw [rel_0, if_neg hne]; exact z2, by rw [rel_1, if_neg hne]; exact z3⟩
    · rw [r4] at h; exact absurd h (by omega)
    · rw [r5] at h; exact absurd h (by omega)
    · rw [r4] at h; exact absurd h (by omega)
/-- what is PENDING changes -/
theorem gC_pend {k id x : Nat} (hC : gC b p0 fl A) (hid : id < 80) (h256 : k < 256) (ho : A 1 k = id + 1) (h0 : A 0 k = 2 ∨ A 0 k = 3) (hx : x < 2) (hf : x = 1 ∨ fl = false) : gC b p0 fl (mj_up A 2 k x) := by
  obtain ⟨y2, y1, hlo, y4⟩ := gV_own (hC.1 k h256) ho
  have hg := hC.2.1 id hid
  refine gC_op (id0 := id) (fun j => j = k) hC rfl rfl rfl hlo (fun f h1 h2 i _ => mj_up_ne (by omega)) (fun j _ hj => ⟨rfl, rfl, mj_up_ne2 hj⟩) (fun j _ _ h => h) (fun j _ _ h => h) (fun j _ hj => ?_) ?_
  · have hj : j = k := hj
    subst hj
    refine ⟨Or.inr ho, by rw [mj_up_eq]; exact hx, Or.inr ⟨ho, y1, ?_⟩⟩
    obtain ⟨z1, z2⟩ := y4
    refine ⟨?_, z2⟩
    rcases z1 with z | z | z
    · exact Or.inl z
    · exact Or.inr (Or.inl z)
    · exact absurd z.1 (by omega)
  · refine ⟨hg.1, hg.2.1, hg.2.2.1, hg.2.2.2.1, fun h5 => ?_, hg.2.2.2.2.2⟩
    obtain ⟨q, q1, q2⟩ := hg.2.2.2.2.1 h5
    refine ⟨q, q1, fun z => ?_⟩
    by_cases e : q = k
    · rw [e, mj_up_eq]
      rcases hf with h | h
      · exact h
      · rw [h] at z; cases z
    · rw [mj_up_ne2 e]; exact q2 z
theorem hld_0 {id k x y j : Nat} : mj_up (mj_up (aHolds A id k) 2 k x) 6 id y 0 j = if j = k then 2 else A 0 j := by simp [aHolds, aSets, mj_up]
theorem hld_1 {id k x y j : Nat} : mj_up (mj_up (aHolds A id k) 2 k x) 6 id y 1 j = if j = k then id + 1 else A 1 j := by simp [aHolds, aSets, mj_up]
theorem hld_2 {id k x y j : Nat} : mj_up (mj_up (aHolds A id k) 2 k x) 6 id y 2 j = if j = k then x else A 2 j := by simp [aHolds, aSets, mj_up]
theorem hld_3 {id k x y j : Nat} : mj_up (mj_up (aHolds A id k) 2 k x) 6 id y 3 j = if j = id then k + 1 else A 3 j := by simp [aHolds, aSets, mj_up]
theorem hld_6 {id k x y j : Nat} : mj_up (mj_up (aHolds A id k) 2 k x) 6 id y 6 j = if j = id then y else A 6 j := by simp [aHolds, aSets, mj_up]
theorem hld_l {id k x y f i : Nat} (h1 : 3 ≤ f) (hi : i ≠ id) : mj_up (mj_up (aHolds A id k) 2 k x) 6 id y f i = A f i := by
  unfold aHolds aSets
  rw [mj_up_ne2 hi, mj_up_ne (by omega), mj_up_ne2 hi, mj_up_ne (by omega), mj_up_ne (by omega)]
/-- a LINE that has nothing HOLDS a VECTOR -/
theorem gC_hold {k id x y : Nat} (hC : gC b p0 fl A) (hlo : lOK b A id) (hid : id < 80) (h3 : A 3 id = 0) (hin : kIn b k) (h256 : k < 256) (h9 : A 9 (k / 32) = 1) (hT : (A 0 k = 0 ∧ A 1 k = 0 ∧ b 1 (id / 8) ≠ 3) ∨ (A 0 k = 4 ∧ A 1 k = id + 1)) (hx : x < 2) (hy : y < 2) : gC b p0 fl (mj_up (mj_up (aHolds A id k) 2 k x) 6 id y) := by
  have hg := hC.2.1 id hid
  have h4 : ∀ r, A 4 id ≠ r + 1 := fun r h => (hg.2.2.2.1 r h).1 h3
  have hsp : b 1 (id / 8) = 3 → (aSpread b (id / 8) (id % 8)).testBit (k / 32) = true := fun hm => by
    rcases hT with h | h
    · exact absurd hm h.2.2
    · exact (gV_own (hC.1 k h256) h.2).2.2.2.2 hm
  have hk1 : A 1 k = 0 ∨ A 1 k = id + 1 := by
    rcases hT with h | h
    · exact Or.inl h.2.1
    · exact Or.inr h.2
  refine gC_op (id0 := id) (fun j => j = k) hC rfl rfl rfl hlo (fun f h1 _ i hi => hld_l h1 hi) (fun j _ hn => ⟨by rw [hld_0, if_neg hn], by rw [hld_1, if_neg hn], by rw [hld_2, if_neg hn]⟩) (fun j _ _ h => absurd h (by omega)) (fun j _ _ h => h) (fun j _ e => ?_) ?_
  · have e : j = k := e
    subst e
    exact ⟨hk1, by rw [hld_2, if_pos rfl]; exact hx, Or.inr ⟨by rw [hld_1, if_pos rfl], hin, Or.inl ⟨by rw [hld_0, if_pos rfl], by rw [hld_3, if_pos rfl], Or.inl h9⟩, hsp⟩⟩
  · refine ⟨⟨hg.1.1, by rw [hld_6, if_pos rfl]; exact hy⟩, fun h => absurd hlo h, fun s h => ?_, fun s h => absurd h (h4 s), fun h => ?_, fun _ s r _ h => absurd h (h4 r)⟩
    · rw [hld_3, if_pos rfl] at h
      have e : s = k := by omega
      subst e
      exact ⟨h256, by rw [hld_0, if_pos rfl], by rw [hld_1, if_pos rfl]⟩
    · obtain ⟨q, q1, _⟩ := hg.2.2.2.2.1 h
      exact absurd q1 (h4 q)
/-- a LINE HOLDS another VECTOR; what it held it leaves -/
theorem gC_bring {id q k x : Nat} (hC : gC b p0 fl A) (hid : id < 80) (h3 : A 3 id = q + 1) (hin : kIn b k) (h256 : k < 256) (h9k : A 9 (k / 32) = 1) (hT : (A 0 k = 0 ∧ A 1 k = 0 ∧ b 1 (id / 8) ≠ 3) ∨ (A 0 k = 4 ∧ A 1 k = id + 1) ∨ A 4 id = k + 1) (hx : x < 2) (hdf : b 1 (id / 8) = 3 → ∀ r, A 4 id = r + 1 → r ≠ k → k / 32 ≠ r / 32)
    (h7 : A' 7 = A 7) (h8 : A' 8 = A 8) (h9 : A' 9 = A 9) (E0 : ∀ j, A' 0 j = if j = k then 2 else if j = q then (if b 1 (id / 8) = 3 then 4 else 0) else A 0 j) (E1 : ∀ j, A' 1 j = if j = k then id + 1 else if j = q then (if b 1 (id / 8) = 3 then id + 1 else 0) else A 1 j) (E2 : ∀ j, A' 2 j = if j = k then x else if j = q then 0 else A 2 j)
    (E3 : ∀ j, A' 3 j = if j = id then k + 1 else A 3 j) (E4 : ∀ j, A' 4 j = if j = id ∧ A 4 id = k + 1 then 0 else A 4 j) (E5 : ∀ j, A' 5 j = if j = id ∧ A 4 id = k + 1 then 0 else A 5 j) (E6 : A' 6 = A 6) : gC b p0 fl A' := by
  have hg := hC.2.1 id hid
  obtain ⟨q1, q2, q3⟩ := hg.2.2.1 q h3
  obtain ⟨y2, y1, hlo, y4⟩ := gV_own (hC.1 q q1) q3
  have hkq : q ≠ k := fun e => by
    subst e
    rcases hT with h | h | h
    · exact absurd h.1 (by omega)
    · exact absurd h.1 (by omega)
    · have := (hg.2.2.2.1 q h).2.2.1
      omega
  have hk1 : A 1 k = 0 ∨ A 1 k = id + 1 := by
    rcases hT with h | h | h
    · exact Or.inl h.2.1
    · exact Or.inr h.2
    · exact Or.inr (hg.2.2.2.1 k h).2.2.2
  have hsp : b 1 (id / 8) = 3 → (aSpread b (id / 8) (id % 8)).testBit (k / 32) = true := fun hm => by
    rcases hT with h | h | h
    · exact absurd hm h.2.2
    · exact (gV_own (hC.1 k h256) h.2).2.2.2.2 hm
    · exact (gV_own (hC.1 k h256) (hg.2.2.2.1 k h).2.2.2).2.2.2.2 hm
  have hol : ∀ r, A 4 id = r + 1 → ¬ A 4 id = k + 1 → r ≠ k ∧ r ≠ q := fun r h z => ⟨by omega, fun e => by
    have := (hg.2.2.2.1 r h).2.2.1
    rw [e] at this
    omega⟩
  refine gC_op (id0 := id) (fun j => j = k ∨ j = q) hC h7 h8 h9 hlo (fun f h1 h2 i hi => ?_) (fun j _ hj => ?_) (fun j hj _ h => absurd (Or.inr (by omega)) hj) (fun j hj _ h => ?_) (fun j _ hj => ?_) ?_
  · have hf : f = 3 ∨ f = 4 ∨ f = 5 ∨ f = 6 := by omega
    rcases hf with rfl | rfl | rfl | rfl
    · rw [E3, if_neg hi]
    · rw [E4, if_neg (fun z => hi z.1)]
    · rw [E5, if_neg (fun z => hi z.1)]
    · rw [E6]
  · have n1 : j ≠ k := fun z => hj (Or.inl z)
    have n2 : j ≠ q := fun z => hj (Or.inr z)
    exact ⟨by rw [E0, if_neg n1, if_neg n2], by rw [E1, if_neg n1, if_neg n2], by rw [E2, if_neg n1, if_neg n2]⟩
  · rw [E4, if_neg (fun z => hj (Or.inl (by have := z.2; omega)))]
    exact h
  · rcases hj with e | e
    · subst e
      exact ⟨hk1, by rw [E2, if_pos rfl]; exact hx, Or.inr ⟨by rw [E1, if_pos rfl], hin, Or.inl ⟨by rw [E0, if_pos rfl], by rw [E3, if_pos rfl], Or.inl (by rw [h9]; exact h9k)⟩, hsp⟩⟩
    · subst e
      refine ⟨Or.inr q3, by rw [E2, if_neg hkq, if_pos rfl]; decide, ?_⟩
      by_cases hm : b 1 (id / 8) = 3
      · exact Or.inr ⟨by rw [E1, if_neg hkq, if_pos rfl, if_pos hm], y1, Or.inr (Or.inr ⟨by rw [E0, if_neg hkq, if_pos rfl, if_pos hm], by rw [E2, if_neg hkq, if_pos rfl], hm⟩), y4.2⟩
      · exact Or.inl ⟨by rw [E1, if_neg hkq, if_pos rfl, if_neg hm], by rw [E0, if_neg hkq, if_pos rfl, if_neg hm]; decide, by rw [E2, if_neg hkq, if_pos rfl]⟩
  · refine ⟨⟨?_, by rw [E6]; exact hg.1.2⟩, fun h => absurd (show lOK b A' id by unfold lOK; rw [h7]; exact hlo) h, fun s h => ?_, fun r h => ?_, fun h => ?_, fun hm s r h1 h2 => ?_⟩
    · rw [E5]
      split
      · decide
      · exact hg.1.1
    · rw [E3, if_pos rfl] at h
      have e : s = k := by omega
      subst e
      exact ⟨h256, by rw [E0, if_pos rfl], by rw [E1, if_pos rfl]⟩
    · rw [E4] at h
      by_cases z : A 4 id = k + 1
      · rw [if_pos ⟨rfl, z⟩] at h; exact absurd h (by omega)
      · rw [if_neg (fun w => z w.2)] at h
        obtain ⟨r0, r1, r2, r3⟩ := hg.2.2.2.1 r h
        obtain ⟨n1, n2⟩ := hol r h z
        exact ⟨by rw [E3, if_pos rfl]; omega, r1, by rw [E0, if_neg n1, if_neg n2]; exact r2, by rw [E1, if_neg n1, if_neg n2]; exact r3⟩
    · rw [E5] at h
      by_cases z : A 4 id = k + 1
      · rw [if_pos ⟨rfl, z⟩] at h; exact absurd h (by omega)
      · rw [if_neg (fun w => z w.2)] at h
        obtain ⟨r, r1, r2⟩ := hg.2.2.2.2.1 h
        obtain ⟨n1, n2⟩ := hol r r1 z
        exact ⟨r, by rw [E4, if_neg (fun w => z w.2)]; exact r1, fun f => by rw [E2, if_neg n1, if_neg n2]; exact r2 f⟩
    · rw [E3, if_pos rfl] at h1
      rw [E4] at h2
      by_cases z : A 4 id = k + 1
      · rw [if_pos ⟨rfl, z⟩] at h2; exact absurd h2 (by omega)
      · rw [if_neg (fun w => z w.2)] at h2
        have e : s = k := by omega
        rw [e]
        exact hdf hm r h2 (hol r h2 z).1
theorem sht_0 {id q x k : Nat} : mj_up (mj_up (aLeaves b A id q) 3 id 0) 6 id x 0 k = if k = q then (if b 1 (id / 8) = 3 then 4 else 0) else A 0 k := by simp [aLeaves, aSets, mj_up]
theorem sht_1 {id q x k : Nat} : mj_up (mj_up (aLeaves b A id q) 3 id 0) 6 id x 1 k = if k = q then (if b 1 (id / 8) = 3 then id + 1 else 0) else A 1 k := by simp [aLeaves, aSets, mj_up]
theorem sht_2 {id q x k : Nat} : mj_up (mj_up (aLeaves b A id q) 3 id 0) 6 id x 2 k = if k = q then 0 else A 2 k := by simp [aLeaves, aSets, mj_up]
theorem sht_3 {id q x k : Nat} : mj_up (mj_up (aLeaves b A id q) 3 id 0) 6 id x 3 k = if k = id then 0 else A 3 k := by simp [aLeaves, aSets, mj_up]
theorem sht_6 {id q x k : Nat} : mj_up (mj_up (aLeaves b A id q) 3 id 0) 6 id x 6 k = if k = id then x else A 6 k := by simp [aLeaves, aSets, mj_up]
/-- a QUEUE is SHUT -/
theorem gC_shut {id q x : Nat} (hC : gC b p0 fl A) (hid : id < 80) (h3 : A 3 id = q + 1) (h4 : A 4 id = 0) (hm : b 1 (id / 8) = 3) (hx : x < 2) : gC b p0 fl (mj_up (mj_up (aLeaves b A id q) 3 id 0) 6 id x) := by
  have hg := hC.2.1 id hid
  obtain ⟨q1, q2, q3⟩ := hg.2.2.1 q h3
  obtain ⟨y2, y1, hlo, y4⟩ := gV_own (hC.1 q q1) q3
  refine gC_op (id0 := id) (fun j => j = q) hC rfl rfl rfl hlo (fun f h1 _ i hi => by rw [mj_up_ne2 hi, mj_up_ne2 hi, leaves_g (by omega) (by omega) (by omega)]) (fun j _ hn => ⟨by rw [sht_0, if_neg hn], by rw [sht_1, if_neg hn], by rw [sht_2, if_neg hn]⟩) (fun j hn _ h => absurd (show j = q by omega) hn) (fun j _ _ h => absurd h (by omega)) (fun j _ e => ?_) ?_
  · have e : j = q := e
    subst e
    exact ⟨Or.inr q3, by rw [sht_2, if_pos rfl]; decide, Or.inr ⟨by rw [sht_1, if_pos rfl, if_pos hm], y1, Or.inr (Or.inr ⟨by rw [sht_0, if_pos rfl, if_pos hm], by rw [sht_2, if_pos rfl], hm⟩), y4.2⟩⟩
  · have e3 : mj_up (mj_up (aLeaves b A id q) 3 id 0) 6 id x 3 id = 0 := by rw [sht_3, if_pos rfl]
    refine ⟨⟨hg.1.1, by rw [sht_6, if_pos rfl]; exact hx⟩, fun h => absurd hlo h, fun s h => ?_, fun s h => ?_, fun h => ?_, fun _ s r h _ => ?_⟩
    · rw [e3] at h; exact absurd h (by omega)
    · have h : A 4 id = s + 1 := h
      exact absurd h (by omega)
    · obtain ⟨r, r1, _⟩ := hg.2.2.2.2.1 h
      exact absurd r1 (by omega)
    · rw [e3] at h; exact absurd h (by omega)
/-- a LINE moves -/
theorem gC_moves {id q k : Nat} (hC : gC b p0 fl A) (hid : id < 80) (h3 : A 3 id = q + 1) (h4 : A 4 id = 0) (hin : kIn b k) (h256 : k < 256) (h9k : A 9 (k / 32) = 1) (hT : (A 0 k = 0 ∧ A 1 k = 0 ∧ b 1 (id / 8) ≠ 3) ∨ (A 0 k = 4 ∧ A 1 k = id + 1)) (hdf : b 1 (id / 8) = 3 → k / 32 ≠ q / 32) : gC b p0 fl (aMoves A id k) := by
  have hg := hC.2.1 id hid
  obtain ⟨q1, q2, q3⟩ := hg.2.2.1 q h3
  obtain ⟨y2, y1, hlo, y4⟩ := gV_own (hC.1 q q1) q3
  have hkq : q ≠ k := fun e => by
    subst e
    rcases hT with h | h
    · exact absurd h.1 (by omega)
    · exact absurd h.1 (by omega)
  have hk1 : A 1 k = 0 ∨ A 1 k = id + 1 := by
    rcases hT with h | h
    · exact Or.inl h.2.1
    · exact Or.inr h.2
  have hsp : b 1 (id / 8) = 3 → (aSpread b (id / 8) (id % 8)).testBit (k / 32) = true := fun hm => by
    rcases hT with h | h
    · exact absurd hm h.2.2
    · exact (gV_own (hC.1 k h256) h.2).2.2.2.2 hm
  have eq : A 3 id - 1 = q := by omega
  have E0 : ∀ j, aMoves A id k 0 j = if j = k then 2 else if j = q then 3 else A 0 j := fun j => by
    rw [moves_0, eq]
    simp [mj_up]
  have E1 : ∀ j, aMoves A id k 1 j = if j = k then id + 1 else A 1 j := fun j => by rw [moves_1]; simp [mj_up]
  have E3 : ∀ j, aMoves A id k 3 j = if j = id then k + 1 else A 3 j := fun j => by rw [moves_3]; simp [mj_up]
  have E4 : ∀ j, aMoves A id k 4 j = if j = id then q + 1 else A 4 j := fun j => by rw [moves_4, h3]; simp [mj_up]
  have E5 : ∀ j, aMoves A id k 5 j = if j = id then 0 else A 5 j := fun j => by rw [moves_5]; simp [mj_up]
  have E2 : aMoves A id k 2 = A 2 := moves_g (by decide) (by decide) (by decide) (by decide) (by decide)
  have hon : A 9 (q / 32) = 1 ∨ q / 32 = p0 := by
    rcases y4.1 with h | h | h
    · exact h.2.2
    · exact h.2.2
    · exact absurd h.1 (by omega)
  refine gC_op (id0 := id) (fun j => j = k ∨ j = q) hC (moves_g (by decide) (by decide) (by decide) (by decide) (by decide)) (moves_g (by decide) (by decide) (by decide) (by decide) (by decide)) (moves_g (by decide) (by decide) (by decide) (by decide) (by decide)) hlo (fun f h1 h2 i hi => ?_) (fun j _ hj => ?_) (fun j hj _ h => absurd (Or.inr (by omega)) hj) (fun j _ _ h => absurd h (by omega)) (fun j _ hj => ?_) ?_
  · have hf : f = 3 ∨ f = 4 ∨ f = 5 ∨ f = 6 := by omega
    rcases hf with rfl | rfl | rfl | rfl
    · rw [E3, if_neg hi]
    · rw [E4, if_neg hi]
    · rw [E5, if_neg hi]
    · rw [moves_g (by decide) (by decide) (by decide) (by decide) (by decide)]
  · have n1 : j ≠ k := fun z => hj (Or.inl z)
    have n2 : j ≠ q := fun z => hj (Or.inr z)
    exact ⟨by rw [E0, if_neg n1, if_neg n2], by rw [E1, if_neg n1], by rw [E2]⟩
  · have e9 : aMoves A id k 9 = A 9 := moves_g (by decide) (by decide) (by decide) (by decide) (by decide)
    rcases hj with e | e
    · subst e
      exact ⟨hk1, by rw [E2]; exact (hC.1 j h256).1, Or.inr ⟨by rw [E1, if_pos rfl], hin, Or.inl ⟨by rw [E0, if_pos rfl], by rw [E3, if_pos rfl], Or.inl (by rw [e9]; exact h9k)⟩, hsp⟩⟩
    · subst e
      exact ⟨Or.inr q3, by rw [E2]; exact y2, Or.inr ⟨by rw [E1, if_neg hkq]; exact q3, y1, Or.inr (Or.inl ⟨by rw [E0, if_neg hkq, if_pos rfl], by rw [E4, if_pos rfl], by rw [e9]; exact hon⟩), y4.2⟩⟩
  · have e7 : aMoves A id k 7 = A 7 := moves_g (by decide) (by decide) (by decide) (by decide) (by decide)
    have e6 : aMoves A id k 6 = A 6 := moves_g (by decide) (by decide) (by decide) (by decide) (by decide)
    refine ⟨⟨by rw [E5, if_pos rfl]; decide, by rw [e6]; exact hg.1.2⟩, fun h => absurd (show lOK b (aMoves A id k) id by unfold lOK; rw [e7]; exact hlo) h, fun s h => ?_, fun r h => ?_, fun h => ?_, fun hm s r h1 h2 => ?_⟩
    · rw [E3, if_pos rfl] at h
      have e : s = k := by omega
      subst e
      exact ⟨h256, by rw [E0, if_pos rfl], by rw [E1, if_pos rfl]⟩
    · rw [E4, if_pos rfl] at h
      have e : r = q := by omega
      subst e
      exact ⟨by rw [E3, if_pos rfl]; omega, q1, by rw [E0, if_neg hkq, if_pos rfl], by rw [E1, if_neg hkq]; exact q3⟩
    · rw [E5, if_pos rfl] at h; exact absurd h (by omega)
    · rw [E3, if_pos rfl] at h1
      rw [E4, if_pos rfl] at h2
      rw [show s = k by omega, show r = q by omega]
      exact hdf hm
/-- a FREE VECTOR is RESERVED -/
theorem gC_rsv {id k : Nat} (hC : gC b p0 fl A) (hlo : lOK b A id) (hid : id < 80) (hm : b 1 (id / 8) = 3) (hin : kIn b k) (h256 : k < 256) (h0 : A 0 k = 0) (hsp : (aSpread b (id / 8) (id % 8)).testBit (k / 32) = true) : gC b p0 fl (aSets A k 4 (id + 1)) := by
  have hg := hC.2.1 id hid
  obtain ⟨f1, f2⟩ := gV_free (hC.1 k h256) (by omega)
  have E0 : ∀ j, aSets A k 4 (id + 1) 0 j = if j = k then 4 else A 0 j := fun j => by simp [aSets, mj_up]
  have E1 : ∀ j, aSets A k 4 (id + 1) 1 j = if j = k then id + 1 else A 1 j := fun j => by simp [aSets, mj_up]
  refine gC_op (id0 := id) (fun j => j = k) hC rfl rfl rfl hlo (fun f h1 _ i hi => by rw [sets_g (by omega) (by omega)]) (fun j _ hn => ⟨by rw [E0, if_neg hn], by rw [E1, if_neg hn], rfl⟩) (fun j _ _ h => h) (fun j _ _ h => h) (fun j _ e => ?_) ?_
  · have e : j = k := e
    subst e
    exact ⟨Or.inl f1, by show A 2 j < 2; omega, Or.inr ⟨by rw [E1, if_pos rfl], hin, Or.inr (Or.inr ⟨by rw [E0, if_pos rfl], f2, hm⟩), fun _ => hsp⟩⟩
  · refine ⟨hg.1, hg.2.1, fun s h => ?_, fun s h => ?_, hg.2.2.2.2.1, hg.2.2.2.2.2⟩
    · obtain ⟨z1, z2, z3⟩ := hg.2.2.1 s h
      have hne : s ≠ k := fun e => by rw [e] at z2; omega
      exact ⟨z1, by rw [E0, if_neg hne]; exact z2, by rw [E1, if_neg hne]; exact z3⟩
    · obtain ⟨z0, z1, z2, z3⟩ := hg.2.2.2.1 s h
      have hne : s ≠ k := fun e => by rw [e] at z2; omega
      exact ⟨z0, z1, by rw [E0, if_neg hne]; exact z2, by rw [E1, if_neg hne]; exact z3⟩
/-- a DEVICE is STARTED, and has nothing yet -/
theorem gC_st {d : Nat} (hk : bOK b) (hC : gC b p0 fl A) (hd : d < b 0 2) (h7 : A 7 d ≠ 1) : gC b p0 fl (mj_up (mj_up A 7 d 1) 8 d 0) := by
  have e7 : ∀ e, mj_up (mj_up A 7 d 1) 8 d 0 7 e = if e = d then 1 else A 7 e := fun e => by simp [mj_up]
  have e8 : ∀ e, mj_up (mj_up A 7 d 1) 8 d 0 8 e = if e = d then 0 else A 8 e := fun e => by simp [mj_up]
  have hlk : ∀ i, lOK b A i → lOK b (mj_up (mj_up A 7 d 1) 8 d 0) i := fun i h => ⟨h.1, h.2.1, by
    rw [e7]
    split
    · rfl
    · exact h.2.2⟩
  refine ⟨fun k hk => ?_, fun i hi => ?_, fun e he => ?_, hC.2.2.2⟩
  · obtain ⟨v1, v2⟩ := hC.1 k hk
    refine ⟨v1, ?_⟩
    rcases v2 with v2 | ⟨w1, i, w2, w3, w4⟩
    · exact Or.inl v2
    · exact Or.inr ⟨w1, i, w2, hlk i w3, w4⟩
  · obtain ⟨l1, l3, l4⟩ := hC.2.1 i hi
    exact ⟨l1, fun h => l3 (fun q => h (hlk i q)), l4⟩
  · obtain ⟨x1, x2, x3, x4⟩ := hC.2.2.1 e he
    unfold gB
    rw [e7, e8]
    by_cases z : e = d
    · rw [if_pos z, if_pos z]
      exact ⟨by decide, by decide, fun _ _ => rfl, fun q => by omega⟩
    · rw [if_neg z, if_neg z]
      exact ⟨x1, x2, x3, x4⟩
theorem gC_pr {d : Nat} (hC : gC b p0 fl A) (hd : d < b 0 2) (h3 : b 1 d ≠ 3) : gC b p0 fl (mj_up A 8 d 1) := by
  have e8 : ∀ e, mj_up A 8 d 1 8 e = if e = d then 1 else A 8 e := fun e => by simp [mj_up]
  refine ⟨hC.1, hC.2.1, fun e he => ?_, hC.2.2.2⟩
  obtain ⟨x1, x2, x3, x4⟩ := hC.2.2.1 e he
  refine ⟨x1, ?_, fun q1 q2 => ?_, x4⟩
  · rw [e8]
    split
    · decide
    · exact x2
  · rw [e8]
    split
    · rename_i z
      rw [z] at q2
      exact absurd q2 h3
    · exact x3 q1 q2
/-- a CPU comes; one leaves; it has left -/
theorem gC_on {p : Nat} (hC : gC b p0 fl A) : gC b p0 fl (mj_up A 9 p 1) := by
  have e9 : ∀ e, mj_up A 9 p 1 9 e = if e = p then 1 else A 9 e := fun e => by simp [mj_up]
  have hon : ∀ e, A 9 e = 1 ∨ e = p0 → mj_up A 9 p 1 9 e = 1 ∨ e = p0 := fun e h => by
    rw [e9]
    split
    · exact Or.inl rfl
    · exact h
  refine ⟨fun k hk => ?_, hC.2.1, hC.2.2.1, fun e he => ?_⟩
  · obtain ⟨v1, v2⟩ := hC.1 k hk
    refine ⟨v1, ?_⟩
    rcases v2 with v2 | ⟨w1, i, w2, w3, w4, w5⟩
    · exact Or.inl v2
    · refine Or.inr ⟨w1, i, w2, w3, ?_, w5⟩
      rcases w4 with w | w | w
      · exact Or.inl ⟨w.1, w.2.1, hon _ w.2.2⟩
      · exact Or.inr (Or.inl ⟨w.1, w.2.1, hon _ w.2.2⟩)
      · exact Or.inr (Or.inr w)
  · rw [e9]
    split
    · decide
    · exact hC.2.2.2 e he
theorem gC_off {p : Nat} (hC : gC b 8 fl A) : gC b p fl (mj_up A 9 p 0) := by
  have e9 : ∀ e, mj_up A 9 p 0 9 e = if e = p then 0 else A 9 e := fun e => by simp [mj_up]
  have hon : ∀ e, e < 8 → A 9 e = 1 ∨ e = 8 → mj_up A 9 p 0 9 e = 1 ∨ e = p := fun e h8 h => by
    by_cases z : e = p
    · exact Or.inr z
    · rw [e9, if_neg z]
      rcases h with h | h
      · exact Or.inl h
      · omega
  refine ⟨fun k hk => ?_, hC.2.1, hC.2.2.1, fun e he => ?_⟩
  · obtain ⟨v1, v2⟩ := hC.1 k hk
    refine ⟨v1, ?_⟩
    rcases v2 with v2 | ⟨w1, i, w2, w3, w4, w5⟩
    · exact Or.inl v2
    · refine Or.inr ⟨w1, i, w2, w3, ?_, w5⟩
      rcases w4 with w | w | w
      · exact Or.inl ⟨w.1, w.2.1, hon _ (by omega) w.2.2⟩
      · exact Or.inr (Or.inl ⟨w.1, w.2.1, hon _ (by omega) w.2.2⟩)
      · exact Or.inr (Or.inr w)
  · rw [e9]
    split
    · decide
    · exact hC.2.2.2 e he
theorem gC_gone {p : Nat} (hC : gC b p fl A) (hg : ∀ k, k < 256 → A 0 k = 2 ∨ A 0 k = 3 → k / 32 ≠ p) : gC b p0 fl A := by
  refine ⟨fun k hk => ?_, hC.2⟩
  obtain ⟨v1, v2⟩ := hC.1 k hk
  refine ⟨v1, ?_⟩
  rcases v2 with v2 | ⟨w1, i, w2, w3, w4, w5⟩
  · exact Or.inl v2
  · refine Or.inr ⟨w1, i, w2, w3, ?_, w5⟩
    rcases w4 with w | w | w
    · exact Or.inl ⟨w.1, w.2.1, w.2.2.imp_right (fun z => absurd z (hg k hk (Or.inl w.1)))⟩
    · exact Or.inr (Or.inl ⟨w.1, w.2.1, w.2.2.imp_right (fun z => absurd z (hg k hk (Or.inr w.1)))⟩)
    · exact Or.inr (Or.inr w)
theorem gC_fl (hC : gC b p0 true A) : gC b p0 false A := ⟨hC.1, fun i hi => by
  obtain ⟨l1, l3, l4, l5, l6, l7⟩ := hC.2.1 i hi
  exact ⟨l1, l3, l4, l5, fun h => by
    obtain ⟨q, q1, _⟩ := l6 h
    exact ⟨q, q1, fun z => by cases z⟩, l7⟩, hC.2.2⟩
theorem gC_tr (hC : gC b p0 false A) (hd : dI A) : gC b p0 true A := ⟨hC.1, fun i hi => by
  obtain ⟨l1, l3, l4, l5, l6, l7⟩ := hC.2.1 i hi
  exact ⟨l1, l3, l4, l5, fun h => by
    obtain ⟨q, q1, _⟩ := l6 h
    exact ⟨q, q1, fun _ => by
      have := hd i hi h
      rw [q1, Nat.add_sub_cancel] at this
      exact this⟩, l7⟩, hC.2.2⟩
end INV2
