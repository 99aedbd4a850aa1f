/-! ===== UNPLUG keeps it, 2 ===== -/
section INV7
variable {b A B C A' : St} {p0 p : Nat} {fl : Bool}
theorem brTo_on {d to : Nat} (h : aBrTo b A d = some to) : to < b 0 0 ∧ A 9 to = 1 ∧ ∃ i, aBlk b A to (b 2 d) = some i := by
  unfold aBrTo at h
  cases hd : aDealt b A (b 2 d) (b 3 d) with
  | some q =>
    rw [hd] at h
    cases h
    have := dealt_3 hd
    exact ⟨this.1, this.2.2.1, this.2.2.2⟩
  | none =>
    rw [hd] at h
    have := dealt_3 h
    exact ⟨this.1, this.2.2.1, this.2.2.2⟩
theorem brD_0 {id s k x j : Nat} : mj_up (aHolds (aLeaves b A id s) id k) 2 k x 0 j = if j = k then 2 else if j = s then (if b 1 (id / 8) = 3 then 4 else 0) else A 0 j := by simp [aHolds, aLeaves, aSets, mj_up]
theorem brD_1 {id s k x j : Nat} : mj_up (aHolds (aLeaves b A id s) id k) 2 k x 1 j = if j = k then id + 1 else if j = s then (if b 1 (id / 8) = 3 then id + 1 else 0) else A 1 j := by simp [aHolds, aLeaves, aSets, mj_up]
theorem brD_2 {id s k x j : Nat} : mj_up (aHolds (aLeaves b A id s) id k) 2 k x 2 j = if j = k then x else if j = s then 0 else A 2 j := by simp [aHolds, aLeaves, aSets, mj_up]
theorem brD_3 {id s k x j : Nat} : mj_up (aHolds (aLeaves b A id s) id k) 2 k x 3 j = if j = id then k + 1 else A 3 j := by simp [aHolds, aLeaves, aSets, mj_up]
/-- what is DEALT is brought away -/
theorem gI_bro {d : Nat} (hk : bOK b) (hI : gI b p A) (h9 : A 9 p ≠ 1) (hd : d < b 0 2) (h7 : A 7 d = 1) (h3 : b 1 d ≠ 3) (hat : aAt A (8 * d) p = true) (h : aBro b A d p = some A') : (gI b p A' ∧ A' 9 = A 9 ∧ A' 7 = A 7) ∧ aw p A A' (fun i => i / 8 = d) ∧ (∀ j, j < b 2 d → ¬ at3 p A' (8 * d + j)) ∧ A' 4 = A 4 := by
  have hc8 := hk.1.2
  have hv32 := hk.2.1.2
  have hs8 := (hk.2.2.2 d hd).2.1
  have h10 := hk.2.2.1
  rw [at_iff, decide_eq_true_eq] at hat
  unfold aBro at h
  cases ht : aBrTo b A d with
  | none => rw [ht] at h; cases h
  | some to =>
    obtain ⟨t1, t2, i, hi⟩ := brTo_on ht
    have hne : to ≠ p := fun e => h9 (by rw [← e]; exact t2)
    obtain ⟨f1, f2⟩ := blk_free hs8.1 hi
    rw [ht, Option.map_some, hi] at h
    have h : some (itN (aBr1 b d p (32 * to + b 2 d * i)) (b 2 d) A) = some A' := h
    cases h
    obtain ⟨cp, hcp⟩ := (hI.2 d hd h7).2 h3
    have hcp2 : cp = p := by
      obtain ⟨q, q1, q2⟩ := hcp 0 (by omega)
      rw [Nat.add_zero] at q1
      have := hat.2
      rw [q1, Nat.add_sub_cancel] at this
      omega
    subst hcp2
    have key := itN_ind (P := fun m B => (gC b cp true B ∧ B 9 = A 9 ∧ B 7 = A 7 ∧ B 4 = A 4) ∧ (∀ j, m ≤ j → j < b 2 d → B 0 (32 * to + b 2 d * i + j) = 0 ∧ B 3 (8 * d + j) = A 3 (8 * d + j)) ∧ (∀ j, j < m → B 3 (8 * d + j) = 32 * to + b 2 d * i + j + 1) ∧ (∀ k, k < 256 → A 1 k ≠ 0 → (A 1 k - 1) / 8 ≠ d → B 1 k = A 1 k) ∧ ∀ t, t / 8 ≠ d → B 3 t = A 3 t) (f := aBr1 b d cp (32 * to + b 2 d * i)) (n := b 2 d) (A := A) ⟨⟨hI.1, rfl, rfl, rfl⟩, fun j _ hj => ⟨by rw [Nat.add_assoc]; exact f2 j hj, rfl⟩, fun j hj => absurd hj (Nat.not_lt_zero _), fun _ _ _ _ => rfl, fun _ _ => rfl⟩ (fun r B hrr hB => by
      obtain ⟨⟨b1, b9, b7, b4⟩, b2, b3, b5, b6⟩ := hB
      obtain ⟨w0, w3⟩ := b2 r (Nat.le_refl _) hrr
      obtain ⟨s, s1, s2⟩ := hcp r hrr
      rw [s1] at w3
      have hK : 32 * to + b 2 d * i + r < 256 := by omega
      have ec : (32 * to + b 2 d * i + r) / 32 = to := by omega
      have e8 : (8 * d + r) / 8 = d := by omega
      have hid : 8 * d + r < 80 := by omega
      have w1 := (gV_free (b1.1 _ hK) (by omega)).1
      have hg := b1.2.1 (8 * d + r) hid
      obtain ⟨z1, z2, z3⟩ := hg.2.2.1 s w3
      have hn4 : ¬ B 4 (8 * d + r) = 32 * to + b 2 d * i + r + 1 := fun q => by
        have := (hg.2.2.2.1 _ q).2.2.1
        omega
      have eb : aBr1 b d cp (32 * to + b 2 d * i) r B = mj_up (aHolds (aLeaves b B (8 * d + r) s) (8 * d + r) (32 * to + b 2 d * i + r)) 2 (32 * to + b 2 d * i + r) (B 2 s) := by
        rw [br1_e (by rw [w3, Nat.add_sub_cancel]; exact s2), w3, Nat.add_sub_cancel]
      rw [eb]
      refine ⟨⟨gC_bring (q := s) (k := 32 * to + b 2 d * i + r) (x := B 2 s) b1 hid w3 ⟨by omega, by omega⟩ hK (by rw [ec, b9]; exact t2) (Or.inl ⟨w0, w1, by rw [e8]; exact h3⟩) (b1.1 s z1).1 (fun z => absurd (by rw [e8] at z; exact z) h3) rfl rfl rfl (fun j => brD_0) (fun j => brD_1) (fun j => brD_2) (fun j => brD_3) (fun j => by rw [if_neg (fun q => hn4 q.2)]; rfl) (fun j => by rw [if_neg (fun q => hn4 q.2)]; rfl) rfl, b9, b7, b4⟩, fun j hj hj2 => ?_, fun j hj => ?_, fun k hk2 h1 hd2 => ?_, fun t ht2 => ?_⟩
      · obtain ⟨u0, u3⟩ := b2 j (by omega) hj2
        exact ⟨by rw [brD_0, if_neg (by omega), if_neg (by omega)]; exact u0, by rw [brD_3, if_neg (by omega)]; exact u3⟩
      · rw [brD_3]
        by_cases z : j = r
        · rw [if_pos (by rw [z]), z]
        · rw [if_neg (by omega)]; exact b3 j (by omega)
      · have := b5 k hk2 h1 hd2
        rw [brD_1, if_neg (fun z => h1 (by rw [← this, z]; exact w1)), if_neg (fun z => by rw [z, z3] at this; rw [z, ← this] at hd2; omega)]
        exact this
      · rw [brD_3, if_neg (by omega)]; exact b6 t ht2) (b 2 d) (Nat.le_refl _)
    obtain ⟨⟨s1, s9, s7, s4⟩, _, s3, s5, s6⟩ := key
    have n3 : ∀ j, j < b 2 d → ¬ at3 cp (itN (aBr1 b d cp (32 * to + b 2 d * i)) (b 2 d) A) (8 * d + j) := fun j hj => by
      unfold at3
      rw [s3 j hj, Nat.add_sub_cancel]
      intro z
      exact hne (by have := z.2; omega)
    refine ⟨⟨⟨s1, fun e he h7e => ?_⟩, s9, s7⟩, ⟨fun t ht2 => ⟨s6 t ht2, by rw [s4]⟩, fun t ht2 => ?_, fun t ht2 => ?_⟩, n3, s4⟩
    · rw [s7] at h7e
      obtain ⟨g1, g2⟩ := hI.2 e he h7e
      have he8 := (hk.2.2.2 e he).2.1
      by_cases ed : e = d
      · subst ed
        exact ⟨fun z => absurd z h3, fun _ => ⟨to, fun j hj => ⟨32 * to + b 2 e * i + j, s3 j hj, by omega⟩⟩⟩
      · exact ⟨gM_keep hk he (fun k q1 q2 q3 => s5 k q1 q2 (by omega)) g1, gG_keep (fun j hj => s6 _ (by omega)) g2⟩
    · by_cases z : t / 8 = d
      · by_cases w : t % 8 < b 2 d
        · obtain ⟨q, q1, q2⟩ := hcp (t % 8) w
          rw [show 8 * d + t % 8 = t by omega] at q1
          exact absurd ⟨by omega, by rw [q1, Nat.add_sub_cancel]; exact q2⟩ ht2
        · have hlo : ∀ X : St, X 7 = A 7 → ¬ lOK b X t := fun X _ q => w (by have := q.2.1; rw [z] at this; exact this)
          have e1 := ((hI.1.2.1 t (by omega)).2.1 (hlo A rfl)).1
          have e2 := ((s1.2.1 t (by omega)).2.1 (hlo _ s7)).1
          rw [e1, e2]
      · exact s6 t z
    · unfold at4 at ht2 ⊢
      rw [s4] at ht2
      exact ht2
theorem zer_of {i : Nat} (hC : gC b p0 fl A) (hi : i < 80) (h : ¬ lOK b A i) : ¬ at3 p A i ∧ ¬ at4 p A i := by
  have := (hC.2.1 i hi).2.1 h
  unfold at3 at4
  rw [this.1, this.2.1]
  exact ⟨fun z => z.1 rfl, fun z => z.1 rfl⟩
theorem gI_q1s {d : Nat} (hk : bOK b) (hI : gI b p A) (h9 : A 9 p ≠ 1) (hp : p < b 0 0) (hd : d < b 0 2) (h7 : A 7 d = 1) (h3 : b 1 d = 3) : (gI b p (itN (aQ1 b d p) (b 2 d) A) ∧ itN (aQ1 b d p) (b 2 d) A 9 = A 9 ∧ itN (aQ1 b d p) (b 2 d) A 7 = A 7) ∧ aw p A (itN (aQ1 b d p) (b 2 d) A) (fun i => i / 8 = d) ∧ ∀ j, j < b 2 d → ¬ at3 p (itN (aQ1 b d p) (b 2 d) A) (8 * d + j) ∧ ¬ at4 p (itN (aQ1 b d p) (b 2 d) A) (8 * d + j) := by
  have hs8 := (hk.2.2.2 d hd).2.1
  have h10 := hk.2.2.1
  refine itN_ind (P := fun m B => (gI b p B ∧ B 9 = A 9 ∧ B 7 = A 7) ∧ aw p A B (fun i => i / 8 = d) ∧ ∀ j, j < m → ¬ at3 p B (8 * d + j) ∧ ¬ at4 p B (8 * d + j)) (f := aQ1 b d p) (n := b 2 d) (A := A) ⟨⟨hI, rfl, rfl⟩, aw.rf, fun j hj => absurd hj (Nat.not_lt_zero _)⟩ (fun r B hrr hB => ?_) (b 2 d) (Nat.le_refl _)
  obtain ⟨⟨b1, b9, b7⟩, b2, b3⟩ := hB
  have hid : 8 * d + r < 80 := by omega
  have o1 := gI_oldL (p := p) hk b1 hid
  have o9 : aOldL b B (8 * d + r) p 9 = B 9 := oldL_g (Or.inr (Or.inl rfl))
  have o7 : aOldL b B (8 * d + r) p 7 = B 7 := oldL_g (Or.inr (Or.inr rfl))
  obtain ⟨o2, o4⟩ := aw_oldL (b := b) (A := B) (p := p) (id := 8 * d + r)
  have hsub : ∀ i, i = 8 * d + r → i / 8 = d := fun i hi => by omega
  unfold aQ1
  by_cases hat : aAt (aOldL b B (8 * d + r) p) (8 * d + r) p = true
  · rw [if_pos hat]
    obtain ⟨⟨q1, q9⟩, q2, q3⟩ := gI_qlv hk o1 (by rw [o9, b9]; exact h9) hp hd (by rw [o7, b7]; exact h7) h3 hrr hat
    refine ⟨⟨q1, by rw [q9, o9, b9], by rw [qlv_7, o7, b7]⟩, b2.tr ((o2.mono hsub).tr (q2.mono hsub)), fun j hj => ?_⟩
    by_cases z : j = r
    · rw [z]; exact ⟨q3, fun w => o4 (q2.2.2 _ w)⟩
    · obtain ⟨x3, x4⟩ := b3 j (by omega)
      exact ⟨q2.n3 (o2.n3 x3), fun w => x4 (o2.2.2 _ (q2.2.2 _ w))⟩
  · rw [if_neg hat]
    refine ⟨⟨o1, by rw [o9, b9], by rw [o7, b7]⟩, b2.tr (o2.mono hsub), fun j hj => ?_⟩
    by_cases z : j = r
    · rw [z]
      refine ⟨fun w => hat ?_, o4⟩
      rw [at_iff, decide_eq_true_eq]
      exact w
    · obtain ⟨x3, x4⟩ := b3 j (by omega)
      exact ⟨o2.n3 x3, fun w => x4 (o2.2.2 _ w)⟩
theorem gI_olds {d : Nat} (hk : bOK b) (hI : gI b p A) (hd : d < b 0 2) : (gI b p (itN (fun k A => aOldL b A (8 * d + k) p) (b 2 d) A) ∧ itN (fun k A => aOldL b A (8 * d + k) p) (b 2 d) A 9 = A 9 ∧ itN (fun k A => aOldL b A (8 * d + k) p) (b 2 d) A 7 = A 7) ∧ aw p A (itN (fun k A => aOldL b A (8 * d + k) p) (b 2 d) A) (fun i => i / 8 = d) ∧ ∀ j, j < b 2 d → ¬ at4 p (itN (fun k A => aOldL b A (8 * d + k) p) (b 2 d) A) (8 * d + j) := by
  have hs8 := (hk.2.2.2 d hd).2.1
  have h10 := hk.2.2.1
  refine itN_ind (P := fun m B => (gI b p B ∧ B 9 = A 9 ∧ B 7 = A 7) ∧ aw p A B (fun i => i / 8 = d) ∧ ∀ j, j < m → ¬ at4 p B (8 * d + j)) (f := fun k A => aOldL b A (8 * d + k) p) (n := b 2 d) (A := A) ⟨⟨hI, rfl, rfl⟩, aw.rf, fun j hj => absurd hj (Nat.not_lt_zero _)⟩ (fun r B hrr hB => ?_) (b 2 d) (Nat.le_refl _)
  obtain ⟨⟨b1, b9, b7⟩, b2, b3⟩ := hB
  have hid : 8 * d + r < 80 := by omega
  obtain ⟨o2, o4⟩ := aw_oldL (b := b) (A := B) (p := p) (id := 8 * d + r)
  refine ⟨⟨gI_oldL hk b1 hid, (oldL_g (Or.inr (Or.inl rfl))).trans b9, (oldL_g (Or.inr (Or.inr rfl))).trans b7⟩, b2.tr (o2.mono (fun i hi => by omega)), fun j hj => ?_⟩
  by_cases z : j = r
  · rw [z]; exact o4
  · exact fun w => b3 j (by omega) (o2.2.2 _ w)
theorem gI_clear {d : Nat} (hk : bOK b) (hI : gI b p A) (h9 : A 9 p ≠ 1) (hp : p < b 0 0) (hd : d < b 0 2) (h7 : A 7 d = 1) (h : aClear b A d p = some A') : (gI b p A' ∧ A' 9 = A 9 ∧ A' 7 = A 7) ∧ aw p A A' (fun i => i / 8 = d) ∧ ∀ i, i < 80 → i / 8 = d → ¬ at3 p A' i ∧ ¬ at4 p A' i := by
  have hs8 := (hk.2.2.2 d hd).2.1
  have h10 := hk.2.2.1
  have fin : ∀ X : St, gI b p X → X 7 = A 7 → (∀ j, j < b 2 d → ¬ at3 p X (8 * d + j) ∧ ¬ at4 p X (8 * d + j)) → ∀ i, i < 80 → i / 8 = d → ¬ at3 p X i ∧ ¬ at4 p X i := fun X x1 x2 x3 i hi hid => by
    by_cases w : i % 8 < b 2 d
    · have := x3 (i % 8) w
      rw [show 8 * d + i % 8 = i by omega] at this
      exact this
    · exact zer_of x1.1 hi (fun q => w (by have := q.2.1; rw [hid] at this; exact this))
  unfold aClear at h
  by_cases h3 : b 1 d = 3
  · rw [if_pos h3] at h
    cases h
    obtain ⟨q1, q2, q3⟩ := gI_q1s hk hI h9 hp hd h7 h3
    exact ⟨q1, q2, fin _ q1.1 q1.2.2 q3⟩
  · rw [if_neg h3] at h
    unfold aClD at h
    obtain ⟨⟨o1, o9, o7⟩, o2, o4⟩ := gI_olds (p := p) hk hI hd
    generalize itN (fun k A => aOldL b A (8 * d + k) p) (b 2 d) A = O at h o1 o9 o7 o2 o4
    by_cases hat : aAt O (8 * d) p = true
    · rw [if_pos hat] at h
      obtain ⟨⟨q1, q9, q7⟩, q2, q3, q4⟩ := gI_bro hk o1 (by rw [o9]; exact h9) hd (by rw [o7]; exact h7) h3 hat h
      refine ⟨⟨q1, by rw [q9, o9], by rw [q7, o7]⟩, o2.tr q2, fin _ q1 (by rw [q7, o7]) (fun j hj => ⟨q3 j hj, fun w => o4 j hj (q2.2.2 _ w)⟩)⟩
    · rw [if_neg hat] at h
      cases h
      refine ⟨⟨o1, o9, o7⟩, o2, fin _ o1 o7 (fun j hj => ⟨fun w => hat ?_, o4 j hj⟩)⟩
      obtain ⟨cp, hcp⟩ := (o1.2 d hd (by rw [o7]; exact h7)).2 h3
      obtain ⟨q, q1, q2⟩ := hcp j hj
      obtain ⟨r, r1, r2⟩ := hcp 0 (by omega)
      rw [Nat.add_zero] at r1
      have w2 := w.2
      rw [q1, Nat.add_sub_cancel] at w2
      rw [at_iff, decide_eq_true_eq, r1, Nat.add_sub_cancel]
      exact ⟨Nat.succ_ne_zero _, by omega⟩
theorem gI_un {A0 : St} (hk : bOK b) (hI : gI b p A0) (h9 : A0 9 p ≠ 1) (hp : p < b 0 0) (h : itO (aUn1 b p) (b 0 2) A0 = some A') : (gI b p A' ∧ A' 9 = A0 9 ∧ A' 7 = A0 7) ∧ aw p A0 A' (fun i => i / 8 < b 0 2) ∧ ∀ i, i < 80 → ¬ at3 p A' i ∧ ¬ at4 p A' i := by
  have h10 := hk.2.2.1
  have key := itO_ind (P := fun m B => (gI b p B ∧ B 9 = A0 9 ∧ B 7 = A0 7) ∧ aw p A0 B (fun i => i / 8 < m) ∧ ∀ i, i < 80 → i / 8 < m → ¬ at3 p B i ∧ ¬ at4 p B i) (f := aUn1 b p) (n := b 0 2) (A := A0) ⟨⟨hI, rfl, rfl⟩, aw.rf, fun i _ hi => absurd hi (Nat.not_lt_zero _)⟩ (fun d B C hd hB hC => by
    obtain ⟨⟨b1, b9, b7⟩, b2, b3⟩ := hB
    unfold aUn1 at hC
    by_cases h7 : B 7 d = 1
    · rw [if_pos h7] at hC
      obtain ⟨⟨q1, q9, q7⟩, q2, q3⟩ := gI_clear hk b1 (by rw [b9]; exact h9) hp hd h7 hC
      refine ⟨⟨q1, by rw [q9, b9], by rw [q7, b7]⟩, (b2.mono (fun i hi => by omega)).tr (q2.mono (fun i hi => by omega)), fun i hi hid => ?_⟩
      by_cases z : i / 8 = d
      · exact q3 i hi z
      · obtain ⟨x3, x4⟩ := b3 i hi (by omega)
        exact ⟨q2.n3 x3, fun w => x4 (q2.2.2 _ w)⟩
    · rw [if_neg h7] at hC
      cases hC
      refine ⟨⟨b1, b9, b7⟩, b2.mono (fun i hi => by omega), fun i hi hid => ?_⟩
      by_cases z : i / 8 = d
      · exact zer_of b1.1 hi (fun q => h7 (by have := q.2.2; rw [z] at this; exact this))
      · exact b3 i hi (by omega)) (b 0 2) A' (Nat.le_refl _) h
  refine ⟨key.1, key.2.1, fun i hi => ?_⟩
  by_cases z : i / 8 < b 0 2
  · exact key.2.2 i hi z
  · exact zer_of key.1.1.1 hi (fun q => z q.1)
theorem gI_off (hI : gI b 8 A) : gI b p (mj_up A 9 p 0) := ⟨gC_off hI.1, hI.2⟩
theorem unplug_ok (hk : bOK b) (hI : gI b 8 A) (hp : p < b 0 0) (h : itO (aUn1 b p) (b 0 2) (mj_up A 9 p 0) = some A') : gI b 8 A' ∧ (∀ i, i < 80 → ¬ at3 p A' i) ∧ ∀ i, ¬ at3 p A i → A' 3 i = A 3 i := by
  obtain ⟨⟨q1, q9, q7⟩, q2, q3⟩ := gI_un hk (gI_off hI) (by rw [mj_up_eq]; decide) hp h
  refine ⟨⟨gC_gone q1.1 (fun k hk2 h0 => ?_), q1.2⟩, fun i hi => (q3 i hi).1, fun i hi => q2.2.1 i hi⟩
  obtain ⟨_, v | ⟨w1, i, w2, w3, w4, w5⟩⟩ := q1.1.1 k hk2
  · omega
  · have hi := lOK_lt hk w3
    obtain ⟨n3, n4⟩ := q3 i hi
    rcases w4 with w | w | w
    · exact fun e => n3 ⟨by omega, by rw [w.2.1, Nat.add_sub_cancel]; exact e⟩
    · exact fun e => n4 ⟨by omega, by rw [w.2.1, Nat.add_sub_cancel]; exact e⟩
    · omega
theorem gI_unplug (hk : bOK b) (hI : gI b 8 A) (hp : p < b 0 0) : gI b 8 (aUnplug b A p).2 := by
  unfold aUnplug
  split
  · exact hI
  · split
    · exact hI
    · cases h : itO (aUn1 b p) (b 0 2) (mj_up A 9 p 0) with
      | none => exact hI
      | some A' =>
        show gI b 8 (if aFree b A' < aProm b A' then (2, A) else (0, A')).2
        split
        · exact hI
        · exact (unplug_ok hk hI hp h).1
theorem pv_3 {i : Nat} (hC : gC b p0 fl A) (hi : i < 80) : pv b (A 3 i) ∧ pv b (A 4 i) := by
  have hg := hC.2.1 i hi
  refine ⟨fun h => ?_, fun h => ?_⟩
  · obtain ⟨z1, z2, z3⟩ := hg.2.2.1 (A 3 i - 1) (by omega)
    exact ⟨z1, (gV_own (hC.1 _ z1) z3).2.1.2⟩
  · obtain ⟨z0, z1, z2, z3⟩ := hg.2.2.2.1 (A 4 i - 1) (by omega)
    exact ⟨z1, (gV_own (hC.1 _ z1) z3).2.1.2⟩
theorem d5_4 {i : Nat} (hC : gC b p0 fl A) (hi : i < 80) (h5 : A 5 i = 1) : A 4 i ≠ 0 := by
  obtain ⟨q, q1, _⟩ := (hC.2.1 i hi).2.2.2.2.1 h5
  exact fun z => by rw [z] at q1; exact absurd q1 (by omega)
theorem o4_3 {i : Nat} (hC : gC b p0 fl A) (hi : i < 80) (h4 : A 4 i ≠ 0) : A 3 i ≠ 0 := ((hC.2.1 i hi).2.2.2.1 (A 4 i - 1) (by omega)).1
theorem gG_3 {d : Nat} (hI : gI b p0 A) (hd : d < b 0 2) (h7 : A 7 d = 1) (h3 : b 1 d ≠ 3) : ∀ j, j < b 2 d → A 3 (8 * d + j) ≠ 0 := fun j hj => by
  obtain ⟨cp, hcp⟩ := (hI.2 d hd h7).2 h3
  obtain ⟨q, q1, _⟩ := hcp j hj
  rw [q1]
  exact Nat.succ_ne_zero _
theorem uCl_of (hk : bOK b) (hp : p < b 0 0) : uCl b p (fun B => gI b p B ∧ B 9 p ≠ 1) := by
  have h10 := hk.2.2.1
  refine ⟨fun B hB => gC_aOK hk hB.1.1, fun B d k hB hd h7 hl h4 => ?_, fun B d hB hd h7 h3 => gG_3 hB.1 hd h7 h3, fun B d q hB hd h7 h3 hq hat => qok_of hk hB.1 hB.2 hd h7 h3 hq hat, fun B d k hB hd h7 hl => ?_, fun B d q hB hd h7 h3 hq hat => ?_, fun B d B' hB hd h7 h3 hat hb => ?_⟩
  · have hs8 := (hk.2.2.2 d hd).2.1
    exact o4_3 hB.1.1 (by omega) h4
  · have hs8 := (hk.2.2.2 d hd).2.1
    exact ⟨gI_oldL hk hB.1 (by omega), by rw [oldL_g (Or.inr (Or.inl rfl))]; exact hB.2⟩
  · obtain ⟨⟨q1, q9⟩, _⟩ := gI_qlv hk hB.1 hB.2 hp hd h7 h3 hq hat
    exact ⟨q1, by rw [q9]; exact hB.2⟩
  · obtain ⟨⟨q1, q9, _⟩, _⟩ := gI_bro hk hB.1 hB.2 hd h7 h3 hat hb
    exact ⟨q1, by rw [q9]; exact hB.2⟩
theorem uC2_of (hk : bOK b) : uC2 b p (fun B => gI b p B ∧ B 9 p ≠ 1) := by
  have h10 := hk.2.2.1
  refine ⟨fun B hB => hB.2, fun B d k hB hd h7 hl => ?_, fun B d hB hd h7 h3 hat j hj => ?_, fun B k hB h256 h0 => ?_⟩
  · have hs8 := (hk.2.2.2 d hd).2.1
    have := pv_3 hB.1.1 (show 8 * d + k < 80 by omega)
    exact ⟨this.1, this.2, d5_4 hB.1.1 (by omega)⟩
  · have hs8 := (hk.2.2.2 d hd).2.1
    obtain ⟨cp, hcp⟩ := (hB.1.2 d hd h7).2 h3
    obtain ⟨q, q1, q2⟩ := hcp j hj
    obtain ⟨r, r1, r2⟩ := hcp 0 (by omega)
    rw [Nat.add_zero] at r1
    rw [at_iff, decide_eq_true_eq, r1, Nat.add_sub_cancel] at hat
    rw [q1, Nat.add_sub_cancel]
    have := hat.2
    omega
  · rw [(gV_free (hB.1.1.1 k h256) (by omega)).2]
    decide
end INV7
