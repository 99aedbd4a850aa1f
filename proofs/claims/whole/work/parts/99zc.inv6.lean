/-! ===== UNPLUG keeps it ===== -/
theorem lstN_none {P : Nat → Bool} {f : Nat → Nat} {n : Nat} (h : lstN P f n = none) : ∀ k, k < n → P k = false := by
  induction n with
  | zero => intro k hk; omega
  | succ n ih =>
    unfold lstN at h
    cases hb : lstN P f n with
    | none =>
      rw [hb] at h
      dsimp only at h
      intro k hk
      by_cases e : k = n
      · rw [e]
        by_cases hp : P n = true
        · rw [if_pos hp] at h; cases h
        · exact Bool.eq_false_iff.mpr hp
      · exact ih hb k (by omega)
    | some x =>
      rw [hb] at h
      dsimp only at h
      split at h <;> cases h
abbrev at3 (p : Nat) (A : St) (i : Nat) : Prop := A 3 i ≠ 0 ∧ (A 3 i - 1) / 32 = p
abbrev at4 (p : Nat) (A : St) (i : Nat) : Prop := A 4 i ≠ 0 ∧ (A 4 i - 1) / 32 = p
/-- LINES of S are brought away from a CPU -/
def aw (p : Nat) (A B : St) (S : Nat → Prop) : Prop := (∀ i, ¬ S i → B 3 i = A 3 i ∧ B 4 i = A 4 i) ∧ (∀ i, ¬ at3 p A i → B 3 i = A 3 i) ∧ ∀ i, at4 p B i → at4 p A i
section INV6
variable {b A B C A' : St} {p0 p : Nat} {fl : Bool}
theorem aw.rf {S : Nat → Prop} : aw p A A S := ⟨fun _ _ => ⟨rfl, rfl⟩, fun _ _ => rfl, fun _ h => h⟩
theorem aw.tr {S : Nat → Prop} (h : aw p A B S) (h2 : aw p B C S) : aw p A C S := ⟨fun i hi => ⟨(h2.1 i hi).1.trans (h.1 i hi).1, (h2.1 i hi).2.trans (h.1 i hi).2⟩, fun i hi => by
  have e := h.2.1 i hi
  rw [h2.2.1 i (by unfold at3; rw [e]; exact hi), e], fun i hi => h.2.2 i (h2.2.2 i hi)⟩
theorem aw.mono {S S' : Nat → Prop} (h : aw p A B S) (hs : ∀ i, S i → S' i) : aw p A B S' := ⟨fun i hi => h.1 i (fun q => hi (hs i q)), h.2⟩
theorem aw.n3 {S : Nat → Prop} (h : aw p A B S) {i : Nat} (hi : ¬ at3 p A i) : ¬ at3 p B i := by
  have := h.2.1 i hi
  unfold at3 at hi ⊢
  rw [this]
  exact hi
theorem kp_rel {id q : Nat} (x3 : A 1 q = id + 1) : kp b A (aNoOld (aLeaves b A id q) id) := ⟨fun k _ _ h3 => by
  rw [rel_1]
  by_cases z : k = q
  · rw [if_pos z]
    rw [z, x3, Nat.add_sub_cancel] at h3
    rw [if_pos h3, z, x3]
  · rw [if_neg z], fun _ _ _ _ _ => rfl, rfl⟩
theorem gI_oldL {id : Nat} (hk : bOK b) (hI : gI b p0 A) (hid : id < 80) : gI b p0 (aOldL b A id p) := by
  have hg := hI.1.2.1 id hid
  unfold aOldL
  split
  · rename_i h
    obtain ⟨x0, x1, x2, x3⟩ := hg.2.2.2.1 (A 4 id - 1) (by omega)
    have hr : gI b p0 (aNoOld (aLeaves b A id (A 4 id - 1)) id) := gI_kp hk hI (gC_rel hI.1 hid (by omega)) (kp_rel x3)
    split
    · obtain ⟨z1, z2, z3⟩ := hg.2.2.1 (A 3 id - 1) (by omega)
      have hne : A 3 id - 1 ≠ A 4 id - 1 := fun e => by rw [e] at z2; omega
      exact gI_pends hk hr hid z1 (by rw [rel_1, if_neg hne]; exact z3) (Or.inl (by rw [rel_0, if_neg hne]; exact z2))
    · exact hr
  · exact hI
theorem oldL_g {id f : Nat} (hf : f = 3 ∨ f = 9 ∨ f = 7) : aOldL b A id p f = A f := by
  unfold aOldL
  split
  · split
    · rw [pends_g (by omega) (by omega), noOld_g (by omega) (by omega), leaves_g (by omega) (by omega) (by omega)]
    · rw [noOld_g (by omega) (by omega), leaves_g (by omega) (by omega) (by omega)]
  · rfl
theorem oldL_4 {id i : Nat} : aOldL b A id p 4 i = if i = id ∧ at4 p A id then 0 else A 4 i := by
  unfold aOldL
  by_cases h : A 4 id ≠ 0 ∧ (A 4 id - 1) / 32 = p
  · rw [if_pos h]
    have e : ∀ X : St, X 4 i = aNoOld (aLeaves b A id (A 4 id - 1)) id 4 i → X 4 i = if i = id ∧ at4 p A id then 0 else A 4 i := fun X hX => by
      rw [hX, rel_4]
      by_cases z : i = id
      · rw [if_pos z, if_pos ⟨z, h⟩]
      · rw [if_neg z, if_neg (fun q => z q.1)]
    split
    · exact e _ (by rw [pends_g (by decide) (by decide)])
    · exact e _ rfl
  · rw [if_neg h, if_neg (fun q => h q.2)]
theorem aw_oldL {id : Nat} : aw p A (aOldL b A id p) (fun i => i = id) ∧ ¬ at4 p (aOldL b A id p) id := by
  refine ⟨⟨fun i hi => ⟨by rw [oldL_g (Or.inl rfl)], by rw [oldL_4, if_neg (fun q => hi q.1)]⟩, fun i _ => by rw [oldL_g (Or.inl rfl)], fun i hi => ?_⟩, fun hi => ?_⟩
  · unfold at4 at hi ⊢
    rw [oldL_4] at hi
    split at hi
    · exact absurd rfl hi.1
    · exact hi
  · have hi2 := hi
    unfold at4 at hi
    rw [oldL_4] at hi
    by_cases z : at4 p A id
    · rw [if_pos ⟨rfl, z⟩] at hi; exact absurd rfl hi.1
    · rw [if_neg (fun q => z q.2)] at hi; exact absurd hi z
theorem lv_0 {id s j : Nat} : aLeaves b A id s 0 j = if j = s then (if b 1 (id / 8) = 3 then 4 else 0) else A 0 j := by simp [aLeaves, aSets, mj_up]
theorem lv_1 {id s j : Nat} : aLeaves b A id s 1 j = if j = s then (if b 1 (id / 8) = 3 then id + 1 else 0) else A 1 j := by simp [aLeaves, aSets, mj_up]
theorem lv_2 {id s j : Nat} : aLeaves b A id s 2 j = if j = s then 0 else A 2 j := by simp [aLeaves, aSets, mj_up]
theorem pends_2 {e t j : Nat} : aPends A e t 2 j = if j = t then 1 else A 2 j := by
  unfold aPends
  split
  · rename_i h
    rw [merge_g (by decide)]
    by_cases z : j = t
    · rw [if_pos z, z]; exact h
    · rw [if_neg z]
  · by_cases z : j = t
    · rw [if_pos z, z, mj_up_eq]
    · rw [if_neg z, mj_up_ne2 z]
theorem qend_2 {d id to w j : Nat} : aQend A d id to w 2 j = if j = to ∧ w = 1 then 1 else A 2 j := by
  unfold aQend
  split
  · rename_i h
    rw [pends_2]
    by_cases z : j = to
    · rw [if_pos z, if_pos ⟨z, h⟩]
    · rw [if_neg z, if_neg (fun q => z q.1)]
      rfl
  · rename_i h
    rw [if_neg (fun q => h q.2)]
    rfl
theorem qend_g {d id to w f : Nat} (hf : f < 10) (h2 : f ≠ 2) : aQend A d id to w f = aHolds A id to f := by
  unfold aQend
  split
  · exact pends_g hf h2
  · rfl
/-- a QUEUE goes to what is RESERVED for it -/
theorem gC_brR {d id s k : Nat} (hC : gC b p0 fl A) (hid : id < 80) (h3 : A 3 id = s + 1) (hin : kIn b k) (h256 : k < 256) (h9k : A 9 (k / 32) = 1) (h0 : A 0 k = 4) (h1 : A 1 k = id + 1) (hdf : ∀ r, A 4 id = r + 1 → k / 32 ≠ r / 32) : gC b p0 fl (aQend (aLeaves b A id s) d id k (A 2 s)) := by
  have hg := hC.2.1 id hid
  have hks : k ≠ s := fun e => by
    have := (hg.2.2.1 s h3).2.1
    rw [← e] at this
    omega
  have hn4 : ¬ A 4 id = k + 1 := fun q => by
    have := (hg.2.2.2.1 k q).2.2.1
    omega
  refine gC_bring (q := s) (k := k) (x := if A 2 s = 1 then 1 else A 2 k) hC hid h3 hin h256 h9k (Or.inr (Or.inl ⟨h0, h1⟩)) ?_ (fun _ r hr _ => hdf r hr) ?_ ?_ ?_ (fun j => ?_) (fun j => ?_) (fun j => ?_) (fun j => ?_) (fun j => ?_) (fun j => ?_) ?_
  · split
    · decide
    · exact (hC.1 k h256).1
  · rw [qend_g (by decide) (by decide), holds_g (by decide) (by decide) (by decide), leaves_g (by decide) (by decide) (by decide)]
  · rw [qend_g (by decide) (by decide), holds_g (by decide) (by decide) (by decide), leaves_g (by decide) (by decide) (by decide)]
  · rw [qend_g (by decide) (by decide), holds_g (by decide) (by decide) (by decide), leaves_g (by decide) (by decide) (by decide)]
  · rw [qend_g (by decide) (by decide), holds_at.1, lv_0]
  · rw [qend_g (by decide) (by decide), holds_at.2.1, lv_1]
  · rw [qend_2, lv_2]
    by_cases z : j = k
    · rw [if_pos z]
      by_cases w : A 2 s = 1
      · rw [if_pos ⟨z, w⟩, if_pos w]
      · rw [if_neg (fun q => w q.2), if_neg w, if_neg (by rw [z]; exact hks), z]
    · rw [if_neg (fun q => z q.1), if_neg z]
  · rw [qend_g (by decide) (by decide), holds_at.2.2, leaves_g (by decide) (by decide) (by decide)]
  · rw [qend_g (by decide) (by decide), holds_g (by decide) (by decide) (by decide), leaves_g (by decide) (by decide) (by decide), if_neg (fun q => hn4 q.2)]
  · rw [qend_g (by decide) (by decide), holds_g (by decide) (by decide) (by decide), leaves_g (by decide) (by decide) (by decide), if_neg (fun q => hn4 q.2)]
  · rw [qend_g (by decide) (by decide), holds_g (by decide) (by decide) (by decide), leaves_g (by decide) (by decide) (by decide)]
/-- a QUEUE goes to its OLD one -/
theorem gC_brO {d id s k : Nat} (hC : gC b p0 fl A) (hid : id < 80) (h3 : A 3 id = s + 1) (h4 : A 4 id = k + 1) (h9k : A 9 (k / 32) = 1) : gC b p0 fl (aQend (aNoOld (aLeaves b A id s) id) d id k (A 2 s)) := by
  have hg := hC.2.1 id hid
  obtain ⟨x0, h256, x2, x3⟩ := hg.2.2.2.1 k h4
  have hin := (gV_own (hC.1 k h256) x3).2.1
  have hks : k ≠ s := fun e => by
    have := (hg.2.2.1 s h3).2.1
    rw [← e] at this
    omega
  refine gC_bring (q := s) (k := k) (x := if A 2 s = 1 then 1 else A 2 k) hC hid h3 hin h256 h9k (Or.inr (Or.inr h4)) ?_ (fun _ r hr hne => absurd (by omega) hne) ?_ ?_ ?_ (fun j => ?_) (fun j => ?_) (fun j => ?_) (fun j => ?_) (fun j => ?_) (fun j => ?_) ?_
  · split
    · decide
    · exact (hC.1 k h256).1
  · rw [qend_g (by decide) (by decide), holds_g (by decide) (by decide) (by decide), noOld_g (by decide) (by decide), leaves_g (by decide) (by decide) (by decide)]
  · rw [qend_g (by decide) (by decide), holds_g (by decide) (by decide) (by decide), noOld_g (by decide) (by decide), leaves_g (by decide) (by decide) (by decide)]
  · rw [qend_g (by decide) (by decide), holds_g (by decide) (by decide) (by decide), noOld_g (by decide) (by decide), leaves_g (by decide) (by decide) (by decide)]
  · rw [qend_g (by decide) (by decide), holds_at.1, rel_0]
  · rw [qend_g (by decide) (by decide), holds_at.2.1, rel_1]
  · rw [qend_2, rel_2]
    by_cases z : j = k
    · rw [if_pos z]
      by_cases w : A 2 s = 1
      · rw [if_pos ⟨z, w⟩, if_pos w]
      · rw [if_neg (fun q => w q.2), if_neg w, if_neg (by rw [z]; exact hks), z]
    · rw [if_neg (fun q => z q.1), if_neg z]
  · rw [qend_g (by decide) (by decide), holds_at.2.2, noOld_g (by decide) (by decide), leaves_g (by decide) (by decide) (by decide)]
  · rw [qend_g (by decide) (by decide), holds_g (by decide) (by decide) (by decide), rel_4]
    by_cases z : j = id
    · rw [if_pos z, if_pos ⟨z, h4⟩]
    · rw [if_neg z, if_neg (fun q => z q.1)]
  · rw [qend_g (by decide) (by decide), holds_g (by decide) (by decide) (by decide), rel_5]
    by_cases z : j = id
    · rw [if_pos z, if_pos ⟨z, h4⟩]
    · rw [if_neg z, if_neg (fun q => z q.1)]
  · rw [qend_g (by decide) (by decide), holds_g (by decide) (by decide) (by decide), noOld_g (by decide) (by decide), leaves_g (by decide) (by decide) (by decide)]
theorem least_lv {id s set to : Nat} (hb : bOK b) (h : aLeast b (aLeaves b A id s) set = some to) : to < b 0 0 ∧ set.testBit to = true ∧ A 9 to = 1 := by
  have := least_some h
  rw [leaves_g (by decide) (by decide) (by decide)] at this
  exact this
theorem qok_of {d q : Nat} (hk : bOK b) (hI : gI b p A) (h9 : A 9 p ≠ 1) (hd : d < b 0 2) (h7 : A 7 d = 1) (h3 : b 1 d = 3) (hq : q < b 2 d) (hat : aAt A (8 * d + q) p = true) : aQOK b A d q p := fun to ht hn => by
  have hc8 := hk.1.2
  have hv32 := hk.2.1.2
  rw [at_iff, decide_eq_true_eq] at hat
  obtain ⟨l1, l2, l3⟩ := least_lv hk ht
  have hne : to ≠ p := fun e => h9 (by rw [← e]; exact l3)
  obtain ⟨v, hv⟩ := resv_ex hk hI hd h7 h3 hq l1 l2 (fun s hs e => hne (by rw [← e]; have := hat.2; rw [hs, Nat.add_sub_cancel] at this; exact this)) (fun s hs e => hn ⟨by omega, by rw [hs, Nat.add_sub_cancel]; exact e⟩)
  obtain ⟨v1, v2, v3⟩ := resv_some hv
  have hne2 : 32 * to + v ≠ aPl A (8 * d + q) p := fun e => by
    unfold aPl at e
    omega
  obtain ⟨e0, e1, _⟩ := leaves_0 (b := b) (A := A) (id := 8 * d + q) hne2
  exact resv_of v1 (by rw [e0]; exact v2) (by rw [e1]; exact v3)
/-- a QUEUE leaves a CPU: what it keeps, where it is then -/
theorem gI_qlv {d q : Nat} (hk : bOK b) (hI : gI b p A) (h9 : A 9 p ≠ 1) (hp : p < b 0 0) (hd : d < b 0 2) (h7 : A 7 d = 1) (h3 : b 1 d = 3) (hq : q < b 2 d) (hat : aAt A (8 * d + q) p = true) : (gI b p (aQLv b A d q p) ∧ aQLv b A d q p 9 = A 9) ∧ aw p A (aQLv b A d q p) (fun i => i = 8 * d + q) ∧ ¬ at3 p (aQLv b A d q p) (8 * d + q) := by
  have hc8 := hk.1.2
  have hv32 := hk.2.1.2
  have hs8 := (hk.2.2.2 d hd).2.1
  have h10 := hk.2.2.1
  have hqok := qok_of hk hI h9 hd h7 h3 hq hat
  have hat0 := hat
  rw [at_iff, decide_eq_true_eq] at hat
  obtain ⟨s, hs⟩ : ∃ s, A 3 (8 * d + q) = s + 1 := ⟨A 3 (8 * d + q) - 1, by omega⟩
  have hsp : s / 32 = p := by have := hat.2; rw [hs, Nat.add_sub_cancel] at this; exact this
  have hid : 8 * d + q < 80 := by omega
  have hg := hI.1.2.1 (8 * d + q) hid
  obtain ⟨s1, s2, s3⟩ := hg.2.2.1 s hs
  have e8 : (8 * d + q) / 8 = d := by omega
  have epl : aPl A (8 * d + q) p = s := by unfold aPl; rw [hs, Nat.add_sub_cancel]; omega
  have hm : b 1 ((8 * d + q) / 8) = 3 := by rw [e8]; exact h3
  have ha3 : at3 p A (8 * d + q) := hat
  have fin : ∀ X : St, gC b p true X → X 9 = A 9 → X 7 = A 7 → (∀ j, j < 256 → X 1 j = A 1 j) → (∀ i, i ≠ 8 * d + q → X 3 i = A 3 i ∧ X 4 i = A 4 i) → (X 4 (8 * d + q) = 0 ∨ X 4 (8 * d + q) = A 4 (8 * d + q)) → (¬ at3 p X (8 * d + q)) → (gI b p X ∧ X 9 = A 9) ∧ aw p A X (fun i => i = 8 * d + q) ∧ ¬ at3 p X (8 * d + q) := fun X x1 x2 x3 x4 x5 x6 x7 => by
    refine ⟨⟨gI_kp hk hI x1 ⟨fun j hj _ _ => x4 j hj, fun e j he h3e hj => (x5 _ ?_).1, x3⟩, x2⟩, ⟨fun i hi => x5 i hi, fun i hi => ?_, fun i hi => ?_⟩, x7⟩
    · have he8 := (hk.2.2.2 e he).2.1
      have hed : e ≠ d := fun z => h3e (by rw [z]; exact h3)
      omega
    · by_cases z : i = 8 * d + q
      · rw [z] at hi; exact absurd ha3 hi
      · exact (x5 i z).1
    · by_cases z : i = 8 * d + q
      · subst z
        unfold at4 at hi ⊢
        rcases x6 with x6 | x6
        · rw [x6] at hi; exact absurd rfl hi.1
        · rw [x6] at hi; exact hi
      · unfold at4 at hi ⊢
        rw [(x5 i z).2] at hi
        exact hi
  unfold aQOK at hqok
  rw [epl] at hqok
  unfold aQLv
  rw [epl]
  cases hl : aLeast b (aLeaves b A (8 * d + q) s) (aSpread b d q) with
  | none =>
    have h4 : A 4 (8 * d + q) = 0 := Classical.byContradiction fun hz => by
      obtain ⟨r, hr⟩ : ∃ r, A 4 (8 * d + q) = r + 1 := ⟨A 4 (8 * d + q) - 1, by omega⟩
      obtain ⟨x0, x1, x2, x3⟩ := hg.2.2.2.1 r hr
      obtain ⟨y2, y1, y3, y4⟩ := gV_own (hI.1.1 r x1) x3
      have hd2 := hg.2.2.2.2.2 hm s r hs hr
      have hon : A 9 (r / 32) = 1 := by
        rcases y4.1 with w | w | w
        · omega
        · rcases w.2.2 with w | w
          · exact w
          · omega
        · omega
      have hsb := y4.2 hm
      rw [e8, show (8 * d + q) % 8 = q by omega] at hsb
      have := lstN_none hl (r / 32) y1.1
      unfold aLP at this
      rw [hsb, leaves_g (by decide) (by decide) (by decide), hon] at this
      cases this
    show (gI b p (mj_up (mj_up (aLeaves b A (8 * d + q) s) 3 (8 * d + q) 0) 6 (8 * d + q) (A 2 s)) ∧ _) ∧ _
    refine fin _ (gC_shut hI.1 hid hs h4 hm (hI.1.1 s s1).1) rfl rfl (fun j _ => ?_) (fun i hi => ⟨by rw [sht_3, if_neg hi], rfl⟩) (Or.inr rfl) ?_
    · rw [sht_1]
      by_cases z : j = s
      · rw [if_pos z, if_pos hm, z, s3]
      · rw [if_neg z]
    · unfold at3
      rw [sht_3, if_pos rfl]
      exact fun z => z.1 rfl
  | some to =>
    obtain ⟨l1, l2, l3⟩ := least_lv hk hl
    have hne : to ≠ p := fun e => h9 (by rw [← e]; exact l3)
    by_cases hc : A 4 (8 * d + q) ≠ 0 ∧ (A 4 (8 * d + q) - 1) / 32 = to
    · dsimp only
      simp only [if_pos hc]
      obtain ⟨r, hr⟩ : ∃ r, A 4 (8 * d + q) = r + 1 := ⟨A 4 (8 * d + q) - 1, by omega⟩
      have hrt : r / 32 = to := by have := hc.2; rw [hr, Nat.add_sub_cancel] at this; exact this
      obtain ⟨x0, x1, x2, x3⟩ := hg.2.2.2.1 r hr
      rw [hr, Nat.add_sub_cancel]
      refine fin _ (gC_brO hI.1 hid hs hr (by rw [hrt]; exact l3)) ?_ ?_ (fun j _ => ?_) (fun i hi => ⟨?_, ?_⟩) (Or.inl ?_) ?_
      · rw [qend_g (by decide) (by decide), holds_g (by decide) (by decide) (by decide), noOld_g (by decide) (by decide), leaves_g (by decide) (by decide) (by decide)]
      · rw [qend_g (by decide) (by decide), holds_g (by decide) (by decide) (by decide), noOld_g (by decide) (by decide), leaves_g (by decide) (by decide) (by decide)]
      · rw [qend_g (by decide) (by decide), holds_at.2.1, rel_1]
        by_cases z : j = r
        · rw [if_pos z, z, x3]
        · rw [if_neg z]
          by_cases w : j = s
          · rw [if_pos w, if_pos hm, w, s3]
          · rw [if_neg w]
      · rw [qend_g (by decide) (by decide), holds_at.2.2, if_neg hi, noOld_g (by decide) (by decide), leaves_g (by decide) (by decide) (by decide)]
      · rw [qend_g (by decide) (by decide), holds_g (by decide) (by decide) (by decide), rel_4, if_neg hi]
      · rw [qend_g (by decide) (by decide), holds_g (by decide) (by decide) (by decide), rel_4, if_pos rfl]
      · unfold at3
        rw [qend_g (by decide) (by decide), holds_at.2.2, if_pos rfl, Nat.add_sub_cancel, hrt]
        exact fun z => hne z.2
    · dsimp only
      simp only [if_neg hc]
      obtain ⟨v, hv⟩ := hqok to hl hc
      obtain ⟨v1, v2, v3⟩ := resv_some hv
      rw [hv]
      show (gI b p (aQend (aLeaves b A (8 * d + q) s) d (8 * d + q) (32 * to + v) (A 2 s)) ∧ aQend (aLeaves b A (8 * d + q) s) d (8 * d + q) (32 * to + v) (A 2 s) 9 = A 9) ∧ aw p A (aQend (aLeaves b A (8 * d + q) s) d (8 * d + q) (32 * to + v) (A 2 s)) (fun i => i = 8 * d + q) ∧ ¬ at3 p (aQend (aLeaves b A (8 * d + q) s) d (8 * d + q) (32 * to + v) (A 2 s)) (8 * d + q)
      have hne2 : 32 * to + v ≠ s := fun e => hne (by omega)
      obtain ⟨e0, e1, _⟩ := leaves_0 (b := b) (A := A) (id := 8 * d + q) hne2
      rw [e0] at v2
      rw [e1] at v3
      have ec : (32 * to + v) / 32 = to := by omega
      refine fin _ (gC_brR hI.1 hid hs (kIn_of hk l1 v1) (by omega) (by rw [ec]; exact l3) v2 v3 (fun r hr e => hc ⟨by omega, by rw [hr, Nat.add_sub_cancel, ← e, ec]⟩)) ?_ ?_ (fun j _ => ?_) (fun i hi => ⟨?_, ?_⟩) (Or.inr ?_) ?_
      · rw [qend_g (by decide) (by decide), holds_g (by decide) (by decide) (by decide), leaves_g (by decide) (by decide) (by decide)]
      · rw [qend_g (by decide) (by decide), holds_g (by decide) (by decide) (by decide), leaves_g (by decide) (by decide) (by decide)]
      · rw [qend_g (by decide) (by decide), holds_at.2.1, lv_1]
        by_cases z : j = 32 * to + v
        · rw [if_pos z, z, v3]
        · rw [if_neg z]
          by_cases w : j = s
          · rw [if_pos w, if_pos hm, w, s3]
          · rw [if_neg w]
      · rw [qend_g (by decide) (by decide), holds_at.2.2, if_neg hi, leaves_g (by decide) (by decide) (by decide)]
      · rw [qend_g (by decide) (by decide), holds_g (by decide) (by decide) (by decide), leaves_g (by decide) (by decide) (by decide)]
      · rw [qend_g (by decide) (by decide), holds_g (by decide) (by decide) (by decide), leaves_g (by decide) (by decide) (by decide)]
      · unfold at3
        rw [qend_g (by decide) (by decide), holds_at.2.2, if_pos rfl, Nat.add_sub_cancel, ec]
        exact fun z => hne z.2
end INV6
