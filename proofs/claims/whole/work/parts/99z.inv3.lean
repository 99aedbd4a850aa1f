/-! ===== acts that keep it: claim(), RAISE, TICK, STOP ===== -/
theorem itN_ind {P : Nat → St → Prop} {f : Nat → St → St} {n : Nat} {A : St} (h0 : P 0 A) (hs : ∀ k B, k < n → P k B → P (k + 1) (f k B)) : ∀ m, m ≤ n → P m (itN f m A) := by
  intro m
  induction m with
  | zero => intro _; exact h0
  | succ m ih => intro hm; exact hs m _ (by omega) (ih (by omega))
/-- what QUEUES have of VECTORS, and DEVICES that are DEALT, stays -/
def kp (b A B : St) : Prop := (∀ k, k < 256 → A 1 k ≠ 0 → b 1 ((A 1 k - 1) / 8) = 3 → B 1 k = A 1 k) ∧ (∀ d j, d < b 0 2 → b 1 d ≠ 3 → j < b 2 d → B 3 (8 * d + j) = A 3 (8 * d + j)) ∧ B 7 = A 7
section INV3
variable {b A B C A' : St} {p0 p1 : Nat} {fl : Bool}
theorem kp.rf : kp b A A := ⟨fun _ _ _ _ => rfl, fun _ _ _ _ _ => rfl, rfl⟩
theorem kp.tr (h : kp b A B) (h2 : kp b B C) : kp b A C := ⟨fun k hk h1 h3 => by
  have e := h.1 k hk h1 h3
  rw [h2.1 k hk (by rw [e]; exact h1) (by rw [e]; exact h3), e], fun d j hd h3 hj => (h2.2.1 d j hd h3 hj).trans (h.2.1 d j hd h3 hj), h2.2.2.trans h.2.2⟩
theorem kp_of (h1 : B 1 = A 1) (h3 : B 3 = A 3) (h7 : B 7 = A 7) : kp b A B := ⟨fun k _ _ _ => by rw [h1], fun d j _ _ _ => by rw [h3], h7⟩
theorem gI_kp (hk : bOK b) (hI : gI b p0 A) (hC : gC b p1 true B) (h : kp b A B) : gI b p1 B := by
  refine ⟨hC, fun d hd h7 => ?_⟩
  rw [h.2.2] at h7
  obtain ⟨g1, g2⟩ := hI.2 d hd h7
  refine ⟨fun h3 => ?_, fun h3 => ?_⟩
  · exact gM_keep hk hd (fun k q1 q2 q3 => h.1 k q1 q2 (by rw [q3]; exact h3)) g1 h3
  · exact gG_keep (fun j hj => h.2.1 d j hd h3 hj) g2 h3
theorem merge_g {e f : Nat} (hf : f < 10) : aMerge A e f = A f := by
  unfold aMerge
  rw [up_f (by omega), up_f (by omega)]
theorem gC_pends {id q e : Nat} (hC : gC b p0 fl A) (hid : id < 80) (hq : q < 256) (ho : A 1 q = id + 1) (h0 : A 0 q = 2 ∨ A 0 q = 3) : gC b p0 fl (aPends A e q) := by
  unfold aPends
  split
  · exact gC_cong (fun f hf => merge_g hf) hC
  · exact gC_pend hC hid hq ho h0 (by decide) (Or.inl rfl)
theorem pends_g {e q f : Nat} (hf : f < 10) (h2 : f ≠ 2) : aPends A e q f = A f := by
  unfold aPends
  split
  · exact merge_g hf
  · exact up_f h2
theorem gI_pends {id q e : Nat} (hk : bOK b) (hI : gI b p0 A) (hid : id < 80) (hq : q < 256) (ho : A 1 q = id + 1) (h0 : A 0 q = 2 ∨ A 0 q = 3) : gI b p0 (aPends A e q) :=
  gI_kp hk hI (gC_pends hI.1 hid hq ho h0) (kp_of (pends_g (by decide) (by decide)) (pends_g (by decide) (by decide)) (pends_g (by decide) (by decide)))
theorem gC_wait {id x : Nat} (hC : gC b p0 fl A) (hlo : lOK b A id) (hid : id < 80) (hx : x < 2) : gC b p0 fl (mj_up A 6 id x) := by
  have hg := hC.2.1 id hid
  exact gC_op (id0 := id) (fun _ => False) hC rfl rfl rfl hlo (fun f _ _ i hi => mj_up_ne2 hi) (fun k _ _ => ⟨rfl, rfl, rfl⟩) (fun _ _ _ h => h) (fun _ _ _ h => h) (fun _ _ h => False.elim h) ⟨⟨hg.1.1, by rw [mj_up_eq]; exact hx⟩, fun h => absurd hlo h, hg.2.2⟩
theorem gI_claim {d : Nat} (hI : gI b p0 A) (hd : d < b 0 2) : gI b p0 (aClaim b A d).2 := by
  unfold aClaim
  split
  · exact hI
  · rename_i hn
    split
    · exact hI
    · exact ⟨gC_pr hI.1 hd (fun q => hn (Or.inr (Or.inr q))), hI.2⟩
theorem gI_raise {d k : Nat} {late : Bool} (hk : bOK b) (hI : gI b p0 A) (hd : d < b 0 2) (h7 : A 7 d = 1) (hl : k < b 2 d) : gI b p0 (aRaise A d k late).2 := by
  have hlo := lOK_of (A := A) hk hd hl h7
  have hid := lOK_lt hk hlo
  have hg := hI.1.2.1 _ hid
  unfold aRaise
  split
  · rename_i h
    obtain ⟨x0, x1, x2, x3⟩ := hg.2.2.2.1 (A 4 (8 * d + k) - 1) (by omega)
    exact gI_pends hk hI hid x1 x3 (Or.inr x2)
  · split
    · rename_i h
      obtain ⟨x1, x2, x3⟩ := hg.2.2.1 (A 3 (8 * d + k) - 1) (by omega)
      exact gI_pends hk hI hid x1 x3 (Or.inl x2)
    · split
      · exact gI_cong hk (fun f hf => merge_g hf) hI
      · exact ⟨gC_wait hI.1 hlo hid (by decide), hI.2⟩
theorem gC_aOK (hk : bOK b) (h : gC b p0 fl A) : aOK A := by
  refine ⟨fun k hk2 => ?_, fun i hi => ?_, fun d hd => ⟨(h.2.2.1 d hd).1, (h.2.2.1 d hd).2.1⟩, h.2.2.2⟩
  · obtain ⟨h2, v | ⟨w1, i, w2, w3, w4, w5⟩⟩ := h.1 k hk2
    · exact ⟨by omega, by omega, h2⟩
    · have := lOK_lt hk w3
      refine ⟨?_, by omega, h2⟩
      rcases w4 with w | w | w <;> omega
  · obtain ⟨h1, h3, h4, h5, h6, h7⟩ := h.2.1 i hi
    refine ⟨?_, ?_, h1.1, h1.2⟩
    · by_cases z : A 3 i = 0
      · omega
      · have := (h4 (A 3 i - 1) (by omega)).1
        omega
    · by_cases z : A 4 i = 0
      · omega
      · have := (h5 (A 4 i - 1) (by omega)).2.1
        omega
theorem gC_pOK (h : gC b p0 fl A) : pOK A := by
  refine ⟨fun k hk h2 => ?_, fun i hi h5 => ?_⟩
  · obtain ⟨_, v | ⟨w1, i, w2, w3, w4⟩⟩ := h.1 k hk
    · omega
    · omega
  · obtain ⟨q, q1, _⟩ := (h.2.1 i hi).2.2.2.2.1 h5
    omega
/-- what is PENDING is HELD, or OLD -/
theorem gC_pk {k : Nat} (hk : bOK b) (h : gC b p0 fl A) (h256 : k < 256) (h2 : A 2 k = 1) : ∃ i, i < 80 ∧ A 1 k = i + 1 ∧ kIn b k ∧ lOK b A i ∧ ((A 0 k = 2 ∧ A 3 i = k + 1) ∨ (A 0 k = 3 ∧ A 4 i = k + 1)) := by
  obtain ⟨_, v | ⟨w1, i, w2, w3, w4, w5⟩⟩ := h.1 k h256
  · omega
  · refine ⟨i, lOK_lt hk w3, w2, w1, w3, ?_⟩
    rcases w4 with w | w | w
    · exact Or.inl ⟨w.1, w.2.1⟩
    · exact Or.inr ⟨w.1, w.2.1⟩
    · omega
theorem gC_tI (hk : bOK b) (h : gC b p0 fl A) : tI b A := by
  refine ⟨gC_aOK hk h, gC_pOK h, fun k h256 h2 => ?_, fun i hi h4 => ?_, fun i hi h5 => ?_⟩
  · obtain ⟨i, i1, i2, i3, i4, i5⟩ := gC_pk hk h h256 h2
    have e : A 1 k - 1 = i := by omega
    rw [e]
    refine ⟨i3, ⟨i4.1, i4.2.1⟩, fun z => ?_, fun z => ?_⟩
    · rcases i5 with q | q
      · omega
      · exact q.2
    · exact ((h.2.1 i i1).2.2.2.1 k z).2.2.1
  · obtain ⟨x0, x1, x2, x3⟩ := (h.2.1 i hi).2.2.2.1 (A 4 i - 1) (by omega)
    exact ⟨⟨x1, (gV_own (h.1 _ x1) x3).2.1.2⟩, x3⟩
  · have := gL_ok (h.2.1 i hi) (Or.inr (Or.inr (Or.inl (by omega))))
    exact ⟨this.1, this.2.1⟩
theorem gI_dI (h : gC b p0 true A) : dI A := fun i hi h5 => by
  obtain ⟨q, q1, q2⟩ := (h.2.1 i hi).2.2.2.2.1 h5
  rw [q1, Nat.add_sub_cancel]
  exact q2 rfl
theorem gC_drn {id : Nat} (hC : gC b p0 false A) (hid : id < 80) (h4 : A 4 id ≠ 0) : gC b p0 false (mj_up A 5 id 1) := by
  have hg := hC.2.1 id hid
  have hlo := gL_ok hg (Or.inr (Or.inl h4))
  exact gC_op (id0 := id) (fun _ => False) hC rfl rfl rfl hlo (fun f _ _ i hi => mj_up_ne2 hi) (fun k _ _ => ⟨rfl, rfl, rfl⟩) (fun _ _ _ h => h) (fun _ _ _ h => h) (fun _ _ h => False.elim h) ⟨⟨by rw [mj_up_eq]; decide, hg.1.2⟩, fun h => absurd hlo h, hg.2.2.1, hg.2.2.2.1, fun _ => ⟨A 4 id - 1, by show A 4 id = _; omega, fun z => by cases z⟩, hg.2.2.2.2.2⟩
theorem gC_hand {p pl : Nat} (hk : bOK b) (hC : gC b p0 false A) (h256 : pl < 256) (h2 : A 2 pl = 1) : gC b p0 false (aHand A p pl) := by
  obtain ⟨i, i1, i2, i3, i4, i5⟩ := gC_pk hk hC h256 h2
  have e : A 1 pl - 1 = i := by omega
  have c1 : gC b p0 false (mj_up A 2 pl 0) := gC_pend hC i1 h256 i2 (by rcases i5 with q | q; exact Or.inl q.1; exact Or.inr q.1) (by decide) (Or.inr rfl)
  by_cases hc : A 0 pl ≠ 3 ∧ A 4 (A 1 pl - 1) ≠ 0
  · refine gC_cong (fun f hf => ?_) (gC_drn (id := A 1 pl - 1) c1 (by omega) hc.2)
    by_cases f2 : f = 2
    · subst f2; rw [hand_2]; rfl
    · by_cases f5 : f = 5
      · subst f5; rw [hand_5, if_pos hc]; rfl
      · rw [hand_g f2 f5 (by omega) (by omega) (by omega) (by omega), up_f f5, up_f f2]
  · refine gC_cong (fun f hf => ?_) c1
    by_cases f2 : f = 2
    · subst f2; rw [hand_2]
    · by_cases f5 : f = 5
      · subst f5; rw [hand_5, if_neg hc]; rfl
      · rw [hand_g f2 f5 (by omega) (by omega) (by omega) (by omega), up_f f2]
theorem gI_tick (hk : bOK b) (hI : gI b p0 A) : gI b p0 (aTick b A) := by
  have hc8 := hk.1.2
  have hv32 := hk.2.1.2
  have h10 := hk.2.2.1
  have s1 : gC b p0 false (aTick1 b A) ∧ kp b A (aTick1 b A) := itN_P (P := fun B => gC b p0 false B ∧ kp b A B) (n := b 0 0) ⟨gC_fl hI.1, kp.rf⟩ (fun p B hp hB => by
    show gC b p0 false (if B 9 p = 1 then aHandle b B p else B) ∧ kp b A (if B 9 p = 1 then aHandle b B p else B)
    split
    · unfold aHandle
      cases ht : aTop b B p with
      | none => exact hB
      | some v =>
        have hv := top_pend ht
        exact ⟨gC_hand hk hB.1 (by omega) hv.2, hB.2.tr (kp_of (hand_g (by decide) (by decide) (by decide) (by decide) (by decide) (by decide)) (hand_g (by decide) (by decide) (by decide) (by decide) (by decide) (by decide)) (hand_g (by decide) (by decide) (by decide) (by decide) (by decide) (by decide)))⟩
    · exact hB) (b 0 0) (Nat.le_refl _)
  have s2 : gC b p0 false (aDrain b (aTick1 b A)) ∧ kp b A (aDrain b (aTick1 b A)) := itN_P (P := fun B => gC b p0 false B ∧ kp b A B) (n := b 0 2) s1 (fun d B hd hB => itN_P (P := fun B => gC b p0 false B ∧ kp b A B) (n := b 2 d) hB (fun j D hj hD => by
    have h8 := (hk.2.2.2 d hd).2.1.2
    have hid : 8 * d + j < 80 := by omega
    show gC b p0 false (aDr1 b (8 * d + j) D) ∧ kp b A (aDr1 b (8 * d + j) D)
    unfold aDr1
    split
    · exact hD
    · rename_i hn
      have hg := hD.1.2.1 _ hid
      have h5 : D 5 (8 * d + j) = 1 := by
        have := hg.1.1
        have : D 5 (8 * d + j) ≠ 0 := fun z => hn (Or.inl z)
        omega
      obtain ⟨q, q1, _⟩ := hg.2.2.2.2.1 h5
      have eq : D 4 (8 * d + j) - 1 = q := by omega
      rw [eq]
      obtain ⟨x0, x1, x2, x3⟩ := hg.2.2.2.1 q q1
      refine ⟨gC_rel hD.1 hid q1, hD.2.tr ⟨fun k _ _ h3 => ?_, fun e i he h3 hi => rfl, rfl⟩⟩
      rw [rel_1]
      by_cases z : k = q
      · rw [if_pos z]
        rw [z, x3, Nat.add_sub_cancel] at h3
        rw [if_pos h3, z, x3]
      · rw [if_neg z]) (b 2 d) (Nat.le_refl _)) (b 0 2) (Nat.le_refl _)
  have hd := (tI_tick hk (gC_tI hk hI.1)).2
  have s3 : gC b p0 false (aTick b A) := gC_cong (fun f hf => up_f (by omega)) s2.1
  exact gI_kp hk hI (gC_tr s3 hd) (s2.2.tr (kp_of rfl rfl rfl))
theorem gI_ticks (hk : bOK b) (hI : gI b p0 A) (m : Nat) : gI b p0 (aTicks b m A) := itN_P (P := fun B => gI b p0 B) (n := m) hI (fun _ B _ hB => gI_tick hk hB) m (Nat.le_refl _)
theorem fr_at {d q : Nat} : (A 1 q ≠ 0 ∧ (A 1 q - 1) / 8 = d → aFr d q A 0 q = 0 ∧ aFr d q A 1 q = 0 ∧ aFr d q A 2 q = 0) ∧ (¬ (A 1 q ≠ 0 ∧ (A 1 q - 1) / 8 = d) → aFr d q A 0 q = A 0 q ∧ aFr d q A 1 q = A 1 q ∧ aFr d q A 2 q = A 2 q) := by
  refine ⟨fun h => ?_, fun h => ?_⟩
  · unfold aFr
    rw [if_pos h]
    simp [aSets, mj_up]
  · unfold aFr
    rw [if_neg h]
    exact ⟨rfl, rfl, rfl⟩
theorem fr_ne {d q k : Nat} (h : k ≠ q) : aFr d q A 0 k = A 0 k ∧ aFr d q A 1 k = A 1 k ∧ aFr d q A 2 k = A 2 k := by
  unfold aFr
  split
  · simp [aSets, mj_up, h]
  · exact ⟨rfl, rfl, rfl⟩
/-- a VECTOR behind STOP -/
def stV (A : St) (d k : Nat) (B : St) : Prop := (A 1 k ≠ 0 ∧ (A 1 k - 1) / 8 = d → B 0 k = 0 ∧ B 1 k = 0 ∧ B 2 k = 0) ∧ (¬ (A 1 k ≠ 0 ∧ (A 1 k - 1) / 8 = d) → B 0 k = A 0 k ∧ B 1 k = A 1 k ∧ B 2 k = A 2 k)
theorem stop1_V {d : Nat} (hk : bOK b) (hC : gC b p0 fl A) : ∀ k, k < 256 → stV A d k (aStop1 b d A) := by
  have hc8 := hk.1.2
  have hv32 := hk.2.1.2
  have key := itN_ind (P := fun m B => ∀ k, k < 256 → (k / 32 < m → k % 32 < b 0 1 → stV A d k B) ∧ (¬ (k / 32 < m ∧ k % 32 < b 0 1) → B 0 k = A 0 k ∧ B 1 k = A 1 k ∧ B 2 k = A 2 k)) (f := fun p A => itN (fun v A => aFr d (32 * p + v) A) (b 0 1) A) (n := b 0 0) (A := mj_up A 16 0 0) (fun k _ => ⟨fun h => absurd h (Nat.not_lt_zero _), fun _ => ⟨rfl, rfl, rfl⟩⟩) (fun p B hp hB => by
    have k2 := itN_ind (P := fun m D => ∀ k, k < 256 → ((k / 32 < p ∨ (k / 32 = p ∧ k % 32 < m)) → k % 32 < b 0 1 → stV A d k D) ∧ (¬ ((k / 32 < p ∨ (k / 32 = p ∧ k % 32 < m)) ∧ k % 32 < b 0 1) → D 0 k = A 0 k ∧ D 1 k = A 1 k ∧ D 2 k = A 2 k)) (f := fun v A => aFr d (32 * p + v) A) (n := b 0 1) (A := B) (fun k h256 => ⟨fun h h2 => (hB k h256).1 (by omega) h2, fun h => (hB k h256).2 (fun z => h ⟨Or.inl z.1, z.2⟩)⟩) (fun v D hv hD k h256 => by
      show ((k / 32 < p ∨ (k / 32 = p ∧ k % 32 < v + 1)) → k % 32 < b 0 1 → stV A d k (aFr d (32 * p + v) D)) ∧ (¬ ((k / 32 < p ∨ (k / 32 = p ∧ k % 32 < v + 1)) ∧ k % 32 < b 0 1) → aFr d (32 * p + v) D 0 k = A 0 k ∧ aFr d (32 * p + v) D 1 k = A 1 k ∧ aFr d (32 * p + v) D 2 k = A 2 k)
      by_cases e : k = 32 * p + v
      · obtain ⟨u0, u1, u2⟩ := (hD k h256).2 (by omega)
        refine ⟨fun _ _ => ?_, fun h => absurd ⟨Or.inr ⟨by omega, by omega⟩, by omega⟩ h⟩
        have hf := fr_at (A := D) (d := d) (q := 32 * p + v)
        rw [← e, u0, u1, u2] at hf
        rw [← e]
        exact hf
      · obtain ⟨f0, f1, f2⟩ := fr_ne (A := D) (d := d) e
        unfold stV
        rw [f0, f1, f2]
        exact ⟨fun h h2 => (hD k h256).1 (by omega) h2, fun h => (hD k h256).2 (by omega)⟩) (b 0 1) (Nat.le_refl _)
    intro k h256
    exact ⟨fun h h2 => (k2 k h256).1 (by omega) h2, fun h => (k2 k h256).2 (by omega)⟩) (b 0 0) (Nat.le_refl _)
  intro k h256
  by_cases hin : k / 32 < b 0 0 ∧ k % 32 < b 0 1
  · exact (key k h256).1 hin.1 hin.2
  · refine ⟨fun h => ?_, fun _ => (key k h256).2 hin⟩
    obtain ⟨_, v | ⟨w1, _⟩⟩ := hC.1 k h256
    · exact absurd v.1 h.1
    · exact absurd w1 hin
theorem clrW_at {i j : Nat} : (j = i → aClrW A i 3 j = 0 ∧ aClrW A i 4 j = 0 ∧ aClrW A i 5 j = 0 ∧ aClrW A i 6 j = 0) ∧ (j ≠ i → aClrW A i 3 j = A 3 j ∧ aClrW A i 4 j = A 4 j ∧ aClrW A i 5 j = A 5 j ∧ aClrW A i 6 j = A 6 j) := by
  refine ⟨fun h => ?_, fun h => ?_⟩
  · subst h; simp [aClrW, aNoOld, mj_up]
  · simp [aClrW, aNoOld, mj_up, h]
theorem clrW_g {i g : Nat} (h3 : g ≠ 3) (h4 : g ≠ 4) (h5 : g ≠ 5) (h6 : g ≠ 6) (h16 : g ≠ 16) : aClrW A i g = A g := by
  unfold aClrW aNoOld
  rw [up_f h5, up_f h4, up_f h3, up_f h6, up_f h16]
theorem stop2_L {d : Nat} : ∀ j, (j / 8 = d → aStop2 d A 3 j = 0 ∧ aStop2 d A 4 j = 0 ∧ aStop2 d A 5 j = 0 ∧ aStop2 d A 6 j = 0) ∧ (j / 8 ≠ d → aStop2 d A 3 j = A 3 j ∧ aStop2 d A 4 j = A 4 j ∧ aStop2 d A 5 j = A 5 j ∧ aStop2 d A 6 j = A 6 j) := by
  have key := itN_ind (P := fun m B => ∀ j, ((j / 8 = d ∧ j % 8 < m) → B 3 j = 0 ∧ B 4 j = 0 ∧ B 5 j = 0 ∧ B 6 j = 0) ∧ (¬ (j / 8 = d ∧ j % 8 < m) → B 3 j = A 3 j ∧ B 4 j = A 4 j ∧ B 5 j = A 5 j ∧ B 6 j = A 6 j)) (f := fun k A => aClrW A (8 * d + k)) (n := 8) (A := A) (fun j => ⟨fun h => absurd h.2 (Nat.not_lt_zero _), fun _ => ⟨rfl, rfl, rfl, rfl⟩⟩) (fun k B hk8 hB j => by
    show ((j / 8 = d ∧ j % 8 < k + 1) → aClrW B (8 * d + k) 3 j = 0 ∧ aClrW B (8 * d + k) 4 j = 0 ∧ aClrW B (8 * d + k) 5 j = 0 ∧ aClrW B (8 * d + k) 6 j = 0) ∧ (¬ (j / 8 = d ∧ j % 8 < k + 1) → aClrW B (8 * d + k) 3 j = A 3 j ∧ aClrW B (8 * d + k) 4 j = A 4 j ∧ aClrW B (8 * d + k) 5 j = A 5 j ∧ aClrW B (8 * d + k) 6 j = A 6 j)
    by_cases e : j = 8 * d + k
    · exact ⟨fun _ => clrW_at.1 e, fun h => absurd ⟨by omega, by omega⟩ h⟩
    · obtain ⟨f3, f4, f5, f6⟩ := (clrW_at (A := B)).2 e
      rw [f3, f4, f5, f6]
      exact ⟨fun h => (hB j).1 ⟨h.1, by omega⟩, fun h => (hB j).2 (fun z => h ⟨z.1, by omega⟩)⟩) 8 (Nat.le_refl _)
  intro j
  exact ⟨fun h => (key j).1 ⟨h, by omega⟩, fun h => (key j).2 (fun z => h z.1)⟩
theorem stop2_g {d g : Nat} (h3 : g ≠ 3) (h4 : g ≠ 4) (h5 : g ≠ 5) (h6 : g ≠ 6) (h16 : g ≠ 16) : aStop2 d A g = A g := itN_P (P := fun B => B g = A g) (n := 8) rfl (fun k B _ hB => (clrW_g h3 h4 h5 h6 h16).trans hB) 8 (Nat.le_refl _)
theorem gI_stop {d : Nat} (hk : bOK b) (hI : gI b p0 A) (hd : d < b 0 2) : gI b p0 (aStop b A d) := by
  have hV := stop1_V (d := d) hk hI.1
  have e3 : ∀ f, f < 10 → f ≠ 7 → aStop b A d f = aStop2 d (aStop1 b d A) f := fun f hf h7 => by
    unfold aStop aStop3
    rw [up_f (by omega), up_f (by omega), up_f h7]
  have e12 : ∀ f, f < 10 → f < 3 ∨ 6 < f → f ≠ 7 → aStop b A d f = aStop1 b d A f := fun f hf hg h7 => (e3 f hf h7).trans (stop2_g (by omega) (by omega) (by omega) (by omega) (by omega))
  have e0 : aStop b A d 0 = aStop1 b d A 0 := e12 0 (by decide) (by decide) (by decide)
  have e1 : aStop b A d 1 = aStop1 b d A 1 := e12 1 (by decide) (by decide) (by decide)
  have e2 : aStop b A d 2 = aStop1 b d A 2 := e12 2 (by decide) (by decide) (by decide)
  have e8 : aStop b A d 8 = A 8 := (e12 8 (by decide) (by decide) (by decide)).trans (stop1_g (by decide) (by decide) (by decide) (by decide))
  have e9 : aStop b A d 9 = A 9 := (e12 9 (by decide) (by decide) (by decide)).trans (stop1_g (by decide) (by decide) (by decide) (by decide))
  have e7 : ∀ e, aStop b A d 7 e = if e = d then 0 else A 7 e := fun e => by
    unfold aStop aStop3
    rw [up_f (show (7:Nat) ≠ 14 by decide), up_f (show (7:Nat) ≠ 12 by decide)]
    by_cases z : e = d
    · rw [if_pos z, z, mj_up_eq]
    · rw [if_neg z, mj_up_ne2 z, stop2_g (by decide) (by decide) (by decide) (by decide) (by decide), stop1_g (by decide) (by decide) (by decide) (by decide)]
  have hl : ∀ j, (j / 8 = d → aStop b A d 3 j = 0 ∧ aStop b A d 4 j = 0 ∧ aStop b A d 5 j = 0 ∧ aStop b A d 6 j = 0) ∧ (j / 8 ≠ d → aStop b A d 3 j = A 3 j ∧ aStop b A d 4 j = A 4 j ∧ aStop b A d 5 j = A 5 j ∧ aStop b A d 6 j = A 6 j) := fun j => by
    have h2 := stop2_L (A := aStop1 b d A) (d := d) j
    rw [e3 3 (by decide) (by decide), e3 4 (by decide) (by decide), e3 5 (by decide) (by decide), e3 6 (by decide) (by decide)]
    rw [stop1_g (b := b) (A := A) (d := d) (g := 3) (by decide) (by decide) (by decide) (by decide), stop1_g (b := b) (A := A) (d := d) (g := 4) (by decide) (by decide) (by decide) (by decide), stop1_g (b := b) (A := A) (d := d) (g := 5) (by decide) (by decide) (by decide) (by decide), stop1_g (b := b) (A := A) (d := d) (g := 6) (by decide) (by decide) (by decide) (by decide)] at h2
    exact h2
  have hlk : ∀ i, i / 8 ≠ d → (lOK b (aStop b A d) i ↔ lOK b A i) := fun i hi => by
    unfold lOK
    rw [e7, if_neg hi]
  have hsm : ∀ k i, k < 256 → A 1 k = i + 1 → i / 8 ≠ d → aStop b A d 0 k = A 0 k ∧ aStop b A d 1 k = A 1 k ∧ aStop b A d 2 k = A 2 k := fun k i hk2 h1 hi => by
    rw [e0, e1, e2]
    exact (hV k hk2).2 (fun z => hi (by have := z.2; rw [h1, Nat.add_sub_cancel] at this; exact this))
  refine ⟨⟨fun k h256 => ?_, fun i hi => ?_, fun e he => ?_, by rw [e9]; exact hI.1.2.2.2⟩, fun e he h7 => ?_⟩
  · obtain ⟨v1, v2⟩ := hI.1.1 k h256
    rcases v2 with v2 | ⟨w1, i, w2, w3, w4⟩
    · have := (hV k h256).2 (fun z => z.1 v2.1)
      unfold gV
      rw [e0, e1, e2, this.1, this.2.1, this.2.2]
      exact ⟨v1, Or.inl v2⟩
    · by_cases z : i / 8 = d
      · have := (hV k h256).1 ⟨by omega, by rw [w2, Nat.add_sub_cancel]; exact z⟩
        unfold gV
        rw [e0, e1, e2, this.1, this.2.1, this.2.2]
        exact ⟨by decide, Or.inl ⟨rfl, by decide, rfl⟩⟩
      · obtain ⟨s0, s1, s2⟩ := hsm k i h256 w2 z
        obtain ⟨l3, l4, _, _⟩ := (hl i).2 z
        refine ⟨by rw [s2]; exact v1, Or.inr ⟨w1, i, by rw [s1]; exact w2, (hlk i z).mpr w3, gW_keep w4 s0 s2 e9 (fun _ q => by rw [l3]; exact q) (fun _ q => by rw [l4]; exact q)⟩⟩
  · by_cases z : i / 8 = d
    · obtain ⟨l3, l4, l5, l6⟩ := (hl i).1 z
      unfold gL
      rw [l3, l4, l5, l6]
      exact ⟨⟨by decide, by decide⟩, fun _ => ⟨rfl, rfl, rfl, rfl⟩, fun q h => absurd h (by omega), fun q h => absurd h (by omega), fun h => absurd h (by decide), fun _ q r h => absurd h (by omega)⟩
    · obtain ⟨l3, l4, l5, l6⟩ := (hl i).2 z
      obtain ⟨g1, g3, g4, g5, g6, g7⟩ := hI.1.2.1 i hi
      unfold gL
      rw [l3, l4, l5, l6, hlk i z]
      refine ⟨g1, g3, fun q h => ?_, fun q h => ?_, fun h => ?_, g7⟩
      · obtain ⟨x1, x2, x3⟩ := g4 q h
        obtain ⟨s0, s1, _⟩ := hsm q i x1 x3 z
        rw [s0, s1]
        exact ⟨x1, x2, x3⟩
      · obtain ⟨x0, x1, x2, x3⟩ := g5 q h
        obtain ⟨s0, s1, _⟩ := hsm q i x1 x3 z
        rw [s0, s1]
        exact ⟨x0, x1, x2, x3⟩
      · obtain ⟨q, x0, x1⟩ := g6 h
        obtain ⟨_, y1, _, y3⟩ := g5 q x0
        exact ⟨q, x0, fun w => by rw [(hsm q i y1 y3 z).2.2]; exact x1 w⟩
  · obtain ⟨x1, x2, x3, x4⟩ := hI.1.2.2.1 e he
    unfold gB
    rw [e7, e8]
    refine ⟨?_, x2, x3, fun h => ?_⟩
    · split
      · decide
      · exact x1
    · split
      · rfl
      · exact x4 h
  · rw [e7] at h7
    by_cases z : e = d
    · rw [if_pos z] at h7; exact absurd h7 (by decide)
    · rw [if_neg z] at h7
      obtain ⟨g1, g2⟩ := hI.2 e he h7
      have h8 := (hk.2.2.2 e he).2.1.2
      refine ⟨gM_keep hk he (fun k q1 q2 q3 => ?_) g1, gG_keep (fun j hj => ((hl (8 * e + j)).2 (by omega)).1) g2⟩
      exact (hsm k (A 1 k - 1) q1 (by omega) (by omega)).2.1
end INV3
