/-! ===== the class: START of what is DEALT ===== -/
theorem mj_up_self {α : Type} {f : Nat → Nat → α} {a j : Nat} {x : α} (h : f a j = x) : mj_up f a j x = f := by
  funext c k
  unfold mj_up
  split
  · rename_i q; rw [q.1, q.2]; exact h.symm
  · rfl
theorem mj_up_com {α : Type} {f : Nat → Nat → α} {a j c k : Nat} {x y : α} (h : a ≠ c) : mj_up (mj_up f a j x) c k y = mj_up (mj_up f c k y) a j x := by
  funext e m
  unfold mj_up
  by_cases h1 : e = c ∧ m = k
  · rw [if_pos h1, if_neg (fun q => h (q.1.symm.trans h1.1)), if_pos h1]
  · rw [if_neg h1]
    by_cases h2 : e = a ∧ m = j
    · rw [if_pos h2, if_pos h2]
    · rw [if_neg h2, if_neg h2, if_neg h1]
theorem cntN_up {P S : Nat → Bool} {n v : Nat} (hv : v < n) (h : ∀ k, k < n → k ≠ v → S k = P k) : cntN S n + (if P v = true then 1 else 0) = cntN P n + (if S v = true then 1 else 0) := by
  induction n with
  | zero => omega
  | succ n ih =>
    unfold cntN
    by_cases e : v = n
    · subst e
      rw [cntN_cong (P := S) (S := P) (fun k hk => h k (by omega) (by omega))]
      omega
    · have := ih (by omega) (fun k hk => h k (by omega))
      rw [h n (by omega) (by omega)]
      omega
theorem sumN_up {f g : Nat → Nat} {n v : Nat} (hv : v < n) (h : ∀ k, k < n → k ≠ v → g k = f k) : sumN g n + f v = sumN f n + g v := by
  induction n with
  | zero => omega
  | succ n ih =>
    unfold sumN
    by_cases e : v = n
    · subst e
      rw [sumN_cong (f := g) (g := f) (fun k hk => h k (by omega) (by omega))]
      omega
    · have := ih (by omega) (fun k hk => h k (by omega))
      rw [h n (by omega) (by omega)]
      omega
theorem sumN_ge {f : Nat → Nat} {n v : Nat} (hv : v < n) : f v ≤ sumN f n := by
  induction n with
  | zero => omega
  | succ n ih =>
    unfold sumN
    by_cases e : v = n
    · subst e; omega
    · have := ih (by omega); omega
theorem cnt_all {P : Nat → Bool} {n : Nat} (h : ∀ k, k < n → P k = true) : cntN P n = n := by
  induction n with
  | zero => rfl
  | succ n ih => unfold cntN; rw [ih (fun k hk => h k (by omega)), h n (by omega)]; rfl
theorem cnt_blk {P : Nat → Bool} {n s N : Nat} (h : ∀ k, k < n → P (s + k) = true) (hN : s + n ≤ N) : n ≤ cntN P N := by
  rw [show N = s + (n + (N - s - n)) by omega, cntN_add, cntN_add, cnt_all (P := fun k => P (s + k)) h]
  omega
/-- how many of a kind, as a place's kind changes -/
theorem cnt_k {b A : St} {k s t p : Nat} (hv : k % 32 < b 0 1) (hb : b 0 1 ≤ 32) : aCnt b (mj_up A 0 k s) p t + (if p = k / 32 ∧ A 0 k = t then 1 else 0) = aCnt b A p t + (if p = k / 32 ∧ s = t then 1 else 0) := by
  have ek : 32 * (k / 32) + k % 32 = k := by omega
  unfold aCnt
  by_cases hp : p = k / 32
  · subst hp
    have := cntN_up (P := fun v => A 0 (32 * (k / 32) + v) == t) (S := fun v => mj_up A 0 k s 0 (32 * (k / 32) + v) == t) hv (fun u hu hne => by
      show (mj_up A 0 k s 0 (32 * (k / 32) + u) == t) = _
      rw [mj_up_ne2 (by omega)])
    simp only [ek, mj_up_eq, beq_iff_eq] at this
    simp only [true_and]
    exact this
  · rw [if_neg (fun q => hp q.1), if_neg (fun q => hp q.1)]
    have : cntN (fun v => mj_up A 0 k s 0 (32 * p + v) == t) (b 0 1) = cntN (fun v => A 0 (32 * p + v) == t) (b 0 1) := cntN_cong (fun u hu => by rw [mj_up_ne2 (by omega)])
    rw [this]
theorem aCnt_A {b A A' : St} {p s : Nat} (h : A' 0 = A 0) : aCnt b A' p s = aCnt b A p s := by unfold aCnt; rw [h]
theorem aFree_A {b A A' : St} (h : A' 0 = A 0) (h9 : A' 9 = A 9) : aFree b A' = aFree b A := by unfold aFree; rw [h9]; exact sumN_cong (fun p _ => by rw [aCnt_A h])
theorem aLoad_A {b A A' : St} (h : A' 0 = A 0) : aLoad b A' = aLoad b A := by funext p; unfold aLoad; rw [aCnt_A h, aCnt_A h]
theorem aBlk_A {b A A' : St} {p n : Nat} (h : A' 0 = A 0) : aBlk b A' p n = aBlk b A p n := by
  unfold aBlk
  have : aBl A' p n = aBl A p n := by funext i; unfold aBl; rw [h]
  rw [this]
theorem aDealt_A {b A A' : St} {n set : Nat} (h : A' 0 = A 0) (h9 : A' 9 = A 9) : aDealt b A' n set = aDealt b A n set := by
  unfold aDealt
  rw [aLoad_A h]
  refine lstN_congr (fun p hp => ?_) (fun _ _ _ => rfl)
  unfold aDP
  rw [h9, aBlk_A h]
theorem aDl_A {b A A' : St} {n set : Nat} (h : A' 0 = A 0) (h9 : A' 9 = A 9) : aDl b A' set n = aDl b A set n := by
  unfold aDl
  rw [aDealt_A h h9]
  congr 1
  funext p
  rw [aBlk_A h]
/-- a FREE VECTOR that there is on a CPU that is ONLINE becomes something else: one FREE one less -/
theorem free_1 {b A : St} {k s : Nat} (hk : bOK b) (hp : k / 32 < b 0 0) (hv : k % 32 < b 0 1) (h0 : A 0 k = 0) (h9 : A 9 (k / 32) = 1) (hs : s ≠ 0) : aFree b (mj_up A 0 k s) + 1 = aFree b A := by
  unfold aFree
  have h1 := sumN_up (f := fun p => if A 9 p = 1 then aCnt b A p 0 else 0) (g := fun p => if mj_up A 0 k s 9 p = 1 then aCnt b (mj_up A 0 k s) p 0 else 0) hp (fun p hp2 hne => by
    show (if mj_up A 0 k s 9 p = 1 then aCnt b (mj_up A 0 k s) p 0 else 0) = _
    rw [mj_up_ne (by decide)]
    have h2 := cnt_k (A := A) (s := s) (t := 0) (p := p) hv hk.2.1.2
    rw [if_neg (fun q => hne q.1), if_neg (fun q => hne q.1)] at h2
    rw [show aCnt b (mj_up A 0 k s) p 0 = aCnt b A p 0 by omega])
  have h2 := cnt_k (A := A) (s := s) (t := 0) (p := k / 32) hv hk.2.1.2
  rw [if_pos ⟨rfl, h0⟩, if_neg (fun q => hs q.2)] at h2
  have e1 : (if mj_up A 0 k s 9 (k / 32) = 1 then aCnt b (mj_up A 0 k s) (k / 32) 0 else 0) = aCnt b (mj_up A 0 k s) (k / 32) 0 := by rw [mj_up_ne (by decide), if_pos h9]
  have e2 : (if A 9 (k / 32) = 1 then aCnt b A (k / 32) 0 else 0) = aCnt b A (k / 32) 0 := if_pos h9
  have h3 : sumN (fun p => if mj_up A 0 k s 9 p = 1 then aCnt b (mj_up A 0 k s) p 0 else 0) (b 0 0) + (if A 9 (k / 32) = 1 then aCnt b A (k / 32) 0 else 0) = sumN (fun p => if A 9 p = 1 then aCnt b A p 0 else 0) (b 0 0) + (if mj_up A 0 k s 9 (k / 32) = 1 then aCnt b (mj_up A 0 k s) (k / 32) 0 else 0) := h1
  rw [e1, e2] at h3
  omega
theorem holds_0 {A : St} {id p : Nat} : aHolds A id p 0 = mj_up A 0 p 2 0 := by
  unfold aHolds aSets
  rw [up_f (by decide), up_f (by decide)]
theorem holds_g {A : St} {id p g : Nat} (h0 : g ≠ 0) (h1 : g ≠ 1) (h3 : g ≠ 3) : aHolds A id p g = A g := by
  unfold aHolds aSets
  rw [up_f h3, up_f h1, up_f h0]
/-- what is DEALT -/
theorem dl_some {b A : St} {set n pl : Nat} (hk : bOK b) (hn : 1 ≤ n ∧ n ≤ 8) (h : aDl b A set n = some pl) : ∃ p q, aDealt b A n set = some p ∧ aBlk b A p n = some q ∧ pl = 32 * p + n * q ∧ p < b 0 0 ∧ A 9 p = 1 ∧ n * q + n ≤ b 0 1 ∧ ∀ l, l < n → A 0 (pl + l) = 0 := by
  unfold aDl at h
  cases hd : aDealt b A n set with
  | none => rw [hd] at h; cases h
  | some p =>
    rw [hd] at h
    have hp := lstN_lt hd
    have hdp := hp.2
    unfold aDP at hdp
    rw [Bool.and_eq_true, Bool.and_eq_true, beq_iff_eq] at hdp
    obtain ⟨q, hq⟩ := Option.isSome_iff_exists.mp hdp.2
    have hql := aBlk_lt hn.1 hq
    have hpl : pl = 32 * p + n * q := by
      have h' : some (32 * p + n * (aBlk b A p n).getD 0) = some pl := h
      rw [hq] at h'
      exact (Option.some.inj h').symm
    refine ⟨p, q, rfl, hq, hpl, hp.1, hdp.1.2, hql.1, fun l hl => ?_⟩
    have hb := (ffi_some hq).2.2
    unfold aBl at hb
    rw [allN_iff] at hb
    have := hb l hl
    rw [beq_iff_eq] at this
    rw [hpl, Nat.add_assoc]
    exact this
theorem putD_0 {d pl : Nat} {A : St} {l m : Nat} (hl : m ≤ l) : itN (aPutD d pl) m A 0 (pl + l) = A 0 (pl + l) := by
  induction m with
  | zero => rfl
  | succ m ih =>
    show aHolds (itN (aPutD d pl) m A) (8 * d + m) (pl + m) 0 (pl + l) = _
    rw [holds_0, mj_up_ne2 (by omega)]
    exact ih (by omega)
theorem putD_g {d pl g : Nat} {A : St} {m : Nat} (h0 : g ≠ 0) (h1 : g ≠ 1) (h3 : g ≠ 3) : itN (aPutD d pl) m A g = A g := by
  induction m with
  | zero => rfl
  | succ m ih =>
    show aHolds (itN (aPutD d pl) m A) (8 * d + m) (pl + m) g = _
    rw [holds_g h0 h1 h3]; exact ih
theorem putD_9 {d pl : Nat} {A : St} {m : Nat} : itN (aPutD d pl) m A 9 = A 9 := by
  induction m with
  | zero => rfl
  | succ m ih =>
    show aHolds (itN (aPutD d pl) m A) (8 * d + m) (pl + m) 9 = _
    rw [holds_g (by decide) (by decide) (by decide)]; exact ih
theorem free_n {b A : St} {d p s n : Nat} (hk : bOK b) (hp : p < b 0 0) (hs : s + n ≤ b 0 1) (h9 : A 9 p = 1) (h0 : ∀ l, l < n → A 0 (32 * p + s + l) = 0) : ∀ m, m ≤ n → aFree b (itN (aPutD d (32 * p + s)) m A) + m = aFree b A := by
  have h32 := hk.2.1.2
  intro m
  induction m with
  | zero => intro _; rfl
  | succ m ih =>
    intro hm
    have h1 := ih (by omega)
    have e1 : (32 * p + s + m) / 32 = p := by omega
    have e2 : (32 * p + s + m) % 32 = s + m := by omega
    have h2 := free_1 (A := itN (aPutD d (32 * p + s)) m A) (k := 32 * p + s + m) (s := 2) hk (by rw [e1]; exact hp) (by rw [e2]; omega) (by rw [putD_0 (Nat.le_refl m)]; exact h0 m (by omega)) (by rw [e1, putD_9]; exact h9) (by decide)
    have e3 : aFree b (itN (aPutD d (32 * p + s)) (m + 1) A) = aFree b (mj_up (itN (aPutD d (32 * p + s)) m A) 0 (32 * p + s + m) 2) := by
      refine aFree_A ?_ ?_
      · show aHolds (itN (aPutD d (32 * p + s)) m A) (8 * d + m) (32 * p + s + m) 0 = _
        exact holds_0
      · show aHolds (itN (aPutD d (32 * p + s)) m A) (8 * d + m) (32 * p + s + m) 9 = _
        rw [holds_g (by decide) (by decide) (by decide), up_f (by decide)]
    rw [e3]
    omega
/-- a DEVICE that begins has nothing yet -/
def clrD (A : St) (d : Nat) : Prop := ∀ k, k < 8 → A 3 (8 * d + k) = 0 ∧ A 4 (8 * d + k) = 0 ∧ A 5 (8 * d + k) = 0 ∧ A 6 (8 * d + k) = 0
theorem st0_e {A : St} {d : Nat} (h : clrD A d) : aSt0 A d = mj_up (mj_up A 7 d 1) 8 d 0 := by
  unfold aSt0
  have key : ∀ m, m ≤ 8 → itN (fun k A => aClr A (8 * d + k)) m (mj_up (mj_up A 7 d 1) 8 d 0) = mj_up (mj_up A 7 d 1) 8 d 0 := by
    intro m
    induction m with
    | zero => intro _; rfl
    | succ m ih =>
      intro hm
      show aClr (itN (fun k A => aClr A (8 * d + k)) m (mj_up (mj_up A 7 d 1) 8 d 0)) (8 * d + m) = _
      rw [ih (by omega)]
      obtain ⟨h3, h4, h5, h6⟩ := h m (by omega)
      unfold aClr aNoOld
      have e3 : mj_up (mj_up (mj_up A 7 d 1) 8 d 0) 3 (8 * d + m) 0 = mj_up (mj_up A 7 d 1) 8 d 0 := mj_up_self (by rw [mj_up_ne (by decide), mj_up_ne (by decide)]; exact h3)
      have e4 : mj_up (mj_up (mj_up A 7 d 1) 8 d 0) 4 (8 * d + m) 0 = mj_up (mj_up A 7 d 1) 8 d 0 := mj_up_self (by rw [mj_up_ne (by decide), mj_up_ne (by decide)]; exact h4)
      have e5 : mj_up (mj_up (mj_up A 7 d 1) 8 d 0) 5 (8 * d + m) 0 = mj_up (mj_up A 7 d 1) 8 d 0 := mj_up_self (by rw [mj_up_ne (by decide), mj_up_ne (by decide)]; exact h5)
      have e6 : mj_up (mj_up (mj_up A 7 d 1) 8 d 0) 6 (8 * d + m) 0 = mj_up (mj_up A 7 d 1) 8 d 0 := mj_up_self (by rw [mj_up_ne (by decide), mj_up_ne (by decide)]; exact h6)
      rw [e3, e4, e5, e6]
  exact key 8 (Nat.le_refl _)
theorem holds_com {A : St} {id p f j x : Nat} (h0 : f ≠ 0) (h1 : f ≠ 1) (h3 : f ≠ 3) : aHolds (mj_up A f j x) id p = mj_up (aHolds A id p) f j x := by
  unfold aHolds aSets
  rw [mj_up_com h0, mj_up_com h1, mj_up_com h3]
theorem putD_com {A : St} {d pl f j x : Nat} (h0 : f ≠ 0) (h1 : f ≠ 1) (h3 : f ≠ 3) (m : Nat) : itN (aPutD d pl) m (mj_up A f j x) = mj_up (itN (aPutD d pl) m A) f j x := by
  induction m with
  | zero => rfl
  | succ m ih =>
    show aHolds (itN (aPutD d pl) m (mj_up A f j x)) (8 * d + m) (pl + m) = mj_up (aHolds (itN (aPutD d pl) m A) (8 * d + m) (pl + m)) f j x
    rw [ih, holds_com h0 h1 h3]
theorem prom_d {b A : St} {d : Nat} (hd : d < b 0 2) : aProm b (mj_up A 8 d 0) + (if A 8 d = 1 then b 2 d else 0) = aProm b A := by
  unfold aProm
  have := sumN_up (f := fun e => if A 8 e = 1 then b 2 e else 0) (g := fun e => if mj_up A 8 d 0 8 e = 1 then b 2 e else 0) hd (fun e he hne => by
    show (if mj_up A 8 d 0 8 e = 1 then b 2 e else 0) = _
    rw [mj_up_ne2 hne])
  have h2 : sumN (fun e => if mj_up A 8 d 0 8 e = 1 then b 2 e else 0) (b 0 2) + (if A 8 d = 1 then b 2 d else 0) = sumN (fun e => if A 8 e = 1 then b 2 e else 0) (b 0 2) + (if mj_up A 8 d 0 8 d = 1 then b 2 d else 0) := this
  rw [mj_up_eq, if_neg (show ¬ (0:Nat) = 1 by decide)] at h2
  exact h2
theorem aProm_A {b A A' : St} (h : A' 8 = A 8) : aProm b A' = aProm b A := by unfold aProm; rw [h]
/-- START of what is DEALT, as the class does it -/
theorem start_d {b A : St} {d : Nat} (hk : bOK b) (hd : d < b 0 2) (h7 : A 7 d ≠ 1) (h3 : b 1 d ≠ 3) (hc : clrD A d) : aStart b A d = (match aDl b A (b 3 d) (b 2 d) with
    | none => (1, A)
    | some pl => if aFree b A - b 2 d < aProm b A - (if A 8 d = 1 then b 2 d else 0) then (2, A) else (0, mj_up (mj_up (itN (aPutD d pl) (b 2 d) A) 7 d 1) 8 d 0)) := by
  have hs := hk.2.2.2 d hd
  have e0 : mj_up (mj_up A 7 d 1) 8 d 0 0 = A 0 := by rw [up_f (by decide), up_f (by decide)]
  have e9 : mj_up (mj_up A 7 d 1) 8 d 0 9 = A 9 := by rw [up_f (by decide), up_f (by decide)]
  unfold aStart
  rw [if_neg h7, if_neg h3, st0_e hc]
  unfold aStD
  rw [aDealt_A e0 e9]
  cases hdl : aDl b A (b 3 d) (b 2 d) with
  | none =>
    have : aDealt b A (b 2 d) (b 3 d) = none := by
      unfold aDl at hdl
      cases hz : aDealt b A (b 2 d) (b 3 d) with
      | none => rfl
      | some p => rw [hz] at hdl; cases hdl
    rw [this]
    rfl
  | some pl =>
    obtain ⟨p, q, g1, g2, g3, g4, g5, g6, g7⟩ := dl_some hk hs.2.1 hdl
    rw [g1, Option.map_some, aBlk_A e0, g2]
    show (if aFree b (itN (aPutD d (32 * p + b 2 d * q)) (b 2 d) (mj_up (mj_up A 7 d 1) 8 d 0)) < aProm b (itN (aPutD d (32 * p + b 2 d * q)) (b 2 d) (mj_up (mj_up A 7 d 1) 8 d 0)) then (2, A) else (0, itN (aPutD d (32 * p + b 2 d * q)) (b 2 d) (mj_up (mj_up A 7 d 1) 8 d 0))) = _
    rw [← g3]
    have hF : aFree b (itN (aPutD d pl) (b 2 d) A) + b 2 d = aFree b A := by
      rw [g3]
      exact free_n hk g4 g6 g5 (fun l hl => by rw [← g3]; exact g7 l hl) (b 2 d) (Nat.le_refl _)
    rw [putD_com (by decide) (by decide) (by decide), putD_com (by decide) (by decide) (by decide)]
    have e1 : aFree b (mj_up (mj_up (itN (aPutD d pl) (b 2 d) A) 7 d 1) 8 d 0) = aFree b (itN (aPutD d pl) (b 2 d) A) := aFree_A (by rw [up_f (by decide), up_f (by decide)]) (by rw [up_f (by decide), up_f (by decide)])
    have e8 : itN (aPutD d pl) (b 2 d) A 8 = A 8 := putD_g (by decide) (by decide) (by decide)
    have e2 : aProm b (mj_up (mj_up (itN (aPutD d pl) (b 2 d) A) 7 d 1) 8 d 0) = aProm b (mj_up A 8 d 0) := by
      refine aProm_A ?_
      funext k
      by_cases ek : k = d
      · rw [ek, mj_up_eq, mj_up_eq]
      · rw [mj_up_ne2 ek, mj_up_ne (by decide), mj_up_ne2 ek, e8]
    have hP := prom_d (A := A) hd
    rw [e1, e2]
    have ec : (aFree b (itN (aPutD d pl) (b 2 d) A) < aProm b (mj_up A 8 d 0)) ↔ (aFree b A - b 2 d < aProm b A - (if A 8 d = 1 then b 2 d else 0)) := by omega
    by_cases hcc : aFree b A - b 2 d < aProm b A - (if A 8 d = 1 then b 2 d else 0)
    · rw [if_pos (ec.mpr hcc)]
      exact (if_pos hcc).symm
    · rw [if_neg (fun z => hcc (ec.mp z))]
      exact (if_neg hcc).symm
