/-! ===== words for counting, seeking; the state that acts change, as numbers ===== -/
section QE
variable {d : mj_D} {X : mj_X} {Q : Option Value → mj_H → Prop} {pc pc' : Nat} {L : List (Option Value)} {st : List Value} {z : Nat} {I : mj_M} {J : mj_J} {R : mj_R}
theorem q_getIe {a ci k idx : Nat} {x : Int32} (hd : decode d.1 pc = .ok (.getfield idx, 3)) (hp : pc + 3 = pc') (hlk : mj_flr d.2.1 idx ci k) (ha : mj_ok z a ci) (hs : mj_st ci k = 0) (hx : I a k = x) (hn : Wq d X Q pc' L (.int x :: st) (z, I, J, R)) : Wq d X Q pc L (.ref a :: st) (z, I, J, R) := by
  subst hx; exact q_getI hd hp hlk ha hs hn
theorem q_ialde {a n : Nat} {i x : Int32} (j : Nat) (hd : decode d.1 pc = .ok (.iaload, 1)) (hp : pc + 1 = pc') (ha : mj_oka z a 12 n) (hi : i = nI j) (hj : j < n) (hx : I a j = x) (hn : Wq d X Q pc' L (.int x :: st) (z, I, J, R)) : Wq d X Q pc L (.int i :: .ref a :: st) (z, I, J, R) := by
  subst hx; exact q_iald j hd hp ha hi hj hn
theorem q_zalde {a n : Nat} {i x : Int32} (j : Nat) (hd : decode d.1 pc = .ok (.baload, 1)) (hp : pc + 1 = pc') (ha : mj_oka z a 14 n) (hi : i = nI j) (hj : j < n) (hx : I a j = x) (hn : Wq d X Q pc' L (.int x :: st) (z, I, J, R)) : Wq d X Q pc L (.int i :: .ref a :: st) (z, I, J, R) := by
  subst hx; exact q_zald j hd hp ha hi hj hn
theorem q_balde {a n : Nat} {i x : Int32} (j : Nat) (hd : decode d.1 pc = .ok (.baload, 1)) (hp : pc + 1 = pc') (ha : mj_oka z a 13 n) (hi : i = nI j) (hj : j < n) (hx : I a j = x) (hn : Wq d X Q pc' L (.int x :: st) (z, I, J, R)) : Wq d X Q pc L (.int i :: .ref a :: st) (z, I, J, R) := by
  subst hx; exact q_bald j hd hp ha hi hj hn
theorem q_lalde {a n : Nat} {i : Int32} {x : Int64} (j : Nat) (hd : decode d.1 pc = .ok (.laload, 1)) (hp : pc + 1 = pc') (ha : mj_oka z a 15 n) (hi : i = nI j) (hj : j < n) (hx : J a j = x) (hn : Wq d X Q pc' L (.long x :: st) (z, I, J, R)) : Wq d X Q pc L (.int i :: .ref a :: st) (z, I, J, R) := by
  subst hx; exact q_lald j hd hp ha hi hj hn
/-- another name for the number on top, for a local -/
theorem q_top {x y : Int32} (h : x = y) {h9 : mj_H} (hn : Wq d X Q pc L (.int y :: st) h9) : Wq d X Q pc L (.int x :: st) h9 := by rw [h]; exact hn
end QE
section QB
variable {d : mj_D} {X : mj_X} {Q : Option Value → mj_H → Prop} {pc p1 p2 p3 p4 : Nat} {L : List (Option Value)} {st : List Value} {h : mj_H}
theorem q_bl_icmp_eq {x y : Int32} {off o2 : Int} (hd : decode d.1 pc = .ok (.if_icmp .eq off, 3)) (hd1 : decode d.1 p1 = .ok (.iconst 1, 1)) (hd2 : decode d.1 p2 = .ok (.goto o2, 3)) (hd3 : decode d.1 p3 = .ok (.iconst 0, 1)) (e1 : pc + 3 = p1) (e2 : p1 + 1 = p2) (e3 : (pc : Int) + off = (p3 : Int)) (e4 : (p2 : Int) + o2 = (p4 : Int)) (e5 : p3 + 1 = p4) (hn : Wq d X Q p4 L (.int (bI (decide (¬ x = y))) :: st) h) : Wq d X Q pc L (.int y :: .int x :: st) h :=
  q_icmp_eq hd e1 e3 (fun h9 => q_iconst (bI false) hd3 e5 rfl (by rw [decide_eq_false (fun q => q h9)] at hn; exact hn)) (fun h9 => q_iconst (bI true) hd1 e2 rfl (q_goto hd2 e4 (by rw [decide_eq_true h9] at hn; exact hn)))
theorem q_bl_icmp_ne {x y : Int32} {off o2 : Int} (hd : decode d.1 pc = .ok (.if_icmp .ne off, 3)) (hd1 : decode d.1 p1 = .ok (.iconst 1, 1)) (hd2 : decode d.1 p2 = .ok (.goto o2, 3)) (hd3 : decode d.1 p3 = .ok (.iconst 0, 1)) (e1 : pc + 3 = p1) (e2 : p1 + 1 = p2) (e3 : (pc : Int) + off = (p3 : Int)) (e4 : (p2 : Int) + o2 = (p4 : Int)) (e5 : p3 + 1 = p4) (hn : Wq d X Q p4 L (.int (bI (decide (x = y))) :: st) h) : Wq d X Q pc L (.int y :: .int x :: st) h :=
  q_icmp_ne hd e1 e3 (fun h9 => q_iconst (bI false) hd3 e5 rfl (by rw [decide_eq_false h9] at hn; exact hn)) (fun h9 => q_iconst (bI true) hd1 e2 rfl (q_goto hd2 e4 (by rw [decide_eq_true h9] at hn; exact hn)))
theorem q_bl_icmp_lt {x y : Int32} {off o2 : Int} (hd : decode d.1 pc = .ok (.if_icmp .lt off, 3)) (hd1 : decode d.1 p1 = .ok (.iconst 1, 1)) (hd2 : decode d.1 p2 = .ok (.goto o2, 3)) (hd3 : decode d.1 p3 = .ok (.iconst 0, 1)) (e1 : pc + 3 = p1) (e2 : p1 + 1 = p2) (e3 : (pc : Int) + off = (p3 : Int)) (e4 : (p2 : Int) + o2 = (p4 : Int)) (e5 : p3 + 1 = p4) (hn : Wq d X Q p4 L (.int (bI (decide (y ≤ x))) :: st) h) : Wq d X Q pc L (.int y :: .int x :: st) h :=
  q_icmp_lt hd e1 e3 (fun h9 => q_iconst (bI false) hd3 e5 rfl (by rw [decide_eq_false (Int32.not_le.mpr h9)] at hn; exact hn)) (fun h9 => q_iconst (bI true) hd1 e2 rfl (q_goto hd2 e4 (by rw [decide_eq_true (Int32.not_lt.mp h9)] at hn; exact hn)))
theorem q_bl_icmp_ge {x y : Int32} {off o2 : Int} (hd : decode d.1 pc = .ok (.if_icmp .ge off, 3)) (hd1 : decode d.1 p1 = .ok (.iconst 1, 1)) (hd2 : decode d.1 p2 = .ok (.goto o2, 3)) (hd3 : decode d.1 p3 = .ok (.iconst 0, 1)) (e1 : pc + 3 = p1) (e2 : p1 + 1 = p2) (e3 : (pc : Int) + off = (p3 : Int)) (e4 : (p2 : Int) + o2 = (p4 : Int)) (e5 : p3 + 1 = p4) (hn : Wq d X Q p4 L (.int (bI (decide (x < y))) :: st) h) : Wq d X Q pc L (.int y :: .int x :: st) h :=
  q_icmp_ge hd e1 e3 (fun h9 => q_iconst (bI false) hd3 e5 rfl (by rw [decide_eq_false (Int32.not_lt.mpr h9)] at hn; exact hn)) (fun h9 => q_iconst (bI true) hd1 e2 rfl (q_goto hd2 e4 (by rw [decide_eq_true (Int32.not_le.mp h9)] at hn; exact hn)))
theorem q_bl_icmp_gt {x y : Int32} {off o2 : Int} (hd : decode d.1 pc = .ok (.if_icmp .gt off, 3)) (hd1 : decode d.1 p1 = .ok (.iconst 1, 1)) (hd2 : decode d.1 p2 = .ok (.goto o2, 3)) (hd3 : decode d.1 p3 = .ok (.iconst 0, 1)) (e1 : pc + 3 = p1) (e2 : p1 + 1 = p2) (e3 : (pc : Int) + off = (p3 : Int)) (e4 : (p2 : Int) + o2 = (p4 : Int)) (e5 : p3 + 1 = p4) (hn : Wq d X Q p4 L (.int (bI (decide (x ≤ y))) :: st) h) : Wq d X Q pc L (.int y :: .int x :: st) h :=
  q_icmp_gt hd e1 e3 (fun h9 => q_iconst (bI false) hd3 e5 rfl (by rw [decide_eq_false (Int32.not_le.mpr h9)] at hn; exact hn)) (fun h9 => q_iconst (bI true) hd1 e2 rfl (q_goto hd2 e4 (by rw [decide_eq_true (Int32.not_lt.mp h9)] at hn; exact hn)))
theorem q_bl_icmp_le {x y : Int32} {off o2 : Int} (hd : decode d.1 pc = .ok (.if_icmp .le off, 3)) (hd1 : decode d.1 p1 = .ok (.iconst 1, 1)) (hd2 : decode d.1 p2 = .ok (.goto o2, 3)) (hd3 : decode d.1 p3 = .ok (.iconst 0, 1)) (e1 : pc + 3 = p1) (e2 : p1 + 1 = p2) (e3 : (pc : Int) + off = (p3 : Int)) (e4 : (p2 : Int) + o2 = (p4 : Int)) (e5 : p3 + 1 = p4) (hn : Wq d X Q p4 L (.int (bI (decide (y < x))) :: st) h) : Wq d X Q pc L (.int y :: .int x :: st) h :=
  q_icmp_le hd e1 e3 (fun h9 => q_iconst (bI false) hd3 e5 rfl (by rw [decide_eq_false (Int32.not_lt.mpr h9)] at hn; exact hn)) (fun h9 => q_iconst (bI true) hd1 e2 rfl (q_goto hd2 e4 (by rw [decide_eq_true (Int32.not_le.mp h9)] at hn; exact hn)))
theorem q_bl_if_eq {x : Int32} {off o2 : Int} (hd : decode d.1 pc = .ok (.ifCond .eq off, 3)) (hd1 : decode d.1 p1 = .ok (.iconst 1, 1)) (hd2 : decode d.1 p2 = .ok (.goto o2, 3)) (hd3 : decode d.1 p3 = .ok (.iconst 0, 1)) (e1 : pc + 3 = p1) (e2 : p1 + 1 = p2) (e3 : (pc : Int) + off = (p3 : Int)) (e4 : (p2 : Int) + o2 = (p4 : Int)) (e5 : p3 + 1 = p4) (hn : Wq d X Q p4 L (.int (bI (decide (¬ x = 0))) :: st) h) : Wq d X Q pc L (.int x :: st) h :=
  q_if_eq hd e1 e3 (fun h9 => q_iconst (bI false) hd3 e5 rfl (by rw [decide_eq_false (fun q => q h9)] at hn; exact hn)) (fun h9 => q_iconst (bI true) hd1 e2 rfl (q_goto hd2 e4 (by rw [decide_eq_true h9] at hn; exact hn)))
theorem q_bl_if_ne {x : Int32} {off o2 : Int} (hd : decode d.1 pc = .ok (.ifCond .ne off, 3)) (hd1 : decode d.1 p1 = .ok (.iconst 1, 1)) (hd2 : decode d.1 p2 = .ok (.goto o2, 3)) (hd3 : decode d.1 p3 = .ok (.iconst 0, 1)) (e1 : pc + 3 = p1) (e2 : p1 + 1 = p2) (e3 : (pc : Int) + off = (p3 : Int)) (e4 : (p2 : Int) + o2 = (p4 : Int)) (e5 : p3 + 1 = p4) (hn : Wq d X Q p4 L (.int (bI (decide (x = 0))) :: st) h) : Wq d X Q pc L (.int x :: st) h :=
  q_if_ne hd e1 e3 (fun h9 => q_iconst (bI false) hd3 e5 rfl (by rw [decide_eq_false h9] at hn; exact hn)) (fun h9 => q_iconst (bI true) hd1 e2 rfl (q_goto hd2 e4 (by rw [decide_eq_true h9] at hn; exact hn)))
theorem q_bl_if_lt {x : Int32} {off o2 : Int} (hd : decode d.1 pc = .ok (.ifCond .lt off, 3)) (hd1 : decode d.1 p1 = .ok (.iconst 1, 1)) (hd2 : decode d.1 p2 = .ok (.goto o2, 3)) (hd3 : decode d.1 p3 = .ok (.iconst 0, 1)) (e1 : pc + 3 = p1) (e2 : p1 + 1 = p2) (e3 : (pc : Int) + off = (p3 : Int)) (e4 : (p2 : Int) + o2 = (p4 : Int)) (e5 : p3 + 1 = p4) (hn : Wq d X Q p4 L (.int (bI (decide (0 ≤ x))) :: st) h) : Wq d X Q pc L (.int x :: st) h :=
  q_if_lt hd e1 e3 (fun h9 => q_iconst (bI false) hd3 e5 rfl (by rw [decide_eq_false (Int32.not_le.mpr h9)] at hn; exact hn)) (fun h9 => q_iconst (bI true) hd1 e2 rfl (q_goto hd2 e4 (by rw [decide_eq_true (Int32.not_lt.mp h9)] at hn; exact hn)))
theorem q_bl_if_ge {x : Int32} {off o2 : Int} (hd : decode d.1 pc = .ok (.ifCond .ge off, 3)) (hd1 : decode d.1 p1 = .ok (.iconst 1, 1)) (hd2 : decode d.1 p2 = .ok (.goto o2, 3)) (hd3 : decode d.1 p3 = .ok (.iconst 0, 1)) (e1 : pc + 3 = p1) (e2 : p1 + 1 = p2) (e3 : (pc : Int) + off = (p3 : Int)) (e4 : (p2 : Int) + o2 = (p4 : Int)) (e5 : p3 + 1 = p4) (hn : Wq d X Q p4 L (.int (bI (decide (x < 0))) :: st) h) : Wq d X Q pc L (.int x :: st) h :=
  q_if_ge hd e1 e3 (fun h9 => q_iconst (bI false) hd3 e5 rfl (by rw [decide_eq_false (Int32.not_lt.mpr h9)] at hn; exact hn)) (fun h9 => q_iconst (bI true) hd1 e2 rfl (q_goto hd2 e4 (by rw [decide_eq_true (Int32.not_le.mp h9)] at hn; exact hn)))
theorem q_bl_if_gt {x : Int32} {off o2 : Int} (hd : decode d.1 pc = .ok (.ifCond .gt off, 3)) (hd1 : decode d.1 p1 = .ok (.iconst 1, 1)) (hd2 : decode d.1 p2 = .ok (.goto o2, 3)) (hd3 : decode d.1 p3 = .ok (.iconst 0, 1)) (e1 : pc + 3 = p1) (e2 : p1 + 1 = p2) (e3 : (pc : Int) + off = (p3 : Int)) (e4 : (p2 : Int) + o2 = (p4 : Int)) (e5 : p3 + 1 = p4) (hn : Wq d X Q p4 L (.int (bI (decide (x ≤ 0))) :: st) h) : Wq d X Q pc L (.int x :: st) h :=
  q_if_gt hd e1 e3 (fun h9 => q_iconst (bI false) hd3 e5 rfl (by rw [decide_eq_false (Int32.not_le.mpr h9)] at hn; exact hn)) (fun h9 => q_iconst (bI true) hd1 e2 rfl (q_goto hd2 e4 (by rw [decide_eq_true (Int32.not_lt.mp h9)] at hn; exact hn)))
theorem q_bl_if_le {x : Int32} {off o2 : Int} (hd : decode d.1 pc = .ok (.ifCond .le off, 3)) (hd1 : decode d.1 p1 = .ok (.iconst 1, 1)) (hd2 : decode d.1 p2 = .ok (.goto o2, 3)) (hd3 : decode d.1 p3 = .ok (.iconst 0, 1)) (e1 : pc + 3 = p1) (e2 : p1 + 1 = p2) (e3 : (pc : Int) + off = (p3 : Int)) (e4 : (p2 : Int) + o2 = (p4 : Int)) (e5 : p3 + 1 = p4) (hn : Wq d X Q p4 L (.int (bI (decide (0 < x))) :: st) h) : Wq d X Q pc L (.int x :: st) h :=
  q_if_le hd e1 e3 (fun h9 => q_iconst (bI false) hd3 e5 rfl (by rw [decide_eq_false (Int32.not_lt.mpr h9)] at hn; exact hn)) (fun h9 => q_iconst (bI true) hd1 e2 rfl (q_goto hd2 e4 (by rw [decide_eq_true (Int32.not_le.mp h9)] at hn; exact hn)))
end QB
theorem nI_ne {a b : Nat} (h : a ≠ b) (ha : a < 2 ^ 31) (hb : b < 2 ^ 31) : ¬ nI a = nI b := fun e => h ((nI_eq ha hb).mp e)
theorem nI_m1 {a : Nat} (ha : a < 2 ^ 31) : ¬ nI a = (-1) := fun e => by
  have h1 := congrArg Int32.toInt e
  rw [nI_toInt ha] at h1
  have h2 : ((-1 : Int32)).toInt = -1 := by decide
  rw [h2] at h1
  omega
abbrev St : Type := Nat → Nat → Nat
def cntN (P : Nat → Bool) : Nat → Nat
  | 0 => 0
  | n + 1 => cntN P n + (if P n = true then 1 else 0)
def sumN (f : Nat → Nat) : Nat → Nat
  | 0 => 0
  | n + 1 => sumN f n + f n
/-- of those below n that P takes the one of the least f, of like ones the least -/
def lstN (P : Nat → Bool) (f : Nat → Nat) : Nat → Option Nat
  | 0 => none
  | n + 1 => match lstN P f n with
    | none => if P n = true then some n else none
    | some b => if P n = true ∧ f n < f b then some n else some b
/-- the first from k on, of n, that P takes -/
def ffi (P : Nat → Bool) : Nat → Nat → Option Nat
  | _, 0 => none
  | k, n + 1 => if P k = true then some k else ffi P (k + 1) n
def oI (o : Option Nat) : Int32 := match o with
  | none => -1
  | some k => nI k
theorem cntN_le (P : Nat → Bool) (n : Nat) : cntN P n ≤ n := by
  induction n with
  | zero => exact Nat.le_refl _
  | succ n ih => unfold cntN; split <;> omega
theorem cntN_congr {P P' : Nat → Bool} {n : Nat} (h : ∀ k, k < n → P k = P' k) : cntN P n = cntN P' n := by
  induction n with
  | zero => rfl
  | succ n ih => unfold cntN; rw [ih (fun k hk => h k (Nat.lt_succ_of_lt hk)), h n (Nat.lt_succ_self n)]
theorem sumN_congr {f f' : Nat → Nat} {n : Nat} (h : ∀ k, k < n → f k = f' k) : sumN f n = sumN f' n := by
  induction n with
  | zero => rfl
  | succ n ih => unfold sumN; rw [ih (fun k hk => h k (Nat.lt_succ_of_lt hk)), h n (Nat.lt_succ_self n)]
theorem sumN_le {f : Nat → Nat} {n m : Nat} (h : ∀ k, k < n → f k ≤ m) : sumN f n ≤ n * m := by
  induction n with
  | zero => exact Nat.zero_le _
  | succ n ih =>
    unfold sumN
    have h1 := ih (fun k hk => h k (Nat.lt_succ_of_lt hk))
    have h2 := h n (Nat.lt_succ_self n)
    rw [Nat.succ_mul]; omega
theorem lstN_lt {P : Nat → Bool} {f : Nat → Nat} {n k : Nat} (h : lstN P f n = some k) : k < n ∧ P k = true := by
  induction n generalizing k with
  | zero => cases h
  | succ n ih =>
    unfold lstN at h
    cases hb : lstN P f n with
    | none =>
      rw [hb] at h
      dsimp only at h
      split at h
      · cases h; exact ⟨Nat.lt_succ_self _, by assumption⟩
      · cases h
    | some b =>
      rw [hb] at h
      dsimp only at h
      split at h
      · cases h; exact ⟨Nat.lt_succ_self _, by simp_all⟩
      · cases h; have := ih hb; exact ⟨Nat.lt_succ_of_lt this.1, this.2⟩
theorem lstN_congr {P P' : Nat → Bool} {f f' : Nat → Nat} {n : Nat} (h : ∀ k, k < n → P k = P' k) (hf : ∀ k, k < n → P k = true → f k = f' k) : lstN P f n = lstN P' f' n := by
  induction n with
  | zero => rfl
  | succ n ih =>
    have h1 := ih (fun k hk => h k (Nat.lt_succ_of_lt hk)) (fun k hk => hf k (Nat.lt_succ_of_lt hk))
    unfold lstN
    rw [← h1, h n (Nat.lt_succ_self n)]
    cases hb : lstN P f n with
    | none => rfl
    | some b =>
      have h2 := lstN_lt hb
      dsimp only
      by_cases hp : P' n = true
      · rw [hf n (Nat.lt_succ_self n) (by rw [h n (Nat.lt_succ_self n)]; exact hp), hf b (Nat.lt_succ_of_lt h2.1) h2.2]
      · simp [hp]
theorem ffi_some {P : Nat → Bool} {k n r : Nat} (h : ffi P k n = some r) : k ≤ r ∧ r < k + n ∧ P r = true := by
  induction n generalizing k with
  | zero => cases h
  | succ n ih =>
    unfold ffi at h
    split at h
    · cases h; exact ⟨Nat.le_refl _, by omega, by assumption⟩
    · have := ih h; exact ⟨by omega, by omega, this.2.2⟩
theorem ffi_none {P : Nat → Bool} {k n : Nat} : ffi P k n = none ↔ ∀ j, k ≤ j → j < k + n → P j = false := by
  induction n generalizing k with
  | zero => exact ⟨fun _ j h1 h2 => by omega, fun _ => rfl⟩
  | succ n ih =>
    unfold ffi
    by_cases hp : P k = true
    · rw [if_pos hp]
      exact ⟨fun h => (by cases h), fun h => by rw [h k (Nat.le_refl _) (by omega)] at hp; cases hp⟩
    · rw [if_neg hp, ih]
      constructor
      · intro h j h1 h2
        by_cases hj : j = k
        · subst hj; exact Bool.eq_false_iff.mpr hp
        · exact h j (by omega) (by omega)
      · intro h j h1 h2; exact h j (by omega) (by omega)
theorem ffi_congr {P P' : Nat → Bool} {k n : Nat} (h : ∀ j, k ≤ j → j < k + n → P j = P' j) : ffi P k n = ffi P' k n := by
  induction n generalizing k with
  | zero => rfl
  | succ n ih =>
    unfold ffi
    rw [h k (Nat.le_refl _) (by omega), ih (fun j h1 h2 => h j (by omega) (by omega))]
theorem oI_none {o : Option Nat} (h : ∀ k, o = some k → k < 2 ^ 31) : oI o = -1 ↔ o = none := by
  cases o with
  | none => exact ⟨fun _ => rfl, fun _ => rfl⟩
  | some k => exact ⟨fun e => absurd e (nI_m1 (h k rfl)), fun e => (by cases e)⟩
/-- a board as numbers: 0: CPUS, VECTORS, DEVICES, kept, off; 1: kinds; 2: LINES; 3: SETS -/
def bOK (b : St) : Prop := (1 ≤ b 0 0 ∧ b 0 0 ≤ 8) ∧ (8 ≤ b 0 1 ∧ b 0 1 ≤ 32) ∧ b 0 2 ≤ 10 ∧ ∀ d, d < b 0 2 → (1 ≤ b 1 d ∧ b 1 d ≤ 3) ∧ (1 ≤ b 2 d ∧ b 2 d ≤ 8) ∧ b 3 d < 256
/-- the reference's board -/
def mB (I : mj_M) (b : St) : Prop := I 452 18 = nI (b 0 0) ∧ I 452 19 = nI (b 0 1) ∧ I 452 22 = nI (b 0 2) ∧ ∀ d, d < b 0 2 → I 457 d = nI (b 1 d) ∧ I 458 d = nI (b 2 d) ∧ I 459 d = nI (b 3 d)
theorem mB_0 {I : mj_M} {b : St} (h : mB I b) : I 452 18 = nI (b 0 0) := h.1
theorem mB_1 {I : mj_M} {b : St} (h : mB I b) : I 452 19 = nI (b 0 1) := h.2.1
theorem mB_2 {I : mj_M} {b : St} (h : mB I b) : I 452 22 = nI (b 0 2) := h.2.2.1
/-- what acts change, as numbers. 0: what a VECTOR is; 1: whose (0: none, else LINE + 1); 2: PENDING; 3: HELD at (0: none, else place + 1); 4: OLD at; 5: DRAINS; 6: WAITS; 7: STARTED; 8: PROMISED; 9: ONLINE; 10, 11, 12: DELIVERED, MERGED, DROPPED; 13: handled; 14: TICKS, all DELIVERED, MERGED, DROPPED, how many were logged; 15: what was logged -/
def eD (x : Nat) : Int32 := if x = 0 then -1 else nI ((x - 1) / 8)
def eL (x : Nat) : Int32 := if x = 0 then -1 else nI ((x - 1) % 8)
def eC (x : Nat) : Int32 := if x = 0 then -1 else nI ((x - 1) / 32)
def eV (x : Nat) : Int32 := if x = 0 then -1 else nI ((x - 1) % 32)
theorem nI_cnt (P : Nat → Bool) (n : Nat) : nI (cntN P n) + bI (P n) = nI (cntN P (n + 1)) := by
  show _ = nI (_ + _)
  cases hp : P n
  · show nI _ + nI 0 = _; rw [nI_add]; rfl
  · show nI _ + nI 1 = _; rw [nI_add]; rfl
theorem nI_sum (f : Nat → Nat) (n : Nat) : nI (sumN f n) + nI (f n) = nI (sumN f (n + 1)) := nI_add _ _
theorem nI_dec {a b : Nat} (ha : a < 2 ^ 31) (hb : b < 2 ^ 31) : decide (nI a = nI b) = (a == b) := by
  by_cases h : a = b
  · subst h; simp
  · rw [decide_eq_false (nI_ne h ha hb), Eq.comm, beq_eq_false_iff_ne]; exact h
