/-! ===== the reference: a DEVICE's line, its wants ===== -/
theorem oI_eq {o : Option Nat} {x : Nat} (h : ∀ i, o = some i → i < 4) (hx : x < 4) : oI o = nI x ↔ o = some x := by
  cases o with
  | none => exact ⟨fun q => absurd q.symm (nI_m1 (by omega)), fun q => by cases q⟩
  | some i =>
    have := h i rfl
    exact ⟨fun q => congrArg some ((nI_eq (by omega) (by omega)).mp q), fun q => by cases q; rfl⟩
theorem dvKd_lt {K : Nat → Nat} (i : Nat) (h : dvKd K = some i) : i < 4 := by
  unfold dvKd at h
  repeat' split at h
  all_goals first | (cases h; done) | (cases h; decide)
theorem mRd_J {I : mj_M} {J : mj_J} {T : Nat → Nat} {sz : Nat} {K : Nat → Nat} {n : Nat} {x : Int64} (h : mRd I J T sz K) : mRd I (mj_up J 462 n x) T sz K := by
  refine ⟨h.1, h.2.1, h.2.2.1, h.2.2.2.1, ?_, h.2.2.2.2.2⟩
  rw [mj_up_ne (by decide)]; exact h.2.2.2.2.1
theorem mRd_ar {I : mj_M} {J : mj_J} {T : Nat → Nat} {sz : Nat} {K : Nat → Nat} {a f : Nat} {x : Int32} (h2 : a ≠ 452) (h3 : a ≠ 453) (h : mRd I J T sz K) : mRd (mj_up I a f x) J T sz K := by
  refine ⟨?_, h.2.1, fun g g3 g9 => ?_, ?_, h.2.2.2.2.1, fun k hk => ?_⟩
  · rw [mj_up_ne (Ne.symm h2)]; exact h.1
  · rw [mj_up_ne (Ne.symm h2)]; exact h.2.2.1 g g3 g9
  · rw [mj_up_ne (Ne.symm h2)]; exact h.2.2.2.1
  · rw [mj_up_ne (Ne.symm h3)]; exact h.2.2.2.2.2 k hk
/-- a DEVICE's name is read -/
def mDn (I0 : mj_M) (J0 : mj_J) (D : St) (lt nm : Nat) (I : mj_M) (J : mj_J) : Prop := mD I J D ∧ I 460 (D 0 2) = nI lt ∧ J 462 (D 0 2) = nJ nm ∧ mDf I0 J0 I J
theorem mDn_rf {I0 I I' : mj_M} {J0 J J' : mj_J} {D : St} {lt nm : Nat} (h : mRf I J I' J') (hD : mDn I0 J0 D lt nm I J) : mDn I0 J0 D lt nm I' J' :=
  ⟨mD_rf h hD.1, by rw [h.1 460 (by decide)]; exact hD.2.1, by rw [h.2.2 462 _ (by omega)]; exact hD.2.2.1, hD.2.2.2.tr h.df⟩
theorem mD_up {I : mj_M} {J : mj_J} {D : St} {a : Nat} {x : Int32} (ha : a ≠ 452) (h : mD I J D) : mD (mj_up I a (D 0 2) x) J D := by
  have n2 : ∀ f, mj_up I a (D 0 2) x 452 f = I 452 f := fun f => mj_up_ne (Ne.symm ha)
  refine ⟨?_, ?_, fun d hd => ?_⟩
  · rw [n2, n2, n2, n2, n2]; exact h.1
  · rw [n2, n2, n2]; exact h.2.1
  · rw [mj_up_ne2 (by omega), mj_up_ne2 (by omega), mj_up_ne2 (by omega), mj_up_ne2 (by omega)]; exact h.2.2 d hd
theorem mDf_up {I : mj_M} {J : mj_J} {a f : Nat} {x : Int32} (ha : a = 454 ∨ a = 455 ∨ a = 456 ∨ a = 460) : mDf I J (mj_up I a f x) J :=
  ⟨fun c h1 h2 h3 h4 h5 => up_fI (by omega), fun g _ => mj_up_ne (by omega), fun _ _ _ _ => rfl⟩
theorem mDf_f {I : mj_M} {J : mj_J} {f : Nat} {x : Int32} (hf : (12 < f ∧ f < 18) ∨ (22 < f ∧ f < 26)) : mDf I J (mj_up I 452 f x) J :=
  ⟨fun c h1 _ _ _ _ => up_fI h1, fun g hg => mj_up_ne2 (by omega), fun _ _ _ _ => rfl⟩
theorem sh_m1 {n : Nat} (h : n ≤ 8) : nI 1 <<< (nI n &&& 31) - nI 1 = nI (2 ^ n - 1) := by
  rw [sh32 n (by omega), nI_sb (Nat.one_le_two_pow)]
theorem kSet_lt {T : Nat → Nat} {sz n : Nat} (hn : n ≤ 32) : ∀ f s K0, kOK sz K0 → s < 2 ^ n → K0 8 = 0 → (kSet T sz n f s K0).1 < 2 ^ n := by
  intro f
  induction f with
  | zero => intro s K0 _ hs _; exact hs
  | succ f ih =>
    intro s K0 hk0 hs h0
    unfold kSet
    by_cases hg : kN K0 (nI 0) (nI n - nI 1) 8 = 0
    · rw [if_pos hg]
      obtain ⟨ek, k5, kin⟩ := kN_good h0 hg
      obtain ⟨v, hv, hve⟩ := (inN_iff (by omega)).mp kin
      have k6 := hk0.2.2.1
      have hv6 : K0 6 = v := (nI_eq (by omega) (by omega)).mp hve
      have hlt : s ||| 2 ^ K0 6 < 2 ^ n := Nat.or_lt_two_pow hs (Nat.pow_lt_pow_right (by decide) (by omega))
      by_cases h1 : s.testBit (K0 6) = true
      · rw [if_pos h1]; exact hs
      · rw [if_neg h1, ek]
        by_cases h2 : tkK T sz K0 8 = 0 ∧ tkK T sz K0 5 = 2
        · rw [if_pos h2]; exact ih _ _ (kOK_tk hk0) hlt h2.1
        · rw [if_neg h2]; exact hlt
    · rw [if_neg hg]; exact hs
theorem kSetOf_lt {T : Nat → Nat} {sz n s : Nat} {K : Nat → Nat} (hn : n ≤ 32) (hk : kOK sz K) (hs : s < 2 ^ n) : (kSetOf T sz n s K).1 < 2 ^ n := by
  unfold kSetOf
  split
  · rename_i hg; exact kSet_lt hn 802 s K hk hs hg
  · exact hs
theorem kOK_set {T : Nat → Nat} {sz n : Nat} : ∀ f s K0, kOK sz K0 → kOK sz (kSet T sz n f s K0).2 := by
  intro f
  induction f with
  | zero => intro s K0 h; exact h
  | succ f ih =>
    intro s K0 hk0
    unfold kSet
    split
    · split
      · exact kOK_w (kOK_n hk0) (by decide)
      · split
        · exact ih _ _ (kOK_tk (kOK_n hk0))
        · exact kOK_tk (kOK_n hk0)
    · exact kOK_n hk0
theorem kOK_setOf {T : Nat → Nat} {sz n s : Nat} {K : Nat → Nat} (hk : kOK sz K) : kOK sz (kSetOf T sz n s K).2 := by
  unfold kSetOf
  split
  · exact kOK_set _ _ _ hk
  · exact hk
theorem dvS_lt {T : Nat → Nat} {sz n : Nat} {K : Nat → Nat} (hn : n ≤ 8) (hk : kOK sz K) : (dvS T sz n K).1 < 2 ^ n := by
  unfold dvS
  split
  · exact kSetOf_lt (by omega) (kOK_tk hk) (Nat.two_pow_pos n)
  · have := Nat.two_pow_pos n
    show 2 ^ n - 1 < 2 ^ n
    omega
theorem kOK_dvS {T : Nat → Nat} {sz n : Nat} {K : Nat → Nat} (hk : kOK sz K) : kOK sz (dvS T sz n K).2 := by
  unfold dvS
  split
  · exact kOK_setOf (kOK_tk hk)
  · exact hk
/-- a FAULT stays -/
theorem kIs_bad {K : Nat → Nat} {x : Nat} (h : K 8 ≠ 0) : kIs K x = false := by
  unfold kIs
  rw [beq_eq_false_iff_ne.mpr h, Bool.false_and, Bool.false_and]
theorem kN_bad {K : Nat → Nat} {x y : Int32} (h : K 8 ≠ 0) : kN K x y = K := if_neg h
theorem dvE8 {o : Option Nat} {K : Nat → Nat} (h : K 8 ≠ 0) : dvE o K 8 ≠ 0 := by
  unfold dvE
  split
  · exact h
  · rw [kN_bad h]; exact h
theorem dvF8 {o : Option Nat} {ln : Nat} {K : Nat → Nat} (h : K 8 ≠ 0) : dvF o ln K 8 ≠ 0 := by
  unfold dvF
  split
  · exact kW8 (by decide)
  · exact h
theorem dvH8 {T : Nat → Nat} {sz : Nat} {o : Option Nat} {K : Nat → Nat} : dvH T sz o K 8 = K 8 := by
  unfold dvH
  split
  · rfl
  · exact kG8
theorem dvS8 {T : Nat → Nat} {sz n : Nat} {K : Nat → Nat} (h : K 8 ≠ 0) : (dvS T sz n K).2 8 ≠ 0 := by
  unfold dvS
  rw [kIs_bad h]
  exact h
theorem kN_gd {K : Nat → Nat} {x y : Int32} (h : kN K x y 8 = 0) : kN K x y = K ∧ K 8 = 0 ∧ K 5 = 2 ∧ x ≤ nI (K 6) ∧ nI (K 6) ≤ y := by
  by_cases h0 : K 8 = 0
  · unfold kN at h ⊢
    rw [if_pos h0] at h ⊢
    by_cases h5 : K 5 = 2
    · rw [if_pos h5] at h ⊢
      by_cases hc : x ≤ nI (K 6) ∧ nI (K 6) ≤ y
      · rw [if_pos hc]; exact ⟨rfl, h0, h5, hc⟩
      · rw [if_neg hc] at h; exact absurd h (kW8 (by decide))
    · rw [if_neg h5] at h; exact absurd h (kW8 (by decide))
  · rw [kN_bad h0] at h; exact absurd h h0
/-- the numbers of a DEVICE whose line is good -/
theorem dvR_good {T : Nat → Nat} {sz n : Nat} {K : Nat → Nat} (hk : kOK sz K) (h : (dvR T sz n K).2 8 = 0) : dvKd K ≠ none ∧ 1 ≤ dvLn (dvKd K) (dvC T sz (dvKd K) K) ∧ dvLn (dvKd K) (dvC T sz (dvKd K) K) ≤ 8 ∧ (dvKd K = some 1 → dvLn (dvKd K) (dvC T sz (dvKd K) K) = 1) ∧ (dvKd K = some 2 → dvLn (dvKd K) (dvC T sz (dvKd K) K) = 2 ∨ dvLn (dvKd K) (dvC T sz (dvKd K) K) = 4 ∨ dvLn (dvKd K) (dvC T sz (dvKd K) K) = 8) := by
  have hkC := kOK_dvC (T := T) (o := dvKd K) hk
  have hn : dvKd K = none → dvC T sz (dvKd K) K 8 ≠ 0 := fun q => by
    unfold dvC
    rw [if_pos q, kG8]
    exact kW8 (by decide)
  unfold dvR at h
  generalize dvC T sz (dvKd K) K = C at h hkC hn ⊢
  have hE : dvE (dvKd K) C 8 = 0 := Decidable.byContradiction fun q => dvS8 (by rw [dvH8]; exact dvF8 q) h
  have hF : dvF (dvKd K) (dvLn (dvKd K) C) (dvE (dvKd K) C) 8 = 0 := Decidable.byContradiction fun q => dvS8 (by rw [dvH8]; exact q) h
  have hpw : dvKd K = some 2 → dvLn (dvKd K) C &&& (dvLn (dvKd K) C - 1) = 0 := fun q => Decidable.byContradiction fun q2 => by
    unfold dvF at hF
    rw [if_pos ⟨q, hE, q2⟩] at hF
    exact kW8 (by decide) hF
  have hC : C 8 = 0 := Decidable.byContradiction fun q => dvE8 q hE
  refine ⟨fun q => hn q hC, ?_⟩
  unfold dvLn at hpw ⊢
  unfold dvE at hE
  by_cases h1 : dvKd K = some 1
  · rw [if_pos h1, h1]; decide
  · rw [if_neg h1] at hE hpw ⊢
    rw [if_pos hC] at hpw ⊢
    obtain ⟨_, _, _, g1, g2⟩ := kN_gd hE
    have k6 := hkC.2.2.1
    rw [nI_leI (by omega) (by omega)] at g2
    have gl : 1 ≤ C 6 ∧ (dvKd K = some 2 → 2 ≤ C 6) := by
      split at g1
      · rw [nI_leI (by omega) (by omega)] at g1; exact ⟨by omega, fun _ => g1⟩
      · rename_i hne; rw [nI_leI (by omega) (by omega)] at g1; exact ⟨g1, fun q => absurd q hne⟩
    refine ⟨gl.1, g2, fun q => absurd q h1, fun q => ?_⟩
    have hp := hpw q
    have h2 := gl.2 q
    generalize C 6 = c at hp h2 g2
    have hall : ∀ c, c ≤ 8 → 2 ≤ c → c &&& (c - 1) = 0 → c = 2 ∨ c = 4 ∨ c = 8 := by decide
    exact hall c g2 h2 hp
theorem pw_and (n : Nat) : nI n &&& (nI n - nI 1) = nI (n &&& (n - 1)) := by
  cases n with
  | zero => decide
  | succ n => rw [nI_sb (Nat.succ_le_succ (Nat.zero_le n)), nI_and]
section M38
variable {w : mj_Wd} {l : Launch} {I : mj_M} {J : mj_J} {R : mj_R} {b A D : St} {T : Nat → Nat} {sz t : Nat} {K : Nat → Nat}
theorem mD_dv {I0 : mj_M} {J0 : mj_J} {lt nm ln s i : Nat} {o : Option Nat} (ho : o = some i) (h : mDn I0 J0 D lt nm I J) : mD (mj_up (mj_up (mj_up (mj_up I 454 (D 0 2) (oI o)) 455 (D 0 2) (nI ln)) 456 (D 0 2) (nI s)) 452 17 (nI (D 0 2 + 1))) J (dvD D o ln s lt nm) := by
  subst ho
  have n2 : ∀ f, f ≠ 17 → mj_up (mj_up (mj_up (mj_up I 454 (D 0 2) (oI (some i))) 455 (D 0 2) (nI ln)) 456 (D 0 2) (nI s)) 452 17 (nI (D 0 2 + 1)) 452 f = I 452 f := fun f hf => by
    rw [mj_up_ne2 hf, mj_up_ne (by decide), mj_up_ne (by decide), mj_up_ne (by decide)]
  have d0 : ∀ j, j ≠ 2 → dvD D (some i) ln s lt nm 0 j = D 0 j := fun j hj => by
    unfold dvD
    rw [mj_up_ne2 hj, mj_up_ne (by decide), mj_up_ne (by decide), mj_up_ne (by decide), mj_up_ne (by decide), mj_up_ne (by decide)]
  have d2 : dvD D (some i) ln s lt nm 0 2 = D 0 2 + 1 := mj_up_eq
  refine ⟨⟨?_, ?_, ?_, ?_, ?_⟩, ⟨?_, ?_, ?_⟩, fun d hd => ?_⟩
  · rw [n2 13 (by decide), d0 0 (by decide)]; exact h.1.1.1
  · rw [n2 14 (by decide), d0 1 (by decide)]; exact h.1.1.2.1
  · rw [n2 15 (by decide), d0 3 (by decide)]; exact h.1.1.2.2.1
  · rw [n2 16 (by decide), d0 4 (by decide)]; exact h.1.1.2.2.2.1
  · rw [mj_up_eq, d2]
  · rw [n2 23 (by decide), d0 5 (by decide)]; exact h.1.2.1.1
  · rw [n2 24 (by decide), d0 6 (by decide)]; exact h.1.2.1.2.1
  · rw [n2 25 (by decide), d0 7 (by decide)]; exact h.1.2.1.2.2
  · rw [d2] at hd
    unfold dvD
    rw [mj_up_ne (show (1:Nat) ≠ 0 by decide), mj_up_ne (show (2:Nat) ≠ 0 by decide), mj_up_ne (show (3:Nat) ≠ 0 by decide), mj_up_ne (show (4:Nat) ≠ 0 by decide), mj_up_ne (show (5:Nat) ≠ 0 by decide)]
    rw [mj_up_ne (show (1:Nat) ≠ 5 by decide), mj_up_ne (show (2:Nat) ≠ 5 by decide), mj_up_ne (show (3:Nat) ≠ 5 by decide), mj_up_ne (show (4:Nat) ≠ 5 by decide)]
    rw [mj_up_ne (show (1:Nat) ≠ 4 by decide), mj_up_ne (show (2:Nat) ≠ 4 by decide), mj_up_ne (show (3:Nat) ≠ 4 by decide)]
    rw [mj_up_ne (show (1:Nat) ≠ 3 by decide), mj_up_ne (show (2:Nat) ≠ 3 by decide), mj_up_ne (show (1:Nat) ≠ 2 by decide)]
    rw [mj_up_ne (show (454:Nat) ≠ 452 by decide), mj_up_ne (show (455:Nat) ≠ 452 by decide), mj_up_ne (show (456:Nat) ≠ 452 by decide), mj_up_ne (show (460:Nat) ≠ 452 by decide)]
    rw [mj_up_ne (show (454:Nat) ≠ 456 by decide), mj_up_ne (show (455:Nat) ≠ 456 by decide), mj_up_ne (show (460:Nat) ≠ 456 by decide), mj_up_ne (show (454:Nat) ≠ 455 by decide), mj_up_ne (show (460:Nat) ≠ 455 by decide), mj_up_ne (show (460:Nat) ≠ 454 by decide)]
    by_cases e : d = D 0 2
    · rw [e, mj_up_eq, mj_up_eq, mj_up_eq, mj_up_eq, mj_up_eq, mj_up_eq, mj_up_eq, mj_up_eq]
      exact ⟨rfl, rfl, rfl, h.2.1, h.2.2.1⟩
    · simp only [mj_up_ne2 e]
      exact h.1.2.2 d (by omega)
/-- the second part: what it wants -/
theorem w_dv2 (Q : Option Value → mj_H → Prop) (Y : mj_Y) {I1 : mj_M} {J1 : mj_J} {o4 o5 o6 : Option Value} {lt nm : Nat} (hM : mj_wM R) (h1 : mRd I1 J1 T sz K) (hk : kOK sz K) (h0 : mDn I J D lt nm I1 J1) (hB : bOK D) (h10 : D 0 2 < 10)
    (hbad : ∀ I2 J2, (dvR T sz (D 0 0) K).2 8 ≠ 0 → mRd I2 J2 T sz (dvR T sz (D 0 0) K).2 → mDn I J D lt nm I2 J2 → Q none (472, I2, J2, R))
    (hgood : ∀ I2 J2, (dvR T sz (D 0 0) K).2 8 = 0 → mRd I2 J2 T sz (dvR T sz (D 0 0) K).2 → mDn I J D lt nm I2 J2 → Q none (472, mj_up (mj_up (mj_up (mj_up I2 454 (D 0 2) (oI (dvKd K))) 455 (D 0 2) (nI (dvLn (dvKd K) (dvC T sz (dvKd K) K)))) 456 (D 0 2) (nI (dvR T sz (D 0 0) K).1)) 452 17 (nI (D 0 2 + 1)), J2, R)) :
    Wq dd_X11_deviceLine (mj_mk w l 472 Y) Q 100 [some (.ref 452), some (.int (nI (D 0 2))), some (.long (nJ nm)), none, o4, o5, o6] [] (472, I1, J1, R) := by
  have hc8 := hB.1.2
  unfold dvR at hbad hgood
  have p143 : ∀ o o4 o5 o6, dvKd K = o → Wq dd_X11_deviceLine (mj_mk w l 472 Y) Q 143 [some (.ref 452), some (.int (nI (D 0 2))), some (.long (nJ nm)), none, o4, o5, o6] [.int (oI o)] (472, I1, J1, R) := by
    intro o o4 o5 o6 ho
    rw [ho] at hbad hgood
    have hol : ∀ i, o = some i → i < 4 := fun i hi => dvKd_lt i (ho.trans hi)
    have hkC := kOK_dvC (T := T) (o := o) hk
    have p167 : ∀ I2 J2, mRd I2 J2 T sz (dvC T sz o K) → mDn I J D lt nm I2 J2 → Wq dd_X11_deviceLine (mj_mk w l 472 Y) Q 167 [some (.ref 452), some (.int (nI (D 0 2))), some (.long (nJ nm)), none, some (.int (oI o)), o5, o6] [] (472, I2, J2, R) := by
      intro I2 J2 h2 hn2
      generalize dvC T sz o K = C at hbad hgood hkC h2
      have hkE := kOK_dvE (o := o) hkC
      have hln : dvLn o C < 1000 := by
        unfold dvLn
        split
        · decide
        · split
          · exact hkC.2.2.1
          · decide
      have p194 : ∀ I3, mRd I3 J2 T sz (dvE o C) → mDn I J D lt nm I3 J2 → Wq dd_X11_deviceLine (mj_mk w l 472 Y) Q 194 [some (.ref 452), some (.int (nI (D 0 2))), some (.long (nJ nm)), none, some (.int (oI o)), o5, o6] [.int (nI (dvLn o C))] (472, I3, J2, R) := by
        intro I3 h3 hn3
        generalize dvLn o C = ln at hbad hgood hln
        generalize dvE o C = E at hbad hgood hkE h3
        have hkF := kOK_dvF (o := o) (ln := ln) hkE
        have p224 : ∀ I4, mRd I4 J2 T sz (dvF o ln E) → mDn I J D lt nm I4 J2 → Wq dd_X11_deviceLine (mj_mk w l 472 Y) Q 224 [some (.ref 452), some (.int (nI (D 0 2))), some (.long (nJ nm)), none, some (.int (oI o)), some (.int (nI ln)), o6] [] (472, I4, J2, R) := by
          intro I4 h4 hn4
          generalize dvF o ln E = F at hbad hgood hkF h4
          have hkH := kOK_dvH (T := T) (o := o) hkF
          have p241 : ∀ I5 J5, mRd I5 J5 T sz (dvH T sz o F) → mDn I J D lt nm I5 J5 → Wq dd_X11_deviceLine (mj_mk w l 472 Y) Q 241 [some (.ref 452), some (.int (nI (D 0 2))), some (.long (nJ nm)), none, some (.int (oI o)), some (.int (nI ln)), o6] [] (472, I5, J5, R) := by
            intro I5 J5 h5 hn5
            generalize dvH T sz o F = H at hbad hgood hkH h5
            have hkS := kOK_dvS (T := T) (n := D 0 0) hkH
            have p276 : ∀ I6 J6, mRd I6 J6 T sz (dvS T sz (D 0 0) H).2 → mDn I J D lt nm I6 J6 → Wq dd_X11_deviceLine (mj_mk w l 472 Y) Q 276 [some (.ref 452), some (.int (nI (D 0 2))), some (.long (nJ nm)), none, some (.int (oI o)), some (.int (nI ln)), some (.int (nI (dvS T sz (D 0 0) H).1))] [] (472, I6, J6, R) := by
              intro I6 J6 h6 hn6
              have e8 := h6.2.2.1 8 (by decide) (by decide)
              have b8 := hkS.2.2.2.1
              by_cases g : (dvS T sz (D 0 0) H).2 8 = 0
              · have e17 : mj_up (mj_up (mj_up I6 454 (D 0 2) (oI o)) 455 (D 0 2) (nI ln)) 456 (D 0 2) (nI (dvS T sz (D 0 0) H).1) 452 17 = nI (D 0 2) := by
                  rw [mj_up_ne (by decide), mj_up_ne (by decide), mj_up_ne (by decide)]; exact hn6.1.1.2.2.2.2
                refine q_aload_n (pc' := 277) dX11_deviceLine_276 rfl rfl (q_getIe (pc' := 280) dX11_deviceLine_277 rfl fr_RX11_126 ⟨by omega, rfl⟩ rfl e8 (q_if_le (pc' := 283) (pt := 284) dX11_deviceLine_280 rfl rfl (fun _ => (q_aload_n (pc' := 285) dX11_deviceLine_284 rfl rfl (q_getR (pc' := 288) dX11_deviceLine_285 rfl fr_RX11_20 ⟨by omega, rfl⟩ rfl (wM_26 hM) (by decide) (q_iload_n (pc' := 289) dX11_deviceLine_288 rfl rfl (q_iload (pc' := 291) dX11_deviceLine_289 rfl rfl (q_iast (pc' := 292) (D 0 2) dX11_deviceLine_291 rfl (by first | exact ⟨by omega, rfl⟩ | exact okaS hi hz (by decide) rfl | assumption) (by (first | (simp only [nI_add, pk_mul]; done) | (simp only [nI_add, pk_mul]; exact nI_e (by omega)) | exact nI_e (by omega))) (by omega) (q_aload_n (pc' := 293) dX11_deviceLine_292 rfl rfl (q_getR (pc' := 296) dX11_deviceLine_293 rfl fr_RX11_23 ⟨by omega, rfl⟩ rfl (wM_27 hM) (by decide) (q_iload_n (pc' := 297) dX11_deviceLine_296 rfl rfl (q_iload (pc' := 299) dX11_deviceLine_297 rfl rfl (q_iast (pc' := 300) (D 0 2) dX11_deviceLine_299 rfl (by first | exact ⟨by omega, rfl⟩ | exact okaS hi hz (by decide) rfl | assumption) (by (first | (simp only [nI_add, pk_mul]; done) | (simp only [nI_add, pk_mul]; exact nI_e (by omega)) | exact nI_e (by omega))) (by omega) (q_aload_n (pc' := 301) dX11_deviceLine_300 rfl rfl ?_)))))))))))) (fun h9 => absurd (by rw [g]; decide) h9)))
                refine q_getR (pc' := 304) dX11_deviceLine_301 rfl fr_RX11_26 ⟨by omega, rfl⟩ rfl (wM_28 hM) (by decide) (q_iload_n (pc' := 305) dX11_deviceLine_304 rfl rfl (q_iload (pc' := 307) dX11_deviceLine_305 rfl rfl (q_iast (pc' := 308) (D 0 2) dX11_deviceLine_307 rfl (by first | exact ⟨by omega, rfl⟩ | exact okaS hi hz (by decide) rfl | assumption) (by (first | (simp only [nI_add, pk_mul]; done) | (simp only [nI_add, pk_mul]; exact nI_e (by omega)) | exact nI_e (by omega))) (by omega) (q_aload_n (pc' := 309) dX11_deviceLine_308 rfl rfl (q_dup_a (pc' := 310) dX11_deviceLine_309 rfl (q_getIe (pc' := 313) dX11_deviceLine_310 rfl fr_RX11_208 ⟨by omega, rfl⟩ rfl e17 (q_iconst (pc' := 314) _ dX11_deviceLine_313 rfl kk_iconst_1 (q_iadd (pc' := 315) dX11_deviceLine_314 rfl ?_))))))))
                refine q_top (nI_add (D 0 2) 1) ?_
                exact q_putI (pc' := 318) dX11_deviceLine_315 rfl fl_RX11_208 ⟨by omega, rfl⟩ rfl (q_vret dX11_deviceLine_318 rfl (hgood I6 J6 g h6 hn6))
              · exact q_aload_n (pc' := 277) dX11_deviceLine_276 rfl rfl (q_getIe (pc' := 280) dX11_deviceLine_277 rfl fr_RX11_126 ⟨by omega, rfl⟩ rfl e8 (q_if_le (pc' := 283) (pt := 284) dX11_deviceLine_280 rfl rfl (fun h9 => absurd h9 (Int32.not_le.mpr (nI_lt (a := 0) (by omega) (Nat.lt_trans b8 (by decide))))) (fun _ => (q_vret dX11_deviceLine_283 rfl (hbad I6 J6 g h6 hn6)))))
            have e13 : I5 452 13 = nI (D 0 0) := hn5.1.1.1
            by_cases hon : kIs H 28526 = true
            · have eS : dvS T sz (D 0 0) H = kSetOf T sz (D 0 0) 0 (tkK T sz H) := if_pos hon
              refine q_iconst (pc' := 242) _ dX11_deviceLine_241 rfl kk_iconst_1 (q_aload_n (pc' := 243) dX11_deviceLine_242 rfl rfl (q_getIe (pc' := 246) dX11_deviceLine_243 rfl fr_RX11_196 ⟨by omega, rfl⟩ rfl e13 (q_ishl (pc' := 247) dX11_deviceLine_246 rfl (q_iconst (pc' := 248) _ dX11_deviceLine_247 rfl kk_iconst_1 (q_isub (pc' := 249) dX11_deviceLine_248 rfl (q_ist_6 (pc' := 251) dX11_deviceLine_249 rfl (by decide) rfl (q_aload_n (pc' := 252) dX11_deviceLine_251 rfl rfl (q_ldc2 (pc' := 255) _ dX11_deviceLine_252 rfl kl_RX11_161 (q_cVi (pc' := 258) dX11_deviceLine_255 rfl ml_RX11_131 yv_X11_isWord (by decide) (rn_word 28526 h5 hkH (by decide)) ⟨by omega, rfl⟩ rfl rfl (Nat.le_of_ble_eq_true rfl) (Nat.le_refl _) (q_ifb_eq (pc' := 261) (pt := 276) dX11_deviceLine_258 rfl rfl (fun h9 => Bool.noConfusion (Eq.trans (Eq.symm (hon)) h9)) (fun _ => (q_aload_n (pc' := 262) dX11_deviceLine_261 rfl rfl (q_tVv (pc' := 265) dX11_deviceLine_262 rfl ml_RX11_186 yv_X11_goOn (by decide) (rt_X11_goOn hM h5 hkH.1) ⟨by omega, rfl⟩ rfl rfl (Nat.le_of_ble_eq_true rfl) (Nat.le_refl _) (fun I6 J6 R6 ⟨h6, f6, eR⟩ => ?_))))))))))))))
              rw [eR]
              have hkt := kOK_tk (T := T) hkH
              have hn6 := mDn_rf f6 hn5
              have e13' : I6 452 13 = nI (D 0 0) := hn6.1.1.1
              refine q_aload_n (pc' := 266) dX11_deviceLine_265 rfl rfl (q_aload_n (pc' := 267) dX11_deviceLine_266 rfl rfl (q_getIe (pc' := 270) dX11_deviceLine_267 rfl fr_RX11_196 ⟨by omega, rfl⟩ rfl e13' (q_iconst (pc' := 271) _ dX11_deviceLine_270 rfl kk_iconst_0 (q_tVi (pc' := 274) dX11_deviceLine_271 rfl ml_RX11_228 yv_X11_setOf (by decide) (rt_X11_setOf hM h6 hkt (by omega) (by decide)) ⟨by omega, rfl⟩ rfl rfl (Nat.le_of_ble_eq_true rfl) (Nat.le_refl _) (fun x7 I7 J7 R7 ⟨r7, l7, h7, k7, f7, eR7⟩ => ?_)))))
              rw [eR7, r7]
              rw [eS] at p276
              refine q_ist_6 (pc' := 276) dX11_deviceLine_274 rfl (by decide) rfl ?_
              exact p276 I7 J7 h7 (mDn_rf f7 hn6)
            · have eS : dvS T sz (D 0 0) H = (2 ^ D 0 0 - 1, H) := if_neg hon
              rw [eS] at p276
              refine q_iconst (pc' := 242) _ dX11_deviceLine_241 rfl kk_iconst_1 (q_aload_n (pc' := 243) dX11_deviceLine_242 rfl rfl (q_getIe (pc' := 246) dX11_deviceLine_243 rfl fr_RX11_196 ⟨by omega, rfl⟩ rfl e13 (q_ishl (pc' := 247) dX11_deviceLine_246 rfl (q_iconst (pc' := 248) _ dX11_deviceLine_247 rfl kk_iconst_1 (q_isub (pc' := 249) dX11_deviceLine_248 rfl ?_)))))
              refine q_top (sh_m1 hc8) ?_
              refine q_ist_6 (pc' := 251) dX11_deviceLine_249 rfl (by decide) rfl (q_aload_n (pc' := 252) dX11_deviceLine_251 rfl rfl (q_ldc2 (pc' := 255) _ dX11_deviceLine_252 rfl kl_RX11_161 (q_cVi (pc' := 258) dX11_deviceLine_255 rfl ml_RX11_131 yv_X11_isWord (by decide) (rn_word 28526 h5 hkH (by decide)) ⟨by omega, rfl⟩ rfl rfl (Nat.le_of_ble_eq_true rfl) (Nat.le_refl _) (q_ifb_eq (pc' := 261) (pt := 276) dX11_deviceLine_258 rfl rfl (fun _ => ?_) (fun h9 => Bool.noConfusion (Eq.trans (Eq.symm (Bool.eq_false_iff.mpr hon)) h9))))))
              exact p276 I5 J5 h5 hn5
          by_cases h1o : o = some 1
          · have eH : dvH T sz o F = F := if_pos h1o
            refine q_iload (pc' := 226) dX11_deviceLine_224 rfl rfl (q_iconst (pc' := 227) _ dX11_deviceLine_226 rfl kk_iconst_1 (q_icmp_eq (pc' := 230) (pt := 241) dX11_deviceLine_227 rfl rfl (fun _ => ?_) (fun h9 => absurd ((oI_eq hol (by decide)).mpr h1o) h9)))
            exact p241 I4 J2 (by rw [eH]; exact h4) hn4
          · have eH : dvH T sz o F = kG T sz F := if_neg h1o
            have hi1 : ¬ oI o = nI 1 := fun q => h1o ((oI_eq hol (by decide)).mp q)
            by_cases g : F 8 = 0
            · refine q_iload (pc' := 226) dX11_deviceLine_224 rfl rfl (q_iconst (pc' := 227) _ dX11_deviceLine_226 rfl kk_iconst_1 (q_icmp_eq (pc' := 230) (pt := 241) dX11_deviceLine_227 rfl rfl (fun h9 => absurd h9 (hi1)) (fun _ => (q_aload_n (pc' := 231) dX11_deviceLine_230 rfl rfl (q_cVi (pc' := 234) dX11_deviceLine_231 rfl ml_RX11_182 yv_X11_isGood (by decide) (rn_good h4 hkF) ⟨by omega, rfl⟩ rfl rfl (Nat.le_of_ble_eq_true rfl) (Nat.le_refl _) (q_ifb_eq (pc' := 237) (pt := 241) dX11_deviceLine_234 rfl rfl (fun h9 => Bool.noConfusion (Eq.trans (Eq.symm (beq_iff_eq.mpr g)) h9)) (fun _ => (q_aload_n (pc' := 238) dX11_deviceLine_237 rfl rfl (q_tVv (pc' := 241) dX11_deviceLine_238 rfl ml_RX11_186 yv_X11_goOn (by decide) (rt_X11_goOn hM h4 hkF.1) ⟨by omega, rfl⟩ rfl rfl (Nat.le_of_ble_eq_true rfl) (Nat.le_refl _) (fun I5 J5 R5 ⟨h5, f5, eR⟩ => ?_))))))))))
              rw [eR]
              exact p241 I5 J5 (by rw [eH]; unfold kG; rw [if_pos g]; exact h5) (mDn_rf f5 hn4)
            · refine q_iload (pc' := 226) dX11_deviceLine_224 rfl rfl (q_iconst (pc' := 227) _ dX11_deviceLine_226 rfl kk_iconst_1 (q_icmp_eq (pc' := 230) (pt := 241) dX11_deviceLine_227 rfl rfl (fun h9 => absurd h9 (hi1)) (fun _ => (q_aload_n (pc' := 231) dX11_deviceLine_230 rfl rfl (q_cVi (pc' := 234) dX11_deviceLine_231 rfl ml_RX11_182 yv_X11_isGood (by decide) (rn_good h4 hkF) ⟨by omega, rfl⟩ rfl rfl (Nat.le_of_ble_eq_true rfl) (Nat.le_refl _) (q_ifb_eq (pc' := 237) (pt := 241) dX11_deviceLine_234 rfl rfl (fun _ => ?_) (fun h9 => Bool.noConfusion (Eq.trans (Eq.symm (beq_eq_false_iff_ne.mpr g)) h9))))))))
              exact p241 I4 J2 (by rw [eH]; unfold kG; rw [if_neg g]; exact h4) hn4
        by_cases h2o : o = some 2
        · have hi2 : oI o = nI 2 := (oI_eq hol (by decide)).mpr h2o
          by_cases g : E 8 = 0
          · by_cases hp : ln &&& (ln - 1) = 0
            · have eF : dvF o ln E = E := if_neg (fun q => q.2.2 hp)
              refine q_ist_5 (pc' := 196) dX11_deviceLine_194 rfl (by decide) rfl (q_iload (pc' := 198) dX11_deviceLine_196 rfl rfl (q_iconst (pc' := 199) _ dX11_deviceLine_198 rfl kk_iconst_2 (q_icmp_ne (pc' := 202) (pt := 224) dX11_deviceLine_199 rfl rfl (fun h9 => absurd (hi2) h9) (fun _ => (q_aload_n (pc' := 203) dX11_deviceLine_202 rfl rfl (q_cVi (pc' := 206) dX11_deviceLine_203 rfl ml_RX11_182 yv_X11_isGood (by decide) (rn_good h3 hkE) ⟨by omega, rfl⟩ rfl rfl (Nat.le_of_ble_eq_true rfl) (Nat.le_refl _) (q_ifb_eq (pc' := 209) (pt := 224) dX11_deviceLine_206 rfl rfl (fun h9 => Bool.noConfusion (Eq.trans (Eq.symm (beq_iff_eq.mpr g)) h9)) (fun _ => (q_iload (pc' := 211) dX11_deviceLine_209 rfl rfl (q_iload (pc' := 213) dX11_deviceLine_211 rfl rfl (q_iconst (pc' := 214) _ dX11_deviceLine_213 rfl kk_iconst_1 (q_isub (pc' := 215) dX11_deviceLine_214 rfl (q_iand (pc' := 216) dX11_deviceLine_215 rfl (q_if_eq (pc' := 219) (pt := 224) dX11_deviceLine_216 rfl rfl (fun _ => ?_) (fun h9 => absurd ((pw_and ln).trans (congrArg nI hp)) h9)))))))))))))))
              exact p224 I3 (by rw [eF]; exact h3) hn3
            · have eF : dvF o ln E = kW E 4 := if_pos ⟨h2o, g, hp⟩
              have hpb : ln &&& (ln - 1) < 2 ^ 31 := Nat.lt_of_le_of_lt Nat.and_le_left (by omega)
              refine q_ist_5 (pc' := 196) dX11_deviceLine_194 rfl (by decide) rfl (q_iload (pc' := 198) dX11_deviceLine_196 rfl rfl (q_iconst (pc' := 199) _ dX11_deviceLine_198 rfl kk_iconst_2 (q_icmp_ne (pc' := 202) (pt := 224) dX11_deviceLine_199 rfl rfl (fun h9 => absurd (hi2) h9) (fun _ => (q_aload_n (pc' := 203) dX11_deviceLine_202 rfl rfl (q_cVi (pc' := 206) dX11_deviceLine_203 rfl ml_RX11_182 yv_X11_isGood (by decide) (rn_good h3 hkE) ⟨by omega, rfl⟩ rfl rfl (Nat.le_of_ble_eq_true rfl) (Nat.le_refl _) (q_ifb_eq (pc' := 209) (pt := 224) dX11_deviceLine_206 rfl rfl (fun h9 => Bool.noConfusion (Eq.trans (Eq.symm (beq_iff_eq.mpr g)) h9)) (fun _ => (q_iload (pc' := 211) dX11_deviceLine_209 rfl rfl (q_iload (pc' := 213) dX11_deviceLine_211 rfl rfl (q_iconst (pc' := 214) _ dX11_deviceLine_213 rfl kk_iconst_1 (q_isub (pc' := 215) dX11_deviceLine_214 rfl (q_iand (pc' := 216) dX11_deviceLine_215 rfl (q_if_eq (pc' := 219) (pt := 224) dX11_deviceLine_216 rfl rfl (fun h9 => absurd h9 (fun q => hp ((nI_eq (b := 0) hpb (by decide)).mp ((pw_and ln).symm.trans q)))) (fun _ => (q_aload_n (pc' := 220) dX11_deviceLine_219 rfl rfl ?_))))))))))))))))
              refine q_iconst (pc' := 221) _ dX11_deviceLine_220 rfl kk_iconst_4 (q_sVv (pc' := 224) dX11_deviceLine_221 rfl ml_RX11_175 yv_X11_wrong (by decide) (rs_wrong (x := 4) h3 hkE (by decide)) ⟨by omega, rfl⟩ rfl rfl (Nat.le_of_ble_eq_true rfl) (Nat.le_refl _) (fun I4 ⟨h4, f4⟩ => ?_))
              exact p224 I4 (by rw [eF]; exact h4) (mDn_rf f4 hn3)
          · have eF : dvF o ln E = E := if_neg (fun q => g q.2.1)
            refine q_ist_5 (pc' := 196) dX11_deviceLine_194 rfl (by decide) rfl (q_iload (pc' := 198) dX11_deviceLine_196 rfl rfl (q_iconst (pc' := 199) _ dX11_deviceLine_198 rfl kk_iconst_2 (q_icmp_ne (pc' := 202) (pt := 224) dX11_deviceLine_199 rfl rfl (fun h9 => absurd (hi2) h9) (fun _ => (q_aload_n (pc' := 203) dX11_deviceLine_202 rfl rfl (q_cVi (pc' := 206) dX11_deviceLine_203 rfl ml_RX11_182 yv_X11_isGood (by decide) (rn_good h3 hkE) ⟨by omega, rfl⟩ rfl rfl (Nat.le_of_ble_eq_true rfl) (Nat.le_refl _) (q_ifb_eq (pc' := 209) (pt := 224) dX11_deviceLine_206 rfl rfl (fun _ => ?_) (fun h9 => Bool.noConfusion (Eq.trans (Eq.symm (beq_eq_false_iff_ne.mpr g)) h9)))))))))
            exact p224 I3 (by rw [eF]; exact h3) hn3
        · have eF : dvF o ln E = E := if_neg (fun q => h2o q.1)
          have hi2 : ¬ oI o = nI 2 := fun q => h2o ((oI_eq hol (by decide)).mp q)
          refine q_ist_5 (pc' := 196) dX11_deviceLine_194 rfl (by decide) rfl (q_iload (pc' := 198) dX11_deviceLine_196 rfl rfl (q_iconst (pc' := 199) _ dX11_deviceLine_198 rfl kk_iconst_2 (q_icmp_ne (pc' := 202) (pt := 224) dX11_deviceLine_199 rfl rfl (fun _ => ?_) (fun h9 => absurd h9 (hi2)))))
          exact p224 I3 (by rw [eF]; exact h3) hn3
      by_cases h1o : o = some 1
      · have eE : dvE o C = C := if_pos h1o
        have eL : dvLn o C = 1 := if_pos h1o
        rw [eL] at p194
        refine q_iload (pc' := 169) dX11_deviceLine_167 rfl rfl (q_iconst (pc' := 170) _ dX11_deviceLine_169 rfl kk_iconst_1 (q_icmp_ne (pc' := 173) (pt := 177) dX11_deviceLine_170 rfl rfl (fun h9 => absurd ((oI_eq hol (by decide)).mpr h1o) h9) (fun _ => (q_iconst (pc' := 174) _ dX11_deviceLine_173 rfl kk_iconst_1 (q_goto (pc' := 194) dX11_deviceLine_174 rfl ?_)))))
        exact p194 I2 (by rw [eE]; exact h2) hn2
      · have eL : nI (dvLn o C) = (if C 8 = 0 then nI (C 6) else 0) := by
          unfold dvLn
          rw [if_neg h1o]
          split <;> rfl
        have hi1 : ¬ oI o = nI 1 := fun q => h1o ((oI_eq hol (by decide)).mp q)
        by_cases h2o : o = some 2
        · have eE : dvE o C = kN C (nI 2) (nI 8) := by unfold dvE; rw [if_neg h1o, if_pos h2o]
          refine q_iload (pc' := 169) dX11_deviceLine_167 rfl rfl (q_iconst (pc' := 170) _ dX11_deviceLine_169 rfl kk_iconst_1 (q_icmp_ne (pc' := 173) (pt := 177) dX11_deviceLine_170 rfl rfl (fun _ => (q_aload_n (pc' := 178) dX11_deviceLine_177 rfl rfl (q_iload (pc' := 180) dX11_deviceLine_178 rfl rfl (q_iconst (pc' := 181) _ dX11_deviceLine_180 rfl kk_iconst_2 (q_icmp_ne (pc' := 184) (pt := 188) dX11_deviceLine_181 rfl rfl (fun h9 => absurd ((oI_eq hol (by decide)).mpr h2o) h9) (fun _ => (q_iconst (pc' := 185) _ dX11_deviceLine_184 rfl kk_iconst_2 (q_goto (pc' := 189) dX11_deviceLine_185 rfl (q_bipush (pc' := 191) _ dX11_deviceLine_189 rfl kk_bipush_8 (q_sVi (pc' := 194) dX11_deviceLine_191 rfl ml_RX11_178 yv_X11_numberHere (by decide) (rs_number h2 hkC) ⟨by omega, rfl⟩ rfl rfl (Nat.le_of_ble_eq_true rfl) (Nat.le_refl _) (fun x3 I3 ⟨r3, h3, f3⟩ => ?_))))))))))) (fun h9 => absurd h9 (hi1))))
          rw [r3, ← eL]
          exact p194 I3 (by rw [eE]; exact h3) (mDn_rf f3 hn2)
        · have eE : dvE o C = kN C (nI 1) (nI 8) := by unfold dvE; rw [if_neg h1o, if_neg h2o]
          have hi2 : ¬ oI o = nI 2 := fun q => h2o ((oI_eq hol (by decide)).mp q)
          refine q_iload (pc' := 169) dX11_deviceLine_167 rfl rfl (q_iconst (pc' := 170) _ dX11_deviceLine_169 rfl kk_iconst_1 (q_icmp_ne (pc' := 173) (pt := 177) dX11_deviceLine_170 rfl rfl (fun _ => (q_aload_n (pc' := 178) dX11_deviceLine_177 rfl rfl (q_iload (pc' := 180) dX11_deviceLine_178 rfl rfl (q_iconst (pc' := 181) _ dX11_deviceLine_180 rfl kk_iconst_2 (q_icmp_ne (pc' := 184) (pt := 188) dX11_deviceLine_181 rfl rfl (fun _ => (q_iconst (pc' := 189) _ dX11_deviceLine_188 rfl kk_iconst_1 (q_bipush (pc' := 191) _ dX11_deviceLine_189 rfl kk_bipush_8 (q_sVi (pc' := 194) dX11_deviceLine_191 rfl ml_RX11_178 yv_X11_numberHere (by decide) (rs_number h2 hkC) ⟨by omega, rfl⟩ rfl rfl (Nat.le_of_ble_eq_true rfl) (Nat.le_refl _) (fun x3 I3 ⟨r3, h3, f3⟩ => ?_))))) (fun h9 => absurd h9 (hi2))))))) (fun h9 => absurd h9 (hi1))))
          rw [r3, ← eL]
          exact p194 I3 (by rw [eE]; exact h3) (mDn_rf f3 hn2)
    have p156 : ∀ I2, mRd I2 J1 T sz (if o = none then kW K 2 else K) → kOK sz (if o = none then kW K 2 else K) → mDn I J D lt nm I2 J1 → Wq dd_X11_deviceLine (mj_mk w l 472 Y) Q 156 [some (.ref 452), some (.int (nI (D 0 2))), some (.long (nJ nm)), none, some (.int (oI o)), o5, o6] [] (472, I2, J1, R) := by
      intro I2 h2 hk2 hn2
      by_cases g : (if o = none then kW K 2 else K) 8 = 0
      · refine q_aload_n (pc' := 157) dX11_deviceLine_156 rfl rfl (q_cVi (pc' := 160) dX11_deviceLine_157 rfl ml_RX11_182 yv_X11_isGood (by decide) (rn_good h2 hk2) ⟨by omega, rfl⟩ rfl rfl (Nat.le_of_ble_eq_true rfl) (Nat.le_refl _) (q_ifb_eq (pc' := 163) (pt := 167) dX11_deviceLine_160 rfl rfl (fun h9 => Bool.noConfusion (Eq.trans (Eq.symm (beq_iff_eq.mpr g)) h9)) (fun _ => (q_aload_n (pc' := 164) dX11_deviceLine_163 rfl rfl (q_tVv (pc' := 167) dX11_deviceLine_164 rfl ml_RX11_186 yv_X11_goOn (by decide) (rt_X11_goOn hM h2 hk2.1) ⟨by omega, rfl⟩ rfl rfl (Nat.le_of_ble_eq_true rfl) (Nat.le_refl _) (fun I3 J3 R3 ⟨h3, f3, eR⟩ => ?_))))))
        rw [eR]
        exact p167 I3 J3 (by unfold dvC kG; rw [if_pos g]; exact h3) (mDn_rf f3 hn2)
      · refine q_aload_n (pc' := 157) dX11_deviceLine_156 rfl rfl (q_cVi (pc' := 160) dX11_deviceLine_157 rfl ml_RX11_182 yv_X11_isGood (by decide) (rn_good h2 hk2) ⟨by omega, rfl⟩ rfl rfl (Nat.le_of_ble_eq_true rfl) (Nat.le_refl _) (q_ifb_eq (pc' := 163) (pt := 167) dX11_deviceLine_160 rfl rfl (fun _ => ?_) (fun h9 => Bool.noConfusion (Eq.trans (Eq.symm (beq_eq_false_iff_ne.mpr g)) h9))))
        exact p167 I2 J1 (by unfold dvC kG; rw [if_neg g]; exact h2) hn2
    cases o with
    | none =>
      refine q_ist_4 (pc' := 145) dX11_deviceLine_143 rfl (by decide) rfl (q_iload (pc' := 147) dX11_deviceLine_145 rfl rfl (q_iconst (pc' := 148) _ dX11_deviceLine_147 rfl kk_iconst_m1 (q_icmp_ne (pc' := 151) (pt := 156) dX11_deviceLine_148 rfl rfl (fun h9 => absurd (rfl) h9) (fun _ => (q_aload_n (pc' := 152) dX11_deviceLine_151 rfl rfl (q_iconst (pc' := 153) _ dX11_deviceLine_152 rfl kk_iconst_2 (q_sVv (pc' := 156) dX11_deviceLine_153 rfl ml_RX11_175 yv_X11_wrong (by decide) (rs_wrong (x := 2) h1 hk (by decide)) ⟨by omega, rfl⟩ rfl rfl (Nat.le_of_ble_eq_true rfl) (Nat.le_refl _) (fun I2 ⟨h2, f2⟩ => ?_))))))))
      exact p156 I2 h2 (kOK_w hk (by decide)) (mDn_rf f2 h0)
    | some i =>
      have hi4 := hol i rfl
      refine q_ist_4 (pc' := 145) dX11_deviceLine_143 rfl (by decide) rfl (q_iload (pc' := 147) dX11_deviceLine_145 rfl rfl (q_iconst (pc' := 148) _ dX11_deviceLine_147 rfl kk_iconst_m1 (q_icmp_ne (pc' := 151) (pt := 156) dX11_deviceLine_148 rfl rfl (fun _ => ?_) (fun h9 => absurd h9 (nI_m1 (by omega))))))
      exact p156 I1 h1 hk h0
  by_cases g1 : kIs K 126896661032037 = true
  · refine q_aload_n (pc' := 101) dX11_deviceLine_100 rfl rfl (q_ldc2 (pc' := 104) _ dX11_deviceLine_101 rfl kl_RX11_163 (q_cVi (pc' := 107) dX11_deviceLine_104 rfl ml_RX11_131 yv_X11_isWord (by decide) (rn_word 126896661032037 h1 hk (by decide)) ⟨by omega, rfl⟩ rfl rfl (Nat.le_of_ble_eq_true rfl) (Nat.le_refl _) (q_ifb_eq (pc' := 110) (pt := 114) dX11_deviceLine_107 rfl rfl (fun h9 => Bool.noConfusion (Eq.trans (Eq.symm (g1)) h9)) (fun _ => (q_iconst (pc' := 111) _ dX11_deviceLine_110 rfl kk_iconst_1 (q_goto (pc' := 143) dX11_deviceLine_111 rfl ?_))))))
    exact p143 (some 1) _ _ _ (if_pos g1)
  · by_cases g2 : kIs K 444301538672 = true
    · refine q_aload_n (pc' := 101) dX11_deviceLine_100 rfl rfl (q_ldc2 (pc' := 104) _ dX11_deviceLine_101 rfl kl_RX11_163 (q_cVi (pc' := 107) dX11_deviceLine_104 rfl ml_RX11_131 yv_X11_isWord (by decide) (rn_word 126896661032037 h1 hk (by decide)) ⟨by omega, rfl⟩ rfl rfl (Nat.le_of_ble_eq_true rfl) (Nat.le_refl _) (q_ifb_eq (pc' := 110) (pt := 114) dX11_deviceLine_107 rfl rfl (fun _ => (q_aload_n (pc' := 115) dX11_deviceLine_114 rfl rfl (q_ldc2 (pc' := 118) _ dX11_deviceLine_115 rfl kl_RX11_165 (q_cVi (pc' := 121) dX11_deviceLine_118 rfl ml_RX11_131 yv_X11_isWord (by decide) (rn_word 444301538672 h1 hk (by decide)) ⟨by omega, rfl⟩ rfl rfl (Nat.le_of_ble_eq_true rfl) (Nat.le_refl _) (q_ifb_eq (pc' := 124) (pt := 128) dX11_deviceLine_121 rfl rfl (fun h9 => Bool.noConfusion (Eq.trans (Eq.symm (g2)) h9)) (fun _ => (q_iconst (pc' := 125) _ dX11_deviceLine_124 rfl kk_iconst_2 (q_goto (pc' := 143) dX11_deviceLine_125 rfl ?_)))))))) (fun h9 => Bool.noConfusion (Eq.trans (Eq.symm (Bool.eq_false_iff.mpr g1)) h9)))))
      exact p143 (some 2) _ _ _ (by unfold dvKd; rw [if_neg g1, if_pos g2])
    · by_cases g3 : kIs K 30787899169924452 = true
      · refine q_aload_n (pc' := 101) dX11_deviceLine_100 rfl rfl (q_ldc2 (pc' := 104) _ dX11_deviceLine_101 rfl kl_RX11_163 (q_cVi (pc' := 107) dX11_deviceLine_104 rfl ml_RX11_131 yv_X11_isWord (by decide) (rn_word 126896661032037 h1 hk (by decide)) ⟨by omega, rfl⟩ rfl rfl (Nat.le_of_ble_eq_true rfl) (Nat.le_refl _) (q_ifb_eq (pc' := 110) (pt := 114) dX11_deviceLine_107 rfl rfl (fun _ => (q_aload_n (pc' := 115) dX11_deviceLine_114 rfl rfl (q_ldc2 (pc' := 118) _ dX11_deviceLine_115 rfl kl_RX11_165 (q_cVi (pc' := 121) dX11_deviceLine_118 rfl ml_RX11_131 yv_X11_isWord (by decide) (rn_word 444301538672 h1 hk (by decide)) ⟨by omega, rfl⟩ rfl rfl (Nat.le_of_ble_eq_true rfl) (Nat.le_refl _) (q_ifb_eq (pc' := 124) (pt := 128) dX11_deviceLine_121 rfl rfl (fun _ => (q_aload_n (pc' := 129) dX11_deviceLine_128 rfl rfl (q_ldc2 (pc' := 132) _ dX11_deviceLine_129 rfl kl_RX11_167 (q_cVi (pc' := 135) dX11_deviceLine_132 rfl ml_RX11_131 yv_X11_isWord (by decide) (rn_word 30787899169924452 h1 hk (by decide)) ⟨by omega, rfl⟩ rfl rfl (Nat.le_of_ble_eq_true rfl) (Nat.le_refl _) (q_ifb_eq (pc' := 138) (pt := 142) dX11_deviceLine_135 rfl rfl (fun h9 => Bool.noConfusion (Eq.trans (Eq.symm (g3)) h9)) (fun _ => (q_iconst (pc' := 139) _ dX11_deviceLine_138 rfl kk_iconst_3 (q_goto (pc' := 143) dX11_deviceLine_139 rfl ?_)))))))) (fun h9 => Bool.noConfusion (Eq.trans (Eq.symm (Bool.eq_false_iff.mpr g2)) h9))))))) (fun h9 => Bool.noConfusion (Eq.trans (Eq.symm (Bool.eq_false_iff.mpr g1)) h9)))))
        exact p143 (some 3) _ _ _ (by unfold dvKd; rw [if_neg g1, if_neg g2, if_pos g3])
      · refine q_aload_n (pc' := 101) dX11_deviceLine_100 rfl rfl (q_ldc2 (pc' := 104) _ dX11_deviceLine_101 rfl kl_RX11_163 (q_cVi (pc' := 107) dX11_deviceLine_104 rfl ml_RX11_131 yv_X11_isWord (by decide) (rn_word 126896661032037 h1 hk (by decide)) ⟨by omega, rfl⟩ rfl rfl (Nat.le_of_ble_eq_true rfl) (Nat.le_refl _) (q_ifb_eq (pc' := 110) (pt := 114) dX11_deviceLine_107 rfl rfl (fun _ => (q_aload_n (pc' := 115) dX11_deviceLine_114 rfl rfl (q_ldc2 (pc' := 118) _ dX11_deviceLine_115 rfl kl_RX11_165 (q_cVi (pc' := 121) dX11_deviceLine_118 rfl ml_RX11_131 yv_X11_isWord (by decide) (rn_word 444301538672 h1 hk (by decide)) ⟨by omega, rfl⟩ rfl rfl (Nat.le_of_ble_eq_true rfl) (Nat.le_refl _) (q_ifb_eq (pc' := 124) (pt := 128) dX11_deviceLine_121 rfl rfl (fun _ => (q_aload_n (pc' := 129) dX11_deviceLine_128 rfl rfl (q_ldc2 (pc' := 132) _ dX11_deviceLine_129 rfl kl_RX11_167 (q_cVi (pc' := 135) dX11_deviceLine_132 rfl ml_RX11_131 yv_X11_isWord (by decide) (rn_word 30787899169924452 h1 hk (by decide)) ⟨by omega, rfl⟩ rfl rfl (Nat.le_of_ble_eq_true rfl) (Nat.le_refl _) (q_ifb_eq (pc' := 138) (pt := 142) dX11_deviceLine_135 rfl rfl (fun _ => (q_iconst (pc' := 143) _ dX11_deviceLine_142 rfl kk_iconst_m1 ?_)) (fun h9 => Bool.noConfusion (Eq.trans (Eq.symm (Bool.eq_false_iff.mpr g3)) h9))))))) (fun h9 => Bool.noConfusion (Eq.trans (Eq.symm (Bool.eq_false_iff.mpr g2)) h9))))))) (fun h9 => Bool.noConfusion (Eq.trans (Eq.symm (Bool.eq_false_iff.mpr g1)) h9)))))
        exact p143 none _ _ _ (by unfold dvKd; rw [if_neg g1, if_neg g2, if_neg g3])
theorem rt_X11_deviceLine (hM : mj_wM R) (h : mRd I J T sz K) (hk : kOK sz K) (hD : mD I J D) (hB : bOK D) (hN : bNm D) : RtV w l yX11_deviceLine dd_X11_deviceLine [.ref 452] (472, I, J, R) (fun I' J' R' => mRd I' J' T sz (kDv T sz D K).1 ∧ mD I' J' (kDv T sz D K).2 ∧ mDf I J I' J' ∧ R' = R) := by
  refine rt_intro2 (L := [some (.ref 452), none, none, none, none, none, none]) ⟨by decide, rfl, (fun h => by cases h)⟩ (Nat.le_of_ble_eq_true rfl) rfl (fun Y Q hQ => ?_)
  refine w_dv1 Q _ hM h hk hD hB hN (fun I1 J1 g h1 f1 => ?_) (fun I1 J1 o4 o5 o6 g h1 f1 => ?_)
  · have e : kDv T sz D K = (dvB T sz D K, D) := if_neg g
    rw [e] at hQ
    exact hQ _ _ _ _ ⟨rfl, h1, mD_rf f1 hD, f1.df, rfl⟩
  · have hkA := kOK_dvA (T := T) (D := D) hk
    have hkB : kOK sz (dvB T sz D K) := kOK_dvB1 hkA
    obtain ⟨g1, g2, g3, g4, g5⟩ := dvB_good g
    have h10 : D 0 2 < 10 := by
      have := (dvA_good g2).1
      have := hB.2.2.1
      omega
    have e7 := h1.2.2.1 7 (by decide) (by decide)
    have hD1 := mD_rf f1 hD
    have h2 : mRd (mj_up I1 460 (D 0 2) (nI (dvB T sz D K 7))) (mj_up J1 462 (D 0 2) (nJ (dvB T sz D K 12))) T sz (dvB T sz D K) := mRd_ar (by decide) (by decide) (mRd_J h1)
    have hn2 : mDn I J D (dvB T sz D K 7) (dvB T sz D K 12) (mj_up I1 460 (D 0 2) (nI (dvB T sz D K 7))) (mj_up J1 462 (D 0 2) (nJ (dvB T sz D K 12))) := by
      refine ⟨?_, mj_up_eq, mj_up_eq, ?_⟩
      · have hx := mD_up (x := nI (dvB T sz D K 7)) (a := 460) (by decide) hD1
        refine ⟨hx.1, hx.2.1, fun d hd => ?_⟩
        have hy := hx.2.2 d hd
        refine ⟨hy.1, hy.2.1, hy.2.2.1, hy.2.2.2.1, ?_⟩
        rw [mj_up_ne2 (by omega)]
        exact hy.2.2.2.2
      · refine (f1.df.tr (mDf_up (a := 460) (by decide))).tr ⟨fun _ _ _ _ _ _ => rfl, fun _ _ => rfl, fun a f _ ha => mj_up_ne ha⟩
    refine q_aload_n (pc' := 80) dX11_deviceLine_79 rfl rfl (q_getR (pc' := 83) dX11_deviceLine_80 rfl fr_RX11_44 ⟨by omega, rfl⟩ rfl (wM_34 hM) (by decide) (q_iload_n (pc' := 84) dX11_deviceLine_83 rfl rfl (q_lload_n (pc' := 85) dX11_deviceLine_84 rfl rfl (q_last (pc' := 86) (D 0 2) dX11_deviceLine_85 rfl (by first | exact ⟨by omega, rfl⟩ | exact okaS hi hz (by decide) rfl | assumption) (by (first | (simp only [nI_add, pk_mul]; done) | (simp only [nI_add, pk_mul]; exact nI_e (by omega)) | exact nI_e (by omega))) (by omega) (q_aload_n (pc' := 87) dX11_deviceLine_86 rfl rfl (q_getR (pc' := 90) dX11_deviceLine_87 rfl fr_RX11_38 ⟨by omega, rfl⟩ rfl (wM_32 hM) (by decide) (q_iload_n (pc' := 91) dX11_deviceLine_90 rfl rfl (q_aload_n (pc' := 92) dX11_deviceLine_91 rfl rfl (q_getIe (pc' := 95) dX11_deviceLine_92 rfl fr_RX11_113 ⟨by omega, rfl⟩ rfl e7 (q_iast (pc' := 96) (D 0 2) dX11_deviceLine_95 rfl (by first | exact ⟨by omega, rfl⟩ | exact okaS hi hz (by decide) rfl | assumption) (by (first | (simp only [nI_add, pk_mul]; done) | (simp only [nI_add, pk_mul]; exact nI_e (by omega)) | exact nI_e (by omega))) (by omega) (q_aload_n (pc' := 97) dX11_deviceLine_96 rfl rfl (q_tVv (pc' := 100) dX11_deviceLine_97 rfl ml_RX11_186 yv_X11_goOn (by decide) (rt_X11_goOn hM h2 hkB.1) ⟨by omega, rfl⟩ rfl rfl (Nat.le_of_ble_eq_true rfl) (Nat.le_refl _) (fun I3 J3 R3 ⟨h3, f3, eR⟩ => ?_)))))))))))))
    rw [eR]
    have hkt := kOK_tk (T := T) hkB
    refine w_dv2 (I := I) (J := J) Q _ hM h3 hkt (mDn_rf f3 hn2) hB h10 (fun I4 J4 q4 h4 hn4 => ?_) (fun I4 J4 q4 h4 hn4 => ?_)
    · have e : kDv T sz D K = ((dvR T sz (D 0 0) (tkK T sz (dvB T sz D K))).2, D) := by
        unfold kDv
        rw [if_pos g, if_neg q4]
      rw [e] at hQ
      exact hQ _ _ _ _ ⟨rfl, h4, hn4.1, hn4.2.2.2, rfl⟩
    · obtain ⟨r1, r2⟩ := dvR_good hkt q4
      have e : kDv T sz D K = ((dvR T sz (D 0 0) (tkK T sz (dvB T sz D K))).2, dvD D (dvKd (tkK T sz (dvB T sz D K))) (dvLn (dvKd (tkK T sz (dvB T sz D K))) (dvC T sz (dvKd (tkK T sz (dvB T sz D K))) (tkK T sz (dvB T sz D K)))) (dvR T sz (D 0 0) (tkK T sz (dvB T sz D K))).1 (dvB T sz D K 7) (dvB T sz D K 12)) := by
        unfold kDv
        rw [if_pos g, if_pos q4]
      rw [e] at hQ
      obtain ⟨i, hi⟩ := Option.ne_none_iff_exists'.mp r1
      exact hQ _ _ _ _ ⟨rfl, mRd_oth (by decide) (mRd_ar (by decide) (by decide) (mRd_ar (by decide) (by decide) (mRd_ar (by decide) (by decide) h4))), mD_dv hi hn4, (((hn4.2.2.2.tr (mDf_up (a := 454) (by decide))).tr (mDf_up (a := 455) (by decide))).tr (mDf_up (a := 456) (by decide))).tr (mDf_f (by decide)), rfl⟩
theorem kOK_dv (h : kOK sz K) : kOK sz (kDv T sz D K).1 := by
  have hkB := kOK_dvB1 (D := D) (kOK_dvA (T := T) (D := D) h)
  unfold kDv
  split
  · exact kOK_dvS (kOK_dvH (kOK_dvF (kOK_dvE (kOK_dvC (kOK_tk hkB)))))
  · exact hkB
/-- a board that was read -/
def bRd (b : St) : Prop := bOK b ∧ bNm b ∧ (b 0 3 < 2 ^ b 0 1 ∧ b 0 4 < 2 ^ b 0 0) ∧ (∀ d, d < b 0 2 → b 3 d < 2 ^ b 0 0 ∧ (b 1 d = 1 → b 2 d = 1) ∧ (b 1 d = 2 → b 2 d = 2 ∨ b 2 d = 4 ∨ b 2 d = 8) ∧ nmL (b 5 d) (b 4 d)) ∧ ∀ d e, d < b 0 2 → e < b 0 2 → b 5 d = b 5 e → d = e
theorem dLast_no {x k : Nat} (h : dLast b x k = none) : ∀ d, d < k → b 5 d ≠ x := by
  induction k with
  | zero => intro d hd; omega
  | succ k ih =>
    intro d hd
    unfold dLast at h
    split at h
    · cases h
    · rename_i hc
      by_cases e : d = k
      · rw [e]; exact hc
      · exact ih h d (by omega)
/-- a good line leaves a good board -/
theorem dv_ok (hk : kOK sz K) (hR : bRd D) : bRd (kDv T sz D K).2 ∧ ∀ j, j ≠ 2 → (kDv T sz D K).2 0 j = D 0 j := by
  unfold kDv
  by_cases g : dvB T sz D K 8 = 0
  · rw [if_pos g]
    by_cases g2 : (dvR T sz (D 0 0) (tkK T sz (dvB T sz D K))).2 8 = 0
    · rw [if_pos g2]
      have hB := hR.1
      have hkA := kOK_dvA (T := T) (D := D) hk
      have hkB : kOK sz (dvB T sz D K) := kOK_dvB1 hkA
      have hkt := kOK_tk (T := T) hkB
      obtain ⟨r1, r2, r3, r4⟩ := dvR_good hkt g2
      obtain ⟨a1, a2, a3, a4, a5⟩ := dvB_good g
      obtain ⟨c1, c2, c3⟩ := dvA_good a2
      have h10 := hB.2.2.1
      have hst : (dvR T sz (D 0 0) (tkK T sz (dvB T sz D K))).1 < 2 ^ D 0 0 := dvS_lt hB.1.2 (kOK_dvH (kOK_dvF (kOK_dvE (kOK_dvC hkt))))
      have hst2 : 2 ^ D 0 0 ≤ 2 ^ 8 := Nat.pow_le_pow_right (by decide) hB.1.2
      have e : dvB T sz D K = tkK T sz K := by unfold dvB; rw [a1, c2]
      have hwd : 1 ≤ dvB T sz D K 7 ∧ dvB T sz D K 7 ≤ 7 ∧ dvB T sz D K 12 < 256 ^ dvB T sz D K 7 ∧ nmL (dvB T sz D K 12) (dvB T sz D K 7) := by
        rw [c2] at a3 a4
        rw [e]
        have := tk_wd a3
        exact ⟨this.1, a4, this.2.1.2, this.2.2⟩
      have hnn : ∀ d, d < D 0 2 → D 5 d ≠ dvB T sz D K 12 := by
        have := dLast_no a5
        unfold kWd at this
        rw [if_pos a2, ← congrFun a1 12] at this
        exact this
      obtain ⟨i, hi⟩ := Option.ne_none_iff_exists'.mp r1
      have hi4 := dvKd_lt i hi
      have hi0 : 1 ≤ i := by
        unfold dvKd at hi
        repeat' split at hi
        all_goals first | (cases hi; done) | (cases hi; decide)
      generalize dvLn (dvKd (tkK T sz (dvB T sz D K))) (dvC T sz (dvKd (tkK T sz (dvB T sz D K))) (tkK T sz (dvB T sz D K))) = ln at r2 r3 r4 ⊢
      generalize (dvR T sz (D 0 0) (tkK T sz (dvB T sz D K))).1 = s at hst ⊢
      rw [hi] at r4 ⊢
      generalize dvB T sz D K 7 = lt at hwd ⊢
      generalize dvB T sz D K 12 = nm at hwd hnn ⊢
      have d0 : ∀ j, j ≠ 2 → dvD D (some i) ln s lt nm 0 j = D 0 j := fun j hj => by
        unfold dvD
        rw [mj_up_ne2 hj, mj_up_ne (by decide), mj_up_ne (by decide), mj_up_ne (by decide), mj_up_ne (by decide), mj_up_ne (by decide)]
      have d2 : dvD D (some i) ln s lt nm 0 2 = D 0 2 + 1 := mj_up_eq
      have dd : ∀ d, dvD D (some i) ln s lt nm 1 d = (if d = D 0 2 then i else D 1 d) ∧ dvD D (some i) ln s lt nm 2 d = (if d = D 0 2 then ln else D 2 d) ∧ dvD D (some i) ln s lt nm 3 d = (if d = D 0 2 then s else D 3 d) ∧ dvD D (some i) ln s lt nm 4 d = (if d = D 0 2 then lt else D 4 d) ∧ dvD D (some i) ln s lt nm 5 d = (if d = D 0 2 then nm else D 5 d) := by
        intro d
        unfold dvD
        rw [mj_up_ne (show (1:Nat) ≠ 0 by decide), mj_up_ne (show (2:Nat) ≠ 0 by decide), mj_up_ne (show (3:Nat) ≠ 0 by decide), mj_up_ne (show (4:Nat) ≠ 0 by decide), mj_up_ne (show (5:Nat) ≠ 0 by decide)]
        rw [mj_up_ne (show (1:Nat) ≠ 5 by decide), mj_up_ne (show (2:Nat) ≠ 5 by decide), mj_up_ne (show (3:Nat) ≠ 5 by decide), mj_up_ne (show (4:Nat) ≠ 5 by decide)]
        rw [mj_up_ne (show (1:Nat) ≠ 4 by decide), mj_up_ne (show (2:Nat) ≠ 4 by decide), mj_up_ne (show (3:Nat) ≠ 4 by decide)]
        rw [mj_up_ne (show (1:Nat) ≠ 3 by decide), mj_up_ne (show (2:Nat) ≠ 3 by decide), mj_up_ne (show (1:Nat) ≠ 2 by decide)]
        by_cases e : d = D 0 2
        · rw [e, if_pos rfl, if_pos rfl, if_pos rfl, if_pos rfl, if_pos rfl]
          exact ⟨mj_up_eq, mj_up_eq, mj_up_eq, mj_up_eq, mj_up_eq⟩
        · rw [if_neg e, if_neg e, if_neg e, if_neg e, if_neg e]
          exact ⟨mj_up_ne2 e, mj_up_ne2 e, mj_up_ne2 e, mj_up_ne2 e, mj_up_ne2 e⟩
      show bRd (dvD D (some i) ln s lt nm) ∧ ∀ j, j ≠ 2 → dvD D (some i) ln s lt nm 0 j = D 0 j
      refine ⟨⟨⟨?_, ?_, ?_, fun d hd => ?_⟩, fun d hd => ?_, ?_, fun d hd => ?_, fun d e hd he hde => ?_⟩, d0⟩
      · rw [d0 0 (by decide)]; exact hB.1
      · rw [d0 1 (by decide)]; exact hB.2.1
      · rw [d2]; omega
      · rw [d2] at hd
        rw [(dd d).1, (dd d).2.1, (dd d).2.2.1]
        by_cases e : d = D 0 2
        · rw [if_pos e, if_pos e, if_pos e]; omega
        · rw [if_neg e, if_neg e, if_neg e]; exact hB.2.2.2 d (by omega)
      · rw [d2] at hd
        rw [(dd d).2.2.2.1, (dd d).2.2.2.2]
        by_cases e : d = D 0 2
        · rw [if_pos e, if_pos e]; exact ⟨⟨hwd.1, hwd.2.1⟩, hwd.2.2.1⟩
        · rw [if_neg e, if_neg e]; exact hR.2.1 d (by omega)
      · rw [d0 0 (by decide), d0 1 (by decide), d0 3 (by decide), d0 4 (by decide)]; exact hR.2.2.1
      · rw [d2] at hd
        rw [d0 0 (by decide), (dd d).1, (dd d).2.1, (dd d).2.2.1, (dd d).2.2.2.1, (dd d).2.2.2.2]
        by_cases e : d = D 0 2
        · rw [if_pos e, if_pos e, if_pos e, if_pos e, if_pos e]
          exact ⟨hst, fun q => r4.1 (congrArg some q), fun q => r4.2 (congrArg some q), hwd.2.2.2⟩
        · rw [if_neg e, if_neg e, if_neg e, if_neg e, if_neg e]; exact hR.2.2.2.1 d (by omega)
      · rw [d2] at hd he
        rw [(dd d).2.2.2.2, (dd e).2.2.2.2] at hde
        by_cases e1 : d = D 0 2
        · by_cases e2 : e = D 0 2
          · omega
          · rw [if_pos e1, if_neg e2] at hde; exact absurd hde.symm (hnn e (by omega))
        · by_cases e2 : e = D 0 2
          · rw [if_neg e1, if_pos e2] at hde; exact absurd hde (hnn d (by omega))
          · rw [if_neg e1, if_neg e2] at hde; exact hR.2.2.2.2 d e (by omega) (by omega) hde
    · rw [if_neg g2]; exact ⟨hR, fun _ _ => rfl⟩
  · rw [if_neg g]; exact ⟨hR, fun _ _ => rfl⟩
end M38
