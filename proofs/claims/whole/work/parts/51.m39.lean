/-! ===== the reference: a line of a board ===== -/
theorem tk3 {T : Nat → Nat} {sz : Nat} {K : Nat → Nat} : K 3 ≤ tkK T sz K 3 := by
  have ha := tkE_ge (tBl T sz) 801 (K 3)
  unfold tkK
  generalize tkE (tBl T sz) 801 (K 3) = a at ha ⊢
  split
  · exact ha
  · split
    · exact Nat.le_trans ha (tkE_ge _ _ _)
    · split
      · exact Nat.le_trans ha (tkE_ge _ _ _)
      · exact Nat.le_trans ha (Nat.le_succ _)
theorem tk_st {T : Nat → Nat} {sz : Nat} {K : Nat → Nat} (h : tkK T sz K 5 ≠ 0) : K 3 < tkK T sz K 3 := by
  have ha := tkE_ge (tBl T sz) 801 (K 3)
  unfold tkK at h ⊢
  generalize tkE (tBl T sz) 801 (K 3) = a at ha h ⊢
  by_cases hs : a < sz
  · rw [if_neg (fun q => q hs)] at h ⊢
    by_cases hl : tLt T sz a = true
    · rw [if_pos hl] at h ⊢
      show K 3 < tkE (tLt T sz) 801 a
      have h1 : tkE (tLt T sz) 801 a = tkE (tLt T sz) 800 (a + 1) := by rw [tkE, if_pos hl]
      have := tkE_ge (tLt T sz) 800 (a + 1)
      omega
    · rw [if_neg hl] at h ⊢
      by_cases hd : tDg T sz a = true
      · rw [if_pos hd]
        show K 3 < tkE (tDg T sz) 801 a
        have h1 : tkE (tDg T sz) 801 a = tkE (tDg T sz) 800 (a + 1) := by rw [tkE, if_pos hd]
        have := tkE_ge (tDg T sz) 800 (a + 1)
        omega
      · rw [if_neg hd]
        show K 3 < a + 1
        omega
  · rw [if_pos hs] at h
    exact absurd rfl h
theorem kW3 {K : Nat → Nat} {x : Nat} : kW K x 3 = K 3 := by
  unfold kW
  split <;> rfl
theorem kG3 {T : Nat → Nat} {sz : Nat} {K : Nat → Nat} : K 3 ≤ kG T sz K 3 := by
  unfold kG
  split
  · exact tk3
  · exact Nat.le_refl _
theorem kN3 {K : Nat → Nat} {x y : Int32} : kN K x y 3 = K 3 := by
  unfold kN
  repeat' split
  all_goals first | rfl | exact kW3
theorem kSet3 {T : Nat → Nat} {sz n : Nat} : ∀ f s K, K 3 ≤ (kSet T sz n f s K).2 3 := by
  intro f
  induction f with
  | zero => intro s K; exact Nat.le_refl _
  | succ f ih =>
    intro s K
    unfold kSet
    split
    · split
      · show K 3 ≤ kW (kN K (nI 0) (nI n - nI 1)) 3 3
        rw [kW3, kN3]; exact Nat.le_refl _
      · split
        · refine Nat.le_trans ?_ (ih _ _)
          exact Nat.le_trans (Nat.le_of_eq kN3.symm) tk3
        · exact Nat.le_trans (Nat.le_of_eq kN3.symm) tk3
    · show K 3 ≤ kN K (nI 0) (nI n - nI 1) 3
      rw [kN3]; exact Nat.le_refl _
theorem kSetOf3 {T : Nat → Nat} {sz n s : Nat} {K : Nat → Nat} : K 3 ≤ (kSetOf T sz n s K).2 3 := by
  unfold kSetOf
  split
  · exact kSet3 _ _ _
  · exact Nat.le_refl _
theorem kSetOf_num {T : Nat → Nat} {sz n s : Nat} {K : Nat → Nat} (h : (kSetOf T sz n s K).2 8 = 0) : K 8 = 0 ∧ K 5 = 2 := by
  unfold kSetOf at h
  by_cases h0 : K 8 = 0
  · rw [if_pos h0] at h
    refine ⟨h0, ?_⟩
    unfold kSet at h
    by_cases hg : kN K (nI 0) (nI n - nI 1) 8 = 0
    · exact (kN_gd hg).2.2.1
    · rw [if_neg hg] at h; exact absurd h hg
  · rw [if_neg h0] at h; exact absurd h h0
theorem dvR3 {T : Nat → Nat} {sz n : Nat} {K : Nat → Nat} : K 3 ≤ (dvR T sz n K).2 3 := by
  have h1 : ∀ o, K 3 ≤ dvC T sz o K 3 := fun o => by
    unfold dvC
    refine Nat.le_trans ?_ kG3
    split
    · rw [kW3]; exact Nat.le_refl _
    · exact Nat.le_refl _
  have h2 : ∀ o K, dvE o K 3 = K 3 := fun o K => by
    unfold dvE
    split
    · rfl
    · exact kN3
  have h3 : ∀ o ln K, dvF o ln K 3 = K 3 := fun o ln K => by
    unfold dvF
    split
    · exact kW3
    · rfl
  have h4 : ∀ o K, K 3 ≤ dvH T sz o K 3 := fun o K => by
    unfold dvH
    split
    · exact Nat.le_refl _
    · exact kG3
  have h5 : ∀ K, K 3 ≤ (dvS T sz n K).2 3 := fun K => by
    unfold dvS
    split
    · exact Nat.le_trans tk3 kSetOf3
    · exact Nat.le_refl _
  unfold dvR
  refine Nat.le_trans ?_ (h5 _)
  refine Nat.le_trans ?_ (h4 _ _)
  rw [h3, h2]
  exact h1 _
theorem kDv3 {T : Nat → Nat} {sz : Nat} {D : St} {K : Nat → Nat} (h : (kDv T sz D K).1 8 = 0) : K 3 < (kDv T sz D K).1 3 := by
  unfold kDv at h ⊢
  by_cases g : dvB T sz D K 8 = 0
  · rw [if_pos g] at h ⊢
    obtain ⟨a1, a2, a3, a4, a5⟩ := dvB_good g
    obtain ⟨c1, c2, c3⟩ := dvA_good a2
    have e : dvB T sz D K = tkK T sz K := by unfold dvB; rw [a1, c2]
    rw [c2] at a3
    have h1 : K 3 < tkK T sz K 3 := tk_st (by rw [a3]; decide)
    have h2 : dvB T sz D K 3 ≤ (dvR T sz (D 0 0) (tkK T sz (dvB T sz D K))).2 3 := Nat.le_trans tk3 dvR3
    have h3 : dvB T sz D K 3 = tkK T sz K 3 := congrFun e 3
    show K 3 < (dvR T sz (D 0 0) (tkK T sz (dvB T sz D K))).2 3
    omega
  · rw [if_neg g] at h; exact absurd h g

theorem mD_p13 {I : mj_M} {J : mj_J} {D : St} {v : Nat} (h : mD I J D) : mD (mj_up I 452 13 (nI v)) J (mj_up D 0 0 v) := by
  refine ⟨⟨?_, ?_, ?_, ?_, ?_⟩, ⟨?_, ?_, ?_⟩, fun d hd => ?_⟩
  · rw [mj_up_eq, mj_up_eq]
  · rw [mj_up_ne2 (by decide), mj_up_ne2 (by decide)]; exact h.1.2.1
  · rw [mj_up_ne2 (by decide), mj_up_ne2 (by decide)]; exact h.1.2.2.1
  · rw [mj_up_ne2 (by decide), mj_up_ne2 (by decide)]; exact h.1.2.2.2.1
  · rw [mj_up_ne2 (by decide), mj_up_ne2 (by decide)]; exact h.1.2.2.2.2
  · rw [mj_up_ne2 (by decide), mj_up_ne2 (by decide)]; exact h.2.1.1
  · rw [mj_up_ne2 (by decide), mj_up_ne2 (by decide)]; exact h.2.1.2.1
  · rw [mj_up_ne2 (by decide), mj_up_ne2 (by decide)]; exact h.2.1.2.2
  · rw [mj_up_ne2 (show (2:Nat) ≠ 0 by decide)] at hd
    rw [mj_up_ne (show (1:Nat) ≠ 0 by decide), mj_up_ne (show (2:Nat) ≠ 0 by decide), mj_up_ne (show (3:Nat) ≠ 0 by decide), mj_up_ne (show (4:Nat) ≠ 0 by decide), mj_up_ne (show (5:Nat) ≠ 0 by decide), mj_up_ne (show (454:Nat) ≠ 452 by decide), mj_up_ne (show (455:Nat) ≠ 452 by decide), mj_up_ne (show (456:Nat) ≠ 452 by decide), mj_up_ne (show (460:Nat) ≠ 452 by decide)]; exact h.2.2 d hd
theorem mD_p14 {I : mj_M} {J : mj_J} {D : St} {v : Nat} (h : mD I J D) : mD (mj_up I 452 14 (nI v)) J (mj_up D 0 1 v) := by
  refine ⟨⟨?_, ?_, ?_, ?_, ?_⟩, ⟨?_, ?_, ?_⟩, fun d hd => ?_⟩
  · rw [mj_up_ne2 (by decide), mj_up_ne2 (by decide)]; exact h.1.1
  · rw [mj_up_eq, mj_up_eq]
  · rw [mj_up_ne2 (by decide), mj_up_ne2 (by decide)]; exact h.1.2.2.1
  · rw [mj_up_ne2 (by decide), mj_up_ne2 (by decide)]; exact h.1.2.2.2.1
  · rw [mj_up_ne2 (by decide), mj_up_ne2 (by decide)]; exact h.1.2.2.2.2
  · rw [mj_up_ne2 (by decide), mj_up_ne2 (by decide)]; exact h.2.1.1
  · rw [mj_up_ne2 (by decide), mj_up_ne2 (by decide)]; exact h.2.1.2.1
  · rw [mj_up_ne2 (by decide), mj_up_ne2 (by decide)]; exact h.2.1.2.2
  · rw [mj_up_ne2 (show (2:Nat) ≠ 1 by decide)] at hd
    rw [mj_up_ne (show (1:Nat) ≠ 0 by decide), mj_up_ne (show (2:Nat) ≠ 0 by decide), mj_up_ne (show (3:Nat) ≠ 0 by decide), mj_up_ne (show (4:Nat) ≠ 0 by decide), mj_up_ne (show (5:Nat) ≠ 0 by decide), mj_up_ne (show (454:Nat) ≠ 452 by decide), mj_up_ne (show (455:Nat) ≠ 452 by decide), mj_up_ne (show (456:Nat) ≠ 452 by decide), mj_up_ne (show (460:Nat) ≠ 452 by decide)]; exact h.2.2 d hd
theorem mD_p15 {I : mj_M} {J : mj_J} {D : St} {v : Nat} (h : mD I J D) : mD (mj_up I 452 15 (nI v)) J (mj_up D 0 3 v) := by
  refine ⟨⟨?_, ?_, ?_, ?_, ?_⟩, ⟨?_, ?_, ?_⟩, fun d hd => ?_⟩
  · rw [mj_up_ne2 (by decide), mj_up_ne2 (by decide)]; exact h.1.1
  · rw [mj_up_ne2 (by decide), mj_up_ne2 (by decide)]; exact h.1.2.1
  · rw [mj_up_eq, mj_up_eq]
  · rw [mj_up_ne2 (by decide), mj_up_ne2 (by decide)]; exact h.1.2.2.2.1
  · rw [mj_up_ne2 (by decide), mj_up_ne2 (by decide)]; exact h.1.2.2.2.2
  · rw [mj_up_ne2 (by decide), mj_up_ne2 (by decide)]; exact h.2.1.1
  · rw [mj_up_ne2 (by decide), mj_up_ne2 (by decide)]; exact h.2.1.2.1
  · rw [mj_up_ne2 (by decide), mj_up_ne2 (by decide)]; exact h.2.1.2.2
  · rw [mj_up_ne2 (show (2:Nat) ≠ 3 by decide)] at hd
    rw [mj_up_ne (show (1:Nat) ≠ 0 by decide), mj_up_ne (show (2:Nat) ≠ 0 by decide), mj_up_ne (show (3:Nat) ≠ 0 by decide), mj_up_ne (show (4:Nat) ≠ 0 by decide), mj_up_ne (show (5:Nat) ≠ 0 by decide), mj_up_ne (show (454:Nat) ≠ 452 by decide), mj_up_ne (show (455:Nat) ≠ 452 by decide), mj_up_ne (show (456:Nat) ≠ 452 by decide), mj_up_ne (show (460:Nat) ≠ 452 by decide)]; exact h.2.2 d hd
theorem mD_p16 {I : mj_M} {J : mj_J} {D : St} {v : Nat} (h : mD I J D) : mD (mj_up I 452 16 (nI v)) J (mj_up D 0 4 v) := by
  refine ⟨⟨?_, ?_, ?_, ?_, ?_⟩, ⟨?_, ?_, ?_⟩, fun d hd => ?_⟩
  · rw [mj_up_ne2 (by decide), mj_up_ne2 (by decide)]; exact h.1.1
  · rw [mj_up_ne2 (by decide), mj_up_ne2 (by decide)]; exact h.1.2.1
  · rw [mj_up_ne2 (by decide), mj_up_ne2 (by decide)]; exact h.1.2.2.1
  · rw [mj_up_eq, mj_up_eq]
  · rw [mj_up_ne2 (by decide), mj_up_ne2 (by decide)]; exact h.1.2.2.2.2
  · rw [mj_up_ne2 (by decide), mj_up_ne2 (by decide)]; exact h.2.1.1
  · rw [mj_up_ne2 (by decide), mj_up_ne2 (by decide)]; exact h.2.1.2.1
  · rw [mj_up_ne2 (by decide), mj_up_ne2 (by decide)]; exact h.2.1.2.2
  · rw [mj_up_ne2 (show (2:Nat) ≠ 4 by decide)] at hd
    rw [mj_up_ne (show (1:Nat) ≠ 0 by decide), mj_up_ne (show (2:Nat) ≠ 0 by decide), mj_up_ne (show (3:Nat) ≠ 0 by decide), mj_up_ne (show (4:Nat) ≠ 0 by decide), mj_up_ne (show (5:Nat) ≠ 0 by decide), mj_up_ne (show (454:Nat) ≠ 452 by decide), mj_up_ne (show (455:Nat) ≠ 452 by decide), mj_up_ne (show (456:Nat) ≠ 452 by decide), mj_up_ne (show (460:Nat) ≠ 452 by decide)]; exact h.2.2 d hd
theorem mD_p23 {I : mj_M} {J : mj_J} {D : St} (h : mD I J D) : mD (mj_up I 452 23 (nI 1)) J (mj_up D 0 5 1) := by
  refine ⟨⟨?_, ?_, ?_, ?_, ?_⟩, ⟨?_, ?_, ?_⟩, fun d hd => ?_⟩
  · rw [mj_up_ne2 (by decide), mj_up_ne2 (by decide)]; exact h.1.1
  · rw [mj_up_ne2 (by decide), mj_up_ne2 (by decide)]; exact h.1.2.1
  · rw [mj_up_ne2 (by decide), mj_up_ne2 (by decide)]; exact h.1.2.2.1
  · rw [mj_up_ne2 (by decide), mj_up_ne2 (by decide)]; exact h.1.2.2.2.1
  · rw [mj_up_ne2 (by decide), mj_up_ne2 (by decide)]; exact h.1.2.2.2.2
  · rw [mj_up_eq, mj_up_eq]; rfl
  · rw [mj_up_ne2 (by decide), mj_up_ne2 (by decide)]; exact h.2.1.2.1
  · rw [mj_up_ne2 (by decide), mj_up_ne2 (by decide)]; exact h.2.1.2.2
  · rw [mj_up_ne2 (show (2:Nat) ≠ 5 by decide)] at hd
    rw [mj_up_ne (show (1:Nat) ≠ 0 by decide), mj_up_ne (show (2:Nat) ≠ 0 by decide), mj_up_ne (show (3:Nat) ≠ 0 by decide), mj_up_ne (show (4:Nat) ≠ 0 by decide), mj_up_ne (show (5:Nat) ≠ 0 by decide), mj_up_ne (show (454:Nat) ≠ 452 by decide), mj_up_ne (show (455:Nat) ≠ 452 by decide), mj_up_ne (show (456:Nat) ≠ 452 by decide), mj_up_ne (show (460:Nat) ≠ 452 by decide)]; exact h.2.2 d hd
theorem mD_p24 {I : mj_M} {J : mj_J} {D : St} (h : mD I J D) : mD (mj_up I 452 24 (nI 1)) J (mj_up D 0 6 1) := by
  refine ⟨⟨?_, ?_, ?_, ?_, ?_⟩, ⟨?_, ?_, ?_⟩, fun d hd => ?_⟩
  · rw [mj_up_ne2 (by decide), mj_up_ne2 (by decide)]; exact h.1.1
  · rw [mj_up_ne2 (by decide), mj_up_ne2 (by decide)]; exact h.1.2.1
  · rw [mj_up_ne2 (by decide), mj_up_ne2 (by decide)]; exact h.1.2.2.1
  · rw [mj_up_ne2 (by decide), mj_up_ne2 (by decide)]; exact h.1.2.2.2.1
  · rw [mj_up_ne2 (by decide), mj_up_ne2 (by decide)]; exact h.1.2.2.2.2
  · rw [mj_up_ne2 (by decide), mj_up_ne2 (by decide)]; exact h.2.1.1
  · rw [mj_up_eq, mj_up_eq]; rfl
  · rw [mj_up_ne2 (by decide), mj_up_ne2 (by decide)]; exact h.2.1.2.2
  · rw [mj_up_ne2 (show (2:Nat) ≠ 6 by decide)] at hd
    rw [mj_up_ne (show (1:Nat) ≠ 0 by decide), mj_up_ne (show (2:Nat) ≠ 0 by decide), mj_up_ne (show (3:Nat) ≠ 0 by decide), mj_up_ne (show (4:Nat) ≠ 0 by decide), mj_up_ne (show (5:Nat) ≠ 0 by decide), mj_up_ne (show (454:Nat) ≠ 452 by decide), mj_up_ne (show (455:Nat) ≠ 452 by decide), mj_up_ne (show (456:Nat) ≠ 452 by decide), mj_up_ne (show (460:Nat) ≠ 452 by decide)]; exact h.2.2 d hd
theorem mD_p25 {I : mj_M} {J : mj_J} {D : St} (h : mD I J D) : mD (mj_up I 452 25 (nI 1)) J (mj_up D 0 7 1) := by
  refine ⟨⟨?_, ?_, ?_, ?_, ?_⟩, ⟨?_, ?_, ?_⟩, fun d hd => ?_⟩
  · rw [mj_up_ne2 (by decide), mj_up_ne2 (by decide)]; exact h.1.1
  · rw [mj_up_ne2 (by decide), mj_up_ne2 (by decide)]; exact h.1.2.1
  · rw [mj_up_ne2 (by decide), mj_up_ne2 (by decide)]; exact h.1.2.2.1
  · rw [mj_up_ne2 (by decide), mj_up_ne2 (by decide)]; exact h.1.2.2.2.1
  · rw [mj_up_ne2 (by decide), mj_up_ne2 (by decide)]; exact h.1.2.2.2.2
  · rw [mj_up_ne2 (by decide), mj_up_ne2 (by decide)]; exact h.2.1.1
  · rw [mj_up_ne2 (by decide), mj_up_ne2 (by decide)]; exact h.2.1.2.1
  · rw [mj_up_eq, mj_up_eq]; rfl
  · rw [mj_up_ne2 (show (2:Nat) ≠ 7 by decide)] at hd
    rw [mj_up_ne (show (1:Nat) ≠ 0 by decide), mj_up_ne (show (2:Nat) ≠ 0 by decide), mj_up_ne (show (3:Nat) ≠ 0 by decide), mj_up_ne (show (4:Nat) ≠ 0 by decide), mj_up_ne (show (5:Nat) ≠ 0 by decide), mj_up_ne (show (454:Nat) ≠ 452 by decide), mj_up_ne (show (455:Nat) ≠ 452 by decide), mj_up_ne (show (456:Nat) ≠ 452 by decide), mj_up_ne (show (460:Nat) ≠ 452 by decide)]; exact h.2.2 d hd
/-- what the line's words say -/
def kLn0 (T : Nat → Nat) (sz : Nat) (D : St) (K : Nat → Nat) : (Nat → Nat) × St :=
  if kIs K 1668314483 = true then (kNi T sz (kL2 T sz K (D 0 7 == 1) (D 0 5 == 1)) (nI 1) (nI 8), mj_up (mj_up D 0 5 1) 0 0 (if kL2 T sz K (D 0 7 == 1) (D 0 5 == 1) 8 = 0 then kL2 T sz K (D 0 7 == 1) (D 0 5 == 1) 6 else 0))
  else if kIs K 33325525081485939 = true then (kNi T sz (kL2 T sz K (D 0 7 == 1) (D 0 6 == 1)) (nI 8) (nI 32), mj_up (mj_up D 0 6 1) 0 1 (if kL2 T sz K (D 0 7 == 1) (D 0 6 == 1) 8 = 0 then kL2 T sz K (D 0 7 == 1) (D 0 6 == 1) 6 else 0))
  else if kIs K 1801810036 = true then ((kSetOf T sz (D 0 1) (D 0 3) (tkK T sz K)).2, mj_up (mj_up D 0 7 1) 0 3 (kSetOf T sz (D 0 1) (D 0 3) (tkK T sz K)).1)
  else if kIs K 7300710 = true then ((kSetOf T sz (D 0 0) (D 0 4) (tkK T sz K)).2, mj_up (mj_up D 0 7 1) 0 4 (kSetOf T sz (D 0 0) (D 0 4) (tkK T sz K)).1)
  else if kIs K 110386941092709 = true then kDv T sz (mj_up D 0 7 1) K
  else (kW K 2, D)
def kSg (T : Nat → Nat) (sz : Nat) (K : Nat → Nat) : Nat → Nat := kG T sz (if K 8 = 0 ∧ K 5 ≠ 3 then kW K 2 else K)
def kLine (T : Nat → Nat) (sz : Nat) (D : St) (K : Nat → Nat) : (Nat → Nat) × St := (kSg T sz (kLn0 T sz D K).1, (kLn0 T sz D K).2)
theorem kOK_sg {T : Nat → Nat} {sz : Nat} {K : Nat → Nat} (h : kOK sz K) : kOK sz (kSg T sz K) := by
  unfold kSg
  split
  · exact kOK_g (kOK_w h (by decide))
  · exact kOK_g h
theorem kOK_ln {T : Nat → Nat} {sz : Nat} {D : St} {K : Nat → Nat} (h : kOK sz K) : kOK sz (kLn0 T sz D K).1 := by
  unfold kLn0
  split
  · exact kOK_ni (kOK_l2 h)
  · split
    · exact kOK_ni (kOK_l2 h)
    · split
      · exact kOK_setOf (kOK_tk h)
      · split
        · exact kOK_setOf (kOK_tk h)
        · split
          · exact kOK_dv h
          · exact kOK_w h (by decide)
theorem kSg_good {T : Nat → Nat} {sz : Nat} {K : Nat → Nat} (h : kSg T sz K 8 = 0) : K 8 = 0 ∧ K 5 = 3 ∧ kSg T sz K = tkK T sz K := by
  unfold kSg at h ⊢
  rw [kG8] at h
  by_cases hc : K 8 = 0 ∧ K 5 ≠ 3
  · rw [if_pos hc] at h; exact absurd h (kW8 (by decide))
  · rw [if_neg hc] at h ⊢
    exact ⟨h, Decidable.byContradiction fun q => hc ⟨h, q⟩, if_pos h⟩
theorem kL2_good {T : Nat → Nat} {sz : Nat} {K : Nat → Nat} {x y : Bool} (h : kL2 T sz K x y 8 = 0) : x = false ∧ y = false ∧ kL2 T sz K x y = tkK T sz K := by
  unfold kL2 at h ⊢
  by_cases g : kL1 K x y 8 = 0
  · rw [if_pos g]
    cases y with
    | true => exact absurd g (kW8 (by decide))
    | false =>
      cases x with
      | true => exact absurd g (kW8 (by decide))
      | false => exact ⟨rfl, rfl, rfl⟩
  · rw [if_neg g] at h; exact absurd h g
theorem kNi_good {T : Nat → Nat} {sz : Nat} {K : Nat → Nat} {x y : Int32} (h : kNi T sz K x y 8 = 0) : kN K x y 8 = 0 ∧ kNi T sz K x y = tkK T sz K := by
  unfold kNi at h ⊢
  by_cases g : kN K x y 8 = 0
  · rw [if_pos g, (kN_gd g).1]; exact ⟨(kN_gd g).2.1, rfl⟩
  · rw [if_neg g] at h; exact absurd h g
section M39
variable {w : mj_Wd} {l : Launch} {I : mj_M} {J : mj_J} {R : mj_R} {b A D : St} {T : Nat → Nat} {sz t : Nat} {K : Nat → Nat}
theorem rt_X11_line (hM : mj_wM R) (h : mRd I J T sz K) (hk : kOK sz K) (hD : mD I J D) (hR : bRd D) : RtV w l yX11_line dd_X11_line [.ref 452] (472, I, J, R) (fun I' J' R' => mRd I' J' T sz (kLine T sz D K).1 ∧ mD I' J' (kLine T sz D K).2 ∧ mDf I J I' J' ∧ R' = R) := by
  have hc8 := hR.1.1.2
  have hv32 := hR.1.2.1.2
  have hkp : D 0 3 < 2 ^ 32 := Nat.lt_of_lt_of_le hR.2.2.1.1 (Nat.pow_le_pow_right (by decide) hv32)
  have hof : D 0 4 < 2 ^ 32 := Nat.lt_of_lt_of_le hR.2.2.1.2 (Nat.pow_le_pow_right (by decide) (by omega))
  refine rt_intro2 (L := [some (.ref 452)]) ⟨by decide, rfl, (fun h => by cases h)⟩ (Nat.le_of_ble_eq_true rfl) rfl (fun Y Q hQ => ?_)
  unfold kLine at hQ
  have hk1 := kOK_ln (T := T) (D := D) hk
  have p137 : ∀ I1 J1, mRd I1 J1 T sz (kLn0 T sz D K).1 → mD I1 J1 (kLn0 T sz D K).2 → mDf I J I1 J1 → Wq dd_X11_line (mj_mk w l 472 Y) Q 137 [some (.ref 452)] [] (472, I1, J1, R) := by
    intro I1 J1 h1 hD1 f1
    generalize (kLn0 T sz D K).1 = K1 at hQ h1 hk1
    generalize (kLn0 T sz D K).2 = D1 at hQ hD1
    have p157 : ∀ I2, mRd I2 J1 T sz (if K1 8 = 0 ∧ K1 5 ≠ 3 then kW K1 2 else K1) → kOK sz (if K1 8 = 0 ∧ K1 5 ≠ 3 then kW K1 2 else K1) → mRf I1 J1 I2 J1 → Wq dd_X11_line (mj_mk w l 472 Y) Q 157 [some (.ref 452)] [] (472, I2, J1, R) := by
      intro I2 h2 hk2 f2
      unfold kSg at hQ
      generalize (if K1 8 = 0 ∧ K1 5 ≠ 3 then kW K1 2 else K1) = K2 at hQ h2 hk2
      unfold kG at hQ
      by_cases g : K2 8 = 0
      · rw [if_pos g] at hQ
        refine q_aload_n (pc' := 158) dX11_line_157 rfl rfl (q_cVi (pc' := 161) dX11_line_158 rfl ml_RX11_182 yv_X11_isGood (by decide) (rn_good h2 hk2) ⟨by omega, rfl⟩ rfl rfl (Nat.le_of_ble_eq_true rfl) (Nat.le_refl _) (q_ifb_eq (pc' := 164) (pt := 168) dX11_line_161 rfl rfl (fun h9 => Bool.noConfusion (Eq.trans (Eq.symm (beq_iff_eq.mpr g)) h9)) (fun _ => (q_aload_n (pc' := 165) dX11_line_164 rfl rfl (q_tVv (pc' := 168) dX11_line_165 rfl ml_RX11_186 yv_X11_goOn (by decide) (rt_X11_goOn hM h2 hk2.1) ⟨by omega, rfl⟩ rfl rfl (Nat.le_of_ble_eq_true rfl) (Nat.le_refl _) (fun I3 J3 R3 ⟨h3, f3, eR⟩ => ?_))))))
        rw [eR]
        exact q_vret dX11_line_168 rfl (hQ _ _ _ _ ⟨rfl, h3, mD_rf (f2.tr f3) hD1, f1.tr (f2.tr f3).df, rfl⟩)
      · rw [if_neg g] at hQ
        exact q_aload_n (pc' := 158) dX11_line_157 rfl rfl (q_cVi (pc' := 161) dX11_line_158 rfl ml_RX11_182 yv_X11_isGood (by decide) (rn_good h2 hk2) ⟨by omega, rfl⟩ rfl rfl (Nat.le_of_ble_eq_true rfl) (Nat.le_refl _) (q_ifb_eq (pc' := 164) (pt := 168) dX11_line_161 rfl rfl (fun _ => (q_vret dX11_line_168 rfl (hQ _ _ _ _ ⟨rfl, h2, mD_rf f2 hD1, f1.tr f2.df, rfl⟩))) (fun h9 => Bool.noConfusion (Eq.trans (Eq.symm (beq_eq_false_iff_ne.mpr g)) h9))))
    have e5 := h1.2.2.1 5 (by decide) (by decide)
    have b5 := hk1.2.1
    by_cases g : K1 8 = 0
    · by_cases g5 : K1 5 = 3
      · rw [if_neg (fun q => q.2 g5)] at p157
        refine q_aload_n (pc' := 138) dX11_line_137 rfl rfl (q_cVi (pc' := 141) dX11_line_138 rfl ml_RX11_182 yv_X11_isGood (by decide) (rn_good h1 hk1) ⟨by omega, rfl⟩ rfl rfl (Nat.le_of_ble_eq_true rfl) (Nat.le_refl _) (q_ifb_eq (pc' := 144) (pt := 157) dX11_line_141 rfl rfl (fun h9 => Bool.noConfusion (Eq.trans (Eq.symm (beq_iff_eq.mpr g)) h9)) (fun _ => (q_aload_n (pc' := 145) dX11_line_144 rfl rfl (q_getIe (pc' := 148) dX11_line_145 rfl fr_RX11_116 ⟨by omega, rfl⟩ rfl e5 (q_iconst (pc' := 149) _ dX11_line_148 rfl kk_iconst_3 (q_icmp_eq (pc' := 152) (pt := 157) dX11_line_149 rfl rfl (fun _ => ?_) (fun h9 => absurd (congrArg nI g5) h9))))))))
        exact p157 I1 h1 hk1 mRf.rf
      · rw [if_pos ⟨g, g5⟩] at p157
        refine q_aload_n (pc' := 138) dX11_line_137 rfl rfl (q_cVi (pc' := 141) dX11_line_138 rfl ml_RX11_182 yv_X11_isGood (by decide) (rn_good h1 hk1) ⟨by omega, rfl⟩ rfl rfl (Nat.le_of_ble_eq_true rfl) (Nat.le_refl _) (q_ifb_eq (pc' := 144) (pt := 157) dX11_line_141 rfl rfl (fun h9 => Bool.noConfusion (Eq.trans (Eq.symm (beq_iff_eq.mpr g)) h9)) (fun _ => (q_aload_n (pc' := 145) dX11_line_144 rfl rfl (q_getIe (pc' := 148) dX11_line_145 rfl fr_RX11_116 ⟨by omega, rfl⟩ rfl e5 (q_iconst (pc' := 149) _ dX11_line_148 rfl kk_iconst_3 (q_icmp_eq (pc' := 152) (pt := 157) dX11_line_149 rfl rfl (fun h9 => absurd h9 (nI_ne g5 (by omega) (by omega))) (fun _ => (q_aload_n (pc' := 153) dX11_line_152 rfl rfl (q_iconst (pc' := 154) _ dX11_line_153 rfl kk_iconst_2 (q_sVv (pc' := 157) dX11_line_154 rfl ml_RX11_175 yv_X11_wrong (by decide) (rs_wrong (x := 2) h1 hk1 (by decide)) ⟨by omega, rfl⟩ rfl rfl (Nat.le_of_ble_eq_true rfl) (Nat.le_refl _) (fun I2 ⟨h2, f2⟩ => ?_))))))))))))
        exact p157 I2 h2 (kOK_w hk1 (by decide)) f2
    · rw [if_neg (fun q => g q.1)] at p157
      refine q_aload_n (pc' := 138) dX11_line_137 rfl rfl (q_cVi (pc' := 141) dX11_line_138 rfl ml_RX11_182 yv_X11_isGood (by decide) (rn_good h1 hk1) ⟨by omega, rfl⟩ rfl rfl (Nat.le_of_ble_eq_true rfl) (Nat.le_refl _) (q_ifb_eq (pc' := 144) (pt := 157) dX11_line_141 rfl rfl (fun _ => ?_) (fun h9 => Bool.noConfusion (Eq.trans (Eq.symm (beq_eq_false_iff_ne.mpr g)) h9))))
      exact p157 I1 h1 hk1 mRf.rf
  unfold kLn0 at p137
  by_cases g1 : kIs K 1668314483 = true
  · rw [if_pos g1] at p137
    refine q_aload_n (pc' := 1) dX11_line_0 rfl rfl (q_ldc2 (pc' := 4) _ dX11_line_1 rfl kl_RX11_151 (q_cVi (pc' := 7) dX11_line_4 rfl ml_RX11_131 yv_X11_isWord (by decide) (rn_word 1668314483 h hk (by decide)) ⟨by omega, rfl⟩ rfl rfl (Nat.le_of_ble_eq_true rfl) (Nat.le_refl _) (q_ifb_eq (pc' := 10) (pt := 17) dX11_line_7 rfl rfl (fun h9 => Bool.noConfusion (Eq.trans (Eq.symm (g1)) h9)) (fun _ => (q_aload_n (pc' := 11) dX11_line_10 rfl rfl (q_tVv (pc' := 14) dX11_line_11 rfl ml_RX11_231 yv_X11_cpusLine (by decide) (rt_X11_cpusLine hM h hk hD.2.1.2.2 hD.2.1.1) ⟨by omega, rfl⟩ rfl rfl (Nat.le_of_ble_eq_true rfl) (Nat.le_refl _) (fun I1 J1 R1 ⟨I2, h2, f2, e1, eR⟩ => ?_)))))))
    rw [eR, e1]
    refine q_goto (pc' := 137) dX11_line_14 rfl ?_
    have hv : (if kL2 T sz K (D 0 7 == 1) (D 0 5 == 1) 8 = 0 then nI (kL2 T sz K (D 0 7 == 1) (D 0 5 == 1) 6) else 0) = nI (if kL2 T sz K (D 0 7 == 1) (D 0 5 == 1) 8 = 0 then kL2 T sz K (D 0 7 == 1) (D 0 5 == 1) 6 else 0) := by split <;> rfl
    rw [hv]
    exact p137 _ _ (mRd_oth (by decide) h2) (mD_p13 (mD_rf f2 (mD_p23 hD))) (((mDf_f (by decide)).tr f2.df).tr (mDf_f (by decide)))
  rw [if_neg g1] at p137
  refine q_aload_n (pc' := 1) dX11_line_0 rfl rfl (q_ldc2 (pc' := 4) _ dX11_line_1 rfl kl_RX11_151 (q_cVi (pc' := 7) dX11_line_4 rfl ml_RX11_131 yv_X11_isWord (by decide) (rn_word 1668314483 h hk (by decide)) ⟨by omega, rfl⟩ rfl rfl (Nat.le_of_ble_eq_true rfl) (Nat.le_refl _) (q_ifb_eq (pc' := 10) (pt := 17) dX11_line_7 rfl rfl (fun _ => ?_) (fun h9 => Bool.noConfusion (Eq.trans (Eq.symm (Bool.eq_false_iff.mpr g1)) h9)))))
  by_cases g2 : kIs K 33325525081485939 = true
  · rw [if_pos g2] at p137
    refine q_aload_n (pc' := 18) dX11_line_17 rfl rfl (q_ldc2 (pc' := 21) _ dX11_line_18 rfl kl_RX11_153 (q_cVi (pc' := 24) dX11_line_21 rfl ml_RX11_131 yv_X11_isWord (by decide) (rn_word 33325525081485939 h hk (by decide)) ⟨by omega, rfl⟩ rfl rfl (Nat.le_of_ble_eq_true rfl) (Nat.le_refl _) (q_ifb_eq (pc' := 27) (pt := 34) dX11_line_24 rfl rfl (fun h9 => Bool.noConfusion (Eq.trans (Eq.symm (g2)) h9)) (fun _ => (q_aload_n (pc' := 28) dX11_line_27 rfl rfl (q_tVv (pc' := 31) dX11_line_28 rfl ml_RX11_234 yv_X11_vectorsLine (by decide) (rt_X11_vectorsLine hM h hk hD.2.1.2.2 hD.2.1.2.1) ⟨by omega, rfl⟩ rfl rfl (Nat.le_of_ble_eq_true rfl) (Nat.le_refl _) (fun I1 J1 R1 ⟨I2, h2, f2, e1, eR⟩ => ?_)))))))
    rw [eR, e1]
    refine q_goto (pc' := 137) dX11_line_31 rfl ?_
    have hv : (if kL2 T sz K (D 0 7 == 1) (D 0 6 == 1) 8 = 0 then nI (kL2 T sz K (D 0 7 == 1) (D 0 6 == 1) 6) else 0) = nI (if kL2 T sz K (D 0 7 == 1) (D 0 6 == 1) 8 = 0 then kL2 T sz K (D 0 7 == 1) (D 0 6 == 1) 6 else 0) := by split <;> rfl
    rw [hv]
    exact p137 _ _ (mRd_oth (by decide) h2) (mD_p14 (mD_rf f2 (mD_p24 hD))) (((mDf_f (by decide)).tr f2.df).tr (mDf_f (by decide)))
  rw [if_neg g2] at p137
  refine q_aload_n (pc' := 18) dX11_line_17 rfl rfl (q_ldc2 (pc' := 21) _ dX11_line_18 rfl kl_RX11_153 (q_cVi (pc' := 24) dX11_line_21 rfl ml_RX11_131 yv_X11_isWord (by decide) (rn_word 33325525081485939 h hk (by decide)) ⟨by omega, rfl⟩ rfl rfl (Nat.le_of_ble_eq_true rfl) (Nat.le_refl _) (q_ifb_eq (pc' := 27) (pt := 34) dX11_line_24 rfl rfl (fun _ => ?_) (fun h9 => Bool.noConfusion (Eq.trans (Eq.symm (Bool.eq_false_iff.mpr g2)) h9)))))
  have hu : mRd (mj_up I 452 25 (nI 1)) J T sz K := mRd_oth (by decide) h
  have hDu := mD_p25 hD
  have hkt := kOK_tk (T := T) hk
  by_cases g3 : kIs K 1801810036 = true
  · rw [if_pos g3] at p137
    refine q_aload_n (pc' := 35) dX11_line_34 rfl rfl (q_ldc2 (pc' := 38) _ dX11_line_35 rfl kl_RX11_155 (q_cVi (pc' := 41) dX11_line_38 rfl ml_RX11_131 yv_X11_isWord (by decide) (rn_word 1801810036 h hk (by decide)) ⟨by omega, rfl⟩ rfl rfl (Nat.le_of_ble_eq_true rfl) (Nat.le_refl _) (q_ifb_eq (pc' := 44) (pt := 72) dX11_line_41 rfl rfl (fun h9 => Bool.noConfusion (Eq.trans (Eq.symm (g3)) h9)) (fun _ => (q_aload_n (pc' := 45) dX11_line_44 rfl rfl (q_iconst (pc' := 46) _ dX11_line_45 rfl kk_iconst_1 (q_putZ (pc' := 49) dX11_line_46 rfl fl_RX11_218 ⟨by omega, rfl⟩ rfl (by first | exact Or.inl rfl | exact Or.inr rfl | exact bI_01 _) (q_aload_n (pc' := 50) dX11_line_49 rfl rfl (q_tVv (pc' := 53) dX11_line_50 rfl ml_RX11_186 yv_X11_goOn (by decide) (rt_X11_goOn hM hu hk.1) ⟨by omega, rfl⟩ rfl rfl (Nat.le_of_ble_eq_true rfl) (Nat.le_refl _) (fun I1 J1 R1 ⟨h1, f1, eR⟩ => ?_))))))))))
    rw [eR]
    have hD1 := mD_rf f1 hDu
    have e14 : I1 452 14 = nI (D 0 1) := hD1.1.2.1
    have e15 : I1 452 15 = nI (D 0 3) := hD1.1.2.2.1
    refine q_aload_n (pc' := 54) dX11_line_53 rfl rfl (q_aload_n (pc' := 55) dX11_line_54 rfl rfl (q_aload_n (pc' := 56) dX11_line_55 rfl rfl (q_getIe (pc' := 59) dX11_line_56 rfl fr_RX11_199 ⟨by omega, rfl⟩ rfl e14 (q_aload_n (pc' := 60) dX11_line_59 rfl rfl (q_getIe (pc' := 63) dX11_line_60 rfl fr_RX11_202 ⟨by omega, rfl⟩ rfl e15 (q_tVi (pc' := 66) dX11_line_63 rfl ml_RX11_228 yv_X11_setOf (by decide) (rt_X11_setOf hM h1 hkt hv32 hkp) ⟨by omega, rfl⟩ rfl rfl (Nat.le_of_ble_eq_true rfl) (Nat.le_refl _) (fun x2 I2 J2 R2 ⟨r2, l2, h2, k2, f2, eR2⟩ => ?_)))))))
    rw [eR2, r2]
    refine q_putI (pc' := 69) dX11_line_66 rfl fl_RX11_202 ⟨by omega, rfl⟩ rfl (q_goto (pc' := 137) dX11_line_69 rfl ?_)
    exact p137 _ _ (mRd_oth (by decide) h2) (mD_p15 (mD_rf f2 hD1)) ((((mDf_f (by decide)).tr f1.df).tr f2.df).tr (mDf_f (by decide)))
  rw [if_neg g3] at p137
  refine q_aload_n (pc' := 35) dX11_line_34 rfl rfl (q_ldc2 (pc' := 38) _ dX11_line_35 rfl kl_RX11_155 (q_cVi (pc' := 41) dX11_line_38 rfl ml_RX11_131 yv_X11_isWord (by decide) (rn_word 1801810036 h hk (by decide)) ⟨by omega, rfl⟩ rfl rfl (Nat.le_of_ble_eq_true rfl) (Nat.le_refl _) (q_ifb_eq (pc' := 44) (pt := 72) dX11_line_41 rfl rfl (fun _ => ?_) (fun h9 => Bool.noConfusion (Eq.trans (Eq.symm (Bool.eq_false_iff.mpr g3)) h9)))))
  by_cases g4 : kIs K 7300710 = true
  · rw [if_pos g4] at p137
    refine q_aload_n (pc' := 73) dX11_line_72 rfl rfl (q_ldc2 (pc' := 76) _ dX11_line_73 rfl kl_RX11_157 (q_cVi (pc' := 79) dX11_line_76 rfl ml_RX11_131 yv_X11_isWord (by decide) (rn_word 7300710 h hk (by decide)) ⟨by omega, rfl⟩ rfl rfl (Nat.le_of_ble_eq_true rfl) (Nat.le_refl _) (q_ifb_eq (pc' := 82) (pt := 110) dX11_line_79 rfl rfl (fun h9 => Bool.noConfusion (Eq.trans (Eq.symm (g4)) h9)) (fun _ => (q_aload_n (pc' := 83) dX11_line_82 rfl rfl (q_iconst (pc' := 84) _ dX11_line_83 rfl kk_iconst_1 (q_putZ (pc' := 87) dX11_line_84 rfl fl_RX11_218 ⟨by omega, rfl⟩ rfl (by first | exact Or.inl rfl | exact Or.inr rfl | exact bI_01 _) (q_aload_n (pc' := 88) dX11_line_87 rfl rfl (q_tVv (pc' := 91) dX11_line_88 rfl ml_RX11_186 yv_X11_goOn (by decide) (rt_X11_goOn hM hu hk.1) ⟨by omega, rfl⟩ rfl rfl (Nat.le_of_ble_eq_true rfl) (Nat.le_refl _) (fun I1 J1 R1 ⟨h1, f1, eR⟩ => ?_))))))))))
    rw [eR]
    have hD1 := mD_rf f1 hDu
    have e13 : I1 452 13 = nI (D 0 0) := hD1.1.1
    have e16 : I1 452 16 = nI (D 0 4) := hD1.1.2.2.2.1
    refine q_aload_n (pc' := 92) dX11_line_91 rfl rfl (q_aload_n (pc' := 93) dX11_line_92 rfl rfl (q_aload_n (pc' := 94) dX11_line_93 rfl rfl (q_getIe (pc' := 97) dX11_line_94 rfl fr_RX11_196 ⟨by omega, rfl⟩ rfl e13 (q_aload_n (pc' := 98) dX11_line_97 rfl rfl (q_getIe (pc' := 101) dX11_line_98 rfl fr_RX11_205 ⟨by omega, rfl⟩ rfl e16 (q_tVi (pc' := 104) dX11_line_101 rfl ml_RX11_228 yv_X11_setOf (by decide) (rt_X11_setOf hM h1 hkt (by omega) hof) ⟨by omega, rfl⟩ rfl rfl (Nat.le_of_ble_eq_true rfl) (Nat.le_refl _) (fun x2 I2 J2 R2 ⟨r2, l2, h2, k2, f2, eR2⟩ => ?_)))))))
    rw [eR2, r2]
    refine q_putI (pc' := 107) dX11_line_104 rfl fl_RX11_205 ⟨by omega, rfl⟩ rfl (q_goto (pc' := 137) dX11_line_107 rfl ?_)
    exact p137 _ _ (mRd_oth (by decide) h2) (mD_p16 (mD_rf f2 hD1)) ((((mDf_f (by decide)).tr f1.df).tr f2.df).tr (mDf_f (by decide)))
  rw [if_neg g4] at p137
  refine q_aload_n (pc' := 73) dX11_line_72 rfl rfl (q_ldc2 (pc' := 76) _ dX11_line_73 rfl kl_RX11_157 (q_cVi (pc' := 79) dX11_line_76 rfl ml_RX11_131 yv_X11_isWord (by decide) (rn_word 7300710 h hk (by decide)) ⟨by omega, rfl⟩ rfl rfl (Nat.le_of_ble_eq_true rfl) (Nat.le_refl _) (q_ifb_eq (pc' := 82) (pt := 110) dX11_line_79 rfl rfl (fun _ => ?_) (fun h9 => Bool.noConfusion (Eq.trans (Eq.symm (Bool.eq_false_iff.mpr g4)) h9)))))
  by_cases g5 : kIs K 110386941092709 = true
  · rw [if_pos g5] at p137
    refine q_aload_n (pc' := 111) dX11_line_110 rfl rfl (q_ldc2 (pc' := 114) _ dX11_line_111 rfl kl_RX11_159 (q_cVi (pc' := 117) dX11_line_114 rfl ml_RX11_131 yv_X11_isWord (by decide) (rn_word 110386941092709 h hk (by decide)) ⟨by omega, rfl⟩ rfl rfl (Nat.le_of_ble_eq_true rfl) (Nat.le_refl _) (q_ifb_eq (pc' := 120) (pt := 132) dX11_line_117 rfl rfl (fun h9 => Bool.noConfusion (Eq.trans (Eq.symm (g5)) h9)) (fun _ => (q_aload_n (pc' := 121) dX11_line_120 rfl rfl (q_iconst (pc' := 122) _ dX11_line_121 rfl kk_iconst_1 (q_putZ (pc' := 125) dX11_line_122 rfl fl_RX11_218 ⟨by omega, rfl⟩ rfl (by first | exact Or.inl rfl | exact Or.inr rfl | exact bI_01 _) (q_aload_n (pc' := 126) dX11_line_125 rfl rfl (q_tVv (pc' := 129) dX11_line_126 rfl ml_RX11_237 yv_X11_deviceLine (by decide) (rt_X11_deviceLine hM hu hk hDu hR.1 hR.2.1) ⟨by omega, rfl⟩ rfl rfl (Nat.le_of_ble_eq_true rfl) (Nat.le_refl _) (fun I1 J1 R1 ⟨h1, hD1, f1, eR⟩ => ?_))))))))))
    rw [eR]
    refine q_goto (pc' := 137) dX11_line_129 rfl ?_
    exact p137 _ _ h1 hD1 ((mDf_f (by decide)).tr f1)
  rw [if_neg g5] at p137
  refine q_aload_n (pc' := 111) dX11_line_110 rfl rfl (q_ldc2 (pc' := 114) _ dX11_line_111 rfl kl_RX11_159 (q_cVi (pc' := 117) dX11_line_114 rfl ml_RX11_131 yv_X11_isWord (by decide) (rn_word 110386941092709 h hk (by decide)) ⟨by omega, rfl⟩ rfl rfl (Nat.le_of_ble_eq_true rfl) (Nat.le_refl _) (q_ifb_eq (pc' := 120) (pt := 132) dX11_line_117 rfl rfl (fun _ => (q_aload_n (pc' := 133) dX11_line_132 rfl rfl (q_iconst (pc' := 134) _ dX11_line_133 rfl kk_iconst_2 (q_sVv (pc' := 137) dX11_line_134 rfl ml_RX11_175 yv_X11_wrong (by decide) (rs_wrong (x := 2) h hk (by decide)) ⟨by omega, rfl⟩ rfl rfl (Nat.le_of_ble_eq_true rfl) (Nat.le_refl _) (fun I1 ⟨h1, f1⟩ => ?_))))) (fun h9 => Bool.noConfusion (Eq.trans (Eq.symm (Bool.eq_false_iff.mpr g5)) h9)))))
  exact p137 _ _ h1 (mD_rf f1 hD) f1.df
/-- a board that is being read -/
def bDr (D : St) : Prop := bRd D ∧ (D 0 7 ≠ 1 → D 0 3 = 0 ∧ D 0 4 = 0 ∧ D 0 2 = 0)
theorem bRd_7 {v : Nat} (h : bRd D) : bRd (mj_up D 0 7 v) := h
theorem line_ok (hk : kOK sz K) (hR : bDr D) (h : (kLine T sz D K).1 8 = 0) : bDr (kLine T sz D K).2 ∧ K 3 < (kLine T sz D K).1 3 := by
  obtain ⟨s1, s2, s3⟩ := kSg_good (T := T) (sz := sz) (K := (kLn0 T sz D K).1) h
  unfold kLine
  rw [s3]
  suffices hs : bDr (kLn0 T sz D K).2 ∧ K 3 < (kLn0 T sz D K).1 3 from ⟨hs.1, Nat.lt_of_lt_of_le hs.2 tk3⟩
  clear h s2 s3
  have hkt := kOK_tk (T := T) hk
  unfold kLn0 at s1 ⊢
  by_cases g1 : kIs K 1668314483 = true
  · rw [if_pos g1] at s1 ⊢
    obtain ⟨n1, n2⟩ := kNi_good s1
    obtain ⟨n3, n4, n5, n6, n7⟩ := kN_gd n1
    obtain ⟨e1, e2, e3⟩ := kL2_good n4
    rw [n2, if_pos n4]
    rw [e3] at n5 n6 n7 ⊢
    have k6 := hkt.2.2.1
    rw [nI_leI (by omega) (by omega)] at n6 n7
    have z := hR.2 (beq_eq_false_iff_ne.mp e1)
    refine ⟨⟨⟨⟨⟨n6, n7⟩, hR.1.1.2.1, ?_, ?_⟩, ?_, ⟨?_, ?_⟩, ?_, ?_⟩, fun _ => z⟩, Nat.lt_of_lt_of_le (tk_st (by omega)) tk3⟩
    · exact hR.1.1.2.2.1
    · intro d hd; have hd' : d < D 0 2 := hd; omega
    · intro d hd; have hd' : d < D 0 2 := hd; omega
    · exact hR.1.2.2.1.1
    · show D 0 4 < _; rw [z.2.1]; exact Nat.two_pow_pos _
    · intro d hd; have hd' : d < D 0 2 := hd; omega
    · intro d e hd; have hd' : d < D 0 2 := hd; omega
  rw [if_neg g1] at s1 ⊢
  by_cases g2 : kIs K 33325525081485939 = true
  · rw [if_pos g2] at s1 ⊢
    obtain ⟨n1, n2⟩ := kNi_good s1
    obtain ⟨n3, n4, n5, n6, n7⟩ := kN_gd n1
    obtain ⟨e1, e2, e3⟩ := kL2_good n4
    rw [n2, if_pos n4]
    rw [e3] at n5 n6 n7 ⊢
    have k6 := hkt.2.2.1
    rw [nI_leI (by omega) (by omega)] at n6 n7
    have z := hR.2 (beq_eq_false_iff_ne.mp e1)
    refine ⟨⟨⟨⟨hR.1.1.1, ⟨n6, n7⟩, ?_, ?_⟩, ?_, ⟨?_, ?_⟩, ?_, ?_⟩, fun _ => z⟩, Nat.lt_of_lt_of_le (tk_st (by omega)) tk3⟩
    · exact hR.1.1.2.2.1
    · intro d hd; have hd' : d < D 0 2 := hd; omega
    · intro d hd; have hd' : d < D 0 2 := hd; omega
    · show D 0 3 < _; rw [z.1]; exact Nat.two_pow_pos _
    · exact hR.1.2.2.1.2
    · intro d hd; have hd' : d < D 0 2 := hd; omega
    · intro d e hd; have hd' : d < D 0 2 := hd; omega
  rw [if_neg g2] at s1 ⊢
  by_cases g3 : kIs K 1801810036 = true
  · rw [if_pos g3] at s1 ⊢
    have hn := kSetOf_num s1
    refine ⟨⟨⟨hR.1.1, hR.1.2.1, ⟨kSetOf_lt hR.1.1.2.1.2 hkt hR.1.2.2.1.1, hR.1.2.2.1.2⟩, hR.1.2.2.2.1, hR.1.2.2.2.2⟩, fun q => absurd rfl q⟩, Nat.lt_of_lt_of_le (tk_st (by omega)) kSetOf3⟩
  rw [if_neg g3] at s1 ⊢
  by_cases g4 : kIs K 7300710 = true
  · rw [if_pos g4] at s1 ⊢
    have hn := kSetOf_num s1
    have h8 := hR.1.1.1.2
    refine ⟨⟨⟨hR.1.1, hR.1.2.1, ⟨hR.1.2.2.1.1, kSetOf_lt (by omega) hkt hR.1.2.2.1.2⟩, hR.1.2.2.2.1, hR.1.2.2.2.2⟩, fun q => absurd rfl q⟩, Nat.lt_of_lt_of_le (tk_st (by omega)) kSetOf3⟩
  rw [if_neg g4] at s1 ⊢
  by_cases g5 : kIs K 110386941092709 = true
  · rw [if_pos g5] at s1 ⊢
    have hd := dv_ok (T := T) (D := mj_up D 0 7 1) hk (bRd_7 hR.1)
    refine ⟨⟨hd.1, fun q => ?_⟩, kDv3 s1⟩
    rw [hd.2 7 (by decide)] at q
    exact absurd rfl q
  rw [if_neg g5] at s1
  exact absurd s1 (kW8 (by decide))
end M39
