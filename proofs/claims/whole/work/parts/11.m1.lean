/-! ===== the reference: its small words ===== -/
section M1
variable {w : mj_Wd} {l : Launch} {h : mj_H} {I : mj_M} {J : mj_J} {R : mj_R}
theorem rn_X11_isIn {v a b : Int32} : Rn w l yX11_isIn dd_X11_isIn [.int v, .int a, .int b] h (some (.int (bI (decide (a ≤ v ∧ v ≤ b))))) h := by
  refine rn_intro (L := [some (.int v), some (.int a), some (.int b)]) ⟨by decide, rfl, (fun h => by cases h)⟩ (Nat.le_refl _) (Nat.le_of_ble_eq_true rfl) rfl (fun Y => ?_)
  refine q_iload_n (pc' := 1) dX11_isIn_0 rfl rfl (q_iload_n (pc' := 2) dX11_isIn_1 rfl rfl (q_icmp_lt (pc' := 5) (pt := 14) dX11_isIn_2 rfl rfl (fun h1 => ?_) (fun h1 => ?_)))
  · exact q_iconst (pc' := 15) _ dX11_isIn_14 rfl kk_iconst_0 (q_zret dX11_isIn_15 rfl (by first | exact Or.inl rfl | exact Or.inr rfl | exact bI_01 _) ⟨by rw [decide_eq_false (fun q => absurd h1 (Int32.not_lt.mpr q.1))]; rfl, rfl⟩)
  · refine q_iload_n (pc' := 6) dX11_isIn_5 rfl rfl (q_iload_n (pc' := 7) dX11_isIn_6 rfl rfl (q_icmp_gt (pc' := 10) (pt := 14) dX11_isIn_7 rfl rfl (fun h2 => ?_) (fun h2 => ?_)))
    · exact q_iconst (pc' := 15) _ dX11_isIn_14 rfl kk_iconst_0 (q_zret dX11_isIn_15 rfl (by first | exact Or.inl rfl | exact Or.inr rfl | exact bI_01 _) ⟨by rw [decide_eq_false (fun q => absurd h2 (Int32.not_lt.mpr q.2))]; rfl, rfl⟩)
    · exact q_iconst (pc' := 11) _ dX11_isIn_10 rfl kk_iconst_1 (q_goto (pc' := 15) dX11_isIn_11 rfl (q_zret dX11_isIn_15 rfl (by first | exact Or.inl rfl | exact Or.inr rfl | exact bI_01 _) ⟨by rw [decide_eq_true ⟨Int32.not_lt.mp h1, Int32.not_lt.mp h2⟩]; rfl, rfl⟩))
theorem rn_X11_truth {b : Bool} : Rn w l yX11_truth dd_X11_truth [.int (bI b)] h (some (.int (bI b))) h := by
  refine rn_intro (L := [some (.int (bI b))]) ⟨by decide, rfl, (fun h => by cases h)⟩ (Nat.le_refl _) (Nat.le_of_ble_eq_true rfl) rfl (fun Y => ?_)
  refine q_iload_n (pc' := 1) dX11_truth_0 rfl rfl (q_ifb_eq (pc' := 4) (pt := 8) dX11_truth_1 rfl rfl (fun h1 => ?_) (fun h1 => ?_))
  · exact q_iconst (pc' := 9) _ dX11_truth_8 rfl kk_iconst_0 (q_iret dX11_truth_9 rfl ⟨by rw [h1]; rfl, rfl⟩)
  · exact q_iconst (pc' := 5) _ dX11_truth_4 rfl kk_iconst_1 (q_goto (pc' := 9) dX11_truth_5 rfl (q_iret dX11_truth_9 rfl ⟨by rw [h1]; rfl, rfl⟩))
theorem rn_X11_greater {a b : Int32} : Rn w l yX11_greater dd_X11_greater [.int a, .int b] h (some (.int (if a ≤ b then b else a))) h := by
  refine rn_intro (L := [some (.int a), some (.int b)]) ⟨by decide, rfl, (fun h => by cases h)⟩ (Nat.le_refl _) (Nat.le_of_ble_eq_true rfl) rfl (fun Y => ?_)
  refine q_iload_n (pc' := 1) dX11_greater_0 rfl rfl (q_iload_n (pc' := 2) dX11_greater_1 rfl rfl (q_icmp_le (pc' := 5) (pt := 9) dX11_greater_2 rfl rfl (fun h1 => ?_) (fun h1 => ?_)))
  · exact q_iload_n (pc' := 10) dX11_greater_9 rfl rfl (q_iret dX11_greater_10 rfl ⟨by rw [if_pos h1], rfl⟩)
  · exact q_iload_n (pc' := 6) dX11_greater_5 rfl rfl (q_goto (pc' := 10) dX11_greater_6 rfl (q_iret dX11_greater_10 rfl ⟨by rw [if_neg h1], rfl⟩))
theorem rn_X11_lesser {a b : Int32} : Rn w l yX11_lesser dd_X11_lesser [.int a, .int b] h (some (.int (if b ≤ a then b else a))) h := by
  refine rn_intro (L := [some (.int a), some (.int b)]) ⟨by decide, rfl, (fun h => by cases h)⟩ (Nat.le_refl _) (Nat.le_of_ble_eq_true rfl) rfl (fun Y => ?_)
  refine q_iload_n (pc' := 1) dX11_lesser_0 rfl rfl (q_iload_n (pc' := 2) dX11_lesser_1 rfl rfl (q_icmp_ge (pc' := 5) (pt := 9) dX11_lesser_2 rfl rfl (fun h1 => ?_) (fun h1 => ?_)))
  · exact q_iload_n (pc' := 10) dX11_lesser_9 rfl rfl (q_iret dX11_lesser_10 rfl ⟨by rw [if_pos h1], rfl⟩)
  · exact q_iload_n (pc' := 6) dX11_lesser_5 rfl rfl (q_goto (pc' := 10) dX11_lesser_6 rfl (q_iret dX11_lesser_10 rfl ⟨by rw [if_neg h1], rfl⟩))
/-- the bit of a set -/
def bitS (x : Int32) (k : Int32) : Bool := decide ((x >>> (k &&& 31)) &&& nI 1 = nI 1)
theorem rn_X11_isOf {a b : Int32} : Rn w l yX11_isOf dd_X11_isOf [.int a, .int b] h (some (.int (bI (bitS a b)))) h := by
  refine rn_intro (L := [some (.int a), some (.int b)]) ⟨by decide, rfl, (fun h => by cases h)⟩ (Nat.le_refl _) (Nat.le_of_ble_eq_true rfl) rfl (fun Y => ?_)
  refine q_iload_n (pc' := 1) dX11_isOf_0 rfl rfl (q_iload_n (pc' := 2) dX11_isOf_1 rfl rfl (q_ishr (pc' := 3) dX11_isOf_2 rfl (q_iconst (pc' := 4) _ dX11_isOf_3 rfl kk_iconst_1 (q_iand (pc' := 5) dX11_isOf_4 rfl (q_iconst (pc' := 6) _ dX11_isOf_5 rfl kk_iconst_1 (q_icmp_ne (pc' := 9) (pt := 13) dX11_isOf_6 rfl rfl (fun h1 => ?_) (fun h1 => ?_)))))))
  · exact q_iconst (pc' := 14) _ dX11_isOf_13 rfl kk_iconst_0 (q_zret dX11_isOf_14 rfl (by first | exact Or.inl rfl | exact Or.inr rfl | exact bI_01 _) ⟨by unfold bitS; rw [decide_eq_false h1]; rfl, rfl⟩)
  · exact q_iconst (pc' := 10) _ dX11_isOf_9 rfl kk_iconst_1 (q_goto (pc' := 14) dX11_isOf_10 rfl (q_zret dX11_isOf_14 rfl (by first | exact Or.inl rfl | exact Or.inr rfl | exact bI_01 _) ⟨by unfold bitS; rw [decide_eq_true h1]; rfl, rfl⟩))
theorem rn_X11_spot {a b : Int32} : Rn w l yX11_spot dd_X11_spot [.int a, .int b] h (some (.int (nI 32 * a + b))) h := by
  refine rn_intro (L := [some (.int a), some (.int b)]) ⟨by decide, rfl, (fun h => by cases h)⟩ (Nat.le_refl _) (Nat.le_of_ble_eq_true rfl) rfl (fun Y => ?_)
  exact q_bipush (pc' := 2) _ dX11_spot_0 rfl kk_bipush_32 (q_iload_n (pc' := 3) dX11_spot_2 rfl rfl (q_imul (pc' := 4) dX11_spot_3 rfl (q_iload_n (pc' := 5) dX11_spot_4 rfl rfl (q_iadd (pc' := 6) dX11_spot_5 rfl (q_iret dX11_spot_6 rfl ⟨rfl, rfl⟩)))))
theorem rn_X11_lineAt {a b : Int32} : Rn w l yX11_lineAt dd_X11_lineAt [.int a, .int b] h (some (.int (nI 8 * a + b))) h := by
  refine rn_intro (L := [some (.int a), some (.int b)]) ⟨by decide, rfl, (fun h => by cases h)⟩ (Nat.le_refl _) (Nat.le_of_ble_eq_true rfl) rfl (fun Y => ?_)
  exact q_bipush (pc' := 2) _ dX11_lineAt_0 rfl kk_bipush_8 (q_iload_n (pc' := 3) dX11_lineAt_2 rfl rfl (q_imul (pc' := 4) dX11_lineAt_3 rfl (q_iload_n (pc' := 5) dX11_lineAt_4 rfl rfl (q_iadd (pc' := 6) dX11_lineAt_5 rfl (q_iret dX11_lineAt_6 rfl ⟨rfl, rfl⟩)))))
theorem rn_X11_isLetter {a : Int32} : Rn w l yX11_isLetter dd_X11_isLetter [.int a] h (some (.int (bI (decide (nI 97 ≤ a ∧ a ≤ nI 122))))) h := by
  refine rn_intro (L := [some (.int a)]) ⟨by decide, rfl, (fun h => by cases h)⟩ (Nat.le_refl _) (Nat.le_of_ble_eq_true rfl) rfl (fun Y => ?_)
  refine q_iload_n (pc' := 1) dX11_isLetter_0 rfl rfl (q_bipush (pc' := 3) _ dX11_isLetter_1 rfl kk_bipush_97 (q_icmp_lt (pc' := 6) (pt := 16) dX11_isLetter_3 rfl rfl (fun h1 => ?_) (fun h1 => ?_)))
  · exact q_iconst (pc' := 17) _ dX11_isLetter_16 rfl kk_iconst_0 (q_zret dX11_isLetter_17 rfl (by first | exact Or.inl rfl | exact Or.inr rfl | exact bI_01 _) ⟨by rw [decide_eq_false (fun q => absurd h1 (Int32.not_lt.mpr q.1))]; rfl, rfl⟩)
  · refine q_iload_n (pc' := 7) dX11_isLetter_6 rfl rfl (q_bipush (pc' := 9) _ dX11_isLetter_7 rfl kk_bipush_122 (q_icmp_gt (pc' := 12) (pt := 16) dX11_isLetter_9 rfl rfl (fun h2 => ?_) (fun h2 => ?_)))
    · exact q_iconst (pc' := 17) _ dX11_isLetter_16 rfl kk_iconst_0 (q_zret dX11_isLetter_17 rfl (by first | exact Or.inl rfl | exact Or.inr rfl | exact bI_01 _) ⟨by rw [decide_eq_false (fun q => absurd h2 (Int32.not_lt.mpr q.2))]; rfl, rfl⟩)
    · exact q_iconst (pc' := 13) _ dX11_isLetter_12 rfl kk_iconst_1 (q_goto (pc' := 17) dX11_isLetter_13 rfl (q_zret dX11_isLetter_17 rfl (by first | exact Or.inl rfl | exact Or.inr rfl | exact bI_01 _) ⟨by rw [decide_eq_true ⟨Int32.not_lt.mp h1, Int32.not_lt.mp h2⟩]; rfl, rfl⟩))
theorem rn_X11_isDigit {a : Int32} : Rn w l yX11_isDigit dd_X11_isDigit [.int a] h (some (.int (bI (decide (nI 48 ≤ a ∧ a ≤ nI 57))))) h := by
  refine rn_intro (L := [some (.int a)]) ⟨by decide, rfl, (fun h => by cases h)⟩ (Nat.le_refl _) (Nat.le_of_ble_eq_true rfl) rfl (fun Y => ?_)
  refine q_iload_n (pc' := 1) dX11_isDigit_0 rfl rfl (q_bipush (pc' := 3) _ dX11_isDigit_1 rfl kk_bipush_48 (q_icmp_lt (pc' := 6) (pt := 16) dX11_isDigit_3 rfl rfl (fun h1 => ?_) (fun h1 => ?_)))
  · exact q_iconst (pc' := 17) _ dX11_isDigit_16 rfl kk_iconst_0 (q_zret dX11_isDigit_17 rfl (by first | exact Or.inl rfl | exact Or.inr rfl | exact bI_01 _) ⟨by rw [decide_eq_false (fun q => absurd h1 (Int32.not_lt.mpr q.1))]; rfl, rfl⟩)
  · refine q_iload_n (pc' := 7) dX11_isDigit_6 rfl rfl (q_bipush (pc' := 9) _ dX11_isDigit_7 rfl kk_bipush_57 (q_icmp_gt (pc' := 12) (pt := 16) dX11_isDigit_9 rfl rfl (fun h2 => ?_) (fun h2 => ?_)))
    · exact q_iconst (pc' := 17) _ dX11_isDigit_16 rfl kk_iconst_0 (q_zret dX11_isDigit_17 rfl (by first | exact Or.inl rfl | exact Or.inr rfl | exact bI_01 _) ⟨by rw [decide_eq_false (fun q => absurd h2 (Int32.not_lt.mpr q.2))]; rfl, rfl⟩)
    · exact q_iconst (pc' := 13) _ dX11_isDigit_12 rfl kk_iconst_1 (q_goto (pc' := 17) dX11_isDigit_13 rfl (q_zret dX11_isDigit_17 rfl (by first | exact Or.inl rfl | exact Or.inr rfl | exact bI_01 _) ⟨by rw [decide_eq_true ⟨Int32.not_lt.mp h1, Int32.not_lt.mp h2⟩]; rfl, rfl⟩))
/-- four bytes of a number come behind those on the tape -/
def m_four (I : mj_M) (v : Int32) (t : Nat) : mj_M := mj_up (mj_up (mj_up (mj_up (mj_up I 453 t (v >>> (nI 24 &&& 31) &&& nI 255)) 453 (t + 1) (v >>> (nI 16 &&& 31) &&& nI 255)) 453 (t + 2) (v >>> (nI 8 &&& 31) &&& nI 255)) 453 (t + 3) (v >>> (nI 0 &&& 31) &&& nI 255)) 452 1 (nI (t + 4))
end M1
