/-! ===== the class: TOKENS, one by one ===== -/
/-- a byte as the class reads it -/
def sB (x : Nat) : Int32 := (nI x).toInt8.toInt32
theorem mj_up_up {α : Type} {f : Nat → Nat → α} {a j : Nat} {x y : α} : mj_up (mj_up f a j x) a j y = mj_up f a j y := by
  funext c k
  unfold mj_up
  split
  · rfl
  · rfl
theorem sB_lt : ∀ x, x < 256 → (decide (nI 97 ≤ sB x ∧ sB x ≤ nI 122)) = decide (97 ≤ x ∧ x ≤ 122) := by decide +kernel
theorem sB_dg : ∀ x, x < 256 → (decide (nI 48 ≤ sB x ∧ sB x ≤ nI 57)) = decide (48 ≤ x ∧ x ≤ 57) := by decide +kernel
theorem sB_bl : ∀ x, x < 256 → (decide (sB x = nI 32 ∨ sB x = nI 10)) = decide (x = 32 ∨ x = 10) := by decide +kernel
theorem sB_sg : ∀ x, x < 256 → (decide (sB x = nI 59)) = decide (x = 59) := by decide +kernel
theorem sB_id : ∀ x, x < 128 → sB x = nI x := by decide +kernel
theorem nJ_orr (a c : Nat) : nJ a ||| nJ c = nJ (a ||| c) := by
  apply Int64.toBitVec_inj.mp
  rw [Int64.toBitVec_or, nJ_bv, nJ_bv, nJ_bv]
  exact (BitVec.ofNat_or).symm
/-- a word as the class packs it -/
def wP (T : Nat → Nat) (a : Nat) : Nat → Nat
  | 0 => 0
  | n + 1 => wP T a n ||| (if n < 7 then (T (a + n) - 96) * 2 ^ (5 * (6 - n)) else 0)
/-- the tape of the class -/
def cTp (I : mj_M) (T : Nat → Nat) (sz : Nat) : Prop := sz ≤ 800 ∧ ∀ k, k < sz → I 1 k = sB (T k) ∧ T k < 256
theorem pkd_e : ∀ c, c < 123 → 97 ≤ c → ∀ p, p < 7 → (nI c - nI 97 + nI 1).toInt64 <<< ((nI 5 * (nI 6 - nI p)).toInt64 &&& 63) = nJ ((c - 96) * 2 ^ (5 * (6 - p))) := by decide +kernel
section TOK1
variable {w : mj_Wd} {l : Launch} {I : mj_M} {J : mj_J} {R : mj_R} {T : Nat → Nat} {sz a : Nat}
theorem rn_X9_isLetter0 {x : Int32} {h : mj_H} : Rn w l yX9_isLetter dd_X9_isLetter [.int x] h (some (.int (bI (decide (nI 97 ≤ x ∧ x ≤ nI 122))))) h := by
  refine rn_intro2 (L := [some (.int x)]) ⟨by decide, rfl, (fun h => by cases h)⟩ (Nat.le_refl _) (Nat.le_of_ble_eq_true rfl) rfl (fun Y Q hQ => ?_)
  by_cases h1 : x < nI 97
  · rw [decide_eq_false (fun q => absurd q.1 (Int32.not_le.mpr h1))] at hQ
    exact q_iload_n (pc' := 1) dX9_isLetter_0 rfl rfl (q_bipush (pc' := 3) _ dX9_isLetter_1 rfl kk_bipush_97 (q_icmp_lt (pc' := 6) (pt := 16) dX9_isLetter_3 rfl rfl (fun _ => (q_iconst (pc' := 17) _ dX9_isLetter_16 rfl kk_iconst_0 (q_zret dX9_isLetter_17 rfl (by first | exact Or.inl rfl | exact Or.inr rfl | exact bI_01 _) hQ))) (fun h9 => absurd (h1) h9)))
  · by_cases h2 : nI 122 < x
    · rw [decide_eq_false (fun q => absurd q.2 (Int32.not_le.mpr h2))] at hQ
      exact q_iload_n (pc' := 1) dX9_isLetter_0 rfl rfl (q_bipush (pc' := 3) _ dX9_isLetter_1 rfl kk_bipush_97 (q_icmp_lt (pc' := 6) (pt := 16) dX9_isLetter_3 rfl rfl (fun h9 => absurd h9 (h1)) (fun _ => (q_iload_n (pc' := 7) dX9_isLetter_6 rfl rfl (q_bipush (pc' := 9) _ dX9_isLetter_7 rfl kk_bipush_122 (q_icmp_gt (pc' := 12) (pt := 16) dX9_isLetter_9 rfl rfl (fun _ => (q_iconst (pc' := 17) _ dX9_isLetter_16 rfl kk_iconst_0 (q_zret dX9_isLetter_17 rfl (by first | exact Or.inl rfl | exact Or.inr rfl | exact bI_01 _) hQ))) (fun h9 => absurd (h2) h9)))))))
    · rw [decide_eq_true ⟨Int32.not_lt.mp h1, Int32.not_lt.mp h2⟩] at hQ
      exact q_iload_n (pc' := 1) dX9_isLetter_0 rfl rfl (q_bipush (pc' := 3) _ dX9_isLetter_1 rfl kk_bipush_97 (q_icmp_lt (pc' := 6) (pt := 16) dX9_isLetter_3 rfl rfl (fun h9 => absurd h9 (h1)) (fun _ => (q_iload_n (pc' := 7) dX9_isLetter_6 rfl rfl (q_bipush (pc' := 9) _ dX9_isLetter_7 rfl kk_bipush_122 (q_icmp_gt (pc' := 12) (pt := 16) dX9_isLetter_9 rfl rfl (fun h9 => absurd h9 (h2)) (fun _ => (q_iconst (pc' := 13) _ dX9_isLetter_12 rfl kk_iconst_1 (q_goto (pc' := 17) dX9_isLetter_13 rfl (q_zret dX9_isLetter_17 rfl (by first | exact Or.inl rfl | exact Or.inr rfl | exact bI_01 _) hQ))))))))))
theorem rn_X9_isDigit0 {x : Int32} {h : mj_H} : Rn w l yX9_isDigit dd_X9_isDigit [.int x] h (some (.int (bI (decide (nI 48 ≤ x ∧ x ≤ nI 57))))) h := by
  refine rn_intro2 (L := [some (.int x)]) ⟨by decide, rfl, (fun h => by cases h)⟩ (Nat.le_refl _) (Nat.le_of_ble_eq_true rfl) rfl (fun Y Q hQ => ?_)
  by_cases h1 : x < nI 48
  · rw [decide_eq_false (fun q => absurd q.1 (Int32.not_le.mpr h1))] at hQ
    exact q_iload_n (pc' := 1) dX9_isDigit_0 rfl rfl (q_bipush (pc' := 3) _ dX9_isDigit_1 rfl kk_bipush_48 (q_icmp_lt (pc' := 6) (pt := 16) dX9_isDigit_3 rfl rfl (fun _ => (q_iconst (pc' := 17) _ dX9_isDigit_16 rfl kk_iconst_0 (q_zret dX9_isDigit_17 rfl (by first | exact Or.inl rfl | exact Or.inr rfl | exact bI_01 _) hQ))) (fun h9 => absurd (h1) h9)))
  · by_cases h2 : nI 57 < x
    · rw [decide_eq_false (fun q => absurd q.2 (Int32.not_le.mpr h2))] at hQ
      exact q_iload_n (pc' := 1) dX9_isDigit_0 rfl rfl (q_bipush (pc' := 3) _ dX9_isDigit_1 rfl kk_bipush_48 (q_icmp_lt (pc' := 6) (pt := 16) dX9_isDigit_3 rfl rfl (fun h9 => absurd h9 (h1)) (fun _ => (q_iload_n (pc' := 7) dX9_isDigit_6 rfl rfl (q_bipush (pc' := 9) _ dX9_isDigit_7 rfl kk_bipush_57 (q_icmp_gt (pc' := 12) (pt := 16) dX9_isDigit_9 rfl rfl (fun _ => (q_iconst (pc' := 17) _ dX9_isDigit_16 rfl kk_iconst_0 (q_zret dX9_isDigit_17 rfl (by first | exact Or.inl rfl | exact Or.inr rfl | exact bI_01 _) hQ))) (fun h9 => absurd (h2) h9)))))))
    · rw [decide_eq_true ⟨Int32.not_lt.mp h1, Int32.not_lt.mp h2⟩] at hQ
      exact q_iload_n (pc' := 1) dX9_isDigit_0 rfl rfl (q_bipush (pc' := 3) _ dX9_isDigit_1 rfl kk_bipush_48 (q_icmp_lt (pc' := 6) (pt := 16) dX9_isDigit_3 rfl rfl (fun h9 => absurd h9 (h1)) (fun _ => (q_iload_n (pc' := 7) dX9_isDigit_6 rfl rfl (q_bipush (pc' := 9) _ dX9_isDigit_7 rfl kk_bipush_57 (q_icmp_gt (pc' := 12) (pt := 16) dX9_isDigit_9 rfl rfl (fun h9 => absurd h9 (h2)) (fun _ => (q_iconst (pc' := 13) _ dX9_isDigit_12 rfl kk_iconst_1 (q_goto (pc' := 17) dX9_isDigit_13 rfl (q_zret dX9_isDigit_17 rfl (by first | exact Or.inl rfl | exact Or.inr rfl | exact bI_01 _) hQ))))))))))
theorem rn_X9_isBlank0 {x : Int32} {h : mj_H} : Rn w l yX9_isBlank dd_X9_isBlank [.int x] h (some (.int (bI (decide (x = nI 32 ∨ x = nI 10))))) h := by
  refine rn_intro2 (L := [some (.int x)]) ⟨by decide, rfl, (fun h => by cases h)⟩ (Nat.le_refl _) (Nat.le_of_ble_eq_true rfl) rfl (fun Y Q hQ => ?_)
  by_cases h1 : x = nI 32
  · rw [decide_eq_true (Or.inl h1)] at hQ
    exact q_iload_n (pc' := 1) dX9_isBlank_0 rfl rfl (q_bipush (pc' := 3) _ dX9_isBlank_1 rfl kk_bipush_32 (q_icmp_eq (pc' := 6) (pt := 12) dX9_isBlank_3 rfl rfl (fun _ => (q_iconst (pc' := 13) _ dX9_isBlank_12 rfl kk_iconst_1 (q_goto (pc' := 17) dX9_isBlank_13 rfl (q_zret dX9_isBlank_17 rfl (by first | exact Or.inl rfl | exact Or.inr rfl | exact bI_01 _) hQ)))) (fun h9 => absurd (h1) h9)))
  · by_cases h2 : x = nI 10
    · rw [decide_eq_true (Or.inr h2)] at hQ
      exact q_iload_n (pc' := 1) dX9_isBlank_0 rfl rfl (q_bipush (pc' := 3) _ dX9_isBlank_1 rfl kk_bipush_32 (q_icmp_eq (pc' := 6) (pt := 12) dX9_isBlank_3 rfl rfl (fun h9 => absurd h9 (h1)) (fun _ => (q_iload_n (pc' := 7) dX9_isBlank_6 rfl rfl (q_bipush (pc' := 9) _ dX9_isBlank_7 rfl kk_bipush_10 (q_icmp_ne (pc' := 12) (pt := 16) dX9_isBlank_9 rfl rfl (fun h9 => absurd (h2) h9) (fun _ => (q_iconst (pc' := 13) _ dX9_isBlank_12 rfl kk_iconst_1 (q_goto (pc' := 17) dX9_isBlank_13 rfl (q_zret dX9_isBlank_17 rfl (by first | exact Or.inl rfl | exact Or.inr rfl | exact bI_01 _) hQ))))))))))
    · rw [decide_eq_false (fun q => q.elim h1 h2)] at hQ
      exact q_iload_n (pc' := 1) dX9_isBlank_0 rfl rfl (q_bipush (pc' := 3) _ dX9_isBlank_1 rfl kk_bipush_32 (q_icmp_eq (pc' := 6) (pt := 12) dX9_isBlank_3 rfl rfl (fun h9 => absurd h9 (h1)) (fun _ => (q_iload_n (pc' := 7) dX9_isBlank_6 rfl rfl (q_bipush (pc' := 9) _ dX9_isBlank_7 rfl kk_bipush_10 (q_icmp_ne (pc' := 12) (pt := 16) dX9_isBlank_9 rfl rfl (fun _ => (q_iconst (pc' := 17) _ dX9_isBlank_16 rfl kk_iconst_0 (q_zret dX9_isBlank_17 rfl (by first | exact Or.inl rfl | exact Or.inr rfl | exact bI_01 _) hQ))) (fun h9 => absurd h9 (h2))))))))
theorem tLt_in {i : Nat} (h : i < sz) : tLt T sz i = decide (97 ≤ T i ∧ T i ≤ 122) := by
  unfold tLt
  simp only [h, true_and]
theorem tDg_in {i : Nat} (h : i < sz) : tDg T sz i = decide (48 ≤ T i ∧ T i ≤ 57) := by
  unfold tDg
  simp only [h, true_and]
theorem tBl_in {i : Nat} (h : i < sz) : tBl T sz i = decide (T i = 32 ∨ T i = 10) := by
  unfold tBl
  simp only [h, true_and]
theorem rn_X9_isLetter {i : Nat} {h : mj_H} (hi : i < sz) (hT : T i < 256) : Rn w l yX9_isLetter dd_X9_isLetter [.int (sB (T i))] h (some (.int (bI (tLt T sz i)))) h := by
  rw [tLt_in hi, ← sB_lt _ hT]; exact rn_X9_isLetter0
theorem rn_X9_isDigit {i : Nat} {h : mj_H} (hi : i < sz) (hT : T i < 256) : Rn w l yX9_isDigit dd_X9_isDigit [.int (sB (T i))] h (some (.int (bI (tDg T sz i)))) h := by
  rw [tDg_in hi, ← sB_dg _ hT]; exact rn_X9_isDigit0
theorem rn_X9_isBlank {i : Nat} {h : mj_H} (hi : i < sz) (hT : T i < 256) : Rn w l yX9_isBlank dd_X9_isBlank [.int (sB (T i))] h (some (.int (bI (tBl T sz i)))) h := by
  rw [tBl_in hi, ← sB_bl _ hT]; exact rn_X9_isBlank0
theorem rn_X9_packed {c p : Nat} {h : mj_H} (h1 : 97 ≤ c) (h2 : c ≤ 122) (hp : p < 2 ^ 31) : Rn w l yX9_packed dd_X9_packed [.int (nI c), .int (nI p)] h (some (.long (nJ (if p < 7 then (c - 96) * 2 ^ (5 * (6 - p)) else 0)))) h := by
  refine rn_intro2 (L := [some (.int (nI c)), some (.int (nI p)), none]) ⟨by decide, rfl, (fun h => by cases h)⟩ (Nat.le_refl _) (Nat.le_of_ble_eq_true rfl) rfl (fun Y Q hQ => ?_)
  by_cases h7 : p < 7
  · rw [if_pos h7] at hQ
    refine q_iload_n (pc' := 1) dX9_packed_0 rfl rfl (q_bipush (pc' := 3) _ dX9_packed_1 rfl kk_bipush_7 (q_icmp_ge (pc' := 6) (pt := 10) dX9_packed_3 rfl rfl (fun h9 => absurd h9 (Int32.not_le.mpr (nI_lt h7 (by decide)))) (fun _ => (q_iconst (pc' := 7) _ dX9_packed_6 rfl kk_iconst_1 (q_goto (pc' := 11) dX9_packed_7 rfl (q_ist_2 (pc' := 12) dX9_packed_11 rfl (by decide) rfl (q_iload_n (pc' := 13) dX9_packed_12 rfl rfl (q_if_eq (pc' := 16) (pt := 33) dX9_packed_13 rfl rfl (fun h9 => absurd h9 (by decide)) (fun _ => (q_iload_n (pc' := 17) dX9_packed_16 rfl rfl (q_bipush (pc' := 19) _ dX9_packed_17 rfl kk_bipush_97 (q_isub (pc' := 20) dX9_packed_19 rfl (q_iconst (pc' := 21) _ dX9_packed_20 rfl kk_iconst_1 (q_iadd (pc' := 22) dX9_packed_21 rfl (q_i2l (pc' := 23) dX9_packed_22 rfl ?_)))))))))))))))
    refine q_iconst (pc' := 24) _ dX9_packed_23 rfl kk_iconst_5 (q_bipush (pc' := 26) _ dX9_packed_24 rfl kk_bipush_6 (q_iload_n (pc' := 27) dX9_packed_26 rfl rfl (q_isub (pc' := 28) dX9_packed_27 rfl (q_imul (pc' := 29) dX9_packed_28 rfl (q_lshl (pc' := 30) dX9_packed_29 rfl ?_)))))
    rw [pkd_e c (by omega) h1 p h7]
    exact q_goto (pc' := 34) dX9_packed_30 rfl (q_lret dX9_packed_34 rfl hQ)
  · rw [if_neg h7] at hQ
    exact q_iload_n (pc' := 1) dX9_packed_0 rfl rfl (q_bipush (pc' := 3) _ dX9_packed_1 rfl kk_bipush_7 (q_icmp_ge (pc' := 6) (pt := 10) dX9_packed_3 rfl rfl (fun _ => (q_iconst (pc' := 11) _ dX9_packed_10 rfl kk_iconst_0 (q_ist_2 (pc' := 12) dX9_packed_11 rfl (by decide) rfl (q_iload_n (pc' := 13) dX9_packed_12 rfl rfl (q_if_eq (pc' := 16) (pt := 33) dX9_packed_13 rfl rfl (fun _ => (q_lconst (pc' := 34) 0 dX9_packed_33 rfl rfl (q_lret dX9_packed_34 rfl hQ))) (fun h9 => absurd (rfl) h9)))))) (fun h9 => absurd (nI_le (by omega) hp) h9)))
end TOK1
