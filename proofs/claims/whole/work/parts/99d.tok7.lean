/-! ===== the class: what a TOKEN is asked for ===== -/
theorem kw5_inj : ∀ i, i < 19 → ∀ j, j < 19 → kw5 i = kw5 j → i = j := by decide +kernel
theorem kwG_ge {x : Nat} : ∀ m k, kwG x m k = 0 ∨ (k < kwG x m k ∧ kwG x m k ≤ k + m ∧ kw5 (kwG x m k - 1) = x)
  | 0, k => Or.inl rfl
  | m + 1, k => by
    have e : kwG x (m + 1) k = if kw5 k = x then k + 1 else kwG x m (k + 1) := rfl
    rw [e]
    by_cases h : kw5 k = x
    · rw [if_pos h]
      exact Or.inr ⟨by omega, by omega, h⟩
    · rw [if_neg h]
      rcases kwG_ge m (k + 1) with h1 | ⟨h1, h2, h3⟩
      · exact Or.inl h1
      · exact Or.inr ⟨by omega, by omega, h3⟩
theorem kwG_no {x : Nat} : ∀ m k, kwG x m k = 0 → ∀ j, k ≤ j → j < k + m → kw5 j ≠ x
  | 0, k, _, j, h1, h2 => by omega
  | m + 1, k, h, j, h1, h2 => by
    have e : kwG x (m + 1) k = if kw5 k = x then k + 1 else kwG x m (k + 1) := rfl
    rw [e] at h
    by_cases hc : kw5 k = x
    · rw [if_pos hc] at h; cases h
    · rw [if_neg hc] at h
      by_cases ej : j = k
      · rw [ej]; exact hc
      · exact kwG_no m (k + 1) h j (by omega) (by omega)
theorem kwG_iff {x j : Nat} (hj : j < 19) : kwG x 19 0 = j + 1 ↔ kw5 j = x := by
  constructor
  · intro h
    rcases kwG_ge (x := x) 19 0 with h1 | ⟨h1, h2, h3⟩
    · rw [h1] at h; cases h
    · rw [h] at h3; exact h3
  · intro h
    rcases kwG_ge (x := x) 19 0 with h1 | ⟨h1, h2, h3⟩
    · exact absurd h (kwG_no 19 0 h1 j (by omega) (by omega))
    · have := kw5_inj (kwG x 19 0 - 1) (by omega) j hj (h3.trans h.symm)
      omega
/-- a word among the TOKENS -/
theorem tk_ltr {T : Nat → Nat} {sz : Nat} {K : Nat → Nat} (h : tkK T sz K 5 = 1) : ltr T (tkK T sz K 4) (tkK T sz K 7) ∧ tkK T sz K 12 = wV T (tkK T sz K 4) (tkK T sz K 7) := by
  unfold tkK at h ⊢
  by_cases h1 : tkE (tBl T sz) 801 (K 3) < sz
  · rw [if_neg (fun q => q h1)] at h ⊢
    by_cases h2 : tLt T sz (tkE (tBl T sz) 801 (K 3)) = true
    · rw [if_pos h2] at h ⊢
      refine ⟨fun k hk => ?_, rfl⟩
      have hk2 : k < tkE (tLt T sz) 801 (tkE (tBl T sz) 801 (K 3)) - tkE (tBl T sz) 801 (K 3) := hk
      have hr : tLt T sz (tkE (tBl T sz) 801 (K 3) + k) = true := tkE_run (P := tLt T sz) 801 (tkE (tBl T sz) 801 (K 3)) _ (Nat.le_add_right _ k) (by omega)
      exact (of_decide_eq_true hr).2
    · rw [if_neg h2] at h
      by_cases h3 : tDg T sz (tkE (tBl T sz) 801 (K 3)) = true
      · rw [if_pos h3] at h
        have q : (if 3 < tkE (tDg T sz) 801 (tkE (tBl T sz) 801 (K 3)) - tkE (tBl T sz) 801 (K 3) ∨ tLt T sz (tkE (tDg T sz) 801 (tkE (tBl T sz) 801 (K 3))) = true then 4 else 2) = 1 := h
        split at q <;> cases q
      · rw [if_neg h3] at h
        have q : (if T (tkE (tBl T sz) 801 (K 3)) = 59 then 3 else 4) = 1 := h
        split at q <;> cases q
  · rw [if_pos h1] at h
    cases h
/-- what the class's keyword is worth: a number + 1 -/
def kwO (T : Nat → Nat) (K : Nat → Nat) : Nat := if K 5 = 1 ∧ K 7 ≤ 7 then kwG (wP T (K 4) (K 7)) 19 0 else 0
/-- the TOKEN's word tells which -/
def kWd1 (T : Nat → Nat) (K : Nat → Nat) : Prop := ∀ j, j < 19 → (kwO T K = j + 1 ↔ K 5 = 1 ∧ K 12 = kw8 j)
theorem kSq_kw {T : Nat → Nat} {sz i : Nat} : kWd1 T (kSq T sz i) := by
  intro j hj
  unfold kwO
  by_cases h1 : kSq T sz i 5 = 1
  · have h1' := h1
    rw [kSq_pv] at h1'
    have h2 := tk_ltr h1'
    have h3 := tk_wd h1'
    rw [← kSq_pv] at h2 h3
    by_cases h7 : kSq T sz i 7 ≤ 7
    · rw [if_pos ⟨h1, h7⟩, kwG_iff hj, kw_58 h7 h2.1 hj, h2.2]
      exact ⟨fun q => ⟨h1, q⟩, fun q => q.2⟩
    · rw [if_neg (fun q => h7 q.2)]
      have e8 : kSq T sz i 7 = 8 := by have := h3.2.1.1; omega
      rw [e8] at h2
      refine ⟨fun q => (by cases q), fun q => ?_⟩
      exact absurd (h2.2.symm.trans q.2) (kw_8 h2.1 hj)
  · rw [if_neg (fun q => h1 q.1)]
    exact ⟨fun q => (by cases q), fun q => absurd q.1 h1⟩
theorem kwO_le {T : Nat → Nat} {K : Nat → Nat} : kwO T K ≤ 19 := by
  unfold kwO
  split
  · rcases kwG_ge (x := wP T (K 4) (K 7)) 19 0 with h | h <;> omega
  · omega
theorem kSq_89 {T : Nat → Nat} {sz : Nat} : ∀ i, kSq T sz i 8 = 0 ∧ kSq T sz i 9 = 0 := by
  have st : ∀ K : Nat → Nat, tkK T sz K 8 = K 8 ∧ tkK T sz K 9 = K 9 := by
    intro K
    unfold tkK
    split
    · exact ⟨rfl, rfl⟩
    · split
      · exact ⟨rfl, rfl⟩
      · split
        · exact ⟨rfl, rfl⟩
        · exact ⟨rfl, rfl⟩
  intro i
  induction i with
  | zero => exact st kZ
  | succ i ih =>
    have := st (kSq T sz i)
    exact ⟨this.1.trans ih.1, this.2.trans ih.2⟩
/-- a fault told -/
def fB (I : mj_M) (x : Nat) : mj_M := mj_up (mj_up I 10 16 (nI x)) 10 17 (I 10 14)
section TOK7
variable {w : mj_Wd} {l : Launch} {I : mj_M} {J : mj_J} {R : mj_R} {T : Nat → Nat} {sz : Nat} {K : Nat → Nat}
theorem kW_8 {x : Nat} (h8 : K 8 = 0) : kW K x 8 = if K 5 = 4 then 1 else x := by
  unfold kW
  rw [if_pos h8]
  rfl
theorem rn_X9_fitsNumber {x y : Int32} (h : cCur I J T K) (hk : kOK sz K) (h8 : K 8 = 0) : Rn w l yX9_fitsNumber dd_X9_fitsNumber [.ref 10, .int x, .int y] (472, I, J, R) (some (.int (bI (kN K x y 8 == 0)))) (472, (if kN K x y 8 = 0 then I else fB I (kN K x y 8)), J, R) := by
  have k5 := hk.2.1
  have e9 := h.1.1
  refine rn_intro2 (L := [some (.ref 10), some (.int x), some (.int y)]) ⟨by decide, rfl, (fun h => by cases h)⟩ (Nat.le_refl _) (Nat.le_of_ble_eq_true rfl) rfl (fun Y Q hQ => ?_)
  by_cases h2 : K 5 = 2
  · have e12 : I 10 12 = nI (K 6) := by rw [h.2.2.2.1, if_pos h2]
    by_cases hr : x ≤ nI (K 6) ∧ nI (K 6) ≤ y
    · have eN : kN K x y = K := by
        unfold kN
        rw [if_pos h8, if_pos h2, if_pos hr]
      rw [eN, if_pos h8, h8] at hQ
      refine q_aload_n (pc' := 1) dX9_fitsNumber_0 rfl rfl (q_getIe (pc' := 4) dX9_fitsNumber_1 rfl fr_RX9_96 ⟨by omega, rfl⟩ rfl e9 (q_iconst (pc' := 5) _ dX9_fitsNumber_4 rfl kk_iconst_2 (q_icmp_eq (pc' := 8) (pt := 13) dX9_fitsNumber_5 rfl rfl (fun _ => (q_aload_n (pc' := 14) dX9_fitsNumber_13 rfl rfl (q_getIe (pc' := 17) dX9_fitsNumber_14 rfl fr_RX9_109 ⟨by omega, rfl⟩ rfl e12 (q_iload_n (pc' := 18) dX9_fitsNumber_17 rfl rfl (q_icmp_lt (pc' := 21) (pt := 29) dX9_fitsNumber_18 rfl rfl (fun h9 => absurd h9 (Int32.not_lt.mpr hr.1)) (fun _ => (q_aload_n (pc' := 22) dX9_fitsNumber_21 rfl rfl (q_getIe (pc' := 25) dX9_fitsNumber_22 rfl fr_RX9_109 ⟨by omega, rfl⟩ rfl e12 (q_iload_n (pc' := 26) dX9_fitsNumber_25 rfl rfl (q_icmp_le (pc' := 29) (pt := 37) dX9_fitsNumber_26 rfl rfl (fun _ => (q_iconst (pc' := 38) _ dX9_fitsNumber_37 rfl kk_iconst_1 (q_goto (pc' := 42) dX9_fitsNumber_38 rfl ?_))) (fun h9 => absurd (hr.2) h9))))))))))) (fun h9 => absurd (congrArg nI h2) h9))))
      exact q_zret dX9_fitsNumber_42 rfl (by first | exact Or.inl rfl | exact Or.inr rfl | exact bI_01 _) hQ
    · have eN : kN K x y = kW K 4 := by
        unfold kN
        rw [if_pos h8, if_pos h2, if_neg hr]
      have e4 : kW K 4 8 = 4 := by rw [kW_8 h8, if_neg (by omega)]
      rw [eN, e4, if_neg (by decide)] at hQ
      by_cases hx : x ≤ nI (K 6)
      · have hy : ¬ nI (K 6) ≤ y := fun q => hr ⟨hx, q⟩
        refine q_aload_n (pc' := 1) dX9_fitsNumber_0 rfl rfl (q_getIe (pc' := 4) dX9_fitsNumber_1 rfl fr_RX9_96 ⟨by omega, rfl⟩ rfl e9 (q_iconst (pc' := 5) _ dX9_fitsNumber_4 rfl kk_iconst_2 (q_icmp_eq (pc' := 8) (pt := 13) dX9_fitsNumber_5 rfl rfl (fun _ => (q_aload_n (pc' := 14) dX9_fitsNumber_13 rfl rfl (q_getIe (pc' := 17) dX9_fitsNumber_14 rfl fr_RX9_109 ⟨by omega, rfl⟩ rfl e12 (q_iload_n (pc' := 18) dX9_fitsNumber_17 rfl rfl (q_icmp_lt (pc' := 21) (pt := 29) dX9_fitsNumber_18 rfl rfl (fun h9 => absurd h9 (Int32.not_lt.mpr hx)) (fun _ => (q_aload_n (pc' := 22) dX9_fitsNumber_21 rfl rfl (q_getIe (pc' := 25) dX9_fitsNumber_22 rfl fr_RX9_109 ⟨by omega, rfl⟩ rfl e12 (q_iload_n (pc' := 26) dX9_fitsNumber_25 rfl rfl (q_icmp_le (pc' := 29) (pt := 37) dX9_fitsNumber_26 rfl rfl (fun h9 => absurd h9 (hy)) (fun _ => (q_aload_n (pc' := 30) dX9_fitsNumber_29 rfl rfl (q_iconst (pc' := 31) _ dX9_fitsNumber_30 rfl kk_iconst_4 ?_))))))))))))) (fun h9 => absurd (congrArg nI h2) h9))))
        exact q_cVi (pc' := 34) dX9_fitsNumber_31 rfl ml_RX9_123 yv_X9_blame (by decide) (rn_X9_blame) ⟨by omega, rfl⟩ rfl rfl (Nat.le_of_ble_eq_true rfl) (Nat.le_refl _) (q_ifb_eq (pc' := 37) (pt := 41) dX9_fitsNumber_34 rfl rfl (fun _ => (q_iconst (pc' := 42) _ dX9_fitsNumber_41 rfl kk_iconst_0 (q_zret dX9_fitsNumber_42 rfl (by first | exact Or.inl rfl | exact Or.inr rfl | exact bI_01 _) hQ))) (fun h9 => Bool.noConfusion (Eq.trans (Eq.symm (rfl)) h9)))
      · exact q_aload_n (pc' := 1) dX9_fitsNumber_0 rfl rfl (q_getIe (pc' := 4) dX9_fitsNumber_1 rfl fr_RX9_96 ⟨by omega, rfl⟩ rfl e9 (q_iconst (pc' := 5) _ dX9_fitsNumber_4 rfl kk_iconst_2 (q_icmp_eq (pc' := 8) (pt := 13) dX9_fitsNumber_5 rfl rfl (fun _ => (q_aload_n (pc' := 14) dX9_fitsNumber_13 rfl rfl (q_getIe (pc' := 17) dX9_fitsNumber_14 rfl fr_RX9_109 ⟨by omega, rfl⟩ rfl e12 (q_iload_n (pc' := 18) dX9_fitsNumber_17 rfl rfl (q_icmp_lt (pc' := 21) (pt := 29) dX9_fitsNumber_18 rfl rfl (fun _ => (q_aload_n (pc' := 30) dX9_fitsNumber_29 rfl rfl (q_iconst (pc' := 31) _ dX9_fitsNumber_30 rfl kk_iconst_4 (q_cVi (pc' := 34) dX9_fitsNumber_31 rfl ml_RX9_123 yv_X9_blame (by decide) (rn_X9_blame) ⟨by omega, rfl⟩ rfl rfl (Nat.le_of_ble_eq_true rfl) (Nat.le_refl _) (q_ifb_eq (pc' := 37) (pt := 41) dX9_fitsNumber_34 rfl rfl (fun _ => (q_iconst (pc' := 42) _ dX9_fitsNumber_41 rfl kk_iconst_0 (q_zret dX9_fitsNumber_42 rfl (by first | exact Or.inl rfl | exact Or.inr rfl | exact bI_01 _) hQ))) (fun h9 => Bool.noConfusion (Eq.trans (Eq.symm (rfl)) h9))))))) (fun h9 => absurd (Int32.not_le.mp hx) h9)))))) (fun h9 => absurd (congrArg nI h2) h9))))
  · have eN : kN K x y = kW K 2 := by
      unfold kN
      rw [if_pos h8, if_neg h2]
    have e4 : kW K 2 8 = if K 5 = 4 then 1 else 2 := kW_8 h8
    have e5 : ¬ (if K 5 = 4 then 1 else 2) = 0 := by split <;> decide
    rw [eN, e4, if_neg e5, beq_eq_false_iff_ne.mpr e5] at hQ
    exact q_aload_n (pc' := 1) dX9_fitsNumber_0 rfl rfl (q_getIe (pc' := 4) dX9_fitsNumber_1 rfl fr_RX9_96 ⟨by omega, rfl⟩ rfl e9 (q_iconst (pc' := 5) _ dX9_fitsNumber_4 rfl kk_iconst_2 (q_icmp_eq (pc' := 8) (pt := 13) dX9_fitsNumber_5 rfl rfl (fun h9 => absurd h9 (nI_ne h2 (by omega) (by decide))) (fun _ => (q_aload_n (pc' := 9) dX9_fitsNumber_8 rfl rfl (q_cVi (pc' := 12) dX9_fitsNumber_9 rfl ml_RX9_119 yv_X9_blameToken (by decide) (rn_X9_blameToken e9 k5) ⟨by omega, rfl⟩ rfl rfl (Nat.le_of_ble_eq_true rfl) (Nat.le_refl _) (q_zret dX9_fitsNumber_12 rfl (by first | exact Or.inl rfl | exact Or.inr rfl | exact bI_01 _) hQ)))))))
end TOK7
