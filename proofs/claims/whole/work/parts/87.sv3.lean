/-! ===== the class: what law() counts: nothing ===== -/
/-- each VECTOR is what it is for a reason -/
def lwV (b A : St) (p v : Nat) : Prop := A 0 (32 * p + v) < 5 ∧ (A 0 (32 * p + v) < 2 → A 1 (32 * p + v) = 0 ∧ A 2 (32 * p + v) ≠ 1) ∧ (2 ≤ A 0 (32 * p + v) → A 1 (32 * p + v) ≠ 0 ∧ A 1 (32 * p + v) ≤ 80 ∧ (A 1 (32 * p + v) - 1) / 8 < b 0 2 ∧ A 7 ((A 1 (32 * p + v) - 1) / 8) = 1) ∧ (A 0 (32 * p + v) = 2 → A 3 (A 1 (32 * p + v) - 1) = 32 * p + v + 1) ∧ (A 0 (32 * p + v) = 3 → A 4 (A 1 (32 * p + v) - 1) = 32 * p + v + 1) ∧ (A 0 (32 * p + v) = 4 → b 1 ((A 1 (32 * p + v) - 1) / 8) = 3 ∧ (aSpread b ((A 1 (32 * p + v) - 1) / 8) ((A 1 (32 * p + v) - 1) % 8)).testBit p = true ∧ A 2 (32 * p + v) ≠ 1)
def lwL (b A : St) (id : Nat) : Prop := (A 3 id ≠ 0 → (A 3 id - 1 < 256 ∧ (A 3 id - 1) % 32 < b 0 1) ∧ A 1 (A 3 id - 1) = id + 1 ∧ A 0 (A 3 id - 1) = 2) ∧ (A 4 id ≠ 0 → (A 4 id - 1 < 256 ∧ (A 4 id - 1) % 32 < b 0 1) ∧ A 1 (A 4 id - 1) = id + 1 ∧ A 0 (A 4 id - 1) = 3)
def lwOK (b A : St) : Prop := (∀ p v, p < b 0 0 → v < b 0 1 → lwV b A p v) ∧ ∀ id, id < 80 → lwL b A id
section SV3
variable {w : mj_Wd} {l : Launch} {I : mj_M} {J : mj_J} {R : mj_R} {b A : St} {i : Nat}
theorem rn_X7_isAstray0 {id s : Nat} (hi : i < 21) : Rn w l yX7_isAstray dd_X7_isAstray [.ref (sA i 11), .int (nI id), .int (-1), .int (nI s)] (472, I, J, R) (some (.int (bI false))) (472, I, J, R) := by
  refine rn_intro2 (L := [some (.ref (sA i 11)), some (.int (nI id)), some (.int (-1)), some (.int (nI s))]) ⟨by decide, rfl, (fun h => by cases h)⟩ (Nat.le_refl _) (Nat.le_of_ble_eq_true rfl) rfl (fun Y Q hQ => ?_)
  exact q_iload_n (pc' := 1) dX7_isAstray_0 rfl rfl (q_iconst (pc' := 2) _ dX7_isAstray_1 rfl kk_iconst_m1 (q_icmp_eq (pc' := 5) (pt := 28) dX7_isAstray_2 rfl rfl (fun _ => (q_iconst (pc' := 29) _ dX7_isAstray_28 rfl kk_iconst_0 (q_zret dX7_isAstray_29 rfl (by first | exact Or.inl rfl | exact Or.inr rfl | exact bI_01 _) hQ))) (fun h9 => absurd (rfl) h9)))
theorem rn_X7_isAstray {id pl s : Nat} (hi : i < 21) (hS : mj_wS R i) (hk : bOK b) (h : cRr I i b A) (q1 : pl < 256) (q2 : pl % 32 < b 0 1) (ho : A 1 pl = id + 1) (h0 : A 0 pl = s) (hs : s < 5) : Rn w l yX7_isAstray dd_X7_isAstray [.ref (sA i 11), .int (nI id), .int (nI pl), .int (nI s)] (472, I, J, R) (some (.int (bI false))) (472, I, J, R) := by
  have hz : 50 + 20 * i ≤ 472 := by omega
  have eo : I (sA i 19) pl = nI id := by rw [h.2.2.1 pl q1, ho]; exact lD_s
  refine rn_intro2 (L := [some (.ref (sA i 11)), some (.int (nI id)), some (.int (nI pl)), some (.int (nI s))]) ⟨by decide, rfl, (fun h => by cases h)⟩ (Nat.le_refl _) (Nat.le_of_ble_eq_true rfl) rfl (fun Y Q hQ => ?_)
  refine q_iload_n (pc' := 1) dX7_isAstray_0 rfl rfl (q_iconst (pc' := 2) _ dX7_isAstray_1 rfl kk_iconst_m1 (q_icmp_eq (pc' := 5) (pt := 28) dX7_isAstray_2 rfl rfl (fun h9 => absurd h9 (nI_m1 (by omega))) (fun _ => (q_aload_n (pc' := 6) dX7_isAstray_5 rfl rfl (q_getR (pc' := 9) dX7_isAstray_6 rfl fr_RX7_84 (okS hi hz (by decide) rfl) rfl (wS_4_4 hS) (sA_lt hi (by decide)) (q_iload_n (pc' := 10) dX7_isAstray_9 rfl rfl (q_ialde (pc' := 11) (pl) dX7_isAstray_10 rfl (by first | exact ⟨by omega, rfl⟩ | exact okaS hi hz (by decide) rfl | assumption) (by (first | (simp only [nI_add, pk_mul]; done) | (simp only [nI_add, pk_mul]; exact nI_e (by omega)) | exact nI_e (by omega))) (by omega) eo (q_iload_n (pc' := 12) dX7_isAstray_11 rfl rfl (q_icmp_ne (pc' := 15) (pt := 24) dX7_isAstray_12 rfl rfl (fun h9 => absurd (rfl) h9) (fun _ => (q_aload_n (pc' := 16) dX7_isAstray_15 rfl rfl (q_iload_n (pc' := 17) dX7_isAstray_16 rfl rfl (q_cVi (pc' := 20) dX7_isAstray_17 rfl ml_RX7_81 yv_X4_kindAt (by decide) (rn_X4_kindAt hi hS hk h q1 q2 (by omega)) (okS hi hz (by decide) rfl) rfl rfl (Nat.le_of_ble_eq_true rfl) (Nat.le_refl _) (q_iload_n (pc' := 21) dX7_isAstray_20 rfl rfl (q_icmp_eq (pc' := 24) (pt := 28) dX7_isAstray_21 rfl rfl (fun _ => ?_) (fun h9 => absurd (congrArg nI h0) h9))))))))))))))))
  exact q_iconst (pc' := 29) _ dX7_isAstray_28 rfl kk_iconst_0 (q_zret dX7_isAstray_29 rfl (by first | exact Or.inl rfl | exact Or.inr rfl | exact bI_01 _) hQ)
theorem rn_X7_wrongLines (hi : i < 21) (hS : mj_wS R i) (hV : mj_wV R) (hb : cB I b) (hk : bOK b) (h : cR I i b A) (hL : lwOK b A) : Rn w l yX7_wrongLines dd_X7_wrongLines [.ref 450, .ref (sA i 0)] (472, I, J, R) (some (.int (nI 0))) (472, I, J, R) := by
  have hz : 50 + 20 * i ≤ 472 := by omega
  have h10 := hk.2.2.1
  refine rn_intro2 (L := [some (.ref 450), some (.ref (sA i 0)), none, none]) ⟨by decide, rfl, (fun h => by cases h)⟩ (Nat.le_refl _) (Nat.le_of_ble_eq_true rfl) rfl (fun Y Q hQ => ?_)
  have ast : ∀ id x s, s < 5 → (x ≠ 0 → (x - 1 < 256 ∧ (x - 1) % 32 < b 0 1) ∧ A 1 (x - 1) = id + 1 ∧ A 0 (x - 1) = s) → Rn w l yX7_isAstray dd_X7_isAstray [.ref (sA i 11), .int (nI id), .int (lD x), .int (nI s)] (472, I, J, R) (some (.int (bI false))) (472, I, J, R) := by
    intro id x s hs hx
    by_cases h0 : x = 0
    · rw [h0]; exact rn_X7_isAstray0 hi
    · have g := hx h0
      rw [lD_p (by omega)]
      exact rn_X7_isAstray hi hS hk h.1 g.1.1 g.1.2 g.2.1 g.2.2 hs
  have loop : ∀ m k, k + m = b 0 2 * 8 → Wq dd_X7_wrongLines (mj_mk w l 472 Y) Q 4 [some (.ref 450), some (.ref (sA i 0)), some (.int (nI 0)), some (.int (nI k))] [] (472, I, J, R) := by
    intro m
    induction m with
    | zero =>
      intro k hkm
      have hkz : k = b 0 2 * 8 := by omega
      subst hkz
      refine q_iload_n (pc' := 5) dX7_wrongLines_4 rfl rfl (q_aload_n (pc' := 6) dX7_wrongLines_5 rfl rfl (q_getR (pc' := 9) dX7_wrongLines_6 rfl fr_RX7_18 ⟨by omega, rfl⟩ rfl (wV_7_0 hV) (by decide) (q_getIe (pc' := 12) dX7_wrongLines_9 rfl fr_RX7_97 (by first | assumption | exact ⟨by omega, rfl⟩) rfl (cB_4 hb) (q_bipush (pc' := 14) _ dX7_wrongLines_12 rfl kk_bipush_8 (q_imul (pc' := 15) dX7_wrongLines_14 rfl ?_)))))
      refine q_top (pk_mul _ 8) ?_
      exact q_icmp_ge (pc' := 18) (pt := 76) dX7_wrongLines_15 rfl rfl (fun _ => (q_iload_n (pc' := 77) dX7_wrongLines_76 rfl rfl (q_iret dX7_wrongLines_77 rfl hQ))) (fun h9 => absurd (by (first | assumption | exact nI_le (by omega) (by omega) | exact nI_ge (by omega) (by omega) | exact nI_lt (by omega) (by omega) | exact nI_nlt (by omega) (by omega) | exact nI_ne (by omega) (by omega) (by omega) | exact nI_e (by omega) | decide)) h9)
    | succ m ih =>
      intro k hkm
      have hk80 : k < 80 := by omega
      have hl := hL.2 k hk80
      have hln := h.2.2.2 k hk80
      refine q_iload_n (pc' := 5) dX7_wrongLines_4 rfl rfl (q_aload_n (pc' := 6) dX7_wrongLines_5 rfl rfl (q_getR (pc' := 9) dX7_wrongLines_6 rfl fr_RX7_18 ⟨by omega, rfl⟩ rfl (wV_7_0 hV) (by decide) (q_getIe (pc' := 12) dX7_wrongLines_9 rfl fr_RX7_97 (by first | assumption | exact ⟨by omega, rfl⟩) rfl (cB_4 hb) (q_bipush (pc' := 14) _ dX7_wrongLines_12 rfl kk_bipush_8 (q_imul (pc' := 15) dX7_wrongLines_14 rfl ?_)))))
      refine q_top (pk_mul _ 8) ?_
      refine q_icmp_ge (pc' := 18) (pt := 76) dX7_wrongLines_15 rfl rfl (fun h9 => absurd h9 (Int32.not_le.mpr (nI_lt (by omega) (by omega)))) (fun _ => (q_iload_n (pc' := 19) dX7_wrongLines_18 rfl rfl (q_aload_n (pc' := 20) dX7_wrongLines_19 rfl rfl (q_getR (pc' := 23) dX7_wrongLines_20 rfl fr_RX7_27 (okS hi hz (by decide) rfl) rfl (wS_5_1 hS) (sA_lt hi (by decide)) (q_iload_n (pc' := 24) dX7_wrongLines_23 rfl rfl (q_aload_n (pc' := 25) dX7_wrongLines_24 rfl rfl (q_getR (pc' := 28) dX7_wrongLines_25 rfl fr_RX7_124 (okS hi hz (by decide) rfl) rfl (wS_5_5 hS) (sA_lt hi (by decide)) (q_iload_n (pc' := 29) dX7_wrongLines_28 rfl rfl (q_ialde (pc' := 30) (k) dX7_wrongLines_29 rfl (by first | exact ⟨by omega, rfl⟩ | exact okaS hi hz (by decide) rfl | assumption) (by (first | (simp only [nI_add, pk_mul]; done) | (simp only [nI_add, pk_mul]; exact nI_e (by omega)) | exact nI_e (by omega))) (by omega) hln.1 (q_iconst (pc' := 31) _ dX7_wrongLines_30 rfl kk_iconst_2 (q_cSi (pc' := 34) dX7_wrongLines_31 rfl ml_RX7_127 ys_X7_isAstray (by decide) (ast k (A 3 k) 2 (by decide) hl.1) rfl rfl (Nat.le_of_ble_eq_true rfl) (Nat.le_refl _) (q_ifb_eq (pc' := 37) (pt := 41) dX7_wrongLines_34 rfl rfl (fun _ => (q_iconst (pc' := 42) _ dX7_wrongLines_41 rfl kk_iconst_0 ?_)) (fun h9 => Bool.noConfusion (Eq.trans (Eq.symm (rfl)) h9))))))))))))))
      refine q_iadd dX7_wrongLines_42 rfl ?_
      refine q_top (nI_add 0 0) ?_
      refine q_ist_2 (pc' := 44) dX7_wrongLines_43 rfl (by decide) rfl (q_iload_n (pc' := 45) dX7_wrongLines_44 rfl rfl (q_aload_n (pc' := 46) dX7_wrongLines_45 rfl rfl (q_getR (pc' := 49) dX7_wrongLines_46 rfl fr_RX7_27 (okS hi hz (by decide) rfl) rfl (wS_5_1 hS) (sA_lt hi (by decide)) (q_iload_n (pc' := 50) dX7_wrongLines_49 rfl rfl (q_aload_n (pc' := 51) dX7_wrongLines_50 rfl rfl (q_getR (pc' := 54) dX7_wrongLines_51 rfl fr_RX7_94 (okS hi hz (by decide) rfl) rfl (wS_5_6 hS) (sA_lt hi (by decide)) (q_iload_n (pc' := 55) dX7_wrongLines_54 rfl rfl (q_ialde (pc' := 56) (k) dX7_wrongLines_55 rfl (by first | exact ⟨by omega, rfl⟩ | exact okaS hi hz (by decide) rfl | assumption) (by (first | (simp only [nI_add, pk_mul]; done) | (simp only [nI_add, pk_mul]; exact nI_e (by omega)) | exact nI_e (by omega))) (by omega) hln.2.1 (q_iconst (pc' := 57) _ dX7_wrongLines_56 rfl kk_iconst_3 (q_cSi (pc' := 60) dX7_wrongLines_57 rfl ml_RX7_127 ys_X7_isAstray (by decide) (ast k (A 4 k) 3 (by decide) hl.2) rfl rfl (Nat.le_of_ble_eq_true rfl) (Nat.le_refl _) (q_ifb_eq (pc' := 63) (pt := 67) dX7_wrongLines_60 rfl rfl (fun _ => (q_iconst (pc' := 68) _ dX7_wrongLines_67 rfl kk_iconst_0 ?_)) (fun h9 => Bool.noConfusion (Eq.trans (Eq.symm (rfl)) h9)))))))))))))
      refine q_iadd dX7_wrongLines_68 rfl ?_
      refine q_top (nI_add 0 0) ?_
      refine q_ist_2 (pc' := 70) dX7_wrongLines_69 rfl (by decide) rfl (q_inc_3 (pc' := 73) dX7_wrongLines_70 rfl (by decide) rfl (q_goto (pc' := 4) dX7_wrongLines_73 rfl ?_))
      exact ih (k + 1) (by omega)
  refine q_iconst (pc' := 1) _ dX7_wrongLines_0 rfl kk_iconst_0 (q_ist_2 (pc' := 2) dX7_wrongLines_1 rfl (by decide) rfl (q_iconst (pc' := 3) _ dX7_wrongLines_2 rfl kk_iconst_0 (q_ist_3 (pc' := 4) dX7_wrongLines_3 rfl (by decide) rfl ?_)))
  exact loop (b 0 2 * 8) 0 (by omega)
theorem rn_X7_isWrong {p v : Nat} (hi : i < 21) (hS : mj_wS R i) (hV : mj_wV R) (hB : mj_wB R 4) (hb : cB I b) (hk : bOK b) (h : cR I i b A) (hp : p < b 0 0) (hv : v < b 0 1) (hset : ∀ d, d < b 0 2 → b 3 d < 2 ^ b 0 0) (hL : lwV b A p v) : Rn w l yX7_isWrong dd_X7_isWrong [.ref 450, .ref (sA i 0), .int (nI p), .int (nI v)] (472, I, J, R) (some (.int (bI false))) (472, I, J, R) := by
  have hz : 50 + 20 * i ≤ 472 := by omega
  have h8 := hk.1.2
  have h32 := hk.2.1.2
  have h10 := hk.2.2.1
  obtain ⟨l0, l1, l2, l3, l4, l5⟩ := hL
  have q1 : 32 * p + v < 256 := by omega
  have q2 : (32 * p + v) % 32 < b 0 1 := by rw [show (32 * p + v) % 32 = v by omega]; exact hv
  refine rn_intro2 (L := [some (.ref 450), some (.ref (sA i 0)), some (.int (nI p)), some (.int (nI v)), none, none, none, none, none]) ⟨by decide, rfl, (fun h => by cases h)⟩ (Nat.le_refl _) (Nat.le_of_ble_eq_true rfl) rfl (fun Y Q hQ => ?_)
  have loop : ∀ m s, s + m = 5 → Wq dd_X7_isWrong (mj_mk w l 472 Y) Q 6 [some (.ref 450), some (.ref (sA i 0)), some (.int (nI p)), some (.int (nI v)), some (.int (nI (if A 0 (32 * p + v) < s then 1 else 0))), some (.int (nI s)), none, none, none] [] (472, I, J, R) := by
    intro m
    induction m with
    | zero =>
      intro s hsm
      have hsz : s = 5 := by omega
      subst hsz
      rw [if_pos l0]
      refine q_iload (pc' := 8) dX7_isWrong_6 rfl rfl (q_iconst (pc' := 9) _ dX7_isWrong_8 rfl kk_iconst_5 (q_icmp_ge (pc' := 12) (pt := 39) dX7_isWrong_9 rfl rfl (fun _ => (q_iload_n (pc' := 40) dX7_isWrong_39 rfl rfl (q_bipush (pc' := 42) _ dX7_isWrong_40 rfl kk_bipush_32 (q_imul (pc' := 43) dX7_isWrong_42 rfl (q_iload_n (pc' := 44) dX7_isWrong_43 rfl rfl (q_iadd (pc' := 45) dX7_isWrong_44 rfl ?_)))))) (fun h9 => absurd (by (first | assumption | exact nI_le (by omega) (by omega) | exact nI_ge (by omega) (by omega) | exact nI_lt (by omega) (by omega) | exact nI_nlt (by omega) (by omega) | exact nI_ne (by omega) (by omega) (by omega) | exact nI_e (by omega) | decide)) h9)))
      refine q_top (y := nI (32 * p + v)) (by rw [pk_mul, nI_add, Nat.mul_comm p 32]) ?_
      have eo : I (sA i 19) (32 * p + v) = lD (A 1 (32 * p + v)) := h.1.2.2.1 _ q1
      refine q_ist_5 (pc' := 47) dX7_isWrong_45 rfl (by decide) rfl (q_aload_n (pc' := 48) dX7_isWrong_47 rfl rfl (q_getR (pc' := 51) dX7_isWrong_48 rfl fr_RX7_27 (okS hi hz (by decide) rfl) rfl (wS_5_1 hS) (sA_lt hi (by decide)) (q_getR (pc' := 54) dX7_isWrong_51 rfl fr_RX7_84 (okS hi hz (by decide) rfl) rfl (wS_4_4 hS) (sA_lt hi (by decide)) (q_iload (pc' := 56) dX7_isWrong_54 rfl rfl (q_ialde (pc' := 57) (32 * p + v) dX7_isWrong_56 rfl (by first | exact ⟨by omega, rfl⟩ | exact okaS hi hz (by decide) rfl | assumption) (by (first | (simp only [nI_add, pk_mul]; done) | (simp only [nI_add, pk_mul]; exact nI_e (by omega)) | exact nI_e (by omega))) (by omega) eo (q_ist_6 (pc' := 59) dX7_isWrong_57 rfl (by decide) rfl (q_aload_n (pc' := 60) dX7_isWrong_59 rfl rfl (q_getR (pc' := 63) dX7_isWrong_60 rfl fr_RX7_27 (okS hi hz (by decide) rfl) rfl (wS_5_1 hS) (sA_lt hi (by decide)) (q_iload (pc' := 65) dX7_isWrong_63 rfl rfl (q_cVi (pc' := 68) dX7_isWrong_65 rfl ml_RX7_81 yv_X4_kindAt (by decide) (rn_X4_kindAt hi hS hk h.1 q1 q2 l0) (okS hi hz (by decide) rfl) rfl rfl (Nat.le_of_ble_eq_true rfl) (Nat.le_refl _) (q_ist_7 (pc' := 70) dX7_isWrong_68 rfl (by decide) rfl (q_iload (pc' := 72) dX7_isWrong_70 rfl rfl (q_iconst (pc' := 73) _ dX7_isWrong_72 rfl kk_iconst_1 ?_)))))))))))))
      refine q_icmp_eq (pc' := 76) (pt := 78) dX7_isWrong_73 rfl rfl (fun _ => ?_) (fun h9 => absurd (rfl) h9)
      by_cases c2 : A 0 (32 * p + v) < 2
      · obtain ⟨o1, o2⟩ := l1 c2
        have e1 : lD (A 1 (32 * p + v)) = -1 := by rw [o1]; rfl
        rw [e1]
        by_cases c0 : A 0 (32 * p + v) = 0
        · refine q_iload (pc' := 80) dX7_isWrong_78 rfl rfl (q_if_eq (pc' := 83) (pt := 89) dX7_isWrong_80 rfl rfl (fun _ => (q_iload (pc' := 91) dX7_isWrong_89 rfl rfl (q_iconst (pc' := 92) _ dX7_isWrong_91 rfl kk_iconst_m1 (q_icmp_ne (pc' := 95) (pt := 107) dX7_isWrong_92 rfl rfl (fun h9 => absurd (rfl) h9) (fun _ => (q_aload_n (pc' := 96) dX7_isWrong_95 rfl rfl (q_getR (pc' := 99) dX7_isWrong_96 rfl fr_RX7_27 (okS hi hz (by decide) rfl) rfl (wS_5_1 hS) (sA_lt hi (by decide)) (q_iload (pc' := 101) dX7_isWrong_99 rfl rfl (q_cVi (pc' := 104) dX7_isWrong_101 rfl ml_RX7_118 yv_X4_isPending (by decide) (rn_X4_isPending hi hS hk h.1 q1 q2) (okS hi hz (by decide) rfl) rfl rfl (Nat.le_of_ble_eq_true rfl) (Nat.le_refl _) (q_ifb_eq (pc' := 107) (pt := 111) dX7_isWrong_104 rfl rfl (fun _ => ?_) (fun h9 => Bool.noConfusion (Eq.trans (Eq.symm (beq_eq_false_iff_ne.mpr o2)) h9)))))))))))) (fun h9 => absurd (by rw [c0]; rfl) h9))
          refine q_iconst (bI false) dX7_isWrong_111 rfl rfl ?_
          exact q_zret dX7_isWrong_112 rfl (by first | exact Or.inl rfl | exact Or.inr rfl | exact bI_01 _) hQ
        · have c1 : A 0 (32 * p + v) = 1 := by omega
          refine q_iload (pc' := 80) dX7_isWrong_78 rfl rfl (q_if_eq (pc' := 83) (pt := 89) dX7_isWrong_80 rfl rfl (fun h9 => absurd h9 (nI_ne (b := 0) c0 (by omega) (by omega))) (fun _ => (q_iload (pc' := 85) dX7_isWrong_83 rfl rfl (q_iconst (pc' := 86) _ dX7_isWrong_85 rfl kk_iconst_1 (q_icmp_ne (pc' := 89) (pt := 113) dX7_isWrong_86 rfl rfl (fun h9 => absurd (congrArg nI c1) h9) (fun _ => (q_iload (pc' := 91) dX7_isWrong_89 rfl rfl (q_iconst (pc' := 92) _ dX7_isWrong_91 rfl kk_iconst_m1 (q_icmp_ne (pc' := 95) (pt := 107) dX7_isWrong_92 rfl rfl (fun h9 => absurd (rfl) h9) (fun _ => (q_aload_n (pc' := 96) dX7_isWrong_95 rfl rfl (q_getR (pc' := 99) dX7_isWrong_96 rfl fr_RX7_27 (okS hi hz (by decide) rfl) rfl (wS_5_1 hS) (sA_lt hi (by decide)) (q_iload (pc' := 101) dX7_isWrong_99 rfl rfl (q_cVi (pc' := 104) dX7_isWrong_101 rfl ml_RX7_118 yv_X4_isPending (by decide) (rn_X4_isPending hi hS hk h.1 q1 q2) (okS hi hz (by decide) rfl) rfl rfl (Nat.le_of_ble_eq_true rfl) (Nat.le_refl _) (q_ifb_eq (pc' := 107) (pt := 111) dX7_isWrong_104 rfl rfl (fun _ => ?_) (fun h9 => Bool.noConfusion (Eq.trans (Eq.symm (beq_eq_false_iff_ne.mpr o2)) h9)))))))))))))))))
          refine q_iconst (bI false) dX7_isWrong_111 rfl rfl ?_
          exact q_zret dX7_isWrong_112 rfl (by first | exact Or.inl rfl | exact Or.inr rfl | exact bI_01 _) hQ
      · obtain ⟨o1, o2, o3, o4⟩ := l2 (by omega)
        have e1 : lD (A 1 (32 * p + v)) = nI (A 1 (32 * p + v) - 1) := lD_p (by omega)
        rw [e1]
        have ed := pk_div (a := A 1 (32 * p + v) - 1) (d := 8) (by omega) (by decide) (by decide)
        have er := pk_rem (a := A 1 (32 * p + v) - 1) (d := 8) (by omega) (by decide) (by decide)
        refine q_iload (pc' := 80) dX7_isWrong_78 rfl rfl (q_if_eq (pc' := 83) (pt := 89) dX7_isWrong_80 rfl rfl (fun h9 => absurd h9 (nI_ne (b := 0) (by omega) (by omega) (by omega))) (fun _ => (q_iload (pc' := 85) dX7_isWrong_83 rfl rfl (q_iconst (pc' := 86) _ dX7_isWrong_85 rfl kk_iconst_1 (q_icmp_ne (pc' := 89) (pt := 113) dX7_isWrong_86 rfl rfl (fun _ => (q_iload (pc' := 115) dX7_isWrong_113 rfl rfl (q_iconst (pc' := 116) _ dX7_isWrong_115 rfl kk_iconst_m1 (q_icmp_eq (pc' := 119) (pt := 131) dX7_isWrong_116 rfl rfl (fun h9 => absurd h9 (nI_m1 (by omega))) (fun _ => (q_aload_n (pc' := 120) dX7_isWrong_119 rfl rfl (q_iload (pc' := 122) dX7_isWrong_120 rfl rfl (q_bipush (pc' := 124) _ dX7_isWrong_122 rfl kk_bipush_8 (q_idiv (pc' := 125) dX7_isWrong_124 rfl (by decide) ?_))))))))) (fun h9 => absurd h9 (nI_ne (by omega) (by omega) (by omega))))))))
        refine q_top ed ?_
        refine q_cVi (pc' := 128) dX7_isWrong_125 rfl ml_RX7_100 yv_X5_isStarted (by decide) (rn_X5_isStarted hi h.2.2 (by omega)) (okS hi hz (by decide) rfl) rfl rfl (Nat.le_of_ble_eq_true rfl) (Nat.le_refl _) (q_ifb_ne (pc' := 131) (pt := 133) dX7_isWrong_128 rfl rfl (fun _ => ?_) (fun h9 => Bool.noConfusion (Eq.trans (Eq.symm (beq_iff_eq.mpr o4)) h9)))
        by_cases c4 : A 0 (32 * p + v) = 4
        · obtain ⟨r1, r2, r3⟩ := l5 c4
          have hlt := aSpread_lt b hk ((A 1 (32 * p + v) - 1) / 8) ((A 1 (32 * p + v) - 1) % 8)
          have eb := ubit1 (show aSpread b ((A 1 (32 * p + v) - 1) / 8) ((A 1 (32 * p + v) - 1) % 8) < 2 ^ 32 by omega) (show p < 32 by omega)
          rw [if_pos r2] at eb
          refine q_iload (pc' := 135) dX7_isWrong_133 rfl rfl (q_iconst (pc' := 136) _ dX7_isWrong_135 rfl kk_iconst_4 (q_icmp_ne (pc' := 139) (pt := 185) dX7_isWrong_136 rfl rfl (fun h9 => absurd (congrArg nI c4) h9) (fun _ => (q_aload_n (pc' := 140) dX7_isWrong_139 rfl rfl (q_getR (pc' := 143) dX7_isWrong_140 rfl fr_RX7_18 ⟨by omega, rfl⟩ rfl (wV_7_0 hV) (by decide) (q_iload (pc' := 145) dX7_isWrong_143 rfl rfl (q_bipush (pc' := 147) _ dX7_isWrong_145 rfl kk_bipush_8 (q_idiv (pc' := 148) dX7_isWrong_147 rfl (by decide) ?_))))))))
          refine q_top ed ?_
          refine q_iload (pc' := 150) dX7_isWrong_148 rfl rfl (q_bipush (pc' := 152) _ dX7_isWrong_150 rfl kk_bipush_8 (q_irem (pc' := 153) dX7_isWrong_152 rfl (by decide) ?_))
          refine q_top er ?_
          refine q_cVi (pc' := 156) dX7_isWrong_153 rfl ml_RX7_121 yv_X0_queueCpus (by decide) (rn_X0_queueCpus hB hb hk o3 (Nat.mod_lt _ (by decide)) r1 (hset _ o3)) (by first | assumption | exact ⟨by omega, rfl⟩) rfl rfl (Nat.le_of_ble_eq_true rfl) (Nat.le_refl _) (q_ist_8 (pc' := 158) dX7_isWrong_156 rfl (by decide) rfl (q_iload (pc' := 160) dX7_isWrong_158 rfl rfl (q_iload_n (pc' := 161) dX7_isWrong_160 rfl rfl (q_iushr (pc' := 162) dX7_isWrong_161 rfl (q_iconst (pc' := 163) _ dX7_isWrong_162 rfl kk_iconst_1 (q_iand (pc' := 164) dX7_isWrong_163 rfl ?_))))))
          refine q_top eb ?_
          refine q_if_eq (pc' := 167) (pt := 179) dX7_isWrong_164 rfl rfl (fun h9 => absurd h9 (by decide)) (fun _ => (q_aload_n (pc' := 168) dX7_isWrong_167 rfl rfl (q_getR (pc' := 171) dX7_isWrong_168 rfl fr_RX7_27 (okS hi hz (by decide) rfl) rfl (wS_5_1 hS) (sA_lt hi (by decide)) (q_iload (pc' := 173) dX7_isWrong_171 rfl rfl (q_cVi (pc' := 176) dX7_isWrong_173 rfl ml_RX7_118 yv_X4_isPending (by decide) (rn_X4_isPending hi hS hk h.1 q1 q2) (okS hi hz (by decide) rfl) rfl rfl (Nat.le_of_ble_eq_true rfl) (Nat.le_refl _) (q_ifb_eq (pc' := 179) (pt := 183) dX7_isWrong_176 rfl rfl (fun _ => ?_) (fun h9 => Bool.noConfusion (Eq.trans (Eq.symm (beq_eq_false_iff_ne.mpr r3)) h9))))))))
          refine q_iconst (bI false) dX7_isWrong_183 rfl rfl ?_
          exact q_zret dX7_isWrong_184 rfl (by first | exact Or.inl rfl | exact Or.inr rfl | exact bI_01 _) hQ
        · have hid : A 1 (32 * p + v) - 1 < 80 := by omega
          have hln := h.2.2.2 _ hid
          by_cases c3 : A 0 (32 * p + v) = 2
          · have e3 : I (sA i 7) (A 1 (32 * p + v) - 1) = nI (32 * p + v) := by rw [hln.1, l3 c3]; exact lD_s
            refine q_iload (pc' := 135) dX7_isWrong_133 rfl rfl (q_iconst (pc' := 136) _ dX7_isWrong_135 rfl kk_iconst_4 (q_icmp_ne (pc' := 139) (pt := 185) dX7_isWrong_136 rfl rfl (fun _ => (q_iload (pc' := 187) dX7_isWrong_185 rfl rfl (q_iload (pc' := 189) dX7_isWrong_187 rfl rfl (q_iconst (pc' := 190) _ dX7_isWrong_189 rfl kk_iconst_2 (q_icmp_ne (pc' := 193) (pt := 203) dX7_isWrong_190 rfl rfl (fun h9 => absurd (congrArg nI c3) h9) (fun _ => (q_aload_n (pc' := 194) dX7_isWrong_193 rfl rfl (q_getR (pc' := 197) dX7_isWrong_194 rfl fr_RX7_124 (okS hi hz (by decide) rfl) rfl (wS_5_5 hS) (sA_lt hi (by decide)) (q_iload (pc' := 199) dX7_isWrong_197 rfl rfl (q_ialde (pc' := 200) (A 1 (32 * p + v) - 1) dX7_isWrong_199 rfl (by first | exact ⟨by omega, rfl⟩ | exact okaS hi hz (by decide) rfl | assumption) (by (first | (simp only [nI_add, pk_mul]; done) | (simp only [nI_add, pk_mul]; exact nI_e (by omega)) | exact nI_e (by omega))) (by omega) e3 (q_goto (pc' := 210) dX7_isWrong_200 rfl (q_icmp_eq (pc' := 213) (pt := 217) dX7_isWrong_210 rfl rfl (fun _ => ?_) (fun h9 => absurd (rfl) h9))))))))))))) (fun h9 => absurd h9 (nI_ne c4 (by omega) (by omega)))))
            refine q_iconst (bI false) dX7_isWrong_217 rfl rfl ?_
            exact q_zret dX7_isWrong_218 rfl (by first | exact Or.inl rfl | exact Or.inr rfl | exact bI_01 _) hQ
          · have e4 : I (sA i 8) (A 1 (32 * p + v) - 1) = nI (32 * p + v) := by rw [hln.2.1, l4 (by omega)]; exact lD_s
            refine q_iload (pc' := 135) dX7_isWrong_133 rfl rfl (q_iconst (pc' := 136) _ dX7_isWrong_135 rfl kk_iconst_4 (q_icmp_ne (pc' := 139) (pt := 185) dX7_isWrong_136 rfl rfl (fun _ => (q_iload (pc' := 187) dX7_isWrong_185 rfl rfl (q_iload (pc' := 189) dX7_isWrong_187 rfl rfl (q_iconst (pc' := 190) _ dX7_isWrong_189 rfl kk_iconst_2 (q_icmp_ne (pc' := 193) (pt := 203) dX7_isWrong_190 rfl rfl (fun _ => (q_aload_n (pc' := 204) dX7_isWrong_203 rfl rfl (q_getR (pc' := 207) dX7_isWrong_204 rfl fr_RX7_94 (okS hi hz (by decide) rfl) rfl (wS_5_6 hS) (sA_lt hi (by decide)) (q_iload (pc' := 209) dX7_isWrong_207 rfl rfl (q_ialde (pc' := 210) (A 1 (32 * p + v) - 1) dX7_isWrong_209 rfl (by first | exact ⟨by omega, rfl⟩ | exact okaS hi hz (by decide) rfl | assumption) (by (first | (simp only [nI_add, pk_mul]; done) | (simp only [nI_add, pk_mul]; exact nI_e (by omega)) | exact nI_e (by omega))) (by omega) e4 (q_icmp_eq (pc' := 213) (pt := 217) dX7_isWrong_210 rfl rfl (fun _ => ?_) (fun h9 => absurd (rfl) h9))))))) (fun h9 => absurd h9 (nI_ne c3 (by omega) (by omega)))))))) (fun h9 => absurd h9 (nI_ne c4 (by omega) (by omega)))))
            refine q_iconst (bI false) dX7_isWrong_217 rfl rfl ?_
            exact q_zret dX7_isWrong_218 rfl (by first | exact Or.inl rfl | exact Or.inr rfl | exact bI_01 _) hQ
    | succ m ih =>
      intro s hsm
      have hs5 : s < 5 := by omega
      have hrow := mj_oka_row hi hs5
      have eb := ubit1 (cT_lt (A := A) (p := p) (s := s) hk) (show v < 32 by omega)
      rw [cT_bit hv] at eb
      have next := ih (s + 1) (by omega)
      have es : (if A 0 (32 * p + v) < s + 1 then 1 else 0) = (if A 0 (32 * p + v) < s then 1 else 0) + (if (A 0 (32 * p + v) == s) = true then 1 else 0) := by
        by_cases c1 : A 0 (32 * p + v) = s
        · rw [if_pos (show A 0 (32 * p + v) < s + 1 by omega), if_neg (show ¬ A 0 (32 * p + v) < s by omega), if_pos (beq_iff_eq.mpr c1)]
        · rw [if_neg (show ¬ (A 0 (32 * p + v) == s) = true from fun z => c1 (beq_iff_eq.mp z))]
          by_cases c3 : A 0 (32 * p + v) < s
          · rw [if_pos c3, if_pos (show A 0 (32 * p + v) < s + 1 by omega)]
          · rw [if_neg c3, if_neg (show ¬ A 0 (32 * p + v) < s + 1 by omega)]
      rw [es] at next
      refine q_iload (pc' := 8) dX7_isWrong_6 rfl rfl (q_iconst (pc' := 9) _ dX7_isWrong_8 rfl kk_iconst_5 (q_icmp_ge (pc' := 12) (pt := 39) dX7_isWrong_9 rfl rfl (fun h9 => absurd h9 (by (first | assumption | exact nI_le (by omega) (by omega) | exact nI_ge (by omega) (by omega) | exact nI_lt (by omega) (by omega) | exact nI_nlt (by omega) (by omega) | exact nI_ne (by omega) (by omega) (by omega) | exact nI_e (by omega) | decide))) (fun _ => (q_iload (pc' := 14) dX7_isWrong_12 rfl rfl (q_aload_n (pc' := 15) dX7_isWrong_14 rfl rfl (q_getR (pc' := 18) dX7_isWrong_15 rfl fr_RX7_27 (okS hi hz (by decide) rfl) rfl (wS_5_1 hS) (sA_lt hi (by decide)) (q_getR (pc' := 21) dX7_isWrong_18 rfl fr_RX7_114 (okS hi hz (by decide) rfl) rfl (wS_4_2 hS) (sA_lt hi (by decide)) (q_iload (pc' := 23) dX7_isWrong_21 rfl rfl (q_aald (pc' := 24) (s) dX7_isWrong_23 rfl (by first | exact ⟨by omega, rfl⟩ | exact okaS hi hz (by decide) rfl | assumption) (by first | exact Or.inl rfl | exact Or.inr rfl) (by (first | (simp only [nI_add, pk_mul]; done) | (simp only [nI_add, pk_mul]; exact nI_e (by omega)) | exact nI_e (by omega))) (by omega) (wS_row hS (by omega)) (sA_lt hi (by omega)) (q_iload_n (pc' := 25) dX7_isWrong_24 rfl rfl (q_ialde (pc' := 26) (p) dX7_isWrong_25 rfl (by first | exact ⟨by omega, rfl⟩ | exact okaS hi hz (by decide) rfl | assumption) (by (first | (simp only [nI_add, pk_mul]; done) | (simp only [nI_add, pk_mul]; exact nI_e (by omega)) | exact nI_e (by omega))) (by omega) (h.1.1 s hs5 p (by omega)) (q_iload_n (pc' := 27) dX7_isWrong_26 rfl rfl (q_iushr (pc' := 28) dX7_isWrong_27 rfl (q_iconst (pc' := 29) _ dX7_isWrong_28 rfl kk_iconst_1 ?_))))))))))))))
      refine q_iand (pc' := 30) dX7_isWrong_29 rfl ?_
      refine q_top eb ?_
      refine q_iadd dX7_isWrong_30 rfl ?_
      refine q_top (nI_add _ _) ?_
      refine q_ist_4 (pc' := 33) dX7_isWrong_31 rfl (by decide) rfl (q_inc_5 (pc' := 36) dX7_isWrong_33 rfl (by decide) rfl (q_goto (pc' := 6) dX7_isWrong_36 rfl ?_))
      exact next
  refine q_iconst (pc' := 1) _ dX7_isWrong_0 rfl kk_iconst_0 (q_ist_4 (pc' := 3) dX7_isWrong_1 rfl (by decide) rfl (q_iconst (pc' := 4) _ dX7_isWrong_3 rfl kk_iconst_0 (q_ist_5 (pc' := 6) dX7_isWrong_4 rfl (by decide) rfl ?_)))
  exact loop 5 0 (by omega)
theorem rn_X7_wrongVectors (hi : i < 21) (hS : mj_wS R i) (hV : mj_wV R) (hB : mj_wB R 4) (hb : cB I b) (hk : bOK b) (h : cR I i b A) (hset : ∀ d, d < b 0 2 → b 3 d < 2 ^ b 0 0) (hL : lwOK b A) : Rn w l yX7_wrongVectors dd_X7_wrongVectors [.ref 450, .ref (sA i 0)] (472, I, J, R) (some (.int (nI 0))) (472, I, J, R) := by
  have hz : 50 + 20 * i ≤ 472 := by omega
  have h8 := hk.1.2
  have h32 := hk.2.1.2
  refine rn_intro2 (L := [some (.ref 450), some (.ref (sA i 0)), none, none, none]) ⟨by decide, rfl, (fun h => by cases h)⟩ (Nat.le_refl _) (Nat.le_of_ble_eq_true rfl) rfl (fun Y Q hQ => ?_)
  have inner : ∀ p, p < b 0 0 → (∀ o4, Wq dd_X7_wrongVectors (mj_mk w l 472 Y) Q 55 [some (.ref 450), some (.ref (sA i 0)), some (.int (nI 0)), some (.int (nI p)), o4] [] (472, I, J, R)) → ∀ m v, v + m = b 0 1 → Wq dd_X7_wrongVectors (mj_mk w l 472 Y) Q 18 [some (.ref 450), some (.ref (sA i 0)), some (.int (nI 0)), some (.int (nI p)), some (.int (nI v))] [] (472, I, J, R) := by
    intro p hp hnext m
    induction m with
    | zero =>
      intro v hvm
      have hvz : v = b 0 1 := by omega
      subst hvz
      refine q_iload (pc' := 20) dX7_wrongVectors_18 rfl rfl (q_aload_n (pc' := 21) dX7_wrongVectors_20 rfl rfl (q_getR (pc' := 24) dX7_wrongVectors_21 rfl fr_RX7_18 ⟨by omega, rfl⟩ rfl (wV_7_0 hV) (by decide) (q_getIe (pc' := 27) dX7_wrongVectors_24 rfl fr_RX7_74 (by first | assumption | exact ⟨by omega, rfl⟩) rfl (cB_1 hb) (q_icmp_ge (pc' := 30) (pt := 55) dX7_wrongVectors_27 rfl rfl (fun _ => ?_) (fun h9 => absurd (by (first | assumption | exact nI_le (by omega) (by omega) | exact nI_ge (by omega) (by omega) | exact nI_lt (by omega) (by omega) | exact nI_nlt (by omega) (by omega) | exact nI_ne (by omega) (by omega) (by omega) | exact nI_e (by omega) | decide)) h9)))))
      exact hnext _
    | succ m ih =>
      intro v hvm
      refine q_iload (pc' := 20) dX7_wrongVectors_18 rfl rfl (q_aload_n (pc' := 21) dX7_wrongVectors_20 rfl rfl (q_getR (pc' := 24) dX7_wrongVectors_21 rfl fr_RX7_18 ⟨by omega, rfl⟩ rfl (wV_7_0 hV) (by decide) (q_getIe (pc' := 27) dX7_wrongVectors_24 rfl fr_RX7_74 (by first | assumption | exact ⟨by omega, rfl⟩) rfl (cB_1 hb) (q_icmp_ge (pc' := 30) (pt := 55) dX7_wrongVectors_27 rfl rfl (fun h9 => absurd h9 (by (first | assumption | exact nI_le (by omega) (by omega) | exact nI_ge (by omega) (by omega) | exact nI_lt (by omega) (by omega) | exact nI_nlt (by omega) (by omega) | exact nI_ne (by omega) (by omega) (by omega) | exact nI_e (by omega) | decide))) (fun _ => (q_iload_n (pc' := 31) dX7_wrongVectors_30 rfl rfl (q_aload_n (pc' := 32) dX7_wrongVectors_31 rfl rfl (q_aload_n (pc' := 33) dX7_wrongVectors_32 rfl rfl (q_iload_n (pc' := 34) dX7_wrongVectors_33 rfl rfl (q_iload (pc' := 36) dX7_wrongVectors_34 rfl rfl (q_cVi (pc' := 39) dX7_wrongVectors_36 rfl ml_RX7_110 yv_X7_isWrong (by decide) (rn_X7_isWrong hi hS hV hB hb hk h hp (by omega) hset (hL.1 p v hp (by omega))) ⟨by omega, rfl⟩ rfl rfl (Nat.le_of_ble_eq_true rfl) (Nat.le_refl _) (q_ifb_eq (pc' := 42) (pt := 46) dX7_wrongVectors_39 rfl rfl (fun _ => (q_iconst (pc' := 47) _ dX7_wrongVectors_46 rfl kk_iconst_0 ?_)) (fun h9 => Bool.noConfusion (Eq.trans (Eq.symm (rfl)) h9))))))))))))))
      refine q_iadd dX7_wrongVectors_47 rfl ?_
      refine q_top (nI_add 0 0) ?_
      refine q_ist_2 (pc' := 49) dX7_wrongVectors_48 rfl (by decide) rfl (q_inc_4 (pc' := 52) dX7_wrongVectors_49 rfl (by decide) rfl (q_goto (pc' := 18) dX7_wrongVectors_52 rfl ?_))
      exact ih (v + 1) (by omega)
  have loop : ∀ m p o4, p + m = b 0 0 → Wq dd_X7_wrongVectors (mj_mk w l 472 Y) Q 4 [some (.ref 450), some (.ref (sA i 0)), some (.int (nI 0)), some (.int (nI p)), o4] [] (472, I, J, R) := by
    intro m
    induction m with
    | zero =>
      intro p o4 hpm
      have hpz : p = b 0 0 := by omega
      subst hpz
      exact q_iload_n (pc' := 5) dX7_wrongVectors_4 rfl rfl (q_aload_n (pc' := 6) dX7_wrongVectors_5 rfl rfl (q_getR (pc' := 9) dX7_wrongVectors_6 rfl fr_RX7_18 ⟨by omega, rfl⟩ rfl (wV_7_0 hV) (by decide) (q_getIe (pc' := 12) dX7_wrongVectors_9 rfl fr_RX7_22 (by first | assumption | exact ⟨by omega, rfl⟩) rfl (cB_0 hb) (q_icmp_ge (pc' := 15) (pt := 61) dX7_wrongVectors_12 rfl rfl (fun _ => (q_iload_n (pc' := 62) dX7_wrongVectors_61 rfl rfl (q_iret dX7_wrongVectors_62 rfl hQ))) (fun h9 => absurd (by (first | assumption | exact nI_le (by omega) (by omega) | exact nI_ge (by omega) (by omega) | exact nI_lt (by omega) (by omega) | exact nI_nlt (by omega) (by omega) | exact nI_ne (by omega) (by omega) (by omega) | exact nI_e (by omega) | decide)) h9)))))
    | succ m ih =>
      intro p o4 hpm
      refine q_iload_n (pc' := 5) dX7_wrongVectors_4 rfl rfl (q_aload_n (pc' := 6) dX7_wrongVectors_5 rfl rfl (q_getR (pc' := 9) dX7_wrongVectors_6 rfl fr_RX7_18 ⟨by omega, rfl⟩ rfl (wV_7_0 hV) (by decide) (q_getIe (pc' := 12) dX7_wrongVectors_9 rfl fr_RX7_22 (by first | assumption | exact ⟨by omega, rfl⟩) rfl (cB_0 hb) (q_icmp_ge (pc' := 15) (pt := 61) dX7_wrongVectors_12 rfl rfl (fun h9 => absurd h9 (by (first | assumption | exact nI_le (by omega) (by omega) | exact nI_ge (by omega) (by omega) | exact nI_lt (by omega) (by omega) | exact nI_nlt (by omega) (by omega) | exact nI_ne (by omega) (by omega) (by omega) | exact nI_e (by omega) | decide))) (fun _ => (q_iconst (pc' := 16) _ dX7_wrongVectors_15 rfl kk_iconst_0 (q_ist_4 (pc' := 18) dX7_wrongVectors_16 rfl (by decide) rfl ?_)))))))
      refine inner p (by omega) (fun o4 => ?_) (b 0 1) 0 (by omega)
      refine q_inc_3 (pc' := 58) dX7_wrongVectors_55 rfl (by decide) rfl (q_goto (pc' := 4) dX7_wrongVectors_58 rfl ?_)
      exact ih (p + 1) _ (by omega)
  refine q_iconst (pc' := 1) _ dX7_wrongVectors_0 rfl kk_iconst_0 (q_ist_2 (pc' := 2) dX7_wrongVectors_1 rfl (by decide) rfl (q_iconst (pc' := 3) _ dX7_wrongVectors_2 rfl kk_iconst_0 (q_ist_3 (pc' := 4) dX7_wrongVectors_3 rfl (by decide) rfl ?_)))
  exact loop (b 0 0) 0 _ (by omega)
end SV3
