/-! ===== the class: Rows, what is read ===== -/
theorem mj_oka_row {i s : Nat} (hi : i < 21) (hs : s < 5) : mj_oka 472 (sA i (13 + s)) 12 8 := by
  have hc : s = 0 ∨ s = 1 ∨ s = 2 ∨ s = 3 ∨ s = 4 := by omega
  rcases hc with rfl | rfl | rfl | rfl | rfl
  all_goals exact okaS hi (by omega) (by decide) rfl
section ROWS
variable {w : mj_Wd} {l : Launch} {I : mj_M} {J : mj_J} {R : mj_R} {b A : St} {i : Nat}
theorem cOn_bit {p : Nat} (hp : p < b 0 0) : (cOn b A).testBit p = (A 9 p == 1) := by
  unfold cOn; rw [bitN_bit, decide_eq_true hp, Bool.true_and]
theorem cT_bit {p s v : Nat} (hv : v < b 0 1) : (cT b A p s).testBit v = (A 0 (32 * p + v) == s) := by
  unfold cT; rw [bitN_bit, decide_eq_true hv, Bool.true_and]
theorem cPe_bit {p v : Nat} (hv : v < b 0 1) : (cPe b A p).testBit v = (A 2 (32 * p + v) == 1) := by
  unfold cPe; rw [bitN_bit, decide_eq_true hv, Bool.true_and]
theorem cT_lt {p s : Nat} (hk : bOK b) : cT b A p s < 2 ^ 32 := bit32_lt hk.2.1.2
theorem cPe_lt {p : Nat} (hk : bOK b) : cPe b A p < 2 ^ 32 := bit32_lt hk.2.1.2
theorem cOn_lt (hk : bOK b) : cOn b A < 2 ^ 32 := bit32_lt (by have := hk.1.2; omega)
theorem rn_X4_isOnline {p : Nat} (hi : i < 21) (hk : bOK b) (h : cRr I i b A) (hp : p < b 0 0) : Rn w l yX4_isOnline dd_X4_isOnline [.ref (sA i 11), .int (nI p)] (472, I, J, R) (some (.int (bI (A 9 p == 1)))) (472, I, J, R) := by
  have hz : 50 + 20 * i ≤ 472 := by omega
  have h8 := hk.1.2
  have e := ubit (cOn_lt (A := A) hk) (show p < 32 by omega)
  rw [cOn_bit hp] at e
  rw [← e]
  refine rn_intro2 (L := [some (.ref (sA i 11)), some (.int (nI p))]) ⟨by decide, rfl, (fun h => by cases h)⟩ (Nat.le_refl _) (Nat.le_of_ble_eq_true rfl) rfl (fun Y Q hQ => ?_)
  exact q_aload_n (pc' := 1) dX4_isOnline_0 rfl rfl (q_getIe (pc' := 4) dX4_isOnline_1 rfl fr_RX4_49 (okS hi hz (by decide) rfl) rfl h.2.2.2 (q_iload_n (pc' := 5) dX4_isOnline_4 rfl rfl (q_iushr (pc' := 6) dX4_isOnline_5 rfl (q_iconst (pc' := 7) _ dX4_isOnline_6 rfl kk_iconst_1 (q_iand (pc' := 8) dX4_isOnline_7 rfl (q_iconst (pc' := 9) _ dX4_isOnline_8 rfl kk_iconst_1 (q_bl_icmp_ne (p4 := 17) dX4_isOnline_9 dX4_isOnline_12 dX4_isOnline_13 dX4_isOnline_16 rfl rfl rfl rfl rfl (q_zret dX4_isOnline_17 rfl (by first | exact Or.inl rfl | exact Or.inr rfl | exact bI_01 _) hQ))))))))
theorem rn_X4_howMany {p s : Nat} (hi : i < 21) (hS : mj_wS R i) (hk : bOK b) (h : cRr I i b A) (hp : p < 8) (hs : s < 5) : Rn w l yX4_howMany dd_X4_howMany [.ref (sA i 11), .int (nI s), .int (nI p)] (472, I, J, R) (some (.int (nI (aCnt b A p s)))) (472, I, J, R) := by
  have hz : 50 + 20 * i ≤ 472 := by omega
  have hrow := mj_oka_row hi hs
  have e : bcN (cT b A p s) = aCnt b A p s := bcN_bitN hk.2.1.2
  rw [← e]
  refine rn_intro2 (L := [some (.ref (sA i 11)), some (.int (nI s)), some (.int (nI p))]) ⟨by decide, rfl, (fun h => by cases h)⟩ (Nat.le_refl _) (Nat.le_of_ble_eq_true rfl) rfl (fun Y Q hQ => ?_)
  exact q_aload_n (pc' := 1) dX4_howMany_0 rfl rfl (q_getR (pc' := 4) dX4_howMany_1 rfl fr_RX4_11 (okS hi hz (by decide) rfl) rfl (wS_4_2 hS) (sA_lt hi (by decide)) (q_iload_n (pc' := 5) dX4_howMany_4 rfl rfl (q_aald (pc' := 6) (s) dX4_howMany_5 rfl (by first | exact ⟨by omega, rfl⟩ | exact okaS hi hz (by decide) rfl | assumption) (by first | exact Or.inl rfl | exact Or.inr rfl) (by (first | (simp only [nI_add, pk_mul]; done) | (simp only [nI_add, pk_mul]; exact nI_e (by omega)) | exact nI_e (by omega))) (by omega) (wS_row hS (by omega)) (sA_lt hi (by omega)) (q_iload_n (pc' := 7) dX4_howMany_6 rfl rfl (q_ialde (pc' := 8) (p) dX4_howMany_7 rfl (by first | exact ⟨by omega, rfl⟩ | exact okaS hi hz (by decide) rfl | assumption) (by (first | (simp only [nI_add, pk_mul]; done) | (simp only [nI_add, pk_mul]; exact nI_e (by omega)) | exact nI_e (by omega))) (by omega) (h.1 s hs p hp) (q_cSi (pc' := 11) dX4_howMany_8 rfl ml_RX4_58 ys_J6_bitCount_0f7a4 (by decide) (rn_bitCount (cT_lt hk)) rfl rfl (Nat.le_of_ble_eq_true rfl) (Nat.le_refl _) (q_iret dX4_howMany_11 rfl hQ)))))))
theorem load_e {p : Nat} (hk : bOK b) : bcN (cT b A p 2 ||| cT b A p 3) = aLoad b A p := by
  unfold cT
  rw [bitN_orN, bcN_bitN hk.2.1.2]
  unfold aLoad aCnt
  refine cntN_or (fun k _ q => ?_)
  rw [beq_iff_eq] at q
  rw [q]
  rfl
theorem rn_X4_loadOf {p : Nat} (hi : i < 21) (hS : mj_wS R i) (hk : bOK b) (h : cRr I i b A) (hp : p < 8) : Rn w l yX4_loadOf dd_X4_loadOf [.ref (sA i 11), .int (nI p)] (472, I, J, R) (some (.int (nI (aLoad b A p)))) (472, I, J, R) := by
  have hz : 50 + 20 * i ≤ 472 := by omega
  have hl := Nat.or_lt_two_pow (cT_lt (A := A) (p := p) (s := 2) hk) (cT_lt (A := A) (p := p) (s := 3) hk)
  rw [← load_e hk]
  refine rn_intro2 (L := [some (.ref (sA i 11)), some (.int (nI p))]) ⟨by decide, rfl, (fun h => by cases h)⟩ (Nat.le_refl _) (Nat.le_of_ble_eq_true rfl) rfl (fun Y Q hQ => ?_)
  refine q_aload_n (pc' := 1) dX4_loadOf_0 rfl rfl (q_getR (pc' := 4) dX4_loadOf_1 rfl fr_RX4_11 (okS hi hz (by decide) rfl) rfl (wS_4_2 hS) (sA_lt hi (by decide)) (q_iconst (pc' := 5) _ dX4_loadOf_4 rfl kk_iconst_2 (q_aald (pc' := 6) (2) dX4_loadOf_5 rfl (by first | exact ⟨by omega, rfl⟩ | exact okaS hi hz (by decide) rfl | assumption) (by first | exact Or.inl rfl | exact Or.inr rfl) (by (first | (simp only [nI_add, pk_mul]; done) | (simp only [nI_add, pk_mul]; exact nI_e (by omega)) | exact nI_e (by omega))) (by omega) (wS_row hS (by omega)) (sA_lt hi (by omega)) (q_iload_n (pc' := 7) dX4_loadOf_6 rfl rfl (q_ialde (pc' := 8) (p) dX4_loadOf_7 rfl (by first | exact ⟨by omega, rfl⟩ | exact okaS hi hz (by decide) rfl | assumption) (by (first | (simp only [nI_add, pk_mul]; done) | (simp only [nI_add, pk_mul]; exact nI_e (by omega)) | exact nI_e (by omega))) (by omega) (h.1 2 (by decide) p hp) (q_aload_n (pc' := 9) dX4_loadOf_8 rfl rfl (q_getR (pc' := 12) dX4_loadOf_9 rfl fr_RX4_11 (okS hi hz (by decide) rfl) rfl (wS_4_2 hS) (sA_lt hi (by decide)) (q_iconst (pc' := 13) _ dX4_loadOf_12 rfl kk_iconst_3 (q_aald (pc' := 14) (3) dX4_loadOf_13 rfl (by first | exact ⟨by omega, rfl⟩ | exact okaS hi hz (by decide) rfl | assumption) (by first | exact Or.inl rfl | exact Or.inr rfl) (by (first | (simp only [nI_add, pk_mul]; done) | (simp only [nI_add, pk_mul]; exact nI_e (by omega)) | exact nI_e (by omega))) (by omega) (wS_row hS (by omega)) (sA_lt hi (by omega)) (q_iload_n (pc' := 15) dX4_loadOf_14 rfl rfl (q_ialde (pc' := 16) (p) dX4_loadOf_15 rfl (by first | exact ⟨by omega, rfl⟩ | exact okaS hi hz (by decide) rfl | assumption) (by (first | (simp only [nI_add, pk_mul]; done) | (simp only [nI_add, pk_mul]; exact nI_e (by omega)) | exact nI_e (by omega))) (by omega) (h.1 3 (by decide) p hp) (q_ior (pc' := 17) dX4_loadOf_16 rfl ?_))))))))))))
  refine q_top (nI_or _ _) ?_
  exact q_cSi (pc' := 20) dX4_loadOf_17 rfl ml_RX4_58 ys_J6_bitCount_0f7a4 (by decide) (rn_bitCount hl) rfl rfl (Nat.le_of_ble_eq_true rfl) (Nat.le_refl _) (q_iret dX4_loadOf_20 rfl hQ)
theorem rn_X4_freeOnline (hi : i < 21) (hS : mj_wS R i) (hb : cB I b) (hk : bOK b) (h : cRr I i b A) : Rn w l yX4_freeOnline dd_X4_freeOnline [.ref (sA i 11)] (472, I, J, R) (some (.int (nI (aFree b A)))) (472, I, J, R) := by
  have hz : 50 + 20 * i ≤ 472 := by omega
  have h8 := hk.1.2
  unfold aFree
  refine rn_intro2 (L := [some (.ref (sA i 11)), none, none]) ⟨by decide, rfl, (fun h => by cases h)⟩ (Nat.le_refl _) (Nat.le_of_ble_eq_true rfl) rfl (fun Y Q hQ => ?_)
  have loop : ∀ m k, k + m = b 0 0 → Wq dd_X4_freeOnline (mj_mk w l 472 Y) Q 4 [some (.ref (sA i 11)), some (.int (nI (sumN (fun p => if A 9 p = 1 then aCnt b A p 0 else 0) k))), some (.int (nI k))] [] (472, I, J, R) := by
    intro m
    induction m with
    | zero =>
      intro k hkm
      have hkz : k = b 0 0 := by omega
      subst hkz
      exact q_iload_n (pc' := 5) dX4_freeOnline_4 rfl rfl (q_aload_n (pc' := 6) dX4_freeOnline_5 rfl rfl (q_getR (pc' := 9) dX4_freeOnline_6 rfl fr_RX4_23 (okS hi hz (by decide) rfl) rfl (wS_4_0 hS) (by decide) (q_getIe (pc' := 12) dX4_freeOnline_9 rfl fr_RX4_64 (by first | assumption | exact ⟨by omega, rfl⟩) rfl (cB_0 hb) (q_icmp_ge (pc' := 15) (pt := 42) dX4_freeOnline_12 rfl rfl (fun _ => (q_iload_n (pc' := 43) dX4_freeOnline_42 rfl rfl (q_iret dX4_freeOnline_43 rfl hQ))) (fun h9 => absurd (by (first | assumption | exact nI_le (by omega) (by omega) | exact nI_ge (by omega) (by omega) | exact nI_lt (by omega) (by omega) | exact nI_nlt (by omega) (by omega) | exact nI_ne (by omega) (by omega) (by omega) | exact nI_e (by omega) | decide)) h9)))))
    | succ m ih =>
      intro k hkm
      have next := ih (k + 1) (by omega)
      have es : sumN (fun p => if A 9 p = 1 then aCnt b A p 0 else 0) (k + 1) = sumN (fun p => if A 9 p = 1 then aCnt b A p 0 else 0) k + (if A 9 k = 1 then aCnt b A k 0 else 0) := rfl
      rw [es] at next
      by_cases hc : A 9 k = 1
      · rw [if_pos hc] at next
        refine q_iload_n (pc' := 5) dX4_freeOnline_4 rfl rfl (q_aload_n (pc' := 6) dX4_freeOnline_5 rfl rfl (q_getR (pc' := 9) dX4_freeOnline_6 rfl fr_RX4_23 (okS hi hz (by decide) rfl) rfl (wS_4_0 hS) (by decide) (q_getIe (pc' := 12) dX4_freeOnline_9 rfl fr_RX4_64 (by first | assumption | exact ⟨by omega, rfl⟩) rfl (cB_0 hb) (q_icmp_ge (pc' := 15) (pt := 42) dX4_freeOnline_12 rfl rfl (fun h9 => absurd h9 (by (first | assumption | exact nI_le (by omega) (by omega) | exact nI_ge (by omega) (by omega) | exact nI_lt (by omega) (by omega) | exact nI_nlt (by omega) (by omega) | exact nI_ne (by omega) (by omega) (by omega) | exact nI_e (by omega) | decide))) (fun _ => (q_iload_n (pc' := 16) dX4_freeOnline_15 rfl rfl (q_aload_n (pc' := 17) dX4_freeOnline_16 rfl rfl (q_iload_n (pc' := 18) dX4_freeOnline_17 rfl rfl (q_cVi (pc' := 21) dX4_freeOnline_18 rfl ml_RX4_67 yv_X4_isOnline (by decide) (rn_X4_isOnline hi hk h (by omega)) (okS hi hz (by decide) rfl) rfl rfl (Nat.le_of_ble_eq_true rfl) (Nat.le_refl _) (q_ifb_eq (pc' := 24) (pt := 33) dX4_freeOnline_21 rfl rfl (fun h9 => Bool.noConfusion (Eq.trans (Eq.symm (beq_iff_eq.mpr hc)) h9)) (fun _ => (q_aload_n (pc' := 25) dX4_freeOnline_24 rfl rfl (q_iconst (pc' := 26) _ dX4_freeOnline_25 rfl kk_iconst_0 (q_iload_n (pc' := 27) dX4_freeOnline_26 rfl rfl (q_cVi (pc' := 30) dX4_freeOnline_27 rfl ml_RX4_71 yv_X4_howMany (by decide) (rn_X4_howMany (s := 0) hi hS hk h (by omega) (by decide)) (okS hi hz (by decide) rfl) rfl rfl (Nat.le_of_ble_eq_true rfl) (Nat.le_refl _) ?_)))))))))))))))
        refine q_goto (pc' := 34) dX4_freeOnline_30 rfl ?_
        refine q_iadd dX4_freeOnline_34 rfl ?_
        refine q_top (nI_add _ _) ?_
        refine q_ist_1 (pc' := 36) dX4_freeOnline_35 rfl (by decide) rfl (q_inc_2 (pc' := 39) dX4_freeOnline_36 rfl (by decide) rfl (q_goto (pc' := 4) dX4_freeOnline_39 rfl ?_))
        exact next
      · rw [if_neg hc] at next
        refine q_iload_n (pc' := 5) dX4_freeOnline_4 rfl rfl (q_aload_n (pc' := 6) dX4_freeOnline_5 rfl rfl (q_getR (pc' := 9) dX4_freeOnline_6 rfl fr_RX4_23 (okS hi hz (by decide) rfl) rfl (wS_4_0 hS) (by decide) (q_getIe (pc' := 12) dX4_freeOnline_9 rfl fr_RX4_64 (by first | assumption | exact ⟨by omega, rfl⟩) rfl (cB_0 hb) (q_icmp_ge (pc' := 15) (pt := 42) dX4_freeOnline_12 rfl rfl (fun h9 => absurd h9 (by (first | assumption | exact nI_le (by omega) (by omega) | exact nI_ge (by omega) (by omega) | exact nI_lt (by omega) (by omega) | exact nI_nlt (by omega) (by omega) | exact nI_ne (by omega) (by omega) (by omega) | exact nI_e (by omega) | decide))) (fun _ => (q_iload_n (pc' := 16) dX4_freeOnline_15 rfl rfl (q_aload_n (pc' := 17) dX4_freeOnline_16 rfl rfl (q_iload_n (pc' := 18) dX4_freeOnline_17 rfl rfl (q_cVi (pc' := 21) dX4_freeOnline_18 rfl ml_RX4_67 yv_X4_isOnline (by decide) (rn_X4_isOnline hi hk h (by omega)) (okS hi hz (by decide) rfl) rfl rfl (Nat.le_of_ble_eq_true rfl) (Nat.le_refl _) (q_ifb_eq (pc' := 24) (pt := 33) dX4_freeOnline_21 rfl rfl (fun _ => (q_iconst (pc' := 34) _ dX4_freeOnline_33 rfl kk_iconst_0 ?_)) (fun h9 => Bool.noConfusion (Eq.trans (Eq.symm (beq_eq_false_iff_ne.mpr hc)) h9))))))))))))
        refine q_iadd dX4_freeOnline_34 rfl ?_
        refine q_top (nI_add _ 0) ?_
        refine q_ist_1 (pc' := 36) dX4_freeOnline_35 rfl (by decide) rfl (q_inc_2 (pc' := 39) dX4_freeOnline_36 rfl (by decide) rfl (q_goto (pc' := 4) dX4_freeOnline_39 rfl ?_))
        exact next
  refine q_iconst (pc' := 1) _ dX4_freeOnline_0 rfl kk_iconst_0 (q_ist_1 (pc' := 2) dX4_freeOnline_1 rfl (by decide) rfl (q_iconst (pc' := 3) _ dX4_freeOnline_2 rfl kk_iconst_0 (q_ist_2 (pc' := 4) dX4_freeOnline_3 rfl (by decide) rfl ?_)))
  exact loop (b 0 0) 0 (by omega)
theorem rn_X4_kindAt {k : Nat} (hi : i < 21) (hS : mj_wS R i) (hk : bOK b) (h : cRr I i b A) (h256 : k < 256) (hv : k % 32 < b 0 1) (h5 : A 0 k < 5) : Rn w l yX4_kindAt dd_X4_kindAt [.ref (sA i 11), .int (nI k)] (472, I, J, R) (some (.int (nI (A 0 k)))) (472, I, J, R) := by
  have hz : 50 + 20 * i ≤ 472 := by omega
  have ek : 32 * (k / 32) + k % 32 = k := by omega
  have eb : ∀ s, (cT b A (k / 32) s).testBit (k % 32) = (A 0 k == s) := fun s => by rw [cT_bit hv, ek]
  refine rn_intro2 (L := [some (.ref (sA i 11)), some (.int (nI k)), none, none, none]) ⟨by decide, rfl, (fun h => by cases h)⟩ (Nat.le_refl _) (Nat.le_of_ble_eq_true rfl) rfl (fun Y Q hQ => ?_)
  refine q_iload_n (pc' := 1) dX4_kindAt_0 rfl rfl (q_if_lt (pc' := 4) (pt := 11) dX4_kindAt_1 rfl rfl (fun h9 => absurd h9 (Int32.not_lt.mpr (nI_le (a := 0) (by omega) (by omega)))) (fun _ => (q_iload_n (pc' := 5) dX4_kindAt_4 rfl rfl (q_sipush (pc' := 8) _ dX4_kindAt_5 rfl kk_sipush_256 (q_icmp_lt (pc' := 11) (pt := 13) dX4_kindAt_8 rfl rfl (fun _ => (q_iload_n (pc' := 14) dX4_kindAt_13 rfl rfl (q_bipush (pc' := 16) _ dX4_kindAt_14 rfl kk_bipush_32 (q_idiv (pc' := 17) dX4_kindAt_16 rfl (by decide) ?_)))) (fun h9 => absurd (nI_lt h256 (by decide)) h9))))))
  refine q_top (d32 k h256) ?_
  refine q_ist_2 (pc' := 18) dX4_kindAt_17 rfl (by decide) rfl (q_iload_n (pc' := 19) dX4_kindAt_18 rfl rfl (q_bipush (pc' := 21) _ dX4_kindAt_19 rfl kk_bipush_32 (q_irem (pc' := 22) dX4_kindAt_21 rfl (by decide) ?_)))
  refine q_top (m32 k h256) ?_
  refine q_ist_3 (pc' := 23) dX4_kindAt_22 rfl (by decide) rfl (q_iconst (pc' := 24) _ dX4_kindAt_23 rfl kk_iconst_1 (q_ist_4 (pc' := 26) dX4_kindAt_24 rfl (by decide) rfl ?_))
  have loop : ∀ m s, s + m = 5 → 1 ≤ s → (∀ r, 1 ≤ r → r < s → A 0 k ≠ r) → Wq dd_X4_kindAt (mj_mk w l 472 Y) Q 26 [some (.ref (sA i 11)), some (.int (nI k)), some (.int (nI (k / 32))), some (.int (nI (k % 32))), some (.int (nI s))] [] (472, I, J, R) := by
    intro m
    induction m with
    | zero =>
      intro s hsm h1 hno
      have hsz : s = 5 := by omega
      subst hsz
      have h0 : A 0 k = 0 := Decidable.byContradiction fun q => hno (A 0 k) (by omega) h5 rfl
      rw [h0] at hQ
      exact q_iload (pc' := 28) dX4_kindAt_26 rfl rfl (q_iconst (pc' := 29) _ dX4_kindAt_28 rfl kk_iconst_5 (q_icmp_ge (pc' := 32) (pt := 58) dX4_kindAt_29 rfl rfl (fun _ => (q_iconst (pc' := 59) _ dX4_kindAt_58 rfl kk_iconst_0 (q_iret dX4_kindAt_59 rfl hQ))) (fun h9 => absurd (by (first | assumption | exact nI_le (by omega) (by omega) | exact nI_ge (by omega) (by omega) | exact nI_lt (by omega) (by omega) | exact nI_nlt (by omega) (by omega) | exact nI_ne (by omega) (by omega) (by omega) | exact nI_e (by omega) | decide)) h9)))
    | succ m ih =>
      intro s hsm h1 hno
      have hs5 : s < 5 := by omega
      have hrow := mj_oka_row hi hs5
      have e := (ubit (cT_lt (A := A) (p := k / 32) (s := s) hk) (show k % 32 < 32 by omega)).trans (eb s)
      by_cases hc : A 0 k = s
      · rw [beq_iff_eq.mpr hc, decide_eq_true_iff] at e
        refine q_iload (pc' := 28) dX4_kindAt_26 rfl rfl (q_iconst (pc' := 29) _ dX4_kindAt_28 rfl kk_iconst_5 (q_icmp_ge (pc' := 32) (pt := 58) dX4_kindAt_29 rfl rfl (fun h9 => absurd h9 (by (first | assumption | exact nI_le (by omega) (by omega) | exact nI_ge (by omega) (by omega) | exact nI_lt (by omega) (by omega) | exact nI_nlt (by omega) (by omega) | exact nI_ne (by omega) (by omega) (by omega) | exact nI_e (by omega) | decide))) (fun _ => (q_aload_n (pc' := 33) dX4_kindAt_32 rfl rfl (q_getR (pc' := 36) dX4_kindAt_33 rfl fr_RX4_11 (okS hi hz (by decide) rfl) rfl (wS_4_2 hS) (sA_lt hi (by decide)) (q_iload (pc' := 38) dX4_kindAt_36 rfl rfl (q_aald (pc' := 39) (s) dX4_kindAt_38 rfl (by first | exact ⟨by omega, rfl⟩ | exact okaS hi hz (by decide) rfl | assumption) (by first | exact Or.inl rfl | exact Or.inr rfl) (by (first | (simp only [nI_add, pk_mul]; done) | (simp only [nI_add, pk_mul]; exact nI_e (by omega)) | exact nI_e (by omega))) (by omega) (wS_row hS (by omega)) (sA_lt hi (by omega)) (q_iload_n (pc' := 40) dX4_kindAt_39 rfl rfl (q_ialde (pc' := 41) (k / 32) dX4_kindAt_40 rfl (by first | exact ⟨by omega, rfl⟩ | exact okaS hi hz (by decide) rfl | assumption) (by (first | (simp only [nI_add, pk_mul]; done) | (simp only [nI_add, pk_mul]; exact nI_e (by omega)) | exact nI_e (by omega))) (by omega) (h.1 s hs5 (k / 32) (by omega)) (q_iload_n (pc' := 42) dX4_kindAt_41 rfl rfl (q_iushr (pc' := 43) dX4_kindAt_42 rfl (q_iconst (pc' := 44) _ dX4_kindAt_43 rfl kk_iconst_1 (q_iand (pc' := 45) dX4_kindAt_44 rfl (q_iconst (pc' := 46) _ dX4_kindAt_45 rfl kk_iconst_1 ?_))))))))))))))
        exact q_icmp_ne (pc' := 49) (pt := 52) dX4_kindAt_46 rfl rfl (fun h9 => absurd (e) h9) (fun _ => (q_iload (pc' := 51) dX4_kindAt_49 rfl rfl (q_iret dX4_kindAt_51 rfl (by rw [hc] at hQ; exact hQ))))
      · rw [beq_eq_false_iff_ne.mpr hc, decide_eq_false_iff_not] at e
        refine q_iload (pc' := 28) dX4_kindAt_26 rfl rfl (q_iconst (pc' := 29) _ dX4_kindAt_28 rfl kk_iconst_5 (q_icmp_ge (pc' := 32) (pt := 58) dX4_kindAt_29 rfl rfl (fun h9 => absurd h9 (by (first | assumption | exact nI_le (by omega) (by omega) | exact nI_ge (by omega) (by omega) | exact nI_lt (by omega) (by omega) | exact nI_nlt (by omega) (by omega) | exact nI_ne (by omega) (by omega) (by omega) | exact nI_e (by omega) | decide))) (fun _ => (q_aload_n (pc' := 33) dX4_kindAt_32 rfl rfl (q_getR (pc' := 36) dX4_kindAt_33 rfl fr_RX4_11 (okS hi hz (by decide) rfl) rfl (wS_4_2 hS) (sA_lt hi (by decide)) (q_iload (pc' := 38) dX4_kindAt_36 rfl rfl (q_aald (pc' := 39) (s) dX4_kindAt_38 rfl (by first | exact ⟨by omega, rfl⟩ | exact okaS hi hz (by decide) rfl | assumption) (by first | exact Or.inl rfl | exact Or.inr rfl) (by (first | (simp only [nI_add, pk_mul]; done) | (simp only [nI_add, pk_mul]; exact nI_e (by omega)) | exact nI_e (by omega))) (by omega) (wS_row hS (by omega)) (sA_lt hi (by omega)) (q_iload_n (pc' := 40) dX4_kindAt_39 rfl rfl (q_ialde (pc' := 41) (k / 32) dX4_kindAt_40 rfl (by first | exact ⟨by omega, rfl⟩ | exact okaS hi hz (by decide) rfl | assumption) (by (first | (simp only [nI_add, pk_mul]; done) | (simp only [nI_add, pk_mul]; exact nI_e (by omega)) | exact nI_e (by omega))) (by omega) (h.1 s hs5 (k / 32) (by omega)) (q_iload_n (pc' := 42) dX4_kindAt_41 rfl rfl (q_iushr (pc' := 43) dX4_kindAt_42 rfl (q_iconst (pc' := 44) _ dX4_kindAt_43 rfl kk_iconst_1 (q_iand (pc' := 45) dX4_kindAt_44 rfl (q_iconst (pc' := 46) _ dX4_kindAt_45 rfl kk_iconst_1 ?_))))))))))))))
        refine q_icmp_ne (pc' := 49) (pt := 52) dX4_kindAt_46 rfl rfl (fun _ => (q_inc_4 (pc' := 55) dX4_kindAt_52 rfl (by decide) rfl (q_goto (pc' := 26) dX4_kindAt_55 rfl ?_))) (fun h9 => absurd h9 (e))
        exact ih (s + 1) (by omega) (by omega) (fun r r1 r2 => by
          by_cases er : r = s
          · rw [er]; exact hc
          · exact hno r r1 (by omega))
  exact loop 4 1 (by omega) (by omega) (fun r r1 r2 => by omega)
theorem rn_X4_isPending {k : Nat} (hi : i < 21) (hS : mj_wS R i) (hk : bOK b) (h : cRr I i b A) (h256 : k < 256) (hv : k % 32 < b 0 1) : Rn w l yX4_isPending dd_X4_isPending [.ref (sA i 11), .int (nI k)] (472, I, J, R) (some (.int (bI (A 2 k == 1)))) (472, I, J, R) := by
  have hz : 50 + 20 * i ≤ 472 := by omega
  have ek : 32 * (k / 32) + k % 32 = k := by omega
  have e := (ubit (cPe_lt (A := A) (p := k / 32) hk) (show k % 32 < 32 by omega)).trans ((cPe_bit hv).trans (by rw [ek]))
  rw [← e]
  refine rn_intro2 (L := [some (.ref (sA i 11)), some (.int (nI k))]) ⟨by decide, rfl, (fun h => by cases h)⟩ (Nat.le_refl _) (Nat.le_of_ble_eq_true rfl) rfl (fun Y Q hQ => ?_)
  refine q_iload_n (pc' := 1) dX4_isPending_0 rfl rfl (q_if_lt (pc' := 4) (pt := 35) dX4_isPending_1 rfl rfl (fun h9 => absurd h9 (Int32.not_lt.mpr (nI_le (a := 0) (by omega) (by omega)))) (fun _ => (q_iload_n (pc' := 5) dX4_isPending_4 rfl rfl (q_sipush (pc' := 8) _ dX4_isPending_5 rfl kk_sipush_256 (q_icmp_ge (pc' := 11) (pt := 35) dX4_isPending_8 rfl rfl (fun h9 => absurd h9 (Int32.not_le.mpr (nI_lt h256 (by decide)))) (fun _ => (q_aload_n (pc' := 12) dX4_isPending_11 rfl rfl (q_getR (pc' := 15) dX4_isPending_12 rfl fr_RX4_16 (okS hi hz (by decide) rfl) rfl (wS_4_3 hS) (sA_lt hi (by decide)) (q_iload_n (pc' := 16) dX4_isPending_15 rfl rfl (q_bipush (pc' := 18) _ dX4_isPending_16 rfl kk_bipush_32 (q_idiv (pc' := 19) dX4_isPending_18 rfl (by decide) ?_)))))))))))
  refine q_top (d32 k h256) ?_
  refine q_ialde (pc' := 20) (k / 32) dX4_isPending_19 rfl (by first | exact ⟨by omega, rfl⟩ | exact okaS hi hz (by decide) rfl | assumption) (by (first | (simp only [nI_add, pk_mul]; done) | (simp only [nI_add, pk_mul]; exact nI_e (by omega)) | exact nI_e (by omega))) (by omega) (h.2.1 (k / 32) (by omega)) (q_iload_n (pc' := 21) dX4_isPending_20 rfl rfl (q_bipush (pc' := 23) _ dX4_isPending_21 rfl kk_bipush_32 (q_irem (pc' := 24) dX4_isPending_23 rfl (by decide) ?_)))
  refine q_top (m32 k h256) ?_
  exact q_iushr (pc' := 25) dX4_isPending_24 rfl (q_iconst (pc' := 26) _ dX4_isPending_25 rfl kk_iconst_1 (q_iand (pc' := 27) dX4_isPending_26 rfl (q_iconst (pc' := 28) _ dX4_isPending_27 rfl kk_iconst_1 (q_bl_icmp_ne (p4 := 36) dX4_isPending_28 dX4_isPending_31 dX4_isPending_32 dX4_isPending_35 rfl rfl rfl rfl rfl (q_zret dX4_isPending_36 rfl (by first | exact Or.inl rfl | exact Or.inr rfl | exact bI_01 _) hQ)))))
theorem rn_X4_isPending0 : Rn w l yX4_isPending dd_X4_isPending [.ref (sA i 11), .int (-1)] (472, I, J, R) (some (.int (bI false))) (472, I, J, R) := by
  refine rn_intro2 (L := [some (.ref (sA i 11)), some (.int (-1))]) ⟨by decide, rfl, (fun h => by cases h)⟩ (Nat.le_refl _) (Nat.le_of_ble_eq_true rfl) rfl (fun Y Q hQ => ?_)
  exact q_iload_n (pc' := 1) dX4_isPending_0 rfl rfl (q_if_lt (pc' := 4) (pt := 35) dX4_isPending_1 rfl rfl (fun _ => (q_iconst (pc' := 36) _ dX4_isPending_35 rfl kk_iconst_0 (q_zret dX4_isPending_36 rfl (by first | exact Or.inl rfl | exact Or.inr rfl | exact bI_01 _) hQ))) (fun h9 => absurd (by decide) h9))
end ROWS
