/-! ===== the class: Rows, blocks, the least loaded ===== -/
theorem ones_iff {s n : Nat} : s % 2 ^ n = 2 ^ n - 1 ↔ ∀ k, k < n → s.testBit k = true := by
  constructor
  · intro h k hk
    have h1 := congrArg (fun x => Nat.testBit x k) h
    simp only [Nat.testBit_mod_two_pow, Nat.testBit_two_pow_sub_one, decide_eq_true hk, Bool.true_and] at h1
    exact h1
  · intro h
    apply Nat.eq_of_testBit_eq
    intro k
    rw [Nat.testBit_mod_two_pow, Nat.testBit_two_pow_sub_one]
    by_cases hk : k < n
    · rw [h k hk, Bool.and_true]
    · rw [decide_eq_false hk, Bool.false_and]
def lL (b A : St) (o : Option Nat) : Int32 := match o with
  | none => -1
  | some k => nI (aLoad b A k)
section ROWS2
variable {w : mj_Wd} {l : Launch} {I : mj_M} {J : mj_J} {R : mj_R} {b A : St} {i : Nat}
theorem rn_X4_greatestPending {p : Nat} (hi : i < 21) (hS : mj_wS R i) (hb : cB I b) (hk : bOK b) (h : cRr I i b A) (hp : p < 8) : Rn w l yX4_greatestPending dd_X4_greatestPending [.ref (sA i 11), .int (nI p)] (472, I, J, R) (some (.int (oI (aTop b A p)))) (472, I, J, R) := by
  have hz : 50 + 20 * i ≤ 472 := by omega
  have hv := hk.2.1
  have hlt := cPe_lt (A := A) (p := p) hk
  refine rn_intro2 (L := [some (.ref (sA i 11)), some (.int (nI p)), none]) ⟨by decide, rfl, (fun h => by cases h)⟩ (Nat.le_refl _) (Nat.le_of_ble_eq_true rfl) rfl (fun Y Q hQ => ?_)
  by_cases h0 : nI (cPe b A p) = 0
  · have hn : aTop b A p = none := by
      have hc0 : cPe b A p = 0 := by
        have h1 := congrArg (fun z => (Int32.toBitVec z).toNat) h0
        have h2 : (Int32.toBitVec (nI (cPe b A p))).toNat = cPe b A p := by
          show (BitVec.ofNat 32 (cPe b A p)).toNat = _
          rw [BitVec.toNat_ofNat, Nat.mod_eq_of_lt hlt]
        exact h2.symm.trans h1
      unfold aTop
      have key : ∀ n, n ≤ b 0 1 → topN (fun v => A 2 (32 * p + v) == 1) n = none := by
        intro n
        induction n with
        | zero => intro _; rfl
        | succ n ih =>
          intro hn
          unfold topN
          have h3 := cPe_bit (A := A) (b := b) (p := p) (show n < b 0 1 by omega)
          rw [hc0, Nat.zero_testBit] at h3
          show (if (A 2 (32 * p + n) == 1) = true then some n else _) = none
          rw [← h3, if_neg (by decide)]
          exact ih (by omega)
      exact key _ (Nat.le_refl _)
    rw [hn] at hQ
    exact q_aload_n (pc' := 1) dX4_greatestPending_0 rfl rfl (q_getR (pc' := 4) dX4_greatestPending_1 rfl fr_RX4_16 (okS hi hz (by decide) rfl) rfl (wS_4_3 hS) (sA_lt hi (by decide)) (q_iload_n (pc' := 5) dX4_greatestPending_4 rfl rfl (q_ialde (pc' := 6) (p) dX4_greatestPending_5 rfl (by first | exact ⟨by omega, rfl⟩ | exact okaS hi hz (by decide) rfl | assumption) (by (first | (simp only [nI_add, pk_mul]; done) | (simp only [nI_add, pk_mul]; exact nI_e (by omega)) | exact nI_e (by omega))) (by omega) (h.2.1 p hp) (q_if_ne (pc' := 9) (pt := 11) dX4_greatestPending_6 rfl rfl (fun h9 => absurd (h0) h9) (fun _ => (q_iconst (pc' := 10) _ dX4_greatestPending_9 rfl kk_iconst_m1 (q_iret dX4_greatestPending_10 rfl hQ)))))))
  · refine q_aload_n (pc' := 1) dX4_greatestPending_0 rfl rfl (q_getR (pc' := 4) dX4_greatestPending_1 rfl fr_RX4_16 (okS hi hz (by decide) rfl) rfl (wS_4_3 hS) (sA_lt hi (by decide)) (q_iload_n (pc' := 5) dX4_greatestPending_4 rfl rfl (q_ialde (pc' := 6) (p) dX4_greatestPending_5 rfl (by first | exact ⟨by omega, rfl⟩ | exact okaS hi hz (by decide) rfl | assumption) (by (first | (simp only [nI_add, pk_mul]; done) | (simp only [nI_add, pk_mul]; exact nI_e (by omega)) | exact nI_e (by omega))) (by omega) (h.2.1 p hp) (q_if_ne (pc' := 9) (pt := 11) dX4_greatestPending_6 rfl rfl (fun _ => (q_aload_n (pc' := 12) dX4_greatestPending_11 rfl rfl (q_getR (pc' := 15) dX4_greatestPending_12 rfl fr_RX4_23 (okS hi hz (by decide) rfl) rfl (wS_4_0 hS) (by decide) (q_getIe (pc' := 18) dX4_greatestPending_15 rfl fr_RX4_78 (by first | assumption | exact ⟨by omega, rfl⟩) rfl (cB_1 hb) (q_iconst (pc' := 19) _ dX4_greatestPending_18 rfl kk_iconst_1 (q_isub (pc' := 20) dX4_greatestPending_19 rfl ?_)))))) (fun h9 => absurd h9 (h0))))))
    refine q_top (y := lD (b 0 1)) (by unfold lD; rw [if_neg (by omega)]; exact pk_sub (by omega)) ?_
    refine q_ist_2 (pc' := 21) dX4_greatestPending_20 rfl (by decide) rfl ?_
    have loop : ∀ m, m ≤ b 0 1 → topN (fun v => A 2 (32 * p + v) == 1) m = aTop b A p → Wq dd_X4_greatestPending (mj_mk w l 472 Y) Q 21 [some (.ref (sA i 11)), some (.int (nI p)), some (.int (lD m))] [] (472, I, J, R) := by
      intro m
      induction m with
      | zero =>
        intro _ ht
        rw [← ht] at hQ
        exact q_iload_n (pc' := 22) dX4_greatestPending_21 rfl rfl (q_if_lt (pc' := 25) (pt := 47) dX4_greatestPending_22 rfl rfl (fun _ => (q_iconst (pc' := 48) _ dX4_greatestPending_47 rfl kk_iconst_m1 (q_iret dX4_greatestPending_48 rfl hQ))) (fun h9 => absurd (by decide) h9))
      | succ m ih =>
        intro hm ht
        have e0 : lD (m + 1) = nI m := by unfold lD; rw [if_neg (by omega)]; rfl
        rw [e0]
        have e := (ubit hlt (show m < 32 by omega)).trans (cPe_bit (A := A) (b := b) (p := p) (show m < b 0 1 by omega))
        unfold topN at ht
        by_cases hc : A 2 (32 * p + m) = 1
        · rw [if_pos (beq_iff_eq.mpr hc)] at ht
          rw [← ht] at hQ
          rw [beq_iff_eq.mpr hc, decide_eq_true_iff] at e
          exact q_iload_n (pc' := 22) dX4_greatestPending_21 rfl rfl (q_if_lt (pc' := 25) (pt := 47) dX4_greatestPending_22 rfl rfl (fun h9 => absurd h9 (Int32.not_lt.mpr (nI_le (a := 0) (by omega) (by omega)))) (fun _ => (q_aload_n (pc' := 26) dX4_greatestPending_25 rfl rfl (q_getR (pc' := 29) dX4_greatestPending_26 rfl fr_RX4_16 (okS hi hz (by decide) rfl) rfl (wS_4_3 hS) (sA_lt hi (by decide)) (q_iload_n (pc' := 30) dX4_greatestPending_29 rfl rfl (q_ialde (pc' := 31) (p) dX4_greatestPending_30 rfl (by first | exact ⟨by omega, rfl⟩ | exact okaS hi hz (by decide) rfl | assumption) (by (first | (simp only [nI_add, pk_mul]; done) | (simp only [nI_add, pk_mul]; exact nI_e (by omega)) | exact nI_e (by omega))) (by omega) (h.2.1 p hp) (q_iload_n (pc' := 32) dX4_greatestPending_31 rfl rfl (q_iushr (pc' := 33) dX4_greatestPending_32 rfl (q_iconst (pc' := 34) _ dX4_greatestPending_33 rfl kk_iconst_1 (q_iand (pc' := 35) dX4_greatestPending_34 rfl (q_iconst (pc' := 36) _ dX4_greatestPending_35 rfl kk_iconst_1 (q_icmp_ne (pc' := 39) (pt := 41) dX4_greatestPending_36 rfl rfl (fun h9 => absurd (e) h9) (fun _ => (q_iload_n (pc' := 40) dX4_greatestPending_39 rfl rfl (q_iret dX4_greatestPending_40 rfl hQ)))))))))))))))
        · rw [if_neg (fun q => hc (beq_iff_eq.mp q))] at ht
          rw [beq_eq_false_iff_ne.mpr hc, decide_eq_false_iff_not] at e
          refine q_iload_n (pc' := 22) dX4_greatestPending_21 rfl rfl (q_if_lt (pc' := 25) (pt := 47) dX4_greatestPending_22 rfl rfl (fun h9 => absurd h9 (Int32.not_lt.mpr (nI_le (a := 0) (by omega) (by omega)))) (fun _ => (q_aload_n (pc' := 26) dX4_greatestPending_25 rfl rfl (q_getR (pc' := 29) dX4_greatestPending_26 rfl fr_RX4_16 (okS hi hz (by decide) rfl) rfl (wS_4_3 hS) (sA_lt hi (by decide)) (q_iload_n (pc' := 30) dX4_greatestPending_29 rfl rfl (q_ialde (pc' := 31) (p) dX4_greatestPending_30 rfl (by first | exact ⟨by omega, rfl⟩ | exact okaS hi hz (by decide) rfl | assumption) (by (first | (simp only [nI_add, pk_mul]; done) | (simp only [nI_add, pk_mul]; exact nI_e (by omega)) | exact nI_e (by omega))) (by omega) (h.2.1 p hp) (q_iload_n (pc' := 32) dX4_greatestPending_31 rfl rfl (q_iushr (pc' := 33) dX4_greatestPending_32 rfl (q_iconst (pc' := 34) _ dX4_greatestPending_33 rfl kk_iconst_1 (q_iand (pc' := 35) dX4_greatestPending_34 rfl (q_iconst (pc' := 36) _ dX4_greatestPending_35 rfl kk_iconst_1 (q_icmp_ne (pc' := 39) (pt := 41) dX4_greatestPending_36 rfl rfl (fun _ => ?_) (fun h9 => absurd h9 (e))))))))))))))
          refine q_iinc_2 (pc' := 44) (lD m) dX4_greatestPending_41 rfl (by decide) rfl (by
            unfold lD
            by_cases z : m = 0
            · subst z; decide
            · rw [if_neg z]; exact sb_m1 (by omega)) (q_goto (pc' := 21) dX4_greatestPending_44 rfl ?_)
          exact ih (by omega) ht
    exact loop (b 0 1) (Nat.le_refl _) rfl
theorem rn_X4_isFreeBlock {p v n : Nat} (hi : i < 21) (hS : mj_wS R i) (hk : bOK b) (h : cRr I i b A) (hp : p < 8) (hn : n ≤ 8) (hv : v + n ≤ b 0 1) : Rn w l yX4_isFreeBlock dd_X4_isFreeBlock [.ref (sA i 11), .int (nI p), .int (nI v), .int (nI n)] (472, I, J, R) (some (.int (bI (allN (fun k => A 0 (32 * p + (v + k)) == 0) n)))) (472, I, J, R) := by
  have hz : 50 + 20 * i ≤ 472 := by omega
  have hv2 := hk.2.1.2
  by_cases hn0 : v = 32
  · have : n = 0 := by omega
    subst this
    subst hn0
    refine rn_intro2 (L := [some (.ref (sA i 11)), some (.int (nI p)), some (.int (nI 32)), some (.int (nI 0)), none]) ⟨by decide, rfl, (fun h => by cases h)⟩ (Nat.le_refl _) (Nat.le_of_ble_eq_true rfl) rfl (fun Y Q hQ => ?_)
    refine q_iconst (pc' := 1) _ dX4_isFreeBlock_0 rfl kk_iconst_1 (q_iload_n (pc' := 2) dX4_isFreeBlock_1 rfl rfl (q_ishl (pc' := 3) dX4_isFreeBlock_2 rfl (q_iconst (pc' := 4) _ dX4_isFreeBlock_3 rfl kk_iconst_1 (q_isub (pc' := 5) dX4_isFreeBlock_4 rfl ?_))))
    refine q_top (sh_m1 (n := 0) (by decide)) ?_
    have e0 : ∀ x : Int32, x &&& nI (2 ^ 0 - 1) = nI (2 ^ 0 - 1) := fun x => by
      apply Int32.toBitVec_inj.mp
      rw [Int32.toBitVec_and]
      exact BitVec.and_zero
    exact q_ist_4 (pc' := 7) dX4_isFreeBlock_5 rfl (by decide) rfl (q_aload_n (pc' := 8) dX4_isFreeBlock_7 rfl rfl (q_getR (pc' := 11) dX4_isFreeBlock_8 rfl fr_RX4_11 (okS hi hz (by decide) rfl) rfl (wS_4_2 hS) (sA_lt hi (by decide)) (q_iconst (pc' := 12) _ dX4_isFreeBlock_11 rfl kk_iconst_0 (q_aald (pc' := 13) (0) dX4_isFreeBlock_12 rfl (by first | exact ⟨by omega, rfl⟩ | exact okaS hi hz (by decide) rfl | assumption) (by first | exact Or.inl rfl | exact Or.inr rfl) (by (first | (simp only [nI_add, pk_mul]; done) | (simp only [nI_add, pk_mul]; exact nI_e (by omega)) | exact nI_e (by omega))) (by omega) (wS_row hS (by omega)) (sA_lt hi (by omega)) (q_iload_n (pc' := 14) dX4_isFreeBlock_13 rfl rfl (q_ialde (pc' := 15) (p) dX4_isFreeBlock_14 rfl (by first | exact ⟨by omega, rfl⟩ | exact okaS hi hz (by decide) rfl | assumption) (by (first | (simp only [nI_add, pk_mul]; done) | (simp only [nI_add, pk_mul]; exact nI_e (by omega)) | exact nI_e (by omega))) (by omega) (h.1 0 (by decide) p hp) (q_iload_n (pc' := 16) dX4_isFreeBlock_15 rfl rfl (q_iushr (pc' := 17) dX4_isFreeBlock_16 rfl (q_iload (pc' := 19) dX4_isFreeBlock_17 rfl rfl (q_iand (pc' := 20) dX4_isFreeBlock_19 rfl (q_iload (pc' := 22) dX4_isFreeBlock_20 rfl rfl (q_bl_icmp_ne (p4 := 30) dX4_isFreeBlock_22 dX4_isFreeBlock_25 dX4_isFreeBlock_26 dX4_isFreeBlock_29 rfl rfl rfl rfl rfl (q_zret dX4_isFreeBlock_30 rfl (by first | exact Or.inl rfl | exact Or.inr rfl | exact bI_01 _) (by rw [decide_eq_true (e0 _)]; exact hQ))))))))))))))
  · have e : decide (((nI (cT b A p 0)).toUInt32 >>> ((nI v).toUInt32 &&& Int32.toUInt32 31)).toInt32 &&& nI (2 ^ n - 1) = nI (2 ^ n - 1)) = allN (fun k => A 0 (32 * p + (v + k)) == 0) n := by
      have h2n : 2 ^ n ≤ 2 ^ 8 := Nat.pow_le_pow_right (by decide) hn
      have h2p := Nat.two_pow_pos n
      have hm : cT b A p 0 / 2 ^ v % 2 ^ n < 2 ^ n := Nat.mod_lt _ h2p
      rw [us32 (cT_lt hk) (by omega), nI_and, Nat.and_two_pow_sub_one_eq_mod, Bool.eq_iff_iff, decide_eq_true_iff, nI_eq (by omega) (by omega), ones_iff, allN_iff]
      constructor
      · intro q k hk2
        have := q k hk2
        rw [Nat.testBit_div_two_pow, Nat.add_comm k v, cT_bit (by omega)] at this
        exact this
      · intro q k hk2
        rw [Nat.testBit_div_two_pow, Nat.add_comm k v, cT_bit (by omega)]
        exact q k hk2
    rw [← e]
    refine rn_intro2 (L := [some (.ref (sA i 11)), some (.int (nI p)), some (.int (nI v)), some (.int (nI n)), none]) ⟨by decide, rfl, (fun h => by cases h)⟩ (Nat.le_refl _) (Nat.le_of_ble_eq_true rfl) rfl (fun Y Q hQ => ?_)
    refine q_iconst (pc' := 1) _ dX4_isFreeBlock_0 rfl kk_iconst_1 (q_iload_n (pc' := 2) dX4_isFreeBlock_1 rfl rfl (q_ishl (pc' := 3) dX4_isFreeBlock_2 rfl (q_iconst (pc' := 4) _ dX4_isFreeBlock_3 rfl kk_iconst_1 (q_isub (pc' := 5) dX4_isFreeBlock_4 rfl ?_))))
    refine q_top (sh_m1 hn) ?_
    exact q_ist_4 (pc' := 7) dX4_isFreeBlock_5 rfl (by decide) rfl (q_aload_n (pc' := 8) dX4_isFreeBlock_7 rfl rfl (q_getR (pc' := 11) dX4_isFreeBlock_8 rfl fr_RX4_11 (okS hi hz (by decide) rfl) rfl (wS_4_2 hS) (sA_lt hi (by decide)) (q_iconst (pc' := 12) _ dX4_isFreeBlock_11 rfl kk_iconst_0 (q_aald (pc' := 13) (0) dX4_isFreeBlock_12 rfl (by first | exact ⟨by omega, rfl⟩ | exact okaS hi hz (by decide) rfl | assumption) (by first | exact Or.inl rfl | exact Or.inr rfl) (by (first | (simp only [nI_add, pk_mul]; done) | (simp only [nI_add, pk_mul]; exact nI_e (by omega)) | exact nI_e (by omega))) (by omega) (wS_row hS (by omega)) (sA_lt hi (by omega)) (q_iload_n (pc' := 14) dX4_isFreeBlock_13 rfl rfl (q_ialde (pc' := 15) (p) dX4_isFreeBlock_14 rfl (by first | exact ⟨by omega, rfl⟩ | exact okaS hi hz (by decide) rfl | assumption) (by (first | (simp only [nI_add, pk_mul]; done) | (simp only [nI_add, pk_mul]; exact nI_e (by omega)) | exact nI_e (by omega))) (by omega) (h.1 0 (by decide) p hp) (q_iload_n (pc' := 16) dX4_isFreeBlock_15 rfl rfl (q_iushr (pc' := 17) dX4_isFreeBlock_16 rfl (q_iload (pc' := 19) dX4_isFreeBlock_17 rfl rfl (q_iand (pc' := 20) dX4_isFreeBlock_19 rfl (q_iload (pc' := 22) dX4_isFreeBlock_20 rfl rfl (q_bl_icmp_ne (p4 := 30) dX4_isFreeBlock_22 dX4_isFreeBlock_25 dX4_isFreeBlock_26 dX4_isFreeBlock_29 rfl rfl rfl rfl rfl (q_zret dX4_isFreeBlock_30 rfl (by first | exact Or.inl rfl | exact Or.inr rfl | exact bI_01 _) hQ)))))))))))))
theorem rn_X4_firstBlock {p n : Nat} (hi : i < 21) (hS : mj_wS R i) (hb : cB I b) (hk : bOK b) (h : cRr I i b A) (hp : p < 8) (hn : 1 ≤ n ∧ n ≤ 8) : Rn w l yX4_firstBlock dd_X4_firstBlock [.ref (sA i 11), .int (nI p), .int (nI n)] (472, I, J, R) (some (.int (oB n (aBlk b A p n)))) (472, I, J, R) := by
  have hz : 50 + 20 * i ≤ 472 := by omega
  have hv2 := hk.2.1.2
  have hdiv := Nat.mul_div_le (b 0 1) n
  have hdv2 := Nat.lt_mul_div_succ (b 0 1) (show 0 < n by omega)
  refine rn_intro2 (L := [some (.ref (sA i 11)), some (.int (nI p)), some (.int (nI n)), none]) ⟨by decide, rfl, (fun h => by cases h)⟩ (Nat.le_refl _) (Nat.le_of_ble_eq_true rfl) rfl (fun Y Q hQ => ?_)
  have loop : ∀ m k, k + m = b 0 1 / n → ffi (aBl A p n) k m = aBlk b A p n → Wq dd_X4_firstBlock (mj_mk w l 472 Y) Q 2 [some (.ref (sA i 11)), some (.int (nI p)), some (.int (nI n)), some (.int (nI (n * k)))] [] (472, I, J, R) := by
    intro m
    induction m with
    | zero =>
      intro k hkm hf
      have hkz : k = b 0 1 / n := by omega
      have hnk : n * k + n = n * (b 0 1 / n + 1) := by rw [hkz, Nat.mul_add, Nat.mul_one]
      have hf2 : aBlk b A p n = none := hf.symm
      rw [hf2] at hQ
      refine q_iload_n (pc' := 3) dX4_firstBlock_2 rfl rfl (q_if_le (pc' := 6) (pt := 38) dX4_firstBlock_3 rfl rfl (fun h9 => absurd h9 (Int32.not_le.mpr (nI_lt (a := 0) (by omega) (by omega)))) (fun _ => (q_iload_n (pc' := 7) dX4_firstBlock_6 rfl rfl (q_iload_n (pc' := 8) dX4_firstBlock_7 rfl rfl (q_iadd (pc' := 9) dX4_firstBlock_8 rfl ?_)))))
      refine q_top (nI_add _ _) ?_
      exact q_aload_n (pc' := 10) dX4_firstBlock_9 rfl rfl (q_getR (pc' := 13) dX4_firstBlock_10 rfl fr_RX4_23 (okS hi hz (by decide) rfl) rfl (wS_4_0 hS) (by decide) (q_getIe (pc' := 16) dX4_firstBlock_13 rfl fr_RX4_78 (by first | assumption | exact ⟨by omega, rfl⟩) rfl (cB_1 hb) (q_icmp_gt (pc' := 19) (pt := 38) dX4_firstBlock_16 rfl rfl (fun _ => (q_iconst (pc' := 39) _ dX4_firstBlock_38 rfl kk_iconst_m1 (q_iret dX4_firstBlock_39 rfl hQ))) (fun h9 => absurd (nI_lt (by omega) (by
        have : n * k ≤ b 0 1 := by rw [hkz]; exact hdiv
        omega)) h9))))
    | succ m ih =>
      intro k hkm hf
      have hk1 : k + 1 ≤ b 0 1 / n := by omega
      have hnk : n * k + n ≤ b 0 1 := by
        have := Nat.mul_le_mul_left n hk1
        rw [Nat.mul_add, Nat.mul_one] at this
        omega
      unfold ffi at hf
      refine q_iload_n (pc' := 3) dX4_firstBlock_2 rfl rfl (q_if_le (pc' := 6) (pt := 38) dX4_firstBlock_3 rfl rfl (fun h9 => absurd h9 (Int32.not_le.mpr (nI_lt (a := 0) (by omega) (by omega)))) (fun _ => (q_iload_n (pc' := 7) dX4_firstBlock_6 rfl rfl (q_iload_n (pc' := 8) dX4_firstBlock_7 rfl rfl (q_iadd (pc' := 9) dX4_firstBlock_8 rfl ?_)))))
      refine q_top (nI_add _ _) ?_
      by_cases hc : aBl A p n k = true
      · rw [if_pos hc] at hf
        rw [← hf] at hQ
        exact q_aload_n (pc' := 10) dX4_firstBlock_9 rfl rfl (q_getR (pc' := 13) dX4_firstBlock_10 rfl fr_RX4_23 (okS hi hz (by decide) rfl) rfl (wS_4_0 hS) (by decide) (q_getIe (pc' := 16) dX4_firstBlock_13 rfl fr_RX4_78 (by first | assumption | exact ⟨by omega, rfl⟩) rfl (cB_1 hb) (q_icmp_gt (pc' := 19) (pt := 38) dX4_firstBlock_16 rfl rfl (fun h9 => absurd h9 (Int32.not_lt.mpr (nI_le hnk (by omega)))) (fun _ => (q_aload_n (pc' := 20) dX4_firstBlock_19 rfl rfl (q_iload_n (pc' := 21) dX4_firstBlock_20 rfl rfl (q_iload_n (pc' := 22) dX4_firstBlock_21 rfl rfl (q_iload_n (pc' := 23) dX4_firstBlock_22 rfl rfl (q_cVi (pc' := 26) dX4_firstBlock_23 rfl ml_RX4_81 yv_X4_isFreeBlock (by decide) (rn_X4_isFreeBlock hi hS hk h hp hn.2 hnk) (okS hi hz (by decide) rfl) rfl rfl (Nat.le_of_ble_eq_true rfl) (Nat.le_refl _) (q_ifb_eq (pc' := 29) (pt := 31) dX4_firstBlock_26 rfl rfl (fun h9 => Bool.noConfusion (Eq.trans (Eq.symm (hc)) h9)) (fun _ => (q_iload_n (pc' := 30) dX4_firstBlock_29 rfl rfl (q_iret dX4_firstBlock_30 rfl hQ)))))))))))))
      · rw [if_neg hc] at hf
        have next := ih (k + 1) (by omega) hf
        rw [Nat.mul_add, Nat.mul_one] at next
        refine q_aload_n (pc' := 10) dX4_firstBlock_9 rfl rfl (q_getR (pc' := 13) dX4_firstBlock_10 rfl fr_RX4_23 (okS hi hz (by decide) rfl) rfl (wS_4_0 hS) (by decide) (q_getIe (pc' := 16) dX4_firstBlock_13 rfl fr_RX4_78 (by first | assumption | exact ⟨by omega, rfl⟩) rfl (cB_1 hb) (q_icmp_gt (pc' := 19) (pt := 38) dX4_firstBlock_16 rfl rfl (fun h9 => absurd h9 (Int32.not_lt.mpr (nI_le hnk (by omega)))) (fun _ => (q_aload_n (pc' := 20) dX4_firstBlock_19 rfl rfl (q_iload_n (pc' := 21) dX4_firstBlock_20 rfl rfl (q_iload_n (pc' := 22) dX4_firstBlock_21 rfl rfl (q_iload_n (pc' := 23) dX4_firstBlock_22 rfl rfl (q_cVi (pc' := 26) dX4_firstBlock_23 rfl ml_RX4_81 yv_X4_isFreeBlock (by decide) (rn_X4_isFreeBlock hi hS hk h hp hn.2 hnk) (okS hi hz (by decide) rfl) rfl rfl (Nat.le_of_ble_eq_true rfl) (Nat.le_refl _) (q_ifb_eq (pc' := 29) (pt := 31) dX4_firstBlock_26 rfl rfl (fun _ => (q_iload_n (pc' := 32) dX4_firstBlock_31 rfl rfl (q_iload_n (pc' := 33) dX4_firstBlock_32 rfl rfl (q_iadd (pc' := 34) dX4_firstBlock_33 rfl ?_)))) (fun h9 => Bool.noConfusion (Eq.trans (Eq.symm (Bool.eq_false_iff.mpr hc)) h9))))))))))))
        refine q_top (nI_add _ _) ?_
        refine q_ist_3 (pc' := 35) dX4_firstBlock_34 rfl (by decide) rfl (q_goto (pc' := 2) dX4_firstBlock_35 rfl ?_)
        exact next
  refine q_iconst (pc' := 1) _ dX4_firstBlock_0 rfl kk_iconst_0 (q_ist_3 (pc' := 2) dX4_firstBlock_1 rfl (by decide) rfl ?_)
  exact loop (b 0 1 / n) 0 (by omega) rfl
theorem rn_X4_countBlocks {p n : Nat} (hi : i < 21) (hS : mj_wS R i) (hb : cB I b) (hk : bOK b) (h : cRr I i b A) (hp : p < 8) (hn : 1 ≤ n ∧ n ≤ 8) : Rn w l yX4_countBlocks dd_X4_countBlocks [.ref (sA i 11), .int (nI p), .int (nI n)] (472, I, J, R) (some (.int (nI (cntN (aBl A p n) (b 0 1 / n))))) (472, I, J, R) := by
  have hz : 50 + 20 * i ≤ 472 := by omega
  have hv2 := hk.2.1.2
  have hdiv := Nat.mul_div_le (b 0 1) n
  have hdv2 := Nat.lt_mul_div_succ (b 0 1) (show 0 < n by omega)
  refine rn_intro2 (L := [some (.ref (sA i 11)), some (.int (nI p)), some (.int (nI n)), none, none]) ⟨by decide, rfl, (fun h => by cases h)⟩ (Nat.le_refl _) (Nat.le_of_ble_eq_true rfl) rfl (fun Y Q hQ => ?_)
  have loop : ∀ m k, k + m = b 0 1 / n → Wq dd_X4_countBlocks (mj_mk w l 472 Y) Q 5 [some (.ref (sA i 11)), some (.int (nI p)), some (.int (nI n)), some (.int (nI (cntN (aBl A p n) k))), some (.int (nI (n * k)))] [] (472, I, J, R) := by
    intro m
    induction m with
    | zero =>
      intro k hkm
      have hkz : k = b 0 1 / n := by omega
      have hnk : n * k + n = n * (b 0 1 / n + 1) := by rw [hkz, Nat.mul_add, Nat.mul_one]
      have hle : n * k ≤ b 0 1 := by rw [hkz]; exact hdiv
      rw [← hkz] at hQ
      refine q_iload_n (pc' := 6) dX4_countBlocks_5 rfl rfl (q_if_le (pc' := 9) (pt := 51) dX4_countBlocks_6 rfl rfl (fun h9 => absurd h9 (Int32.not_le.mpr (nI_lt (a := 0) (by omega) (by omega)))) (fun _ => (q_iload (pc' := 11) dX4_countBlocks_9 rfl rfl (q_iload_n (pc' := 12) dX4_countBlocks_11 rfl rfl (q_iadd (pc' := 13) dX4_countBlocks_12 rfl ?_)))))
      refine q_top (nI_add _ _) ?_
      exact q_aload_n (pc' := 14) dX4_countBlocks_13 rfl rfl (q_getR (pc' := 17) dX4_countBlocks_14 rfl fr_RX4_23 (okS hi hz (by decide) rfl) rfl (wS_4_0 hS) (by decide) (q_getIe (pc' := 20) dX4_countBlocks_17 rfl fr_RX4_78 (by first | assumption | exact ⟨by omega, rfl⟩) rfl (cB_1 hb) (q_icmp_gt (pc' := 23) (pt := 51) dX4_countBlocks_20 rfl rfl (fun _ => (q_iload_n (pc' := 52) dX4_countBlocks_51 rfl rfl (q_iret dX4_countBlocks_52 rfl hQ))) (fun h9 => absurd (nI_lt (by omega) (by omega)) h9))))
    | succ m ih =>
      intro k hkm
      have hk1 : k + 1 ≤ b 0 1 / n := by omega
      have hnk : n * k + n ≤ b 0 1 := by
        have := Nat.mul_le_mul_left n hk1
        rw [Nat.mul_add, Nat.mul_one] at this
        omega
      have next := ih (k + 1) (by omega)
      rw [Nat.mul_add, Nat.mul_one] at next
      have ec : cntN (aBl A p n) (k + 1) = cntN (aBl A p n) k + (if aBl A p n k = true then 1 else 0) := rfl
      rw [ec] at next
      refine q_iload_n (pc' := 6) dX4_countBlocks_5 rfl rfl (q_if_le (pc' := 9) (pt := 51) dX4_countBlocks_6 rfl rfl (fun h9 => absurd h9 (Int32.not_le.mpr (nI_lt (a := 0) (by omega) (by omega)))) (fun _ => (q_iload (pc' := 11) dX4_countBlocks_9 rfl rfl (q_iload_n (pc' := 12) dX4_countBlocks_11 rfl rfl (q_iadd (pc' := 13) dX4_countBlocks_12 rfl ?_)))))
      refine q_top (nI_add _ _) ?_
      by_cases hc : aBl A p n k = true
      · rw [if_pos hc] at next
        refine q_aload_n (pc' := 14) dX4_countBlocks_13 rfl rfl (q_getR (pc' := 17) dX4_countBlocks_14 rfl fr_RX4_23 (okS hi hz (by decide) rfl) rfl (wS_4_0 hS) (by decide) (q_getIe (pc' := 20) dX4_countBlocks_17 rfl fr_RX4_78 (by first | assumption | exact ⟨by omega, rfl⟩) rfl (cB_1 hb) (q_icmp_gt (pc' := 23) (pt := 51) dX4_countBlocks_20 rfl rfl (fun h9 => absurd h9 (Int32.not_lt.mpr (nI_le hnk (by omega)))) (fun _ => (q_iload_n (pc' := 24) dX4_countBlocks_23 rfl rfl (q_aload_n (pc' := 25) dX4_countBlocks_24 rfl rfl (q_iload_n (pc' := 26) dX4_countBlocks_25 rfl rfl (q_iload (pc' := 28) dX4_countBlocks_26 rfl rfl (q_iload_n (pc' := 29) dX4_countBlocks_28 rfl rfl (q_cVi (pc' := 32) dX4_countBlocks_29 rfl ml_RX4_81 yv_X4_isFreeBlock (by decide) (rn_X4_isFreeBlock hi hS hk h hp hn.2 hnk) (okS hi hz (by decide) rfl) rfl rfl (Nat.le_of_ble_eq_true rfl) (Nat.le_refl _) (q_ifb_eq (pc' := 35) (pt := 39) dX4_countBlocks_32 rfl rfl (fun h9 => Bool.noConfusion (Eq.trans (Eq.symm (hc)) h9)) (fun _ => (q_iconst (pc' := 36) _ dX4_countBlocks_35 rfl kk_iconst_1 (q_goto (pc' := 40) dX4_countBlocks_36 rfl ?_))))))))))))))
        refine q_iadd dX4_countBlocks_40 rfl ?_
        refine q_top (nI_add _ 1) ?_
        refine q_ist_3 (pc' := 42) dX4_countBlocks_41 rfl (by decide) rfl (q_iload (pc' := 44) dX4_countBlocks_42 rfl rfl (q_iload_n (pc' := 45) dX4_countBlocks_44 rfl rfl (q_iadd (pc' := 46) dX4_countBlocks_45 rfl ?_)))
        refine q_top (nI_add _ _) ?_
        refine q_ist_4 (pc' := 48) dX4_countBlocks_46 rfl (by decide) rfl (q_goto (pc' := 5) dX4_countBlocks_48 rfl ?_)
        exact next
      · rw [if_neg hc] at next
        refine q_aload_n (pc' := 14) dX4_countBlocks_13 rfl rfl (q_getR (pc' := 17) dX4_countBlocks_14 rfl fr_RX4_23 (okS hi hz (by decide) rfl) rfl (wS_4_0 hS) (by decide) (q_getIe (pc' := 20) dX4_countBlocks_17 rfl fr_RX4_78 (by first | assumption | exact ⟨by omega, rfl⟩) rfl (cB_1 hb) (q_icmp_gt (pc' := 23) (pt := 51) dX4_countBlocks_20 rfl rfl (fun h9 => absurd h9 (Int32.not_lt.mpr (nI_le hnk (by omega)))) (fun _ => (q_iload_n (pc' := 24) dX4_countBlocks_23 rfl rfl (q_aload_n (pc' := 25) dX4_countBlocks_24 rfl rfl (q_iload_n (pc' := 26) dX4_countBlocks_25 rfl rfl (q_iload (pc' := 28) dX4_countBlocks_26 rfl rfl (q_iload_n (pc' := 29) dX4_countBlocks_28 rfl rfl (q_cVi (pc' := 32) dX4_countBlocks_29 rfl ml_RX4_81 yv_X4_isFreeBlock (by decide) (rn_X4_isFreeBlock hi hS hk h hp hn.2 hnk) (okS hi hz (by decide) rfl) rfl rfl (Nat.le_of_ble_eq_true rfl) (Nat.le_refl _) (q_ifb_eq (pc' := 35) (pt := 39) dX4_countBlocks_32 rfl rfl (fun _ => (q_iconst (pc' := 40) _ dX4_countBlocks_39 rfl kk_iconst_0 ?_)) (fun h9 => Bool.noConfusion (Eq.trans (Eq.symm (Bool.eq_false_iff.mpr hc)) h9)))))))))))))
        refine q_iadd dX4_countBlocks_40 rfl ?_
        refine q_top (nI_add _ 0) ?_
        refine q_ist_3 (pc' := 42) dX4_countBlocks_41 rfl (by decide) rfl (q_iload (pc' := 44) dX4_countBlocks_42 rfl rfl (q_iload_n (pc' := 45) dX4_countBlocks_44 rfl rfl (q_iadd (pc' := 46) dX4_countBlocks_45 rfl ?_)))
        refine q_top (nI_add _ _) ?_
        refine q_ist_4 (pc' := 48) dX4_countBlocks_46 rfl (by decide) rfl (q_goto (pc' := 5) dX4_countBlocks_48 rfl ?_)
        exact next
  refine q_iconst (pc' := 1) _ dX4_countBlocks_0 rfl kk_iconst_0 (q_ist_3 (pc' := 2) dX4_countBlocks_1 rfl (by decide) rfl (q_iconst (pc' := 3) _ dX4_countBlocks_2 rfl kk_iconst_0 (q_ist_4 (pc' := 5) dX4_countBlocks_3 rfl (by decide) rfl ?_)))
  exact loop (b 0 1 / n) 0 (by omega)
theorem rn_X4_greatestBlock {p : Nat} (hi : i < 21) (hS : mj_wS R i) (hb : cB I b) (hk : bOK b) (h : cRr I i b A) (hp : p < 8) : Rn w l yX4_greatestBlock dd_X4_greatestBlock [.ref (sA i 11), .int (nI p)] (472, I, J, R) (some (.int (nI (aGreat b A p)))) (472, I, J, R) := by
  have hz : 50 + 20 * i ≤ 472 := by omega
  have hv2 := hk.2.1
  have nn : ∀ n, 1 ≤ n → oB n (aBlk b A p n) = -1 → (aBlk b A p n).isSome = false := fun n hn h => by
    rw [(oB_none (fun i hi => by have := aBlk_lt hn hi; omega)).mp h]; rfl
  have ss : ∀ n, oB n (aBlk b A p n) ≠ -1 → (aBlk b A p n).isSome = true := fun n h => by
    cases hz : aBlk b A p n with
    | none => rw [hz] at h; exact absurd rfl h
    | some i => rfl
  unfold aGreat
  refine rn_intro2 (L := [some (.ref (sA i 11)), some (.int (nI p)), none]) ⟨by decide, rfl, (fun h => by cases h)⟩ (Nat.le_refl _) (Nat.le_of_ble_eq_true rfl) rfl (fun Y Q hQ => ?_)
  refine q_bipush (pc' := 2) _ dX4_greatestBlock_0 rfl kk_bipush_8 (q_ist_2 (pc' := 3) dX4_greatestBlock_2 rfl (by decide) rfl (q_iload_n (pc' := 4) dX4_greatestBlock_3 rfl rfl (q_iconst (pc' := 5) _ dX4_greatestBlock_4 rfl kk_iconst_1 (q_icmp_lt (pc' := 8) (pt := 27) dX4_greatestBlock_5 rfl rfl (fun h9 => absurd h9 (by decide)) (fun _ => (q_aload_n (pc' := 9) dX4_greatestBlock_8 rfl rfl (q_iload_n (pc' := 10) dX4_greatestBlock_9 rfl rfl (q_iload_n (pc' := 11) dX4_greatestBlock_10 rfl rfl (q_cVi (pc' := 14) dX4_greatestBlock_11 rfl ml_RX4_85 yv_X4_firstBlock (by decide) (rn_X4_firstBlock hi hS hb hk h hp ⟨by decide, by decide⟩) (okS hi hz (by decide) rfl) rfl rfl (Nat.le_of_ble_eq_true rfl) (Nat.le_refl _) (q_iconst (pc' := 15) _ dX4_greatestBlock_14 rfl kk_iconst_m1 (q_icmp_eq (pc' := 18) (pt := 20) dX4_greatestBlock_15 rfl rfl (fun h1 => ?_) (fun h1 => ?_))))))))))))
  · rw [if_neg (by rw [nn 8 (by decide) h1]; decide)] at hQ
    refine q_iload_n (pc' := 21) dX4_greatestBlock_20 rfl rfl (q_iconst (pc' := 22) _ dX4_greatestBlock_21 rfl kk_iconst_2 (q_idiv (pc' := 23) dX4_greatestBlock_22 rfl (by decide) ?_))
    refine q_top (y := nI 4) (by decide) ?_
    refine q_ist_2 (pc' := 24) dX4_greatestBlock_23 rfl (by decide) rfl (q_goto (pc' := 3) dX4_greatestBlock_24 rfl (q_iload_n (pc' := 4) dX4_greatestBlock_3 rfl rfl (q_iconst (pc' := 5) _ dX4_greatestBlock_4 rfl kk_iconst_1 (q_icmp_lt (pc' := 8) (pt := 27) dX4_greatestBlock_5 rfl rfl (fun h9 => absurd h9 (by decide)) (fun _ => (q_aload_n (pc' := 9) dX4_greatestBlock_8 rfl rfl (q_iload_n (pc' := 10) dX4_greatestBlock_9 rfl rfl (q_iload_n (pc' := 11) dX4_greatestBlock_10 rfl rfl (q_cVi (pc' := 14) dX4_greatestBlock_11 rfl ml_RX4_85 yv_X4_firstBlock (by decide) (rn_X4_firstBlock hi hS hb hk h hp ⟨by decide, by decide⟩) (okS hi hz (by decide) rfl) rfl rfl (Nat.le_of_ble_eq_true rfl) (Nat.le_refl _) (q_iconst (pc' := 15) _ dX4_greatestBlock_14 rfl kk_iconst_m1 (q_icmp_eq (pc' := 18) (pt := 20) dX4_greatestBlock_15 rfl rfl (fun h2 => ?_) (fun h2 => ?_))))))))))))
    · rw [if_neg (by rw [nn 4 (by decide) h2]; decide)] at hQ
      refine q_iload_n (pc' := 21) dX4_greatestBlock_20 rfl rfl (q_iconst (pc' := 22) _ dX4_greatestBlock_21 rfl kk_iconst_2 (q_idiv (pc' := 23) dX4_greatestBlock_22 rfl (by decide) ?_))
      refine q_top (y := nI 2) (by decide) ?_
      refine q_ist_2 (pc' := 24) dX4_greatestBlock_23 rfl (by decide) rfl (q_goto (pc' := 3) dX4_greatestBlock_24 rfl (q_iload_n (pc' := 4) dX4_greatestBlock_3 rfl rfl (q_iconst (pc' := 5) _ dX4_greatestBlock_4 rfl kk_iconst_1 (q_icmp_lt (pc' := 8) (pt := 27) dX4_greatestBlock_5 rfl rfl (fun h9 => absurd h9 (by decide)) (fun _ => (q_aload_n (pc' := 9) dX4_greatestBlock_8 rfl rfl (q_iload_n (pc' := 10) dX4_greatestBlock_9 rfl rfl (q_iload_n (pc' := 11) dX4_greatestBlock_10 rfl rfl (q_cVi (pc' := 14) dX4_greatestBlock_11 rfl ml_RX4_85 yv_X4_firstBlock (by decide) (rn_X4_firstBlock hi hS hb hk h hp ⟨by decide, by decide⟩) (okS hi hz (by decide) rfl) rfl rfl (Nat.le_of_ble_eq_true rfl) (Nat.le_refl _) (q_iconst (pc' := 15) _ dX4_greatestBlock_14 rfl kk_iconst_m1 (q_icmp_eq (pc' := 18) (pt := 20) dX4_greatestBlock_15 rfl rfl (fun h3 => ?_) (fun h3 => ?_))))))))))))
      · rw [if_neg (by rw [nn 2 (by decide) h3]; decide)] at hQ
        refine q_iload_n (pc' := 21) dX4_greatestBlock_20 rfl rfl (q_iconst (pc' := 22) _ dX4_greatestBlock_21 rfl kk_iconst_2 (q_idiv (pc' := 23) dX4_greatestBlock_22 rfl (by decide) ?_))
        refine q_top (y := nI 1) (by decide) ?_
        refine q_ist_2 (pc' := 24) dX4_greatestBlock_23 rfl (by decide) rfl (q_goto (pc' := 3) dX4_greatestBlock_24 rfl (q_iload_n (pc' := 4) dX4_greatestBlock_3 rfl rfl (q_iconst (pc' := 5) _ dX4_greatestBlock_4 rfl kk_iconst_1 (q_icmp_lt (pc' := 8) (pt := 27) dX4_greatestBlock_5 rfl rfl (fun h9 => absurd h9 (by decide)) (fun _ => (q_aload_n (pc' := 9) dX4_greatestBlock_8 rfl rfl (q_iload_n (pc' := 10) dX4_greatestBlock_9 rfl rfl (q_iload_n (pc' := 11) dX4_greatestBlock_10 rfl rfl (q_cVi (pc' := 14) dX4_greatestBlock_11 rfl ml_RX4_85 yv_X4_firstBlock (by decide) (rn_X4_firstBlock hi hS hb hk h hp ⟨by decide, by decide⟩) (okS hi hz (by decide) rfl) rfl rfl (Nat.le_of_ble_eq_true rfl) (Nat.le_refl _) (q_iconst (pc' := 15) _ dX4_greatestBlock_14 rfl kk_iconst_m1 (q_icmp_eq (pc' := 18) (pt := 20) dX4_greatestBlock_15 rfl rfl (fun h4 => ?_) (fun h4 => ?_))))))))))))
        · rw [if_neg (by rw [nn 1 (by decide) h4]; decide)] at hQ
          refine q_iload_n (pc' := 21) dX4_greatestBlock_20 rfl rfl (q_iconst (pc' := 22) _ dX4_greatestBlock_21 rfl kk_iconst_2 (q_idiv (pc' := 23) dX4_greatestBlock_22 rfl (by decide) ?_))
          refine q_top (y := nI 0) (by decide) ?_
          exact q_ist_2 (pc' := 24) dX4_greatestBlock_23 rfl (by decide) rfl (q_goto (pc' := 3) dX4_greatestBlock_24 rfl (q_iload_n (pc' := 4) dX4_greatestBlock_3 rfl rfl (q_iconst (pc' := 5) _ dX4_greatestBlock_4 rfl kk_iconst_1 (q_icmp_lt (pc' := 8) (pt := 27) dX4_greatestBlock_5 rfl rfl (fun _ => (q_iconst (pc' := 28) _ dX4_greatestBlock_27 rfl kk_iconst_0 (q_iret dX4_greatestBlock_28 rfl hQ))) (fun h9 => absurd (by decide) h9)))))
        · exact q_iload_n (pc' := 19) dX4_greatestBlock_18 rfl rfl (q_iret dX4_greatestBlock_19 rfl (by rw [if_pos (ss 1 h4)] at hQ; exact hQ))
      · exact q_iload_n (pc' := 19) dX4_greatestBlock_18 rfl rfl (q_iret dX4_greatestBlock_19 rfl (by rw [if_pos (ss 2 h3)] at hQ; exact hQ))
    · exact q_iload_n (pc' := 19) dX4_greatestBlock_18 rfl rfl (q_iret dX4_greatestBlock_19 rfl (by rw [if_pos (ss 4 h2)] at hQ; exact hQ))
  · exact q_iload_n (pc' := 19) dX4_greatestBlock_18 rfl rfl (q_iret dX4_greatestBlock_19 rfl (by rw [if_pos (ss 8 h1)] at hQ; exact hQ))
end ROWS2
