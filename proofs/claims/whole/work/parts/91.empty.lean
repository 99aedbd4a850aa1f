/-! ===== the class: states made empty ===== -/
theorem bitN_F {P : Nat → Bool} {n : Nat} (h : ∀ k, k < n → P k = false) : bitN P n = 0 := by
  apply Nat.eq_of_testBit_eq
  intro k
  rw [bitN_bit, Nat.zero_testBit]
  by_cases hk : k < n
  · rw [h k hk, Bool.and_false]
  · simp [hk]
theorem bitN_selfN {n k : Nat} (h : k < 2 ^ n) : bitN (fun v => k.testBit v) n = k := by
  apply Nat.eq_of_testBit_eq
  intro j
  rw [bitN_bit]
  by_cases hj : j < n
  · simp [hj]
  · have : k.testBit j = false := Nat.testBit_lt_two_pow (Nat.lt_of_lt_of_le h (Nat.pow_le_pow_right (by decide) (by omega)))
    simp [hj, this]
theorem but_e {n k : Nat} : nI (2 ^ n - 1) &&& (nI k ^^^ (-1)) = nI (bitN (fun v => !k.testBit v) n) := by
  apply Int32.toBitVec_inj.mp
  rw [Int32.toBitVec_and, Int32.toBitVec_xor]
  show BitVec.ofNat 32 (2 ^ n - 1) &&& (BitVec.ofNat 32 k ^^^ (-1 : Int32).toBitVec) = BitVec.ofNat 32 (bitN (fun v => !k.testBit v) n)
  have e1 : (-1 : Int32).toBitVec = BitVec.allOnes 32 := by decide
  rw [e1]
  apply BitVec.eq_of_getLsbD_eq
  intro j hj
  rw [BitVec.getLsbD_and, BitVec.getLsbD_xor, BitVec.getLsbD_ofNat, BitVec.getLsbD_ofNat, BitVec.getLsbD_ofNat, BitVec.getLsbD_allOnes, bitN_bit, Nat.testBit_two_pow_sub_one]
  simp only [hj, decide_true, Bool.true_and, Bool.xor_true]
theorem new0 {b : St} {p v : Nat} (hv : v < 32) : aNew b 0 (32 * p + v) = if (b 0 3).testBit v = true then 1 else 0 := by
  unfold aNew
  rw [if_pos rfl, show (32 * p + v) % 32 = v by omega]
theorem newT0 {b : St} {p : Nat} (hk : bOK b) : cT b (aNew b) p 0 = bitN (fun v => !(b 0 3).testBit v) (b 0 1) := by
  have hv := hk.2.1.2
  unfold cT
  refine bitN_cong (fun v hv2 => ?_)
  rw [new0 (by omega)]
  cases (b 0 3).testBit v <;> rfl
theorem newT1 {b : St} {p : Nat} (hk : bOK b) (h3 : b 0 3 < 2 ^ b 0 1) : cT b (aNew b) p 1 = b 0 3 := by
  have hv := hk.2.1.2
  refine Eq.trans ?_ (bitN_selfN h3)
  unfold cT
  refine bitN_cong (fun v hv2 => ?_)
  rw [new0 (by omega)]
  cases (b 0 3).testBit v <;> rfl
theorem newT2 {b : St} {p s : Nat} (hk : bOK b) (hs : 2 ≤ s) : cT b (aNew b) p s = 0 := by
  have hv := hk.2.1.2
  refine bitN_F (fun v hv2 => ?_)
  rw [new0 (by omega)]
  refine beq_eq_false_iff_ne.mpr ?_
  by_cases h : (b 0 3).testBit v = true
  · rw [if_pos h]; omega
  · rw [if_neg h]; omega
theorem newPe {b : St} {p : Nat} : cPe b (aNew b) p = 0 := bitN_F (fun _ _ => rfl)
theorem newOn {b : St} : cOn b (aNew b) = bitN (fun v => !(b 0 4).testBit v) (b 0 0) := by
  unfold cOn
  refine bitN_cong (fun p hp => ?_)
  have e : aNew b 9 p = if p < b 0 0 ∧ (b 0 4).testBit p = false then 1 else 0 := rfl
  rw [e]
  cases h : (b 0 4).testBit p
  · rw [if_pos ⟨hp, rfl⟩]; rfl
  · rw [if_neg (fun q => by cases q.2)]; rfl
section EMPTY
variable {w : mj_Wd} {l : Launch} {I : mj_M} {J : mj_J} {R : mj_R} {b A : St} {i z : Nat}
theorem rn_X0_allCpusZ (h4 : 50 ≤ z) (hb : cB I b) (hk : bOK b) : Rn w l yX0_allCpus dd_X0_allCpus [.ref 4] (z, I, J, R) (some (.int (nI (2 ^ b 0 0 - 1)))) (z, I, J, R) := by
  have h8 := hk.1.2
  refine rn_intro2 (L := [some (.ref 4)]) ⟨by decide, rfl, (fun h => by cases h)⟩ (Nat.le_refl _) (Nat.le_of_ble_eq_true rfl) rfl (fun Y Q hQ => ?_)
  refine q_iconst (pc' := 1) _ dX0_allCpus_0 rfl kk_iconst_1 (q_aload_n (pc' := 2) dX0_allCpus_1 rfl rfl (q_getIe (pc' := 5) dX0_allCpus_2 rfl fr_RX0_31 (by first | assumption | exact ⟨by omega, rfl⟩) rfl (cB_0 hb) (q_ishl (pc' := 6) dX0_allCpus_5 rfl (q_iconst (pc' := 7) _ dX0_allCpus_6 rfl kk_iconst_1 (q_isub (pc' := 8) dX0_allCpus_7 rfl ?_)))))
  refine q_top (sh_m1 h8) ?_
  exact q_iret dX0_allCpus_8 rfl hQ
theorem sh_m32 : ∀ n, n < 32 → (nI 1 <<< (nI n &&& 31)) - nI 1 = nI (2 ^ n - 1) := by decide +kernel
theorem rn_X0_allVectors (h4 : 50 ≤ z) (hb : cB I b) (hk : bOK b) : Rn w l yX0_allVectors dd_X0_allVectors [.ref 4] (z, I, J, R) (some (.int (nI (2 ^ b 0 1 - 1)))) (z, I, J, R) := by
  have h8 := hk.2.1.2
  refine rn_intro2 (L := [some (.ref 4)]) ⟨by decide, rfl, (fun h => by cases h)⟩ (Nat.le_refl _) (Nat.le_of_ble_eq_true rfl) rfl (fun Y Q hQ => ?_)
  by_cases hv : b 0 1 < 32
  · refine q_aload_n (pc' := 1) dX0_allVectors_0 rfl rfl (q_getIe (pc' := 4) dX0_allVectors_1 rfl fr_RX0_35 (by first | assumption | exact ⟨by omega, rfl⟩) rfl (cB_1 hb) (q_bipush (pc' := 6) _ dX0_allVectors_4 rfl kk_bipush_32 (q_icmp_lt (pc' := 9) (pt := 13) dX0_allVectors_6 rfl rfl (fun _ => (q_iconst (pc' := 14) _ dX0_allVectors_13 rfl kk_iconst_1 (q_aload_n (pc' := 15) dX0_allVectors_14 rfl rfl (q_getIe (pc' := 18) dX0_allVectors_15 rfl fr_RX0_35 (by first | assumption | exact ⟨by omega, rfl⟩) rfl (cB_1 hb) (q_ishl (pc' := 19) dX0_allVectors_18 rfl (q_iconst (pc' := 20) _ dX0_allVectors_19 rfl kk_iconst_1 (q_isub (pc' := 21) dX0_allVectors_20 rfl ?_))))))) (fun h9 => absurd (nI_lt hv (by decide)) h9))))
    refine q_top (sh_m32 _ hv) ?_
    exact q_iret dX0_allVectors_21 rfl hQ
  · have e : b 0 1 = 32 := by omega
    rw [e] at hQ
    refine q_aload_n (pc' := 1) dX0_allVectors_0 rfl rfl (q_getIe (pc' := 4) dX0_allVectors_1 rfl fr_RX0_35 (by first | assumption | exact ⟨by omega, rfl⟩) rfl (cB_1 hb) (q_bipush (pc' := 6) _ dX0_allVectors_4 rfl kk_bipush_32 (q_icmp_lt (pc' := 9) (pt := 13) dX0_allVectors_6 rfl rfl (fun h9 => absurd h9 (nI_nlt (by omega) (by omega))) (fun _ => (q_iconst (pc' := 10) _ dX0_allVectors_9 rfl kk_iconst_m1 (q_goto (pc' := 21) dX0_allVectors_10 rfl ?_))))))
    refine q_top (show (-1 : Int32) = nI (2 ^ 32 - 1) by decide) ?_
    exact q_iret dX0_allVectors_21 rfl hQ
theorem rs_X4_empty (hi : i < 21) (hz : 50 + 20 * i ≤ z) (hS : mj_wS R i) (hb : cB I b) (hk : bOK b) (h3 : b 0 3 < 2 ^ b 0 1) : RsV w l yX4_empty dd_X4_empty [.ref (sA i 11)] (z, I, J, R) (fun I' => cRr I' i b (aNew b) ∧ mSc i 11 I I') := by
  have hkp : ∀ I1, mS i I I1 → I1 4 2 = nI (b 0 3) := fun I1 hm => cB_2 (cB_S hm hb)
  have hof : ∀ I1, mS i I I1 → I1 4 3 = nI (b 0 4) := fun I1 hm => cB_3 (cB_S hm hb)
  refine rt_intro2 (L := [some (.ref (sA i 11)), none]) ⟨by decide, rfl, (fun h => by cases h)⟩ (Nat.le_of_ble_eq_true rfl) rfl (fun Y Q hQ => ?_)
  have loop : ∀ m k I1, k + m = 8 → mSc i 11 I I1 → (∀ q, q < k → (∀ s, s < 5 → I1 (sA i (13 + s)) q = nI (cT b (aNew b) q s)) ∧ I1 (sA i 18) q = nI 0) → Wq dd_X4_empty (mj_mk w l z Y) Q 2 [some (.ref (sA i 11)), some (.int (nI k))] [] (z, I1, J, R) := by
    intro m
    induction m with
    | zero =>
      intro k I1 hkm hm hq
      have hk8 : k = 8 := by omega
      subst hk8
      have hm' := hm.s
      have hm2 : mS i I (mj_cp I1 (sA i 19) 256 (fun _ => -1)) := hm'.tr (fun a ha => cp_ne (ha 19 (by decide)))
      refine q_iload_n (pc' := 3) dX4_empty_2 rfl rfl (q_bipush (pc' := 5) _ dX4_empty_3 rfl kk_bipush_8 (q_icmp_ge (pc' := 8) (pt := 88) dX4_empty_5 rfl rfl (fun _ => (q_aload_n (pc' := 89) dX4_empty_88 rfl rfl (q_getR (pc' := 92) dX4_empty_89 rfl fr_RX4_20 (okS hi hz (by decide) rfl) rfl (wS_4_4 hS) (sA_lt hi (by decide)) (q_iconst (pc' := 93) _ dX4_empty_92 rfl kk_iconst_m1 (q_cSv (pc' := 96) dX4_empty_93 rfl ml_RX4_37 ys_J7_fill_53178 (by decide) (rn_fill (okaS hi hz (by decide) rfl) (by decide)) rfl rfl (Nat.le_of_ble_eq_true rfl) (Nat.le_refl _) (q_aload_n (pc' := 97) dX4_empty_96 rfl rfl (q_aload_n (pc' := 98) dX4_empty_97 rfl rfl (q_getR (pc' := 101) dX4_empty_98 rfl fr_RX4_23 (okS hi hz (by decide) rfl) rfl (wS_4_0 hS) (by decide) (q_cVi (pc' := 104) dX4_empty_101 rfl ml_RX4_43 yv_X0_allCpus (by decide) (rn_X0_allCpusZ (by omega) (cB_S hm2 hb) hk) (by first | assumption | exact ⟨by omega, rfl⟩) rfl rfl (Nat.le_of_ble_eq_true rfl) (Nat.le_refl _) (q_aload_n (pc' := 105) dX4_empty_104 rfl rfl (q_getR (pc' := 108) dX4_empty_105 rfl fr_RX4_23 (okS hi hz (by decide) rfl) rfl (wS_4_0 hS) (by decide) (q_getIe (pc' := 111) dX4_empty_108 rfl fr_RX4_46 (by first | assumption | exact ⟨by omega, rfl⟩) rfl (hof _ hm2) ?_)))))))))))) (fun h9 => absurd (by (first | assumption | exact nI_le (by omega) (by omega) | exact nI_ge (by omega) (by omega) | exact nI_lt (by omega) (by omega) | exact nI_nlt (by omega) (by omega) | exact nI_ne (by omega) (by omega) (by omega) | exact nI_e (by omega) | decide)) h9)))
      refine q_iconst (pc' := 112) _ dX4_empty_111 rfl kk_iconst_m1 (q_ixor (pc' := 113) dX4_empty_112 rfl (q_iand (pc' := 114) dX4_empty_113 rfl ?_))
      refine q_top (but_e) ?_
      rw [← newOn]
      refine q_putI (pc' := 117) dX4_empty_114 rfl fl_RX4_49 (okS hi hz (by decide) rfl) rfl ?_
      refine q_vret dX4_empty_117 rfl (hQ _ _ _ _ ⟨rfl, ⟨rfl, rfl⟩, ⟨fun s hs p hp => ?_, fun p hp => ?_, fun k hk2 => ?_, mj_up_eq⟩, fun a ha => ?_⟩)
      · rw [mj_up_ne (sA_ne (by omega)), cp_ne (sA_ne (by omega))]; exact (hq p hp).1 s hs
      · rw [mj_up_ne (sA_ne (by decide)), cp_ne (sA_ne (by decide)), (hq p hp).2, newPe]
      · rw [mj_up_ne (sA_ne (by decide)), cp_in hk2]; rfl
      · rw [up_fI (ha 11 (by decide) (by decide)), cp_ne (ha 19 (by decide) (by decide))]; exact hm a ha
    | succ m ih =>
      intro k I1 hkm hm hq
      have hm' := hm.s
      have hk8 : k < 8 := by omega
      refine q_iload_n (pc' := 3) dX4_empty_2 rfl rfl (q_bipush (pc' := 5) _ dX4_empty_3 rfl kk_bipush_8 (q_icmp_ge (pc' := 8) (pt := 88) dX4_empty_5 rfl rfl (fun h9 => absurd h9 (by (first | assumption | exact nI_le (by omega) (by omega) | exact nI_ge (by omega) (by omega) | exact nI_lt (by omega) (by omega) | exact nI_nlt (by omega) (by omega) | exact nI_ne (by omega) (by omega) (by omega) | exact nI_e (by omega) | decide))) (fun _ => (q_aload_n (pc' := 9) dX4_empty_8 rfl rfl (q_getR (pc' := 12) dX4_empty_9 rfl fr_RX4_11 (okS hi hz (by decide) rfl) rfl (wS_4_2 hS) (sA_lt hi (by decide)) (q_iconst (pc' := 13) _ dX4_empty_12 rfl kk_iconst_0 (q_aald (pc' := 14) (0) dX4_empty_13 rfl (by first | exact ⟨by omega, rfl⟩ | exact okaS hi hz (by decide) rfl | assumption) (by first | exact Or.inl rfl | exact Or.inr rfl) (by (first | (simp only [nI_add, pk_mul]; done) | (simp only [nI_add, pk_mul]; exact nI_e (by omega)) | exact nI_e (by omega))) (by omega) (wS_row hS (by omega)) (sA_lt hi (by omega)) (q_iload_n (pc' := 15) dX4_empty_14 rfl rfl (q_aload_n (pc' := 16) dX4_empty_15 rfl rfl (q_getR (pc' := 19) dX4_empty_16 rfl fr_RX4_23 (okS hi hz (by decide) rfl) rfl (wS_4_0 hS) (by decide) (q_cVi (pc' := 22) dX4_empty_19 rfl ml_RX4_27 yv_X0_allVectors (by decide) (rn_X0_allVectors (by omega) (cB_S hm' hb) hk) (by first | assumption | exact ⟨by omega, rfl⟩) rfl rfl (Nat.le_of_ble_eq_true rfl) (Nat.le_refl _) (q_aload_n (pc' := 23) dX4_empty_22 rfl rfl (q_getR (pc' := 26) dX4_empty_23 rfl fr_RX4_23 (okS hi hz (by decide) rfl) rfl (wS_4_0 hS) (by decide) (q_getIe (pc' := 29) dX4_empty_26 rfl fr_RX4_33 (by first | assumption | exact ⟨by omega, rfl⟩) rfl (hkp _ hm') ?_))))))))))))))
      refine q_iconst (pc' := 30) _ dX4_empty_29 rfl kk_iconst_m1 (q_ixor (pc' := 31) dX4_empty_30 rfl (q_iand (pc' := 32) dX4_empty_31 rfl ?_))
      refine q_top (but_e) ?_
      rw [← newT0 (p := k) hk]
      refine q_iast (pc' := 33) (k) dX4_empty_32 rfl (by first | exact ⟨by omega, rfl⟩ | exact okaS hi hz (by decide) rfl | assumption) (by (first | (simp only [nI_add, pk_mul]; done) | (simp only [nI_add, pk_mul]; exact nI_e (by omega)) | exact nI_e (by omega))) (by omega) (q_aload_n (pc' := 34) dX4_empty_33 rfl rfl (q_getR (pc' := 37) dX4_empty_34 rfl fr_RX4_11 (okS hi hz (by decide) rfl) rfl (wS_4_2 hS) (sA_lt hi (by decide)) (q_iconst (pc' := 38) _ dX4_empty_37 rfl kk_iconst_1 (q_aald (pc' := 39) (1) dX4_empty_38 rfl (by first | exact ⟨by omega, rfl⟩ | exact okaS hi hz (by decide) rfl | assumption) (by first | exact Or.inl rfl | exact Or.inr rfl) (by (first | (simp only [nI_add, pk_mul]; done) | (simp only [nI_add, pk_mul]; exact nI_e (by omega)) | exact nI_e (by omega))) (by omega) (wS_row hS (by omega)) (sA_lt hi (by omega)) (q_iload_n (pc' := 40) dX4_empty_39 rfl rfl (q_aload_n (pc' := 41) dX4_empty_40 rfl rfl (q_getR (pc' := 44) dX4_empty_41 rfl fr_RX4_23 (okS hi hz (by decide) rfl) rfl (wS_4_0 hS) (by decide) (q_getIe (pc' := 47) dX4_empty_44 rfl fr_RX4_33 (by first | assumption | exact ⟨by omega, rfl⟩) rfl (hkp _ (hm'.tr (mS_up (by decide)))) ?_))))))))
      refine q_top (congrArg nI (newT1 (p := k) hk h3).symm) ?_
      refine q_iast (pc' := 48) (k) dX4_empty_47 rfl (by first | exact ⟨by omega, rfl⟩ | exact okaS hi hz (by decide) rfl | assumption) (by (first | (simp only [nI_add, pk_mul]; done) | (simp only [nI_add, pk_mul]; exact nI_e (by omega)) | exact nI_e (by omega))) (by omega) (q_aload_n (pc' := 49) dX4_empty_48 rfl rfl (q_getR (pc' := 52) dX4_empty_49 rfl fr_RX4_11 (okS hi hz (by decide) rfl) rfl (wS_4_2 hS) (sA_lt hi (by decide)) (q_iconst (pc' := 53) _ dX4_empty_52 rfl kk_iconst_2 (q_aald (pc' := 54) (2) dX4_empty_53 rfl (by first | exact ⟨by omega, rfl⟩ | exact okaS hi hz (by decide) rfl | assumption) (by first | exact Or.inl rfl | exact Or.inr rfl) (by (first | (simp only [nI_add, pk_mul]; done) | (simp only [nI_add, pk_mul]; exact nI_e (by omega)) | exact nI_e (by omega))) (by omega) (wS_row hS (by omega)) (sA_lt hi (by omega)) (q_iload_n (pc' := 55) dX4_empty_54 rfl rfl (q_iconst (pc' := 56) _ dX4_empty_55 rfl kk_iconst_0 ?_))))))
      refine q_top (congrArg nI (newT2 (p := k) (s := 2) hk (by decide)).symm) ?_
      refine q_iast (pc' := 57) (k) dX4_empty_56 rfl (by first | exact ⟨by omega, rfl⟩ | exact okaS hi hz (by decide) rfl | assumption) (by (first | (simp only [nI_add, pk_mul]; done) | (simp only [nI_add, pk_mul]; exact nI_e (by omega)) | exact nI_e (by omega))) (by omega) (q_aload_n (pc' := 58) dX4_empty_57 rfl rfl (q_getR (pc' := 61) dX4_empty_58 rfl fr_RX4_11 (okS hi hz (by decide) rfl) rfl (wS_4_2 hS) (sA_lt hi (by decide)) (q_iconst (pc' := 62) _ dX4_empty_61 rfl kk_iconst_3 (q_aald (pc' := 63) (3) dX4_empty_62 rfl (by first | exact ⟨by omega, rfl⟩ | exact okaS hi hz (by decide) rfl | assumption) (by first | exact Or.inl rfl | exact Or.inr rfl) (by (first | (simp only [nI_add, pk_mul]; done) | (simp only [nI_add, pk_mul]; exact nI_e (by omega)) | exact nI_e (by omega))) (by omega) (wS_row hS (by omega)) (sA_lt hi (by omega)) (q_iload_n (pc' := 64) dX4_empty_63 rfl rfl (q_iconst (pc' := 65) _ dX4_empty_64 rfl kk_iconst_0 ?_))))))
      refine q_top (congrArg nI (newT2 (p := k) (s := 3) hk (by decide)).symm) ?_
      refine q_iast (pc' := 66) (k) dX4_empty_65 rfl (by first | exact ⟨by omega, rfl⟩ | exact okaS hi hz (by decide) rfl | assumption) (by (first | (simp only [nI_add, pk_mul]; done) | (simp only [nI_add, pk_mul]; exact nI_e (by omega)) | exact nI_e (by omega))) (by omega) (q_aload_n (pc' := 67) dX4_empty_66 rfl rfl (q_getR (pc' := 70) dX4_empty_67 rfl fr_RX4_11 (okS hi hz (by decide) rfl) rfl (wS_4_2 hS) (sA_lt hi (by decide)) (q_iconst (pc' := 71) _ dX4_empty_70 rfl kk_iconst_4 (q_aald (pc' := 72) (4) dX4_empty_71 rfl (by first | exact ⟨by omega, rfl⟩ | exact okaS hi hz (by decide) rfl | assumption) (by first | exact Or.inl rfl | exact Or.inr rfl) (by (first | (simp only [nI_add, pk_mul]; done) | (simp only [nI_add, pk_mul]; exact nI_e (by omega)) | exact nI_e (by omega))) (by omega) (wS_row hS (by omega)) (sA_lt hi (by omega)) (q_iload_n (pc' := 73) dX4_empty_72 rfl rfl (q_iconst (pc' := 74) _ dX4_empty_73 rfl kk_iconst_0 ?_))))))
      refine q_top (congrArg nI (newT2 (p := k) (s := 4) hk (by decide)).symm) ?_
      refine q_iast (pc' := 75) (k) dX4_empty_74 rfl (by first | exact ⟨by omega, rfl⟩ | exact okaS hi hz (by decide) rfl | assumption) (by (first | (simp only [nI_add, pk_mul]; done) | (simp only [nI_add, pk_mul]; exact nI_e (by omega)) | exact nI_e (by omega))) (by omega) (q_aload_n (pc' := 76) dX4_empty_75 rfl rfl (q_getR (pc' := 79) dX4_empty_76 rfl fr_RX4_16 (okS hi hz (by decide) rfl) rfl (wS_4_3 hS) (sA_lt hi (by decide)) (q_iload_n (pc' := 80) dX4_empty_79 rfl rfl (q_iconst (pc' := 81) _ dX4_empty_80 rfl kk_iconst_0 (q_iast (pc' := 82) (k) dX4_empty_81 rfl (by first | exact ⟨by omega, rfl⟩ | exact okaS hi hz (by decide) rfl | assumption) (by (first | (simp only [nI_add, pk_mul]; done) | (simp only [nI_add, pk_mul]; exact nI_e (by omega)) | exact nI_e (by omega))) (by omega) (q_inc_1 (pc' := 85) dX4_empty_82 rfl (by decide) rfl (q_goto (pc' := 2) dX4_empty_85 rfl ?_)))))))
      refine ih (k + 1) _ (by omega) (fun a ha => ?_) (fun q hq2 => ?_)
      · rw [up_fI (ha 18 (by decide) (by decide)), up_fI (ha 17 (by decide) (by decide)), up_fI (ha 16 (by decide) (by decide)), up_fI (ha 15 (by decide) (by decide)), up_fI (ha 14 (by decide) (by decide)), up_fI (ha 13 (by decide) (by decide))]
        exact hm a ha
      · by_cases e : q = k
        · subst e
          refine ⟨fun s hs => ?_, mj_up_eq⟩
          rw [mj_up_ne (sA_ne (by omega))]
          have hc : s = 0 ∨ s = 1 ∨ s = 2 ∨ s = 3 ∨ s = 4 := by omega
          rcases hc with rfl | rfl | rfl | rfl | rfl
          · rw [mj_up_ne (sA_ne (by decide)), mj_up_ne (sA_ne (by decide)), mj_up_ne (sA_ne (by decide)), mj_up_ne (sA_ne (by decide)), mj_up_eq]
          · rw [mj_up_ne (sA_ne (by decide)), mj_up_ne (sA_ne (by decide)), mj_up_ne (sA_ne (by decide)), mj_up_eq]
          · rw [mj_up_ne (sA_ne (by decide)), mj_up_ne (sA_ne (by decide)), mj_up_eq]
          · rw [mj_up_ne (sA_ne (by decide)), mj_up_eq]
          · rw [mj_up_eq]
        · have h7 := hq q (by omega)
          refine ⟨fun s hs => ?_, ?_⟩
          · simp only [mj_up_ne2 e]
            exact h7.1 s hs
          · simp only [mj_up_ne2 e]
            exact h7.2
  refine q_iconst (pc' := 1) _ dX4_empty_0 rfl kk_iconst_0 (q_ist_1 (pc' := 2) dX4_empty_1 rfl (by decide) rfl ?_)
  exact loop 8 0 _ rfl (fun a _ => rfl) (fun q hq => absurd hq (Nat.not_lt_zero q))
theorem rs_X8_empty (hi : i < 21) (hz : 50 + 20 * i ≤ z) (hS : mj_wS R i) : RsV w l yX8_empty dd_X8_empty [.ref (sA i 1)] (z, I, J, R) (fun I' => cRt I' i (aNew b) ∧ mSt i I I') := by
  refine rt_intro2 (L := [some (.ref (sA i 1))]) ⟨by decide, rfl, (fun h => by cases h)⟩ (Nat.le_of_ble_eq_true rfl) rfl (fun Y Q hQ => ?_)
  refine q_aload_n (pc' := 1) dX8_empty_0 rfl rfl (q_iconst (pc' := 2) _ dX8_empty_1 rfl kk_iconst_0 (q_putI (pc' := 5) dX8_empty_2 rfl fl_RX8_27 (okS hi hz (by decide) rfl) rfl (q_aload_n (pc' := 6) dX8_empty_5 rfl rfl (q_iconst (pc' := 7) _ dX8_empty_6 rfl kk_iconst_0 (q_putI (pc' := 10) dX8_empty_7 rfl fl_RX8_31 (okS hi hz (by decide) rfl) rfl (q_aload_n (pc' := 11) dX8_empty_10 rfl rfl (q_getR (pc' := 14) dX8_empty_11 rfl fr_RX8_9 (okS hi hz (by decide) rfl) rfl (wS_8_2 hS) (sA_lt hi (by decide)) (q_iconst (pc' := 15) _ dX8_empty_14 rfl kk_iconst_0 (q_cSv (pc' := 18) dX8_empty_15 rfl ml_RX8_34 ys_J7_fill_53178 (by decide) (rn_fill (okaS hi hz (by decide) rfl) (by decide)) rfl rfl (Nat.le_of_ble_eq_true rfl) (Nat.le_refl _) (q_aload_n (pc' := 19) dX8_empty_18 rfl rfl (q_getR (pc' := 22) dX8_empty_19 rfl fr_RX8_15 (okS hi hz (by decide) rfl) rfl (wS_8_3 hS) (sA_lt hi (by decide)) (q_iconst (pc' := 23) _ dX8_empty_22 rfl kk_iconst_0 (q_cSv (pc' := 26) dX8_empty_23 rfl ml_RX8_34 ys_J7_fill_53178 (by decide) (rn_fill (okaS hi hz (by decide) rfl) (by decide)) rfl rfl (Nat.le_of_ble_eq_true rfl) (Nat.le_refl _) ?_)))))))))))))
  refine q_aload_n (pc' := 27) dX8_empty_26 rfl rfl (q_getR (pc' := 30) dX8_empty_27 rfl fr_RX8_18 (okS hi hz (by decide) rfl) rfl (wS_8_4 hS) (sA_lt hi (by decide)) (q_iconst (pc' := 31) _ dX8_empty_30 rfl kk_iconst_0 (q_cSv (pc' := 34) dX8_empty_31 rfl ml_RX8_34 ys_J7_fill_53178 (by decide) (rn_fill (okaS hi hz (by decide) rfl) (by decide)) rfl rfl (Nat.le_of_ble_eq_true rfl) (Nat.le_refl _) (q_aload_n (pc' := 35) dX8_empty_34 rfl rfl (q_getR (pc' := 38) dX8_empty_35 rfl fr_RX8_21 (okS hi hz (by decide) rfl) rfl (wS_8_5 hS) (sA_lt hi (by decide)) (q_iconst (pc' := 39) _ dX8_empty_38 rfl kk_iconst_0 (q_cSv (pc' := 42) dX8_empty_39 rfl ml_RX8_34 ys_J7_fill_53178 (by decide) (rn_fill (okaS hi hz (by decide) rfl) (by decide)) rfl rfl (Nat.le_of_ble_eq_true rfl) (Nat.le_refl _) ?_)))))))
  refine q_vret dX8_empty_42 rfl (hQ _ _ _ _ ⟨rfl, ⟨rfl, rfl⟩, ⟨⟨?_, ?_⟩, fun d hd => ⟨?_, ?_, ?_⟩, fun p hp => ?_, fun k hk => ?_⟩, fun a ha => ?_⟩)
  · rw [cp_ne (sA_ne (by decide)), cp_ne (sA_ne (by decide)), cp_ne (sA_ne (by decide)), cp_ne (sA_ne (by decide)), mj_up_ne2 (by decide), mj_up_eq]; rfl
  · rw [cp_ne (sA_ne (by decide)), cp_ne (sA_ne (by decide)), cp_ne (sA_ne (by decide)), cp_ne (sA_ne (by decide)), mj_up_eq]; rfl
  · rw [cp_ne (sA_ne (by decide)), cp_ne (sA_ne (by decide)), cp_ne (sA_ne (by decide)), cp_in hd]; rfl
  · rw [cp_ne (sA_ne (by decide)), cp_ne (sA_ne (by decide)), cp_in hd]; rfl
  · rw [cp_ne (sA_ne (by decide)), cp_in hd]; rfl
  · rw [cp_in hp]; rfl
  · have e : aNew b 14 4 = 0 := rfl
    rw [e] at hk
    exact absurd hk (by decide +revert)
  · rw [cp_ne (ha 5 (by decide) (by decide)), cp_ne (ha 4 (by decide) (by decide)), cp_ne (ha 3 (by decide) (by decide)), cp_ne (ha 2 (by decide) (by decide)), up_fI (ha 1 (by decide) (by decide)), up_fI (ha 1 (by decide) (by decide))]
/-- nothing changes but what one state's lines hold -/
def mSh (i : Nat) (I I' : mj_M) : Prop := ∀ a, (∀ c, 7 ≤ c → c < 11 → a ≠ sA i c) → I' a = I a
theorem rs_X5_forgetZ {id : Nat} (hi : i < 21) (hz : 50 + 20 * i ≤ z) (hS : mj_wS R i) (hid : id < 80) (h6 : I (sA i 10) id = 0 ∨ I (sA i 10) id = 1) : RsI w l yX5_forgetLine dd_X5_forgetLine [.ref (sA i 0), .int (nI id)] (z, I, J, R) (fun _ I' => (I' (sA i 7) id = -1 ∧ I' (sA i 8) id = -1 ∧ I' (sA i 9) id = nI 0 ∧ I' (sA i 10) id = nI 0) ∧ (∀ c k, k ≠ id → I' (sA i c) k = I (sA i c) k) ∧ mSh i I I') := by
  refine rt_intro2 (L := [some (.ref (sA i 0)), some (.int (nI id)), none]) ⟨by decide, rfl, (fun h => by cases h)⟩ (Nat.le_of_ble_eq_true rfl) rfl (fun Y Q hQ => ?_)
  refine q_aload_n (pc' := 1) dX5_forgetLine_0 rfl rfl (q_getR (pc' := 4) dX5_forgetLine_1 rfl fr_RX5_29 (okS hi hz (by decide) rfl) rfl (wS_5_8 hS) (sA_lt hi (by decide)) (q_iload_n (pc' := 5) dX5_forgetLine_4 rfl rfl (q_zald (pc' := 6) (id) dX5_forgetLine_5 rfl (by first | exact ⟨by omega, rfl⟩ | exact okaS hi hz (by decide) rfl | assumption) (by (first | (simp only [nI_add, pk_mul]; done) | (simp only [nI_add, pk_mul]; exact nI_e (by omega)) | exact nI_e (by omega))) (by omega) (q_ist_2 (pc' := 7) dX5_forgetLine_6 rfl (by decide) rfl (q_aload_n (pc' := 8) dX5_forgetLine_7 rfl rfl (q_getR (pc' := 11) dX5_forgetLine_8 rfl fr_RX5_18 (okS hi hz (by decide) rfl) rfl (wS_5_5 hS) (sA_lt hi (by decide)) (q_iload_n (pc' := 12) dX5_forgetLine_11 rfl rfl (q_iconst (pc' := 13) _ dX5_forgetLine_12 rfl kk_iconst_m1 (q_iast (pc' := 14) (id) dX5_forgetLine_13 rfl (by first | exact ⟨by omega, rfl⟩ | exact okaS hi hz (by decide) rfl | assumption) (by (first | (simp only [nI_add, pk_mul]; done) | (simp only [nI_add, pk_mul]; exact nI_e (by omega)) | exact nI_e (by omega))) (by omega) (q_aload_n (pc' := 15) dX5_forgetLine_14 rfl rfl (q_getR (pc' := 18) dX5_forgetLine_15 rfl fr_RX5_22 (okS hi hz (by decide) rfl) rfl (wS_5_6 hS) (sA_lt hi (by decide)) (q_iload_n (pc' := 19) dX5_forgetLine_18 rfl rfl (q_iconst (pc' := 20) _ dX5_forgetLine_19 rfl kk_iconst_m1 ?_)))))))))))))
  refine q_iast (pc' := 21) (id) dX5_forgetLine_20 rfl (by first | exact ⟨by omega, rfl⟩ | exact okaS hi hz (by decide) rfl | assumption) (by (first | (simp only [nI_add, pk_mul]; done) | (simp only [nI_add, pk_mul]; exact nI_e (by omega)) | exact nI_e (by omega))) (by omega) (q_aload_n (pc' := 22) dX5_forgetLine_21 rfl rfl (q_getR (pc' := 25) dX5_forgetLine_22 rfl fr_RX5_25 (okS hi hz (by decide) rfl) rfl (wS_5_7 hS) (sA_lt hi (by decide)) (q_iload_n (pc' := 26) dX5_forgetLine_25 rfl rfl (q_iconst (pc' := 27) _ dX5_forgetLine_26 rfl kk_iconst_0 (q_zast (pc' := 28) (id) dX5_forgetLine_27 rfl (by first | exact ⟨by omega, rfl⟩ | exact okaS hi hz (by decide) rfl | assumption) (by (first | (simp only [nI_add, pk_mul]; done) | (simp only [nI_add, pk_mul]; exact nI_e (by omega)) | exact nI_e (by omega))) (by omega) (by first | exact Or.inl rfl | exact Or.inr rfl | exact bI_01 _) (q_aload_n (pc' := 29) dX5_forgetLine_28 rfl rfl (q_getR (pc' := 32) dX5_forgetLine_29 rfl fr_RX5_29 (okS hi hz (by decide) rfl) rfl (wS_5_8 hS) (sA_lt hi (by decide)) (q_iload_n (pc' := 33) dX5_forgetLine_32 rfl rfl (q_iconst (pc' := 34) _ dX5_forgetLine_33 rfl kk_iconst_0 (q_zast (pc' := 35) (id) dX5_forgetLine_34 rfl (by first | exact ⟨by omega, rfl⟩ | exact okaS hi hz (by decide) rfl | assumption) (by (first | (simp only [nI_add, pk_mul]; done) | (simp only [nI_add, pk_mul]; exact nI_e (by omega)) | exact nI_e (by omega))) (by omega) (by first | exact Or.inl rfl | exact Or.inr rfl | exact bI_01 _) (q_iload_n (pc' := 36) dX5_forgetLine_35 rfl rfl ?_)))))))))))
  refine q_zret dX5_forgetLine_36 rfl h6 (hQ _ _ _ _ ⟨_, rfl, ⟨rfl, rfl⟩, ⟨?_, ?_, ?_, mj_up_eq⟩, fun c k hk => ?_, fun a ha => ?_⟩)
  · rw [mj_up_ne (sA_ne (by decide)), mj_up_ne (sA_ne (by decide)), mj_up_ne (sA_ne (by decide)), mj_up_eq]
  · rw [mj_up_ne (sA_ne (by decide)), mj_up_ne (sA_ne (by decide)), mj_up_eq]
  · rw [mj_up_ne (sA_ne (by decide)), mj_up_eq]
  · simp only [mj_up_ne2 hk]
  · rw [up_fI (ha 10 (by decide) (by decide)), up_fI (ha 9 (by decide) (by decide)), up_fI (ha 8 (by decide) (by decide)), up_fI (ha 7 (by decide) (by decide))]
theorem rs_X5_empty (hi : i < 21) (hz : 50 + 20 * i ≤ z) (hS : mj_wS R i) (hb : cB I b) (hk : bOK b) (h3 : b 0 3 < 2 ^ b 0 1) (h10 : ∀ k, k < 80 → I (sA i 10) k = 0 ∨ I (sA i 10) k = 1) : RsV w l yX5_empty dd_X5_empty [.ref (sA i 0)] (z, I, J, R) (fun I' => cR I' i b (aNew b) ∧ mS i I I') := by
  refine rt_intro2 (L := [some (.ref (sA i 0)), none]) ⟨by decide, rfl, (fun h => by cases h)⟩ (Nat.le_of_ble_eq_true rfl) rfl (fun Y Q hQ => ?_)
  refine q_aload_n (pc' := 1) dX5_empty_0 rfl rfl (q_getR (pc' := 4) dX5_empty_1 rfl fr_RX5_41 (okS hi hz (by decide) rfl) rfl (wS_5_1 hS) (sA_lt hi (by decide)) (q_sVv (pc' := 7) dX5_empty_4 rfl ml_RX5_48 yv_X4_empty (by decide) (rs_X4_empty hi hz hS hb hk h3) (okS hi hz (by decide) rfl) rfl rfl (Nat.le_of_ble_eq_true rfl) (Nat.le_refl _) (fun I1 ⟨r1, m1⟩ => ?_)))
  refine q_aload_n (pc' := 8) dX5_empty_7 rfl rfl (q_getR (pc' := 11) dX5_empty_8 rfl fr_RX5_12 (okS hi hz (by decide) rfl) rfl (wS_5_2 hS) (sA_lt hi (by decide)) (q_sVv (pc' := 14) dX5_empty_11 rfl ml_RX5_49 yv_X8_empty (by decide) (rs_X8_empty (b := b) hi hz hS) (okS hi hz (by decide) rfl) rfl rfl (Nat.le_of_ble_eq_true rfl) (Nat.le_refl _) (fun I2 ⟨r2, m2⟩ => ?_)))
  have r1' : cRr I2 i b (aNew b) := ⟨fun s hs p hp => by rw [m2.hi (Or.inr (by omega))]; exact r1.1 s hs p hp, fun p hp => by rw [m2.hi (Or.inr (by omega))]; exact r1.2.1 p hp, fun k hk => by rw [m2.hi (Or.inr (by omega))]; exact r1.2.2.1 k hk, by rw [m2.hi (Or.inr (by omega))]; exact r1.2.2.2⟩
  have g10 : ∀ k, k < 80 → I2 (sA i 10) k = 0 ∨ I2 (sA i 10) k = 1 := fun k hk2 => by
    rw [m2.hi (Or.inr (by decide)), m1 _ (fun c hc _ => sA_ne (by omega))]
    exact h10 k hk2
  refine q_aload_n (pc' := 15) dX5_empty_14 rfl rfl (q_iconst (pc' := 16) _ dX5_empty_15 rfl kk_iconst_0 (q_putI (pc' := 19) dX5_empty_16 rfl fl_RX5_50 (okS hi hz (by decide) rfl) rfl (q_aload_n (pc' := 20) dX5_empty_19 rfl rfl (q_iconst (pc' := 21) _ dX5_empty_20 rfl kk_iconst_0 (q_putI (pc' := 24) dX5_empty_21 rfl fl_RX5_54 (okS hi hz (by decide) rfl) rfl (q_iconst (pc' := 25) _ dX5_empty_24 rfl kk_iconst_0 (q_ist_1 (pc' := 26) dX5_empty_25 rfl (by decide) rfl ?_)))))))
  have loop : ∀ m k I3, k + m = 80 → mSh i (mj_up (mj_up I2 (sA i 0) 3 (nI 0)) (sA i 0) 4 (nI 0)) I3 → (∀ q, q < k → I3 (sA i 7) q = -1 ∧ I3 (sA i 8) q = -1 ∧ I3 (sA i 9) q = nI 0 ∧ I3 (sA i 10) q = nI 0) → (∀ q, k ≤ q → q < 80 → I3 (sA i 10) q = 0 ∨ I3 (sA i 10) q = 1) → Wq dd_X5_empty (mj_mk w l z Y) Q 26 [some (.ref (sA i 0)), some (.int (nI k))] [] (z, I3, J, R) := by
    intro m
    induction m with
    | zero =>
      intro k I3 hkm hm hq hr
      have hk80 : k = 80 := by omega
      subst hk80
      have f : ∀ c, (c < 7 ∨ 11 ≤ c) → I3 (sA i c) = mj_up (mj_up I2 (sA i 0) 3 (nI 0)) (sA i 0) 4 (nI 0) (sA i c) := fun c hc => hm _ (fun e h1 h2 => sA_ne (by omega))
      have f2 : ∀ c, c ≠ 0 → (c < 7 ∨ 11 ≤ c) → I3 (sA i c) = I2 (sA i c) := fun c h0 hc => by rw [f c hc, up_fI (sA_ne h0), up_fI (sA_ne h0)]
      refine q_iload_n (pc' := 27) dX5_empty_26 rfl rfl (q_bipush (pc' := 29) _ dX5_empty_27 rfl kk_bipush_80 (q_icmp_ge (pc' := 32) (pt := 44) dX5_empty_29 rfl rfl (fun _ => ?_) (fun h9 => absurd (by (first | assumption | exact nI_le (by omega) (by omega) | exact nI_ge (by omega) (by omega) | exact nI_lt (by omega) (by omega) | exact nI_nlt (by omega) (by omega) | exact nI_ne (by omega) (by omega) (by omega) | exact nI_e (by omega) | decide)) h9)))
      refine q_vret dX5_empty_44 rfl (hQ _ _ _ _ ⟨rfl, ⟨rfl, rfl⟩, ⟨⟨fun s hs p hp => ?_, fun p hp => ?_, fun k hk2 => ?_, ?_⟩, ⟨?_, fun d hd => ?_, fun p hp => ?_, fun k hk2 => ?_⟩, ⟨?_, ?_⟩, fun k hk2 => ?_⟩, fun a ha => ?_⟩)
      · rw [f2 _ (by omega) (by omega)]; exact r1'.1 s hs p hp
      · rw [f2 _ (by decide) (by decide)]; exact r1'.2.1 p hp
      · rw [f2 _ (by decide) (by decide)]; exact r1'.2.2.1 k hk2
      · rw [f2 _ (by decide) (by decide)]; exact r1'.2.2.2
      · rw [f2 1 (by decide) (by decide)]; exact r2.1
      · rw [f2 2 (by decide) (by decide), f2 3 (by decide) (by decide), f2 4 (by decide) (by decide)]; exact r2.2.1 d hd
      · rw [f2 5 (by decide) (by decide)]; exact r2.2.2.1 p hp
      · rw [f2 6 (by decide) (by decide)]; exact r2.2.2.2 k hk2
      · rw [f 0 (by decide), mj_up_ne2 (by decide), mj_up_eq]; exact congrArg nI (bitN_F (fun _ _ => rfl)).symm
      · rw [f 0 (by decide), mj_up_eq]; exact congrArg nI (bitN_F (fun _ _ => rfl)).symm
      · exact hq k hk2
      · rw [hm a (fun c _ hc => ha c (by omega)), up_fI (ha 0 (by decide)), up_fI (ha 0 (by decide)), m2.s a ha, m1.s a ha]
    | succ m ih =>
      intro k I3 hkm hm hq hr
      refine q_iload_n (pc' := 27) dX5_empty_26 rfl rfl (q_bipush (pc' := 29) _ dX5_empty_27 rfl kk_bipush_80 (q_icmp_ge (pc' := 32) (pt := 44) dX5_empty_29 rfl rfl (fun h9 => absurd h9 (by (first | assumption | exact nI_le (by omega) (by omega) | exact nI_ge (by omega) (by omega) | exact nI_lt (by omega) (by omega) | exact nI_nlt (by omega) (by omega) | exact nI_ne (by omega) (by omega) (by omega) | exact nI_e (by omega) | decide))) (fun _ => (q_aload_n (pc' := 33) dX5_empty_32 rfl rfl (q_iload_n (pc' := 34) dX5_empty_33 rfl rfl (q_sVi (pc' := 37) dX5_empty_34 rfl ml_RX5_57 yv_X5_forgetLine (by decide) (rs_X5_forgetZ hi hz hS (by omega) (hr k (by omega) (by omega))) (okS hi hz (by decide) rfl) rfl rfl (Nat.le_of_ble_eq_true rfl) (Nat.le_refl _) (fun x4 I4 ⟨r4, o4, m4⟩ => ?_)))))))
      refine q_pop_i (pc' := 38) dX5_empty_37 rfl (q_inc_1 (pc' := 41) dX5_empty_38 rfl (by decide) rfl (q_goto (pc' := 26) dX5_empty_41 rfl ?_))
      refine ih (k + 1) I4 (by omega) (fun a ha => (m4 a ha).trans (hm a ha)) (fun q hq2 => ?_) (fun q h1 h2 => ?_)
      · by_cases e : q = k
        · subst e; exact r4
        · rw [o4 _ _ e, o4 _ _ e, o4 _ _ e, o4 _ _ e]; exact hq q (by omega)
      · rw [o4 _ _ (by omega)]; exact hr q (by omega) h2
  exact loop 80 0 _ rfl (fun _ _ => rfl) (fun q hq => absurd hq (Nat.not_lt_zero q)) (fun q _ hq => by rw [up_fI (sA_ne (by decide)), up_fI (sA_ne (by decide))]; exact g10 q hq)
end EMPTY
