/-! ===== the class: Rows, what is put ===== -/
theorem clr_e {P : Nat → Bool} {n v : Nat} (hn : n ≤ 32) : nI (bitN P n) &&& (nI (2 ^ v) ^^^ (-1)) = nI (bitN (fun u => P u && (u != v)) n) := by
  apply Int32.toBitVec_inj.mp
  rw [Int32.toBitVec_and, Int32.toBitVec_xor]
  show BitVec.ofNat 32 (bitN P n) &&& (BitVec.ofNat 32 (2 ^ v) ^^^ (-1 : Int32).toBitVec) = BitVec.ofNat 32 (bitN (fun u => P u && (u != v)) n)
  have e1 : (-1 : Int32).toBitVec = BitVec.allOnes 32 := by decide
  rw [e1]
  apply BitVec.eq_of_getLsbD_eq
  intro k hk
  rw [BitVec.getLsbD_and, BitVec.getLsbD_xor, BitVec.getLsbD_ofNat, BitVec.getLsbD_ofNat, BitVec.getLsbD_ofNat, BitVec.getLsbD_allOnes, bitN_bit, bitN_bit, Nat.testBit_two_pow]
  simp only [hk, decide_true, Bool.true_and, Bool.xor_true]
  by_cases h3 : k < n
  · simp only [h3, decide_true, Bool.true_and]
    congr 1
    by_cases h4 : v = k
    · subst h4; simp
    · simp [h4, Ne.symm h4]
  · simp [h3]
theorem set_e {P : Nat → Bool} {n v : Nat} (hv : v < n) : nI (bitN P n) ||| nI (2 ^ v) = nI (bitN (fun u => P u || (u == v)) n) := by
  rw [nI_or]
  congr 1
  apply Nat.eq_of_testBit_eq
  intro k
  rw [Nat.testBit_or, bitN_bit, bitN_bit, Nat.testBit_two_pow]
  by_cases h3 : k < n
  · simp only [h3, decide_true, Bool.true_and]
    congr 1
    by_cases h4 : v = k
    · subst h4; simp
    · simp [h4, Ne.symm h4]
  · have : v ≠ k := by omega
    simp [h3, this]
/-- nothing changes but rows, PENDING and owners of one state -/
def mSr (i : Nat) (I I' : mj_M) : Prop := ∀ a, (∀ c, 13 ≤ c → c < 20 → a ≠ sA i c) → I' a = I a
theorem mSr.rf {i : Nat} {I : mj_M} : mSr i I I := fun _ _ => rfl
theorem mSr.tr {i : Nat} {I I' I2 : mj_M} (h : mSr i I I') (h2 : mSr i I' I2) : mSr i I I2 := fun a ha => (h2 a ha).trans (h a ha)
theorem mSr.s {i : Nat} {I I' : mj_M} (h : mSr i I I') : mS i I I' := fun a ha => h a (fun c _ hc => ha c hc)
theorem mSr.lo {i c : Nat} {I I' : mj_M} (h : mSr i I I') (hc : c < 13) : I' (sA i c) = I (sA i c) := h _ (fun c2 h1 _ => sA_ne (by omega))
theorem cRt_F {i : Nat} {I I' : mj_M} {A : St} (f : ∀ c, c < 13 → I' (sA i c) = I (sA i c)) (h : cRt I i A) : cRt I' i A := by
  refine ⟨?_, fun d hd => ?_, fun p hp => ?_, fun k hk => ?_⟩
  · rw [f 1 (by decide)]; exact h.1
  · rw [f 2 (by decide), f 3 (by decide), f 4 (by decide)]; exact h.2.1 d hd
  · rw [f 5 (by decide)]; exact h.2.2.1 p hp
  · rw [f 6 (by decide)]; exact h.2.2.2 k hk
theorem cRs_F {i : Nat} {I I' : mj_M} {A : St} (f : ∀ c, c < 13 → I' (sA i c) = I (sA i c)) (h : cRs I i A) : cRs I' i A := by
  refine ⟨?_, fun k hk => ?_⟩
  · rw [f 0 (by decide)]; exact h.1
  · rw [f 7 (by decide), f 8 (by decide), f 9 (by decide), f 10 (by decide)]; exact h.2 k hk
theorem cR_F {i : Nat} {I I' : mj_M} {b A : St} (f : ∀ c, c < 20 → I' (sA i c) = I (sA i c)) (h : cR I i b A) : cR I' i b A := by
  refine ⟨⟨fun s hs p hp => ?_, fun p hp => ?_, fun k hk => ?_, ?_⟩, cRt_F (fun c hc => f c (by omega)) h.2.1, cRs_F (fun c hc => f c (by omega)) h.2.2⟩
  · rw [f (13 + s) (by omega)]; exact h.1.1 s hs p hp
  · rw [f 18 (by decide)]; exact h.1.2.1 p hp
  · rw [f 19 (by decide)]; exact h.1.2.2.1 k hk
  · rw [f 11 (by decide)]; exact h.1.2.2.2
section ROWS4
variable {w : mj_Wd} {l : Launch} {I : mj_M} {J : mj_J} {R : mj_R} {b A : St} {i : Nat}
theorem rs_X4_put {k s o : Nat} (hi : i < 21) (hS : mj_wS R i) (hk : bOK b) (h : cRr I i b A) (h256 : k < 256) (hv : k % 32 < b 0 1) (hs : s < 5) : RsV w l yX4_put dd_X4_put [.ref (sA i 11), .int (nI k), .int (nI s), .int (lD o)] (472, I, J, R) (fun I' => cRr I' i b (aSets A k s o) ∧ mSr i I I') := by
  have hz : 50 + 20 * i ≤ 472 := by omega
  have hv2 := hk.2.1.2
  have ek : 32 * (k / 32) + k % 32 = k := by omega
  have hrs := mj_oka_row hi hs
  refine rt_intro2 (L := [some (.ref (sA i 11)), some (.int (nI k)), some (.int (nI s)), some (.int (lD o)), none, none, none]) ⟨by decide, rfl, (fun h => by cases h)⟩ (Nat.le_of_ble_eq_true rfl) rfl (fun Y Q hQ => ?_)
  refine q_iload_n (pc' := 1) dX4_put_0 rfl rfl (q_if_lt (pc' := 4) (pt := 11) dX4_put_1 rfl rfl (fun h9 => absurd h9 (Int32.not_lt.mpr (nI_le (a := 0) (by omega) (by omega)))) (fun _ => (q_iload_n (pc' := 5) dX4_put_4 rfl rfl (q_sipush (pc' := 8) _ dX4_put_5 rfl kk_sipush_256 (q_icmp_lt (pc' := 11) (pt := 12) dX4_put_8 rfl rfl (fun _ => (q_iload_n (pc' := 13) dX4_put_12 rfl rfl (q_bipush (pc' := 15) _ dX4_put_13 rfl kk_bipush_32 (q_idiv (pc' := 16) dX4_put_15 rfl (by decide) ?_)))) (fun h9 => absurd (nI_lt h256 (by decide)) h9))))))
  refine q_top (d32 k h256) ?_
  refine q_ist_4 (pc' := 18) dX4_put_16 rfl (by decide) rfl (q_iconst (pc' := 19) _ dX4_put_18 rfl kk_iconst_1 (q_iload_n (pc' := 20) dX4_put_19 rfl rfl (q_bipush (pc' := 22) _ dX4_put_20 rfl kk_bipush_32 (q_irem (pc' := 23) dX4_put_22 rfl (by decide) ?_))))
  refine q_top (m32 k h256) ?_
  refine q_ishl dX4_put_23 rfl ?_
  refine q_top (sh32 (k % 32) (by omega)) ?_
  refine q_ist_5 (pc' := 26) dX4_put_24 rfl (by decide) rfl (q_iconst (pc' := 27) _ dX4_put_26 rfl kk_iconst_0 (q_ist_6 (pc' := 29) dX4_put_27 rfl (by decide) rfl ?_))
  have fin : ∀ I0, (∀ r, r < 5 → ∀ q, q < 8 → I0 (sA i (13 + r)) q = (if q = k / 32 then nI (bitN (fun u => (A 0 (32 * (k / 32) + u) == r) && (u != k % 32)) (b 0 1)) else nI (cT b A q r))) → (∀ a, (∀ r, r < 5 → a ≠ sA i (13 + r)) → I0 a = I a) → Wq dd_X4_put (mj_mk w l 472 Y) Q 58 [some (.ref (sA i 11)), some (.int (nI k)), some (.int (nI s)), some (.int (lD o)), some (.int (nI (k / 32))), some (.int (nI (2 ^ (k % 32)))), some (.int (nI 5))] [] (472, I0, J, R) := by
    intro I0 hr hf
    have e1 : I0 (sA i (13 + s)) (k / 32) = nI (bitN (fun u => (A 0 (32 * (k / 32) + u) == s) && (u != k % 32)) (b 0 1)) := by rw [hr s hs (k / 32) (by omega), if_pos rfl]
    refine q_aload_n (pc' := 59) dX4_put_58 rfl rfl (q_getR (pc' := 62) dX4_put_59 rfl fr_RX4_11 (okS hi hz (by decide) rfl) rfl (wS_4_2 hS) (sA_lt hi (by decide)) (q_iload_n (pc' := 63) dX4_put_62 rfl rfl (q_aald (pc' := 64) (s) dX4_put_63 rfl (by first | exact ⟨by omega, rfl⟩ | exact okaS hi hz (by decide) rfl | assumption) (by first | exact Or.inl rfl | exact Or.inr rfl) (by (first | (simp only [nI_add, pk_mul]; done) | (simp only [nI_add, pk_mul]; exact nI_e (by omega)) | exact nI_e (by omega))) (by omega) (wS_row hS (by omega)) (sA_lt hi (by omega)) (q_iload (pc' := 66) dX4_put_64 rfl rfl (q_dup2 (pc' := 67) dX4_put_66 rfl (q_ialde (pc' := 68) (k / 32) dX4_put_67 rfl (by first | exact ⟨by omega, rfl⟩ | exact okaS hi hz (by decide) rfl | assumption) (by (first | (simp only [nI_add, pk_mul]; done) | (simp only [nI_add, pk_mul]; exact nI_e (by omega)) | exact nI_e (by omega))) (by omega) e1 (q_iload (pc' := 70) dX4_put_68 rfl rfl (q_ior (pc' := 71) dX4_put_70 rfl ?_))))))))
    refine q_top (set_e hv) ?_
    refine q_iast (pc' := 72) (k / 32) dX4_put_71 rfl (by first | exact ⟨by omega, rfl⟩ | exact okaS hi hz (by decide) rfl | assumption) (by (first | (simp only [nI_add, pk_mul]; done) | (simp only [nI_add, pk_mul]; exact nI_e (by omega)) | exact nI_e (by omega))) (by omega) (q_aload_n (pc' := 73) dX4_put_72 rfl rfl (q_getR (pc' := 76) dX4_put_73 rfl fr_RX4_20 (okS hi hz (by decide) rfl) rfl (wS_4_4 hS) (sA_lt hi (by decide)) (q_iload_n (pc' := 77) dX4_put_76 rfl rfl (q_iload_n (pc' := 78) dX4_put_77 rfl rfl (q_iast (pc' := 79) (k) dX4_put_78 rfl (by first | exact ⟨by omega, rfl⟩ | exact okaS hi hz (by decide) rfl | assumption) (by (first | (simp only [nI_add, pk_mul]; done) | (simp only [nI_add, pk_mul]; exact nI_e (by omega)) | exact nI_e (by omega))) (by omega) ?_)))))
    refine q_vret dX4_put_79 rfl (hQ _ _ _ _ ⟨rfl, ⟨rfl, rfl⟩, ⟨fun r hr5 q hq => ?_, fun q hq => ?_, fun q hq => ?_, ?_⟩, fun a ha => ?_⟩)
    · rw [mj_up_ne (show sA i (13 + r) ≠ sA i 19 from sA_ne (by omega))]
      have hbit : ∀ r, cT b (aSets A k s o) (k / 32) r = bitN (fun u => if u = k % 32 then s == r else A 0 (32 * (k / 32) + u) == r) (b 0 1) := fun r => by
        unfold cT
        refine bitN_cong (fun u hu => ?_)
        have e0 : aSets A k s o 0 (32 * (k / 32) + u) = mj_up A 0 k s 0 (32 * (k / 32) + u) := mj_up_ne (by decide)
        rw [e0]
        by_cases eu : u = k % 32
        · rw [if_pos eu, eu, ek, mj_up_eq]
        · rw [if_neg eu, mj_up_ne2 (by omega)]
      have hoth : q ≠ k / 32 → cT b (aSets A k s o) q r = cT b A q r := fun hne => by
        unfold cT
        refine bitN_cong (fun u hu => ?_)
        have e0 : aSets A k s o 0 (32 * q + u) = mj_up A 0 k s 0 (32 * q + u) := mj_up_ne (by decide)
        rw [e0, mj_up_ne2 (by omega)]
      by_cases er : r = s
      · subst er
        by_cases eq : q = k / 32
        · subst eq
          rw [mj_up_eq, hbit]
          congr 1
          refine bitN_cong (fun u hu => ?_)
          by_cases eu : u = k % 32
          · rw [if_pos eu, eu]; simp
          · have e1 : (u != k % 32) = true := bne_iff_ne.mpr eu
            have e2 : (u == k % 32) = false := beq_eq_false_iff_ne.mpr eu
            rw [if_neg eu, e1, e2, Bool.and_true, Bool.or_false]
        · rw [mj_up_ne2 eq, hr r hr5 q hq, if_neg eq, hoth eq]
      · rw [mj_up_ne (sA_ne (by omega)), hr r hr5 q hq]
        by_cases eq : q = k / 32
        · subst eq
          rw [if_pos rfl, hbit]
          congr 1
          refine bitN_cong (fun u hu => ?_)
          by_cases eu : u = k % 32
          · rw [if_pos eu, eu]; simp [Ne.symm er]
          · rw [if_neg eu]; simp [eu]
        · rw [if_neg eq, hoth eq]
    · rw [mj_up_ne (show sA i 18 ≠ sA i 19 from sA_ne (by decide)), mj_up_ne (show sA i 18 ≠ sA i (13 + s) from sA_ne (by omega)), hf _ (fun r hr5 => sA_ne (by omega))]
      exact h.2.1 q hq
    · by_cases eq : q = k
      · subst eq
        rw [mj_up_eq]
        show lD o = lD (mj_up (mj_up A 0 q s) 1 q o 1 q)
        rw [mj_up_eq]
      · rw [mj_up_ne2 eq, mj_up_ne (show sA i 19 ≠ sA i (13 + s) from sA_ne (by omega)), hf _ (fun r hr5 => sA_ne (by omega))]
        show _ = lD (mj_up (mj_up A 0 k s) 1 k o 1 q)
        rw [mj_up_ne2 eq, mj_up_ne (by decide)]
        exact h.2.2.1 q hq
    · rw [mj_up_ne (show sA i 11 ≠ sA i 19 from sA_ne (by decide)), mj_up_ne (show sA i 11 ≠ sA i (13 + s) from sA_ne (by omega)), hf _ (fun r hr5 => sA_ne (by omega))]
      exact h.2.2.2
    · rw [up_fI (ha 19 (by decide) (by decide)), up_fI (ha (13 + s) (by omega) (by omega)), hf a (fun r hr5 => ha (13 + r) (by omega) (by omega))]
  have loop : ∀ m t I0, t + m = 5 → (∀ r, r < 5 → ∀ q, q < 8 → I0 (sA i (13 + r)) q = (if q = k / 32 ∧ r < t then nI (bitN (fun u => (A 0 (32 * (k / 32) + u) == r) && (u != k % 32)) (b 0 1)) else nI (cT b A q r))) → (∀ a, (∀ r, r < 5 → a ≠ sA i (13 + r)) → I0 a = I a) → Wq dd_X4_put (mj_mk w l 472 Y) Q 29 [some (.ref (sA i 11)), some (.int (nI k)), some (.int (nI s)), some (.int (lD o)), some (.int (nI (k / 32))), some (.int (nI (2 ^ (k % 32)))), some (.int (nI t))] [] (472, I0, J, R) := by
    intro m
    induction m with
    | zero =>
      intro t I0 htm hr hf
      have htz : t = 5 := by omega
      subst htz
      refine q_iload (pc' := 31) dX4_put_29 rfl rfl (q_iconst (pc' := 32) _ dX4_put_31 rfl kk_iconst_5 (q_icmp_ge (pc' := 35) (pt := 58) dX4_put_32 rfl rfl (fun _ => ?_) (fun h9 => absurd (by (first | assumption | exact nI_le (by omega) (by omega) | exact nI_ge (by omega) (by omega) | exact nI_lt (by omega) (by omega) | exact nI_nlt (by omega) (by omega) | exact nI_ne (by omega) (by omega) (by omega) | exact nI_e (by omega) | decide)) h9)))
      refine fin I0 (fun r hr5 q hq => ?_) hf
      rw [hr r hr5 q hq]
      by_cases eq : q = k / 32
      · rw [if_pos ⟨eq, hr5⟩, if_pos eq]
      · rw [if_neg (fun z => eq z.1), if_neg eq]
    | succ m ih =>
      intro t I0 htm hr hf
      have ht5 : t < 5 := by omega
      have hrt := mj_oka_row hi ht5
      have e1 : I0 (sA i (13 + t)) (k / 32) = nI (cT b A (k / 32) t) := by rw [hr t ht5 (k / 32) (by omega), if_neg (fun z => Nat.lt_irrefl _ z.2)]
      refine q_iload (pc' := 31) dX4_put_29 rfl rfl (q_iconst (pc' := 32) _ dX4_put_31 rfl kk_iconst_5 (q_icmp_ge (pc' := 35) (pt := 58) dX4_put_32 rfl rfl (fun h9 => absurd h9 (by (first | assumption | exact nI_le (by omega) (by omega) | exact nI_ge (by omega) (by omega) | exact nI_lt (by omega) (by omega) | exact nI_nlt (by omega) (by omega) | exact nI_ne (by omega) (by omega) (by omega) | exact nI_e (by omega) | decide))) (fun _ => (q_aload_n (pc' := 36) dX4_put_35 rfl rfl (q_getR (pc' := 39) dX4_put_36 rfl fr_RX4_11 (okS hi hz (by decide) rfl) rfl (wS_4_2 hS) (sA_lt hi (by decide)) (q_iload (pc' := 41) dX4_put_39 rfl rfl (q_aald (pc' := 42) (t) dX4_put_41 rfl (by first | exact ⟨by omega, rfl⟩ | exact okaS hi hz (by decide) rfl | assumption) (by first | exact Or.inl rfl | exact Or.inr rfl) (by (first | (simp only [nI_add, pk_mul]; done) | (simp only [nI_add, pk_mul]; exact nI_e (by omega)) | exact nI_e (by omega))) (by omega) (wS_row hS (by omega)) (sA_lt hi (by omega)) (q_iload (pc' := 44) dX4_put_42 rfl rfl (q_dup2 (pc' := 45) dX4_put_44 rfl (q_ialde (pc' := 46) (k / 32) dX4_put_45 rfl (by first | exact ⟨by omega, rfl⟩ | exact okaS hi hz (by decide) rfl | assumption) (by (first | (simp only [nI_add, pk_mul]; done) | (simp only [nI_add, pk_mul]; exact nI_e (by omega)) | exact nI_e (by omega))) (by omega) e1 (q_iload (pc' := 48) dX4_put_46 rfl rfl (q_iconst (pc' := 49) _ dX4_put_48 rfl kk_iconst_m1 (q_ixor (pc' := 50) dX4_put_49 rfl (q_iand (pc' := 51) dX4_put_50 rfl ?_))))))))))))))
      refine q_top (clr_e hv2) ?_
      refine q_iast (pc' := 52) (k / 32) dX4_put_51 rfl (by first | exact ⟨by omega, rfl⟩ | exact okaS hi hz (by decide) rfl | assumption) (by (first | (simp only [nI_add, pk_mul]; done) | (simp only [nI_add, pk_mul]; exact nI_e (by omega)) | exact nI_e (by omega))) (by omega) (q_inc_6 (pc' := 55) dX4_put_52 rfl (by decide) rfl (q_goto (pc' := 29) dX4_put_55 rfl ?_))
      refine ih (t + 1) _ (by omega) (fun r hr5 q hq => ?_) (fun a ha => by rw [up_fI (ha t ht5)]; exact hf a ha)
      by_cases er : r = t
      · subst er
        by_cases eq : q = k / 32
        · subst eq
          rw [mj_up_eq, if_pos ⟨rfl, by omega⟩]
        · rw [mj_up_ne2 eq, hr r hr5 q hq, if_neg (fun z => eq z.1), if_neg (fun z => eq z.1)]
      · rw [mj_up_ne (sA_ne (by omega)), hr r hr5 q hq]
        by_cases eq : q = k / 32 ∧ r < t
        · rw [if_pos eq, if_pos ⟨eq.1, by omega⟩]
        · rw [if_neg eq, if_neg (fun z => eq ⟨z.1, by omega⟩)]
  exact loop 5 0 I (by omega) (fun r hr5 q hq => by rw [if_neg (fun z => Nat.not_lt_zero _ z.2)]; exact h.1 r hr5 q hq) (fun _ _ => rfl)
end ROWS4
