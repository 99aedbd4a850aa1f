/-! ===== the reference: spreads, copies, START ===== -/
theorem sh1 {k : Nat} (hk : k < 31) : nI 1 <<< (nI k &&& 31) = nI (2 ^ k) := by
  have h1 : ((nI k &&& 31).toBitVec.smod 32).toNat = k := by
    have : ∀ n, n < 32 → ((nI n &&& 31).toBitVec.smod 32).toNat = n := by decide
    exact this k (by omega)
  have h2 := pk_shlN (n := 1) (nI k &&& 31) k h1 (by rw [Nat.one_mul]; exact Nat.pow_lt_pow_right (by decide) (by omega))
  rw [Nat.one_mul] at h2
  exact h2
theorem shN {n k : Nat} (hk : k < 8) (hn : n < 2) : nI n <<< (nI k &&& 31) = nI (n * 2 ^ k) := by
  have h1 : ((nI k &&& 31).toBitVec.smod 32).toNat = k := by
    have : ∀ n, n < 32 → ((nI n &&& 31).toBitVec.smod 32).toNat = n := by decide
    exact this k (by omega)
  refine pk_shlN (nI k &&& 31) k h1 ?_
  have : 2 ^ k ≤ 2 ^ 7 := Nat.pow_le_pow_right (by decide) (by omega)
  have h3 : n * 2 ^ k ≤ 1 * 2 ^ 7 := Nat.mul_le_mul (by omega) this
  omega
theorem nI_or (a c : Nat) : nI a ||| nI c = nI (a ||| c) := by
  apply Int32.toBitVec_inj.mp
  rw [Int32.toBitVec_or]
  show BitVec.ofNat 32 a ||| BitVec.ofNat 32 c = BitVec.ofNat 32 (a ||| c)
  exact (BitVec.ofNat_or).symm
theorem nI_and (a c : Nat) : nI a &&& nI c = nI (a &&& c) := by
  apply Int32.toBitVec_inj.mp
  rw [Int32.toBitVec_and]
  show BitVec.ofNat 32 a &&& BitVec.ofNat 32 c = BitVec.ofNat 32 (a &&& c)
  exact (BitVec.ofNat_and).symm
theorem or_pow {a k x : Nat} (h : a < 2 ^ k) : a ||| (x * 2 ^ k) = a + x * 2 ^ k := by
  have := Nat.two_pow_add_eq_or_of_lt h x
  rw [Nat.or_comm, Nat.mul_comm x, ← this, Nat.add_comm]
/-- bits as a number -/
def bitN (P : Nat → Bool) (n : Nat) : Nat := sumN (fun p => (if P p = true then 1 else 0) * 2 ^ p) n
theorem bitN_lt (P : Nat → Bool) (n : Nat) : bitN P n < 2 ^ n := by
  induction n with
  | zero => exact Nat.one_pos
  | succ n ih =>
    show sumN _ n + _ < _
    have h2 : (if P n = true then 1 else 0) * 2 ^ n ≤ 2 ^ n := by split <;> omega
    unfold bitN at ih
    rw [Nat.pow_succ]
    dsimp only
    omega
theorem bitN_bit (P : Nat → Bool) (n k : Nat) : (bitN P n).testBit k = (decide (k < n) && P k) := by
  induction n with
  | zero => simp [bitN, sumN]
  | succ n ih =>
    have e : bitN P (n + 1) = bitN P n ||| ((if P n = true then 1 else 0) * 2 ^ n) := by
      rw [or_pow (bitN_lt P n)]; rfl
    rw [e, Nat.testBit_or, ih]
    by_cases hp : P n = true
    · rw [if_pos hp, Nat.one_mul, Nat.testBit_two_pow]
      by_cases h1 : n = k
      · subst h1; simp [hp]
      · simp only [h1, decide_false, Bool.or_false]
        congr 1
        by_cases h2 : k < n
        · simp [h2, Nat.lt_succ_of_lt h2]
        · simp [h2]; omega
    · rw [if_neg hp, Nat.zero_mul, Nat.zero_testBit, Bool.or_false]
      by_cases h1 : n = k
      · subst h1; simp [Bool.eq_false_iff.mpr hp]
      · congr 1
        by_cases h2 : k < n
        · simp [h2, Nat.lt_succ_of_lt h2]
        · simp [h2]; omega
theorem bitN_or (P : Nat → Bool) (n : Nat) : nI (bitN P n) ||| nI ((if P n = true then 1 else 0) * 2 ^ n) = nI (bitN P (n + 1)) := by
  rw [nI_or, or_pow (bitN_lt P n)]; rfl
/-- how many CPUS a SET has below one; the SPREAD -/
def aSetN (b : St) (d k : Nat) : Nat := cntN (fun p => (b 3 d).testBit p) k
def aSpP (b : St) (d q p : Nat) : Bool := (b 3 d).testBit p && (if b 2 d ≤ aSetN b d (b 0 0) then aSetN b d p * b 2 d / aSetN b d (b 0 0) == q else q % aSetN b d (b 0 0) == aSetN b d p)
def aSpread (b : St) (d q : Nat) : Nat := bitN (aSpP b d q) (b 0 0)
theorem cntN_pos {P : Nat → Bool} {n k : Nat} (hk : k < n) (hp : P k = true) : 1 ≤ cntN P n := by
  induction n with
  | zero => omega
  | succ n ih =>
    unfold cntN
    by_cases e : k = n
    · subst e; rw [if_pos hp]; omega
    · have := ih (by omega); omega
theorem aSpread_lt (b : St) (hk : bOK b) (d q : Nat) : aSpread b d q < 256 := by
  have h1 := bitN_lt (aSpP b d q) (b 0 0)
  have h2 : 2 ^ b 0 0 ≤ 2 ^ 8 := Nat.pow_le_pow_right (by decide) hk.1.2
  unfold aSpread; omega
section M5
variable {w : mj_Wd} {l : Launch} {I : mj_M} {J : mj_J} {R : mj_R} {b A : St}
theorem rn_X11_online (hM : mj_wM R) (hb : mB I b) (hk : bOK b) (hR : rR (I 464) A) (hA : aOK A) : Rn w l yX11_online dd_X11_online [.ref 452] (472, I, J, R) (some (.int (nI (bitN (fun p => A 9 p == 1) (b 0 0))))) (472, I, J, R) := by
  have hv := hk.1.2
  refine rn_intro2 (L := [some (.ref 452), none, none]) ⟨by decide, rfl, (fun h => by cases h)⟩ (Nat.le_refl _) (Nat.le_of_ble_eq_true rfl) rfl (fun Y Q hQ => ?_)
  refine q_iconst (pc' := 1) _ dX11_online_0 rfl kk_iconst_0 (q_ist_1 (pc' := 2) dX11_online_1 rfl (by decide) rfl (q_iconst (pc' := 3) _ dX11_online_2 rfl kk_iconst_0 (q_ist_2 (pc' := 4) dX11_online_3 rfl (by decide) rfl ?_)))
  have loop : ∀ m k, k + m = (b 0 0) → Wq dd_X11_online (mj_mk w l 472 Y) Q 4 [some (.ref 452), some (.int (nI (bitN (fun p => A 9 p == 1) k))), some (.int (nI k))] [] (472, I, J, R) := by
    intro m
    induction m with
    | zero =>
      intro k hkm
      have hkz : k = (b 0 0) := by omega
      subst hkz
      exact q_iload_n (pc' := 5) dX11_online_4 rfl rfl (q_aload_n (pc' := 6) dX11_online_5 rfl rfl (q_getIe (pc' := 9) dX11_online_6 rfl fr_RX11_240 ⟨by omega, rfl⟩ rfl (mB_0 hb) (q_icmp_ge (pc' := 12) (pt := 33) dX11_online_9 rfl rfl (fun _ => (q_iload_n (pc' := 34) dX11_online_33 rfl rfl (q_iret dX11_online_34 rfl hQ))) (fun h9 => absurd (by (first | assumption | exact nI_le (by omega) (by omega) | exact nI_ge (by omega) (by omega) | exact nI_lt (by omega) (by omega) | exact nI_nlt (by omega) (by omega) | exact nI_ne (by omega) (by omega) (by omega) | exact nI_e (by omega) | decide)) h9))))
    | succ m ih =>
      intro k hkm
      have h6 := hA.2.2.2 k (by omega)
      refine q_iload_n (pc' := 5) dX11_online_4 rfl rfl (q_aload_n (pc' := 6) dX11_online_5 rfl rfl (q_getIe (pc' := 9) dX11_online_6 rfl fr_RX11_240 ⟨by omega, rfl⟩ rfl (mB_0 hb) (q_icmp_ge (pc' := 12) (pt := 33) dX11_online_9 rfl rfl (fun h9 => absurd h9 (by (first | assumption | exact nI_le (by omega) (by omega) | exact nI_ge (by omega) (by omega) | exact nI_lt (by omega) (by omega) | exact nI_nlt (by omega) (by omega) | exact nI_ne (by omega) (by omega) (by omega) | exact nI_e (by omega) | decide))) (fun _ => (q_iload_n (pc' := 13) dX11_online_12 rfl rfl (q_aload_n (pc' := 14) dX11_online_13 rfl rfl (q_getR (pc' := 17) dX11_online_14 rfl fr_RX11_51 ⟨by omega, rfl⟩ rfl (wM_36 hM) (by decide) (q_sipush (pc' := 20) _ dX11_online_17 rfl kk_sipush_1554 (q_iload_n (pc' := 21) dX11_online_20 rfl rfl (q_iadd (pc' := 22) dX11_online_21 rfl (q_ialde (pc' := 23) (1554 + k) dX11_online_22 rfl (by first | exact ⟨by omega, rfl⟩ | exact okaS hi hz (by decide) rfl | assumption) (by (first | (simp only [nI_add, pk_mul]; done) | (simp only [nI_add, pk_mul]; exact nI_e (by omega)) | exact nI_e (by omega))) (by omega) ((hR _ (by omega)).trans (cE_on (by omega))) (q_iload_n (pc' := 24) dX11_online_23 rfl rfl (q_ishl (pc' := 25) dX11_online_24 rfl ?_)))))))))))))
      refine q_top (shN (by omega) h6) ?_
      refine q_ior (pc' := 26) dX11_online_25 rfl ?_
      refine q_top (y := nI (bitN (fun p => A 9 p == 1) (k + 1))) ?_ ?_
      · rw [← bitN_or]
        congr 2
        by_cases h1 : A 9 k = 1
        · rw [h1]; rfl
        · rw [show A 9 k = 0 by omega]; rfl
      refine q_ist_1 (pc' := 27) dX11_online_26 rfl (by decide) rfl (q_inc_2 (pc' := 30) dX11_online_27 rfl (by decide) rfl (q_goto (pc' := 4) dX11_online_30 rfl ?_))
      exact ih (k + 1) (by omega)
  exact loop (b 0 0) 0 (by omega)
theorem rn_X11_setMany {d : Nat} (hM : mj_wM R) (hb : mB I b) (hk : bOK b) (hd : d < b 0 2) : Rn w l yX11_setMany dd_X11_setMany [.ref 452, .int (nI d)] (472, I, J, R) (some (.int (nI (aSetN b d (b 0 0))))) (472, I, J, R) := by
  have hv := hk.1.2
  have h10 : d < 10 := by have := hk.2.2.1; omega
  have hs := (hk.2.2.2 d hd).2.2
  refine rn_intro2 (L := [some (.ref 452), some (.int (nI d)), none, none]) ⟨by decide, rfl, (fun h => by cases h)⟩ (Nat.le_refl _) (Nat.le_of_ble_eq_true rfl) rfl (fun Y Q hQ => ?_)
  refine q_iconst (pc' := 1) _ dX11_setMany_0 rfl kk_iconst_0 (q_ist_2 (pc' := 2) dX11_setMany_1 rfl (by decide) rfl (q_iconst (pc' := 3) _ dX11_setMany_2 rfl kk_iconst_0 (q_ist_3 (pc' := 4) dX11_setMany_3 rfl (by decide) rfl ?_)))
  have loop : ∀ m k, k + m = (b 0 0) → Wq dd_X11_setMany (mj_mk w l 472 Y) Q 4 [some (.ref 452), some (.int (nI d)), some (.int (nI (aSetN b d k))), some (.int (nI k))] [] (472, I, J, R) := by
    intro m
    induction m with
    | zero =>
      intro k hkm
      have hkz : k = (b 0 0) := by omega
      subst hkz
      exact q_iload_n (pc' := 5) dX11_setMany_4 rfl rfl (q_aload_n (pc' := 6) dX11_setMany_5 rfl rfl (q_getIe (pc' := 9) dX11_setMany_6 rfl fr_RX11_240 ⟨by omega, rfl⟩ rfl (mB_0 hb) (q_icmp_ge (pc' := 12) (pt := 31) dX11_setMany_9 rfl rfl (fun _ => (q_iload_n (pc' := 32) dX11_setMany_31 rfl rfl (q_iret dX11_setMany_32 rfl hQ))) (fun h9 => absurd (by (first | assumption | exact nI_le (by omega) (by omega) | exact nI_ge (by omega) (by omega) | exact nI_lt (by omega) (by omega) | exact nI_nlt (by omega) (by omega) | exact nI_ne (by omega) (by omega) (by omega) | exact nI_e (by omega) | decide)) h9))))
    | succ m ih =>
      intro k hkm
      refine q_iload_n (pc' := 5) dX11_setMany_4 rfl rfl (q_aload_n (pc' := 6) dX11_setMany_5 rfl rfl (q_getIe (pc' := 9) dX11_setMany_6 rfl fr_RX11_240 ⟨by omega, rfl⟩ rfl (mB_0 hb) (q_icmp_ge (pc' := 12) (pt := 31) dX11_setMany_9 rfl rfl (fun h9 => absurd h9 (by (first | assumption | exact nI_le (by omega) (by omega) | exact nI_ge (by omega) (by omega) | exact nI_lt (by omega) (by omega) | exact nI_nlt (by omega) (by omega) | exact nI_ne (by omega) (by omega) (by omega) | exact nI_e (by omega) | decide))) (fun _ => (q_iload_n (pc' := 13) dX11_setMany_12 rfl rfl (q_aload_n (pc' := 14) dX11_setMany_13 rfl rfl (q_getR (pc' := 17) dX11_setMany_14 rfl fr_RX11_35 ⟨by omega, rfl⟩ rfl (wM_31 hM) (by decide) (q_iload_n (pc' := 18) dX11_setMany_17 rfl rfl (q_ialde (pc' := 19) _ dX11_setMany_18 rfl (by first | exact ⟨by omega, rfl⟩ | exact okaS hi hz (by decide) rfl | assumption) rfl (by omega) (hb.2.2.2 d hd).2.2 (q_iload_n (pc' := 20) dX11_setMany_19 rfl rfl (q_ishr (pc' := 21) dX11_setMany_20 rfl (q_iconst (pc' := 22) _ dX11_setMany_21 rfl kk_iconst_1 (q_iand (pc' := 23) dX11_setMany_22 rfl ?_)))))))))))))
      refine q_top (y := bI ((b 3 d).testBit k)) ?_ ?_
      · rw [← bitS_nI (by omega) (by omega)]
        unfold bitS
        have e1 := pk_shrN (n := b 3 d) (by omega) (nI k &&& 31) k (by
          have : ∀ n, n < 32 → ((nI n &&& 31).toBitVec.smod 32).toNat = n := by decide
          exact this k (by omega))
        have e2 := pk_andN (n := b 3 d / 2 ^ k) (m := nI 1) (by have := Nat.div_le_self (b 3 d) (2 ^ k); omega) 1 (by decide)
        rw [e1, e2]
        have h3 : b 3 d / 2 ^ k % 2 = 0 ∨ b 3 d / 2 ^ k % 2 = 1 := by omega
        rcases h3 with h3 | h3
        · rw [show 2 ^ 1 = 2 from rfl, h3]; decide
        · rw [show 2 ^ 1 = 2 from rfl, h3]; decide
      refine q_iadd (pc' := 24) dX11_setMany_23 rfl ?_
      refine q_top (nI_cnt (fun p => (b 3 d).testBit p) k) ?_
      refine q_ist_2 (pc' := 25) dX11_setMany_24 rfl (by decide) rfl (q_inc_3 (pc' := 28) dX11_setMany_25 rfl (by decide) rfl (q_goto (pc' := 4) dX11_setMany_28 rfl ?_))
      exact ih (k + 1) (by omega)
  exact loop (b 0 0) 0 (by omega)
theorem rn_X11_spreadOf {d q : Nat} (hM : mj_wM R) (hb : mB I b) (hk : bOK b) (hd : d < b 0 2) (hq : q < 8) : Rn w l yX11_spreadOf dd_X11_spreadOf [.ref 452, .int (nI d), .int (nI q)] (472, I, J, R) (some (.int (nI (aSpread b d q)))) (472, I, J, R) := by
  have hv := hk.1.2
  have h10 : d < 10 := by have := hk.2.2.1; omega
  have hs := hk.2.2.2 d hd
  have hm8 : aSetN b d (b 0 0) ≤ 8 := Nat.le_trans (cntN_le _ _) hv
  refine rn_intro2 (L := [some (.ref 452), some (.int (nI d)), some (.int (nI q)), none, none, none, none, none]) ⟨by decide, rfl, (fun h => by cases h)⟩ (Nat.le_refl _) (Nat.le_of_ble_eq_true rfl) rfl (fun Y Q hQ => ?_)
  refine q_aload_n (pc' := 1) dX11_spreadOf_0 rfl rfl (q_iload_n (pc' := 2) dX11_spreadOf_1 rfl rfl (q_cVi (pc' := 5) dX11_spreadOf_2 rfl ml_RX11_314 yv_X11_setMany (by decide) (rn_X11_setMany hM hb hk hd) ⟨by omega, rfl⟩ rfl rfl (Nat.le_of_ble_eq_true rfl) (Nat.le_refl _) (q_ist_3 (pc' := 6) dX11_spreadOf_5 rfl (by decide) rfl (q_iconst (pc' := 7) _ dX11_spreadOf_6 rfl kk_iconst_0 (q_ist_4 (pc' := 9) dX11_spreadOf_7 rfl (by decide) rfl (q_iconst (pc' := 10) _ dX11_spreadOf_9 rfl kk_iconst_0 (q_ist_5 (pc' := 12) dX11_spreadOf_10 rfl (by decide) rfl (q_iconst (pc' := 13) _ dX11_spreadOf_12 rfl kk_iconst_0 (q_ist_6 (pc' := 15) dX11_spreadOf_13 rfl (by decide) rfl ?_)))))))))
  have loop : ∀ m k (o7 : Option Value), k + m = b 0 0 → Wq dd_X11_spreadOf (mj_mk w l 472 Y) Q 15 [some (.ref 452), some (.int (nI d)), some (.int (nI q)), some (.int (nI (aSetN b d (b 0 0)))), some (.int (nI (bitN (aSpP b d q) k))), some (.int (nI (aSetN b d k))), some (.int (nI k)), o7] [] (472, I, J, R) := by
    intro m
    induction m with
    | zero =>
      intro k o7 hkm
      have hkz : k = b 0 0 := by omega
      subst hkz
      exact q_iload (pc' := 17) dX11_spreadOf_15 rfl rfl (q_aload_n (pc' := 18) dX11_spreadOf_17 rfl rfl (q_getIe (pc' := 21) dX11_spreadOf_18 rfl fr_RX11_240 ⟨by omega, rfl⟩ rfl (mB_0 hb) (q_icmp_ge (pc' := 24) (pt := 116) dX11_spreadOf_21 rfl rfl (fun _ => (q_iload (pc' := 118) dX11_spreadOf_116 rfl rfl (q_iret dX11_spreadOf_118 rfl hQ))) (fun h9 => absurd (by (first | assumption | exact nI_le (by omega) (by omega) | exact nI_ge (by omega) (by omega) | exact nI_lt (by omega) (by omega) | exact nI_nlt (by omega) (by omega) | exact nI_ne (by omega) (by omega) (by omega) | exact nI_e (by omega) | decide)) h9))))
    | succ m ih =>
      intro k o7 hkm
      have hik : aSetN b d k ≤ 8 := Nat.le_trans (cntN_le _ _) (by omega)
      refine q_iload (pc' := 17) dX11_spreadOf_15 rfl rfl (q_aload_n (pc' := 18) dX11_spreadOf_17 rfl rfl (q_getIe (pc' := 21) dX11_spreadOf_18 rfl fr_RX11_240 ⟨by omega, rfl⟩ rfl (mB_0 hb) (q_icmp_ge (pc' := 24) (pt := 116) dX11_spreadOf_21 rfl rfl (fun h9 => absurd h9 (by (first | assumption | exact nI_le (by omega) (by omega) | exact nI_ge (by omega) (by omega) | exact nI_lt (by omega) (by omega) | exact nI_nlt (by omega) (by omega) | exact nI_ne (by omega) (by omega) (by omega) | exact nI_e (by omega) | decide))) (fun _ => (q_aload_n (pc' := 25) dX11_spreadOf_24 rfl rfl (q_getR (pc' := 28) dX11_spreadOf_25 rfl fr_RX11_35 ⟨by omega, rfl⟩ rfl (wM_31 hM) (by decide) (q_iload_n (pc' := 29) dX11_spreadOf_28 rfl rfl (q_ialde (pc' := 30) _ dX11_spreadOf_29 rfl (by first | exact ⟨by omega, rfl⟩ | exact okaS hi hz (by decide) rfl | assumption) rfl (by omega) (hb.2.2.2 d hd).2.2 (q_iload (pc' := 32) dX11_spreadOf_30 rfl rfl (q_cSi (pc' := 35) dX11_spreadOf_32 rfl ml_RX11_192 ys_X11_isOf (by decide) (rn_X11_isOf) rfl rfl (Nat.le_of_ble_eq_true rfl) (Nat.le_refl _) (q_ifb_ne (pc' := 38) (pt := 41) dX11_spreadOf_35 rfl rfl (fun h1 => ?_) (fun h1 => ?_))))))))))))
      · rw [bitS_nI (by omega) (by omega)] at h1
        have hm1 : 1 ≤ aSetN b d (b 0 0) := cntN_pos (k := k) (by omega) h1
        have tail : ∀ r : Bool, aSpP b d q k = r → Wq dd_X11_spreadOf (mj_mk w l 472 Y) Q 87 [some (.ref 452), some (.int (nI d)), some (.int (nI q)), some (.int (nI (aSetN b d (b 0 0)))), some (.int (nI (bitN (aSpP b d q) k))), some (.int (nI (aSetN b d k))), some (.int (nI k)), o7] [.int (bI r)] (472, I, J, R) := by
          intro r hr
          have e2 : nI (aSetN b d k) + nI 1 = nI (aSetN b d (k + 1)) := by
            have := nI_cnt (fun p => (b 3 d).testBit p) k
            rw [h1] at this
            exact this
          have go9 : Wq dd_X11_spreadOf (mj_mk w l 472 Y) Q 107 [some (.ref 452), some (.int (nI d)), some (.int (nI q)), some (.int (nI (aSetN b d (b 0 0)))), some (.int (nI (bitN (aSpP b d q) (k + 1)))), some (.int (nI (aSetN b d k))), some (.int (nI k)), some (.int (bI r))] [] (472, I, J, R) := by
            refine q_iinc_5 (pc' := 110) _ dX11_spreadOf_107 rfl (by decide) rfl e2 ?_
            refine q_inc_6 (pc' := 113) dX11_spreadOf_110 rfl (by decide) rfl (q_goto (pc' := 15) dX11_spreadOf_113 rfl ?_)
            exact ih (k + 1) _ (by omega)
          cases r with
          | true =>
            refine q_ist_7 (pc' := 89) dX11_spreadOf_87 rfl (by decide) rfl (q_iload (pc' := 91) dX11_spreadOf_89 rfl rfl (q_iload (pc' := 93) dX11_spreadOf_91 rfl rfl (q_ifb_eq (pc' := 96) (pt := 103) dX11_spreadOf_93 rfl rfl (fun h9 => by cases h9) (fun _ => (q_iconst (pc' := 97) _ dX11_spreadOf_96 rfl kk_iconst_1 (q_iload (pc' := 99) dX11_spreadOf_97 rfl rfl (q_ishl (pc' := 100) dX11_spreadOf_99 rfl ?_)))))))
            refine q_top (y := nI ((if aSpP b d q k = true then 1 else 0) * 2 ^ k)) (by rw [sh1 (by omega), if_pos hr, Nat.one_mul]) ?_
            refine q_goto (pc' := 104) dX11_spreadOf_100 rfl (q_ior (pc' := 105) dX11_spreadOf_104 rfl ?_)
            refine q_top (bitN_or (aSpP b d q) k) ?_
            refine q_ist_4 (pc' := 107) dX11_spreadOf_105 rfl (by decide) rfl ?_
            exact go9
          | false =>
            refine q_ist_7 (pc' := 89) dX11_spreadOf_87 rfl (by decide) rfl (q_iload (pc' := 91) dX11_spreadOf_89 rfl rfl (q_iload (pc' := 93) dX11_spreadOf_91 rfl rfl (q_ifb_eq (pc' := 96) (pt := 103) dX11_spreadOf_93 rfl rfl (fun _ => (q_iconst (pc' := 104) _ dX11_spreadOf_103 rfl kk_iconst_0 ?_)) (fun h9 => by cases h9))))
            refine q_top (y := nI ((if aSpP b d q k = true then 1 else 0) * 2 ^ k)) (by rw [if_neg (by rw [hr]; decide), Nat.zero_mul]) ?_
            refine q_ior (pc' := 105) dX11_spreadOf_104 rfl ?_
            refine q_top (bitN_or (aSpP b d q) k) ?_
            refine q_ist_4 (pc' := 107) dX11_spreadOf_105 rfl (by decide) rfl ?_
            exact go9
        refine q_iload_n (pc' := 42) dX11_spreadOf_41 rfl rfl (q_aload_n (pc' := 43) dX11_spreadOf_42 rfl rfl (q_getR (pc' := 46) dX11_spreadOf_43 rfl fr_RX11_32 ⟨by omega, rfl⟩ rfl (wM_30 hM) (by decide) (q_iload_n (pc' := 47) dX11_spreadOf_46 rfl rfl (q_ialde (pc' := 48) _ dX11_spreadOf_47 rfl (by first | exact ⟨by omega, rfl⟩ | exact okaS hi hz (by decide) rfl | assumption) rfl (by omega) (hb.2.2.2 d hd).2.1 (q_icmp_lt (pc' := 51) (pt := 74) dX11_spreadOf_48 rfl rfl (fun h2 => ?_) (fun h2 => ?_))))))
        · have h3 : ¬ b 2 d ≤ aSetN b d (b 0 0) := by
            have := (nI_ltI (by omega) (by omega)).mp h2
            omega
          have e1 := pk_rem (a := q) (d := aSetN b d (b 0 0)) (by omega) (by omega) (by omega)
          have h9 : q % aSetN b d (b 0 0) < 8 := Nat.lt_of_le_of_lt (Nat.mod_le _ _) hq
          refine q_iload_n (pc' := 75) dX11_spreadOf_74 rfl rfl (q_iload_n (pc' := 76) dX11_spreadOf_75 rfl rfl (q_irem (pc' := 77) dX11_spreadOf_76 rfl (nI_ne0 (by omega) (by omega)) ?_))
          refine q_top e1 ?_
          refine q_iload (pc' := 79) dX11_spreadOf_77 rfl rfl (q_bl_icmp_ne (p4 := 87) dX11_spreadOf_79 dX11_spreadOf_82 dX11_spreadOf_83 dX11_spreadOf_86 rfl rfl rfl rfl rfl ?_)
          rw [nI_dec (a := q % aSetN b d (b 0 0)) (b := aSetN b d k) (by omega) (by omega)]
          exact tail _ (by unfold aSpP; rw [h1, if_neg h3]; rfl)
        · have h3 : b 2 d ≤ aSetN b d (b 0 0) := by
            have : ¬ aSetN b d (b 0 0) < b 2 d := fun z => h2 ((nI_ltI (by omega) (by omega)).mpr z)
            omega
          have h7 : aSetN b d k * b 2 d ≤ 8 * 8 := Nat.mul_le_mul hik hs.2.1.2
          have e1 := pk_div (a := aSetN b d k * b 2 d) (d := aSetN b d (b 0 0)) (by omega) (by omega) (by omega)
          have h8 := Nat.div_le_self (aSetN b d k * b 2 d) (aSetN b d (b 0 0))
          refine q_iload (pc' := 53) dX11_spreadOf_51 rfl rfl (q_aload_n (pc' := 54) dX11_spreadOf_53 rfl rfl (q_getR (pc' := 57) dX11_spreadOf_54 rfl fr_RX11_32 ⟨by omega, rfl⟩ rfl (wM_30 hM) (by decide) (q_iload_n (pc' := 58) dX11_spreadOf_57 rfl rfl (q_ialde (pc' := 59) _ dX11_spreadOf_58 rfl (by first | exact ⟨by omega, rfl⟩ | exact okaS hi hz (by decide) rfl | assumption) rfl (by omega) (hb.2.2.2 d hd).2.1 (q_imul (pc' := 60) dX11_spreadOf_59 rfl ?_)))))
          refine q_top (pk_mul _ _) ?_
          refine q_iload_n (pc' := 61) dX11_spreadOf_60 rfl rfl (q_idiv (pc' := 62) dX11_spreadOf_61 rfl (nI_ne0 (by omega) (by omega)) ?_)
          refine q_top e1 ?_
          by_cases h5 : aSetN b d k * b 2 d / aSetN b d (b 0 0) = q
          · refine q_iload_n (pc' := 63) dX11_spreadOf_62 rfl rfl (q_icmp_ne (pc' := 66) (pt := 70) dX11_spreadOf_63 rfl rfl (fun h9 => absurd (nI_e h5) h9) (fun _ => ?_))
            refine q_iconst (bI true) dX11_spreadOf_66 rfl rfl ?_
            refine q_goto (pc' := 87) dX11_spreadOf_67 rfl ?_
            exact tail _ (by unfold aSpP; rw [h1, if_pos h3, h5]; simp)
          · refine q_iload_n (pc' := 63) dX11_spreadOf_62 rfl rfl (q_icmp_ne (pc' := 66) (pt := 70) dX11_spreadOf_63 rfl rfl (fun _ => ?_) (fun h9 => absurd h9 (nI_ne h5 (by omega) (by omega))))
            refine q_iconst (bI false) dX11_spreadOf_70 rfl rfl ?_
            refine q_goto (pc' := 87) dX11_spreadOf_71 rfl ?_
            exact tail _ (by unfold aSpP; rw [h1, if_pos h3, beq_eq_false_iff_ne.mpr h5]; rfl)
      · rw [bitS_nI (by omega) (by omega)] at h1
        have e1 : bitN (aSpP b d q) (k + 1) = bitN (aSpP b d q) k := by
          show bitN (aSpP b d q) k + (if aSpP b d q k = true then 1 else 0) * 2 ^ k = _
          rw [if_neg (by unfold aSpP; rw [h1]; exact fun z => Bool.noConfusion z), Nat.zero_mul]
          rfl
        have e2 : aSetN b d (k + 1) = aSetN b d k := by
          show aSetN b d k + (if (b 3 d).testBit k = true then 1 else 0) = _
          rw [h1]; rfl
        refine q_goto (pc' := 110) dX11_spreadOf_38 rfl (q_inc_6 (pc' := 113) dX11_spreadOf_110 rfl (by decide) rfl (q_goto (pc' := 15) dX11_spreadOf_113 rfl ?_))
        have := ih (k + 1) o7 (by omega)
        rw [e1, e2] at this
        exact this
  exact loop (b 0 0) 0 none (by omega)
end M5
