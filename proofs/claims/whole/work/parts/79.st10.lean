/-! ===== the class: MOVE ===== -/
def sOth (set p : Nat) : Nat := bitN (fun u => set.testBit u && (u != p)) 32
theorem bitN_self {s : Nat} (hs : s < 2 ^ 32) : bitN (fun u => s.testBit u) 32 = s := by
  apply Nat.eq_of_testBit_eq
  intro k
  rw [bitN_bit]
  by_cases hk : k < 32
  · rw [decide_eq_true hk, Bool.true_and]
  · rw [decide_eq_false hk, Bool.false_and, Nat.testBit_lt_two_pow (Nat.lt_of_lt_of_le hs (Nat.pow_le_pow_right (by decide) (by omega)))]
theorem sOth_e {set p : Nat} (hs : set < 2 ^ 32) : nI set &&& (nI (2 ^ p) ^^^ (-1)) = nI (sOth set p) := by
  have h1 := clr_e (P := fun u => set.testBit u) (n := 32) (v := p) (Nat.le_refl _)
  rw [bitN_self hs] at h1
  exact h1
theorem sOth_lt {set p : Nat} : sOth set p < 2 ^ 32 := bitN_lt _ _
section MV
variable {b A : St}
theorem sOth_bit {set p j : Nat} (hk : bOK b) (hj : j < b 0 0) : (sOth set p).testBit j = (aOth b set p).testBit j := by
  have h8 := hk.1.2
  unfold sOth aOth
  rw [bitN_bit, bitN_bit, decide_eq_true hj, decide_eq_true (show j < 32 by omega)]
theorem oth_dealt {set p n : Nat} (hk : bOK b) : aDealt b A n (sOth set p) = aDealt b A n (aOth b set p) := by
  unfold aDealt
  refine lstN_congr (fun j hj => ?_) (fun _ _ _ => rfl)
  unfold aDP
  rw [sOth_bit hk hj]
theorem oth_dl {set p n : Nat} (hk : bOK b) : aDl b A (sOth set p) n = aDl b A (aOth b set p) n := by unfold aDl; rw [oth_dealt hk]
theorem oth_least {set p s : Nat} (hk : bOK b) : aLeast b A (s &&& sOth set p) = aLeast b A (aOth b set p &&& s) := by
  unfold aLeast
  refine lstN_congr (fun j hj => ?_) (fun _ _ _ => rfl)
  unfold aLP
  rw [Nat.testBit_and, Nat.testBit_and, sOth_bit hk hj, Bool.and_comm (s.testBit j)]
theorem anyN_iff {P : Nat → Bool} {n : Nat} : anyN P n = true ↔ ∃ k, k < n ∧ P k = true := by
  induction n with
  | zero => exact ⟨fun h => (by cases h), fun ⟨k, hk, _⟩ => by omega⟩
  | succ n ih =>
    unfold anyN
    rw [Bool.or_eq_true, ih]
    constructor
    · rintro (⟨k, h1, h2⟩ | h)
      · exact ⟨k, by omega, h2⟩
      · exact ⟨n, by omega, h⟩
    · rintro ⟨k, h1, h2⟩
      by_cases e : k = n
      · subst e; exact Or.inr h2
      · exact Or.inl ⟨k, by omega, h2⟩
/-- whether a MOVE is under way -/
theorem any_d {d k : Nat} (h1 : b 1 d = 1 → b 2 d = 1) (hr : b 1 d = 1 ∨ b 1 d = 2) (hk : k < b 2 d) : aAny b A d k = anyN (fun j => A 4 (8 * d + j) != 0) (b 2 d) := by
  unfold aAny
  rcases hr with e | e
  · have e2 := h1 e
    rw [e, show ((1:Nat) == 2) = false from rfl, Bool.false_and, Bool.or_false, e2]
    have : k = 0 := by omega
    rw [this]
    show _ = (false || (A 4 (8 * d + 0) != 0))
    rw [Bool.false_or]
  · rw [e, show ((2:Nat) == 2) = true from rfl, Bool.true_and]
    cases hc : (A 4 (8 * d + k) != 0) with
    | false => rw [Bool.false_or]
    | true =>
      rw [Bool.true_or, Eq.comm, anyN_iff]
      exact ⟨k, hk, hc⟩
theorem moves_0 {id p : Nat} : aMoves A id p 0 = mj_up (mj_up A 0 (A 3 id - 1) 3) 0 p 2 0 := by
  unfold aMoves
  rw [holds_0]
  funext j
  by_cases e : j = p
  · rw [e, mj_up_eq, mj_up_eq]
  · rw [mj_up_ne2 e, mj_up_ne2 e]
    by_cases e2 : j = A 3 id - 1
    · rw [e2, mj_up_eq, mj_up_eq]
    · rw [mj_up_ne2 e2, mj_up_ne2 e2, mj_up_ne (by decide), mj_up_ne (by decide)]
theorem moves_g {id p g : Nat} (h0 : g ≠ 0) (h1 : g ≠ 1) (h3 : g ≠ 3) (h4 : g ≠ 4) (h5 : g ≠ 5) : aMoves A id p g = A g := by
  unfold aMoves
  rw [holds_g h0 h1 h3, up_f h0, up_f h5, up_f h4]
theorem moves_1 {id p : Nat} : aMoves A id p 1 = mj_up A 1 p (id + 1) 1 := by
  unfold aMoves aHolds aSets
  rw [up_f (by decide)]
  funext j
  by_cases e : j = p
  · rw [e, mj_up_eq, mj_up_eq]
  · simp only [mj_up_ne2 e]
    rw [mj_up_ne (by decide), mj_up_ne (by decide), mj_up_ne (by decide)]
theorem moves_3 {id p : Nat} : aMoves A id p 3 = mj_up A 3 id (p + 1) 3 := by
  unfold aMoves aHolds aSets
  funext j
  by_cases e : j = id
  · rw [e, mj_up_eq, mj_up_eq]
  · rw [mj_up_ne2 e, mj_up_ne2 e, mj_up_ne (by decide), mj_up_ne (by decide), mj_up_ne (by decide), mj_up_ne (by decide), mj_up_ne (by decide)]
theorem moves_4 {id p : Nat} : aMoves A id p 4 = mj_up A 4 id (A 3 id) 4 := by
  unfold aMoves
  rw [holds_g (by decide) (by decide) (by decide), up_f (by decide), up_f (by decide)]
theorem moves_5 {id p : Nat} : aMoves A id p 5 = mj_up A 5 id 0 5 := by
  unfold aMoves
  rw [holds_g (by decide) (by decide) (by decide), up_f (by decide)]
  funext j
  by_cases e : j = id
  · rw [e, mj_up_eq, mj_up_eq]
  · simp only [mj_up_ne2 e]
end MV
section ST10
variable {w : mj_Wd} {l : Launch} {I : mj_M} {J : mj_J} {R : mj_R} {b A : St} {i : Nat}
theorem rs_X5_replace {id p : Nat} (hi : i < 21) (hS : mj_wS R i) (hk : bOK b) (h : cR I i b A) (hid : id < 80) (h3 : A 3 id ≠ 0) (q1 : A 3 id - 1 < 256) (q2 : (A 3 id - 1) % 32 < b 0 1) (ho : A 1 (A 3 id - 1) = id + 1) (h5 : A 5 id = 0) (h256 : p < 256) (hv : p % 32 < b 0 1) : RsV w l yX5_replace dd_X5_replace [.ref (sA i 0), .int (nI id), .int (nI p)] (472, I, J, R) (fun I' => cR I' i b (aMoves A id p) ∧ mS i I I') := by
  have hz : 50 + 20 * i ≤ 472 := by omega
  have e3 : I (sA i 7) id = nI (A 3 id - 1) := (h.2.2.2 id hid).1.trans (lD_p (by omega))
  have hput := rs_X4_put (w := w) (l := l) (J := J) (R := R) (k := A 3 id - 1) (s := 3) (o := id + 1) hi hS hk h.1 q1 q2 (by decide)
  rw [lD_s] at hput
  refine rt_intro2 (L := [some (.ref (sA i 0)), some (.int (nI id)), some (.int (nI p))]) ⟨by decide, rfl, (fun h => by cases h)⟩ (Nat.le_of_ble_eq_true rfl) rfl (fun Y Q hQ => ?_)
  refine q_aload_n (pc' := 1) dX5_replace_0 rfl rfl (q_getR (pc' := 4) dX5_replace_1 rfl fr_RX5_41 (okS hi hz (by decide) rfl) rfl (wS_5_1 hS) (sA_lt hi (by decide)) (q_aload_n (pc' := 5) dX5_replace_4 rfl rfl (q_getR (pc' := 8) dX5_replace_5 rfl fr_RX5_18 (okS hi hz (by decide) rfl) rfl (wS_5_5 hS) (sA_lt hi (by decide)) (q_iload_n (pc' := 9) dX5_replace_8 rfl rfl (q_ialde (pc' := 10) (id) dX5_replace_9 rfl (by first | exact ⟨by omega, rfl⟩ | exact okaS hi hz (by decide) rfl | assumption) (by (first | (simp only [nI_add, pk_mul]; done) | (simp only [nI_add, pk_mul]; exact nI_e (by omega)) | exact nI_e (by omega))) (by omega) e3 (q_iconst (pc' := 11) _ dX5_replace_10 rfl kk_iconst_3 (q_iload_n (pc' := 12) dX5_replace_11 rfl rfl (q_sVv (pc' := 15) dX5_replace_12 rfl ml_RX5_100 yv_X4_put (by decide) (hput) (okS hi hz (by decide) rfl) rfl rfl (Nat.le_of_ble_eq_true rfl) (Nat.le_refl _) (fun I1 ⟨r1, f1⟩ => ?_)))))))))
  have h1 := cR_rows h r1 f1 (fun g hg => by unfold aSets; rw [up_f (by omega), up_f (by omega)])
  have e3' : I1 (sA i 7) id = nI (A 3 id - 1) := (f1.lo (c := 7) (by decide)) ▸ e3
  have h2 : cR (mj_up I1 (sA i 8) id (nI (A 3 id - 1))) i b (mj_up (aSets A (A 3 id - 1) 3 (id + 1)) 4 id (A 3 id)) := cR_ln (x := A 3 id) (Or.inr (Or.inl ⟨rfl, rfl, (lD_p (by omega)).symm⟩)) h1
  refine q_aload_n (pc' := 16) dX5_replace_15 rfl rfl (q_getR (pc' := 19) dX5_replace_16 rfl fr_RX5_22 (okS hi hz (by decide) rfl) rfl (wS_5_6 hS) (sA_lt hi (by decide)) (q_iload_n (pc' := 20) dX5_replace_19 rfl rfl (q_aload_n (pc' := 21) dX5_replace_20 rfl rfl (q_getR (pc' := 24) dX5_replace_21 rfl fr_RX5_18 (okS hi hz (by decide) rfl) rfl (wS_5_5 hS) (sA_lt hi (by decide)) (q_iload_n (pc' := 25) dX5_replace_24 rfl rfl (q_ialde (pc' := 26) (id) dX5_replace_25 rfl (by first | exact ⟨by omega, rfl⟩ | exact okaS hi hz (by decide) rfl | assumption) (by (first | (simp only [nI_add, pk_mul]; done) | (simp only [nI_add, pk_mul]; exact nI_e (by omega)) | exact nI_e (by omega))) (by omega) e3' (q_iast (pc' := 27) (id) dX5_replace_26 rfl (by first | exact ⟨by omega, rfl⟩ | exact okaS hi hz (by decide) rfl | assumption) (by (first | (simp only [nI_add, pk_mul]; done) | (simp only [nI_add, pk_mul]; exact nI_e (by omega)) | exact nI_e (by omega))) (by omega) (q_aload_n (pc' := 28) dX5_replace_27 rfl rfl (q_iload_n (pc' := 29) dX5_replace_28 rfl rfl (q_iload_n (pc' := 30) dX5_replace_29 rfl rfl (q_sVv (pc' := 33) dX5_replace_30 rfl ml_RX5_144 yv_X5_hold (by decide) (rs_X5_hold hi hS hk h2 hid h256 hv) (okS hi hz (by decide) rfl) rfl rfl (Nat.le_of_ble_eq_true rfl) (Nat.le_refl _) (fun I2 ⟨r2, f2⟩ => ?_))))))))))))
  refine q_vret dX5_replace_33 rfl (hQ _ _ _ _ ⟨rfl, ⟨rfl, rfl⟩, ?_, (f1.s.tr (mS_up (by decide))).tr f2⟩)
  have e : aMoves A id p = aHolds (mj_up (aSets A (A 3 id - 1) 3 (id + 1)) 4 id (A 3 id)) id p := by
    unfold aMoves
    congr 1
    unfold aSets
    have e5 : mj_up (mj_up A 4 id (A 3 id)) 5 id 0 = mj_up A 4 id (A 3 id) := mj_up_self (by rw [mj_up_ne (by decide)]; exact h5)
    have e1 : mj_up (mj_up A 0 (A 3 id - 1) 3) 1 (A 3 id - 1) (id + 1) = mj_up A 0 (A 3 id - 1) 3 := mj_up_self (by rw [mj_up_ne (by decide)]; exact ho)
    rw [e5, e1, mj_up_com (show (4:Nat) ≠ 0 by decide)]
  rw [e]
  exact r2
theorem rn_X5_hasOld {f n : Nat} (hi : i < 21) (hS : mj_wS R i) (h : cRs I i A) (hA : aOK A) (hf : f + n ≤ 80) : Rn w l yX5_hasOld dd_X5_hasOld [.ref (sA i 0), .int (nI f), .int (nI n)] (472, I, J, R) (some (.int (bI (anyN (fun j => A 4 (f + j) != 0) n)))) (472, I, J, R) := by
  have hz : 50 + 20 * i ≤ 472 := by omega
  refine rn_intro2 (L := [some (.ref (sA i 0)), some (.int (nI f)), some (.int (nI n)), none]) ⟨by decide, rfl, (fun h => by cases h)⟩ (Nat.le_refl _) (Nat.le_of_ble_eq_true rfl) rfl (fun Y Q hQ => ?_)
  have loop : ∀ m k, k + m = n → (∀ j, j < k → (A 4 (f + j) != 0) = false) → Wq dd_X5_hasOld (mj_mk w l 472 Y) Q 2 [some (.ref (sA i 0)), some (.int (nI f)), some (.int (nI n)), some (.int (nI (f + k)))] [] (472, I, J, R) := by
    intro m
    induction m with
    | zero =>
      intro k hkm hno
      have hkz : k = n := by omega
      subst hkz
      have e : anyN (fun j => A 4 (f + j) != 0) k = false := by
        refine Bool.eq_false_iff.mpr (fun q => ?_)
        obtain ⟨j, j1, j2⟩ := anyN_iff.mp q
        rw [hno j j1] at j2
        cases j2
      rw [e] at hQ
      refine q_iload_n (pc' := 3) dX5_hasOld_2 rfl rfl (q_iload_n (pc' := 4) dX5_hasOld_3 rfl rfl (q_iload_n (pc' := 5) dX5_hasOld_4 rfl rfl (q_iadd (pc' := 6) dX5_hasOld_5 rfl ?_)))
      refine q_top (nI_add _ _) ?_
      exact q_icmp_ge (pc' := 9) (pt := 27) dX5_hasOld_6 rfl rfl (fun _ => (q_iconst (pc' := 28) _ dX5_hasOld_27 rfl kk_iconst_0 (q_zret dX5_hasOld_28 rfl (by first | exact Or.inl rfl | exact Or.inr rfl | exact bI_01 _) hQ))) (fun h9 => absurd (by (first | assumption | exact nI_le (by omega) (by omega) | exact nI_ge (by omega) (by omega) | exact nI_lt (by omega) (by omega) | exact nI_nlt (by omega) (by omega) | exact nI_ne (by omega) (by omega) (by omega) | exact nI_e (by omega) | decide)) h9)
    | succ m ih =>
      intro k hkm hno
      have c4 := (hA.2.1 (f + k) (by omega)).2.1
      have e4 : I (sA i 8) (f + k) = lD (A 4 (f + k)) := (h.2 _ (by omega)).2.1
      refine q_iload_n (pc' := 3) dX5_hasOld_2 rfl rfl (q_iload_n (pc' := 4) dX5_hasOld_3 rfl rfl (q_iload_n (pc' := 5) dX5_hasOld_4 rfl rfl (q_iadd (pc' := 6) dX5_hasOld_5 rfl ?_)))
      refine q_top (nI_add _ _) ?_
      by_cases hc : A 4 (f + k) = 0
      · refine q_icmp_ge (pc' := 9) (pt := 27) dX5_hasOld_6 rfl rfl (fun h9 => absurd h9 (Int32.not_le.mpr (nI_lt (by omega) (by omega)))) (fun _ => (q_aload_n (pc' := 10) dX5_hasOld_9 rfl rfl (q_getR (pc' := 13) dX5_hasOld_10 rfl fr_RX5_22 (okS hi hz (by decide) rfl) rfl (wS_5_6 hS) (sA_lt hi (by decide)) (q_iload_n (pc' := 14) dX5_hasOld_13 rfl rfl (q_ialde (pc' := 15) (f + k) dX5_hasOld_14 rfl (by first | exact ⟨by omega, rfl⟩ | exact okaS hi hz (by decide) rfl | assumption) (by (first | (simp only [nI_add, pk_mul]; done) | (simp only [nI_add, pk_mul]; exact nI_e (by omega)) | exact nI_e (by omega))) (by omega) e4 (q_iconst (pc' := 16) _ dX5_hasOld_15 rfl kk_iconst_m1 (q_icmp_eq (pc' := 19) (pt := 21) dX5_hasOld_16 rfl rfl (fun _ => (q_inc_3 (pc' := 24) dX5_hasOld_21 rfl (by decide) rfl (q_goto (pc' := 2) dX5_hasOld_24 rfl ?_))) (fun h9 => absurd (by rw [hc]; rfl) h9))))))))
        exact ih (k + 1) (by omega) (fun j hj => by
          by_cases e : j = k
          · rw [e, hc]; rfl
          · exact hno j (by omega))
      · have e : anyN (fun j => A 4 (f + j) != 0) n = true := anyN_iff.mpr ⟨k, by omega, bne_iff_ne.mpr hc⟩
        rw [e] at hQ
        exact q_icmp_ge (pc' := 9) (pt := 27) dX5_hasOld_6 rfl rfl (fun h9 => absurd h9 (Int32.not_le.mpr (nI_lt (by omega) (by omega)))) (fun _ => (q_aload_n (pc' := 10) dX5_hasOld_9 rfl rfl (q_getR (pc' := 13) dX5_hasOld_10 rfl fr_RX5_22 (okS hi hz (by decide) rfl) rfl (wS_5_6 hS) (sA_lt hi (by decide)) (q_iload_n (pc' := 14) dX5_hasOld_13 rfl rfl (q_ialde (pc' := 15) (f + k) dX5_hasOld_14 rfl (by first | exact ⟨by omega, rfl⟩ | exact okaS hi hz (by decide) rfl | assumption) (by (first | (simp only [nI_add, pk_mul]; done) | (simp only [nI_add, pk_mul]; exact nI_e (by omega)) | exact nI_e (by omega))) (by omega) e4 (q_iconst (pc' := 16) _ dX5_hasOld_15 rfl kk_iconst_m1 (q_icmp_eq (pc' := 19) (pt := 21) dX5_hasOld_16 rfl rfl (fun h9 => absurd h9 (by rw [lD_p (by omega)]; exact nI_m1 (by omega))) (fun _ => (q_iconst (pc' := 20) _ dX5_hasOld_19 rfl kk_iconst_1 (q_zret dX5_hasOld_20 rfl (by first | exact Or.inl rfl | exact Or.inr rfl | exact bI_01 _) hQ))))))))))
  refine q_iload_n (pc' := 1) dX5_hasOld_0 rfl rfl (q_ist_3 (pc' := 2) dX5_hasOld_1 rfl (by decide) rfl ?_)
  exact loop n 0 (by omega) (fun j hj => absurd hj (Nat.not_lt_zero _))
/-- what a LINE that is HELD has -/
def hldL (b A : St) (id : Nat) : Prop := A 3 id ≠ 0 → (A 3 id - 1 < 256 ∧ (A 3 id - 1) % 32 < b 0 1) ∧ A 1 (A 3 id - 1) = id + 1 ∧ A 0 (A 3 id - 1) = 2
theorem rn_X5_shift0 {x y z : Int32} (hi : i < 21) (hS : mj_wS R i) (hb : cB I b) (hk : bOK b) (hx : inN x (b 0 2) = false) : Rn w l yX5_shift dd_X5_shift [.ref (sA i 0), .int x, .int y, .int z] (472, I, J, R) (some (.int (nI 4))) (472, I, J, R) := by
  have hz : 50 + 20 * i ≤ 472 := by omega
  refine rn_intro2 (L := [some (.ref (sA i 0)), some (.int x), some (.int y), some (.int z), none, none, none, none, none, none]) ⟨by decide, rfl, (fun h => by cases h)⟩ (Nat.le_refl _) (Nat.le_of_ble_eq_true rfl) rfl (fun Y Q hQ => ?_)
  exact q_aload_n (pc' := 1) dX5_shift_0 rfl rfl (q_getR (pc' := 4) dX5_shift_1 rfl fr_RX5_32 (okS hi hz (by decide) rfl) rfl (wS_5_0 hS) (by decide) (q_iload_n (pc' := 5) dX5_shift_4 rfl rfl (q_iload_n (pc' := 6) dX5_shift_5 rfl rfl (q_cVi (pc' := 9) dX5_shift_6 rfl ml_RX5_193 yv_X0_hasLine (by decide) (rn_X0_hasLine0 hb hk hx) (by first | assumption | exact ⟨by omega, rfl⟩) rfl rfl (Nat.le_of_ble_eq_true rfl) (Nat.le_refl _) (q_ifb_eq (pc' := 12) (pt := 20) dX5_shift_9 rfl rfl (fun _ => (q_iconst (pc' := 21) _ dX5_shift_20 rfl kk_iconst_4 (q_iret dX5_shift_21 rfl hQ))) (fun h9 => Bool.noConfusion (Eq.trans (Eq.symm (rfl)) h9)))))))
theorem rn_X5_shift1 {d : Nat} {y z : Int32} (hi : i < 21) (hS : mj_wS R i) (hB : mj_wB R 4) (hb : cB I b) (hk : bOK b) (h : cR I i b A) (hd : d < b 0 2) (hn : inN y (b 2 d) = false) : Rn w l yX5_shift dd_X5_shift [.ref (sA i 0), .int (nI d), .int y, .int z] (472, I, J, R) (some (.int (nI 4))) (472, I, J, R) := by
  have hz : 50 + 20 * i ≤ 472 := by omega
  refine rn_intro2 (L := [some (.ref (sA i 0)), some (.int (nI d)), some (.int y), some (.int z), none, none, none, none, none, none]) ⟨by decide, rfl, (fun h => by cases h)⟩ (Nat.le_refl _) (Nat.le_of_ble_eq_true rfl) rfl (fun Y Q hQ => ?_)
  exact q_aload_n (pc' := 1) dX5_shift_0 rfl rfl (q_getR (pc' := 4) dX5_shift_1 rfl fr_RX5_32 (okS hi hz (by decide) rfl) rfl (wS_5_0 hS) (by decide) (q_iload_n (pc' := 5) dX5_shift_4 rfl rfl (q_iload_n (pc' := 6) dX5_shift_5 rfl rfl (q_cVi (pc' := 9) dX5_shift_6 rfl ml_RX5_193 yv_X0_hasLine (by decide) (rn_X0_hasLine hB hb hk hd) (by first | assumption | exact ⟨by omega, rfl⟩) rfl rfl (Nat.le_of_ble_eq_true rfl) (Nat.le_refl _) (q_ifb_eq (pc' := 12) (pt := 20) dX5_shift_9 rfl rfl (fun _ => (q_iconst (pc' := 21) _ dX5_shift_20 rfl kk_iconst_4 (q_iret dX5_shift_21 rfl hQ))) (fun h9 => Bool.noConfusion (Eq.trans (Eq.symm (hn)) h9)))))))
theorem rs_X5_shift {d k set : Nat} (hi : i < 21) (hS : mj_wS R i) (hB : mj_wB R 4) (hb : cB I b) (hk : bOK b) (h : cR I i b A) (hA : aOK A) (hd : d < b 0 2) (hl : k < b 2 d) (hset : b 3 d < 2 ^ b 0 0) (hs32 : set < 2 ^ 32) (h11 : b 1 d = 1 → b 2 d = 1)
    (hD : ∀ id, id < 80 → A 5 id = 1 → A 4 id ≠ 0) (hH : A 7 d = 1 → ∀ j, j < b 2 d → hldL b A (8 * d + j)) (hN : b 1 d ≠ 3 → A 7 d = 1 → ∀ j, j < b 2 d → A 3 (8 * d + j) ≠ 0)
    (hQr : b 1 d = 3 → A 7 d = 1 → A 3 (8 * d + k) ≠ 0 → A 4 (8 * d + k) = 0 → ∀ p, aLeast b A (aOth b set ((A 3 (8 * d + k) - 1) / 32) &&& aSpread b d k) = some p → ∃ v, aResv b A (8 * d + k) p = some v) : RsI w l yX5_shift dd_X5_shift [.ref (sA i 0), .int (nI d), .int (nI k), .int (nI set)] (472, I, J, R) (fun x I' => x = nI (aMove b A d k set).1 ∧ cR I' i b (aMove b A d k set).2 ∧ mS i I I') := by
  have hz : 50 + 20 * i ≤ 472 := by omega
  have h10 := hk.2.2.1
  have hs := hk.2.2.2 d hd
  have h32 := hk.2.1.2
  have hc8 := hk.1.2
  have hin : inN (nI k) (b 2 d) = true := inN_t (by omega) hl
  have e8 : 8 * d + k < 80 := by omega
  have hln := h.2.2.2 (8 * d + k) e8
  have c3 := (hA.2.1 (8 * d + k) e8).1
  refine rt_intro2 (L := [some (.ref (sA i 0)), some (.int (nI d)), some (.int (nI k)), some (.int (nI set)), none, none, none, none, none, none]) ⟨by decide, rfl, (fun h => by cases h)⟩ (Nat.le_of_ble_eq_true rfl) rfl (fun Y Q hQ => ?_)
  unfold aMove at hQ
  by_cases h7 : A 7 d = 1
  · by_cases h3 : A 3 (8 * d + k) = 0
    · rw [if_neg (fun q => q.2 h3)] at hQ
      have e3 : I (sA i 7) (8 * d + k) = -1 := by rw [hln.1, h3]; rfl
      refine q_aload_n (pc' := 1) dX5_shift_0 rfl rfl (q_getR (pc' := 4) dX5_shift_1 rfl fr_RX5_32 (okS hi hz (by decide) rfl) rfl (wS_5_0 hS) (by decide) (q_iload_n (pc' := 5) dX5_shift_4 rfl rfl (q_iload_n (pc' := 6) dX5_shift_5 rfl rfl (q_cVi (pc' := 9) dX5_shift_6 rfl ml_RX5_193 yv_X0_hasLine (by decide) (rn_X0_hasLine hB hb hk hd) (by first | assumption | exact ⟨by omega, rfl⟩) rfl rfl (Nat.le_of_ble_eq_true rfl) (Nat.le_refl _) (q_ifb_eq (pc' := 12) (pt := 20) dX5_shift_9 rfl rfl (fun h9 => Bool.noConfusion (Eq.trans (Eq.symm (hin)) h9)) (fun _ => (q_aload_n (pc' := 13) dX5_shift_12 rfl rfl (q_iload_n (pc' := 14) dX5_shift_13 rfl rfl (q_cVi (pc' := 17) dX5_shift_14 rfl ml_RX5_121 yv_X5_isStarted (by decide) (rn_X5_isStarted hi h.2.2 (by omega)) (okS hi hz (by decide) rfl) rfl rfl (Nat.le_of_ble_eq_true rfl) (Nat.le_refl _) (q_ifb_ne (pc' := 20) (pt := 22) dX5_shift_17 rfl rfl (fun _ => (q_iload_n (pc' := 23) dX5_shift_22 rfl rfl (q_bipush (pc' := 25) _ dX5_shift_23 rfl kk_bipush_8 (q_imul (pc' := 26) dX5_shift_25 rfl (q_iload_n (pc' := 27) dX5_shift_26 rfl rfl ?_))))) (fun h9 => Bool.noConfusion (Eq.trans (Eq.symm (beq_iff_eq.mpr h7)) h9))))))))))))
      refine q_iadd (pc' := 28) dX5_shift_27 rfl ?_
      refine q_top (y := nI (8 * d + k)) (by rw [pk_mul, nI_add, Nat.mul_comm d 8]) ?_
      exact q_ist_4 (pc' := 30) dX5_shift_28 rfl (by decide) rfl (q_aload_n (pc' := 31) dX5_shift_30 rfl rfl (q_getR (pc' := 34) dX5_shift_31 rfl fr_RX5_18 (okS hi hz (by decide) rfl) rfl (wS_5_5 hS) (sA_lt hi (by decide)) (q_iload (pc' := 36) dX5_shift_34 rfl rfl (q_ialde (pc' := 37) (8 * d + k) dX5_shift_36 rfl (by first | exact ⟨by omega, rfl⟩ | exact okaS hi hz (by decide) rfl | assumption) (by (first | (simp only [nI_add, pk_mul]; done) | (simp only [nI_add, pk_mul]; exact nI_e (by omega)) | exact nI_e (by omega))) (by omega) e3 (q_iconst (pc' := 38) _ dX5_shift_37 rfl kk_iconst_m1 (q_icmp_ne (pc' := 41) (pt := 43) dX5_shift_38 rfl rfl (fun h9 => absurd (rfl) h9) (fun _ => (q_iconst (pc' := 42) _ dX5_shift_41 rfl kk_iconst_4 (q_iret dX5_shift_42 rfl (hQ _ _ _ _ ⟨_, rfl, ⟨rfl, rfl⟩, rfl, h, mS.rf⟩))))))))))
    · rw [if_pos ⟨h7, h3⟩] at hQ
      have e3 : I (sA i 7) (8 * d + k) = nI (A 3 (8 * d + k) - 1) := hln.1.trans (lD_p (by omega))
      have edv := pk_div (a := A 3 (8 * d + k) - 1) (d := 32) (by omega) (by decide) (by decide)
      have hpl : (A 3 (8 * d + k) - 1) / 32 < 32 := by omega
      refine q_aload_n (pc' := 1) dX5_shift_0 rfl rfl (q_getR (pc' := 4) dX5_shift_1 rfl fr_RX5_32 (okS hi hz (by decide) rfl) rfl (wS_5_0 hS) (by decide) (q_iload_n (pc' := 5) dX5_shift_4 rfl rfl (q_iload_n (pc' := 6) dX5_shift_5 rfl rfl (q_cVi (pc' := 9) dX5_shift_6 rfl ml_RX5_193 yv_X0_hasLine (by decide) (rn_X0_hasLine hB hb hk hd) (by first | assumption | exact ⟨by omega, rfl⟩) rfl rfl (Nat.le_of_ble_eq_true rfl) (Nat.le_refl _) (q_ifb_eq (pc' := 12) (pt := 20) dX5_shift_9 rfl rfl (fun h9 => Bool.noConfusion (Eq.trans (Eq.symm (hin)) h9)) (fun _ => (q_aload_n (pc' := 13) dX5_shift_12 rfl rfl (q_iload_n (pc' := 14) dX5_shift_13 rfl rfl (q_cVi (pc' := 17) dX5_shift_14 rfl ml_RX5_121 yv_X5_isStarted (by decide) (rn_X5_isStarted hi h.2.2 (by omega)) (okS hi hz (by decide) rfl) rfl rfl (Nat.le_of_ble_eq_true rfl) (Nat.le_refl _) (q_ifb_ne (pc' := 20) (pt := 22) dX5_shift_17 rfl rfl (fun _ => (q_iload_n (pc' := 23) dX5_shift_22 rfl rfl (q_bipush (pc' := 25) _ dX5_shift_23 rfl kk_bipush_8 (q_imul (pc' := 26) dX5_shift_25 rfl (q_iload_n (pc' := 27) dX5_shift_26 rfl rfl ?_))))) (fun h9 => Bool.noConfusion (Eq.trans (Eq.symm (beq_iff_eq.mpr h7)) h9))))))))))))
      refine q_iadd (pc' := 28) dX5_shift_27 rfl ?_
      refine q_top (y := nI (8 * d + k)) (by rw [pk_mul, nI_add, Nat.mul_comm d 8]) ?_
      refine q_ist_4 (pc' := 30) dX5_shift_28 rfl (by decide) rfl (q_aload_n (pc' := 31) dX5_shift_30 rfl rfl (q_getR (pc' := 34) dX5_shift_31 rfl fr_RX5_18 (okS hi hz (by decide) rfl) rfl (wS_5_5 hS) (sA_lt hi (by decide)) (q_iload (pc' := 36) dX5_shift_34 rfl rfl (q_ialde (pc' := 37) (8 * d + k) dX5_shift_36 rfl (by first | exact ⟨by omega, rfl⟩ | exact okaS hi hz (by decide) rfl | assumption) (by (first | (simp only [nI_add, pk_mul]; done) | (simp only [nI_add, pk_mul]; exact nI_e (by omega)) | exact nI_e (by omega))) (by omega) e3 (q_iconst (pc' := 38) _ dX5_shift_37 rfl kk_iconst_m1 (q_icmp_ne (pc' := 41) (pt := 43) dX5_shift_38 rfl rfl (fun _ => ?_) (fun h9 => absurd h9 (nI_m1 (by omega)))))))))
      by_cases hm : b 1 d = 3
      · -- a QUEUE
        rw [if_pos hm] at hQ
        have ea : aAny b A d k = anyN (fun j => A 4 (8 * d + k + j) != 0) 1 := by
          unfold aAny
          rw [hm, show ((3:Nat) == 2) = false from rfl, Bool.false_and, Bool.or_false]
          show _ = (false || (A 4 (8 * d + k + 0) != 0))
          rw [Bool.false_or, Nat.add_zero]
        rw [ea] at hQ
        refine q_aload_n (pc' := 44) dX5_shift_43 rfl rfl (q_iload_n (pc' := 45) dX5_shift_44 rfl rfl (q_cVi (pc' := 48) dX5_shift_45 rfl ml_RX5_104 yv_X5_isManaged (by decide) (rn_X5_isManaged hi hS hB hb hk hd) (okS hi hz (by decide) rfl) rfl rfl (Nat.le_of_ble_eq_true rfl) (Nat.le_refl _) (q_ifb_eq (pc' := 51) (pt := 56) dX5_shift_48 rfl rfl (fun h9 => Bool.noConfusion (Eq.trans (Eq.symm (beq_iff_eq.mpr hm)) h9)) (fun _ => (q_iload (pc' := 53) dX5_shift_51 rfl rfl (q_goto (pc' := 60) dX5_shift_53 rfl (q_ist_5 (pc' := 62) dX5_shift_60 rfl (by decide) rfl (q_aload_n (pc' := 63) dX5_shift_62 rfl rfl (q_iload_n (pc' := 64) dX5_shift_63 rfl rfl (q_cVi (pc' := 67) dX5_shift_64 rfl ml_RX5_104 yv_X5_isManaged (by decide) (rn_X5_isManaged hi hS hB hb hk hd) (okS hi hz (by decide) rfl) rfl rfl (Nat.le_of_ble_eq_true rfl) (Nat.le_refl _) (q_ifb_eq (pc' := 70) (pt := 74) dX5_shift_67 rfl rfl (fun h9 => Bool.noConfusion (Eq.trans (Eq.symm (beq_iff_eq.mpr hm)) h9)) (fun _ => (q_iconst (pc' := 71) _ dX5_shift_70 rfl kk_iconst_1 (q_goto (pc' := 83) dX5_shift_71 rfl (q_ist_6 (pc' := 85) dX5_shift_83 rfl (by decide) rfl ?_)))))))))))))))
        refine q_aload_n (pc' := 86) dX5_shift_85 rfl rfl (q_iload (pc' := 88) dX5_shift_86 rfl rfl (q_iload (pc' := 90) dX5_shift_88 rfl rfl (q_cVi (pc' := 93) dX5_shift_90 rfl ml_RX5_221 yv_X5_hasOld (by decide) (rn_X5_hasOld hi hS h.2.2 hA (by omega)) (okS hi hz (by decide) rfl) rfl rfl (Nat.le_of_ble_eq_true rfl) (Nat.le_refl _) ?_)))
        by_cases hany : anyN (fun j => A 4 (8 * d + k + j) != 0) 1 = true
        · rw [if_pos hany] at hQ
          exact q_ifb_eq (pc' := 96) (pt := 98) dX5_shift_93 rfl rfl (fun h9 => Bool.noConfusion (Eq.trans (Eq.symm (hany)) h9)) (fun _ => (q_iconst (pc' := 97) _ dX5_shift_96 rfl kk_iconst_3 (q_iret dX5_shift_97 rfl (hQ _ _ _ _ ⟨_, rfl, ⟨rfl, rfl⟩, rfl, h, mS.rf⟩))))
        · rw [if_neg hany] at hQ
          have h4 : A 4 (8 * d + k) = 0 := Decidable.byContradiction fun q => hany (anyN_iff.mpr ⟨0, by decide, bne_iff_ne.mpr q⟩)
          have h5 : A 5 (8 * d + k) = 0 := by
            have := (hA.2.1 (8 * d + k) e8).2.2.1
            have : A 5 (8 * d + k) ≠ 1 := fun q => hD _ e8 q h4
            omega
          obtain ⟨hp1, hp2, hp3⟩ := hH h7 k hl h3
          have ed : (8 * d + k) / 8 = d := by omega
          have em : (8 * d + k) % 8 = k := by omega
          refine q_ifb_eq (pc' := 96) (pt := 98) dX5_shift_93 rfl rfl (fun _ => (q_iload_n (pc' := 99) dX5_shift_98 rfl rfl (q_iconst (pc' := 100) _ dX5_shift_99 rfl kk_iconst_1 (q_aload_n (pc' := 101) dX5_shift_100 rfl rfl (q_getR (pc' := 104) dX5_shift_101 rfl fr_RX5_18 (okS hi hz (by decide) rfl) rfl (wS_5_5 hS) (sA_lt hi (by decide)) (q_iload (pc' := 106) dX5_shift_104 rfl rfl (q_ialde (pc' := 107) (8 * d + k) dX5_shift_106 rfl (by first | exact ⟨by omega, rfl⟩ | exact okaS hi hz (by decide) rfl | assumption) (by (first | (simp only [nI_add, pk_mul]; done) | (simp only [nI_add, pk_mul]; exact nI_e (by omega)) | exact nI_e (by omega))) (by omega) e3 (q_bipush (pc' := 109) _ dX5_shift_107 rfl kk_bipush_32 (q_idiv (pc' := 110) dX5_shift_109 rfl (by decide) ?_))))))))) (fun h9 => Bool.noConfusion (Eq.trans (Eq.symm (Bool.eq_false_iff.mpr hany)) h9))
          refine q_top edv ?_
          refine q_ishl dX5_shift_110 rfl ?_
          refine q_top (sh32 _ hpl) ?_
          refine q_iconst (pc' := 112) _ dX5_shift_111 rfl kk_iconst_m1 (q_ixor (pc' := 113) dX5_shift_112 rfl (q_iand (pc' := 114) dX5_shift_113 rfl ?_))
          refine q_top (sOth_e hs32) ?_
          refine q_ist_7 (pc' := 116) dX5_shift_114 rfl (by decide) rfl (q_aload_n (pc' := 117) dX5_shift_116 rfl rfl (q_iload_n (pc' := 118) dX5_shift_117 rfl rfl (q_cVi (pc' := 121) dX5_shift_118 rfl ml_RX5_104 yv_X5_isManaged (by decide) (rn_X5_isManaged hi hS hB hb hk hd) (okS hi hz (by decide) rfl) rfl rfl (Nat.le_of_ble_eq_true rfl) (Nat.le_refl _) (q_ifb_eq (pc' := 124) (pt := 135) dX5_shift_121 rfl rfl (fun h9 => Bool.noConfusion (Eq.trans (Eq.symm (beq_iff_eq.mpr hm)) h9)) (fun _ => (q_aload_n (pc' := 125) dX5_shift_124 rfl rfl (q_iload (pc' := 127) dX5_shift_125 rfl rfl (q_iload (pc' := 129) dX5_shift_127 rfl rfl (q_cVi (pc' := 132) dX5_shift_129 rfl ml_RX5_162 yv_X5_leastLoadedPlace (by decide) (rn_X5_leastLoadedPlace hi hS hB hb hk h hA e8 (by rw [ed]; exact hd) (by rw [ed]; exact hm) (by rw [ed]; exact hset)) (okS hi hz (by decide) rfl) rfl rfl (Nat.le_of_ble_eq_true rfl) (Nat.le_refl _) (q_goto (pc' := 146) dX5_shift_132 rfl ?_))))))))))
          have elp : aLp b A (8 * d + k) (sOth set ((A 3 (8 * d + k) - 1) / 32)) = (match aLeast b A (aOth b set ((A 3 (8 * d + k) - 1) / 32) &&& aSpread b d k) with | none => none | some p => aRsP b A (8 * d + k) p) := by
            unfold aLp
            rw [ed, em, oth_least hk]
            cases aLeast b A (aOth b set ((A 3 (8 * d + k) - 1) / 32) &&& aSpread b d k) with
            | none => rfl
            | some p => exact if_neg (fun q => q.1 h4)
          rw [elp]
          unfold aMvQ at hQ
          cases hll : aLeast b A (aOth b set ((A 3 (8 * d + k) - 1) / 32) &&& aSpread b d k) with
          | none =>
            rw [hll] at hQ
            exact q_ist_8 (pc' := 148) dX5_shift_146 rfl (by decide) rfl (q_iload (pc' := 150) dX5_shift_148 rfl rfl (q_iconst (pc' := 151) _ dX5_shift_150 rfl kk_iconst_m1 (q_icmp_ne (pc' := 154) (pt := 156) dX5_shift_151 rfl rfl (fun h9 => absurd (rfl) h9) (fun _ => (q_iconst (pc' := 155) _ dX5_shift_154 rfl kk_iconst_1 (q_iret dX5_shift_155 rfl (hQ _ _ _ _ ⟨_, rfl, ⟨rfl, rfl⟩, rfl, h, mS.rf⟩)))))))
          | some p =>
            obtain ⟨v, hv⟩ := hQr hm h7 h3 h4 p hll
            have hrs := resv_some hv
            have hp0 := (lstN_lt hll).1
            rw [hll, Option.map_some, hv] at hQ
            have ep : aRsP b A (8 * d + k) p = some (32 * p + v) := by unfold aRsP; rw [hv]; rfl
            show Wq _ _ _ _ _ [.int (oI (aRsP b A (8 * d + k) p))] _
            rw [ep]
            refine q_ist_8 (pc' := 148) dX5_shift_146 rfl (by decide) rfl (q_iload (pc' := 150) dX5_shift_148 rfl rfl (q_iconst (pc' := 151) _ dX5_shift_150 rfl kk_iconst_m1 (q_icmp_ne (pc' := 154) (pt := 156) dX5_shift_151 rfl rfl (fun _ => (q_iconst (pc' := 157) _ dX5_shift_156 rfl kk_iconst_0 (q_ist_9 (pc' := 159) dX5_shift_157 rfl (by decide) rfl (q_iload (pc' := 161) dX5_shift_159 rfl rfl (q_iload (pc' := 163) dX5_shift_161 rfl rfl (q_icmp_ge (pc' := 166) (pt := 186) dX5_shift_163 rfl rfl (fun h9 => absurd h9 (by decide)) (fun _ => (q_aload_n (pc' := 167) dX5_shift_166 rfl rfl (q_iload (pc' := 169) dX5_shift_167 rfl rfl (q_iload (pc' := 171) dX5_shift_169 rfl rfl ?_)))))))))) (fun h9 => absurd h9 (nI_m1 (by omega))))))
            refine q_iadd dX5_shift_171 rfl ?_
            refine q_top (nI_add _ 0) ?_
            refine q_iload (pc' := 174) dX5_shift_172 rfl rfl (q_iload (pc' := 176) dX5_shift_174 rfl rfl ?_)
            refine q_iadd dX5_shift_176 rfl ?_
            refine q_top (nI_add _ 0) ?_
            refine q_sVv (pc' := 180) dX5_shift_177 rfl ml_RX5_224 yv_X5_replace (by decide) (rs_X5_replace hi hS hk h e8 h3 hp1.1 hp1.2 hp2 h5 (show 32 * p + v < 256 by omega) (by rw [show (32 * p + v) % 32 = v by omega]; exact hrs.1)) (okS hi hz (by decide) rfl) rfl rfl (Nat.le_of_ble_eq_true rfl) (Nat.le_refl _) (fun I1 ⟨r1, f1⟩ => ?_)
            exact q_inc_9 (pc' := 183) dX5_shift_180 rfl (by decide) rfl (q_goto (pc' := 159) dX5_shift_183 rfl (q_iload (pc' := 161) dX5_shift_159 rfl rfl (q_iload (pc' := 163) dX5_shift_161 rfl rfl (q_icmp_ge (pc' := 166) (pt := 186) dX5_shift_163 rfl rfl (fun _ => (q_iconst (pc' := 187) _ dX5_shift_186 rfl kk_iconst_0 (q_iret dX5_shift_187 rfl (hQ _ _ _ _ ⟨_, rfl, ⟨rfl, rfl⟩, rfl, r1, f1⟩)))) (fun h9 => absurd (by decide) h9)))))
      · -- what was DEALT
        rw [if_neg hm] at hQ
        have hk12 : b 1 d = 1 ∨ b 1 d = 2 := by omega
        rw [any_d h11 hk12 hl] at hQ
        refine q_aload_n (pc' := 44) dX5_shift_43 rfl rfl (q_iload_n (pc' := 45) dX5_shift_44 rfl rfl (q_cVi (pc' := 48) dX5_shift_45 rfl ml_RX5_104 yv_X5_isManaged (by decide) (rn_X5_isManaged hi hS hB hb hk hd) (okS hi hz (by decide) rfl) rfl rfl (Nat.le_of_ble_eq_true rfl) (Nat.le_refl _) (q_ifb_eq (pc' := 51) (pt := 56) dX5_shift_48 rfl rfl (fun _ => (q_iload_n (pc' := 57) dX5_shift_56 rfl rfl (q_bipush (pc' := 59) _ dX5_shift_57 rfl kk_bipush_8 (q_imul (pc' := 60) dX5_shift_59 rfl ?_)))) (fun h9 => Bool.noConfusion (Eq.trans (Eq.symm (beq_eq_false_iff_ne.mpr hm)) h9)))))
        refine q_top (y := nI (8 * d)) (by rw [pk_mul, Nat.mul_comm d 8]) ?_
        refine q_ist_5 (pc' := 62) dX5_shift_60 rfl (by decide) rfl (q_aload_n (pc' := 63) dX5_shift_62 rfl rfl (q_iload_n (pc' := 64) dX5_shift_63 rfl rfl (q_cVi (pc' := 67) dX5_shift_64 rfl ml_RX5_104 yv_X5_isManaged (by decide) (rn_X5_isManaged hi hS hB hb hk hd) (okS hi hz (by decide) rfl) rfl rfl (Nat.le_of_ble_eq_true rfl) (Nat.le_refl _) (q_ifb_eq (pc' := 70) (pt := 74) dX5_shift_67 rfl rfl (fun _ => (q_aload_n (pc' := 75) dX5_shift_74 rfl rfl (q_getR (pc' := 78) dX5_shift_75 rfl fr_RX5_32 (okS hi hz (by decide) rfl) rfl (wS_5_0 hS) (by decide) (q_getR (pc' := 81) dX5_shift_78 rfl fr_RX5_85 (by first | assumption | exact ⟨by omega, rfl⟩) rfl (wB_8 hB) (by omega) (q_iload_n (pc' := 82) dX5_shift_81 rfl rfl (q_ialde (pc' := 83) (d) dX5_shift_82 rfl (by first | exact ⟨by omega, rfl⟩ | exact okaS hi hz (by decide) rfl | assumption) (by (first | (simp only [nI_add, pk_mul]; done) | (simp only [nI_add, pk_mul]; exact nI_e (by omega)) | exact nI_e (by omega))) (by omega) (hb.2 d hd).2.1 (q_ist_6 (pc' := 85) dX5_shift_83 rfl (by decide) rfl (q_aload_n (pc' := 86) dX5_shift_85 rfl rfl (q_iload (pc' := 88) dX5_shift_86 rfl rfl (q_iload (pc' := 90) dX5_shift_88 rfl rfl ?_)))))))))) (fun h9 => Bool.noConfusion (Eq.trans (Eq.symm (beq_eq_false_iff_ne.mpr hm)) h9))))))
        refine q_cVi (pc' := 93) dX5_shift_90 rfl ml_RX5_221 yv_X5_hasOld (by decide) (rn_X5_hasOld hi hS h.2.2 hA (by omega)) (okS hi hz (by decide) rfl) rfl rfl (Nat.le_of_ble_eq_true rfl) (Nat.le_refl _) ?_
        by_cases hany : anyN (fun j => A 4 (8 * d + j) != 0) (b 2 d) = true
        · rw [if_pos hany] at hQ
          exact q_ifb_eq (pc' := 96) (pt := 98) dX5_shift_93 rfl rfl (fun h9 => Bool.noConfusion (Eq.trans (Eq.symm (hany)) h9)) (fun _ => (q_iconst (pc' := 97) _ dX5_shift_96 rfl kk_iconst_3 (q_iret dX5_shift_97 rfl (hQ _ _ _ _ ⟨_, rfl, ⟨rfl, rfl⟩, rfl, h, mS.rf⟩))))
        · rw [if_neg hany] at hQ
          have h4 : ∀ j, j < b 2 d → A 4 (8 * d + j) = 0 := fun j hj => Decidable.byContradiction fun q => hany (anyN_iff.mpr ⟨j, hj, bne_iff_ne.mpr q⟩)
          have h5 : ∀ j, j < b 2 d → A 5 (8 * d + j) = 0 := fun j hj => by
            have := (hA.2.1 (8 * d + j) (by omega)).2.2.1
            have : A 5 (8 * d + j) ≠ 1 := fun q => hD _ (by omega) q (h4 j hj)
            omega
          have hhl := hH h7
          have hnn := hN hm h7
          refine q_ifb_eq (pc' := 96) (pt := 98) dX5_shift_93 rfl rfl (fun _ => (q_iload_n (pc' := 99) dX5_shift_98 rfl rfl (q_iconst (pc' := 100) _ dX5_shift_99 rfl kk_iconst_1 (q_aload_n (pc' := 101) dX5_shift_100 rfl rfl (q_getR (pc' := 104) dX5_shift_101 rfl fr_RX5_18 (okS hi hz (by decide) rfl) rfl (wS_5_5 hS) (sA_lt hi (by decide)) (q_iload (pc' := 106) dX5_shift_104 rfl rfl (q_ialde (pc' := 107) (8 * d + k) dX5_shift_106 rfl (by first | exact ⟨by omega, rfl⟩ | exact okaS hi hz (by decide) rfl | assumption) (by (first | (simp only [nI_add, pk_mul]; done) | (simp only [nI_add, pk_mul]; exact nI_e (by omega)) | exact nI_e (by omega))) (by omega) e3 (q_bipush (pc' := 109) _ dX5_shift_107 rfl kk_bipush_32 (q_idiv (pc' := 110) dX5_shift_109 rfl (by decide) ?_))))))))) (fun h9 => Bool.noConfusion (Eq.trans (Eq.symm (Bool.eq_false_iff.mpr hany)) h9))
          refine q_top edv ?_
          refine q_ishl dX5_shift_110 rfl ?_
          refine q_top (sh32 _ hpl) ?_
          refine q_iconst (pc' := 112) _ dX5_shift_111 rfl kk_iconst_m1 (q_ixor (pc' := 113) dX5_shift_112 rfl (q_iand (pc' := 114) dX5_shift_113 rfl ?_))
          refine q_top (sOth_e hs32) ?_
          refine q_ist_7 (pc' := 116) dX5_shift_114 rfl (by decide) rfl (q_aload_n (pc' := 117) dX5_shift_116 rfl rfl (q_iload_n (pc' := 118) dX5_shift_117 rfl rfl (q_cVi (pc' := 121) dX5_shift_118 rfl ml_RX5_104 yv_X5_isManaged (by decide) (rn_X5_isManaged hi hS hB hb hk hd) (okS hi hz (by decide) rfl) rfl rfl (Nat.le_of_ble_eq_true rfl) (Nat.le_refl _) (q_ifb_eq (pc' := 124) (pt := 135) dX5_shift_121 rfl rfl (fun _ => (q_aload_n (pc' := 136) dX5_shift_135 rfl rfl (q_getR (pc' := 139) dX5_shift_136 rfl fr_RX5_41 (okS hi hz (by decide) rfl) rfl (wS_5_1 hS) (sA_lt hi (by decide)) (q_iload (pc' := 141) dX5_shift_139 rfl rfl (q_iload (pc' := 143) dX5_shift_141 rfl rfl (q_cVi (pc' := 146) dX5_shift_143 rfl ml_RX5_133 yv_X4_deal (by decide) (rn_X4_deal hi hS hb hk h.1 sOth_lt hs.2.1) (okS hi hz (by decide) rfl) rfl rfl (Nat.le_of_ble_eq_true rfl) (Nat.le_refl _) ?_)))))) (fun h9 => Bool.noConfusion (Eq.trans (Eq.symm (beq_eq_false_iff_ne.mpr hm)) h9))))))
          rw [oth_dl hk]
          unfold aMvD at hQ
          cases hdl : aDl b A (aOth b set ((A 3 (8 * d + k) - 1) / 32)) (b 2 d) with
          | none =>
            have : aDealt b A (b 2 d) (aOth b set ((A 3 (8 * d + k) - 1) / 32)) = none := by
              unfold aDl at hdl
              cases hzz : aDealt b A (b 2 d) (aOth b set ((A 3 (8 * d + k) - 1) / 32)) with
              | none => rfl
              | some p => rw [hzz] at hdl; cases hdl
            rw [this] at hQ
            exact q_ist_8 (pc' := 148) dX5_shift_146 rfl (by decide) rfl (q_iload (pc' := 150) dX5_shift_148 rfl rfl (q_iconst (pc' := 151) _ dX5_shift_150 rfl kk_iconst_m1 (q_icmp_ne (pc' := 154) (pt := 156) dX5_shift_151 rfl rfl (fun h9 => absurd (rfl) h9) (fun _ => (q_iconst (pc' := 155) _ dX5_shift_154 rfl kk_iconst_1 (q_iret dX5_shift_155 rfl (hQ _ _ _ _ ⟨_, rfl, ⟨rfl, rfl⟩, rfl, h, mS.rf⟩)))))))
          | some pl =>
            obtain ⟨p, q, g1, g2, g3, g4, g5, g6, g7⟩ := dl_some hk hs.2.1 hdl
            rw [g1, Option.map_some, g2] at hQ
            have ef : (fun j B => aMoves B (8 * d + j) (32 * p + (b 2 d * (some q).getD 0 + j))) = (fun j B => aMoves B (8 * d + j) (pl + j)) := by
              funext j B
              show aMoves B (8 * d + j) (32 * p + (b 2 d * q + j)) = _
              rw [g3, Nat.add_assoc]
            rw [ef] at hQ
            -- what holds while they go
            have inv : ∀ j, j ≤ b 2 d → (∀ t, j ≤ t → itN (fun j B => aMoves B (8 * d + j) (pl + j)) j A 3 (8 * d + t) = A 3 (8 * d + t) ∧ itN (fun j B => aMoves B (8 * d + j) (pl + j)) j A 5 (8 * d + t) = A 5 (8 * d + t)) ∧ ∀ x, (∀ t, t < b 2 d → x ≠ pl + t) → itN (fun j B => aMoves B (8 * d + j) (pl + j)) j A 1 x = A 1 x := by
              intro j
              induction j with
              | zero => intro _; exact ⟨fun t _ => ⟨rfl, rfl⟩, fun x _ => rfl⟩
              | succ j ih =>
                intro hj
                obtain ⟨i1, i2⟩ := ih (by omega)
                refine ⟨fun t ht => ?_, fun x hx => ?_⟩
                · show aMoves (itN (fun j B => aMoves B (8 * d + j) (pl + j)) j A) (8 * d + j) (pl + j) 3 (8 * d + t) = _ ∧ aMoves (itN (fun j B => aMoves B (8 * d + j) (pl + j)) j A) (8 * d + j) (pl + j) 5 (8 * d + t) = _
                  rw [moves_3, moves_5, mj_up_ne2 (by omega), mj_up_ne2 (by omega)]
                  exact i1 t (by omega)
                · show aMoves (itN (fun j B => aMoves B (8 * d + j) (pl + j)) j A) (8 * d + j) (pl + j) 1 x = _
                  rw [moves_1, mj_up_ne2 (hx j (by omega))]
                  exact i2 x hx
            have loop : ∀ m j I0, j + m = b 2 d → cR I0 i b (itN (fun j B => aMoves B (8 * d + j) (pl + j)) j A) → mS i I I0 → Wq dd_X5_shift (mj_mk w l 472 Y) Q 159 [some (.ref (sA i 0)), some (.int (nI d)), some (.int (nI k)), some (.int (nI set)), some (.int (nI (8 * d + k))), some (.int (nI (8 * d))), some (.int (nI (b 2 d))), some (.int (nI (sOth set ((A 3 (8 * d + k) - 1) / 32)))), some (.int (nI pl)), some (.int (nI j))] [] (472, I0, J, R) := by
              intro m
              induction m with
              | zero =>
                intro j I0 hjm hr hm0
                have hjz : j = b 2 d := by omega
                subst hjz
                exact q_iload (pc' := 161) dX5_shift_159 rfl rfl (q_iload (pc' := 163) dX5_shift_161 rfl rfl (q_icmp_ge (pc' := 166) (pt := 186) dX5_shift_163 rfl rfl (fun _ => (q_iconst (pc' := 187) _ dX5_shift_186 rfl kk_iconst_0 (q_iret dX5_shift_187 rfl (hQ _ _ _ _ ⟨_, rfl, ⟨rfl, rfl⟩, rfl, hr, hm0⟩)))) (fun h9 => absurd (by (first | assumption | exact nI_le (by omega) (by omega) | exact nI_ge (by omega) (by omega) | exact nI_lt (by omega) (by omega) | exact nI_nlt (by omega) (by omega) | exact nI_ne (by omega) (by omega) (by omega) | exact nI_e (by omega) | decide)) h9)))
              | succ m ih =>
                intro j I0 hjm hr hm0
                obtain ⟨i1, i2⟩ := inv j (by omega)
                obtain ⟨t3, t5⟩ := i1 j (Nat.le_refl _)
                obtain ⟨w1, w2, w3⟩ := hhl j (by omega) (hnn j (by omega))
                have hne : ∀ t, t < b 2 d → A 3 (8 * d + j) - 1 ≠ pl + t := fun t ht z => by rw [z, g7 t ht] at w3; cases w3
                have t1 := i2 _ hne
                have hst : itN (fun j B => aMoves B (8 * d + j) (pl + j)) (j + 1) A = aMoves (itN (fun j B => aMoves B (8 * d + j) (pl + j)) j A) (8 * d + j) (pl + j) := rfl
                have next := fun I1 r1 f1 => ih (j + 1) I1 (by omega) r1 f1
                rw [hst] at next
                generalize itN (fun j B => aMoves B (8 * d + j) (pl + j)) j A = B at hr t3 t5 t1 next
                refine q_iload (pc' := 161) dX5_shift_159 rfl rfl (q_iload (pc' := 163) dX5_shift_161 rfl rfl (q_icmp_ge (pc' := 166) (pt := 186) dX5_shift_163 rfl rfl (fun h9 => absurd h9 (by (first | assumption | exact nI_le (by omega) (by omega) | exact nI_ge (by omega) (by omega) | exact nI_lt (by omega) (by omega) | exact nI_nlt (by omega) (by omega) | exact nI_ne (by omega) (by omega) (by omega) | exact nI_e (by omega) | decide))) (fun _ => (q_aload_n (pc' := 167) dX5_shift_166 rfl rfl (q_iload (pc' := 169) dX5_shift_167 rfl rfl (q_iload (pc' := 171) dX5_shift_169 rfl rfl ?_))))))
                refine q_iadd dX5_shift_171 rfl ?_
                refine q_top (nI_add _ _) ?_
                refine q_iload (pc' := 174) dX5_shift_172 rfl rfl (q_iload (pc' := 176) dX5_shift_174 rfl rfl ?_)
                refine q_iadd dX5_shift_176 rfl ?_
                refine q_top (nI_add _ _) ?_
                refine q_sVv (pc' := 180) dX5_shift_177 rfl ml_RX5_224 yv_X5_replace (by decide) (rs_X5_replace hi hS hk hr (by omega) (by rw [t3]; exact hnn j (by omega)) (by rw [t3]; exact w1.1) (by rw [t3]; exact w1.2) (by rw [t3, t1]; exact w2) (by rw [t5]; exact h5 j (by omega)) (show pl + j < 256 by omega) (by rw [g3, show (32 * p + b 2 d * q + j) % 32 = b 2 d * q + j by omega]; omega)) (okS hi hz (by decide) rfl) rfl rfl (Nat.le_of_ble_eq_true rfl) (Nat.le_refl _) (fun I1 ⟨r1, f1⟩ => ?_)
                refine q_inc_9 (pc' := 183) dX5_shift_180 rfl (by decide) rfl (q_goto (pc' := 159) dX5_shift_183 rfl ?_)
                exact next I1 r1 (hm0.tr f1)
            refine q_ist_8 (pc' := 148) dX5_shift_146 rfl (by decide) rfl (q_iload (pc' := 150) dX5_shift_148 rfl rfl (q_iconst (pc' := 151) _ dX5_shift_150 rfl kk_iconst_m1 (q_icmp_ne (pc' := 154) (pt := 156) dX5_shift_151 rfl rfl (fun _ => (q_iconst (pc' := 157) _ dX5_shift_156 rfl kk_iconst_0 (q_ist_9 (pc' := 159) dX5_shift_157 rfl (by decide) rfl ?_))) (fun h9 => absurd h9 (nI_m1 (by omega))))))
            exact loop (b 2 d) 0 I (by omega) h mS.rf
  · rw [if_neg (fun q => h7 q.1)] at hQ
    exact q_aload_n (pc' := 1) dX5_shift_0 rfl rfl (q_getR (pc' := 4) dX5_shift_1 rfl fr_RX5_32 (okS hi hz (by decide) rfl) rfl (wS_5_0 hS) (by decide) (q_iload_n (pc' := 5) dX5_shift_4 rfl rfl (q_iload_n (pc' := 6) dX5_shift_5 rfl rfl (q_cVi (pc' := 9) dX5_shift_6 rfl ml_RX5_193 yv_X0_hasLine (by decide) (rn_X0_hasLine hB hb hk hd) (by first | assumption | exact ⟨by omega, rfl⟩) rfl rfl (Nat.le_of_ble_eq_true rfl) (Nat.le_refl _) (q_ifb_eq (pc' := 12) (pt := 20) dX5_shift_9 rfl rfl (fun h9 => Bool.noConfusion (Eq.trans (Eq.symm (hin)) h9)) (fun _ => (q_aload_n (pc' := 13) dX5_shift_12 rfl rfl (q_iload_n (pc' := 14) dX5_shift_13 rfl rfl (q_cVi (pc' := 17) dX5_shift_14 rfl ml_RX5_121 yv_X5_isStarted (by decide) (rn_X5_isStarted hi h.2.2 (by omega)) (okS hi hz (by decide) rfl) rfl rfl (Nat.le_of_ble_eq_true rfl) (Nat.le_refl _) (q_ifb_ne (pc' := 20) (pt := 22) dX5_shift_17 rfl rfl (fun h9 => Bool.noConfusion (Eq.trans (Eq.symm (beq_eq_false_iff_ne.mpr h7)) h9)) (fun _ => (q_iconst (pc' := 21) _ dX5_shift_20 rfl kk_iconst_4 (q_iret dX5_shift_21 rfl (hQ _ _ _ _ ⟨_, rfl, ⟨rfl, rfl⟩, rfl, h, mS.rf⟩))))))))))))))
end ST10
