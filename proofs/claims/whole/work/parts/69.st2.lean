/-! ===== the class: State, what a message does; promises ===== -/
/-- a place that there is, or none -/
def pv (b : St) (x : Nat) : Prop := x ≠ 0 → x - 1 < 256 ∧ (x - 1) % 32 < b 0 1
theorem bI_n {x : Nat} (h : x < 2) : nI x = bI (x == 1) := by
  have hc : x = 0 ∨ x = 1 := by omega
  rcases hc with rfl | rfl <;> rfl
theorem sumN_cong {f g : Nat → Nat} {n : Nat} (h : ∀ k, k < n → f k = g k) : sumN f n = sumN g n := by
  induction n with
  | zero => rfl
  | succ n ih => unfold sumN; rw [ih (fun k hk => h k (by omega)), h n (by omega)]
theorem sumN_add (f : Nat → Nat) (m n : Nat) : sumN f (m + n) = sumN f m + sumN (fun k => f (m + k)) n := by
  induction n with
  | zero => rfl
  | succ n ih =>
    show sumN f (m + n) + f (m + n) = _
    rw [ih]
    show _ = sumN f m + (sumN (fun k => f (m + k)) n + f (m + n))
    omega
theorem sumN_0 {f : Nat → Nat} {n : Nat} (h : ∀ k, k < n → f k = 0) : sumN f n = 0 := by
  induction n with
  | zero => rfl
  | succ n ih => unfold sumN; rw [ih (fun k hk => h k (by omega)), h n (by omega)]
theorem cnt_sum {f : Nat → Nat} {n : Nat} (h : ∀ k, k < n → f k < 2) : cntN (fun k => f k == 1) n = sumN f n := by
  induction n with
  | zero => rfl
  | succ n ih =>
    unfold cntN sumN
    rw [ih (fun k hk => h k (by omega))]
    have hn := h n (by omega)
    have hc : f n = 0 ∨ f n = 1 := by omega
    rcases hc with e | e <;> rw [e] <;> rfl
/-- the bits of STARTED, of promised DEVICES -/
theorem cRs_7 {I : mj_M} {i d x : Nat} {A : St} {v : Int32} (hv : v = nI (bitN (fun e => mj_up A 7 d x 7 e == 1) 10)) (h : cRs I i A) : cRs (mj_up I (sA i 0) 3 v) i (mj_up A 7 d x) := by
  subst hv
  have n : ∀ e, e ≠ 0 → mj_up I (sA i 0) 3 (nI (bitN (fun e => mj_up A 7 d x 7 e == 1) 10)) (sA i e) = I (sA i e) := fun e he => up_fI (sA_ne he)
  refine ⟨⟨mj_up_eq, ?_⟩, fun k hk => ?_⟩
  · rw [mj_up_ne2 (by decide)]; exact h.1.2
  · rw [n 7 (by decide), n 8 (by decide), n 9 (by decide), n 10 (by decide)]; exact h.2 k hk
theorem cRs_8 {I : mj_M} {i d x : Nat} {A : St} {v : Int32} (hv : v = nI (bitN (fun e => mj_up A 8 d x 8 e == 1) 10)) (h : cRs I i A) : cRs (mj_up I (sA i 0) 4 v) i (mj_up A 8 d x) := by
  subst hv
  have n : ∀ e, e ≠ 0 → mj_up I (sA i 0) 4 (nI (bitN (fun e => mj_up A 8 d x 8 e == 1) 10)) (sA i e) = I (sA i e) := fun e he => up_fI (sA_ne he)
  refine ⟨⟨?_, mj_up_eq⟩, fun k hk => ?_⟩
  · rw [mj_up_ne2 (by decide)]; exact h.1.1
  · rw [n 7 (by decide), n 8 (by decide), n 9 (by decide), n 10 (by decide)]; exact h.2 k hk
theorem cR_7 {I : mj_M} {i d x : Nat} {b A : St} {v : Int32} (hv : v = nI (bitN (fun e => mj_up A 7 d x 7 e == 1) 10)) (h : cR I i b A) : cR (mj_up I (sA i 0) 3 v) i b (mj_up A 7 d x) := by
  have n : ∀ e, e ≠ 0 → mj_up I (sA i 0) 3 v (sA i e) = I (sA i e) := fun e he => up_fI (sA_ne he)
  exact ⟨cRr_A (up_f (by decide)) (up_f (by decide)) (up_f (by decide)) (up_f (by decide)) (cRr_F (fun e h1 h2 => n e (by omega)) h.1), cRt_A (mj_up_ne (by decide)) (mj_up_ne (by decide)) (up_f (by decide)) (up_f (by decide)) (up_f (by decide)) (up_f (by decide)) (up_f (by decide)) (cRt_f (fun e h1 h2 => n e (by omega)) h.2.1), cRs_7 hv h.2.2⟩
theorem cR_8 {I : mj_M} {i d x : Nat} {b A : St} {v : Int32} (hv : v = nI (bitN (fun e => mj_up A 8 d x 8 e == 1) 10)) (h : cR I i b A) : cR (mj_up I (sA i 0) 4 v) i b (mj_up A 8 d x) := by
  have n : ∀ e, e ≠ 0 → mj_up I (sA i 0) 4 v (sA i e) = I (sA i e) := fun e he => up_fI (sA_ne he)
  exact ⟨cRr_A (up_f (by decide)) (up_f (by decide)) (up_f (by decide)) (up_f (by decide)) (cRr_F (fun e h1 h2 => n e (by omega)) h.1), cRt_A (mj_up_ne (by decide)) (mj_up_ne (by decide)) (up_f (by decide)) (up_f (by decide)) (up_f (by decide)) (up_f (by decide)) (up_f (by decide)) (cRt_f (fun e h1 h2 => n e (by omega)) h.2.1), cRs_8 hv h.2.2⟩
/-- a bit set, a bit cleared, as a number of a DEVICE changes -/
theorem bit_on {A : St} {f d n : Nat} (hd : d < n) : nI (bitN (fun e => A f e == 1) n) ||| nI (2 ^ d) = nI (bitN (fun e => mj_up A f d 1 f e == 1) n) := by
  rw [set_e hd]
  congr 1
  refine bitN_cong (fun u hu => ?_)
  by_cases e : u = d
  · rw [e, mj_up_eq]; simp
  · rw [mj_up_ne2 e, beq_eq_false_iff_ne.mpr e, Bool.or_false]
theorem bit_off {A : St} {f d n : Nat} (hn : n ≤ 32) : nI (bitN (fun e => A f e == 1) n) &&& (nI (2 ^ d) ^^^ (-1)) = nI (bitN (fun e => mj_up A f d 0 f e == 1) n) := by
  rw [clr_e hn]
  congr 1
  refine bitN_cong (fun u hu => ?_)
  by_cases e : u = d
  · rw [e, mj_up_eq]; simp
  · rw [mj_up_ne2 e, bne_iff_ne.mpr e, Bool.and_true]
section ST2
variable {w : mj_Wd} {l : Launch} {I : mj_M} {J : mj_J} {R : mj_R} {b A : St} {i : Nat}
theorem rs_X5_forgetLine {id : Nat} (hi : i < 21) (hS : mj_wS R i) (h : cR I i b A) (hid : id < 80) (h6 : A 6 id < 2) : RsI w l yX5_forgetLine dd_X5_forgetLine [.ref (sA i 0), .int (nI id)] (472, I, J, R) (fun x I' => x = bI (A 6 id == 1) ∧ cR I' i b (aClr A id) ∧ mS i I I') := by
  have hz : 50 + 20 * i ≤ 472 := by omega
  refine rt_intro2 (L := [some (.ref (sA i 0)), some (.int (nI id)), none]) ⟨by decide, rfl, (fun h => by cases h)⟩ (Nat.le_of_ble_eq_true rfl) rfl (fun Y Q hQ => ?_)
  refine q_aload_n (pc' := 1) dX5_forgetLine_0 rfl rfl (q_getR (pc' := 4) dX5_forgetLine_1 rfl fr_RX5_29 (okS hi hz (by decide) rfl) rfl (wS_5_8 hS) (sA_lt hi (by decide)) (q_iload_n (pc' := 5) dX5_forgetLine_4 rfl rfl (q_zalde (pc' := 6) (id) dX5_forgetLine_5 rfl (by first | exact ⟨by omega, rfl⟩ | exact okaS hi hz (by decide) rfl | assumption) (by (first | (simp only [nI_add, pk_mul]; done) | (simp only [nI_add, pk_mul]; exact nI_e (by omega)) | exact nI_e (by omega))) (by omega) ((h.2.2.2 id hid).2.2.2.trans (bI_n h6)) (q_ist_2 (pc' := 7) dX5_forgetLine_6 rfl (by decide) rfl (q_aload_n (pc' := 8) dX5_forgetLine_7 rfl rfl (q_getR (pc' := 11) dX5_forgetLine_8 rfl fr_RX5_18 (okS hi hz (by decide) rfl) rfl (wS_5_5 hS) (sA_lt hi (by decide)) (q_iload_n (pc' := 12) dX5_forgetLine_11 rfl rfl (q_iconst (pc' := 13) _ dX5_forgetLine_12 rfl kk_iconst_m1 (q_iast (pc' := 14) (id) dX5_forgetLine_13 rfl (by first | exact ⟨by omega, rfl⟩ | exact okaS hi hz (by decide) rfl | assumption) (by (first | (simp only [nI_add, pk_mul]; done) | (simp only [nI_add, pk_mul]; exact nI_e (by omega)) | exact nI_e (by omega))) (by omega) (q_aload_n (pc' := 15) dX5_forgetLine_14 rfl rfl (q_getR (pc' := 18) dX5_forgetLine_15 rfl fr_RX5_22 (okS hi hz (by decide) rfl) rfl (wS_5_6 hS) (sA_lt hi (by decide)) (q_iload_n (pc' := 19) dX5_forgetLine_18 rfl rfl (q_iconst (pc' := 20) _ dX5_forgetLine_19 rfl kk_iconst_m1 ?_)))))))))))))
  refine q_iast (pc' := 21) (id) dX5_forgetLine_20 rfl (by first | exact ⟨by omega, rfl⟩ | exact okaS hi hz (by decide) rfl | assumption) (by (first | (simp only [nI_add, pk_mul]; done) | (simp only [nI_add, pk_mul]; exact nI_e (by omega)) | exact nI_e (by omega))) (by omega) (q_aload_n (pc' := 22) dX5_forgetLine_21 rfl rfl (q_getR (pc' := 25) dX5_forgetLine_22 rfl fr_RX5_25 (okS hi hz (by decide) rfl) rfl (wS_5_7 hS) (sA_lt hi (by decide)) (q_iload_n (pc' := 26) dX5_forgetLine_25 rfl rfl (q_iconst (pc' := 27) _ dX5_forgetLine_26 rfl kk_iconst_0 (q_zast (pc' := 28) (id) dX5_forgetLine_27 rfl (by first | exact ⟨by omega, rfl⟩ | exact okaS hi hz (by decide) rfl | assumption) (by (first | (simp only [nI_add, pk_mul]; done) | (simp only [nI_add, pk_mul]; exact nI_e (by omega)) | exact nI_e (by omega))) (by omega) (by first | exact Or.inl rfl | exact Or.inr rfl | exact bI_01 _) (q_aload_n (pc' := 29) dX5_forgetLine_28 rfl rfl (q_getR (pc' := 32) dX5_forgetLine_29 rfl fr_RX5_29 (okS hi hz (by decide) rfl) rfl (wS_5_8 hS) (sA_lt hi (by decide)) (q_iload_n (pc' := 33) dX5_forgetLine_32 rfl rfl (q_iconst (pc' := 34) _ dX5_forgetLine_33 rfl kk_iconst_0 (q_zast (pc' := 35) (id) dX5_forgetLine_34 rfl (by first | exact ⟨by omega, rfl⟩ | exact okaS hi hz (by decide) rfl | assumption) (by (first | (simp only [nI_add, pk_mul]; done) | (simp only [nI_add, pk_mul]; exact nI_e (by omega)) | exact nI_e (by omega))) (by omega) (by first | exact Or.inl rfl | exact Or.inr rfl | exact bI_01 _) (q_iload_n (pc' := 36) dX5_forgetLine_35 rfl rfl ?_)))))))))))
  refine q_zret dX5_forgetLine_36 rfl (bI_01 _) (hQ _ _ _ _ ⟨_, rfl, ⟨rfl, rfl⟩, rfl, ?_, (((mS_up (by decide)).tr (mS_up (by decide))).tr (mS_up (by decide))).tr (mS_up (by decide))⟩)
  exact cR_ln (x := 0) (Or.inr (Or.inr (Or.inr ⟨rfl, rfl, rfl⟩))) (cR_ln (x := 0) (Or.inr (Or.inr (Or.inl ⟨rfl, rfl, rfl⟩))) (cR_ln (x := 0) (Or.inr (Or.inl ⟨rfl, rfl, rfl⟩)) (cR_ln (x := 0) (Or.inl ⟨rfl, rfl, rfl⟩) h)))
theorem rn_X5_unheard (hi : i < 21) (hS : mj_wS R i) (hB : mj_wB R 4) (hb : cB I b) (hk : bOK b) (h : cR I i b A) (hA : aOK A) (hW : ∀ id, 8 * b 0 2 ≤ id → id < 80 → A 6 id = 0) : Rn w l yX5_unheard dd_X5_unheard [.ref (sA i 0)] (472, I, J, R) (some (.int (nI (aUnh b A)))) (472, I, J, R) := by
  have hz : 50 + 20 * i ≤ 472 := by omega
  have h10 := hk.2.2.1
  have h8 := hk.1.2
  have hv := hk.2.1.2
  have ep : ∀ p, p < 8 → bcN (cPe b A p) = aPend b A p := fun p hp => by
    unfold cPe aPend
    rw [bcN_bitN hv]
    exact cnt_sum (fun v hv2 => (hA.1 (32 * p + v) (by omega)).2.2)
  have ew : sumN (A 6) 80 = sumN (A 6) (b 0 2 * 8) := by
    rw [show (80:Nat) = b 0 2 * 8 + (80 - b 0 2 * 8) by omega, sumN_add, sumN_0 (f := fun k => A 6 (b 0 2 * 8 + k)) (fun k hk2 => hW _ (by omega) (by omega))]
    rfl
  unfold aUnh
  rw [ew]
  refine rn_intro2 (L := [some (.ref (sA i 0)), none, none]) ⟨by decide, rfl, (fun h => by cases h)⟩ (Nat.le_refl _) (Nat.le_of_ble_eq_true rfl) rfl (fun Y Q hQ => ?_)
  have loop2 : ∀ m k, k + m = b 0 2 * 8 → Wq dd_X5_unheard (mj_mk w l 472 Y) Q 38 [some (.ref (sA i 0)), some (.int (nI (sumN (aPend b A) (b 0 0) + sumN (A 6) k))), some (.int (nI k))] [] (472, I, J, R) := by
    intro m
    induction m with
    | zero =>
      intro k hkm
      have hkz : k = b 0 2 * 8 := by omega
      subst hkz
      refine q_iload_n (pc' := 39) dX5_unheard_38 rfl rfl (q_aload_n (pc' := 40) dX5_unheard_39 rfl rfl (q_getR (pc' := 43) dX5_unheard_40 rfl fr_RX5_32 (okS hi hz (by decide) rfl) rfl (wS_5_0 hS) (by decide) (q_getIe (pc' := 46) dX5_unheard_43 rfl fr_RX5_79 (by first | assumption | exact ⟨by omega, rfl⟩) rfl (cB_4 hb) (q_bipush (pc' := 48) _ dX5_unheard_46 rfl kk_bipush_8 (q_imul (pc' := 49) dX5_unheard_48 rfl ?_)))))
      refine q_top (pk_mul _ 8) ?_
      exact q_icmp_ge (pc' := 52) (pt := 75) dX5_unheard_49 rfl rfl (fun _ => (q_iload_n (pc' := 76) dX5_unheard_75 rfl rfl (q_iret dX5_unheard_76 rfl hQ))) (fun h9 => absurd (by (first | assumption | exact nI_le (by omega) (by omega) | exact nI_ge (by omega) (by omega) | exact nI_lt (by omega) (by omega) | exact nI_nlt (by omega) (by omega) | exact nI_ne (by omega) (by omega) (by omega) | exact nI_e (by omega) | decide)) h9)
    | succ m ih =>
      intro k hkm
      have next := ih (k + 1) (by omega)
      have es : sumN (A 6) (k + 1) = sumN (A 6) k + A 6 k := rfl
      rw [es, ← Nat.add_assoc] at next
      have h6 := (hA.2.1 k (by omega)).2.2.2
      refine q_iload_n (pc' := 39) dX5_unheard_38 rfl rfl (q_aload_n (pc' := 40) dX5_unheard_39 rfl rfl (q_getR (pc' := 43) dX5_unheard_40 rfl fr_RX5_32 (okS hi hz (by decide) rfl) rfl (wS_5_0 hS) (by decide) (q_getIe (pc' := 46) dX5_unheard_43 rfl fr_RX5_79 (by first | assumption | exact ⟨by omega, rfl⟩) rfl (cB_4 hb) (q_bipush (pc' := 48) _ dX5_unheard_46 rfl kk_bipush_8 (q_imul (pc' := 49) dX5_unheard_48 rfl ?_)))))
      refine q_top (pk_mul _ 8) ?_
      by_cases hc : A 6 k = 1
      · rw [hc] at next
        refine q_icmp_ge (pc' := 52) (pt := 75) dX5_unheard_49 rfl rfl (fun h9 => absurd h9 (Int32.not_le.mpr (nI_lt (by omega) (by omega)))) (fun _ => (q_iload_n (pc' := 53) dX5_unheard_52 rfl rfl (q_aload_n (pc' := 54) dX5_unheard_53 rfl rfl (q_getR (pc' := 57) dX5_unheard_54 rfl fr_RX5_29 (okS hi hz (by decide) rfl) rfl (wS_5_8 hS) (sA_lt hi (by decide)) (q_iload_n (pc' := 58) dX5_unheard_57 rfl rfl (q_zalde (pc' := 59) (k) dX5_unheard_58 rfl (by first | exact ⟨by omega, rfl⟩ | exact okaS hi hz (by decide) rfl | assumption) (by (first | (simp only [nI_add, pk_mul]; done) | (simp only [nI_add, pk_mul]; exact nI_e (by omega)) | exact nI_e (by omega))) (by omega) ((h.2.2.2 k (by omega)).2.2.2.trans (bI_n h6)) (q_ifb_eq (pc' := 62) (pt := 66) dX5_unheard_59 rfl rfl (fun h9 => Bool.noConfusion (Eq.trans (Eq.symm (beq_iff_eq.mpr hc)) h9)) (fun _ => (q_iconst (pc' := 63) _ dX5_unheard_62 rfl kk_iconst_1 (q_goto (pc' := 67) dX5_unheard_63 rfl ?_))))))))))
        refine q_iadd dX5_unheard_67 rfl ?_
        refine q_top (nI_add _ 1) ?_
        refine q_ist_1 (pc' := 69) dX5_unheard_68 rfl (by decide) rfl (q_inc_2 (pc' := 72) dX5_unheard_69 rfl (by decide) rfl (q_goto (pc' := 38) dX5_unheard_72 rfl ?_))
        exact next
      · rw [show A 6 k = 0 by omega] at next
        refine q_icmp_ge (pc' := 52) (pt := 75) dX5_unheard_49 rfl rfl (fun h9 => absurd h9 (Int32.not_le.mpr (nI_lt (by omega) (by omega)))) (fun _ => (q_iload_n (pc' := 53) dX5_unheard_52 rfl rfl (q_aload_n (pc' := 54) dX5_unheard_53 rfl rfl (q_getR (pc' := 57) dX5_unheard_54 rfl fr_RX5_29 (okS hi hz (by decide) rfl) rfl (wS_5_8 hS) (sA_lt hi (by decide)) (q_iload_n (pc' := 58) dX5_unheard_57 rfl rfl (q_zalde (pc' := 59) (k) dX5_unheard_58 rfl (by first | exact ⟨by omega, rfl⟩ | exact okaS hi hz (by decide) rfl | assumption) (by (first | (simp only [nI_add, pk_mul]; done) | (simp only [nI_add, pk_mul]; exact nI_e (by omega)) | exact nI_e (by omega))) (by omega) ((h.2.2.2 k (by omega)).2.2.2.trans (bI_n h6)) (q_ifb_eq (pc' := 62) (pt := 66) dX5_unheard_59 rfl rfl (fun _ => (q_iconst (pc' := 67) _ dX5_unheard_66 rfl kk_iconst_0 ?_)) (fun h9 => Bool.noConfusion (Eq.trans (Eq.symm (beq_eq_false_iff_ne.mpr hc)) h9)))))))))
        refine q_iadd dX5_unheard_67 rfl ?_
        refine q_top (nI_add _ 0) ?_
        refine q_ist_1 (pc' := 69) dX5_unheard_68 rfl (by decide) rfl (q_inc_2 (pc' := 72) dX5_unheard_69 rfl (by decide) rfl (q_goto (pc' := 38) dX5_unheard_72 rfl ?_))
        exact next
  have loop : ∀ m k, k + m = b 0 0 → Wq dd_X5_unheard (mj_mk w l 472 Y) Q 4 [some (.ref (sA i 0)), some (.int (nI (sumN (aPend b A) k))), some (.int (nI k))] [] (472, I, J, R) := by
    intro m
    induction m with
    | zero =>
      intro k hkm
      have hkz : k = b 0 0 := by omega
      subst hkz
      refine q_iload_n (pc' := 5) dX5_unheard_4 rfl rfl (q_aload_n (pc' := 6) dX5_unheard_5 rfl rfl (q_getR (pc' := 9) dX5_unheard_6 rfl fr_RX5_32 (okS hi hz (by decide) rfl) rfl (wS_5_0 hS) (by decide) (q_getIe (pc' := 12) dX5_unheard_9 rfl fr_RX5_88 (by first | assumption | exact ⟨by omega, rfl⟩) rfl (cB_0 hb) (q_icmp_ge (pc' := 15) (pt := 36) dX5_unheard_12 rfl rfl (fun _ => (q_iconst (pc' := 37) _ dX5_unheard_36 rfl kk_iconst_0 (q_ist_2 (pc' := 38) dX5_unheard_37 rfl (by decide) rfl ?_))) (fun h9 => absurd (by (first | assumption | exact nI_le (by omega) (by omega) | exact nI_ge (by omega) (by omega) | exact nI_lt (by omega) (by omega) | exact nI_nlt (by omega) (by omega) | exact nI_ne (by omega) (by omega) (by omega) | exact nI_e (by omega) | decide)) h9)))))
      exact loop2 (b 0 2 * 8) 0 (by omega)
    | succ m ih =>
      intro k hkm
      refine q_iload_n (pc' := 5) dX5_unheard_4 rfl rfl (q_aload_n (pc' := 6) dX5_unheard_5 rfl rfl (q_getR (pc' := 9) dX5_unheard_6 rfl fr_RX5_32 (okS hi hz (by decide) rfl) rfl (wS_5_0 hS) (by decide) (q_getIe (pc' := 12) dX5_unheard_9 rfl fr_RX5_88 (by first | assumption | exact ⟨by omega, rfl⟩) rfl (cB_0 hb) (q_icmp_ge (pc' := 15) (pt := 36) dX5_unheard_12 rfl rfl (fun h9 => absurd h9 (by (first | assumption | exact nI_le (by omega) (by omega) | exact nI_ge (by omega) (by omega) | exact nI_lt (by omega) (by omega) | exact nI_nlt (by omega) (by omega) | exact nI_ne (by omega) (by omega) (by omega) | exact nI_e (by omega) | decide))) (fun _ => (q_iload_n (pc' := 16) dX5_unheard_15 rfl rfl (q_aload_n (pc' := 17) dX5_unheard_16 rfl rfl (q_getR (pc' := 20) dX5_unheard_17 rfl fr_RX5_41 (okS hi hz (by decide) rfl) rfl (wS_5_1 hS) (sA_lt hi (by decide)) (q_getR (pc' := 23) dX5_unheard_20 rfl fr_RX5_91 (okS hi hz (by decide) rfl) rfl (wS_4_3 hS) (sA_lt hi (by decide)) (q_iload_n (pc' := 24) dX5_unheard_23 rfl rfl (q_ialde (pc' := 25) (k) dX5_unheard_24 rfl (by first | exact ⟨by omega, rfl⟩ | exact okaS hi hz (by decide) rfl | assumption) (by (first | (simp only [nI_add, pk_mul]; done) | (simp only [nI_add, pk_mul]; exact nI_e (by omega)) | exact nI_e (by omega))) (by omega) (h.1.2.1 k (by omega)) (q_cSi (pc' := 28) dX5_unheard_25 rfl ml_RX5_94 ys_J6_bitCount_0f7a4 (by decide) (rn_bitCount (cPe_lt hk)) rfl rfl (Nat.le_of_ble_eq_true rfl) (Nat.le_refl _) ?_))))))))))))
      rw [ep k (by omega)]
      refine q_iadd dX5_unheard_28 rfl ?_
      refine q_top (nI_add _ _) ?_
      refine q_ist_1 (pc' := 30) dX5_unheard_29 rfl (by decide) rfl (q_inc_2 (pc' := 33) dX5_unheard_30 rfl (by decide) rfl (q_goto (pc' := 4) dX5_unheard_33 rfl ?_))
      exact ih (k + 1) (by omega)
  refine q_iconst (pc' := 1) _ dX5_unheard_0 rfl kk_iconst_0 (q_ist_1 (pc' := 2) dX5_unheard_1 rfl (by decide) rfl (q_iconst (pc' := 3) _ dX5_unheard_2 rfl kk_iconst_0 (q_ist_2 (pc' := 4) dX5_unheard_3 rfl (by decide) rfl ?_)))
  exact loop (b 0 0) 0 (by omega)
theorem rs_X5_promise {d : Nat} (hi : i < 21) (hS : mj_wS R i) (hB : mj_wB R 4) (hb : cB I b) (hk : bOK b) (h : cR I i b A) (hd : d < b 0 2) : RsI w l yX5_promise dd_X5_promise [.ref (sA i 0), .int (nI d)] (472, I, J, R) (fun x I' => x = nI (aClaim b A d).1 ∧ cR I' i b (aClaim b A d).2 ∧ mS i I I') := by
  have hz : 50 + 20 * i ≤ 472 := by omega
  have h10 := hk.2.2.1
  have hs := hk.2.2.2 d hd
  have hf := aFree_le hk (A := A)
  have hp := aProm_le hk (A := A)
  refine rt_intro2 (L := [some (.ref (sA i 0)), some (.int (nI d))]) ⟨by decide, rfl, (fun h => by cases h)⟩ (Nat.le_of_ble_eq_true rfl) rfl (fun Y Q hQ => ?_)
  unfold aClaim at hQ
  by_cases c7 : A 7 d = 1
  · rw [if_pos (Or.inr (Or.inl c7))] at hQ
    exact q_aload_n (pc' := 1) dX5_promise_0 rfl rfl (q_iload_n (pc' := 2) dX5_promise_1 rfl rfl (q_cVi (pc' := 5) dX5_promise_2 rfl ml_RX5_121 yv_X5_isStarted (by decide) (rn_X5_isStarted hi h.2.2 (by omega)) (okS hi hz (by decide) rfl) rfl rfl (Nat.le_of_ble_eq_true rfl) (Nat.le_refl _) (q_ifb_ne (pc' := 8) (pt := 24) dX5_promise_5 rfl rfl (fun _ => (q_iconst (pc' := 25) _ dX5_promise_24 rfl kk_iconst_4 (q_iret dX5_promise_25 rfl (hQ _ _ _ _ ⟨_, rfl, ⟨rfl, rfl⟩, rfl, h, mS.rf⟩)))) (fun h9 => Bool.noConfusion (Eq.trans (Eq.symm (beq_iff_eq.mpr c7)) h9)))))
  · by_cases c8 : A 8 d = 1
    · rw [if_pos (Or.inl c8)] at hQ
      exact q_aload_n (pc' := 1) dX5_promise_0 rfl rfl (q_iload_n (pc' := 2) dX5_promise_1 rfl rfl (q_cVi (pc' := 5) dX5_promise_2 rfl ml_RX5_121 yv_X5_isStarted (by decide) (rn_X5_isStarted hi h.2.2 (by omega)) (okS hi hz (by decide) rfl) rfl rfl (Nat.le_of_ble_eq_true rfl) (Nat.le_refl _) (q_ifb_ne (pc' := 8) (pt := 24) dX5_promise_5 rfl rfl (fun h9 => Bool.noConfusion (Eq.trans (Eq.symm (beq_eq_false_iff_ne.mpr c7)) h9)) (fun _ => (q_aload_n (pc' := 9) dX5_promise_8 rfl rfl (q_iload_n (pc' := 10) dX5_promise_9 rfl rfl (q_cVi (pc' := 13) dX5_promise_10 rfl ml_RX5_82 yv_X5_isPromised (by decide) (rn_X5_isPromised hi h.2.2 (by omega)) (okS hi hz (by decide) rfl) rfl rfl (Nat.le_of_ble_eq_true rfl) (Nat.le_refl _) (q_ifb_ne (pc' := 16) (pt := 24) dX5_promise_13 rfl rfl (fun _ => (q_iconst (pc' := 25) _ dX5_promise_24 rfl kk_iconst_4 (q_iret dX5_promise_25 rfl (hQ _ _ _ _ ⟨_, rfl, ⟨rfl, rfl⟩, rfl, h, mS.rf⟩)))) (fun h9 => Bool.noConfusion (Eq.trans (Eq.symm (beq_iff_eq.mpr c8)) h9))))))))))
    · by_cases c3 : b 1 d = 3
      · rw [if_pos (Or.inr (Or.inr c3))] at hQ
        exact q_aload_n (pc' := 1) dX5_promise_0 rfl rfl (q_iload_n (pc' := 2) dX5_promise_1 rfl rfl (q_cVi (pc' := 5) dX5_promise_2 rfl ml_RX5_121 yv_X5_isStarted (by decide) (rn_X5_isStarted hi h.2.2 (by omega)) (okS hi hz (by decide) rfl) rfl rfl (Nat.le_of_ble_eq_true rfl) (Nat.le_refl _) (q_ifb_ne (pc' := 8) (pt := 24) dX5_promise_5 rfl rfl (fun h9 => Bool.noConfusion (Eq.trans (Eq.symm (beq_eq_false_iff_ne.mpr c7)) h9)) (fun _ => (q_aload_n (pc' := 9) dX5_promise_8 rfl rfl (q_iload_n (pc' := 10) dX5_promise_9 rfl rfl (q_cVi (pc' := 13) dX5_promise_10 rfl ml_RX5_82 yv_X5_isPromised (by decide) (rn_X5_isPromised hi h.2.2 (by omega)) (okS hi hz (by decide) rfl) rfl rfl (Nat.le_of_ble_eq_true rfl) (Nat.le_refl _) (q_ifb_ne (pc' := 16) (pt := 24) dX5_promise_13 rfl rfl (fun h9 => Bool.noConfusion (Eq.trans (Eq.symm (beq_eq_false_iff_ne.mpr c8)) h9)) (fun _ => (q_aload_n (pc' := 17) dX5_promise_16 rfl rfl (q_iload_n (pc' := 18) dX5_promise_17 rfl rfl (q_cVi (pc' := 21) dX5_promise_18 rfl ml_RX5_104 yv_X5_isManaged (by decide) (rn_X5_isManaged hi hS hB hb hk hd) (okS hi hz (by decide) rfl) rfl rfl (Nat.le_of_ble_eq_true rfl) (Nat.le_refl _) (q_ifb_eq (pc' := 24) (pt := 26) dX5_promise_21 rfl rfl (fun h9 => Bool.noConfusion (Eq.trans (Eq.symm (beq_iff_eq.mpr c3)) h9)) (fun _ => (q_iconst (pc' := 25) _ dX5_promise_24 rfl kk_iconst_4 (q_iret dX5_promise_25 rfl (hQ _ _ _ _ ⟨_, rfl, ⟨rfl, rfl⟩, rfl, h, mS.rf⟩)))))))))))))))))
      · rw [if_neg (fun q => q.elim c8 (fun q => q.elim c7 c3))] at hQ
        refine q_aload_n (pc' := 1) dX5_promise_0 rfl rfl (q_iload_n (pc' := 2) dX5_promise_1 rfl rfl (q_cVi (pc' := 5) dX5_promise_2 rfl ml_RX5_121 yv_X5_isStarted (by decide) (rn_X5_isStarted hi h.2.2 (by omega)) (okS hi hz (by decide) rfl) rfl rfl (Nat.le_of_ble_eq_true rfl) (Nat.le_refl _) (q_ifb_ne (pc' := 8) (pt := 24) dX5_promise_5 rfl rfl (fun h9 => Bool.noConfusion (Eq.trans (Eq.symm (beq_eq_false_iff_ne.mpr c7)) h9)) (fun _ => (q_aload_n (pc' := 9) dX5_promise_8 rfl rfl (q_iload_n (pc' := 10) dX5_promise_9 rfl rfl (q_cVi (pc' := 13) dX5_promise_10 rfl ml_RX5_82 yv_X5_isPromised (by decide) (rn_X5_isPromised hi h.2.2 (by omega)) (okS hi hz (by decide) rfl) rfl rfl (Nat.le_of_ble_eq_true rfl) (Nat.le_refl _) (q_ifb_ne (pc' := 16) (pt := 24) dX5_promise_13 rfl rfl (fun h9 => Bool.noConfusion (Eq.trans (Eq.symm (beq_eq_false_iff_ne.mpr c8)) h9)) (fun _ => (q_aload_n (pc' := 17) dX5_promise_16 rfl rfl (q_iload_n (pc' := 18) dX5_promise_17 rfl rfl (q_cVi (pc' := 21) dX5_promise_18 rfl ml_RX5_104 yv_X5_isManaged (by decide) (rn_X5_isManaged hi hS hB hb hk hd) (okS hi hz (by decide) rfl) rfl rfl (Nat.le_of_ble_eq_true rfl) (Nat.le_refl _) (q_ifb_eq (pc' := 24) (pt := 26) dX5_promise_21 rfl rfl (fun _ => (q_aload_n (pc' := 27) dX5_promise_26 rfl rfl (q_getR (pc' := 30) dX5_promise_27 rfl fr_RX5_41 (okS hi hz (by decide) rfl) rfl (wS_5_1 hS) (sA_lt hi (by decide)) ?_))) (fun h9 => Bool.noConfusion (Eq.trans (Eq.symm (beq_eq_false_iff_ne.mpr c3)) h9)))))))))))))))
        refine q_cVi (pc' := 33) dX5_promise_30 rfl ml_RX5_137 yv_X4_freeOnline (by decide) (rn_X4_freeOnline hi hS hb hk h.1) (okS hi hz (by decide) rfl) rfl rfl (Nat.le_of_ble_eq_true rfl) (Nat.le_refl _) (q_aload_n (pc' := 34) dX5_promise_33 rfl rfl (q_cVi (pc' := 37) dX5_promise_34 rfl ml_RX5_141 yv_X5_promisedVectors (by decide) (rn_X5_promisedVectors hi hS hB hb hk h.2.2) (okS hi hz (by decide) rfl) rfl rfl (Nat.le_of_ble_eq_true rfl) (Nat.le_refl _) (q_aload_n (pc' := 38) dX5_promise_37 rfl rfl (q_getR (pc' := 41) dX5_promise_38 rfl fr_RX5_32 (okS hi hz (by decide) rfl) rfl (wS_5_0 hS) (by decide) (q_getR (pc' := 44) dX5_promise_41 rfl fr_RX5_85 (by first | assumption | exact ⟨by omega, rfl⟩) rfl (wB_8 hB) (by omega) (q_iload_n (pc' := 45) dX5_promise_44 rfl rfl (q_ialde (pc' := 46) (d) dX5_promise_45 rfl (by first | exact ⟨by omega, rfl⟩ | exact okaS hi hz (by decide) rfl | assumption) (by (first | (simp only [nI_add, pk_mul]; done) | (simp only [nI_add, pk_mul]; exact nI_e (by omega)) | exact nI_e (by omega))) (by omega) (hb.2 d hd).2.1 ?_)))))))
        refine q_iadd dX5_promise_46 rfl ?_
        refine q_top (nI_add _ _) ?_
        by_cases hc : aFree b A < aProm b A + b 2 d
        · rw [if_pos hc] at hQ
          exact q_icmp_ge (pc' := 50) (pt := 52) dX5_promise_47 rfl rfl (fun h9 => absurd h9 (Int32.not_le.mpr (nI_lt hc (by omega)))) (fun _ => (q_iconst (pc' := 51) _ dX5_promise_50 rfl kk_iconst_2 (q_iret dX5_promise_51 rfl (hQ _ _ _ _ ⟨_, rfl, ⟨rfl, rfl⟩, rfl, h, mS.rf⟩))))
        · rw [if_neg hc] at hQ
          refine q_icmp_ge (pc' := 50) (pt := 52) dX5_promise_47 rfl rfl (fun _ => (q_aload_n (pc' := 53) dX5_promise_52 rfl rfl (q_dup_a (pc' := 54) dX5_promise_53 rfl (q_getIe (pc' := 57) dX5_promise_54 rfl fr_RX5_54 (okS hi hz (by decide) rfl) rfl h.2.2.1.2 (q_iconst (pc' := 58) _ dX5_promise_57 rfl kk_iconst_1 (q_iload_n (pc' := 59) dX5_promise_58 rfl rfl (q_ishl (pc' := 60) dX5_promise_59 rfl ?_))))))) (fun h9 => absurd (nI_le (by omega) (by omega)) h9)
          refine q_top (sh32 d (by omega)) ?_
          refine q_ior dX5_promise_60 rfl ?_
          refine q_top (bit_on (by omega)) ?_
          exact q_putI (pc' := 64) dX5_promise_61 rfl fl_RX5_54 (okS hi hz (by decide) rfl) rfl (q_iconst (pc' := 65) _ dX5_promise_64 rfl kk_iconst_0 (q_iret dX5_promise_65 rfl (hQ _ _ _ _ ⟨_, rfl, ⟨rfl, rfl⟩, rfl, cR_8 rfl h, mS_up (by decide)⟩)))
theorem rn_X5_signal0 {x y : Int32} {late : Bool} (hi : i < 21) (hS : mj_wS R i) (hb : cB I b) (hk : bOK b) (hx : inN x (b 0 2) = false) : Rn w l yX5_signal dd_X5_signal [.ref (sA i 0), .int x, .int y, .int (bI late)] (472, I, J, R) (some (.int (-1))) (472, I, J, R) := by
  have hz : 50 + 20 * i ≤ 472 := by omega
  refine rn_intro2 (L := [some (.ref (sA i 0)), some (.int x), some (.int y), some (.int (bI late)), none, none]) ⟨by decide, rfl, (fun h => by cases h)⟩ (Nat.le_refl _) (Nat.le_of_ble_eq_true rfl) rfl (fun Y Q hQ => ?_)
  exact q_aload_n (pc' := 1) dX5_signal_0 rfl rfl (q_getR (pc' := 4) dX5_signal_1 rfl fr_RX5_32 (okS hi hz (by decide) rfl) rfl (wS_5_0 hS) (by decide) (q_iload_n (pc' := 5) dX5_signal_4 rfl rfl (q_iload_n (pc' := 6) dX5_signal_5 rfl rfl (q_cVi (pc' := 9) dX5_signal_6 rfl ml_RX5_193 yv_X0_hasLine (by decide) (rn_X0_hasLine0 hb hk hx) (by first | assumption | exact ⟨by omega, rfl⟩) rfl rfl (Nat.le_of_ble_eq_true rfl) (Nat.le_refl _) (q_ifb_eq (pc' := 12) (pt := 20) dX5_signal_9 rfl rfl (fun _ => (q_iconst (pc' := 21) _ dX5_signal_20 rfl kk_iconst_m1 (q_iret dX5_signal_21 rfl hQ))) (fun h9 => Bool.noConfusion (Eq.trans (Eq.symm (rfl)) h9)))))))
theorem rn_X5_signal1 {d : Nat} {y : Int32} {late : Bool} (hi : i < 21) (hS : mj_wS R i) (hB : mj_wB R 4) (hb : cB I b) (hk : bOK b) (h : cR I i b A) (hd : d < b 0 2) (hn : inN y (b 2 d) = false ∨ A 7 d ≠ 1) : Rn w l yX5_signal dd_X5_signal [.ref (sA i 0), .int (nI d), .int y, .int (bI late)] (472, I, J, R) (some (.int (-1))) (472, I, J, R) := by
  have hz : 50 + 20 * i ≤ 472 := by omega
  have h10 := hk.2.2.1
  refine rn_intro2 (L := [some (.ref (sA i 0)), some (.int (nI d)), some (.int y), some (.int (bI late)), none, none]) ⟨by decide, rfl, (fun h => by cases h)⟩ (Nat.le_refl _) (Nat.le_of_ble_eq_true rfl) rfl (fun Y Q hQ => ?_)
  by_cases hy : inN y (b 2 d) = false
  · exact q_aload_n (pc' := 1) dX5_signal_0 rfl rfl (q_getR (pc' := 4) dX5_signal_1 rfl fr_RX5_32 (okS hi hz (by decide) rfl) rfl (wS_5_0 hS) (by decide) (q_iload_n (pc' := 5) dX5_signal_4 rfl rfl (q_iload_n (pc' := 6) dX5_signal_5 rfl rfl (q_cVi (pc' := 9) dX5_signal_6 rfl ml_RX5_193 yv_X0_hasLine (by decide) (rn_X0_hasLine hB hb hk hd) (by first | assumption | exact ⟨by omega, rfl⟩) rfl rfl (Nat.le_of_ble_eq_true rfl) (Nat.le_refl _) (q_ifb_eq (pc' := 12) (pt := 20) dX5_signal_9 rfl rfl (fun _ => (q_iconst (pc' := 21) _ dX5_signal_20 rfl kk_iconst_m1 (q_iret dX5_signal_21 rfl hQ))) (fun h9 => Bool.noConfusion (Eq.trans (Eq.symm (hy)) h9)))))))
  · have h7 := hn.resolve_left hy
    rw [Bool.not_eq_false] at hy
    exact q_aload_n (pc' := 1) dX5_signal_0 rfl rfl (q_getR (pc' := 4) dX5_signal_1 rfl fr_RX5_32 (okS hi hz (by decide) rfl) rfl (wS_5_0 hS) (by decide) (q_iload_n (pc' := 5) dX5_signal_4 rfl rfl (q_iload_n (pc' := 6) dX5_signal_5 rfl rfl (q_cVi (pc' := 9) dX5_signal_6 rfl ml_RX5_193 yv_X0_hasLine (by decide) (rn_X0_hasLine hB hb hk hd) (by first | assumption | exact ⟨by omega, rfl⟩) rfl rfl (Nat.le_of_ble_eq_true rfl) (Nat.le_refl _) (q_ifb_eq (pc' := 12) (pt := 20) dX5_signal_9 rfl rfl (fun h9 => Bool.noConfusion (Eq.trans (Eq.symm (hy)) h9)) (fun _ => (q_aload_n (pc' := 13) dX5_signal_12 rfl rfl (q_iload_n (pc' := 14) dX5_signal_13 rfl rfl (q_cVi (pc' := 17) dX5_signal_14 rfl ml_RX5_121 yv_X5_isStarted (by decide) (rn_X5_isStarted hi h.2.2 (by omega)) (okS hi hz (by decide) rfl) rfl rfl (Nat.le_of_ble_eq_true rfl) (Nat.le_refl _) (q_ifb_ne (pc' := 20) (pt := 22) dX5_signal_17 rfl rfl (fun h9 => Bool.noConfusion (Eq.trans (Eq.symm (beq_eq_false_iff_ne.mpr h7)) h9)) (fun _ => (q_iconst (pc' := 21) _ dX5_signal_20 rfl kk_iconst_m1 (q_iret dX5_signal_21 rfl hQ)))))))))))))
theorem rs_X5_signal {d k : Nat} {late : Bool} (hi : i < 21) (hS : mj_wS R i) (hB : mj_wB R 4) (hb : cB I b) (hk : bOK b) (h : cR I i b A) (hA : aOK A) (hd : d < b 0 2) (hl : k < b 2 d) (h7 : A 7 d = 1) (p3 : pv b (A 3 (8 * d + k))) (p4 : pv b (A 4 (8 * d + k))) : RsI w l yX5_signal dd_X5_signal [.ref (sA i 0), .int (nI d), .int (nI k), .int (bI late)] (472, I, J, R) (fun x I' => x = nI (aRaise A d k late).1 ∧ cR I' i b (aRaise A d k late).2 ∧ mS i I I') := by
  have hz : 50 + 20 * i ≤ 472 := by omega
  have h10 := hk.2.2.1
  have hs := hk.2.2.2 d hd
  have hin : inN (nI k) (b 2 d) = true := inN_t (by omega) hl
  have hln := h.2.2.2 (8 * d + k) (by omega)
  have hok := hA.2.1 (8 * d + k) (by omega)
  have e8 : 8 * d + k < 80 := by omega
  have ed : (8 * d + k) / 8 = d := by omega
  refine rt_intro2 (L := [some (.ref (sA i 0)), some (.int (nI d)), some (.int (nI k)), some (.int (bI late)), none, none]) ⟨by decide, rfl, (fun h => by cases h)⟩ (Nat.le_of_ble_eq_true rfl) rfl (fun Y Q hQ => ?_)
  refine q_aload_n (pc' := 1) dX5_signal_0 rfl rfl (q_getR (pc' := 4) dX5_signal_1 rfl fr_RX5_32 (okS hi hz (by decide) rfl) rfl (wS_5_0 hS) (by decide) (q_iload_n (pc' := 5) dX5_signal_4 rfl rfl (q_iload_n (pc' := 6) dX5_signal_5 rfl rfl (q_cVi (pc' := 9) dX5_signal_6 rfl ml_RX5_193 yv_X0_hasLine (by decide) (rn_X0_hasLine hB hb hk hd) (by first | assumption | exact ⟨by omega, rfl⟩) rfl rfl (Nat.le_of_ble_eq_true rfl) (Nat.le_refl _) (q_ifb_eq (pc' := 12) (pt := 20) dX5_signal_9 rfl rfl (fun h9 => Bool.noConfusion (Eq.trans (Eq.symm (hin)) h9)) (fun _ => (q_aload_n (pc' := 13) dX5_signal_12 rfl rfl (q_iload_n (pc' := 14) dX5_signal_13 rfl rfl (q_cVi (pc' := 17) dX5_signal_14 rfl ml_RX5_121 yv_X5_isStarted (by decide) (rn_X5_isStarted hi h.2.2 (by omega)) (okS hi hz (by decide) rfl) rfl rfl (Nat.le_of_ble_eq_true rfl) (Nat.le_refl _) (q_ifb_ne (pc' := 20) (pt := 22) dX5_signal_17 rfl rfl (fun _ => (q_iload_n (pc' := 23) dX5_signal_22 rfl rfl (q_bipush (pc' := 25) _ dX5_signal_23 rfl kk_bipush_8 (q_imul (pc' := 26) dX5_signal_25 rfl (q_iload_n (pc' := 27) dX5_signal_26 rfl rfl ?_))))) (fun h9 => Bool.noConfusion (Eq.trans (Eq.symm (beq_iff_eq.mpr h7)) h9))))))))))))
  refine q_iadd (pc' := 28) dX5_signal_27 rfl ?_
  refine q_top (y := nI (8 * d + k)) (by rw [pk_mul, nI_add, Nat.mul_comm d 8]) ?_
  refine q_ist_4 (pc' := 30) dX5_signal_28 rfl (by decide) rfl ?_
  have pend : ∀ pl o5, pl < 256 → pl % 32 < b 0 1 → (aRaise A d k late = (1 - A 2 pl, aPends A d pl)) → Wq dd_X5_signal (mj_mk w l 472 Y) Q 62 [some (.ref (sA i 0)), some (.int (nI d)), some (.int (nI k)), some (.int (bI late)), some (.int (nI (8 * d + k))), o5] [.int (nI pl)] (472, I, J, R) := by
    intro pl o5 hp1 hp2 he
    rw [he] at hQ
    have h2 := (hA.1 pl hp1).2.2
    refine q_ist_5 (pc' := 64) dX5_signal_62 rfl (by decide) rfl (q_iload (pc' := 66) dX5_signal_64 rfl rfl (q_iconst (pc' := 67) _ dX5_signal_66 rfl kk_iconst_m1 (q_icmp_eq (pc' := 70) (pt := 87) dX5_signal_67 rfl rfl (fun h9 => absurd h9 (nI_m1 (by omega))) (fun _ => (q_aload_n (pc' := 71) dX5_signal_70 rfl rfl (q_iload (pc' := 73) dX5_signal_71 rfl rfl (q_iload (pc' := 75) dX5_signal_73 rfl rfl (q_sVi (pc' := 78) dX5_signal_75 rfl ml_RX5_196 yv_X5_pendAt (by decide) (rs_X5_pendAt hi hS hk h e8 hp1 hp2) (okS hi hz (by decide) rfl) rfl rfl (Nat.le_of_ble_eq_true rfl) (Nat.le_refl _) (fun x1 I1 ⟨r1, h1, f1⟩ => ?_)))))))))
    rw [r1]
    rw [ed] at h1
    by_cases hc : A 2 pl = 1
    · have e1 : (A 2 pl != 1) = false := by rw [hc]; rfl
      rw [e1]
      exact q_ifb_eq (pc' := 81) (pt := 85) dX5_signal_78 rfl rfl (fun _ => (q_iconst (pc' := 86) _ dX5_signal_85 rfl kk_iconst_0 (q_iret dX5_signal_86 rfl (hQ _ _ _ _ ⟨_, rfl, ⟨rfl, rfl⟩, (by rw [hc]), h1, f1⟩)))) (fun h9 => Bool.noConfusion (Eq.trans (Eq.symm (rfl)) h9))
    · have e1 : (A 2 pl != 1) = true := bne_iff_ne.mpr hc
      rw [e1]
      exact q_ifb_eq (pc' := 81) (pt := 85) dX5_signal_78 rfl rfl (fun h9 => Bool.noConfusion (Eq.trans (Eq.symm (rfl)) h9)) (fun _ => (q_iconst (pc' := 82) _ dX5_signal_81 rfl kk_iconst_1 (q_goto (pc' := 86) dX5_signal_82 rfl (q_iret dX5_signal_86 rfl (hQ _ _ _ _ ⟨_, rfl, ⟨rfl, rfl⟩, (by rw [show A 2 pl = 0 by omega]), h1, f1⟩)))))
  have held : ¬ (late = true ∧ A 4 (8 * d + k) ≠ 0) → Wq dd_X5_signal (mj_mk w l 472 Y) Q 55 [some (.ref (sA i 0)), some (.int (nI d)), some (.int (nI k)), some (.int (bI late)), some (.int (nI (8 * d + k))), none] [] (472, I, J, R) := by
    intro hno
    by_cases c3 : A 3 (8 * d + k) = 0
    · have e3 : I (sA i 7) (8 * d + k) = -1 := by rw [hln.1, c3]; rfl
      unfold aRaise at hQ
      rw [if_neg hno, if_neg (fun q => q c3)] at hQ
      by_cases c6 : A 6 (8 * d + k) = 1
      · rw [if_pos c6] at hQ
        refine q_aload_n (pc' := 56) dX5_signal_55 rfl rfl (q_getR (pc' := 59) dX5_signal_56 rfl fr_RX5_18 (okS hi hz (by decide) rfl) rfl (wS_5_5 hS) (sA_lt hi (by decide)) (q_iload (pc' := 61) dX5_signal_59 rfl rfl (q_ialde (pc' := 62) (8 * d + k) dX5_signal_61 rfl (by first | exact ⟨by omega, rfl⟩ | exact okaS hi hz (by decide) rfl | assumption) (by (first | (simp only [nI_add, pk_mul]; done) | (simp only [nI_add, pk_mul]; exact nI_e (by omega)) | exact nI_e (by omega))) (by omega) e3 (q_ist_5 (pc' := 64) dX5_signal_62 rfl (by decide) rfl (q_iload (pc' := 66) dX5_signal_64 rfl rfl (q_iconst (pc' := 67) _ dX5_signal_66 rfl kk_iconst_m1 (q_icmp_eq (pc' := 70) (pt := 87) dX5_signal_67 rfl rfl (fun _ => (q_aload_n (pc' := 88) dX5_signal_87 rfl rfl (q_getR (pc' := 91) dX5_signal_88 rfl fr_RX5_29 (okS hi hz (by decide) rfl) rfl (wS_5_8 hS) (sA_lt hi (by decide)) (q_iload (pc' := 93) dX5_signal_91 rfl rfl (q_zalde (pc' := 94) (8 * d + k) dX5_signal_93 rfl (by first | exact ⟨by omega, rfl⟩ | exact okaS hi hz (by decide) rfl | assumption) (by (first | (simp only [nI_add, pk_mul]; done) | (simp only [nI_add, pk_mul]; exact nI_e (by omega)) | exact nI_e (by omega))) (by omega) (hln.2.2.2.trans (bI_n hok.2.2.2)) (q_ifb_eq (pc' := 97) (pt := 112) dX5_signal_94 rfl rfl (fun h9 => Bool.noConfusion (Eq.trans (Eq.symm (beq_iff_eq.mpr c6)) h9)) (fun _ => (q_aload_n (pc' := 98) dX5_signal_97 rfl rfl ?_)))))))) (fun h9 => absurd (rfl) h9))))))))
        refine q_getR (pc' := 101) dX5_signal_98 rfl fr_RX5_12 (okS hi hz (by decide) rfl) rfl (wS_5_2 hS) (sA_lt hi (by decide)) (q_getR (pc' := 104) dX5_signal_101 rfl fr_RX5_114 (okS hi hz (by decide) rfl) rfl (wS_8_3 hS) (sA_lt hi (by decide)) (q_iload_n (pc' := 105) dX5_signal_104 rfl rfl (q_dup2 (pc' := 106) dX5_signal_105 rfl (q_ialde (pc' := 107) (d) dX5_signal_106 rfl (by first | exact ⟨by omega, rfl⟩ | exact okaS hi hz (by decide) rfl | assumption) (by (first | (simp only [nI_add, pk_mul]; done) | (simp only [nI_add, pk_mul]; exact nI_e (by omega)) | exact nI_e (by omega))) (by omega) (h.2.1.2.1 d (by omega)).2.1 (q_iconst (pc' := 108) _ dX5_signal_107 rfl kk_iconst_1 (q_iadd (pc' := 109) dX5_signal_108 rfl ?_))))))
        refine q_top (nI_add _ 1) ?_
        exact q_iast (pc' := 110) (d) dX5_signal_109 rfl (by first | exact ⟨by omega, rfl⟩ | exact okaS hi hz (by decide) rfl | assumption) (by (first | (simp only [nI_add, pk_mul]; done) | (simp only [nI_add, pk_mul]; exact nI_e (by omega)) | exact nI_e (by omega))) (by omega) (q_iconst (pc' := 111) _ dX5_signal_110 rfl kk_iconst_0 (q_iret dX5_signal_111 rfl (hQ _ _ _ _ ⟨_, rfl, ⟨rfl, rfl⟩, rfl, cR_up14 (by decide) (by decide) (cR_ct (Or.inr (Or.inl ⟨rfl, rfl⟩)) h), mS_up (by decide)⟩)))
      · rw [if_neg c6] at hQ
        refine q_aload_n (pc' := 56) dX5_signal_55 rfl rfl (q_getR (pc' := 59) dX5_signal_56 rfl fr_RX5_18 (okS hi hz (by decide) rfl) rfl (wS_5_5 hS) (sA_lt hi (by decide)) (q_iload (pc' := 61) dX5_signal_59 rfl rfl (q_ialde (pc' := 62) (8 * d + k) dX5_signal_61 rfl (by first | exact ⟨by omega, rfl⟩ | exact okaS hi hz (by decide) rfl | assumption) (by (first | (simp only [nI_add, pk_mul]; done) | (simp only [nI_add, pk_mul]; exact nI_e (by omega)) | exact nI_e (by omega))) (by omega) e3 (q_ist_5 (pc' := 64) dX5_signal_62 rfl (by decide) rfl (q_iload (pc' := 66) dX5_signal_64 rfl rfl (q_iconst (pc' := 67) _ dX5_signal_66 rfl kk_iconst_m1 (q_icmp_eq (pc' := 70) (pt := 87) dX5_signal_67 rfl rfl (fun _ => (q_aload_n (pc' := 88) dX5_signal_87 rfl rfl (q_getR (pc' := 91) dX5_signal_88 rfl fr_RX5_29 (okS hi hz (by decide) rfl) rfl (wS_5_8 hS) (sA_lt hi (by decide)) (q_iload (pc' := 93) dX5_signal_91 rfl rfl (q_zalde (pc' := 94) (8 * d + k) dX5_signal_93 rfl (by first | exact ⟨by omega, rfl⟩ | exact okaS hi hz (by decide) rfl | assumption) (by (first | (simp only [nI_add, pk_mul]; done) | (simp only [nI_add, pk_mul]; exact nI_e (by omega)) | exact nI_e (by omega))) (by omega) (hln.2.2.2.trans (bI_n hok.2.2.2)) (q_ifb_eq (pc' := 97) (pt := 112) dX5_signal_94 rfl rfl (fun _ => (q_aload_n (pc' := 113) dX5_signal_112 rfl rfl ?_)) (fun h9 => Bool.noConfusion (Eq.trans (Eq.symm (beq_eq_false_iff_ne.mpr c6)) h9)))))))) (fun h9 => absurd (rfl) h9))))))))
        exact q_getR (pc' := 116) dX5_signal_113 rfl fr_RX5_29 (okS hi hz (by decide) rfl) rfl (wS_5_8 hS) (sA_lt hi (by decide)) (q_iload (pc' := 118) dX5_signal_116 rfl rfl (q_iconst (pc' := 119) _ dX5_signal_118 rfl kk_iconst_1 (q_zast (pc' := 120) (8 * d + k) dX5_signal_119 rfl (by first | exact ⟨by omega, rfl⟩ | exact okaS hi hz (by decide) rfl | assumption) (by (first | (simp only [nI_add, pk_mul]; done) | (simp only [nI_add, pk_mul]; exact nI_e (by omega)) | exact nI_e (by omega))) (by omega) (by first | exact Or.inl rfl | exact Or.inr rfl | exact bI_01 _) (q_iconst (pc' := 121) _ dX5_signal_120 rfl kk_iconst_1 (q_iret dX5_signal_121 rfl (hQ _ _ _ _ ⟨_, rfl, ⟨rfl, rfl⟩, rfl, cR_ln (x := 1) (Or.inr (Or.inr (Or.inr ⟨rfl, rfl, rfl⟩))) h, mS_up (by decide)⟩))))))
    · have e3 : I (sA i 7) (8 * d + k) = nI (A 3 (8 * d + k) - 1) := hln.1.trans (lD_p (by omega))
      have pp := p3 c3
      refine q_aload_n (pc' := 56) dX5_signal_55 rfl rfl (q_getR (pc' := 59) dX5_signal_56 rfl fr_RX5_18 (okS hi hz (by decide) rfl) rfl (wS_5_5 hS) (sA_lt hi (by decide)) (q_iload (pc' := 61) dX5_signal_59 rfl rfl (q_ialde (pc' := 62) (8 * d + k) dX5_signal_61 rfl (by first | exact ⟨by omega, rfl⟩ | exact okaS hi hz (by decide) rfl | assumption) (by (first | (simp only [nI_add, pk_mul]; done) | (simp only [nI_add, pk_mul]; exact nI_e (by omega)) | exact nI_e (by omega))) (by omega) e3 ?_)))
      exact pend _ _ pp.1 pp.2 (by unfold aRaise; rw [if_neg hno, if_pos c3])
  cases late with
  | false =>
    refine q_iload_n (pc' := 31) dX5_signal_30 rfl rfl (q_ifb_eq (pc' := 34) (pt := 55) dX5_signal_31 rfl rfl (fun _ => ?_) (fun h9 => Bool.noConfusion (Eq.trans (Eq.symm (rfl)) h9)))
    exact held (fun q => by cases q.1)
  | true =>
    by_cases c4 : A 4 (8 * d + k) = 0
    · have e4 : I (sA i 8) (8 * d + k) = -1 := by rw [hln.2.1, c4]; rfl
      refine q_iload_n (pc' := 31) dX5_signal_30 rfl rfl (q_ifb_eq (pc' := 34) (pt := 55) dX5_signal_31 rfl rfl (fun h9 => Bool.noConfusion (Eq.trans (Eq.symm (rfl)) h9)) (fun _ => (q_aload_n (pc' := 35) dX5_signal_34 rfl rfl (q_getR (pc' := 38) dX5_signal_35 rfl fr_RX5_22 (okS hi hz (by decide) rfl) rfl (wS_5_6 hS) (sA_lt hi (by decide)) (q_iload (pc' := 40) dX5_signal_38 rfl rfl (q_ialde (pc' := 41) (8 * d + k) dX5_signal_40 rfl (by first | exact ⟨by omega, rfl⟩ | exact okaS hi hz (by decide) rfl | assumption) (by (first | (simp only [nI_add, pk_mul]; done) | (simp only [nI_add, pk_mul]; exact nI_e (by omega)) | exact nI_e (by omega))) (by omega) e4 (q_iconst (pc' := 42) _ dX5_signal_41 rfl kk_iconst_m1 (q_icmp_eq (pc' := 45) (pt := 55) dX5_signal_42 rfl rfl (fun _ => ?_) (fun h9 => absurd (rfl) h9)))))))))
      exact held (fun q => q.2 c4)
    · have e4 : I (sA i 8) (8 * d + k) = nI (A 4 (8 * d + k) - 1) := hln.2.1.trans (lD_p (by omega))
      have pp := p4 c4
      refine q_iload_n (pc' := 31) dX5_signal_30 rfl rfl (q_ifb_eq (pc' := 34) (pt := 55) dX5_signal_31 rfl rfl (fun h9 => Bool.noConfusion (Eq.trans (Eq.symm (rfl)) h9)) (fun _ => (q_aload_n (pc' := 35) dX5_signal_34 rfl rfl (q_getR (pc' := 38) dX5_signal_35 rfl fr_RX5_22 (okS hi hz (by decide) rfl) rfl (wS_5_6 hS) (sA_lt hi (by decide)) (q_iload (pc' := 40) dX5_signal_38 rfl rfl (q_ialde (pc' := 41) (8 * d + k) dX5_signal_40 rfl (by first | exact ⟨by omega, rfl⟩ | exact okaS hi hz (by decide) rfl | assumption) (by (first | (simp only [nI_add, pk_mul]; done) | (simp only [nI_add, pk_mul]; exact nI_e (by omega)) | exact nI_e (by omega))) (by omega) e4 (q_iconst (pc' := 42) _ dX5_signal_41 rfl kk_iconst_m1 (q_icmp_eq (pc' := 45) (pt := 55) dX5_signal_42 rfl rfl (fun h9 => absurd h9 (nI_m1 (by omega))) (fun _ => (q_aload_n (pc' := 46) dX5_signal_45 rfl rfl (q_getR (pc' := 49) dX5_signal_46 rfl fr_RX5_22 (okS hi hz (by decide) rfl) rfl (wS_5_6 hS) (sA_lt hi (by decide)) (q_iload (pc' := 51) dX5_signal_49 rfl rfl (q_ialde (pc' := 52) (8 * d + k) dX5_signal_51 rfl (by first | exact ⟨by omega, rfl⟩ | exact okaS hi hz (by decide) rfl | assumption) (by (first | (simp only [nI_add, pk_mul]; done) | (simp only [nI_add, pk_mul]; exact nI_e (by omega)) | exact nI_e (by omega))) (by omega) e4 (q_goto (pc' := 62) dX5_signal_52 rfl ?_))))))))))))))
      exact pend _ _ pp.1 pp.2 (by unfold aRaise; rw [if_pos ⟨rfl, c4⟩])
end ST2
