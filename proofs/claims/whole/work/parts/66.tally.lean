/-! ===== the class: Tally; floorMod, fill ===== -/
theorem nI_xor (a c : Nat) : nI a ^^^ nI c = nI (a ^^^ c) := by
  apply Int32.toBitVec_inj.mp
  rw [Int32.toBitVec_xor]
  show BitVec.ofNat 32 a ^^^ BitVec.ofNat 32 c = BitVec.ofNat 32 (a ^^^ c)
  exact (BitVec.ofNat_xor).symm
/-- nothing changes but the counts of one state -/
def mSt (i : Nat) (I I' : mj_M) : Prop := ∀ a, (∀ c, 1 ≤ c → c < 7 → a ≠ sA i c) → I' a = I a
theorem mSt.rf {i : Nat} {I : mj_M} : mSt i I I := fun _ _ => rfl
theorem mSt.tr {i : Nat} {I I' I2 : mj_M} (h : mSt i I I') (h2 : mSt i I' I2) : mSt i I I2 := fun a ha => (h2 a ha).trans (h a ha)
theorem mSt.s {i : Nat} {I I' : mj_M} (h : mSt i I I') : mS i I I' := fun a ha => h a (fun c _ hc => ha c (by omega))
theorem mSt.hi {i c : Nat} {I I' : mj_M} (h : mSt i I I') (hc : c = 0 ∨ 7 ≤ c) : I' (sA i c) = I (sA i c) := h _ (fun c2 h1 h2 => sA_ne (by omega))
theorem mSt_up {i c j : Nat} {I : mj_M} {x : Int32} (h1 : 1 ≤ c) (hc : c < 7) : mSt i I (mj_up I (sA i c) j x) := fun a ha => up_fI (ha c h1 hc)
/-- a message that was handled, as the class counts it -/
def aNote (A : St) (id p o : Nat) : St := aLog (mj_up (mj_up A 13 (p / 32) (A 13 (p / 32) + 1)) 10 (id / 8) (A 10 (id / 8) + 1)) (eLog id p o)
section TALLY
variable {w : mj_Wd} {l : Launch} {I : mj_M} {J : mj_J} {R : mj_R} {b A : St} {i : Nat}
theorem rn_floorMod {a c : Nat} {h : mj_H} (ha : a < 2 ^ 31) (h0 : 0 < c) (hc : c < 2 ^ 31) : Rn w l yJ9_floorMod_7cf53 dd_J9_floorMod_7cf53 [.int (nI a), .int (nI c)] h (some (.int (nI (a % c)))) h := by
  have hx : ¬ nI a ^^^ nI c < 0 := by
    rw [nI_xor]
    exact Int32.not_lt.mpr (nI_le (a := 0) (Nat.zero_le _) (Nat.xor_lt_two_pow ha hc))
  refine rn_intro2F (L := [some (.int (nI a)), some (.int (nI c)), none]) ⟨by decide +kernel, rfl, (fun h => by cases h)⟩ (Nat.le_refl _) (Nat.le_of_ble_eq_true rfl) rfl (fun Y Q hQ => ?_)
  refine q_iload_n (pc' := 1) dJ9_floorMod_7cf53_0 rfl rfl (q_iload_n (pc' := 2) dJ9_floorMod_7cf53_1 rfl rfl (q_irem (pc' := 3) dJ9_floorMod_7cf53_2 rfl (nI_ne0 h0 hc) ?_))
  refine q_top (pk_rem ha h0 hc) ?_
  exact q_ist_2 (pc' := 4) dJ9_floorMod_7cf53_3 rfl (by decide) rfl (q_iload_n (pc' := 5) dJ9_floorMod_7cf53_4 rfl rfl (q_iload_n (pc' := 6) dJ9_floorMod_7cf53_5 rfl rfl (q_ixor (pc' := 7) dJ9_floorMod_7cf53_6 rfl (q_if_ge (pc' := 10) (pt := 18) dJ9_floorMod_7cf53_7 rfl rfl (fun _ => (q_iload_n (pc' := 19) dJ9_floorMod_7cf53_18 rfl rfl (q_iret dJ9_floorMod_7cf53_19 rfl hQ))) (fun h9 => absurd (Int32.not_lt.mp hx) h9)))))
theorem rn_fill {z a n : Nat} {v : Int32} (ha : mj_oka z a 12 n) (hn : n < 2 ^ 31) : Rn w l yJ7_fill_53178 dd_J7_fill_53178 [.ref a, .int v] (z, I, J, R) none (z, mj_cp I a n (fun _ => v), J, R) := by
  refine rn_intro2 (L := [some (.ref a), some (.int v), none, none]) ⟨by decide, rfl, (fun h => by cases h)⟩ (Nat.le_refl _) (Nat.le_of_ble_eq_true rfl) rfl (fun Y Q hQ => ?_)
  refine q_iconst (pc' := 1) _ dJ7_fill_53178_0 rfl kk_iconst_0 (q_ist_2 (pc' := 2) dJ7_fill_53178_1 rfl (by decide) rfl (q_aload_n (pc' := 3) dJ7_fill_53178_2 rfl rfl (q_alen (pc' := 4) _ dJ7_fill_53178_3 rfl (by first | exact ⟨by omega, rfl⟩ | exact okaS hi hz (by decide) rfl | assumption) (by first | exact Or.inl rfl | exact Or.inr rfl) rfl (q_ist_3 (pc' := 5) dJ7_fill_53178_4 rfl (by decide) rfl ?_))))
  have loop : ∀ m k, k + m = n → Wq dd_J7_fill_53178 (mj_mk w l z Y) Q 5 [some (.ref a), some (.int v), some (.int (nI k)), some (.int (nI n))] [] (z, mj_cp I a k (fun _ => v), J, R) := by
    intro m
    induction m with
    | zero =>
      intro k hkm
      have hkz : k = n := by omega
      subst hkz
      exact q_iload_n (pc' := 6) dJ7_fill_53178_5 rfl rfl (q_iload_n (pc' := 7) dJ7_fill_53178_6 rfl rfl (q_icmp_ge (pc' := 10) (pt := 20) dJ7_fill_53178_7 rfl rfl (fun _ => (q_vret dJ7_fill_53178_20 rfl hQ)) (fun h9 => absurd (by (first | assumption | exact nI_le (by omega) (by omega) | exact nI_ge (by omega) (by omega) | exact nI_lt (by omega) (by omega) | exact nI_nlt (by omega) (by omega) | exact nI_ne (by omega) (by omega) (by omega) | exact nI_e (by omega) | decide)) h9)))
    | succ m ih =>
      intro k hkm
      refine q_iload_n (pc' := 6) dJ7_fill_53178_5 rfl rfl (q_iload_n (pc' := 7) dJ7_fill_53178_6 rfl rfl (q_icmp_ge (pc' := 10) (pt := 20) dJ7_fill_53178_7 rfl rfl (fun h9 => absurd h9 (by (first | assumption | exact nI_le (by omega) (by omega) | exact nI_ge (by omega) (by omega) | exact nI_lt (by omega) (by omega) | exact nI_nlt (by omega) (by omega) | exact nI_ne (by omega) (by omega) (by omega) | exact nI_e (by omega) | decide))) (fun _ => (q_aload_n (pc' := 11) dJ7_fill_53178_10 rfl rfl (q_iload_n (pc' := 12) dJ7_fill_53178_11 rfl rfl (q_iload_n (pc' := 13) dJ7_fill_53178_12 rfl rfl (q_iast (pc' := 14) (k) dJ7_fill_53178_13 rfl (by first | exact ⟨by omega, rfl⟩ | exact okaS hi hz (by decide) rfl | assumption) (by (first | (simp only [nI_add, pk_mul]; done) | (simp only [nI_add, pk_mul]; exact nI_e (by omega)) | exact nI_e (by omega))) (by omega) (q_inc_2 (pc' := 17) dJ7_fill_53178_14 rfl (by decide) rfl (q_goto (pc' := 5) dJ7_fill_53178_17 rfl ?_)))))))))
      rw [cp_s (f := fun _ => v)]
      exact ih (k + 1) (by omega)
  have := loop n 0 (by omega)
  rw [cp_0] at this
  exact this
theorem rs_X8_note {id p : Nat} {o : Bool} (hi : i < 21) (hS : mj_wS R i) (h : cRt I i A) (hid : id < 80) (hp : p < 256) (hL : A 14 4 < 2 ^ 31) : RsV w l yX8_note dd_X8_note [.ref (sA i 1), .int (nI id), .int (nI p), .int (bI o)] (472, I, J, R) (fun I' => cRt I' i (aNote A id p (if o = true then 1 else 0)) ∧ mSt i I I') := by
  have hz : 50 + 20 * i ≤ 472 := by omega
  have e1 := pk_div (a := id) (d := 8) (by omega) (by decide) (by decide)
  have e2 := pk_div (a := p) (d := 32) (by omega) (by decide) (by decide)
  have e3 := pk_rem (a := A 14 4) (d := 40) hL (by decide) (by decide)
  have v1 : I (sA i 2) (id / 8) = nI (A 10 (id / 8)) := (h.2.1 _ (by omega)).1
  have v2 : mj_up I (sA i 2) (id / 8) (nI (A 10 (id / 8) + 1)) (sA i 5) (p / 32) = nI (A 13 (p / 32)) := by rw [mj_up_ne (sA_ne (by decide))]; exact h.2.2.1 _ (by omega)
  refine rt_intro2 (L := [some (.ref (sA i 1)), some (.int (nI id)), some (.int (nI p)), some (.int (bI o))]) ⟨by decide, rfl, (fun h => by cases h)⟩ (Nat.le_of_ble_eq_true rfl) rfl (fun Y Q hQ => ?_)
  refine q_aload_n (pc' := 1) dX8_note_0 rfl rfl (q_getR (pc' := 4) dX8_note_1 rfl fr_RX8_9 (okS hi hz (by decide) rfl) rfl (wS_8_2 hS) (sA_lt hi (by decide)) (q_iload_n (pc' := 5) dX8_note_4 rfl rfl (q_bipush (pc' := 7) _ dX8_note_5 rfl kk_bipush_8 (q_idiv (pc' := 8) dX8_note_7 rfl (by decide) ?_))))
  refine q_top e1 ?_
  refine q_dup2 (pc' := 9) dX8_note_8 rfl (q_ialde (pc' := 10) (id / 8) dX8_note_9 rfl (by first | exact ⟨by omega, rfl⟩ | exact okaS hi hz (by decide) rfl | assumption) (by (first | (simp only [nI_add, pk_mul]; done) | (simp only [nI_add, pk_mul]; exact nI_e (by omega)) | exact nI_e (by omega))) (by omega) v1 (q_iconst (pc' := 11) _ dX8_note_10 rfl kk_iconst_1 (q_iadd (pc' := 12) dX8_note_11 rfl ?_)))
  refine q_top (nI_add _ 1) ?_
  refine q_iast (pc' := 13) (id / 8) dX8_note_12 rfl (by first | exact ⟨by omega, rfl⟩ | exact okaS hi hz (by decide) rfl | assumption) (by (first | (simp only [nI_add, pk_mul]; done) | (simp only [nI_add, pk_mul]; exact nI_e (by omega)) | exact nI_e (by omega))) (by omega) (q_aload_n (pc' := 14) dX8_note_13 rfl rfl (q_getR (pc' := 17) dX8_note_14 rfl fr_RX8_21 (okS hi hz (by decide) rfl) rfl (wS_8_5 hS) (sA_lt hi (by decide)) (q_iload_n (pc' := 18) dX8_note_17 rfl rfl (q_bipush (pc' := 20) _ dX8_note_18 rfl kk_bipush_32 (q_idiv (pc' := 21) dX8_note_20 rfl (by decide) ?_)))))
  refine q_top e2 ?_
  refine q_dup2 (pc' := 22) dX8_note_21 rfl (q_ialde (pc' := 23) (p / 32) dX8_note_22 rfl (by first | exact ⟨by omega, rfl⟩ | exact okaS hi hz (by decide) rfl | assumption) (by (first | (simp only [nI_add, pk_mul]; done) | (simp only [nI_add, pk_mul]; exact nI_e (by omega)) | exact nI_e (by omega))) (by omega) v2 (q_iconst (pc' := 24) _ dX8_note_23 rfl kk_iconst_1 (q_iadd (pc' := 25) dX8_note_24 rfl ?_)))
  refine q_top (nI_add _ 1) ?_
  have v3 : mj_up (mj_up I (sA i 2) (id / 8) (nI (A 10 (id / 8) + 1))) (sA i 5) (p / 32) (nI (A 13 (p / 32) + 1)) (sA i 1) 1 = nI (A 14 4) := by rw [mj_up_ne (sA_ne (by decide)), mj_up_ne (sA_ne (by decide))]; exact h.1.2
  refine q_iast (pc' := 26) (p / 32) dX8_note_25 rfl (by first | exact ⟨by omega, rfl⟩ | exact okaS hi hz (by decide) rfl | assumption) (by (first | (simp only [nI_add, pk_mul]; done) | (simp only [nI_add, pk_mul]; exact nI_e (by omega)) | exact nI_e (by omega))) (by omega) (q_aload_n (pc' := 27) dX8_note_26 rfl rfl (q_getR (pc' := 30) dX8_note_27 rfl fr_RX8_24 (okS hi hz (by decide) rfl) rfl (wS_8_6 hS) (sA_lt hi (by decide)) (q_aload_n (pc' := 31) dX8_note_30 rfl rfl (q_getIe (pc' := 34) dX8_note_31 rfl fr_RX8_31 (okS hi hz (by decide) rfl) rfl v3 (q_bipush (pc' := 36) _ dX8_note_34 rfl kk_bipush_40 (q_irem (pc' := 37) dX8_note_36 rfl (by decide) ?_))))))
  refine q_top e3 ?_
  refine q_iload_n (pc' := 38) dX8_note_37 rfl rfl (q_sipush (pc' := 41) _ dX8_note_38 rfl kk_sipush_512 (q_imul (pc' := 42) dX8_note_41 rfl (q_iload_n (pc' := 43) dX8_note_42 rfl rfl (q_iconst (pc' := 44) _ dX8_note_43 rfl kk_iconst_2 (q_imul (pc' := 45) dX8_note_44 rfl (q_iadd (pc' := 46) dX8_note_45 rfl ?_))))))
  refine q_top (y := nI (id * 512 + p * 2)) (by rw [pk_mul, pk_mul, nI_add]) ?_
  have fin : ∀ x, x < 2 → (if o = true then 1 else 0) = x → Wq dd_X8_note (mj_mk w l 472 Y) Q 55 [some (.ref (sA i 1)), some (.int (nI id)), some (.int (nI p)), some (.int (bI o))] [.int (nI x), .int (nI (id * 512 + p * 2)), .int (nI (A 14 4 % 40)), .ref (sA i 6)] (472, mj_up (mj_up I (sA i 2) (id / 8) (nI (A 10 (id / 8) + 1))) (sA i 5) (p / 32) (nI (A 13 (p / 32) + 1)), J, R) := by
    intro x hx hox
    rw [hox] at hQ
    refine q_iadd dX8_note_55 rfl ?_
    refine q_top (y := nI (eLog id p x)) (nI_add _ _) ?_
    have v4 : mj_up (mj_up (mj_up I (sA i 2) (id / 8) (nI (A 10 (id / 8) + 1))) (sA i 5) (p / 32) (nI (A 13 (p / 32) + 1))) (sA i 6) (A 14 4 % 40) (nI (eLog id p x)) (sA i 1) 1 = nI (A 14 4) := by rw [mj_up_ne (sA_ne (by decide))]; exact v3
    refine q_iast (pc' := 57) (A 14 4 % 40) dX8_note_56 rfl (by first | exact ⟨by omega, rfl⟩ | exact okaS hi hz (by decide) rfl | assumption) (by (first | (simp only [nI_add, pk_mul]; done) | (simp only [nI_add, pk_mul]; exact nI_e (by omega)) | exact nI_e (by omega))) (by omega) (q_aload_n (pc' := 58) dX8_note_57 rfl rfl (q_dup_a (pc' := 59) dX8_note_58 rfl (q_getIe (pc' := 62) dX8_note_59 rfl fr_RX8_31 (okS hi hz (by decide) rfl) rfl v4 (q_iconst (pc' := 63) _ dX8_note_62 rfl kk_iconst_1 (q_iadd (pc' := 64) dX8_note_63 rfl ?_)))))
    refine q_top (nI_add _ 1) ?_
    refine q_putI (pc' := 67) dX8_note_64 rfl fl_RX8_31 (okS hi hz (by decide) rfl) rfl ?_
    refine q_vret dX8_note_67 rfl (hQ _ _ _ _ ⟨rfl, ⟨rfl, rfl⟩, ⟨⟨?_, ?_⟩, fun d hd => ⟨?_, ?_, ?_⟩, fun q hq => ?_, fun k hk => ?_⟩, (((mSt_up (by decide) (by decide)).tr (mSt_up (by decide) (by decide))).tr (mSt_up (by decide) (by decide))).tr (mSt_up (by decide) (by decide))⟩)
    · rw [mj_up_ne2 (by decide), mj_up_ne (sA_ne (by decide)), mj_up_ne (sA_ne (by decide)), mj_up_ne (sA_ne (by decide))]; exact h.1.1
    · rw [mj_up_eq]; rfl
    · rw [mj_up_ne (sA_ne (by decide)), mj_up_ne (sA_ne (by decide)), mj_up_ne (sA_ne (by decide))]
      show _ = nI (mj_up (mj_up A 13 (p / 32) (A 13 (p / 32) + 1)) 10 (id / 8) (A 10 (id / 8) + 1) 10 d)
      by_cases e : d = id / 8
      · rw [e, mj_up_eq, mj_up_eq]
      · rw [mj_up_ne2 e, mj_up_ne2 e, mj_up_ne (by decide)]; exact (h.2.1 d hd).1
    · rw [mj_up_ne (sA_ne (by decide)), mj_up_ne (sA_ne (by decide)), mj_up_ne (sA_ne (by decide)), mj_up_ne (sA_ne (by decide))]; exact (h.2.1 d hd).2.1
    · rw [mj_up_ne (sA_ne (by decide)), mj_up_ne (sA_ne (by decide)), mj_up_ne (sA_ne (by decide)), mj_up_ne (sA_ne (by decide))]; exact (h.2.1 d hd).2.2
    · rw [mj_up_ne (sA_ne (by decide)), mj_up_ne (sA_ne (by decide))]
      show _ = nI (mj_up (mj_up A 13 (p / 32) (A 13 (p / 32) + 1)) 10 (id / 8) (A 10 (id / 8) + 1) 13 q)
      rw [mj_up_ne (show (13:Nat) ≠ 10 by decide)]
      by_cases e : q = p / 32
      · rw [e, mj_up_eq, mj_up_eq]
      · rw [mj_up_ne2 e, mj_up_ne2 e, mj_up_ne (sA_ne (by decide))]; exact h.2.2.1 q hq
    · have en : aNote A id p x 14 4 = A 14 4 + 1 := by unfold aNote aLog; rw [mj_up_eq]; rfl
      rw [en] at hk ⊢
      have e15 : ∀ t, aNote A id p x 15 t = (if t = A 14 4 then eLog id p x else A 15 t) := fun t => by
        show mj_up (mj_up (mj_up (mj_up A 13 (p / 32) (A 13 (p / 32) + 1)) 10 (id / 8) (A 10 (id / 8) + 1)) 15 (A 14 4) (eLog id p x)) 14 4 (A 14 4 + 1) 15 t = _
        rw [mj_up_ne (by decide)]
        by_cases e : t = A 14 4
        · rw [if_pos e, e, mj_up_eq]
        · rw [if_neg e, mj_up_ne2 e, mj_up_ne (by decide), mj_up_ne (by decide)]
      rw [e15, mj_up_ne (sA_ne (by decide))]
      by_cases e : k = 0
      · subst e
        rw [show A 14 4 + 1 - 1 - 0 = A 14 4 by omega, mj_up_eq, if_pos rfl]
      · have hk2 : k ≤ A 14 4 ∧ k < 40 := by omega
        rw [mj_up_ne2 (by omega), if_neg (by omega), mj_up_ne (sA_ne (by decide)), mj_up_ne (sA_ne (by decide))]
        have := h.2.2.2 (k - 1) (by omega)
        rw [show A 14 4 - 1 - (k - 1) = A 14 4 + 1 - 1 - k by omega] at this
        exact this
  cases o with
  | true =>
    refine q_iload_n (pc' := 47) dX8_note_46 rfl rfl (q_ifb_eq (pc' := 50) (pt := 54) dX8_note_47 rfl rfl (fun h9 => Bool.noConfusion (Eq.trans (Eq.symm (rfl)) h9)) (fun _ => (q_iconst (pc' := 51) _ dX8_note_50 rfl kk_iconst_1 (q_goto (pc' := 55) dX8_note_51 rfl ?_))))
    exact fin 1 (by decide) rfl
  | false =>
    refine q_iload_n (pc' := 47) dX8_note_46 rfl rfl (q_ifb_eq (pc' := 50) (pt := 54) dX8_note_47 rfl rfl (fun _ => (q_iconst (pc' := 55) _ dX8_note_54 rfl kk_iconst_0 ?_)) (fun h9 => Bool.noConfusion (Eq.trans (Eq.symm (rfl)) h9)))
    exact fin 0 (by decide) rfl
theorem rn_X8_kept (hi : i < 21) (h : cRt I i A) (hL : A 14 4 < 2 ^ 31) : Rn w l yX8_kept dd_X8_kept [.ref (sA i 1)] (472, I, J, R) (some (.int (nI (min (A 14 4) 40)))) (472, I, J, R) := by
  have hz : 50 + 20 * i ≤ 472 := by omega
  refine rn_intro2 (L := [some (.ref (sA i 1))]) ⟨by decide, rfl, (fun h => by cases h)⟩ (Nat.le_refl _) (Nat.le_of_ble_eq_true rfl) rfl (fun Y Q hQ => ?_)
  exact q_aload_n (pc' := 1) dX8_kept_0 rfl rfl (q_getIe (pc' := 4) dX8_kept_1 rfl fr_RX8_31 (okS hi hz (by decide) rfl) rfl h.1.2 (q_bipush (pc' := 6) _ dX8_kept_4 rfl kk_bipush_40 (q_cSi (pc' := 9) dX8_kept_6 rfl ml_RX8_46 ys_J9_min_7cf53 (by decide) (rn_min hL (by decide)) rfl rfl (Nat.le_of_ble_eq_true rfl) (Nat.le_refl _) (q_iret dX8_kept_9 rfl hQ))))
theorem rn_X8_latest {k : Nat} (hi : i < 21) (hS : mj_wS R i) (h : cRt I i A) (hL : A 14 4 < 2 ^ 31) (hk : k < min (A 14 4) 40) : Rn w l yX8_latest dd_X8_latest [.ref (sA i 1), .int (nI k)] (472, I, J, R) (some (.int (nI (A 15 (A 14 4 - 1 - k))))) (472, I, J, R) := by
  have hz : 50 + 20 * i ≤ 472 := by omega
  have hk1 : k + 1 ≤ A 14 4 := by omega
  refine rn_intro2 (L := [some (.ref (sA i 1)), some (.int (nI k))]) ⟨by decide, rfl, (fun h => by cases h)⟩ (Nat.le_refl _) (Nat.le_of_ble_eq_true rfl) rfl (fun Y Q hQ => ?_)
  refine q_aload_n (pc' := 1) dX8_latest_0 rfl rfl (q_getR (pc' := 4) dX8_latest_1 rfl fr_RX8_24 (okS hi hz (by decide) rfl) rfl (wS_8_6 hS) (sA_lt hi (by decide)) (q_aload_n (pc' := 5) dX8_latest_4 rfl rfl (q_getIe (pc' := 8) dX8_latest_5 rfl fr_RX8_31 (okS hi hz (by decide) rfl) rfl h.1.2 (q_iconst (pc' := 9) _ dX8_latest_8 rfl kk_iconst_1 (q_isub (pc' := 10) dX8_latest_9 rfl (q_iload_n (pc' := 11) dX8_latest_10 rfl rfl (q_isub (pc' := 12) dX8_latest_11 rfl ?_)))))))
  refine q_top (y := nI (A 14 4 - 1 - k)) (by rw [nI_sb (by omega), nI_sb (by omega)]) ?_
  exact q_bipush (pc' := 14) _ dX8_latest_12 rfl kk_bipush_40 (q_cSi (pc' := 17) dX8_latest_14 rfl ml_RX8_52 ys_J9_floorMod_7cf53 (by decide) (rn_floorMod (by omega) (by decide) (by decide)) rfl rfl (Nat.le_of_ble_eq_true rfl) (Nat.le_refl _) (q_ialde (pc' := 18) ((A 14 4 - 1 - k) % 40) dX8_latest_17 rfl (by first | exact ⟨by omega, rfl⟩ | exact okaS hi hz (by decide) rfl | assumption) (by (first | (simp only [nI_add, pk_mul]; done) | (simp only [nI_add, pk_mul]; exact nI_e (by omega)) | exact nI_e (by omega))) (Nat.mod_lt _ (by decide)) (h.2.2.2 k hk) (q_iret dX8_latest_18 rfl hQ)))
theorem rn_X8_latestId {k : Nat} (hi : i < 21) (hS : mj_wS R i) (h : cRt I i A) (hL : A 14 4 < 2 ^ 31) (hk : k < min (A 14 4) 40) (hE : A 15 (A 14 4 - 1 - k) < 2 ^ 31) : Rn w l yX8_latestId dd_X8_latestId [.ref (sA i 1), .int (nI k)] (472, I, J, R) (some (.int (nI (A 15 (A 14 4 - 1 - k) / 512)))) (472, I, J, R) := by
  have hz : 50 + 20 * i ≤ 472 := by omega
  refine rn_intro2 (L := [some (.ref (sA i 1)), some (.int (nI k))]) ⟨by decide, rfl, (fun h => by cases h)⟩ (Nat.le_refl _) (Nat.le_of_ble_eq_true rfl) rfl (fun Y Q hQ => ?_)
  refine q_aload_n (pc' := 1) dX8_latestId_0 rfl rfl (q_iload_n (pc' := 2) dX8_latestId_1 rfl rfl (q_cVi (pc' := 5) dX8_latestId_2 rfl ml_RX8_55 yv_X8_latest (by decide) (rn_X8_latest hi hS h hL hk) (okS hi hz (by decide) rfl) rfl rfl (Nat.le_of_ble_eq_true rfl) (Nat.le_refl _) (q_sipush (pc' := 8) _ dX8_latestId_5 rfl kk_sipush_512 (q_idiv (pc' := 9) dX8_latestId_8 rfl (by decide) ?_))))
  refine q_top (pk_div hE (by decide) (by decide)) ?_
  exact q_iret dX8_latestId_9 rfl hQ
theorem rn_X8_latestPlace {k : Nat} (hi : i < 21) (hS : mj_wS R i) (h : cRt I i A) (hL : A 14 4 < 2 ^ 31) (hk : k < min (A 14 4) 40) (hE : A 15 (A 14 4 - 1 - k) < 2 ^ 31) : Rn w l yX8_latestPlace dd_X8_latestPlace [.ref (sA i 1), .int (nI k)] (472, I, J, R) (some (.int (nI (A 15 (A 14 4 - 1 - k) / 2 % 256)))) (472, I, J, R) := by
  have hz : 50 + 20 * i ≤ 472 := by omega
  refine rn_intro2 (L := [some (.ref (sA i 1)), some (.int (nI k))]) ⟨by decide, rfl, (fun h => by cases h)⟩ (Nat.le_refl _) (Nat.le_of_ble_eq_true rfl) rfl (fun Y Q hQ => ?_)
  refine q_aload_n (pc' := 1) dX8_latestPlace_0 rfl rfl (q_iload_n (pc' := 2) dX8_latestPlace_1 rfl rfl (q_cVi (pc' := 5) dX8_latestPlace_2 rfl ml_RX8_55 yv_X8_latest (by decide) (rn_X8_latest hi hS h hL hk) (okS hi hz (by decide) rfl) rfl rfl (Nat.le_of_ble_eq_true rfl) (Nat.le_refl _) (q_iconst (pc' := 6) _ dX8_latestPlace_5 rfl kk_iconst_2 (q_idiv (pc' := 7) dX8_latestPlace_6 rfl (by decide) ?_))))
  refine q_top (pk_div hE (by decide) (by decide)) ?_
  refine q_sipush (pc' := 10) _ dX8_latestPlace_7 rfl kk_sipush_256 (q_irem (pc' := 11) dX8_latestPlace_10 rfl (by decide) ?_)
  refine q_top (pk_rem (Nat.lt_of_le_of_lt (Nat.div_le_self _ _) hE) (by decide) (by decide)) ?_
  exact q_iret dX8_latestPlace_11 rfl hQ
theorem rn_X8_latestByOld {k : Nat} (hi : i < 21) (hS : mj_wS R i) (h : cRt I i A) (hL : A 14 4 < 2 ^ 31) (hk : k < min (A 14 4) 40) (hE : A 15 (A 14 4 - 1 - k) < 2 ^ 31) : Rn w l yX8_latestByOld dd_X8_latestByOld [.ref (sA i 1), .int (nI k)] (472, I, J, R) (some (.int (nI (A 15 (A 14 4 - 1 - k) % 2)))) (472, I, J, R) := by
  have hz : 50 + 20 * i ≤ 472 := by omega
  refine rn_intro2 (L := [some (.ref (sA i 1)), some (.int (nI k))]) ⟨by decide, rfl, (fun h => by cases h)⟩ (Nat.le_refl _) (Nat.le_of_ble_eq_true rfl) rfl (fun Y Q hQ => ?_)
  refine q_aload_n (pc' := 1) dX8_latestByOld_0 rfl rfl (q_iload_n (pc' := 2) dX8_latestByOld_1 rfl rfl (q_cVi (pc' := 5) dX8_latestByOld_2 rfl ml_RX8_55 yv_X8_latest (by decide) (rn_X8_latest hi hS h hL hk) (okS hi hz (by decide) rfl) rfl rfl (Nat.le_of_ble_eq_true rfl) (Nat.le_refl _) (q_iconst (pc' := 6) _ dX8_latestByOld_5 rfl kk_iconst_2 (q_irem (pc' := 7) dX8_latestByOld_6 rfl (by decide) ?_))))
  refine q_top (pk_rem hE (by decide) (by decide)) ?_
  exact q_iret dX8_latestByOld_7 rfl hQ
theorem rn_X8_sum {a n : Nat} {f : Nat → Nat} (ha : mj_oka 472 a 12 n) (hn : n < 2 ^ 31) (hf : ∀ k, k < n → I a k = nI (f k)) : Rn w l yX8_sum dd_X8_sum [.ref a] (472, I, J, R) (some (.int (nI (sumN f n)))) (472, I, J, R) := by
  refine rn_intro2 (L := [some (.ref a), none, none, none, none, none]) ⟨by decide, rfl, (fun h => by cases h)⟩ (Nat.le_refl _) (Nat.le_of_ble_eq_true rfl) rfl (fun Y Q hQ => ?_)
  refine q_iconst (pc' := 1) _ dX8_sum_0 rfl kk_iconst_0 (q_ist_1 (pc' := 2) dX8_sum_1 rfl (by decide) rfl (q_aload_n (pc' := 3) dX8_sum_2 rfl rfl (q_ast_2 (pc' := 4) dX8_sum_3 rfl (by decide) rfl (q_aload_n (pc' := 5) dX8_sum_4 rfl rfl (q_alen (pc' := 6) _ dX8_sum_5 rfl (by first | exact ⟨by omega, rfl⟩ | exact okaS hi hz (by decide) rfl | assumption) (by first | exact Or.inl rfl | exact Or.inr rfl) rfl (q_ist_3 (pc' := 7) dX8_sum_6 rfl (by decide) rfl (q_iconst (pc' := 8) _ dX8_sum_7 rfl kk_iconst_0 (q_ist_4 (pc' := 10) dX8_sum_8 rfl (by decide) rfl ?_))))))))
  have loop : ∀ m k o5, k + m = n → Wq dd_X8_sum (mj_mk w l 472 Y) Q 10 [some (.ref a), some (.int (nI (sumN f k))), some (.ref a), some (.int (nI n)), some (.int (nI k)), o5] [] (472, I, J, R) := by
    intro m
    induction m with
    | zero =>
      intro k o5 hkm
      have hkz : k = n := by omega
      subst hkz
      exact q_iload (pc' := 12) dX8_sum_10 rfl rfl (q_iload_n (pc' := 13) dX8_sum_12 rfl rfl (q_icmp_ge (pc' := 16) (pt := 33) dX8_sum_13 rfl rfl (fun _ => (q_iload_n (pc' := 34) dX8_sum_33 rfl rfl (q_iret dX8_sum_34 rfl hQ))) (fun h9 => absurd (by (first | assumption | exact nI_le (by omega) (by omega) | exact nI_ge (by omega) (by omega) | exact nI_lt (by omega) (by omega) | exact nI_nlt (by omega) (by omega) | exact nI_ne (by omega) (by omega) (by omega) | exact nI_e (by omega) | decide)) h9)))
    | succ m ih =>
      intro k o5 hkm
      refine q_iload (pc' := 12) dX8_sum_10 rfl rfl (q_iload_n (pc' := 13) dX8_sum_12 rfl rfl (q_icmp_ge (pc' := 16) (pt := 33) dX8_sum_13 rfl rfl (fun h9 => absurd h9 (by (first | assumption | exact nI_le (by omega) (by omega) | exact nI_ge (by omega) (by omega) | exact nI_lt (by omega) (by omega) | exact nI_nlt (by omega) (by omega) | exact nI_ne (by omega) (by omega) (by omega) | exact nI_e (by omega) | decide))) (fun _ => (q_aload_n (pc' := 17) dX8_sum_16 rfl rfl (q_iload (pc' := 19) dX8_sum_17 rfl rfl (q_ialde (pc' := 20) (k) dX8_sum_19 rfl (by first | exact ⟨by omega, rfl⟩ | exact okaS hi hz (by decide) rfl | assumption) (by (first | (simp only [nI_add, pk_mul]; done) | (simp only [nI_add, pk_mul]; exact nI_e (by omega)) | exact nI_e (by omega))) (by omega) (hf k (by omega)) (q_ist_5 (pc' := 22) dX8_sum_20 rfl (by decide) rfl (q_iload_n (pc' := 23) dX8_sum_22 rfl rfl (q_iload (pc' := 25) dX8_sum_23 rfl rfl (q_iadd (pc' := 26) dX8_sum_25 rfl ?_))))))))))
      refine q_top (nI_add _ _) ?_
      refine q_ist_1 (pc' := 27) dX8_sum_26 rfl (by decide) rfl (q_inc_4 (pc' := 30) dX8_sum_27 rfl (by decide) rfl (q_goto (pc' := 10) dX8_sum_30 rfl ?_))
      exact ih (k + 1) _ (by omega)
  exact loop n 0 _ (by omega)
end TALLY
