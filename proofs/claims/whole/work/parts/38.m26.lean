/-! ===== longs as numbers; the reference: names that begin alike ===== -/
theorem nJ_bv (a : Nat) : (nJ a).toBitVec = BitVec.ofNat 64 a := rfl
theorem nJ_toInt {a : Nat} (h : a < 2 ^ 63) : (nJ a).toInt = a := Int64.toInt_ofNat_of_lt h
theorem nJ_eq {a c : Nat} (ha : a < 2 ^ 63) (hc : c < 2 ^ 63) : nJ a = nJ c ↔ a = c := by
  constructor
  · intro h
    have := congrArg Int64.toInt h
    rw [nJ_toInt ha, nJ_toInt hc] at this
    omega
  · intro h; rw [h]
theorem nJ_i2l {c : Nat} (h : c < 2 ^ 31) : (nI c).toInt64 = nJ c := by
  apply Int64.toInt_inj.mp
  rw [nJ_toInt (by omega), Int32.toInt_toInt64, nI_toInt h]
theorem sh64 : ∀ k, k < 64 → (((nI k).toInt64 &&& 63).toBitVec.smod 64) = BitVec.ofNat 64 k := by decide +kernel
theorem nJ_shr {a k : Nat} (ha : a < 2 ^ 63) (hk : k < 64) : nJ a >>> ((nI k).toInt64 &&& 63) = nJ (a / 2 ^ k) := by
  apply Int64.toBitVec_inj.mp
  rw [Int64.toBitVec_shiftRight, sh64 k hk, nJ_bv, nJ_bv, BitVec.sshiftRight_eq', BitVec.toNat_ofNat, Nat.mod_eq_of_lt (by omega)]
  have hm : (BitVec.ofNat 64 a).msb = false := by
    rw [BitVec.msb_eq_false_iff_two_mul_lt, BitVec.toNat_ofNat, Nat.mod_eq_of_lt (by omega)]
    omega
  rw [BitVec.sshiftRight_eq_of_msb_false hm]
  apply BitVec.eq_of_toNat_eq
  have := Nat.div_le_self a (2 ^ k)
  rw [BitVec.toNat_ushiftRight, BitVec.toNat_ofNat, BitVec.toNat_ofNat, Nat.shiftRight_eq_div_pow, Nat.mod_eq_of_lt (by omega), Nat.mod_eq_of_lt (by omega)]
theorem nJ_shl8 (a : Nat) : nJ a <<< ((nI 8).toInt64 &&& 63) = nJ (a * 256) := by
  apply Int64.toBitVec_inj.mp
  rw [Int64.toBitVec_shiftLeft, sh64 8 (by decide), nJ_bv, nJ_bv]
  apply BitVec.eq_of_toNat_eq
  rw [BitVec.shiftLeft_eq', BitVec.toNat_shiftLeft, BitVec.toNat_ofNat, BitVec.toNat_ofNat, BitVec.toNat_ofNat, Nat.mod_eq_of_lt (show 8 < 2 ^ 64 by decide), Nat.shiftLeft_eq, show (2:Nat) ^ 8 = 256 by decide]
  omega
theorem nJ_or {a c : Nat} (ha : a < 2 ^ 63) (hc : c < 256) : nJ (a * 256 % 2 ^ 64) ||| nJ c = nJ (a * 256 % 2 ^ 64 + c) := by
  apply Int64.toBitVec_inj.mp
  rw [Int64.toBitVec_or, nJ_bv, nJ_bv, nJ_bv]
  apply BitVec.eq_of_toNat_eq
  rw [BitVec.toNat_or, BitVec.toNat_ofNat, BitVec.toNat_ofNat, BitVec.toNat_ofNat]
  have h1 : a * 256 % 2 ^ 64 = 2 ^ 8 * (a * 256 % 2 ^ 64 / 256) := by omega
  rw [Nat.mod_eq_of_lt (show a * 256 % 2 ^ 64 < 2 ^ 64 by omega), Nat.mod_eq_of_lt (show c < 2 ^ 64 by omega), Nat.mod_eq_of_lt (show a * 256 % 2 ^ 64 + c < 2 ^ 64 by omega), h1, ← Nat.two_pow_add_eq_or_of_lt (by omega)]
/-- a letter more behind a word -/
theorem nJ_app {a c : Nat} (ha : a < 2 ^ 56) (hc : c < 256) : nJ a <<< ((nI 8).toInt64 &&& 63) ||| (nI c).toInt64 = nJ (a * 256 + c) := by
  have := nJ_or (a := a) (c := c) (by omega) hc
  rw [Nat.mod_eq_of_lt (by omega)] at this
  rw [nJ_shl8, nJ_i2l (by omega)]
  exact this
/-- the names of the board: 4: how many letters; 5: the letters -/
def bNm (b : St) : Prop := ∀ d, d < b 0 2 → (1 ≤ b 4 d ∧ b 4 d ≤ 7) ∧ b 5 d < 256 ^ b 4 d
def mN (I : mj_M) (J : mj_J) (b : St) : Prop := ∀ d, d < b 0 2 → I 461 d = nI (b 4 d) ∧ J 463 d = nJ (b 5 d)
theorem bNm_lt {b : St} {d : Nat} (h : bNm b) (hd : d < b 0 2) : b 5 d < 2 ^ 56 := by
  have h1 := h d hd
  have h2 : 256 ^ b 4 d ≤ 256 ^ 7 := Nat.pow_le_pow_right (by decide) h1.1.2
  have h3 : (256:Nat) ^ 7 = 2 ^ 56 := by decide
  omega
/-- whether a name begins with the first m letters of another -/
def aAlk (b : St) (d e m : Nat) : Bool := decide (m ≤ b 4 d) && decide (b 5 d / 2 ^ (8 * (b 4 d - m)) = b 5 e / 2 ^ (8 * (b 4 e - m)))
section M26
variable {w : mj_Wd} {l : Launch} {I : mj_M} {J : mj_J} {R : mj_R} {b A : St} {T : Nat → Nat} {t : Nat}
theorem rn_X11_isAlike {d e m : Nat} (hM : mj_wM R) (hk : bOK b) (hN : bNm b) (hn : mN I J b) (hd : d < b 0 2) (he : e < b 0 2) (hm : m ≤ b 4 e) : Rn w l yX11_isAlike dd_X11_isAlike [.ref 452, .int (nI d), .int (nI e), .int (nI m)] (472, I, J, R) (some (.int (bI (aAlk b d e m)))) (472, I, J, R) := by
  have h10 := hk.2.2.1
  have n1 := hN d hd
  have n2 := hN e he
  have s1 := bNm_lt hN hd
  have s2 := bNm_lt hN he
  refine rn_intro2 (L := [some (.ref 452), some (.int (nI d)), some (.int (nI e)), some (.int (nI m))]) ⟨by decide, rfl, (fun h => by cases h)⟩ (Nat.le_refl _) (Nat.le_of_ble_eq_true rfl) rfl (fun Y Q hQ => ?_)
  by_cases h1 : m ≤ b 4 d
  · refine q_aload_n (pc' := 1) dX11_isAlike_0 rfl rfl (q_getR (pc' := 4) dX11_isAlike_1 rfl fr_RX11_41 ⟨by omega, rfl⟩ rfl (wM_33 hM) (by decide) (q_iload_n (pc' := 5) dX11_isAlike_4 rfl rfl (q_ialde (pc' := 6) _ dX11_isAlike_5 rfl (by first | exact ⟨by omega, rfl⟩ | exact okaS hi hz (by decide) rfl | assumption) rfl (by omega) (hn d hd).1 (q_iload_n (pc' := 7) dX11_isAlike_6 rfl rfl (q_icmp_lt (pc' := 10) (pt := 54) dX11_isAlike_7 rfl rfl (fun h9 => absurd h9 (Int32.not_lt.mpr (nI_le h1 (by omega)))) (fun _ => (q_aload_n (pc' := 11) dX11_isAlike_10 rfl rfl (q_getR (pc' := 14) dX11_isAlike_11 rfl fr_RX11_48 ⟨by omega, rfl⟩ rfl (wM_35 hM) (by decide) (q_iload_n (pc' := 15) dX11_isAlike_14 rfl rfl (q_lalde (pc' := 16) _ dX11_isAlike_15 rfl (by first | exact ⟨by omega, rfl⟩ | exact okaS hi hz (by decide) rfl | assumption) rfl (by omega) (hn d hd).2 (q_bipush (pc' := 18) _ dX11_isAlike_16 rfl kk_bipush_8 (q_aload_n (pc' := 19) dX11_isAlike_18 rfl rfl (q_getR (pc' := 22) dX11_isAlike_19 rfl fr_RX11_41 ⟨by omega, rfl⟩ rfl (wM_33 hM) (by decide) (q_iload_n (pc' := 23) dX11_isAlike_22 rfl rfl ?_))))))))))))))
    refine q_ialde (pc' := 24) _ dX11_isAlike_23 rfl (by first | exact ⟨by omega, rfl⟩ | exact okaS hi hz (by decide) rfl | assumption) rfl (by omega) (hn d hd).1 (q_iload_n (pc' := 25) dX11_isAlike_24 rfl rfl (q_isub (pc' := 26) dX11_isAlike_25 rfl ?_))
    refine q_top (nI_sb h1) ?_
    refine q_imul (pc' := 27) dX11_isAlike_26 rfl ?_
    refine q_top (pk_mul 8 _) ?_
    refine q_lshr (pc' := 28) dX11_isAlike_27 rfl ?_
    rw [nJ_shr (by omega) (by omega)]
    refine q_aload_n (pc' := 29) dX11_isAlike_28 rfl rfl (q_getR (pc' := 32) dX11_isAlike_29 rfl fr_RX11_48 ⟨by omega, rfl⟩ rfl (wM_35 hM) (by decide) (q_iload_n (pc' := 33) dX11_isAlike_32 rfl rfl (q_lalde (pc' := 34) _ dX11_isAlike_33 rfl (by first | exact ⟨by omega, rfl⟩ | exact okaS hi hz (by decide) rfl | assumption) rfl (by omega) (hn e he).2 (q_bipush (pc' := 36) _ dX11_isAlike_34 rfl kk_bipush_8 (q_aload_n (pc' := 37) dX11_isAlike_36 rfl rfl (q_getR (pc' := 40) dX11_isAlike_37 rfl fr_RX11_41 ⟨by omega, rfl⟩ rfl (wM_33 hM) (by decide) (q_iload_n (pc' := 41) dX11_isAlike_40 rfl rfl (q_ialde (pc' := 42) _ dX11_isAlike_41 rfl (by first | exact ⟨by omega, rfl⟩ | exact okaS hi hz (by decide) rfl | assumption) rfl (by omega) (hn e he).1 (q_iload_n (pc' := 43) dX11_isAlike_42 rfl rfl (q_isub (pc' := 44) dX11_isAlike_43 rfl ?_))))))))))
    refine q_top (nI_sb hm) ?_
    refine q_imul (pc' := 45) dX11_isAlike_44 rfl ?_
    refine q_top (pk_mul 8 _) ?_
    refine q_lshr (pc' := 46) dX11_isAlike_45 rfl ?_
    rw [nJ_shr (by omega) (by omega)]
    have q1 := Nat.div_le_self (b 5 d) (2 ^ (8 * (b 4 d - m)))
    have q2 := Nat.div_le_self (b 5 e) (2 ^ (8 * (b 4 e - m)))
    by_cases h2 : b 5 d / 2 ^ (8 * (b 4 d - m)) = b 5 e / 2 ^ (8 * (b 4 e - m))
    · exact q_lcmp (pc' := 47) dX11_isAlike_46 rfl (q_if_ne (pc' := 50) (pt := 54) dX11_isAlike_47 rfl rfl (fun h9 => absurd ((lg_cmp_eq _ _).mpr ((nJ_eq (by omega) (by omega)).mpr h2)) h9) (fun _ => (q_iconst (pc' := 51) _ dX11_isAlike_50 rfl kk_iconst_1 (q_goto (pc' := 55) dX11_isAlike_51 rfl (q_zret dX11_isAlike_55 rfl (by first | exact Or.inl rfl | exact Or.inr rfl | exact bI_01 _) (by unfold aAlk at hQ; rw [decide_eq_true h1, decide_eq_true h2] at hQ; exact hQ))))))
    · exact q_lcmp (pc' := 47) dX11_isAlike_46 rfl (q_if_ne (pc' := 50) (pt := 54) dX11_isAlike_47 rfl rfl (fun _ => (q_iconst (pc' := 55) _ dX11_isAlike_54 rfl kk_iconst_0 (q_zret dX11_isAlike_55 rfl (by first | exact Or.inl rfl | exact Or.inr rfl | exact bI_01 _) (by unfold aAlk at hQ; rw [decide_eq_false h2, Bool.and_false] at hQ; exact hQ)))) (fun h9 => absurd h9 (fun q => h2 ((nJ_eq (by omega) (by omega)).mp ((lg_cmp_eq _ _).mp q)))))
  · exact q_aload_n (pc' := 1) dX11_isAlike_0 rfl rfl (q_getR (pc' := 4) dX11_isAlike_1 rfl fr_RX11_41 ⟨by omega, rfl⟩ rfl (wM_33 hM) (by decide) (q_iload_n (pc' := 5) dX11_isAlike_4 rfl rfl (q_ialde (pc' := 6) _ dX11_isAlike_5 rfl (by first | exact ⟨by omega, rfl⟩ | exact okaS hi hz (by decide) rfl | assumption) rfl (by omega) (hn d hd).1 (q_iload_n (pc' := 7) dX11_isAlike_6 rfl rfl (q_icmp_lt (pc' := 10) (pt := 54) dX11_isAlike_7 rfl rfl (fun _ => (q_iconst (pc' := 55) _ dX11_isAlike_54 rfl kk_iconst_0 (q_zret dX11_isAlike_55 rfl (by first | exact Or.inl rfl | exact Or.inr rfl | exact bI_01 _) (by unfold aAlk at hQ; rw [decide_eq_false h1, Bool.false_and] at hQ; exact hQ)))) (fun h9 => absurd (nI_lt (by omega) (by omega)) h9))))))
/-- alike(DEVICE, letters) -/
def qAlike (b A : St) (e m : Nat) : Nat := cntN (fun k => aAlk b (eG (A 15 (A 14 4 - 1 - k)) 0) e (min m (b 4 e))) (min (A 14 4) 40)
/-- each of what was logged is of a DEVICE -/
def gOK (b A : St) : Prop := ∀ k, k < min (A 14 4) 40 → eG (A 15 (A 14 4 - 1 - k)) 0 < b 0 2
theorem rn_X11_alike {e g : Nat} (hM : mj_wM R) (hb : mB I b) (hk : bOK b) (hR : rR (I 464) A) (hN : bNm b) (hn : mN I J b) (hG : gOK b A) (he : e < b 0 2) (h1 : 1 ≤ g) (h7 : g ≤ 7) : Rn w l yX11_alike dd_X11_alike [.ref 452, .int (nI e), .int (nI g)] (472, I, J, R) (some (.int (nI (qAlike b A e g)))) (472, I, J, R) := by
  have h10 := hk.2.2.1
  have n2 := hN e he
  have eg : I 464 1574 = nI (min (A 14 4) 40) := (hR _ (by omega)).trans cE_lg
  refine rn_intro2 (L := [some (.ref 452), some (.int (nI e)), some (.int (nI g)), none, none, none]) ⟨by decide, rfl, (fun h => by cases h)⟩ (Nat.le_refl _) (Nat.le_of_ble_eq_true rfl) rfl (fun Y Q hQ => ?_)
  refine q_aload_n (pc' := 1) dX11_alike_0 rfl rfl (q_iload_n (pc' := 2) dX11_alike_1 rfl rfl (q_cVi (pc' := 5) dX11_alike_2 rfl ml_RX11_280 yv_X11_isDevice (by decide) (rn_X11_isDevice hb) ⟨by omega, rfl⟩ rfl rfl (Nat.le_of_ble_eq_true rfl) (Nat.le_refl _) (q_ifb_eq (pc' := 8) (pt := 18) dX11_alike_5 rfl rfl (fun h9 => Bool.noConfusion (Eq.trans (Eq.symm (inN_t (by omega) he)) h9)) (fun _ => (q_iload_n (pc' := 9) dX11_alike_8 rfl rfl (q_iconst (pc' := 10) _ dX11_alike_9 rfl kk_iconst_1 (q_bipush (pc' := 12) _ dX11_alike_10 rfl kk_bipush_7 (q_cSi (pc' := 15) dX11_alike_12 rfl ml_RX11_89 ys_X11_isIn (by decide) (rn_X11_isIn) rfl rfl (Nat.le_of_ble_eq_true rfl) (Nat.le_refl _) (q_ifb_ne (pc' := 18) (pt := 20) dX11_alike_15 rfl rfl (fun _ => (q_iload_n (pc' := 21) dX11_alike_20 rfl rfl (q_aload_n (pc' := 22) dX11_alike_21 rfl rfl (q_getR (pc' := 25) dX11_alike_22 rfl fr_RX11_41 ⟨by omega, rfl⟩ rfl (wM_33 hM) (by decide) (q_iload_n (pc' := 26) dX11_alike_25 rfl rfl (q_ialde (pc' := 27) _ dX11_alike_26 rfl (by first | exact ⟨by omega, rfl⟩ | exact okaS hi hz (by decide) rfl | assumption) rfl (by omega) (hn e he).1 ?_)))))) (fun h9 => Bool.noConfusion (Eq.trans (Eq.symm (decide_eq_true ⟨nI_le h1 (by omega), nI_le h7 (by omega)⟩)) h9)))))))))))
  refine q_cSi (pc' := 30) dX11_alike_27 rfl ml_RX11_362 ys_X11_lesser (by decide) (rn_X11_lesser) rfl rfl (Nat.le_of_ble_eq_true rfl) (Nat.le_refl _) ?_
  refine q_top (nI_min (by omega) (by omega)) ?_
  refine q_ist_3 (pc' := 31) dX11_alike_30 rfl (by decide) rfl (q_iconst (pc' := 32) _ dX11_alike_31 rfl kk_iconst_0 (q_ist_4 (pc' := 34) dX11_alike_32 rfl (by decide) rfl (q_iconst (pc' := 35) _ dX11_alike_34 rfl kk_iconst_0 (q_ist_5 (pc' := 37) dX11_alike_35 rfl (by decide) rfl ?_))))
  have loop : ∀ m k, k + m = (min (A 14 4) 40) → Wq dd_X11_alike (mj_mk w l 472 Y) Q 37 [some (.ref 452), some (.int (nI e)), some (.int (nI g)), some (.int (nI (min g (b 4 e)))), some (.int (nI (cntN (fun k => aAlk b (eG (A 15 (A 14 4 - 1 - k)) 0) e (min g (b 4 e))) k))), some (.int (nI k))] [] (472, I, J, R) := by
    intro m
    induction m with
    | zero =>
      intro k hkm
      have hkz : k = (min (A 14 4) 40) := by omega
      subst hkz
      exact q_iload (pc' := 39) dX11_alike_37 rfl rfl (q_aload_n (pc' := 40) dX11_alike_39 rfl rfl (q_getR (pc' := 43) dX11_alike_40 rfl fr_RX11_51 ⟨by omega, rfl⟩ rfl (wM_36 hM) (by decide) (q_sipush (pc' := 46) _ dX11_alike_43 rfl kk_sipush_1574 (q_ialde (pc' := 47) _ dX11_alike_46 rfl (by first | exact ⟨by omega, rfl⟩ | exact okaS hi hz (by decide) rfl | assumption) rfl (by omega) eg (q_icmp_ge (pc' := 50) (pt := 83) dX11_alike_47 rfl rfl (fun _ => (q_iload (pc' := 85) dX11_alike_83 rfl rfl (q_iret dX11_alike_85 rfl hQ))) (fun h9 => absurd (by (first | assumption | exact nI_le (by omega) (by omega) | exact nI_ge (by omega) (by omega) | exact nI_lt (by omega) (by omega) | exact nI_nlt (by omega) (by omega) | exact nI_ne (by omega) (by omega) (by omega) | exact nI_e (by omega) | decide)) h9))))))
    | succ m ih =>
      intro k hkm
      have ev := cE_log (A := A) (k := k) (j := 0) (by decide)
      rw [if_pos (by omega)] at ev
      refine q_iload (pc' := 39) dX11_alike_37 rfl rfl (q_aload_n (pc' := 40) dX11_alike_39 rfl rfl (q_getR (pc' := 43) dX11_alike_40 rfl fr_RX11_51 ⟨by omega, rfl⟩ rfl (wM_36 hM) (by decide) (q_sipush (pc' := 46) _ dX11_alike_43 rfl kk_sipush_1574 (q_ialde (pc' := 47) _ dX11_alike_46 rfl (by first | exact ⟨by omega, rfl⟩ | exact okaS hi hz (by decide) rfl | assumption) rfl (by omega) eg (q_icmp_ge (pc' := 50) (pt := 83) dX11_alike_47 rfl rfl (fun h9 => absurd h9 (by (first | assumption | exact nI_le (by omega) (by omega) | exact nI_ge (by omega) (by omega) | exact nI_lt (by omega) (by omega) | exact nI_nlt (by omega) (by omega) | exact nI_ne (by omega) (by omega) (by omega) | exact nI_e (by omega) | decide))) (fun _ => (q_iload (pc' := 52) dX11_alike_50 rfl rfl (q_aload_n (pc' := 53) dX11_alike_52 rfl rfl (q_aload_n (pc' := 54) dX11_alike_53 rfl rfl (q_getR (pc' := 57) dX11_alike_54 rfl fr_RX11_51 ⟨by omega, rfl⟩ rfl (wM_36 hM) (by decide) (q_sipush (pc' := 60) _ dX11_alike_57 rfl kk_sipush_1575 (q_iconst (pc' := 61) _ dX11_alike_60 rfl kk_iconst_5 (q_iload (pc' := 63) dX11_alike_61 rfl rfl (q_imul (pc' := 64) dX11_alike_63 rfl ?_))))))))))))))
      refine q_iadd (pc' := 65) dX11_alike_64 rfl (q_ialde (pc' := 66) (1575 + (5 * k + 0)) dX11_alike_65 rfl (by first | exact ⟨by omega, rfl⟩ | exact okaS hi hz (by decide) rfl | assumption) (by (first | (simp only [nI_add, pk_mul]; done) | (simp only [nI_add, pk_mul]; exact nI_e (by omega)) | exact nI_e (by omega))) (by omega) ((hR _ (by omega)).trans ev) (q_iload_n (pc' := 67) dX11_alike_66 rfl rfl (q_iload_n (pc' := 68) dX11_alike_67 rfl rfl (q_cVi (pc' := 71) dX11_alike_68 rfl ml_RX11_499 yv_X11_isAlike (by decide) (rn_X11_isAlike hM hk hN hn (hG k (by omega)) he (by omega)) ⟨by omega, rfl⟩ rfl rfl (Nat.le_of_ble_eq_true rfl) (Nat.le_refl _) (q_cSi (pc' := 74) dX11_alike_71 rfl ml_RX11_255 ys_X11_truth (by decide) (rn_X11_truth) rfl rfl (Nat.le_of_ble_eq_true rfl) (Nat.le_refl _) (q_iadd (pc' := 75) dX11_alike_74 rfl ?_))))))
      refine q_top (nI_cnt (fun k => aAlk b (eG (A 15 (A 14 4 - 1 - k)) 0) e (min g (b 4 e))) k) ?_
      refine q_ist_4 (pc' := 77) dX11_alike_75 rfl (by decide) rfl (q_inc_5 (pc' := 80) dX11_alike_77 rfl (by decide) rfl (q_goto (pc' := 37) dX11_alike_80 rfl ?_))
      exact ih (k + 1) (by omega)
  exact loop (min (A 14 4) 40) 0 (by omega)
theorem rn_X11_alike0 {x y : Int32} (hb : mB I b) (hx : (inN x (b 0 2) && decide (nI 1 ≤ y ∧ y ≤ nI 7)) = false) : Rn w l yX11_alike dd_X11_alike [.ref 452, .int x, .int y] (472, I, J, R) (some (.int (-1))) (472, I, J, R) := by
  refine rn_intro2 (L := [some (.ref 452), some (.int x), some (.int y), none, none, none]) ⟨by decide, rfl, (fun h => by cases h)⟩ (Nat.le_refl _) (Nat.le_of_ble_eq_true rfl) rfl (fun Y Q hQ => ?_)
  refine q_aload_n (pc' := 1) dX11_alike_0 rfl rfl (q_iload_n (pc' := 2) dX11_alike_1 rfl rfl (q_cVi (pc' := 5) dX11_alike_2 rfl ml_RX11_280 yv_X11_isDevice (by decide) (rn_X11_isDevice hb) ⟨by omega, rfl⟩ rfl rfl (Nat.le_of_ble_eq_true rfl) (Nat.le_refl _) (q_ifb_eq (pc' := 8) (pt := 18) dX11_alike_5 rfl rfl (fun h1 => ?_) (fun h1 => ?_))))
  · exact q_iconst (pc' := 19) _ dX11_alike_18 rfl kk_iconst_m1 (q_iret dX11_alike_19 rfl hQ)
  · rw [h1, Bool.true_and] at hx
    exact q_iload_n (pc' := 9) dX11_alike_8 rfl rfl (q_iconst (pc' := 10) _ dX11_alike_9 rfl kk_iconst_1 (q_bipush (pc' := 12) _ dX11_alike_10 rfl kk_bipush_7 (q_cSi (pc' := 15) dX11_alike_12 rfl ml_RX11_89 ys_X11_isIn (by decide) (rn_X11_isIn) rfl rfl (Nat.le_of_ble_eq_true rfl) (Nat.le_refl _) (q_ifb_ne (pc' := 18) (pt := 20) dX11_alike_15 rfl rfl (fun h9 => Bool.noConfusion (Eq.trans (Eq.symm (hx)) h9)) (fun _ => (q_iconst (pc' := 19) _ dX11_alike_18 rfl kk_iconst_m1 (q_iret dX11_alike_19 rfl hQ)))))))
end M26
