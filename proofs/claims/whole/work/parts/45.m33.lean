/-! ===== the reference: a set of numbers ===== -/
theorem sh32 : ∀ k, k < 32 → nI 1 <<< (nI k &&& 31) = nI (2 ^ k) := by decide +kernel
theorem sm32 : ∀ k, k < 32 → ((nI k &&& 31).toBitVec.smod 32) = BitVec.ofNat 32 k := by decide +kernel
theorem bit32 {s v : Nat} (hs : s < 2 ^ 32) (hv : v < 32) : bitS (nI s) (nI v) = s.testBit v := by
  unfold bitS
  have e1 : ((nI s >>> (nI v &&& 31)) &&& nI 1).toBitVec = (BitVec.ofNat 32 s).sshiftRight v &&& 1#32 := by
    rw [Int32.toBitVec_and, Int32.toBitVec_shiftRight, sm32 v hv, BitVec.sshiftRight_eq', BitVec.toNat_ofNat, Nat.mod_eq_of_lt (by omega)]
    rfl
  have e2 : ((BitVec.ofNat 32 s).sshiftRight v).getLsbD 0 = s.testBit v := by
    rw [BitVec.getLsbD_sshiftRight, Nat.add_zero, if_pos hv, BitVec.getLsbD_ofNat]
    simp [hv]
  generalize (BitVec.ofNat 32 s).sshiftRight v = y at e1 e2
  have e3 : (y &&& 1#32).toNat = y.toNat % 2 := by rw [BitVec.toNat_and]; exact Nat.and_one_is_mod _
  have e4 : decide (y.toNat % 2 = 1) = s.testBit v := by rw [← e2, ← Nat.testBit_zero]; rfl
  rw [← e4, decide_eq_decide]
  constructor
  · intro q
    have q2 := congrArg (fun z => (Int32.toBitVec z).toNat) q
    rw [e1, e3] at q2
    exact q2
  · intro q
    apply Int32.toBitVec_inj.mp
    apply BitVec.eq_of_toNat_eq
    rw [e1, e3, q]
    rfl
theorem tk_num {T : Nat → Nat} {sz : Nat} {K : Nat → Nat} (h : tkK T sz K 5 = 2) : K 3 < tkK T sz K 3 := by
  have ha := tkE_ge (tBl T sz) 801 (K 3)
  unfold tkK at h ⊢
  generalize tkE (tBl T sz) 801 (K 3) = a at ha h ⊢
  by_cases hs : a < sz
  · rw [if_neg (fun q => q hs)] at h ⊢
    by_cases hl : tLt T sz a = true
    · rw [if_pos hl] at h
      have h' : (if 8 < tkE (tLt T sz) 801 a - a then 4 else 1) = 2 := h
      split at h' <;> cases h'
    · rw [if_neg hl] at h ⊢
      by_cases hd : tDg T sz a = true
      · rw [if_pos hd]
        show K 3 < tkE (tDg T sz) 801 a
        have h1 : tkE (tDg T sz) 801 a = tkE (tDg T sz) 800 (a + 1) := by rw [tkE, if_pos hd]
        have := tkE_ge (tDg T sz) 800 (a + 1)
        omega
      · rw [if_neg hd] at h
        have h' : (if T a = 59 then 3 else 4) = 2 := h
        split at h' <;> cases h'
  · rw [if_pos hs] at h
    have h' : (0:Nat) = 2 := h
    cases h'
/-- the set that is read, and the reader behind it -/
def kSet (T : Nat → Nat) (sz n : Nat) : Nat → Nat → (Nat → Nat) → Nat × (Nat → Nat)
  | 0, s, K => (s, K)
  | f + 1, s, K =>
    if kN K (nI 0) (nI n - nI 1) 8 = 0 then
      if s.testBit (K 6) = true then (s, kW (kN K (nI 0) (nI n - nI 1)) 3)
      else if tkK T sz (kN K (nI 0) (nI n - nI 1)) 8 = 0 ∧ tkK T sz (kN K (nI 0) (nI n - nI 1)) 5 = 2 then kSet T sz n f (s ||| 2 ^ K 6) (tkK T sz (kN K (nI 0) (nI n - nI 1)))
      else (s ||| 2 ^ K 6, tkK T sz (kN K (nI 0) (nI n - nI 1)))
    else (s, kN K (nI 0) (nI n - nI 1))
def kSetOf (T : Nat → Nat) (sz n s : Nat) (K : Nat → Nat) : Nat × (Nat → Nat) := if K 8 = 0 then kSet T sz n 802 s K else (s, K)
/-- good after numberHere: a number in its bounds, and nothing has changed -/
theorem kN_good {K : Nat → Nat} {n : Nat} (h0 : K 8 = 0) (h : kN K (nI 0) (nI n - nI 1) 8 = 0) : kN K (nI 0) (nI n - nI 1) = K ∧ K 5 = 2 ∧ inN (nI (K 6)) n = true := by
  have hw : ∀ x, x ≠ 0 → kW K x 8 ≠ 0 := fun x hx q => by
    unfold kW at q
    rw [if_pos h0] at q
    have q' : (if K 5 = 4 then 1 else x) = 0 := q
    split at q'
    · cases q'
    · exact hx q'
  unfold kN at h ⊢
  rw [if_pos h0] at h ⊢
  by_cases h5 : K 5 = 2
  · rw [if_pos h5] at h ⊢
    by_cases hc : nI 0 ≤ nI (K 6) ∧ nI (K 6) ≤ nI n - nI 1
    · rw [if_pos hc]; exact ⟨rfl, h5, decide_eq_true hc⟩
    · rw [if_neg hc] at h; exact absurd h (hw 4 (by decide))
  · rw [if_neg h5] at h; exact absurd h (hw 2 (by decide))
section M33
variable {w : mj_Wd} {l : Launch} {I : mj_M} {J : mj_J} {R : mj_R} {b A : St} {T : Nat → Nat} {sz t : Nat} {K : Nat → Nat}
theorem rt_X11_setOf {n s : Nat} (hM : mj_wM R) (h : mRd I J T sz K) (hk : kOK sz K) (hn : n ≤ 32) (hs : s < 2 ^ 32) : RtI w l yX11_setOf dd_X11_setOf [.ref 452, .int (nI n), .int (nI s)] (472, I, J, R) (fun r I' J' R' => r = nI (kSetOf T sz n s K).1 ∧ (kSetOf T sz n s K).1 < 2 ^ 32 ∧ mRd I' J' T sz (kSetOf T sz n s K).2 ∧ kOK sz (kSetOf T sz n s K).2 ∧ mRf I J I' J' ∧ R' = R) := by
  have h800 := h.2.1
  refine rt_intro2 (L := [some (.ref 452), some (.int (nI n)), some (.int (nI s)), none, none, none]) ⟨by decide, rfl, (fun h => by cases h)⟩ (Nat.le_of_ble_eq_true rfl) rfl (fun Y Q hQ => ?_)
  have stop : ∀ I1 J1 o5 s1 K1, (s1, K1) = kSetOf T sz n s K → s1 < 2 ^ 32 → mRd I1 J1 T sz K1 → kOK sz K1 → mRf I J I1 J1 → Wq dd_X11_setOf (mj_mk w l 472 Y) Q 8 [some (.ref 452), some (.int (nI n)), some (.int (nI s)), some (.int (nI s1)), some (.int (bI false)), o5] [] (472, I1, J1, R) := by
    intro I1 J1 o5 s1 K1 he hs1 h1 hk1 f1
    rw [← he] at hQ
    exact q_iload (pc' := 10) dX11_setOf_8 rfl rfl (q_ifb_eq (pc' := 13) (pt := 87) dX11_setOf_10 rfl rfl (fun _ => (q_iload_n (pc' := 88) dX11_setOf_87 rfl rfl (q_iret dX11_setOf_88 rfl (hQ _ _ _ _ ⟨_, rfl, rfl, hs1, h1, hk1, f1, rfl⟩)))) (fun h9 => Bool.noConfusion (Eq.trans (Eq.symm (rfl)) h9)))
  have loop : ∀ f s0 K0 I0 J0 o5, sz + 1 ≤ K0 3 + f → K0 8 = 0 → s0 < 2 ^ 32 → kSet T sz n f s0 K0 = kSetOf T sz n s K → mRd I0 J0 T sz K0 → kOK sz K0 → mRf I J I0 J0 → Wq dd_X11_setOf (mj_mk w l 472 Y) Q 8 [some (.ref 452), some (.int (nI n)), some (.int (nI s)), some (.int (nI s0)), some (.int (bI true)), o5] [] (472, I0, J0, R) := by
    intro f
    induction f with
    | zero => intro s0 K0 I0 J0 o5 hf h8 hs0 he h0 hk0; have := hk0.1; omega
    | succ f ih =>
      intro s0 K0 I0 J0 o5 hf h8 hs0 he h0 hk0 f0
      have hkn := kOK_n (x := nI 0) (y := nI n - nI 1) hk0
      refine q_iload (pc' := 10) dX11_setOf_8 rfl rfl (q_ifb_eq (pc' := 13) (pt := 87) dX11_setOf_10 rfl rfl (fun h9 => Bool.noConfusion (Eq.trans (Eq.symm (rfl)) h9)) (fun _ => (q_aload_n (pc' := 14) dX11_setOf_13 rfl rfl (q_iconst (pc' := 15) _ dX11_setOf_14 rfl kk_iconst_0 (q_iload_n (pc' := 16) dX11_setOf_15 rfl rfl (q_iconst (pc' := 17) _ dX11_setOf_16 rfl kk_iconst_1 (q_isub (pc' := 18) dX11_setOf_17 rfl (q_sVi (pc' := 21) dX11_setOf_18 rfl ml_RX11_178 yv_X11_numberHere (by decide) (rs_number h0 hk0) ⟨by omega, rfl⟩ rfl rfl (Nat.le_of_ble_eq_true rfl) (Nat.le_refl _) (fun x1 I1 ⟨r1, h1, f1⟩ => ?_)))))))))
      rw [r1, if_pos h8]
      by_cases hg : kN K0 (nI 0) (nI n - nI 1) 8 = 0
      · obtain ⟨ek, k5, kin⟩ := kN_good h8 hg
        obtain ⟨v, hv, hve⟩ := (inN_iff (by omega)).mp kin
        have k6 := hk0.2.2.1
        have hv6 : K0 6 = v := (nI_eq (by omega) (by omega)).mp hve
        have hv6' : K0 6 < 32 := by omega
        rw [kSet, if_pos hg] at he
        rw [ek] at he h1 hkn
        by_cases hb : s0.testBit (K0 6) = true
        · rw [if_pos hb] at he
          refine q_ist_5 (pc' := 23) dX11_setOf_21 rfl (by decide) rfl (q_aload_n (pc' := 24) dX11_setOf_23 rfl rfl (q_cVi (pc' := 27) dX11_setOf_24 rfl ml_RX11_182 yv_X11_isGood (by decide) (rn_good h1 hkn) ⟨by omega, rfl⟩ rfl rfl (Nat.le_of_ble_eq_true rfl) (Nat.le_refl _) (q_ifb_eq (pc' := 30) (pt := 44) dX11_setOf_27 rfl rfl (fun h9 => Bool.noConfusion (Eq.trans (Eq.symm (beq_iff_eq.mpr h8)) h9)) (fun _ => (q_iload_n (pc' := 31) dX11_setOf_30 rfl rfl (q_iload (pc' := 33) dX11_setOf_31 rfl rfl (q_cSi (pc' := 36) dX11_setOf_33 rfl ml_RX11_192 ys_X11_isOf (by decide) (rn_X11_isOf) rfl rfl (Nat.le_of_ble_eq_true rfl) (Nat.le_refl _) (q_ifb_eq (pc' := 39) (pt := 44) dX11_setOf_36 rfl rfl (fun h9 => Bool.noConfusion (Eq.trans (Eq.symm ((bit32 hs0 hv6').trans hb)) h9)) (fun _ => (q_aload_n (pc' := 40) dX11_setOf_39 rfl rfl (q_iconst (pc' := 41) _ dX11_setOf_40 rfl kk_iconst_3 (q_sVv (pc' := 44) dX11_setOf_41 rfl ml_RX11_175 yv_X11_wrong (by decide) (rs_wrong (x := 3) h1 hkn (by decide)) ⟨by omega, rfl⟩ rfl rfl (Nat.le_of_ble_eq_true rfl) (Nat.le_refl _) (fun I2 ⟨h2, f2⟩ => ?_)))))))))))))
          have hkw := kOK_w (x := 3) hkn (by decide)
          have hw8 : ¬ kW K0 3 8 = 0 := by
            unfold kW
            rw [if_pos h8]
            show ¬ (if K0 5 = 4 then 1 else 3) = 0
            split <;> decide
          refine q_aload_n (pc' := 45) dX11_setOf_44 rfl rfl (q_cVi (pc' := 48) dX11_setOf_45 rfl ml_RX11_182 yv_X11_isGood (by decide) (rn_good h2 hkw) ⟨by omega, rfl⟩ rfl rfl (Nat.le_of_ble_eq_true rfl) (Nat.le_refl _) (q_ifb_eq (pc' := 51) (pt := 62) dX11_setOf_48 rfl rfl (fun _ => (q_aload_n (pc' := 63) dX11_setOf_62 rfl rfl (q_cVi (pc' := 66) dX11_setOf_63 rfl ml_RX11_182 yv_X11_isGood (by decide) (rn_good h2 hkw) ⟨by omega, rfl⟩ rfl rfl (Nat.le_of_ble_eq_true rfl) (Nat.le_refl _) (q_ifb_eq (pc' := 69) (pt := 81) dX11_setOf_66 rfl rfl (fun _ => (q_iconst (pc' := 82) _ dX11_setOf_81 rfl kk_iconst_0 ?_)) (fun h9 => Bool.noConfusion (Eq.trans (Eq.symm (beq_eq_false_iff_ne.mpr hw8)) h9)))))) (fun h9 => Bool.noConfusion (Eq.trans (Eq.symm (beq_eq_false_iff_ne.mpr hw8)) h9))))
          refine q_ist_4 (pc' := 84) dX11_setOf_82 rfl (by decide) rfl (q_goto (pc' := 8) dX11_setOf_84 rfl ?_)
          exact stop I2 J0 _ s0 _ he hs0 h2 hkw ((f0.tr f1).tr f2)
        · rw [if_neg hb] at he
          have hs2 : s0 ||| 2 ^ K0 6 < 2 ^ 32 := Nat.or_lt_two_pow hs0 (Nat.pow_lt_pow_right (by decide) hv6')
          refine q_ist_5 (pc' := 23) dX11_setOf_21 rfl (by decide) rfl (q_aload_n (pc' := 24) dX11_setOf_23 rfl rfl (q_cVi (pc' := 27) dX11_setOf_24 rfl ml_RX11_182 yv_X11_isGood (by decide) (rn_good h1 hkn) ⟨by omega, rfl⟩ rfl rfl (Nat.le_of_ble_eq_true rfl) (Nat.le_refl _) (q_ifb_eq (pc' := 30) (pt := 44) dX11_setOf_27 rfl rfl (fun h9 => Bool.noConfusion (Eq.trans (Eq.symm (beq_iff_eq.mpr h8)) h9)) (fun _ => (q_iload_n (pc' := 31) dX11_setOf_30 rfl rfl (q_iload (pc' := 33) dX11_setOf_31 rfl rfl (q_cSi (pc' := 36) dX11_setOf_33 rfl ml_RX11_192 ys_X11_isOf (by decide) (rn_X11_isOf) rfl rfl (Nat.le_of_ble_eq_true rfl) (Nat.le_refl _) (q_ifb_eq (pc' := 39) (pt := 44) dX11_setOf_36 rfl rfl (fun _ => (q_aload_n (pc' := 45) dX11_setOf_44 rfl rfl (q_cVi (pc' := 48) dX11_setOf_45 rfl ml_RX11_182 yv_X11_isGood (by decide) (rn_good h1 hkn) ⟨by omega, rfl⟩ rfl rfl (Nat.le_of_ble_eq_true rfl) (Nat.le_refl _) (q_ifb_eq (pc' := 51) (pt := 62) dX11_setOf_48 rfl rfl (fun h9 => Bool.noConfusion (Eq.trans (Eq.symm (beq_iff_eq.mpr h8)) h9)) (fun _ => (q_iload_n (pc' := 52) dX11_setOf_51 rfl rfl (q_iconst (pc' := 53) _ dX11_setOf_52 rfl kk_iconst_1 (q_iload (pc' := 55) dX11_setOf_53 rfl rfl ?_)))))))) (fun h9 => Bool.noConfusion (Eq.trans (Eq.symm ((bit32 hs0 hv6').trans (Bool.eq_false_iff.mpr hb))) h9))))))))))
          refine q_ishl (pc' := 56) dX11_setOf_55 rfl (q_ior (pc' := 57) dX11_setOf_56 rfl ?_)
          refine q_top (y := nI (s0 ||| 2 ^ K0 6)) (by rw [sh32 _ hv6', nI_or]) ?_
          refine q_ist_3 (pc' := 58) dX11_setOf_57 rfl (by decide) rfl (q_aload_n (pc' := 59) dX11_setOf_58 rfl rfl (q_tVv (pc' := 62) dX11_setOf_59 rfl ml_RX11_186 yv_X11_goOn (by decide) (rt_X11_goOn hM h1 hkn.1) ⟨by omega, rfl⟩ rfl rfl (Nat.le_of_ble_eq_true rfl) (Nat.le_refl _) (fun I2 J2 R2 ⟨h2, f2, eR⟩ => ?_)))
          rw [eR]
          have hk2 := kOK_tk (T := T) hkn
          have e5 := h2.2.2.1 5 (by decide) (by decide)
          have b5 := hk2.2.1
          by_cases g8 : tkK T sz K0 8 = 0
          · by_cases g5 : tkK T sz K0 5 = 2
            · rw [if_pos ⟨g8, g5⟩] at he
              have hnum := tk_num g5
              refine q_aload_n (pc' := 63) dX11_setOf_62 rfl rfl (q_cVi (pc' := 66) dX11_setOf_63 rfl ml_RX11_182 yv_X11_isGood (by decide) (rn_good h2 hk2) ⟨by omega, rfl⟩ rfl rfl (Nat.le_of_ble_eq_true rfl) (Nat.le_refl _) (q_ifb_eq (pc' := 69) (pt := 81) dX11_setOf_66 rfl rfl (fun h9 => Bool.noConfusion (Eq.trans (Eq.symm (beq_iff_eq.mpr g8)) h9)) (fun _ => (q_aload_n (pc' := 70) dX11_setOf_69 rfl rfl (q_getIe (pc' := 73) dX11_setOf_70 rfl fr_RX11_116 ⟨by omega, rfl⟩ rfl e5 (q_iconst (pc' := 74) _ dX11_setOf_73 rfl kk_iconst_2 (q_icmp_ne (pc' := 77) (pt := 81) dX11_setOf_74 rfl rfl (fun h9 => absurd (congrArg nI g5) h9) (fun _ => (q_iconst (pc' := 78) _ dX11_setOf_77 rfl kk_iconst_1 (q_goto (pc' := 82) dX11_setOf_78 rfl ?_))))))))))
              refine q_ist_4 (pc' := 84) dX11_setOf_82 rfl (by decide) rfl (q_goto (pc' := 8) dX11_setOf_84 rfl ?_)
              exact ih _ _ I2 J2 _ (by omega) g8 hs2 he h2 hk2 ((f0.tr f1).tr f2)
            · rw [if_neg (fun q => g5 q.2)] at he
              refine q_aload_n (pc' := 63) dX11_setOf_62 rfl rfl (q_cVi (pc' := 66) dX11_setOf_63 rfl ml_RX11_182 yv_X11_isGood (by decide) (rn_good h2 hk2) ⟨by omega, rfl⟩ rfl rfl (Nat.le_of_ble_eq_true rfl) (Nat.le_refl _) (q_ifb_eq (pc' := 69) (pt := 81) dX11_setOf_66 rfl rfl (fun h9 => Bool.noConfusion (Eq.trans (Eq.symm (beq_iff_eq.mpr g8)) h9)) (fun _ => (q_aload_n (pc' := 70) dX11_setOf_69 rfl rfl (q_getIe (pc' := 73) dX11_setOf_70 rfl fr_RX11_116 ⟨by omega, rfl⟩ rfl e5 (q_iconst (pc' := 74) _ dX11_setOf_73 rfl kk_iconst_2 (q_icmp_ne (pc' := 77) (pt := 81) dX11_setOf_74 rfl rfl (fun _ => (q_iconst (pc' := 82) _ dX11_setOf_81 rfl kk_iconst_0 ?_)) (fun h9 => absurd h9 (nI_ne g5 (by omega) (by omega))))))))))
              refine q_ist_4 (pc' := 84) dX11_setOf_82 rfl (by decide) rfl (q_goto (pc' := 8) dX11_setOf_84 rfl ?_)
              exact stop I2 J2 _ _ _ he hs2 h2 hk2 ((f0.tr f1).tr f2)
          · rw [if_neg (fun q => g8 q.1)] at he
            refine q_aload_n (pc' := 63) dX11_setOf_62 rfl rfl (q_cVi (pc' := 66) dX11_setOf_63 rfl ml_RX11_182 yv_X11_isGood (by decide) (rn_good h2 hk2) ⟨by omega, rfl⟩ rfl rfl (Nat.le_of_ble_eq_true rfl) (Nat.le_refl _) (q_ifb_eq (pc' := 69) (pt := 81) dX11_setOf_66 rfl rfl (fun _ => (q_iconst (pc' := 82) _ dX11_setOf_81 rfl kk_iconst_0 ?_)) (fun h9 => Bool.noConfusion (Eq.trans (Eq.symm (beq_eq_false_iff_ne.mpr g8)) h9))))
            refine q_ist_4 (pc' := 84) dX11_setOf_82 rfl (by decide) rfl (q_goto (pc' := 8) dX11_setOf_84 rfl ?_)
            exact stop I2 J2 _ _ _ he hs2 h2 hk2 ((f0.tr f1).tr f2)
      · rw [kSet, if_neg hg] at he
        refine q_ist_5 (pc' := 23) dX11_setOf_21 rfl (by decide) rfl (q_aload_n (pc' := 24) dX11_setOf_23 rfl rfl (q_cVi (pc' := 27) dX11_setOf_24 rfl ml_RX11_182 yv_X11_isGood (by decide) (rn_good h1 hkn) ⟨by omega, rfl⟩ rfl rfl (Nat.le_of_ble_eq_true rfl) (Nat.le_refl _) (q_ifb_eq (pc' := 30) (pt := 44) dX11_setOf_27 rfl rfl (fun _ => (q_aload_n (pc' := 45) dX11_setOf_44 rfl rfl (q_cVi (pc' := 48) dX11_setOf_45 rfl ml_RX11_182 yv_X11_isGood (by decide) (rn_good h1 hkn) ⟨by omega, rfl⟩ rfl rfl (Nat.le_of_ble_eq_true rfl) (Nat.le_refl _) (q_ifb_eq (pc' := 51) (pt := 62) dX11_setOf_48 rfl rfl (fun _ => (q_aload_n (pc' := 63) dX11_setOf_62 rfl rfl (q_cVi (pc' := 66) dX11_setOf_63 rfl ml_RX11_182 yv_X11_isGood (by decide) (rn_good h1 hkn) ⟨by omega, rfl⟩ rfl rfl (Nat.le_of_ble_eq_true rfl) (Nat.le_refl _) (q_ifb_eq (pc' := 69) (pt := 81) dX11_setOf_66 rfl rfl (fun _ => (q_iconst (pc' := 82) _ dX11_setOf_81 rfl kk_iconst_0 ?_)) (fun h9 => Bool.noConfusion (Eq.trans (Eq.symm (beq_eq_false_iff_ne.mpr hg)) h9)))))) (fun h9 => Bool.noConfusion (Eq.trans (Eq.symm (beq_eq_false_iff_ne.mpr hg)) h9)))))) (fun h9 => Bool.noConfusion (Eq.trans (Eq.symm (beq_eq_false_iff_ne.mpr hg)) h9)))))
        refine q_ist_4 (pc' := 84) dX11_setOf_82 rfl (by decide) rfl (q_goto (pc' := 8) dX11_setOf_84 rfl ?_)
        exact stop I1 J0 _ s0 _ he hs0 h1 hkn (f0.tr f1)
  by_cases h8 : K 8 = 0
  · refine q_iload_n (pc' := 1) dX11_setOf_0 rfl rfl (q_ist_3 (pc' := 2) dX11_setOf_1 rfl (by decide) rfl (q_aload_n (pc' := 3) dX11_setOf_2 rfl rfl (q_cVi (pc' := 6) dX11_setOf_3 rfl ml_RX11_182 yv_X11_isGood (by decide) (rn_good h hk) ⟨by omega, rfl⟩ rfl rfl (Nat.le_of_ble_eq_true rfl) (Nat.le_refl _) ?_)))
    rw [show (K 8 == 0) = true from beq_iff_eq.mpr h8]
    refine q_ist_4 (pc' := 8) dX11_setOf_6 rfl (by decide) rfl ?_
    exact loop 802 s K I J _ (by omega) h8 hs (by unfold kSetOf; rw [if_pos h8]) h hk mRf.rf
  · refine q_iload_n (pc' := 1) dX11_setOf_0 rfl rfl (q_ist_3 (pc' := 2) dX11_setOf_1 rfl (by decide) rfl (q_aload_n (pc' := 3) dX11_setOf_2 rfl rfl (q_cVi (pc' := 6) dX11_setOf_3 rfl ml_RX11_182 yv_X11_isGood (by decide) (rn_good h hk) ⟨by omega, rfl⟩ rfl rfl (Nat.le_of_ble_eq_true rfl) (Nat.le_refl _) ?_)))
    rw [show (K 8 == 0) = false from beq_eq_false_iff_ne.mpr h8]
    refine q_ist_4 (pc' := 8) dX11_setOf_6 rfl (by decide) rfl ?_
    exact stop I J _ s K (by unfold kSetOf; rw [if_neg h8]) hs h hk mRf.rf
end M33
