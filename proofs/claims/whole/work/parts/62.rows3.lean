/-! ===== the class: Rows, dealing ===== -/
/-- DEALT: the place of the first -/
def aDl (b A : St) (set n : Nat) : Option Nat := (aDealt b A n set).map (fun p => 32 * p + n * (aBlk b A p n).getD 0)
def aRsP (b A : St) (id p : Nat) : Option Nat := (aResv b A id p).map (fun v => 32 * p + v)
section ROWS3
variable {w : mj_Wd} {l : Launch} {I : mj_M} {J : mj_J} {R : mj_R} {b A : St} {i : Nat}
theorem rn_X4_leastLoaded {set : Nat} (hi : i < 21) (hS : mj_wS R i) (hb : cB I b) (hk : bOK b) (h : cRr I i b A) (hs : set < 2 ^ 32) : Rn w l yX4_leastLoaded dd_X4_leastLoaded [.ref (sA i 11), .int (nI set)] (472, I, J, R) (some (.int (oI (aLeast b A set)))) (472, I, J, R) := by
  have hz : 50 + 20 * i ≤ 472 := by omega
  have h8 := hk.1.2
  have hv2 := hk.2.1
  unfold aLeast
  refine rn_intro2 (L := [some (.ref (sA i 11)), some (.int (nI set)), none, none, none, none, none]) ⟨by decide, rfl, (fun h => by cases h)⟩ (Nat.le_refl _) (Nat.le_of_ble_eq_true rfl) rfl (fun Y Q hQ => ?_)
  have loop : ∀ m k o5 o6, k + m = b 0 0 → Wq dd_X4_leastLoaded (mj_mk w l 472 Y) Q 7 [some (.ref (sA i 11)), some (.int (nI set)), some (.int (oI (lstN (aLP A set) (aLoad b A) k))), some (.int (lL b A (lstN (aLP A set) (aLoad b A) k))), some (.int (nI k)), o5, o6] [] (472, I, J, R) := by
    intro m
    induction m with
    | zero =>
      intro k o5 o6 hkm
      have hkz : k = b 0 0 := by omega
      subst hkz
      exact q_iload (pc' := 9) dX4_leastLoaded_7 rfl rfl (q_aload_n (pc' := 10) dX4_leastLoaded_9 rfl rfl (q_getR (pc' := 13) dX4_leastLoaded_10 rfl fr_RX4_23 (okS hi hz (by decide) rfl) rfl (wS_4_0 hS) (by decide) (q_getIe (pc' := 16) dX4_leastLoaded_13 rfl fr_RX4_64 (by first | assumption | exact ⟨by omega, rfl⟩) rfl (cB_0 hb) (q_icmp_ge (pc' := 19) (pt := 93) dX4_leastLoaded_16 rfl rfl (fun _ => (q_iload_n (pc' := 94) dX4_leastLoaded_93 rfl rfl (q_iret dX4_leastLoaded_94 rfl hQ))) (fun h9 => absurd (by (first | assumption | exact nI_le (by omega) (by omega) | exact nI_ge (by omega) (by omega) | exact nI_lt (by omega) (by omega) | exact nI_nlt (by omega) (by omega) | exact nI_ne (by omega) (by omega) (by omega) | exact nI_e (by omega) | decide)) h9)))))
    | succ m ih =>
      intro k o5 o6 hkm
      have hl := Nat.or_lt_two_pow (cT_lt (A := A) (p := k) (s := 2) hk) (cT_lt (A := A) (p := k) (s := 3) hk)
      have l1 := aLoad_le b A k
      have e := ubit (show set &&& cOn b A < 2 ^ 32 from Nat.lt_of_le_of_lt Nat.and_le_left hs) (show k < 32 by omega)
      rw [Nat.testBit_and, cOn_bit (show k < b 0 0 by omega), ← nI_and] at e
      refine q_iload (pc' := 9) dX4_leastLoaded_7 rfl rfl (q_aload_n (pc' := 10) dX4_leastLoaded_9 rfl rfl (q_getR (pc' := 13) dX4_leastLoaded_10 rfl fr_RX4_23 (okS hi hz (by decide) rfl) rfl (wS_4_0 hS) (by decide) (q_getIe (pc' := 16) dX4_leastLoaded_13 rfl fr_RX4_64 (by first | assumption | exact ⟨by omega, rfl⟩) rfl (cB_0 hb) (q_icmp_ge (pc' := 19) (pt := 93) dX4_leastLoaded_16 rfl rfl (fun h9 => absurd h9 (by (first | assumption | exact nI_le (by omega) (by omega) | exact nI_ge (by omega) (by omega) | exact nI_lt (by omega) (by omega) | exact nI_nlt (by omega) (by omega) | exact nI_ne (by omega) (by omega) (by omega) | exact nI_e (by omega) | decide))) (fun _ => (q_aload_n (pc' := 20) dX4_leastLoaded_19 rfl rfl (q_getR (pc' := 23) dX4_leastLoaded_20 rfl fr_RX4_11 (okS hi hz (by decide) rfl) rfl (wS_4_2 hS) (sA_lt hi (by decide)) (q_iconst (pc' := 24) _ dX4_leastLoaded_23 rfl kk_iconst_2 (q_aald (pc' := 25) (2) dX4_leastLoaded_24 rfl (by first | exact ⟨by omega, rfl⟩ | exact okaS hi hz (by decide) rfl | assumption) (by first | exact Or.inl rfl | exact Or.inr rfl) (by (first | (simp only [nI_add, pk_mul]; done) | (simp only [nI_add, pk_mul]; exact nI_e (by omega)) | exact nI_e (by omega))) (by omega) (wS_row hS (by omega)) (sA_lt hi (by omega)) (q_iload (pc' := 27) dX4_leastLoaded_25 rfl rfl (q_ialde (pc' := 28) (k) dX4_leastLoaded_27 rfl (by first | exact ⟨by omega, rfl⟩ | exact okaS hi hz (by decide) rfl | assumption) (by (first | (simp only [nI_add, pk_mul]; done) | (simp only [nI_add, pk_mul]; exact nI_e (by omega)) | exact nI_e (by omega))) (by omega) (h.1 2 (by decide) k (by omega)) (q_aload_n (pc' := 29) dX4_leastLoaded_28 rfl rfl (q_getR (pc' := 32) dX4_leastLoaded_29 rfl fr_RX4_11 (okS hi hz (by decide) rfl) rfl (wS_4_2 hS) (sA_lt hi (by decide)) (q_iconst (pc' := 33) _ dX4_leastLoaded_32 rfl kk_iconst_3 ?_))))))))))))))
      refine q_aald (pc' := 34) (3) dX4_leastLoaded_33 rfl (by first | exact ⟨by omega, rfl⟩ | exact okaS hi hz (by decide) rfl | assumption) (by first | exact Or.inl rfl | exact Or.inr rfl) (by (first | (simp only [nI_add, pk_mul]; done) | (simp only [nI_add, pk_mul]; exact nI_e (by omega)) | exact nI_e (by omega))) (by omega) (wS_row hS (by omega)) (sA_lt hi (by omega)) (q_iload (pc' := 36) dX4_leastLoaded_34 rfl rfl (q_ialde (pc' := 37) (k) dX4_leastLoaded_36 rfl (by first | exact ⟨by omega, rfl⟩ | exact okaS hi hz (by decide) rfl | assumption) (by (first | (simp only [nI_add, pk_mul]; done) | (simp only [nI_add, pk_mul]; exact nI_e (by omega)) | exact nI_e (by omega))) (by omega) (h.1 3 (by decide) k (by omega)) (q_ior (pc' := 38) dX4_leastLoaded_37 rfl ?_)))
      refine q_top (nI_or _ _) ?_
      refine q_cSi (pc' := 41) dX4_leastLoaded_38 rfl ml_RX4_58 ys_J6_bitCount_0f7a4 (by decide) (rn_bitCount hl) rfl rfl (Nat.le_of_ble_eq_true rfl) (Nat.le_refl _) ?_
      rw [load_e hk]
      refine q_ist_5 (pc' := 43) dX4_leastLoaded_41 rfl (by decide) rfl (q_iload_n (pc' := 44) dX4_leastLoaded_43 rfl rfl (q_aload_n (pc' := 45) dX4_leastLoaded_44 rfl rfl (q_getIe (pc' := 48) dX4_leastLoaded_45 rfl fr_RX4_49 (okS hi hz (by decide) rfl) rfl h.2.2.2 (q_iand (pc' := 49) dX4_leastLoaded_48 rfl (q_iload (pc' := 51) dX4_leastLoaded_49 rfl rfl (q_iushr (pc' := 52) dX4_leastLoaded_51 rfl (q_iconst (pc' := 53) _ dX4_leastLoaded_52 rfl kk_iconst_1 (q_iand (pc' := 54) dX4_leastLoaded_53 rfl (q_iconst (pc' := 55) _ dX4_leastLoaded_54 rfl kk_iconst_1 (q_bl_icmp_ne (p4 := 63) dX4_leastLoaded_55 dX4_leastLoaded_58 dX4_leastLoaded_59 dX4_leastLoaded_62 rfl rfl rfl rfl rfl ?_))))))))))
      rw [e]
      have skip : aLP A set k = false → ∀ o5 o6, Wq dd_X4_leastLoaded (mj_mk w l 472 Y) Q 87 [some (.ref (sA i 11)), some (.int (nI set)), some (.int (oI (lstN (aLP A set) (aLoad b A) k))), some (.int (lL b A (lstN (aLP A set) (aLoad b A) k))), some (.int (nI k)), o5, o6] [] (472, I, J, R) := by
        intro hP o5 o6
        rw [← lstN_f (f := aLoad b A) hP]
        refine q_inc_4 (pc' := 90) dX4_leastLoaded_87 rfl (by decide) rfl (q_goto (pc' := 7) dX4_leastLoaded_90 rfl ?_)
        exact ih (k + 1) _ _ (by omega)
      by_cases hP : aLP A set k = true
      · have hP' : (set.testBit k && (A 9 k == 1)) = true := hP
        rw [hP']
        cases hq : lstN (aLP A set) (aLoad b A) k with
        | none =>
          have next := fun o5 o6 => ih (k + 1) o5 o6 (by omega)
          rw [lstN_0 hP hq] at next
          refine q_ist_6 (pc' := 65) dX4_leastLoaded_63 rfl (by decide) rfl (q_iload (pc' := 67) dX4_leastLoaded_65 rfl rfl (q_ifb_eq (pc' := 70) (pt := 87) dX4_leastLoaded_67 rfl rfl (fun h9 => Bool.noConfusion (Eq.trans (Eq.symm (rfl)) h9)) (fun _ => (q_iload_n (pc' := 71) dX4_leastLoaded_70 rfl rfl (q_iconst (pc' := 72) _ dX4_leastLoaded_71 rfl kk_iconst_m1 (q_icmp_eq (pc' := 75) (pt := 81) dX4_leastLoaded_72 rfl rfl (fun _ => (q_iload (pc' := 83) dX4_leastLoaded_81 rfl rfl (q_ist_2 (pc' := 84) dX4_leastLoaded_83 rfl (by decide) rfl (q_iload (pc' := 86) dX4_leastLoaded_84 rfl rfl (q_ist_3 (pc' := 87) dX4_leastLoaded_86 rfl (by decide) rfl (q_inc_4 (pc' := 90) dX4_leastLoaded_87 rfl (by decide) rfl (q_goto (pc' := 7) dX4_leastLoaded_90 rfl ?_))))))) (fun h9 => absurd (by rfl) h9)))))))
          exact next _ _
        | some q =>
          have hq2 := (lstN_lt hq).1
          have l2 := aLoad_le b A q
          have next := fun o5 o6 => ih (k + 1) o5 o6 (by omega)
          by_cases h4 : aLoad b A q ≤ aLoad b A k
          · rw [lstN_2 hq (by omega)] at next
            refine q_ist_6 (pc' := 65) dX4_leastLoaded_63 rfl (by decide) rfl (q_iload (pc' := 67) dX4_leastLoaded_65 rfl rfl (q_ifb_eq (pc' := 70) (pt := 87) dX4_leastLoaded_67 rfl rfl (fun h9 => Bool.noConfusion (Eq.trans (Eq.symm (rfl)) h9)) (fun _ => (q_iload_n (pc' := 71) dX4_leastLoaded_70 rfl rfl (q_iconst (pc' := 72) _ dX4_leastLoaded_71 rfl kk_iconst_m1 (q_icmp_eq (pc' := 75) (pt := 81) dX4_leastLoaded_72 rfl rfl (fun h9 => absurd h9 (nI_m1 (by omega))) (fun _ => (q_iload (pc' := 77) dX4_leastLoaded_75 rfl rfl (q_iload_n (pc' := 78) dX4_leastLoaded_77 rfl rfl (q_icmp_ge (pc' := 81) (pt := 87) dX4_leastLoaded_78 rfl rfl (fun _ => (q_inc_4 (pc' := 90) dX4_leastLoaded_87 rfl (by decide) rfl (q_goto (pc' := 7) dX4_leastLoaded_90 rfl ?_))) (fun h9 => absurd (nI_le h4 (by omega)) h9)))))))))))
            exact next _ _
          · rw [lstN_1 hP hq (by omega)] at next
            refine q_ist_6 (pc' := 65) dX4_leastLoaded_63 rfl (by decide) rfl (q_iload (pc' := 67) dX4_leastLoaded_65 rfl rfl (q_ifb_eq (pc' := 70) (pt := 87) dX4_leastLoaded_67 rfl rfl (fun h9 => Bool.noConfusion (Eq.trans (Eq.symm (rfl)) h9)) (fun _ => (q_iload_n (pc' := 71) dX4_leastLoaded_70 rfl rfl (q_iconst (pc' := 72) _ dX4_leastLoaded_71 rfl kk_iconst_m1 (q_icmp_eq (pc' := 75) (pt := 81) dX4_leastLoaded_72 rfl rfl (fun h9 => absurd h9 (nI_m1 (by omega))) (fun _ => (q_iload (pc' := 77) dX4_leastLoaded_75 rfl rfl (q_iload_n (pc' := 78) dX4_leastLoaded_77 rfl rfl (q_icmp_ge (pc' := 81) (pt := 87) dX4_leastLoaded_78 rfl rfl (fun h9 => absurd h9 (Int32.not_le.mpr (nI_lt (by omega) (by omega)))) (fun _ => (q_iload (pc' := 83) dX4_leastLoaded_81 rfl rfl (q_ist_2 (pc' := 84) dX4_leastLoaded_83 rfl (by decide) rfl (q_iload (pc' := 86) dX4_leastLoaded_84 rfl rfl (q_ist_3 (pc' := 87) dX4_leastLoaded_86 rfl (by decide) rfl (q_inc_4 (pc' := 90) dX4_leastLoaded_87 rfl (by decide) rfl ?_))))))))))))))))
            refine q_goto (pc' := 7) dX4_leastLoaded_90 rfl ?_
            exact next _ _
      · have hP' : (set.testBit k && (A 9 k == 1)) = false := Bool.eq_false_iff.mpr hP
        rw [hP']
        refine q_ist_6 (pc' := 65) dX4_leastLoaded_63 rfl (by decide) rfl (q_iload (pc' := 67) dX4_leastLoaded_65 rfl rfl (q_ifb_eq (pc' := 70) (pt := 87) dX4_leastLoaded_67 rfl rfl (fun _ => ?_) (fun h9 => Bool.noConfusion (Eq.trans (Eq.symm (rfl)) h9))))
        exact skip hP' _ _
  refine q_iconst (pc' := 1) _ dX4_leastLoaded_0 rfl kk_iconst_m1 (q_ist_2 (pc' := 2) dX4_leastLoaded_1 rfl (by decide) rfl (q_iconst (pc' := 3) _ dX4_leastLoaded_2 rfl kk_iconst_m1 (q_ist_3 (pc' := 4) dX4_leastLoaded_3 rfl (by decide) rfl (q_iconst (pc' := 5) _ dX4_leastLoaded_4 rfl kk_iconst_0 (q_ist_4 (pc' := 7) dX4_leastLoaded_5 rfl (by decide) rfl ?_)))))
  exact loop (b 0 0) 0 _ _ (by omega)
theorem rn_X4_deal {set n : Nat} (hi : i < 21) (hS : mj_wS R i) (hb : cB I b) (hk : bOK b) (h : cRr I i b A) (hs : set < 2 ^ 32) (hn : 1 ≤ n ∧ n ≤ 8) : Rn w l yX4_deal dd_X4_deal [.ref (sA i 11), .int (nI set), .int (nI n)] (472, I, J, R) (some (.int (oI (aDl b A set n)))) (472, I, J, R) := by
  have hz : 50 + 20 * i ≤ 472 := by omega
  have h8 := hk.1.2
  have hv2 := hk.2.1
  refine rn_intro2 (L := [some (.ref (sA i 11)), some (.int (nI set)), some (.int (nI n)), none, none]) ⟨by decide, rfl, (fun h => by cases h)⟩ (Nat.le_refl _) (Nat.le_of_ble_eq_true rfl) rfl (fun Y Q hQ => ?_)
  have fin : Wq dd_X4_deal (mj_mk w l 472 Y) Q 45 [some (.ref (sA i 11)), some (.int (nI set)), some (.int (nI n)), some (.int (nI (bitN (fun p => (aBlk b A p n).isSome) (b 0 0)))), some (.int (nI (b 0 0)))] [] (472, I, J, R) := by
    have hlt : set &&& bitN (fun p => (aBlk b A p n).isSome) (b 0 0) < 2 ^ 32 := Nat.lt_of_le_of_lt Nat.and_le_left hs
    have el : aLeast b A (set &&& bitN (fun p => (aBlk b A p n).isSome) (b 0 0)) = aDealt b A n set := by
      unfold aLeast aDealt
      refine lstN_congr (fun p hp => ?_) (fun _ _ _ => rfl)
      unfold aLP aDP
      rw [Nat.testBit_and, bitN_bit, decide_eq_true hp, Bool.true_and, Bool.and_assoc, Bool.and_assoc, Bool.and_comm (aBlk b A p n).isSome]
    refine q_aload_n (pc' := 46) dX4_deal_45 rfl rfl (q_iload_n (pc' := 47) dX4_deal_46 rfl rfl (q_iload_n (pc' := 48) dX4_deal_47 rfl rfl (q_iand (pc' := 49) dX4_deal_48 rfl ?_)))
    refine q_top (nI_and _ _) ?_
    refine q_cVi (pc' := 52) dX4_deal_49 rfl ml_RX4_88 yv_X4_leastLoaded (by decide) (rn_X4_leastLoaded hi hS hb hk h hlt) (okS hi hz (by decide) rfl) rfl rfl (Nat.le_of_ble_eq_true rfl) (Nat.le_refl _) ?_
    rw [el]
    unfold aDl at hQ
    cases hd : aDealt b A n set with
    | none =>
      rw [hd] at hQ
      exact q_ist_4 (pc' := 54) dX4_deal_52 rfl (by decide) rfl (q_iload (pc' := 56) dX4_deal_54 rfl rfl (q_iconst (pc' := 57) _ dX4_deal_56 rfl kk_iconst_m1 (q_icmp_ne (pc' := 60) (pt := 64) dX4_deal_57 rfl rfl (fun h9 => absurd (rfl) h9) (fun _ => (q_iconst (pc' := 61) _ dX4_deal_60 rfl kk_iconst_m1 (q_goto (pc' := 77) dX4_deal_61 rfl (q_iret dX4_deal_77 rfl hQ)))))))
    | some p =>
      have hp := lstN_lt hd
      rw [hd] at hQ
      have hsm : (aBlk b A p n).isSome = true := by
        have := hp.2
        unfold aDP at this
        rw [Bool.and_eq_true] at this
        exact this.2
      obtain ⟨q, hq⟩ := Option.isSome_iff_exists.mp hsm
      have hql := aBlk_lt hn.1 hq
      refine q_ist_4 (pc' := 54) dX4_deal_52 rfl (by decide) rfl (q_iload (pc' := 56) dX4_deal_54 rfl rfl (q_iconst (pc' := 57) _ dX4_deal_56 rfl kk_iconst_m1 (q_icmp_ne (pc' := 60) (pt := 64) dX4_deal_57 rfl rfl (fun _ => (q_iload (pc' := 66) dX4_deal_64 rfl rfl (q_bipush (pc' := 68) _ dX4_deal_66 rfl kk_bipush_32 (q_imul (pc' := 69) dX4_deal_68 rfl ?_)))) (fun h9 => absurd h9 (nI_m1 (by omega))))))
      refine q_top (pk_mul p 32) ?_
      refine q_aload_n (pc' := 70) dX4_deal_69 rfl rfl (q_iload (pc' := 72) dX4_deal_70 rfl rfl (q_iload_n (pc' := 73) dX4_deal_72 rfl rfl (q_cVi (pc' := 76) dX4_deal_73 rfl ml_RX4_85 yv_X4_firstBlock (by decide) (rn_X4_firstBlock hi hS hb hk h (by omega) hn) (okS hi hz (by decide) rfl) rfl rfl (Nat.le_of_ble_eq_true rfl) (Nat.le_refl _) (q_iadd (pc' := 77) dX4_deal_76 rfl ?_))))
      refine q_top (y := nI (32 * p + n * (aBlk b A p n).getD 0)) (by rw [hq]; show nI (p * 32) + nI (n * q) = nI (32 * p + n * q); rw [nI_add, Nat.mul_comm p 32]) ?_
      exact q_iret dX4_deal_77 rfl hQ
  have loop : ∀ m k, k + m = b 0 0 → Wq dd_X4_deal (mj_mk w l 472 Y) Q 5 [some (.ref (sA i 11)), some (.int (nI set)), some (.int (nI n)), some (.int (nI (bitN (fun p => (aBlk b A p n).isSome) k))), some (.int (nI k))] [] (472, I, J, R) := by
    intro m
    induction m with
    | zero =>
      intro k hkm
      have hkz : k = b 0 0 := by omega
      subst hkz
      refine q_iload (pc' := 7) dX4_deal_5 rfl rfl (q_aload_n (pc' := 8) dX4_deal_7 rfl rfl (q_getR (pc' := 11) dX4_deal_8 rfl fr_RX4_23 (okS hi hz (by decide) rfl) rfl (wS_4_0 hS) (by decide) (q_getIe (pc' := 14) dX4_deal_11 rfl fr_RX4_64 (by first | assumption | exact ⟨by omega, rfl⟩) rfl (cB_0 hb) (q_icmp_ge (pc' := 17) (pt := 45) dX4_deal_14 rfl rfl (fun _ => ?_) (fun h9 => absurd (by (first | assumption | exact nI_le (by omega) (by omega) | exact nI_ge (by omega) (by omega) | exact nI_lt (by omega) (by omega) | exact nI_nlt (by omega) (by omega) | exact nI_ne (by omega) (by omega) (by omega) | exact nI_e (by omega) | decide)) h9)))))
      exact fin
    | succ m ih =>
      intro k hkm
      have next := ih (k + 1) (by omega)
      have eo := bitN_or (fun p => (aBlk b A p n).isSome) k
      cases hz2 : aBlk b A k n with
      | none =>
        refine q_iload (pc' := 7) dX4_deal_5 rfl rfl (q_aload_n (pc' := 8) dX4_deal_7 rfl rfl (q_getR (pc' := 11) dX4_deal_8 rfl fr_RX4_23 (okS hi hz (by decide) rfl) rfl (wS_4_0 hS) (by decide) (q_getIe (pc' := 14) dX4_deal_11 rfl fr_RX4_64 (by first | assumption | exact ⟨by omega, rfl⟩) rfl (cB_0 hb) (q_icmp_ge (pc' := 17) (pt := 45) dX4_deal_14 rfl rfl (fun h9 => absurd h9 (by (first | assumption | exact nI_le (by omega) (by omega) | exact nI_ge (by omega) (by omega) | exact nI_lt (by omega) (by omega) | exact nI_nlt (by omega) (by omega) | exact nI_ne (by omega) (by omega) (by omega) | exact nI_e (by omega) | decide))) (fun _ => (q_iload_n (pc' := 18) dX4_deal_17 rfl rfl (q_aload_n (pc' := 19) dX4_deal_18 rfl rfl (q_iload (pc' := 21) dX4_deal_19 rfl rfl (q_iload_n (pc' := 22) dX4_deal_21 rfl rfl (q_cVi (pc' := 25) dX4_deal_22 rfl ml_RX4_85 yv_X4_firstBlock (by decide) (rn_X4_firstBlock hi hS hb hk h (by omega) hn) (okS hi hz (by decide) rfl) rfl rfl (Nat.le_of_ble_eq_true rfl) (Nat.le_refl _) (q_iconst (pc' := 26) _ dX4_deal_25 rfl kk_iconst_m1 (q_icmp_eq (pc' := 29) (pt := 36) dX4_deal_26 rfl rfl (fun _ => (q_iconst (pc' := 37) _ dX4_deal_36 rfl kk_iconst_0 ?_)) (fun h9 => absurd (by rw [hz2]; rfl) h9)))))))))))))
        rw [show (aBlk b A k n).isSome = false by rw [hz2]; rfl, if_neg (by decide), Nat.zero_mul] at eo
        refine q_ior dX4_deal_37 rfl ?_
        refine q_top eo ?_
        refine q_ist_3 (pc' := 39) dX4_deal_38 rfl (by decide) rfl (q_inc_4 (pc' := 42) dX4_deal_39 rfl (by decide) rfl (q_goto (pc' := 5) dX4_deal_42 rfl ?_))
        exact next
      | some q =>
        have hql := aBlk_lt hn.1 hz2
        have hlt : n * q < 2 ^ 31 := by omega
        refine q_iload (pc' := 7) dX4_deal_5 rfl rfl (q_aload_n (pc' := 8) dX4_deal_7 rfl rfl (q_getR (pc' := 11) dX4_deal_8 rfl fr_RX4_23 (okS hi hz (by decide) rfl) rfl (wS_4_0 hS) (by decide) (q_getIe (pc' := 14) dX4_deal_11 rfl fr_RX4_64 (by first | assumption | exact ⟨by omega, rfl⟩) rfl (cB_0 hb) (q_icmp_ge (pc' := 17) (pt := 45) dX4_deal_14 rfl rfl (fun h9 => absurd h9 (by (first | assumption | exact nI_le (by omega) (by omega) | exact nI_ge (by omega) (by omega) | exact nI_lt (by omega) (by omega) | exact nI_nlt (by omega) (by omega) | exact nI_ne (by omega) (by omega) (by omega) | exact nI_e (by omega) | decide))) (fun _ => (q_iload_n (pc' := 18) dX4_deal_17 rfl rfl (q_aload_n (pc' := 19) dX4_deal_18 rfl rfl (q_iload (pc' := 21) dX4_deal_19 rfl rfl (q_iload_n (pc' := 22) dX4_deal_21 rfl rfl (q_cVi (pc' := 25) dX4_deal_22 rfl ml_RX4_85 yv_X4_firstBlock (by decide) (rn_X4_firstBlock hi hS hb hk h (by omega) hn) (okS hi hz (by decide) rfl) rfl rfl (Nat.le_of_ble_eq_true rfl) (Nat.le_refl _) (q_iconst (pc' := 26) _ dX4_deal_25 rfl kk_iconst_m1 (q_icmp_eq (pc' := 29) (pt := 36) dX4_deal_26 rfl rfl (fun h9 => absurd h9 (by rw [hz2]; exact nI_m1 hlt)) (fun _ => (q_iconst (pc' := 30) _ dX4_deal_29 rfl kk_iconst_1 (q_iload (pc' := 32) dX4_deal_30 rfl rfl ?_)))))))))))))))
        refine q_ishl (pc' := 33) dX4_deal_32 rfl ?_
        refine q_top (sh32 k (by omega)) ?_
        rw [show (aBlk b A k n).isSome = true by rw [hz2]; rfl, if_pos rfl, Nat.one_mul] at eo
        refine q_goto (pc' := 37) dX4_deal_33 rfl ?_
        refine q_ior dX4_deal_37 rfl ?_
        refine q_top eo ?_
        refine q_ist_3 (pc' := 39) dX4_deal_38 rfl (by decide) rfl (q_inc_4 (pc' := 42) dX4_deal_39 rfl (by decide) rfl (q_goto (pc' := 5) dX4_deal_42 rfl ?_))
        exact next
  refine q_iconst (pc' := 1) _ dX4_deal_0 rfl kk_iconst_0 (q_ist_3 (pc' := 2) dX4_deal_1 rfl (by decide) rfl (q_iconst (pc' := 3) _ dX4_deal_2 rfl kk_iconst_0 (q_ist_4 (pc' := 5) dX4_deal_3 rfl (by decide) rfl ?_)))
  exact loop (b 0 0) 0 (by omega)
theorem rn_X4_reservedPlace {p id : Nat} (hi : i < 21) (hS : mj_wS R i) (hb : cB I b) (hk : bOK b) (h : cRr I i b A) (hA : ∀ k, k < 256 → A 1 k ≤ 80) (hp : p < 8) (hid : id < 80) : Rn w l yX4_reservedPlace dd_X4_reservedPlace [.ref (sA i 11), .int (nI p), .int (nI id)] (472, I, J, R) (some (.int (oI (aRsP b A id p)))) (472, I, J, R) := by
  have hz : 50 + 20 * i ≤ 472 := by omega
  have hv := hk.2.1
  refine rn_intro2 (L := [some (.ref (sA i 11)), some (.int (nI p)), some (.int (nI id)), none, none]) ⟨by decide, rfl, (fun h => by cases h)⟩ (Nat.le_refl _) (Nat.le_of_ble_eq_true rfl) rfl (fun Y Q hQ => ?_)
  unfold aRsP at hQ
  have loop : ∀ m k o4, k + m = b 0 1 → ffi (aRs A id p) k m = aResv b A id p → Wq dd_X4_reservedPlace (mj_mk w l 472 Y) Q 2 [some (.ref (sA i 11)), some (.int (nI p)), some (.int (nI id)), some (.int (nI k)), o4] [] (472, I, J, R) := by
    intro m
    induction m with
    | zero =>
      intro k o4 hkm hf
      have hkz : k = b 0 1 := by omega
      subst hkz
      have hf2 : aResv b A id p = none := hf.symm
      rw [hf2] at hQ
      exact q_iload_n (pc' := 3) dX4_reservedPlace_2 rfl rfl (q_aload_n (pc' := 4) dX4_reservedPlace_3 rfl rfl (q_getR (pc' := 7) dX4_reservedPlace_4 rfl fr_RX4_23 (okS hi hz (by decide) rfl) rfl (wS_4_0 hS) (by decide) (q_getIe (pc' := 10) dX4_reservedPlace_7 rfl fr_RX4_78 (by first | assumption | exact ⟨by omega, rfl⟩) rfl (cB_1 hb) (q_icmp_ge (pc' := 13) (pt := 57) dX4_reservedPlace_10 rfl rfl (fun _ => (q_iconst (pc' := 58) _ dX4_reservedPlace_57 rfl kk_iconst_m1 (q_iret dX4_reservedPlace_58 rfl hQ))) (fun h9 => absurd (by (first | assumption | exact nI_le (by omega) (by omega) | exact nI_ge (by omega) (by omega) | exact nI_lt (by omega) (by omega) | exact nI_nlt (by omega) (by omega) | exact nI_ne (by omega) (by omega) (by omega) | exact nI_e (by omega) | decide)) h9)))))
    | succ m ih =>
      intro k o4 hkm hf
      have ha := hA (32 * p + k) (by omega)
      have eo : I (sA i 19) (32 * p + k) = lD (A 1 (32 * p + k)) := h.2.2.1 _ (by omega)
      have hlt := cT_lt (A := A) (p := p) (s := 4) hk
      have e := (ubit hlt (show k < 32 by omega)).trans (cT_bit (A := A) (b := b) (p := p) (s := 4) (show k < b 0 1 by omega))
      unfold ffi at hf
      refine q_iload_n (pc' := 3) dX4_reservedPlace_2 rfl rfl (q_aload_n (pc' := 4) dX4_reservedPlace_3 rfl rfl (q_getR (pc' := 7) dX4_reservedPlace_4 rfl fr_RX4_23 (okS hi hz (by decide) rfl) rfl (wS_4_0 hS) (by decide) (q_getIe (pc' := 10) dX4_reservedPlace_7 rfl fr_RX4_78 (by first | assumption | exact ⟨by omega, rfl⟩) rfl (cB_1 hb) (q_icmp_ge (pc' := 13) (pt := 57) dX4_reservedPlace_10 rfl rfl (fun h9 => absurd h9 (by (first | assumption | exact nI_le (by omega) (by omega) | exact nI_ge (by omega) (by omega) | exact nI_lt (by omega) (by omega) | exact nI_nlt (by omega) (by omega) | exact nI_ne (by omega) (by omega) (by omega) | exact nI_e (by omega) | decide))) (fun _ => (q_iload_n (pc' := 14) dX4_reservedPlace_13 rfl rfl (q_bipush (pc' := 16) _ dX4_reservedPlace_14 rfl kk_bipush_32 (q_imul (pc' := 17) dX4_reservedPlace_16 rfl (q_iload_n (pc' := 18) dX4_reservedPlace_17 rfl rfl (q_iadd (pc' := 19) dX4_reservedPlace_18 rfl ?_))))))))))
      refine q_top (y := nI (32 * p + k)) (by rw [pk_mul, nI_add, Nat.mul_comm p 32]) ?_
      by_cases h1 : A 1 (32 * p + k) = id + 1
      · have e1 : lD (A 1 (32 * p + k)) = nI id := by rw [h1]; unfold lD; rw [if_neg (by omega)]; rfl
        by_cases h4 : A 0 (32 * p + k) = 4
        · have hP : aRs A id p k = true := by unfold aRs; rw [beq_iff_eq.mpr h1, beq_iff_eq.mpr h4]; rfl
          rw [if_pos hP] at hf
          rw [← hf] at hQ
          rw [beq_iff_eq.mpr h4, decide_eq_true_iff] at e
          refine q_ist_4 (pc' := 21) dX4_reservedPlace_19 rfl (by decide) rfl (q_aload_n (pc' := 22) dX4_reservedPlace_21 rfl rfl (q_getR (pc' := 25) dX4_reservedPlace_22 rfl fr_RX4_20 (okS hi hz (by decide) rfl) rfl (wS_4_4 hS) (sA_lt hi (by decide)) (q_iload (pc' := 27) dX4_reservedPlace_25 rfl rfl (q_ialde (pc' := 28) (32 * p + k) dX4_reservedPlace_27 rfl (by first | exact ⟨by omega, rfl⟩ | exact okaS hi hz (by decide) rfl | assumption) (by (first | (simp only [nI_add, pk_mul]; done) | (simp only [nI_add, pk_mul]; exact nI_e (by omega)) | exact nI_e (by omega))) (by omega) eo (q_iload_n (pc' := 29) dX4_reservedPlace_28 rfl rfl (q_icmp_ne (pc' := 32) (pt := 51) dX4_reservedPlace_29 rfl rfl (fun h9 => absurd (e1) h9) (fun _ => (q_aload_n (pc' := 33) dX4_reservedPlace_32 rfl rfl (q_getR (pc' := 36) dX4_reservedPlace_33 rfl fr_RX4_11 (okS hi hz (by decide) rfl) rfl (wS_4_2 hS) (sA_lt hi (by decide)) (q_iconst (pc' := 37) _ dX4_reservedPlace_36 rfl kk_iconst_4 (q_aald (pc' := 38) (4) dX4_reservedPlace_37 rfl (by first | exact ⟨by omega, rfl⟩ | exact okaS hi hz (by decide) rfl | assumption) (by first | exact Or.inl rfl | exact Or.inr rfl) (by (first | (simp only [nI_add, pk_mul]; done) | (simp only [nI_add, pk_mul]; exact nI_e (by omega)) | exact nI_e (by omega))) (by omega) (wS_row hS (by omega)) (sA_lt hi (by omega)) (q_iload_n (pc' := 39) dX4_reservedPlace_38 rfl rfl (q_ialde (pc' := 40) (p) dX4_reservedPlace_39 rfl (by first | exact ⟨by omega, rfl⟩ | exact okaS hi hz (by decide) rfl | assumption) (by (first | (simp only [nI_add, pk_mul]; done) | (simp only [nI_add, pk_mul]; exact nI_e (by omega)) | exact nI_e (by omega))) (by omega) (h.1 4 (by decide) p hp) (q_iload_n (pc' := 41) dX4_reservedPlace_40 rfl rfl ?_))))))))))))))
          exact q_iushr (pc' := 42) dX4_reservedPlace_41 rfl (q_iconst (pc' := 43) _ dX4_reservedPlace_42 rfl kk_iconst_1 (q_iand (pc' := 44) dX4_reservedPlace_43 rfl (q_iconst (pc' := 45) _ dX4_reservedPlace_44 rfl kk_iconst_1 (q_icmp_ne (pc' := 48) (pt := 51) dX4_reservedPlace_45 rfl rfl (fun h9 => absurd (e) h9) (fun _ => (q_iload (pc' := 50) dX4_reservedPlace_48 rfl rfl (q_iret dX4_reservedPlace_50 rfl hQ)))))))
        · have hP : ¬ aRs A id p k = true := by unfold aRs; rw [beq_eq_false_iff_ne.mpr h4, Bool.false_and]; decide
          rw [if_neg hP] at hf
          rw [beq_eq_false_iff_ne.mpr h4, decide_eq_false_iff_not] at e
          refine q_ist_4 (pc' := 21) dX4_reservedPlace_19 rfl (by decide) rfl (q_aload_n (pc' := 22) dX4_reservedPlace_21 rfl rfl (q_getR (pc' := 25) dX4_reservedPlace_22 rfl fr_RX4_20 (okS hi hz (by decide) rfl) rfl (wS_4_4 hS) (sA_lt hi (by decide)) (q_iload (pc' := 27) dX4_reservedPlace_25 rfl rfl (q_ialde (pc' := 28) (32 * p + k) dX4_reservedPlace_27 rfl (by first | exact ⟨by omega, rfl⟩ | exact okaS hi hz (by decide) rfl | assumption) (by (first | (simp only [nI_add, pk_mul]; done) | (simp only [nI_add, pk_mul]; exact nI_e (by omega)) | exact nI_e (by omega))) (by omega) eo (q_iload_n (pc' := 29) dX4_reservedPlace_28 rfl rfl (q_icmp_ne (pc' := 32) (pt := 51) dX4_reservedPlace_29 rfl rfl (fun h9 => absurd (e1) h9) (fun _ => (q_aload_n (pc' := 33) dX4_reservedPlace_32 rfl rfl (q_getR (pc' := 36) dX4_reservedPlace_33 rfl fr_RX4_11 (okS hi hz (by decide) rfl) rfl (wS_4_2 hS) (sA_lt hi (by decide)) (q_iconst (pc' := 37) _ dX4_reservedPlace_36 rfl kk_iconst_4 (q_aald (pc' := 38) (4) dX4_reservedPlace_37 rfl (by first | exact ⟨by omega, rfl⟩ | exact okaS hi hz (by decide) rfl | assumption) (by first | exact Or.inl rfl | exact Or.inr rfl) (by (first | (simp only [nI_add, pk_mul]; done) | (simp only [nI_add, pk_mul]; exact nI_e (by omega)) | exact nI_e (by omega))) (by omega) (wS_row hS (by omega)) (sA_lt hi (by omega)) (q_iload_n (pc' := 39) dX4_reservedPlace_38 rfl rfl (q_ialde (pc' := 40) (p) dX4_reservedPlace_39 rfl (by first | exact ⟨by omega, rfl⟩ | exact okaS hi hz (by decide) rfl | assumption) (by (first | (simp only [nI_add, pk_mul]; done) | (simp only [nI_add, pk_mul]; exact nI_e (by omega)) | exact nI_e (by omega))) (by omega) (h.1 4 (by decide) p hp) (q_iload_n (pc' := 41) dX4_reservedPlace_40 rfl rfl ?_))))))))))))))
          refine q_iushr (pc' := 42) dX4_reservedPlace_41 rfl (q_iconst (pc' := 43) _ dX4_reservedPlace_42 rfl kk_iconst_1 (q_iand (pc' := 44) dX4_reservedPlace_43 rfl (q_iconst (pc' := 45) _ dX4_reservedPlace_44 rfl kk_iconst_1 (q_icmp_ne (pc' := 48) (pt := 51) dX4_reservedPlace_45 rfl rfl (fun _ => (q_inc_3 (pc' := 54) dX4_reservedPlace_51 rfl (by decide) rfl (q_goto (pc' := 2) dX4_reservedPlace_54 rfl ?_))) (fun h9 => absurd h9 (e))))))
          exact ih (k + 1) _ (by omega) hf
      · have hP : ¬ aRs A id p k = true := by unfold aRs; rw [beq_eq_false_iff_ne.mpr h1, Bool.and_false]; decide
        rw [if_neg hP] at hf
        have e1 : ¬ lD (A 1 (32 * p + k)) = nI id := by
          unfold lD
          split
          · exact fun q => nI_m1 (by omega) q.symm
          · exact nI_ne (by omega) (by omega) (by omega)
        refine q_ist_4 (pc' := 21) dX4_reservedPlace_19 rfl (by decide) rfl (q_aload_n (pc' := 22) dX4_reservedPlace_21 rfl rfl (q_getR (pc' := 25) dX4_reservedPlace_22 rfl fr_RX4_20 (okS hi hz (by decide) rfl) rfl (wS_4_4 hS) (sA_lt hi (by decide)) (q_iload (pc' := 27) dX4_reservedPlace_25 rfl rfl (q_ialde (pc' := 28) (32 * p + k) dX4_reservedPlace_27 rfl (by first | exact ⟨by omega, rfl⟩ | exact okaS hi hz (by decide) rfl | assumption) (by (first | (simp only [nI_add, pk_mul]; done) | (simp only [nI_add, pk_mul]; exact nI_e (by omega)) | exact nI_e (by omega))) (by omega) eo (q_iload_n (pc' := 29) dX4_reservedPlace_28 rfl rfl (q_icmp_ne (pc' := 32) (pt := 51) dX4_reservedPlace_29 rfl rfl (fun _ => (q_inc_3 (pc' := 54) dX4_reservedPlace_51 rfl (by decide) rfl (q_goto (pc' := 2) dX4_reservedPlace_54 rfl ?_))) (fun h9 => absurd h9 (e1))))))))
        exact ih (k + 1) _ (by omega) hf
  refine q_iconst (pc' := 1) _ dX4_reservedPlace_0 rfl kk_iconst_0 (q_ist_3 (pc' := 2) dX4_reservedPlace_1 rfl (by decide) rfl ?_)
  exact loop (b 0 1) 0 _ (by omega) rfl
end ROWS3
