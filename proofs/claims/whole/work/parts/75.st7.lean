/-! ===== the class: TICKS ===== -/
section ST7
variable {w : mj_Wd} {l : Launch} {I : mj_M} {J : mj_J} {R : mj_R} {b A : St} {i : Nat}
theorem rs_X5_releaseDrained (hi : i < 21) (hS : mj_wS R i) (hB : mj_wB R 4) (hb : cB I b) (hk : bOK b) (h : cR I i b A) (hT : tI b A) : RsV w l yX5_releaseDrained dd_X5_releaseDrained [.ref (sA i 0)] (472, I, J, R) (fun I' => cR I' i b (itN (fun id A => aDr1 b id A) (b 0 2 * 8) A) ∧ mS i I I') := by
  have hz : 50 + 20 * i ≤ 472 := by omega
  have h10 := hk.2.2.1
  refine rt_intro2 (L := [some (.ref (sA i 0)), none]) ⟨by decide, rfl, (fun h => by cases h)⟩ (Nat.le_of_ble_eq_true rfl) rfl (fun Y Q hQ => ?_)
  have loop : ∀ m k I0, k + m = b 0 2 * 8 → cR I0 i b (itN (fun id A => aDr1 b id A) k A) → mS i I I0 → Wq dd_X5_releaseDrained (mj_mk w l 472 Y) Q 2 [some (.ref (sA i 0)), some (.int (nI k))] [] (472, I0, J, R) := by
    intro m
    induction m with
    | zero =>
      intro k I0 hkm hr hm
      have hkz : k = b 0 2 * 8 := by omega
      subst hkz
      have eb : I0 4 4 = nI (b 0 2) := cB_4 (cB_S hm hb)
      refine q_iload_n (pc' := 3) dX5_releaseDrained_2 rfl rfl (q_aload_n (pc' := 4) dX5_releaseDrained_3 rfl rfl (q_getR (pc' := 7) dX5_releaseDrained_4 rfl fr_RX5_32 (okS hi hz (by decide) rfl) rfl (wS_5_0 hS) (by decide) (q_getIe (pc' := 10) dX5_releaseDrained_7 rfl fr_RX5_79 (by first | assumption | exact ⟨by omega, rfl⟩) rfl eb (q_bipush (pc' := 12) _ dX5_releaseDrained_10 rfl kk_bipush_8 (q_imul (pc' := 13) dX5_releaseDrained_12 rfl ?_)))))
      refine q_top (pk_mul _ 8) ?_
      exact q_icmp_ge (pc' := 16) (pt := 62) dX5_releaseDrained_13 rfl rfl (fun _ => (q_vret dX5_releaseDrained_62 rfl (hQ _ _ _ _ ⟨rfl, ⟨rfl, rfl⟩, hr, hm⟩))) (fun h9 => absurd (by (first | assumption | exact nI_le (by omega) (by omega) | exact nI_ge (by omega) (by omega) | exact nI_lt (by omega) (by omega) | exact nI_nlt (by omega) (by omega) | exact nI_ne (by omega) (by omega) (by omega) | exact nI_e (by omega) | decide)) h9)
    | succ m ih =>
      intro k I0 hkm hr hm
      have eb : I0 4 4 = nI (b 0 2) := cB_4 (cB_S hm hb)
      have hk80 : k < 80 := by omega
      have hB0 := tI_drs hT k (by omega)
      have next := fun I1 r1 f1 => ih (k + 1) I1 (by omega) r1 f1
      have hstep : itN (fun id A => aDr1 b id A) (k + 1) A = aDr1 b k (itN (fun id A => aDr1 b id A) k A) := rfl
      rw [hstep] at next
      generalize itN (fun id A => aDr1 b id A) k A = B at hr hB0 next
      have h5 := (hB0.1.2.1 k hk80).2.2.1
      have hln := hr.2.2.2 k hk80
      refine q_iload_n (pc' := 3) dX5_releaseDrained_2 rfl rfl (q_aload_n (pc' := 4) dX5_releaseDrained_3 rfl rfl (q_getR (pc' := 7) dX5_releaseDrained_4 rfl fr_RX5_32 (okS hi hz (by decide) rfl) rfl (wS_5_0 hS) (by decide) (q_getIe (pc' := 10) dX5_releaseDrained_7 rfl fr_RX5_79 (by first | assumption | exact ⟨by omega, rfl⟩) rfl eb (q_bipush (pc' := 12) _ dX5_releaseDrained_10 rfl kk_bipush_8 (q_imul (pc' := 13) dX5_releaseDrained_12 rfl ?_)))))
      refine q_top (pk_mul _ 8) ?_
      by_cases c5 : B 5 k = 1
      · have c4 := hB0.2.1.2 k hk80 c5
        obtain ⟨hpv, ho⟩ := hB0.2.2.2.1 k hk80 c4
        have e4 : I0 (sA i 8) k = nI (B 4 k - 1) := hln.2.1.trans (lD_p (by omega))
        by_cases c2 : B 2 (B 4 k - 1) = 1
        · have ed : aDr1 b k B = B := if_pos (Or.inr c2)
          rw [ed] at next
          refine q_icmp_ge (pc' := 16) (pt := 62) dX5_releaseDrained_13 rfl rfl (fun h9 => absurd h9 (Int32.not_le.mpr (nI_lt (by omega) (by omega)))) (fun _ => (q_aload_n (pc' := 17) dX5_releaseDrained_16 rfl rfl (q_getR (pc' := 20) dX5_releaseDrained_17 rfl fr_RX5_25 (okS hi hz (by decide) rfl) rfl (wS_5_7 hS) (sA_lt hi (by decide)) (q_iload_n (pc' := 21) dX5_releaseDrained_20 rfl rfl (q_zalde (pc' := 22) (k) dX5_releaseDrained_21 rfl (by first | exact ⟨by omega, rfl⟩ | exact okaS hi hz (by decide) rfl | assumption) (by (first | (simp only [nI_add, pk_mul]; done) | (simp only [nI_add, pk_mul]; exact nI_e (by omega)) | exact nI_e (by omega))) (by omega) (hln.2.2.1.trans (bI_n h5)) (q_ifb_eq (pc' := 25) (pt := 56) dX5_releaseDrained_22 rfl rfl (fun h9 => Bool.noConfusion (Eq.trans (Eq.symm (beq_iff_eq.mpr c5)) h9)) (fun _ => (q_aload_n (pc' := 26) dX5_releaseDrained_25 rfl rfl (q_getR (pc' := 29) dX5_releaseDrained_26 rfl fr_RX5_22 (okS hi hz (by decide) rfl) rfl (wS_5_6 hS) (sA_lt hi (by decide)) (q_iload_n (pc' := 30) dX5_releaseDrained_29 rfl rfl (q_ialde (pc' := 31) (k) dX5_releaseDrained_30 rfl (by first | exact ⟨by omega, rfl⟩ | exact okaS hi hz (by decide) rfl | assumption) (by (first | (simp only [nI_add, pk_mul]; done) | (simp only [nI_add, pk_mul]; exact nI_e (by omega)) | exact nI_e (by omega))) (by omega) e4 (q_iconst (pc' := 32) _ dX5_releaseDrained_31 rfl kk_iconst_m1 (q_icmp_eq (pc' := 35) (pt := 56) dX5_releaseDrained_32 rfl rfl (fun h9 => absurd h9 (nI_m1 (by omega))) (fun _ => (q_aload_n (pc' := 36) dX5_releaseDrained_35 rfl rfl (q_getR (pc' := 39) dX5_releaseDrained_36 rfl fr_RX5_41 (okS hi hz (by decide) rfl) rfl (wS_5_1 hS) (sA_lt hi (by decide)) ?_))))))))))))))))
          refine q_aload_n (pc' := 40) dX5_releaseDrained_39 rfl rfl (q_getR (pc' := 43) dX5_releaseDrained_40 rfl fr_RX5_22 (okS hi hz (by decide) rfl) rfl (wS_5_6 hS) (sA_lt hi (by decide)) (q_iload_n (pc' := 44) dX5_releaseDrained_43 rfl rfl (q_ialde (pc' := 45) (k) dX5_releaseDrained_44 rfl (by first | exact ⟨by omega, rfl⟩ | exact okaS hi hz (by decide) rfl | assumption) (by (first | (simp only [nI_add, pk_mul]; done) | (simp only [nI_add, pk_mul]; exact nI_e (by omega)) | exact nI_e (by omega))) (by omega) e4 (q_cVi (pc' := 48) dX5_releaseDrained_45 rfl ml_RX5_111 yv_X4_isPending (by decide) (rn_X4_isPending hi hS hk hr.1 hpv.1 hpv.2) (okS hi hz (by decide) rfl) rfl rfl (Nat.le_of_ble_eq_true rfl) (Nat.le_refl _) (q_ifb_ne (pc' := 51) (pt := 56) dX5_releaseDrained_48 rfl rfl (fun _ => (q_inc_1 (pc' := 59) dX5_releaseDrained_56 rfl (by decide) rfl (q_goto (pc' := 2) dX5_releaseDrained_59 rfl ?_))) (fun h9 => Bool.noConfusion (Eq.trans (Eq.symm (beq_iff_eq.mpr c2)) h9)))))))
          exact next I0 hr hm
        · have ed : aDr1 b k B = aNoOld (aLeaves b B k (B 4 k - 1)) k := if_neg (fun q => q.elim (fun z => by omega) c2)
          rw [ed] at next
          refine q_icmp_ge (pc' := 16) (pt := 62) dX5_releaseDrained_13 rfl rfl (fun h9 => absurd h9 (Int32.not_le.mpr (nI_lt (by omega) (by omega)))) (fun _ => (q_aload_n (pc' := 17) dX5_releaseDrained_16 rfl rfl (q_getR (pc' := 20) dX5_releaseDrained_17 rfl fr_RX5_25 (okS hi hz (by decide) rfl) rfl (wS_5_7 hS) (sA_lt hi (by decide)) (q_iload_n (pc' := 21) dX5_releaseDrained_20 rfl rfl (q_zalde (pc' := 22) (k) dX5_releaseDrained_21 rfl (by first | exact ⟨by omega, rfl⟩ | exact okaS hi hz (by decide) rfl | assumption) (by (first | (simp only [nI_add, pk_mul]; done) | (simp only [nI_add, pk_mul]; exact nI_e (by omega)) | exact nI_e (by omega))) (by omega) (hln.2.2.1.trans (bI_n h5)) (q_ifb_eq (pc' := 25) (pt := 56) dX5_releaseDrained_22 rfl rfl (fun h9 => Bool.noConfusion (Eq.trans (Eq.symm (beq_iff_eq.mpr c5)) h9)) (fun _ => (q_aload_n (pc' := 26) dX5_releaseDrained_25 rfl rfl (q_getR (pc' := 29) dX5_releaseDrained_26 rfl fr_RX5_22 (okS hi hz (by decide) rfl) rfl (wS_5_6 hS) (sA_lt hi (by decide)) (q_iload_n (pc' := 30) dX5_releaseDrained_29 rfl rfl (q_ialde (pc' := 31) (k) dX5_releaseDrained_30 rfl (by first | exact ⟨by omega, rfl⟩ | exact okaS hi hz (by decide) rfl | assumption) (by (first | (simp only [nI_add, pk_mul]; done) | (simp only [nI_add, pk_mul]; exact nI_e (by omega)) | exact nI_e (by omega))) (by omega) e4 (q_iconst (pc' := 32) _ dX5_releaseDrained_31 rfl kk_iconst_m1 (q_icmp_eq (pc' := 35) (pt := 56) dX5_releaseDrained_32 rfl rfl (fun h9 => absurd h9 (nI_m1 (by omega))) (fun _ => (q_aload_n (pc' := 36) dX5_releaseDrained_35 rfl rfl (q_getR (pc' := 39) dX5_releaseDrained_36 rfl fr_RX5_41 (okS hi hz (by decide) rfl) rfl (wS_5_1 hS) (sA_lt hi (by decide)) ?_))))))))))))))))
          refine q_aload_n (pc' := 40) dX5_releaseDrained_39 rfl rfl (q_getR (pc' := 43) dX5_releaseDrained_40 rfl fr_RX5_22 (okS hi hz (by decide) rfl) rfl (wS_5_6 hS) (sA_lt hi (by decide)) (q_iload_n (pc' := 44) dX5_releaseDrained_43 rfl rfl (q_ialde (pc' := 45) (k) dX5_releaseDrained_44 rfl (by first | exact ⟨by omega, rfl⟩ | exact okaS hi hz (by decide) rfl | assumption) (by (first | (simp only [nI_add, pk_mul]; done) | (simp only [nI_add, pk_mul]; exact nI_e (by omega)) | exact nI_e (by omega))) (by omega) e4 (q_cVi (pc' := 48) dX5_releaseDrained_45 rfl ml_RX5_111 yv_X4_isPending (by decide) (rn_X4_isPending hi hS hk hr.1 hpv.1 hpv.2) (okS hi hz (by decide) rfl) rfl rfl (Nat.le_of_ble_eq_true rfl) (Nat.le_refl _) (q_ifb_ne (pc' := 51) (pt := 56) dX5_releaseDrained_48 rfl rfl (fun h9 => Bool.noConfusion (Eq.trans (Eq.symm (beq_eq_false_iff_ne.mpr c2)) h9)) (fun _ => (q_aload_n (pc' := 52) dX5_releaseDrained_51 rfl rfl (q_iload_n (pc' := 53) dX5_releaseDrained_52 rfl rfl (q_sVv (pc' := 56) dX5_releaseDrained_53 rfl ml_RX5_218 yv_X5_releaseOld (by decide) (rs_X5_releaseOld hi hS hB (cB_S hm hb) hk hr hk80 (by omega) c4 hpv.1 hpv.2 c2) (okS hi hz (by decide) rfl) rfl rfl (Nat.le_of_ble_eq_true rfl) (Nat.le_refl _) (fun I1 ⟨r1, f1⟩ => ?_))))))))))
          refine q_inc_1 (pc' := 59) dX5_releaseDrained_56 rfl (by decide) rfl (q_goto (pc' := 2) dX5_releaseDrained_59 rfl ?_)
          exact next I1 r1 (hm.tr f1)
      · have ed : aDr1 b k B = B := if_pos (Or.inl (by omega))
        rw [ed] at next
        refine q_icmp_ge (pc' := 16) (pt := 62) dX5_releaseDrained_13 rfl rfl (fun h9 => absurd h9 (Int32.not_le.mpr (nI_lt (by omega) (by omega)))) (fun _ => (q_aload_n (pc' := 17) dX5_releaseDrained_16 rfl rfl (q_getR (pc' := 20) dX5_releaseDrained_17 rfl fr_RX5_25 (okS hi hz (by decide) rfl) rfl (wS_5_7 hS) (sA_lt hi (by decide)) (q_iload_n (pc' := 21) dX5_releaseDrained_20 rfl rfl (q_zalde (pc' := 22) (k) dX5_releaseDrained_21 rfl (by first | exact ⟨by omega, rfl⟩ | exact okaS hi hz (by decide) rfl | assumption) (by (first | (simp only [nI_add, pk_mul]; done) | (simp only [nI_add, pk_mul]; exact nI_e (by omega)) | exact nI_e (by omega))) (by omega) (hln.2.2.1.trans (bI_n h5)) (q_ifb_eq (pc' := 25) (pt := 56) dX5_releaseDrained_22 rfl rfl (fun _ => (q_inc_1 (pc' := 59) dX5_releaseDrained_56 rfl (by decide) rfl (q_goto (pc' := 2) dX5_releaseDrained_59 rfl ?_))) (fun h9 => Bool.noConfusion (Eq.trans (Eq.symm (beq_eq_false_iff_ne.mpr c5)) h9))))))))
        exact next I0 hr hm
  refine q_iconst (pc' := 1) _ dX5_releaseDrained_0 rfl kk_iconst_0 (q_ist_1 (pc' := 2) dX5_releaseDrained_1 rfl (by decide) rfl ?_)
  exact loop (b 0 2 * 8) 0 I (by omega) h mS.rf
theorem rs_X5_passOne (hi : i < 21) (hS : mj_wS R i) (hB : mj_wB R 4) (hb : cB I b) (hk : bOK b) (h : cR I i b A) (hT : tI b A) (hD : dI A) (hL : A 14 4 + 8 < 2 ^ 31) : RsI w l yX5_passOne dd_X5_passOne [.ref (sA i 0)] (472, I, J, R) (fun x I' => (∃ n, x = nI n ∧ n ≤ 8 ∧ aTick b A 14 1 = A 14 1 + n ∧ aTick b A 14 4 = A 14 4 + n) ∧ cR I' i b (aTick b A) ∧ mS i I I') := by
  have hz : 50 + 20 * i ≤ 472 := by omega
  have h8 := hk.1.2
  have h32 := hk.2.1.2
  refine rt_intro2 (L := [some (.ref (sA i 0)), none, none, none]) ⟨by decide, rfl, (fun h => by cases h)⟩ (Nat.le_of_ble_eq_true rfl) rfl (fun Y Q hQ => ?_)
  have fin : ∀ I0 n B o3, cR I0 i b B → B = aTick1 b A → n ≤ 8 → B 14 1 = A 14 1 + n → B 14 4 = A 14 4 + n → (n = 0 → B = A) → mS i I I0 → Wq dd_X5_passOne (mj_mk w l 472 Y) Q 63 [some (.ref (sA i 0)), some (.int (nI n)), some (.int (nI (b 0 0))), o3] [] (472, I0, J, R) := by
    intro I0 n B o3 hr he hn h1 h4 h0 hm
    have hTB : tI b B := by rw [he]; exact tI_tick1 hk hT (b 0 0) (Nat.le_refl _)
    have et : aTick b A = mj_up (aDrain b B) 14 0 (B 14 0 + 1) := by
      unfold aTick
      rw [← he]
      have : aDrain b B 14 0 = B 14 0 := by rw [← drain_flat hk hTB, drs_14]
      rw [this]
    have e0 : I0 (sA i 1) 0 = nI (B 14 0) := hr.2.1.1.1
    refine q_aload_n (pc' := 64) dX5_passOne_63 rfl rfl (q_getR (pc' := 67) dX5_passOne_64 rfl fr_RX5_12 (okS hi hz (by decide) rfl) rfl (wS_5_2 hS) (sA_lt hi (by decide)) (q_dup_a (pc' := 68) dX5_passOne_67 rfl (q_getIe (pc' := 71) dX5_passOne_68 rfl fr_RX5_208 (okS hi hz (by decide) rfl) rfl e0 (q_iconst (pc' := 72) _ dX5_passOne_71 rfl kk_iconst_1 (q_iadd (pc' := 73) dX5_passOne_72 rfl ?_)))))
    refine q_top (nI_add _ 1) ?_
    have hr2 : cR (mj_up I0 (sA i 1) 0 (nI (B 14 0 + 1))) i b (mj_up B 14 0 (B 14 0 + 1)) := by
      have nn : ∀ e, e ≠ 1 → mj_up I0 (sA i 1) 0 (nI (B 14 0 + 1)) (sA i e) = I0 (sA i e) := fun e he => up_fI (sA_ne he)
      refine ⟨cRr_A (up_f (by decide)) (up_f (by decide)) (up_f (by decide)) (up_f (by decide)) (cRr_F (fun e q1 q2 => nn e (by omega)) hr.1), ⟨⟨?_, ?_⟩, fun d hd => ?_, fun p hp => ?_, fun k hk2 => ?_⟩, cRs_A (up_f (by decide)) (up_f (by decide)) (up_f (by decide)) (up_f (by decide)) (up_f (by decide)) (up_f (by decide)) (cRs_f (fun e q => nn e (by omega)) hr.2.2)⟩
      · rw [mj_up_eq, mj_up_eq]
      · rw [mj_up_ne2 (by decide), mj_up_ne2 (by decide)]; exact hr.2.1.1.2
      · rw [nn 2 (by decide), nn 3 (by decide), nn 4 (by decide)]; exact hr.2.1.2.1 d hd
      · rw [nn 5 (by decide)]; exact hr.2.1.2.2.1 p hp
      · rw [mj_up_ne2 (show (4:Nat) ≠ 0 by decide)] at hk2 ⊢
        rw [nn 6 (by decide)]; exact hr.2.1.2.2.2 k hk2
    refine q_putI (pc' := 76) dX5_passOne_73 rfl fl_RX5_208 (okS hi hz (by decide) rfl) rfl ?_
    generalize hI : mj_up I0 (sA i 1) 0 (nI (B 14 0 + 1)) = I1 at hr2 ⊢
    have f1 : mS i I0 I1 := by rw [← hI]; exact mS_up (by decide)
    have c1 : aTick b A 14 1 = A 14 1 + n := by
      rw [et, mj_up_ne2 (by decide), ← drain_flat hk hTB, drs_14]; exact h1
    have c4 : aTick b A 14 4 = A 14 4 + n := by
      rw [et, mj_up_ne2 (by decide), ← drain_flat hk hTB, drs_14]; exact h4
    by_cases hn0 : n = 0
    · have eB : aDrain b B = B := by
        have := h0 hn0
        rw [this]
        exact drain_same hk hT hD
      rw [eB] at et
      exact q_iload_n (pc' := 77) dX5_passOne_76 rfl rfl (q_if_le (pc' := 80) (pt := 84) dX5_passOne_77 rfl rfl (fun _ => (q_iload_n (pc' := 85) dX5_passOne_84 rfl rfl (q_iret dX5_passOne_85 rfl (hQ _ _ _ _ ⟨_, rfl, ⟨rfl, rfl⟩, ⟨n, rfl, hn, c1, c4⟩, (by rw [et]; exact hr2), hm.tr f1⟩)))) (fun h9 => absurd (nI_le (b := 0) (by omega) (by omega)) h9))
    · refine q_iload_n (pc' := 77) dX5_passOne_76 rfl rfl (q_if_le (pc' := 80) (pt := 84) dX5_passOne_77 rfl rfl (fun h9 => absurd h9 (Int32.not_le.mpr (nI_lt (a := 0) (by omega) (by omega)))) (fun _ => (q_aload_n (pc' := 81) dX5_passOne_80 rfl rfl (q_sVv (pc' := 84) dX5_passOne_81 rfl ml_RX5_211 yv_X5_releaseDrained (by decide) (rs_X5_releaseDrained hi hS hB (cB_S (hm.tr f1) hb) hk hr2 (tI_14 hTB)) (okS hi hz (by decide) rfl) rfl rfl (Nat.le_of_ble_eq_true rfl) (Nat.le_refl _) (fun I2 ⟨r2, f2⟩ => ?_)))))
      rw [drs_com, drain_flat hk hTB, ← et] at r2
      exact q_iload_n (pc' := 85) dX5_passOne_84 rfl rfl (q_iret dX5_passOne_85 rfl (hQ _ _ _ _ ⟨_, rfl, ⟨rfl, rfl⟩, ⟨n, rfl, hn, c1, c4⟩, r2, (hm.tr f1).tr f2⟩))
  have loop : ∀ m k I0 n o3, k + m = b 0 0 → cR I0 i b (itN (fun p A => if A 9 p = 1 then aHandle b A p else A) k A) → n ≤ k → itN (fun p A => if A 9 p = 1 then aHandle b A p else A) k A 14 1 = A 14 1 + n → itN (fun p A => if A 9 p = 1 then aHandle b A p else A) k A 14 4 = A 14 4 + n → (n = 0 → itN (fun p A => if A 9 p = 1 then aHandle b A p else A) k A = A) → mS i I I0 → Wq dd_X5_passOne (mj_mk w l 472 Y) Q 4 [some (.ref (sA i 0)), some (.int (nI n)), some (.int (nI k)), o3] [] (472, I0, J, R) := by
    intro m
    induction m with
    | zero =>
      intro k I0 n o3 hkm hr hn h1 h4 h0 hm
      have hkz : k = b 0 0 := by omega
      subst hkz
      have eb : I0 4 0 = nI (b 0 0) := cB_0 (cB_S hm hb)
      refine q_iload_n (pc' := 5) dX5_passOne_4 rfl rfl (q_aload_n (pc' := 6) dX5_passOne_5 rfl rfl (q_getR (pc' := 9) dX5_passOne_6 rfl fr_RX5_32 (okS hi hz (by decide) rfl) rfl (wS_5_0 hS) (by decide) (q_getIe (pc' := 12) dX5_passOne_9 rfl fr_RX5_88 (by first | assumption | exact ⟨by omega, rfl⟩) rfl eb (q_icmp_ge (pc' := 15) (pt := 63) dX5_passOne_12 rfl rfl (fun _ => ?_) (fun h9 => absurd (by (first | assumption | exact nI_le (by omega) (by omega) | exact nI_ge (by omega) (by omega) | exact nI_lt (by omega) (by omega) | exact nI_nlt (by omega) (by omega) | exact nI_ne (by omega) (by omega) (by omega) | exact nI_e (by omega) | decide)) h9)))))
      exact fin I0 n _ _ hr rfl (by omega) h1 h4 h0 hm
    | succ m ih =>
      intro k I0 n o3 hkm hr hn h1 h4 h0 hm
      have eb : I0 4 0 = nI (b 0 0) := cB_0 (cB_S hm hb)
      have hTB := tI_tick1 hk hT k (by omega)
      have next := fun I1 n1 o3 => ih (k + 1) I1 n1 o3 (by omega)
      have hstep : itN (fun p A => if A 9 p = 1 then aHandle b A p else A) (k + 1) A = (if itN (fun p A => if A 9 p = 1 then aHandle b A p else A) k A 9 k = 1 then aHandle b (itN (fun p A => if A 9 p = 1 then aHandle b A p else A) k A) k else itN (fun p A => if A 9 p = 1 then aHandle b A p else A) k A) := rfl
      rw [hstep] at next
      generalize itN (fun p A => if A 9 p = 1 then aHandle b A p else A) k A = B at hr h1 h4 h0 hTB next
      by_cases c9 : B 9 k = 1
      · rw [if_pos c9] at next
        cases ht : aTop b B k with
        | none =>
          have eh : aHandle b B k = B := by unfold aHandle; rw [ht]
          rw [eh] at next
          refine q_iload_n (pc' := 5) dX5_passOne_4 rfl rfl (q_aload_n (pc' := 6) dX5_passOne_5 rfl rfl (q_getR (pc' := 9) dX5_passOne_6 rfl fr_RX5_32 (okS hi hz (by decide) rfl) rfl (wS_5_0 hS) (by decide) (q_getIe (pc' := 12) dX5_passOne_9 rfl fr_RX5_88 (by first | assumption | exact ⟨by omega, rfl⟩) rfl eb (q_icmp_ge (pc' := 15) (pt := 63) dX5_passOne_12 rfl rfl (fun h9 => absurd h9 (by (first | assumption | exact nI_le (by omega) (by omega) | exact nI_ge (by omega) (by omega) | exact nI_lt (by omega) (by omega) | exact nI_nlt (by omega) (by omega) | exact nI_ne (by omega) (by omega) (by omega) | exact nI_e (by omega) | decide))) (fun _ => (q_aload_n (pc' := 16) dX5_passOne_15 rfl rfl (q_getR (pc' := 19) dX5_passOne_16 rfl fr_RX5_41 (okS hi hz (by decide) rfl) rfl (wS_5_1 hS) (sA_lt hi (by decide)) (q_iload_n (pc' := 20) dX5_passOne_19 rfl rfl (q_cVi (pc' := 23) dX5_passOne_20 rfl ml_RX5_153 yv_X4_isOnline (by decide) (rn_X4_isOnline hi hk hr.1 (by omega)) (okS hi hz (by decide) rfl) rfl rfl (Nat.le_of_ble_eq_true rfl) (Nat.le_refl _) (q_ifb_eq (pc' := 26) (pt := 37) dX5_passOne_23 rfl rfl (fun h9 => Bool.noConfusion (Eq.trans (Eq.symm (beq_iff_eq.mpr c9)) h9)) (fun _ => (q_aload_n (pc' := 27) dX5_passOne_26 rfl rfl (q_getR (pc' := 30) dX5_passOne_27 rfl fr_RX5_41 (okS hi hz (by decide) rfl) rfl (wS_5_1 hS) (sA_lt hi (by decide)) (q_iload_n (pc' := 31) dX5_passOne_30 rfl rfl (q_cVi (pc' := 34) dX5_passOne_31 rfl ml_RX5_202 yv_X4_greatestPending (by decide) (rn_X4_greatestPending hi hS (cB_S hm hb) hk hr.1 (by omega)) (okS hi hz (by decide) rfl) rfl rfl (Nat.le_of_ble_eq_true rfl) (Nat.le_refl _) ?_)))))))))))))))
          refine q_goto (pc' := 38) dX5_passOne_34 rfl (q_ist_3 (pc' := 39) dX5_passOne_38 rfl (by decide) rfl (q_iload_n (pc' := 40) dX5_passOne_39 rfl rfl (q_iconst (pc' := 41) _ dX5_passOne_40 rfl kk_iconst_m1 (q_icmp_eq (pc' := 44) (pt := 57) dX5_passOne_41 rfl rfl (fun _ => (q_inc_2 (pc' := 60) dX5_passOne_57 rfl (by decide) rfl (q_goto (pc' := 4) dX5_passOne_60 rfl ?_))) (fun h9 => absurd (by rw [ht]; rfl) h9)))))
          exact next I0 n _ hr (by omega) h1 h4 h0 hm
        | some v =>
          have hv := top_pend ht
          have eh : aHandle b B k = aHand B k (32 * k + v) := by unfold aHandle; rw [ht]
          rw [eh] at next
          have hpl : 32 * k + v < 256 := by omega
          have ed : (32 * k + v) / 32 = k := by omega
          have em : (32 * k + v) % 32 = v := by omega
          obtain ⟨g1, g2, g3⟩ := hTB.2.2.1 _ hpl hv.2
          refine q_iload_n (pc' := 5) dX5_passOne_4 rfl rfl (q_aload_n (pc' := 6) dX5_passOne_5 rfl rfl (q_getR (pc' := 9) dX5_passOne_6 rfl fr_RX5_32 (okS hi hz (by decide) rfl) rfl (wS_5_0 hS) (by decide) (q_getIe (pc' := 12) dX5_passOne_9 rfl fr_RX5_88 (by first | assumption | exact ⟨by omega, rfl⟩) rfl eb (q_icmp_ge (pc' := 15) (pt := 63) dX5_passOne_12 rfl rfl (fun h9 => absurd h9 (by (first | assumption | exact nI_le (by omega) (by omega) | exact nI_ge (by omega) (by omega) | exact nI_lt (by omega) (by omega) | exact nI_nlt (by omega) (by omega) | exact nI_ne (by omega) (by omega) (by omega) | exact nI_e (by omega) | decide))) (fun _ => (q_aload_n (pc' := 16) dX5_passOne_15 rfl rfl (q_getR (pc' := 19) dX5_passOne_16 rfl fr_RX5_41 (okS hi hz (by decide) rfl) rfl (wS_5_1 hS) (sA_lt hi (by decide)) (q_iload_n (pc' := 20) dX5_passOne_19 rfl rfl (q_cVi (pc' := 23) dX5_passOne_20 rfl ml_RX5_153 yv_X4_isOnline (by decide) (rn_X4_isOnline hi hk hr.1 (by omega)) (okS hi hz (by decide) rfl) rfl rfl (Nat.le_of_ble_eq_true rfl) (Nat.le_refl _) (q_ifb_eq (pc' := 26) (pt := 37) dX5_passOne_23 rfl rfl (fun h9 => Bool.noConfusion (Eq.trans (Eq.symm (beq_iff_eq.mpr c9)) h9)) (fun _ => (q_aload_n (pc' := 27) dX5_passOne_26 rfl rfl (q_getR (pc' := 30) dX5_passOne_27 rfl fr_RX5_41 (okS hi hz (by decide) rfl) rfl (wS_5_1 hS) (sA_lt hi (by decide)) (q_iload_n (pc' := 31) dX5_passOne_30 rfl rfl (q_cVi (pc' := 34) dX5_passOne_31 rfl ml_RX5_202 yv_X4_greatestPending (by decide) (rn_X4_greatestPending hi hS (cB_S hm hb) hk hr.1 (by omega)) (okS hi hz (by decide) rfl) rfl rfl (Nat.le_of_ble_eq_true rfl) (Nat.le_refl _) ?_)))))))))))))))
          refine q_goto (pc' := 38) dX5_passOne_34 rfl (q_ist_3 (pc' := 39) dX5_passOne_38 rfl (by decide) rfl ?_)
          rw [ht]
          refine q_iload_n (pc' := 40) dX5_passOne_39 rfl rfl (q_iconst (pc' := 41) _ dX5_passOne_40 rfl kk_iconst_m1 (q_icmp_eq (pc' := 44) (pt := 57) dX5_passOne_41 rfl rfl (fun h9 => absurd h9 (nI_m1 (by omega))) (fun _ => (q_aload_n (pc' := 45) dX5_passOne_44 rfl rfl (q_iload_n (pc' := 46) dX5_passOne_45 rfl rfl (q_bipush (pc' := 48) _ dX5_passOne_46 rfl kk_bipush_32 (q_imul (pc' := 49) dX5_passOne_48 rfl (q_iload_n (pc' := 50) dX5_passOne_49 rfl rfl (q_iadd (pc' := 51) dX5_passOne_50 rfl ?_)))))))))
          refine q_top (y := nI (32 * k + v)) (by show nI k * nI 32 + nI v = _; rw [pk_mul, nI_add, Nat.mul_comm k 32]) ?_
          refine q_sVv (pc' := 54) dX5_passOne_51 rfl ml_RX5_205 yv_X5_deliver (by decide) (rs_X5_deliver hi hS hk hr hTB.1 hpl (by rw [em]; exact hv.1) (hTB.2.1.1 _ hpl hv.2) g3 (by omega)) (okS hi hz (by decide) rfl) rfl rfl (Nat.le_of_ble_eq_true rfl) (Nat.le_refl _) (fun I1 ⟨r1, f1⟩ => ?_)
          rw [ed] at r1
          refine q_inc_1 (pc' := 57) dX5_passOne_54 rfl (by decide) rfl (q_inc_2 (pc' := 60) dX5_passOne_57 rfl (by decide) rfl (q_goto (pc' := 4) dX5_passOne_60 rfl ?_))
          refine next I1 (n + 1) _ r1 (by omega) ?_ ?_ (fun q => by omega) (hm.tr f1)
          · rw [hand_14, if_neg (by decide), if_pos rfl]; omega
          · rw [hand_14, if_pos rfl]; omega
      · rw [if_neg c9] at next
        refine q_iload_n (pc' := 5) dX5_passOne_4 rfl rfl (q_aload_n (pc' := 6) dX5_passOne_5 rfl rfl (q_getR (pc' := 9) dX5_passOne_6 rfl fr_RX5_32 (okS hi hz (by decide) rfl) rfl (wS_5_0 hS) (by decide) (q_getIe (pc' := 12) dX5_passOne_9 rfl fr_RX5_88 (by first | assumption | exact ⟨by omega, rfl⟩) rfl eb (q_icmp_ge (pc' := 15) (pt := 63) dX5_passOne_12 rfl rfl (fun h9 => absurd h9 (by (first | assumption | exact nI_le (by omega) (by omega) | exact nI_ge (by omega) (by omega) | exact nI_lt (by omega) (by omega) | exact nI_nlt (by omega) (by omega) | exact nI_ne (by omega) (by omega) (by omega) | exact nI_e (by omega) | decide))) (fun _ => (q_aload_n (pc' := 16) dX5_passOne_15 rfl rfl (q_getR (pc' := 19) dX5_passOne_16 rfl fr_RX5_41 (okS hi hz (by decide) rfl) rfl (wS_5_1 hS) (sA_lt hi (by decide)) (q_iload_n (pc' := 20) dX5_passOne_19 rfl rfl (q_cVi (pc' := 23) dX5_passOne_20 rfl ml_RX5_153 yv_X4_isOnline (by decide) (rn_X4_isOnline hi hk hr.1 (by omega)) (okS hi hz (by decide) rfl) rfl rfl (Nat.le_of_ble_eq_true rfl) (Nat.le_refl _) (q_ifb_eq (pc' := 26) (pt := 37) dX5_passOne_23 rfl rfl (fun _ => (q_iconst (pc' := 38) _ dX5_passOne_37 rfl kk_iconst_m1 (q_ist_3 (pc' := 39) dX5_passOne_38 rfl (by decide) rfl (q_iload_n (pc' := 40) dX5_passOne_39 rfl rfl (q_iconst (pc' := 41) _ dX5_passOne_40 rfl kk_iconst_m1 ?_))))) (fun h9 => Bool.noConfusion (Eq.trans (Eq.symm (beq_eq_false_iff_ne.mpr c9)) h9))))))))))))
        refine q_icmp_eq (pc' := 44) (pt := 57) dX5_passOne_41 rfl rfl (fun _ => (q_inc_2 (pc' := 60) dX5_passOne_57 rfl (by decide) rfl (q_goto (pc' := 4) dX5_passOne_60 rfl ?_))) (fun h9 => absurd (rfl) h9)
        exact next I0 n _ hr (by omega) h1 h4 h0 hm
  refine q_iconst (pc' := 1) _ dX5_passOne_0 rfl kk_iconst_0 (q_ist_1 (pc' := 2) dX5_passOne_1 rfl (by decide) rfl (q_iconst (pc' := 3) _ dX5_passOne_2 rfl kk_iconst_0 (q_ist_2 (pc' := 4) dX5_passOne_3 rfl (by decide) rfl ?_)))
  exact loop (b 0 0) 0 I 0 _ (by omega) h (Nat.le_refl _) rfl rfl (fun _ => rfl) mS.rf
theorem tI_ticks (hk : bOK b) (hT : tI b A) (hD : dI A) (m : Nat) : tI b (aTicks b m A) ∧ dI (aTicks b m A) := itN_P (P := fun B => tI b B ∧ dI B) (n := m) ⟨hT, hD⟩ (fun k B _ hB => tI_tick hk hB.1) m (Nat.le_refl _)
theorem rs_X5_pass {m : Nat} (hi : i < 21) (hS : mj_wS R i) (hB : mj_wB R 4) (hb : cB I b) (hk : bOK b) (h : cR I i b A) (hT : tI b A) (hD : dI A) (hm : m ≤ 100) (hL : A 14 4 + 8 * m < 2 ^ 31) : RsI w l yX5_pass dd_X5_pass [.ref (sA i 0), .int (nI m)] (472, I, J, R) (fun x I' => (∃ n, x = nI n ∧ n ≤ 8 * m ∧ aTicks b m A 14 1 = A 14 1 + n ∧ aTicks b m A 14 4 = A 14 4 + n) ∧ cR I' i b (aTicks b m A) ∧ mS i I I') := by
  have hz : 50 + 20 * i ≤ 472 := by omega
  refine rt_intro2 (L := [some (.ref (sA i 0)), some (.int (nI m)), none, none]) ⟨by decide, rfl, (fun h => by cases h)⟩ (Nat.le_of_ble_eq_true rfl) rfl (fun Y Q hQ => ?_)
  have loop : ∀ x k I0 n, k + x = m → cR I0 i b (aTicks b k A) → n ≤ 8 * k → aTicks b k A 14 1 = A 14 1 + n → aTicks b k A 14 4 = A 14 4 + n → mS i I I0 → Wq dd_X5_pass (mj_mk w l 472 Y) Q 4 [some (.ref (sA i 0)), some (.int (nI m)), some (.int (nI n)), some (.int (nI k))] [] (472, I0, J, R) := by
    intro x
    induction x with
    | zero =>
      intro k I0 n hkm hr hn h1 h4 hf
      have hkz : k = m := by omega
      subst hkz
      exact q_iload_n (pc' := 5) dX5_pass_4 rfl rfl (q_iload_n (pc' := 6) dX5_pass_5 rfl rfl (q_icmp_ge (pc' := 9) (pt := 22) dX5_pass_6 rfl rfl (fun _ => (q_iload_n (pc' := 23) dX5_pass_22 rfl rfl (q_iret dX5_pass_23 rfl (hQ _ _ _ _ ⟨_, rfl, ⟨rfl, rfl⟩, ⟨n, rfl, hn, h1, h4⟩, hr, hf⟩)))) (fun h9 => absurd (by (first | assumption | exact nI_le (by omega) (by omega) | exact nI_ge (by omega) (by omega) | exact nI_lt (by omega) (by omega) | exact nI_nlt (by omega) (by omega) | exact nI_ne (by omega) (by omega) (by omega) | exact nI_e (by omega) | decide)) h9)))
    | succ x ih =>
      intro k I0 n hkm hr hn h1 h4 hf
      have ht := tI_ticks hk hT hD k
      refine q_iload_n (pc' := 5) dX5_pass_4 rfl rfl (q_iload_n (pc' := 6) dX5_pass_5 rfl rfl (q_icmp_ge (pc' := 9) (pt := 22) dX5_pass_6 rfl rfl (fun h9 => absurd h9 (by (first | assumption | exact nI_le (by omega) (by omega) | exact nI_ge (by omega) (by omega) | exact nI_lt (by omega) (by omega) | exact nI_nlt (by omega) (by omega) | exact nI_ne (by omega) (by omega) (by omega) | exact nI_e (by omega) | decide))) (fun _ => (q_iload_n (pc' := 10) dX5_pass_9 rfl rfl (q_aload_n (pc' := 11) dX5_pass_10 rfl rfl (q_sVi (pc' := 14) dX5_pass_11 rfl ml_RX5_199 yv_X5_passOne (by decide) (rs_X5_passOne hi hS hB (cB_S hf hb) hk hr ht.1 ht.2 (by omega)) (okS hi hz (by decide) rfl) rfl rfl (Nat.le_of_ble_eq_true rfl) (Nat.le_refl _) (fun x1 I1 ⟨⟨n1, r1, r2, r3, r4⟩, h2, f2⟩ => ?_)))))))
      rw [r1]
      refine q_iadd dX5_pass_14 rfl ?_
      refine q_top (nI_add _ _) ?_
      refine q_ist_2 (pc' := 16) dX5_pass_15 rfl (by decide) rfl (q_inc_3 (pc' := 19) dX5_pass_16 rfl (by decide) rfl (q_goto (pc' := 4) dX5_pass_19 rfl ?_))
      have s1 : aTicks b (k + 1) A = aTick b (aTicks b k A) := rfl
      exact ih (k + 1) I1 (n + n1) (by omega) h2 (by omega) (by rw [s1]; omega) (by rw [s1]; omega) (hf.tr f2)
  refine q_iconst (pc' := 1) _ dX5_pass_0 rfl kk_iconst_0 (q_ist_2 (pc' := 2) dX5_pass_1 rfl (by decide) rfl (q_iconst (pc' := 3) _ dX5_pass_2 rfl kk_iconst_0 (q_ist_3 (pc' := 4) dX5_pass_3 rfl (by decide) rfl ?_)))
  exact loop m 0 I 0 (by omega) h (Nat.le_refl _) rfl rfl mS.rf
end ST7
