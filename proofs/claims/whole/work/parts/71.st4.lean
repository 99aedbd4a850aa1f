/-! ===== the class: START of what is DEALT ===== -/
section ST4
variable {w : mj_Wd} {l : Launch} {I : mj_M} {J : mj_J} {R : mj_R} {b A : St} {i : Nat}
theorem rs_X5_beginDealt {d : Nat} (hi : i < 21) (hS : mj_wS R i) (hB : mj_wB R 4) (hb : cB I b) (hk : bOK b) (h : cR I i b A) (hd : d < b 0 2) : RsI w l yX5_beginDealt dd_X5_beginDealt [.ref (sA i 0), .int (nI d)] (472, I, J, R) (fun x I' => (match aDl b A (b 3 d) (b 2 d) with
    | none => x = nI 1 ∧ cR I' i b A
    | some pl => if aFree b A - b 2 d < aProm b A - (if A 8 d = 1 then b 2 d else 0) then x = nI 2 ∧ cR I' i b A else x = nI 0 ∧ cR I' i b (itN (aPutD d pl) (b 2 d) A)) ∧ mS i I I') := by
  have hz : 50 + 20 * i ≤ 472 := by omega
  have h10 := hk.2.2.1
  have hs := hk.2.2.2 d hd
  have h32 := hk.2.1.2
  have hc8 := hk.1.2
  have hf := aFree_le hk (A := A)
  have hp := aProm_le hk (A := A)
  have eb := hb.2 d hd
  refine rt_intro2 (L := [some (.ref (sA i 0)), some (.int (nI d)), none, none, none, none]) ⟨by decide, rfl, (fun h => by cases h)⟩ (Nat.le_of_ble_eq_true rfl) rfl (fun Y Q hQ => ?_)
  cases hdl : aDl b A (b 3 d) (b 2 d) with
  | none =>
    rw [hdl] at hQ
    refine q_aload_n (pc' := 1) dX5_beginDealt_0 rfl rfl (q_getR (pc' := 4) dX5_beginDealt_1 rfl fr_RX5_32 (okS hi hz (by decide) rfl) rfl (wS_5_0 hS) (by decide) (q_getR (pc' := 7) dX5_beginDealt_4 rfl fr_RX5_85 (by first | assumption | exact ⟨by omega, rfl⟩) rfl (wB_8 hB) (by omega) (q_iload_n (pc' := 8) dX5_beginDealt_7 rfl rfl (q_ialde (pc' := 9) (d) dX5_beginDealt_8 rfl (by first | exact ⟨by omega, rfl⟩ | exact okaS hi hz (by decide) rfl | assumption) (by (first | (simp only [nI_add, pk_mul]; done) | (simp only [nI_add, pk_mul]; exact nI_e (by omega)) | exact nI_e (by omega))) (by omega) eb.2.1 (q_ist_2 (pc' := 10) dX5_beginDealt_9 rfl (by decide) rfl (q_aload_n (pc' := 11) dX5_beginDealt_10 rfl rfl (q_getR (pc' := 14) dX5_beginDealt_11 rfl fr_RX5_41 (okS hi hz (by decide) rfl) rfl (wS_5_1 hS) (sA_lt hi (by decide)) (q_aload_n (pc' := 15) dX5_beginDealt_14 rfl rfl (q_getR (pc' := 18) dX5_beginDealt_15 rfl fr_RX5_32 (okS hi hz (by decide) rfl) rfl (wS_5_0 hS) (by decide) (q_getR (pc' := 21) dX5_beginDealt_18 rfl fr_RX5_130 (by first | assumption | exact ⟨by omega, rfl⟩) rfl (wB_9 hB) (by omega) (q_iload_n (pc' := 22) dX5_beginDealt_21 rfl rfl (q_ialde (pc' := 23) (d) dX5_beginDealt_22 rfl (by first | exact ⟨by omega, rfl⟩ | exact okaS hi hz (by decide) rfl | assumption) (by (first | (simp only [nI_add, pk_mul]; done) | (simp only [nI_add, pk_mul]; exact nI_e (by omega)) | exact nI_e (by omega))) (by omega) eb.2.2 (q_iload_n (pc' := 24) dX5_beginDealt_23 rfl rfl ?_)))))))))))))
    exact q_cVi (pc' := 27) dX5_beginDealt_24 rfl ml_RX5_133 yv_X4_deal (by decide) (rn_X4_deal hi hS hb hk h.1 (by omega) hs.2.1) (okS hi hz (by decide) rfl) rfl rfl (Nat.le_of_ble_eq_true rfl) (Nat.le_refl _) (q_ist_3 (pc' := 28) dX5_beginDealt_27 rfl (by decide) rfl (q_iload_n (pc' := 29) dX5_beginDealt_28 rfl rfl (q_iconst (pc' := 30) _ dX5_beginDealt_29 rfl kk_iconst_m1 (q_icmp_ne (pc' := 33) (pt := 35) dX5_beginDealt_30 rfl rfl (fun h9 => absurd (by rw [hdl]; rfl) h9) (fun _ => (q_iconst (pc' := 34) _ dX5_beginDealt_33 rfl kk_iconst_1 (q_iret dX5_beginDealt_34 rfl (hQ _ _ _ _ ⟨_, rfl, ⟨rfl, rfl⟩, ⟨rfl, h⟩, mS.rf⟩))))))))
  | some pl =>
    obtain ⟨p, q, g1, g2, g3, g4, g5, g6, g7⟩ := dl_some hk hs.2.1 hdl
    rw [hdl] at hQ
    have hfn : b 2 d ≤ aFree b A := by
      have h1 := free_n (d := d) hk g4 g6 g5 (fun l hl => by rw [← g3]; exact g7 l hl) (b 2 d) (Nat.le_refl _)
      omega
    have hown : (if A 8 d = 1 then b 2 d else 0) ≤ aProm b A := by
      have := prom_d (A := A) hd
      omega
    have p50 : ∀ own, (if A 8 d = 1 then b 2 d else 0) = own → Wq dd_X5_beginDealt (mj_mk w l 472 Y) Q 48 [some (.ref (sA i 0)), some (.int (nI d)), some (.int (nI (b 2 d))), some (.int (nI pl)), none, none] [.int (nI own)] (472, I, J, R) := by
      intro own ho
      rw [ho] at hQ hown
      refine q_ist_4 (pc' := 50) dX5_beginDealt_48 rfl (by decide) rfl (q_aload_n (pc' := 51) dX5_beginDealt_50 rfl rfl (q_getR (pc' := 54) dX5_beginDealt_51 rfl fr_RX5_41 (okS hi hz (by decide) rfl) rfl (wS_5_1 hS) (sA_lt hi (by decide)) (q_cVi (pc' := 57) dX5_beginDealt_54 rfl ml_RX5_137 yv_X4_freeOnline (by decide) (rn_X4_freeOnline hi hS hb hk h.1) (okS hi hz (by decide) rfl) rfl rfl (Nat.le_of_ble_eq_true rfl) (Nat.le_refl _) (q_iload_n (pc' := 58) dX5_beginDealt_57 rfl rfl ?_))))
      refine q_isub dX5_beginDealt_58 rfl ?_
      refine q_top (nI_sb hfn) ?_
      refine q_aload_n (pc' := 60) dX5_beginDealt_59 rfl rfl (q_cVi (pc' := 63) dX5_beginDealt_60 rfl ml_RX5_141 yv_X5_promisedVectors (by decide) (rn_X5_promisedVectors hi hS hB hb hk h.2.2) (okS hi hz (by decide) rfl) rfl rfl (Nat.le_of_ble_eq_true rfl) (Nat.le_refl _) (q_iload (pc' := 65) dX5_beginDealt_63 rfl rfl ?_))
      refine q_isub dX5_beginDealt_65 rfl ?_
      refine q_top (nI_sb hown) ?_
      by_cases hc : aFree b A - b 2 d < aProm b A - own
      · exact q_icmp_ge (pc' := 69) (pt := 71) dX5_beginDealt_66 rfl rfl (fun h9 => absurd h9 (Int32.not_le.mpr (nI_lt hc (by omega)))) (fun _ => (q_iconst (pc' := 70) _ dX5_beginDealt_69 rfl kk_iconst_2 (q_iret dX5_beginDealt_70 rfl (hQ _ _ _ _ ⟨_, rfl, ⟨rfl, rfl⟩, (by show if aFree b A - b 2 d < aProm b A - own then _ else _; rw [if_pos hc]; exact ⟨rfl, h⟩), mS.rf⟩))))
      · refine q_icmp_ge (pc' := 69) (pt := 71) dX5_beginDealt_66 rfl rfl (fun _ => (q_iconst (pc' := 72) _ dX5_beginDealt_71 rfl kk_iconst_0 (q_ist_5 (pc' := 74) dX5_beginDealt_72 rfl (by decide) rfl ?_))) (fun h9 => absurd (nI_le (by omega) (by omega)) h9)
        have loop : ∀ m k I0, k + m = b 2 d → cR I0 i b (itN (aPutD d pl) k A) → mS i I I0 → Wq dd_X5_beginDealt (mj_mk w l 472 Y) Q 74 [some (.ref (sA i 0)), some (.int (nI d)), some (.int (nI (b 2 d))), some (.int (nI pl)), some (.int (nI own)), some (.int (nI k))] [] (472, I0, J, R) := by
          intro m
          induction m with
          | zero =>
            intro k I0 hkm hr hm
            have hkz : k = b 2 d := by omega
            subst hkz
            exact q_iload (pc' := 76) dX5_beginDealt_74 rfl rfl (q_iload_n (pc' := 77) dX5_beginDealt_76 rfl rfl (q_icmp_ge (pc' := 80) (pt := 101) dX5_beginDealt_77 rfl rfl (fun _ => (q_iconst (pc' := 102) _ dX5_beginDealt_101 rfl kk_iconst_0 (q_iret dX5_beginDealt_102 rfl (hQ _ _ _ _ ⟨_, rfl, ⟨rfl, rfl⟩, (by show if aFree b A - b 2 d < aProm b A - own then _ else _; rw [if_neg hc]; exact ⟨rfl, hr⟩), hm⟩)))) (fun h9 => absurd (by (first | assumption | exact nI_le (by omega) (by omega) | exact nI_ge (by omega) (by omega) | exact nI_lt (by omega) (by omega) | exact nI_nlt (by omega) (by omega) | exact nI_ne (by omega) (by omega) (by omega) | exact nI_e (by omega) | decide)) h9)))
          | succ m ih =>
            intro k I0 hkm hr hm
            refine q_iload (pc' := 76) dX5_beginDealt_74 rfl rfl (q_iload_n (pc' := 77) dX5_beginDealt_76 rfl rfl (q_icmp_ge (pc' := 80) (pt := 101) dX5_beginDealt_77 rfl rfl (fun h9 => absurd h9 (by (first | assumption | exact nI_le (by omega) (by omega) | exact nI_ge (by omega) (by omega) | exact nI_lt (by omega) (by omega) | exact nI_nlt (by omega) (by omega) | exact nI_ne (by omega) (by omega) (by omega) | exact nI_e (by omega) | decide))) (fun _ => (q_aload_n (pc' := 81) dX5_beginDealt_80 rfl rfl (q_iload_n (pc' := 82) dX5_beginDealt_81 rfl rfl (q_bipush (pc' := 84) _ dX5_beginDealt_82 rfl kk_bipush_8 (q_imul (pc' := 85) dX5_beginDealt_84 rfl (q_iload (pc' := 87) dX5_beginDealt_85 rfl rfl (q_iadd (pc' := 88) dX5_beginDealt_87 rfl ?_)))))))))
            refine q_top (y := nI (8 * d + k)) (by rw [pk_mul, nI_add, Nat.mul_comm d 8]) ?_
            refine q_iload_n (pc' := 89) dX5_beginDealt_88 rfl rfl (q_iload (pc' := 91) dX5_beginDealt_89 rfl rfl (q_iadd (pc' := 92) dX5_beginDealt_91 rfl ?_))
            refine q_top (nI_add _ _) ?_
            refine q_sVv (pc' := 95) dX5_beginDealt_92 rfl ml_RX5_144 yv_X5_hold (by decide) (rs_X5_hold hi hS hk hr (by omega) (show pl + k < 256 by omega) (by rw [g3, show (32 * p + b 2 d * q + k) % 32 = b 2 d * q + k by omega]; omega)) (okS hi hz (by decide) rfl) rfl rfl (Nat.le_of_ble_eq_true rfl) (Nat.le_refl _) (fun I1 ⟨r1, f1⟩ => ?_)
            refine q_inc_5 (pc' := 98) dX5_beginDealt_95 rfl (by decide) rfl (q_goto (pc' := 74) dX5_beginDealt_98 rfl ?_)
            exact ih (k + 1) I1 (by omega) r1 (hm.tr f1)
        exact loop (b 2 d) 0 I (by omega) h mS.rf
    by_cases c8 : A 8 d = 1
    · refine q_aload_n (pc' := 1) dX5_beginDealt_0 rfl rfl (q_getR (pc' := 4) dX5_beginDealt_1 rfl fr_RX5_32 (okS hi hz (by decide) rfl) rfl (wS_5_0 hS) (by decide) (q_getR (pc' := 7) dX5_beginDealt_4 rfl fr_RX5_85 (by first | assumption | exact ⟨by omega, rfl⟩) rfl (wB_8 hB) (by omega) (q_iload_n (pc' := 8) dX5_beginDealt_7 rfl rfl (q_ialde (pc' := 9) (d) dX5_beginDealt_8 rfl (by first | exact ⟨by omega, rfl⟩ | exact okaS hi hz (by decide) rfl | assumption) (by (first | (simp only [nI_add, pk_mul]; done) | (simp only [nI_add, pk_mul]; exact nI_e (by omega)) | exact nI_e (by omega))) (by omega) eb.2.1 (q_ist_2 (pc' := 10) dX5_beginDealt_9 rfl (by decide) rfl (q_aload_n (pc' := 11) dX5_beginDealt_10 rfl rfl (q_getR (pc' := 14) dX5_beginDealt_11 rfl fr_RX5_41 (okS hi hz (by decide) rfl) rfl (wS_5_1 hS) (sA_lt hi (by decide)) (q_aload_n (pc' := 15) dX5_beginDealt_14 rfl rfl (q_getR (pc' := 18) dX5_beginDealt_15 rfl fr_RX5_32 (okS hi hz (by decide) rfl) rfl (wS_5_0 hS) (by decide) (q_getR (pc' := 21) dX5_beginDealt_18 rfl fr_RX5_130 (by first | assumption | exact ⟨by omega, rfl⟩) rfl (wB_9 hB) (by omega) (q_iload_n (pc' := 22) dX5_beginDealt_21 rfl rfl (q_ialde (pc' := 23) (d) dX5_beginDealt_22 rfl (by first | exact ⟨by omega, rfl⟩ | exact okaS hi hz (by decide) rfl | assumption) (by (first | (simp only [nI_add, pk_mul]; done) | (simp only [nI_add, pk_mul]; exact nI_e (by omega)) | exact nI_e (by omega))) (by omega) eb.2.2 (q_iload_n (pc' := 24) dX5_beginDealt_23 rfl rfl ?_)))))))))))))
      refine q_cVi (pc' := 27) dX5_beginDealt_24 rfl ml_RX5_133 yv_X4_deal (by decide) (rn_X4_deal hi hS hb hk h.1 (by omega) hs.2.1) (okS hi hz (by decide) rfl) rfl rfl (Nat.le_of_ble_eq_true rfl) (Nat.le_refl _) (q_ist_3 (pc' := 28) dX5_beginDealt_27 rfl (by decide) rfl ?_)
      rw [hdl]
      refine q_iload_n (pc' := 29) dX5_beginDealt_28 rfl rfl (q_iconst (pc' := 30) _ dX5_beginDealt_29 rfl kk_iconst_m1 (q_icmp_ne (pc' := 33) (pt := 35) dX5_beginDealt_30 rfl rfl (fun _ => (q_aload_n (pc' := 36) dX5_beginDealt_35 rfl rfl (q_iload_n (pc' := 37) dX5_beginDealt_36 rfl rfl (q_cVi (pc' := 40) dX5_beginDealt_37 rfl ml_RX5_82 yv_X5_isPromised (by decide) (rn_X5_isPromised hi h.2.2 (by omega)) (okS hi hz (by decide) rfl) rfl rfl (Nat.le_of_ble_eq_true rfl) (Nat.le_refl _) (q_ifb_eq (pc' := 43) (pt := 47) dX5_beginDealt_40 rfl rfl (fun h9 => Bool.noConfusion (Eq.trans (Eq.symm (beq_iff_eq.mpr c8)) h9)) (fun _ => (q_iload_n (pc' := 44) dX5_beginDealt_43 rfl rfl (q_goto (pc' := 48) dX5_beginDealt_44 rfl ?_)))))))) (fun h9 => absurd h9 (nI_m1 (by omega)))))
      exact p50 _ (if_pos c8)
    · refine q_aload_n (pc' := 1) dX5_beginDealt_0 rfl rfl (q_getR (pc' := 4) dX5_beginDealt_1 rfl fr_RX5_32 (okS hi hz (by decide) rfl) rfl (wS_5_0 hS) (by decide) (q_getR (pc' := 7) dX5_beginDealt_4 rfl fr_RX5_85 (by first | assumption | exact ⟨by omega, rfl⟩) rfl (wB_8 hB) (by omega) (q_iload_n (pc' := 8) dX5_beginDealt_7 rfl rfl (q_ialde (pc' := 9) (d) dX5_beginDealt_8 rfl (by first | exact ⟨by omega, rfl⟩ | exact okaS hi hz (by decide) rfl | assumption) (by (first | (simp only [nI_add, pk_mul]; done) | (simp only [nI_add, pk_mul]; exact nI_e (by omega)) | exact nI_e (by omega))) (by omega) eb.2.1 (q_ist_2 (pc' := 10) dX5_beginDealt_9 rfl (by decide) rfl (q_aload_n (pc' := 11) dX5_beginDealt_10 rfl rfl (q_getR (pc' := 14) dX5_beginDealt_11 rfl fr_RX5_41 (okS hi hz (by decide) rfl) rfl (wS_5_1 hS) (sA_lt hi (by decide)) (q_aload_n (pc' := 15) dX5_beginDealt_14 rfl rfl (q_getR (pc' := 18) dX5_beginDealt_15 rfl fr_RX5_32 (okS hi hz (by decide) rfl) rfl (wS_5_0 hS) (by decide) (q_getR (pc' := 21) dX5_beginDealt_18 rfl fr_RX5_130 (by first | assumption | exact ⟨by omega, rfl⟩) rfl (wB_9 hB) (by omega) (q_iload_n (pc' := 22) dX5_beginDealt_21 rfl rfl (q_ialde (pc' := 23) (d) dX5_beginDealt_22 rfl (by first | exact ⟨by omega, rfl⟩ | exact okaS hi hz (by decide) rfl | assumption) (by (first | (simp only [nI_add, pk_mul]; done) | (simp only [nI_add, pk_mul]; exact nI_e (by omega)) | exact nI_e (by omega))) (by omega) eb.2.2 (q_iload_n (pc' := 24) dX5_beginDealt_23 rfl rfl ?_)))))))))))))
      refine q_cVi (pc' := 27) dX5_beginDealt_24 rfl ml_RX5_133 yv_X4_deal (by decide) (rn_X4_deal hi hS hb hk h.1 (by omega) hs.2.1) (okS hi hz (by decide) rfl) rfl rfl (Nat.le_of_ble_eq_true rfl) (Nat.le_refl _) (q_ist_3 (pc' := 28) dX5_beginDealt_27 rfl (by decide) rfl ?_)
      rw [hdl]
      refine q_iload_n (pc' := 29) dX5_beginDealt_28 rfl rfl (q_iconst (pc' := 30) _ dX5_beginDealt_29 rfl kk_iconst_m1 (q_icmp_ne (pc' := 33) (pt := 35) dX5_beginDealt_30 rfl rfl (fun _ => (q_aload_n (pc' := 36) dX5_beginDealt_35 rfl rfl (q_iload_n (pc' := 37) dX5_beginDealt_36 rfl rfl (q_cVi (pc' := 40) dX5_beginDealt_37 rfl ml_RX5_82 yv_X5_isPromised (by decide) (rn_X5_isPromised hi h.2.2 (by omega)) (okS hi hz (by decide) rfl) rfl rfl (Nat.le_of_ble_eq_true rfl) (Nat.le_refl _) (q_ifb_eq (pc' := 43) (pt := 47) dX5_beginDealt_40 rfl rfl (fun _ => (q_iconst (pc' := 48) _ dX5_beginDealt_47 rfl kk_iconst_0 ?_)) (fun h9 => Bool.noConfusion (Eq.trans (Eq.symm (beq_eq_false_iff_ne.mpr c8)) h9))))))) (fun h9 => absurd h9 (nI_m1 (by omega)))))
      exact p50 _ (if_neg c8)
/-- the end of START: the DEVICE is STARTED, and promised no more -/
theorem w_beg (Q : Option Value → mj_H → Prop) (Y : mj_Y) {d : Nat} (hi : i < 21) (hd : d < 10) (h : cR I i b A) (hq : ∀ I', cR I' i b (mj_up (mj_up A 7 d 1) 8 d 0) → mS i I I' → Q (some (.int (nI 0))) (472, I', J, R)) : Wq dd_X5_begin (mj_mk w l 472 Y) Q 32 [some (.ref (sA i 0)), some (.int (nI d)), some (.int (nI 0))] [] (472, I, J, R) := by
  have hz : 50 + 20 * i ≤ 472 := by omega
  refine q_iload_n (pc' := 33) dX5_begin_32 rfl rfl (q_if_ne (pc' := 36) (pt := 62) dX5_begin_33 rfl rfl (fun h9 => absurd (rfl) h9) (fun _ => (q_aload_n (pc' := 37) dX5_begin_36 rfl rfl (q_dup_a (pc' := 38) dX5_begin_37 rfl (q_getIe (pc' := 41) dX5_begin_38 rfl fr_RX5_50 (okS hi hz (by decide) rfl) rfl h.2.2.1.1 (q_iconst (pc' := 42) _ dX5_begin_41 rfl kk_iconst_1 (q_iload_n (pc' := 43) dX5_begin_42 rfl rfl (q_ishl (pc' := 44) dX5_begin_43 rfl ?_))))))))
  refine q_top (sh32 d (by omega)) ?_
  refine q_ior dX5_begin_44 rfl ?_
  refine q_top (bit_on hd) ?_
  have h1 : cR (mj_up I (sA i 0) 3 (nI (bitN (fun e => mj_up A 7 d 1 7 e == 1) 10))) i b (mj_up A 7 d 1) := cR_7 rfl h
  refine q_putI (pc' := 48) dX5_begin_45 rfl fl_RX5_50 (okS hi hz (by decide) rfl) rfl ?_
  have h2 := h1.2.2.1.2
  generalize hI : mj_up I (sA i 0) 3 (nI (bitN (fun e => mj_up A 7 d 1 7 e == 1) 10)) = I1 at h1 h2 ⊢
  have f1 : mS i I I1 := by rw [← hI]; exact mS_up (by decide)
  refine q_aload_n (pc' := 49) dX5_begin_48 rfl rfl (q_dup_a (pc' := 50) dX5_begin_49 rfl (q_getIe (pc' := 53) dX5_begin_50 rfl fr_RX5_54 (okS hi hz (by decide) rfl) rfl h2 (q_iconst (pc' := 54) _ dX5_begin_53 rfl kk_iconst_1 (q_iload_n (pc' := 55) dX5_begin_54 rfl rfl (q_ishl (pc' := 56) dX5_begin_55 rfl ?_)))))
  refine q_top (sh32 d (by omega)) ?_
  refine q_iconst (pc' := 57) _ dX5_begin_56 rfl kk_iconst_m1 (q_ixor (pc' := 58) dX5_begin_57 rfl (q_iand (pc' := 59) dX5_begin_58 rfl ?_))
  refine q_top (bit_off (by decide)) ?_
  exact q_putI (pc' := 62) dX5_begin_59 rfl fl_RX5_54 (okS hi hz (by decide) rfl) rfl (q_iload_n (pc' := 63) dX5_begin_62 rfl rfl (q_iret dX5_begin_63 rfl (hq _ (cR_8 rfl h1) (f1.tr (mS_up (by decide))))))
theorem rs_X5_begin_d {d : Nat} (hi : i < 21) (hS : mj_wS R i) (hB : mj_wB R 4) (hb : cB I b) (hk : bOK b) (h : cR I i b A) (hd : d < b 0 2) (h3 : b 1 d ≠ 3) (hcl : A 7 d ≠ 1 → clrD A d) : RsI w l yX5_begin dd_X5_begin [.ref (sA i 0), .int (nI d)] (472, I, J, R) (fun x I' => x = nI (aStart b A d).1 ∧ cR I' i b (aStart b A d).2 ∧ mS i I I') := by
  have hz : 50 + 20 * i ≤ 472 := by omega
  have h10 := hk.2.2.1
  refine rt_intro2 (L := [some (.ref (sA i 0)), some (.int (nI d)), none]) ⟨by decide, rfl, (fun h => by cases h)⟩ (Nat.le_of_ble_eq_true rfl) rfl (fun Y Q hQ => ?_)
  by_cases h7 : A 7 d = 1
  · have e : aStart b A d = (4, A) := if_pos h7
    rw [e] at hQ
    exact q_aload_n (pc' := 1) dX5_begin_0 rfl rfl (q_iload_n (pc' := 2) dX5_begin_1 rfl rfl (q_cVi (pc' := 5) dX5_begin_2 rfl ml_RX5_121 yv_X5_isStarted (by decide) (rn_X5_isStarted hi h.2.2 (by omega)) (okS hi hz (by decide) rfl) rfl rfl (Nat.le_of_ble_eq_true rfl) (Nat.le_refl _) (q_ifb_eq (pc' := 8) (pt := 10) dX5_begin_5 rfl rfl (fun h9 => Bool.noConfusion (Eq.trans (Eq.symm (beq_iff_eq.mpr h7)) h9)) (fun _ => (q_iconst (pc' := 9) _ dX5_begin_8 rfl kk_iconst_4 (q_iret dX5_begin_9 rfl (hQ _ _ _ _ ⟨_, rfl, ⟨rfl, rfl⟩, rfl, h, mS.rf⟩)))))))
  · rw [start_d hk hd h7 h3 (hcl h7)] at hQ
    refine q_aload_n (pc' := 1) dX5_begin_0 rfl rfl (q_iload_n (pc' := 2) dX5_begin_1 rfl rfl (q_cVi (pc' := 5) dX5_begin_2 rfl ml_RX5_121 yv_X5_isStarted (by decide) (rn_X5_isStarted hi h.2.2 (by omega)) (okS hi hz (by decide) rfl) rfl rfl (Nat.le_of_ble_eq_true rfl) (Nat.le_refl _) (q_ifb_eq (pc' := 8) (pt := 10) dX5_begin_5 rfl rfl (fun _ => (q_aload_n (pc' := 11) dX5_begin_10 rfl rfl (q_iload_n (pc' := 12) dX5_begin_11 rfl rfl (q_cVi (pc' := 15) dX5_begin_12 rfl ml_RX5_104 yv_X5_isManaged (by decide) (rn_X5_isManaged hi hS hB hb hk hd) (okS hi hz (by decide) rfl) rfl rfl (Nat.le_of_ble_eq_true rfl) (Nat.le_refl _) (q_ifb_eq (pc' := 18) (pt := 26) dX5_begin_15 rfl rfl (fun _ => (q_aload_n (pc' := 27) dX5_begin_26 rfl rfl (q_iload_n (pc' := 28) dX5_begin_27 rfl rfl (q_sVi (pc' := 31) dX5_begin_28 rfl ml_RX5_127 yv_X5_beginDealt (by decide) (rs_X5_beginDealt hi hS hB hb hk h hd) (okS hi hz (by decide) rfl) rfl rfl (Nat.le_of_ble_eq_true rfl) (Nat.le_refl _) (fun x1 I1 ⟨r1, f1⟩ => ?_))))) (fun h9 => Bool.noConfusion (Eq.trans (Eq.symm (beq_eq_false_iff_ne.mpr h3)) h9))))))) (fun h9 => Bool.noConfusion (Eq.trans (Eq.symm (beq_eq_false_iff_ne.mpr h7)) h9)))))
    cases hdl : aDl b A (b 3 d) (b 2 d) with
    | none =>
      rw [hdl] at r1 hQ
      have r1' : x1 = nI 1 ∧ cR I1 i b A := r1
      rw [r1'.1]
      exact q_ist_2 (pc' := 32) dX5_begin_31 rfl (by decide) rfl (q_iload_n (pc' := 33) dX5_begin_32 rfl rfl (q_if_ne (pc' := 36) (pt := 62) dX5_begin_33 rfl rfl (fun _ => (q_iload_n (pc' := 63) dX5_begin_62 rfl rfl (q_iret dX5_begin_63 rfl (hQ _ _ _ _ ⟨_, rfl, ⟨rfl, rfl⟩, rfl, r1'.2, f1⟩)))) (fun h9 => absurd h9 (by decide))))
    | some pl =>
      rw [hdl] at r1 hQ
      by_cases hc : aFree b A - b 2 d < aProm b A - (if A 8 d = 1 then b 2 d else 0)
      · have r1' : x1 = nI 2 ∧ cR I1 i b A := by
          have r2 : (if aFree b A - b 2 d < aProm b A - (if A 8 d = 1 then b 2 d else 0) then x1 = nI 2 ∧ cR I1 i b A else x1 = nI 0 ∧ cR I1 i b (itN (aPutD d pl) (b 2 d) A)) := r1
          rw [if_pos hc] at r2; exact r2
        have hQ2 : ∀ I', cR I' i b A → mS i I I' → Q (some (.int (nI 2))) (472, I', J, R) := fun I' q1 q2 => hQ _ _ _ _ ⟨_, rfl, ⟨rfl, rfl⟩, (by show nI 2 = nI (if aFree b A - b 2 d < aProm b A - (if A 8 d = 1 then b 2 d else 0) then ((2:Nat), A) else (0, mj_up (mj_up (itN (aPutD d pl) (b 2 d) A) 7 d 1) 8 d 0)).1; rw [if_pos hc]), (by show cR I' i b (if aFree b A - b 2 d < aProm b A - (if A 8 d = 1 then b 2 d else 0) then ((2:Nat), A) else (0, mj_up (mj_up (itN (aPutD d pl) (b 2 d) A) 7 d 1) 8 d 0)).2; rw [if_pos hc]; exact q1), q2⟩
        rw [r1'.1]
        exact q_ist_2 (pc' := 32) dX5_begin_31 rfl (by decide) rfl (q_iload_n (pc' := 33) dX5_begin_32 rfl rfl (q_if_ne (pc' := 36) (pt := 62) dX5_begin_33 rfl rfl (fun _ => (q_iload_n (pc' := 63) dX5_begin_62 rfl rfl (q_iret dX5_begin_63 rfl (hQ2 _ r1'.2 f1)))) (fun h9 => absurd h9 (by decide))))
      · have r1' : x1 = nI 0 ∧ cR I1 i b (itN (aPutD d pl) (b 2 d) A) := by
          have r2 : (if aFree b A - b 2 d < aProm b A - (if A 8 d = 1 then b 2 d else 0) then x1 = nI 2 ∧ cR I1 i b A else x1 = nI 0 ∧ cR I1 i b (itN (aPutD d pl) (b 2 d) A)) := r1
          rw [if_neg hc] at r2; exact r2
        have hQ2 : ∀ I', cR I' i b (mj_up (mj_up (itN (aPutD d pl) (b 2 d) A) 7 d 1) 8 d 0) → mS i I I' → Q (some (.int (nI 0))) (472, I', J, R) := fun I' q1 q2 => hQ _ _ _ _ ⟨_, rfl, ⟨rfl, rfl⟩, (by show nI 0 = nI (if aFree b A - b 2 d < aProm b A - (if A 8 d = 1 then b 2 d else 0) then ((2:Nat), A) else (0, mj_up (mj_up (itN (aPutD d pl) (b 2 d) A) 7 d 1) 8 d 0)).1; rw [if_neg hc]), (by show cR I' i b (if aFree b A - b 2 d < aProm b A - (if A 8 d = 1 then b 2 d else 0) then ((2:Nat), A) else (0, mj_up (mj_up (itN (aPutD d pl) (b 2 d) A) 7 d 1) 8 d 0)).2; rw [if_neg hc]; exact q1), q2⟩
        rw [r1'.1]
        refine q_ist_2 (pc' := 32) dX5_begin_31 rfl (by decide) rfl ?_
        exact w_beg Q Y hi (by omega) r1'.2 (fun I' q1 q2 => hQ2 I' q1 (f1.tr q2))
end ST4
