/-! ===== the class: UNPLUG, all of it ===== -/
section ST14
variable {w : mj_Wd} {l : Launch} {I : mj_M} {J : mj_J} {R : mj_R} {b A : St} {i : Nat}
theorem rs_X5_leave {U : St → Prop} {p : Nat} (hi : i < 21) (hS : mj_wS R i) (hB : mj_wB R 4) (hb : cB I b) (hk : bOK b) (h : cR I i b A) (hU : uCl b p U) (hU2 : uC2 b p U) (hA0 : A 9 p = 1 → U (mj_up A 9 p 0)) (hset : ∀ d, d < b 0 2 → b 3 d < 2 ^ b 0 0) (hp : p < b 0 0) : RsI w l yX5_leave dd_X5_leave [.ref (sA i 0), .int (nI p)] (472, I, J, R) (fun x I' => x = nI (aUnplug b A p).1 ∧ ((aUnplug b A p).1 = 0 → cR I' i b (aUnplug b A p).2) ∧ mS i I I') := by
  have hz : 50 + 20 * i ≤ 472 := by omega
  have h10 := hk.2.2.1
  have h8 := hk.1.2
  refine rt_intro2 (L := [some (.ref (sA i 0)), some (.int (nI p)), none]) ⟨by decide, rfl, (fun h => by cases h)⟩ (Nat.le_of_ble_eq_true rfl) rfl (fun Y Q hQ => ?_)
  by_cases c9 : A 9 p = 1
  · by_cases c1 : bitN (fun p => A 9 p == 1) (b 0 0) = 2 ^ p
    · have e : aUnplug b A p = (5, A) := by unfold aUnplug; rw [if_neg (fun z => z c9), if_pos c1]
      rw [e] at hQ
      refine q_aload_n (pc' := 1) dX5_leave_0 rfl rfl (q_getR (pc' := 4) dX5_leave_1 rfl fr_RX5_41 (okS hi hz (by decide) rfl) rfl (wS_5_1 hS) (sA_lt hi (by decide)) (q_iload_n (pc' := 5) dX5_leave_4 rfl rfl (q_cVi (pc' := 8) dX5_leave_5 rfl ml_RX5_153 yv_X4_isOnline (by decide) (rn_X4_isOnline hi hk h.1 hp) (okS hi hz (by decide) rfl) rfl rfl (Nat.le_of_ble_eq_true rfl) (Nat.le_refl _) (q_ifb_ne (pc' := 11) (pt := 13) dX5_leave_8 rfl rfl (fun _ => (q_aload_n (pc' := 14) dX5_leave_13 rfl rfl (q_getR (pc' := 17) dX5_leave_14 rfl fr_RX5_41 (okS hi hz (by decide) rfl) rfl (wS_5_1 hS) (sA_lt hi (by decide)) (q_getIe (pc' := 20) dX5_leave_17 rfl fr_RX5_227 (okS hi hz (by decide) rfl) rfl h.1.2.2.2 (q_iconst (pc' := 21) _ dX5_leave_20 rfl kk_iconst_1 (q_iload_n (pc' := 22) dX5_leave_21 rfl rfl (q_ishl (pc' := 23) dX5_leave_22 rfl ?_))))))) (fun h9 => Bool.noConfusion (Eq.trans (Eq.symm (beq_iff_eq.mpr c9)) h9))))))
      refine q_top (sh32 p (by omega)) ?_
      exact q_icmp_ne (pc' := 26) (pt := 28) dX5_leave_23 rfl rfl (fun h9 => absurd (congrArg nI c1) h9) (fun _ => (q_iconst (pc' := 27) _ dX5_leave_26 rfl kk_iconst_5 (q_iret dX5_leave_27 rfl (hQ _ _ _ _ ⟨_, rfl, ⟨rfl, rfl⟩, rfl, (fun z => by cases z), mS.rf⟩))))
    · have hb1 : cOn b A < 2 ^ 8 := Nat.lt_of_lt_of_le (bitN_lt _ _) (Nat.pow_le_pow_right (by decide) h8)
      have hb2 : 2 ^ p < 2 ^ 8 := Nat.pow_lt_pow_right (by decide) (by omega)
      have hne : ¬ nI (cOn b A) = nI (2 ^ p) := nI_ne c1 (by omega) (by omega)
      have hUA := hA0 c9
      refine q_aload_n (pc' := 1) dX5_leave_0 rfl rfl (q_getR (pc' := 4) dX5_leave_1 rfl fr_RX5_41 (okS hi hz (by decide) rfl) rfl (wS_5_1 hS) (sA_lt hi (by decide)) (q_iload_n (pc' := 5) dX5_leave_4 rfl rfl (q_cVi (pc' := 8) dX5_leave_5 rfl ml_RX5_153 yv_X4_isOnline (by decide) (rn_X4_isOnline hi hk h.1 hp) (okS hi hz (by decide) rfl) rfl rfl (Nat.le_of_ble_eq_true rfl) (Nat.le_refl _) (q_ifb_ne (pc' := 11) (pt := 13) dX5_leave_8 rfl rfl (fun _ => (q_aload_n (pc' := 14) dX5_leave_13 rfl rfl (q_getR (pc' := 17) dX5_leave_14 rfl fr_RX5_41 (okS hi hz (by decide) rfl) rfl (wS_5_1 hS) (sA_lt hi (by decide)) (q_getIe (pc' := 20) dX5_leave_17 rfl fr_RX5_227 (okS hi hz (by decide) rfl) rfl h.1.2.2.2 (q_iconst (pc' := 21) _ dX5_leave_20 rfl kk_iconst_1 (q_iload_n (pc' := 22) dX5_leave_21 rfl rfl (q_ishl (pc' := 23) dX5_leave_22 rfl ?_))))))) (fun h9 => Bool.noConfusion (Eq.trans (Eq.symm (beq_iff_eq.mpr c9)) h9))))))
      refine q_top (sh32 p (by omega)) ?_
      refine q_icmp_ne (pc' := 26) (pt := 28) dX5_leave_23 rfl rfl (fun _ => (q_aload_n (pc' := 29) dX5_leave_28 rfl rfl (q_getR (pc' := 32) dX5_leave_29 rfl fr_RX5_41 (okS hi hz (by decide) rfl) rfl (wS_5_1 hS) (sA_lt hi (by decide)) (q_dup_a (pc' := 33) dX5_leave_32 rfl (q_getIe (pc' := 36) dX5_leave_33 rfl fr_RX5_227 (okS hi hz (by decide) rfl) rfl h.1.2.2.2 (q_iconst (pc' := 37) _ dX5_leave_36 rfl kk_iconst_1 (q_iload_n (pc' := 38) dX5_leave_37 rfl rfl (q_ishl (pc' := 39) dX5_leave_38 rfl ?_)))))))) (fun h9 => absurd h9 (hne))
      refine q_top (sh32 p (by omega)) ?_
      refine q_iconst (pc' := 40) _ dX5_leave_39 rfl kk_iconst_m1 (q_ixor (pc' := 41) dX5_leave_40 rfl (q_iand (pc' := 42) dX5_leave_41 rfl ?_))
      refine q_top (bit_off (by omega)) ?_
      have h1 : cR (mj_up I (sA i 11) 1 (nI (bitN (fun e => mj_up A 9 p 0 9 e == 1) (b 0 0)))) i b (mj_up A 9 p 0) := cR_9 rfl h
      refine q_putI (pc' := 45) dX5_leave_42 rfl fl_RX5_227 (okS hi hz (by decide) rfl) rfl (q_iconst (pc' := 46) _ dX5_leave_45 rfl kk_iconst_0 (q_ist_2 (pc' := 47) dX5_leave_46 rfl (by decide) rfl ?_))
      generalize hI : mj_up I (sA i 11) 1 (nI (bitN (fun e => mj_up A 9 p 0 9 e == 1) (b 0 0))) = I1 at h1 ⊢
      have f1 : mS i I I1 := by rw [← hI]; exact mS_up (by decide)
      have e0 : aUnplug b A p = (match itO (aUn1 b p) (b 0 2) (mj_up A 9 p 0) with | none => (1, A) | some A' => if aFree b A' < aProm b A' then (2, A) else (0, A')) := by
        unfold aUnplug
        rw [if_neg (fun z => z c9), if_neg c1]
        cases itO (aUn1 b p) (b 0 2) (mj_up A 9 p 0) with
        | none => rfl
        | some B => rfl
      have loop : ∀ m d I2 B, d + m = b 0 2 → itO (aUn1 b p) d (mj_up A 9 p 0) = some B → cR I2 i b B → mS i I I2 → Wq dd_X5_leave (mj_mk w l 472 Y) Q 47 [some (.ref (sA i 0)), some (.int (nI p)), some (.int (nI d))] [] (472, I2, J, R) := by
        intro m
        induction m with
        | zero =>
          intro d I2 B hdm hit hr hm
          have hdz : d = b 0 2 := by omega
          subst hdz
          have hb3 := cB_S hm hb
          have hf := aFree_le hk (A := B)
          have hpr := aProm_le hk (A := B)
          rw [hit] at e0
          by_cases hc : aFree b B < aProm b B
          · have e1 : aUnplug b A p = (2, A) := e0.trans (if_pos hc)
            rw [e1] at hQ
            exact q_iload_n (pc' := 48) dX5_leave_47 rfl rfl (q_aload_n (pc' := 49) dX5_leave_48 rfl rfl (q_getR (pc' := 52) dX5_leave_49 rfl fr_RX5_32 (okS hi hz (by decide) rfl) rfl (wS_5_0 hS) (by decide) (q_getIe (pc' := 55) dX5_leave_52 rfl fr_RX5_79 (by first | assumption | exact ⟨by omega, rfl⟩) rfl (cB_4 hb3) (q_icmp_ge (pc' := 58) (pt := 108) dX5_leave_55 rfl rfl (fun _ => (q_aload_n (pc' := 109) dX5_leave_108 rfl rfl (q_getR (pc' := 112) dX5_leave_109 rfl fr_RX5_41 (okS hi hz (by decide) rfl) rfl (wS_5_1 hS) (sA_lt hi (by decide)) (q_cVi (pc' := 115) dX5_leave_112 rfl ml_RX5_137 yv_X4_freeOnline (by decide) (rn_X4_freeOnline hi hS hb3 hk hr.1) (okS hi hz (by decide) rfl) rfl rfl (Nat.le_of_ble_eq_true rfl) (Nat.le_refl _) (q_aload_n (pc' := 116) dX5_leave_115 rfl rfl (q_cVi (pc' := 119) dX5_leave_116 rfl ml_RX5_141 yv_X5_promisedVectors (by decide) (rn_X5_promisedVectors hi hS hB hb3 hk hr.2.2) (okS hi hz (by decide) rfl) rfl rfl (Nat.le_of_ble_eq_true rfl) (Nat.le_refl _) (q_icmp_ge (pc' := 122) (pt := 126) dX5_leave_119 rfl rfl (fun h9 => absurd h9 (Int32.not_le.mpr (nI_lt hc (by omega)))) (fun _ => (q_iconst (pc' := 123) _ dX5_leave_122 rfl kk_iconst_2 (q_goto (pc' := 127) dX5_leave_123 rfl (q_iret dX5_leave_127 rfl (hQ _ _ _ _ ⟨_, rfl, ⟨rfl, rfl⟩, rfl, (fun z => by cases z), hm⟩)))))))))))) (fun h9 => absurd (by (first | assumption | exact nI_le (by omega) (by omega) | exact nI_ge (by omega) (by omega) | exact nI_lt (by omega) (by omega) | exact nI_nlt (by omega) (by omega) | exact nI_ne (by omega) (by omega) (by omega) | exact nI_e (by omega) | decide)) h9)))))
          · have e1 : aUnplug b A p = (0, B) := e0.trans (if_neg hc)
            rw [e1] at hQ
            exact q_iload_n (pc' := 48) dX5_leave_47 rfl rfl (q_aload_n (pc' := 49) dX5_leave_48 rfl rfl (q_getR (pc' := 52) dX5_leave_49 rfl fr_RX5_32 (okS hi hz (by decide) rfl) rfl (wS_5_0 hS) (by decide) (q_getIe (pc' := 55) dX5_leave_52 rfl fr_RX5_79 (by first | assumption | exact ⟨by omega, rfl⟩) rfl (cB_4 hb3) (q_icmp_ge (pc' := 58) (pt := 108) dX5_leave_55 rfl rfl (fun _ => (q_aload_n (pc' := 109) dX5_leave_108 rfl rfl (q_getR (pc' := 112) dX5_leave_109 rfl fr_RX5_41 (okS hi hz (by decide) rfl) rfl (wS_5_1 hS) (sA_lt hi (by decide)) (q_cVi (pc' := 115) dX5_leave_112 rfl ml_RX5_137 yv_X4_freeOnline (by decide) (rn_X4_freeOnline hi hS hb3 hk hr.1) (okS hi hz (by decide) rfl) rfl rfl (Nat.le_of_ble_eq_true rfl) (Nat.le_refl _) (q_aload_n (pc' := 116) dX5_leave_115 rfl rfl (q_cVi (pc' := 119) dX5_leave_116 rfl ml_RX5_141 yv_X5_promisedVectors (by decide) (rn_X5_promisedVectors hi hS hB hb3 hk hr.2.2) (okS hi hz (by decide) rfl) rfl rfl (Nat.le_of_ble_eq_true rfl) (Nat.le_refl _) (q_icmp_ge (pc' := 122) (pt := 126) dX5_leave_119 rfl rfl (fun _ => (q_iconst (pc' := 127) _ dX5_leave_126 rfl kk_iconst_0 (q_iret dX5_leave_127 rfl (hQ _ _ _ _ ⟨_, rfl, ⟨rfl, rfl⟩, rfl, (fun _ => hr), hm⟩)))) (fun h9 => absurd (nI_le (by omega) (by omega)) h9)))))))) (fun h9 => absurd (by (first | assumption | exact nI_le (by omega) (by omega) | exact nI_ge (by omega) (by omega) | exact nI_lt (by omega) (by omega) | exact nI_nlt (by omega) (by omega) | exact nI_ne (by omega) (by omega) (by omega) | exact nI_e (by omega) | decide)) h9)))))
        | succ m ih =>
          intro d I2 B hdm hit hr hm
          have hd : d < b 0 2 := by omega
          have hb3 := cB_S hm hb
          have hu := u_un1 hU hUA d B (by omega) hit
          have hnx : itO (aUn1 b p) (d + 1) (mj_up A 9 p 0) = aUn1 b p d B := by
            show (itO (aUn1 b p) d (mj_up A 9 p 0)).bind (aUn1 b p d) = _
            rw [hit]; rfl
          by_cases c7 : B 7 d = 1
          · have e1 : aUn1 b p d B = aClear b B d p := if_pos c7
            by_cases c3 : b 1 d = 3
            · have e2 : aClear b B d p = some (itN (aQ1 b d p) (b 2 d) B) := if_pos c3
              refine q_iload_n (pc' := 48) dX5_leave_47 rfl rfl (q_aload_n (pc' := 49) dX5_leave_48 rfl rfl (q_getR (pc' := 52) dX5_leave_49 rfl fr_RX5_32 (okS hi hz (by decide) rfl) rfl (wS_5_0 hS) (by decide) (q_getIe (pc' := 55) dX5_leave_52 rfl fr_RX5_79 (by first | assumption | exact ⟨by omega, rfl⟩) rfl (cB_4 hb3) (q_icmp_ge (pc' := 58) (pt := 108) dX5_leave_55 rfl rfl (fun h9 => absurd h9 (by (first | assumption | exact nI_le (by omega) (by omega) | exact nI_ge (by omega) (by omega) | exact nI_lt (by omega) (by omega) | exact nI_nlt (by omega) (by omega) | exact nI_ne (by omega) (by omega) (by omega) | exact nI_e (by omega) | decide))) (fun _ => (q_aload_n (pc' := 59) dX5_leave_58 rfl rfl (q_iload_n (pc' := 60) dX5_leave_59 rfl rfl (q_cVi (pc' := 63) dX5_leave_60 rfl ml_RX5_121 yv_X5_isStarted (by decide) (rn_X5_isStarted hi hr.2.2 (by omega)) (okS hi hz (by decide) rfl) rfl rfl (Nat.le_of_ble_eq_true rfl) (Nat.le_refl _) (q_ifb_eq (pc' := 66) (pt := 83) dX5_leave_63 rfl rfl (fun h9 => Bool.noConfusion (Eq.trans (Eq.symm (beq_iff_eq.mpr c7)) h9)) (fun _ => (q_aload_n (pc' := 67) dX5_leave_66 rfl rfl (q_iload_n (pc' := 68) dX5_leave_67 rfl rfl (q_cVi (pc' := 71) dX5_leave_68 rfl ml_RX5_104 yv_X5_isManaged (by decide) (rn_X5_isManaged hi hS hB hb3 hk hd) (okS hi hz (by decide) rfl) rfl rfl (Nat.le_of_ble_eq_true rfl) (Nat.le_refl _) (q_ifb_eq (pc' := 74) (pt := 83) dX5_leave_71 rfl rfl (fun h9 => Bool.noConfusion (Eq.trans (Eq.symm (beq_iff_eq.mpr c3)) h9)) (fun _ => (q_aload_n (pc' := 75) dX5_leave_74 rfl rfl ?_))))))))))))))))
              refine q_iload_n (pc' := 76) dX5_leave_75 rfl rfl (q_iload_n (pc' := 77) dX5_leave_76 rfl rfl (q_sVv (pc' := 80) dX5_leave_77 rfl ml_RX5_230 yv_X5_bringQueuesAway (by decide) (rs_X5_bringQueuesAway hi hS hB hb3 hk hr hU hU2 hu hd c7 c3 (hset d hd) hp) (okS hi hz (by decide) rfl) rfl rfl (Nat.le_of_ble_eq_true rfl) (Nat.le_refl _) (fun I3 ⟨h3, f3⟩ => ?_)))
              refine q_goto (pc' := 102) dX5_leave_80 rfl (q_inc_2 (pc' := 105) dX5_leave_102 rfl (by decide) rfl (q_goto (pc' := 47) dX5_leave_105 rfl ?_))
              exact ih (d + 1) I3 _ (by omega) (hnx.trans (e1.trans e2)) h3 (hm.tr f3)
            · have e2 : aClear b B d p = aClD b B d p := if_neg c3
              refine q_iload_n (pc' := 48) dX5_leave_47 rfl rfl (q_aload_n (pc' := 49) dX5_leave_48 rfl rfl (q_getR (pc' := 52) dX5_leave_49 rfl fr_RX5_32 (okS hi hz (by decide) rfl) rfl (wS_5_0 hS) (by decide) (q_getIe (pc' := 55) dX5_leave_52 rfl fr_RX5_79 (by first | assumption | exact ⟨by omega, rfl⟩) rfl (cB_4 hb3) (q_icmp_ge (pc' := 58) (pt := 108) dX5_leave_55 rfl rfl (fun h9 => absurd h9 (by (first | assumption | exact nI_le (by omega) (by omega) | exact nI_ge (by omega) (by omega) | exact nI_lt (by omega) (by omega) | exact nI_nlt (by omega) (by omega) | exact nI_ne (by omega) (by omega) (by omega) | exact nI_e (by omega) | decide))) (fun _ => (q_aload_n (pc' := 59) dX5_leave_58 rfl rfl (q_iload_n (pc' := 60) dX5_leave_59 rfl rfl (q_cVi (pc' := 63) dX5_leave_60 rfl ml_RX5_121 yv_X5_isStarted (by decide) (rn_X5_isStarted hi hr.2.2 (by omega)) (okS hi hz (by decide) rfl) rfl rfl (Nat.le_of_ble_eq_true rfl) (Nat.le_refl _) (q_ifb_eq (pc' := 66) (pt := 83) dX5_leave_63 rfl rfl (fun h9 => Bool.noConfusion (Eq.trans (Eq.symm (beq_iff_eq.mpr c7)) h9)) (fun _ => (q_aload_n (pc' := 67) dX5_leave_66 rfl rfl (q_iload_n (pc' := 68) dX5_leave_67 rfl rfl (q_cVi (pc' := 71) dX5_leave_68 rfl ml_RX5_104 yv_X5_isManaged (by decide) (rn_X5_isManaged hi hS hB hb3 hk hd) (okS hi hz (by decide) rfl) rfl rfl (Nat.le_of_ble_eq_true rfl) (Nat.le_refl _) (q_ifb_eq (pc' := 74) (pt := 83) dX5_leave_71 rfl rfl (fun _ => (q_aload_n (pc' := 84) dX5_leave_83 rfl rfl ?_)) (fun h9 => Bool.noConfusion (Eq.trans (Eq.symm (beq_eq_false_iff_ne.mpr c3)) h9))))))))))))))))
              refine q_iload_n (pc' := 85) dX5_leave_84 rfl rfl (q_cVi (pc' := 88) dX5_leave_85 rfl ml_RX5_121 yv_X5_isStarted (by decide) (rn_X5_isStarted hi hr.2.2 (by omega)) (okS hi hz (by decide) rfl) rfl rfl (Nat.le_of_ble_eq_true rfl) (Nat.le_refl _) (q_ifb_eq (pc' := 91) (pt := 102) dX5_leave_88 rfl rfl (fun h9 => Bool.noConfusion (Eq.trans (Eq.symm (beq_iff_eq.mpr c7)) h9)) (fun _ => (q_aload_n (pc' := 92) dX5_leave_91 rfl rfl (q_iload_n (pc' := 93) dX5_leave_92 rfl rfl (q_iload_n (pc' := 94) dX5_leave_93 rfl rfl (q_sVi (pc' := 97) dX5_leave_94 rfl ml_RX5_233 yv_X5_bringDealtAway (by decide) (rs_X5_bringDealtAway hi hS hB hb3 hk hr hU hU2 hu hd c7 c3 hp) (okS hi hz (by decide) rfl) rfl rfl (Nat.le_of_ble_eq_true rfl) (Nat.le_refl _) (fun x3 I3 ⟨r3, h3, f3⟩ => ?_))))))))
              rw [r3]
              cases hcl : aClD b B d p with
              | none =>
                have e3 : itO (aUn1 b p) (b 0 2) (mj_up A 9 p 0) = none := itO_none (hnx.trans (e1.trans (e2.trans hcl))) (by omega)
                rw [e3] at e0
                rw [e0] at hQ
                exact q_ifb_ne (pc' := 100) (pt := 102) dX5_leave_97 rfl rfl (fun h9 => Bool.noConfusion (Eq.trans (Eq.symm (rfl)) h9)) (fun _ => (q_iconst (pc' := 101) _ dX5_leave_100 rfl kk_iconst_1 (q_iret dX5_leave_101 rfl (hQ _ _ _ _ ⟨_, rfl, ⟨rfl, rfl⟩, rfl, (fun z => by cases z), hm.tr f3⟩))))
              | some C =>
                refine q_ifb_ne (pc' := 100) (pt := 102) dX5_leave_97 rfl rfl (fun _ => (q_inc_2 (pc' := 105) dX5_leave_102 rfl (by decide) rfl (q_goto (pc' := 47) dX5_leave_105 rfl ?_))) (fun h9 => Bool.noConfusion (Eq.trans (Eq.symm (rfl)) h9))
                exact ih (d + 1) I3 C (by omega) (hnx.trans (e1.trans (e2.trans hcl))) (h3 C hcl) (hm.tr f3)
          · have e1 : aUn1 b p d B = some B := if_neg c7
            refine q_iload_n (pc' := 48) dX5_leave_47 rfl rfl (q_aload_n (pc' := 49) dX5_leave_48 rfl rfl (q_getR (pc' := 52) dX5_leave_49 rfl fr_RX5_32 (okS hi hz (by decide) rfl) rfl (wS_5_0 hS) (by decide) (q_getIe (pc' := 55) dX5_leave_52 rfl fr_RX5_79 (by first | assumption | exact ⟨by omega, rfl⟩) rfl (cB_4 hb3) (q_icmp_ge (pc' := 58) (pt := 108) dX5_leave_55 rfl rfl (fun h9 => absurd h9 (by (first | assumption | exact nI_le (by omega) (by omega) | exact nI_ge (by omega) (by omega) | exact nI_lt (by omega) (by omega) | exact nI_nlt (by omega) (by omega) | exact nI_ne (by omega) (by omega) (by omega) | exact nI_e (by omega) | decide))) (fun _ => (q_aload_n (pc' := 59) dX5_leave_58 rfl rfl (q_iload_n (pc' := 60) dX5_leave_59 rfl rfl (q_cVi (pc' := 63) dX5_leave_60 rfl ml_RX5_121 yv_X5_isStarted (by decide) (rn_X5_isStarted hi hr.2.2 (by omega)) (okS hi hz (by decide) rfl) rfl rfl (Nat.le_of_ble_eq_true rfl) (Nat.le_refl _) (q_ifb_eq (pc' := 66) (pt := 83) dX5_leave_63 rfl rfl (fun _ => (q_aload_n (pc' := 84) dX5_leave_83 rfl rfl (q_iload_n (pc' := 85) dX5_leave_84 rfl rfl (q_cVi (pc' := 88) dX5_leave_85 rfl ml_RX5_121 yv_X5_isStarted (by decide) (rn_X5_isStarted hi hr.2.2 (by omega)) (okS hi hz (by decide) rfl) rfl rfl (Nat.le_of_ble_eq_true rfl) (Nat.le_refl _) (q_ifb_eq (pc' := 91) (pt := 102) dX5_leave_88 rfl rfl (fun _ => (q_inc_2 (pc' := 105) dX5_leave_102 rfl (by decide) rfl ?_)) (fun h9 => Bool.noConfusion (Eq.trans (Eq.symm (beq_eq_false_iff_ne.mpr c7)) h9))))))) (fun h9 => Bool.noConfusion (Eq.trans (Eq.symm (beq_eq_false_iff_ne.mpr c7)) h9)))))))))))
            refine q_goto (pc' := 47) dX5_leave_105 rfl ?_
            exact ih (d + 1) I2 B (by omega) (hnx.trans e1) hr hm
      exact loop (b 0 2) 0 I1 _ (by omega) rfl h1 f1
  · have e : aUnplug b A p = (4, A) := if_pos c9
    rw [e] at hQ
    exact q_aload_n (pc' := 1) dX5_leave_0 rfl rfl (q_getR (pc' := 4) dX5_leave_1 rfl fr_RX5_41 (okS hi hz (by decide) rfl) rfl (wS_5_1 hS) (sA_lt hi (by decide)) (q_iload_n (pc' := 5) dX5_leave_4 rfl rfl (q_cVi (pc' := 8) dX5_leave_5 rfl ml_RX5_153 yv_X4_isOnline (by decide) (rn_X4_isOnline hi hk h.1 hp) (okS hi hz (by decide) rfl) rfl rfl (Nat.le_of_ble_eq_true rfl) (Nat.le_refl _) (q_ifb_ne (pc' := 11) (pt := 13) dX5_leave_8 rfl rfl (fun h9 => Bool.noConfusion (Eq.trans (Eq.symm (beq_eq_false_iff_ne.mpr c9)) h9)) (fun _ => (q_iconst (pc' := 12) _ dX5_leave_11 rfl kk_iconst_4 (q_iret dX5_leave_12 rfl (hQ _ _ _ _ ⟨_, rfl, ⟨rfl, rfl⟩, rfl, (fun z => by cases z), mS.rf⟩))))))))
end ST14
