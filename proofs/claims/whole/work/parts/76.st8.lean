/-! ===== the class: QUEUES ===== -/
/-- how many QUEUES of a DEVICE have a CPU in their SPREAD -/
def qN (b : St) (d p m : Nat) : Nat := cntN (fun q => (aSpread b d q).testBit p) m
/-- what is RESERVED for a QUEUE on a CPU, as the class does it -/
def aRsT (b : St) (d q : Nat) : Nat → St → St := fun p A => if (aSpread b d q).testBit p = true then (match aBlk b A p 1 with
  | none => A
  | some v => aSets A (32 * p + v) 4 (8 * d + q + 1)) else A
/-- where a QUEUE goes, of some CPUS -/
def aLp (b A : St) (id set : Nat) : Option Nat := match aLeast b A (aSpread b (id / 8) (id % 8) &&& set) with
  | none => none
  | some p => if A 4 id ≠ 0 ∧ (A 4 id - 1) / 32 = p then some (A 4 id - 1) else aRsP b A id p
theorem ubit1 {s c : Nat} (hs : s < 2 ^ 32) (hc : c < 32) : ((nI s).toUInt32 >>> ((nI c).toUInt32 &&& Int32.toUInt32 31)).toInt32 &&& nI 1 = nI (if s.testBit c = true then 1 else 0) := by
  rw [us32 hs hc, nI_and, Nat.and_one_is_mod, Nat.testBit_eq_decide_div_mod_eq]
  have h2 : s / 2 ^ c % 2 = 0 ∨ s / 2 ^ c % 2 = 1 := by omega
  rcases h2 with h | h
  · rw [h]; rfl
  · rw [h]; rfl
section ST8
variable {w : mj_Wd} {l : Launch} {I : mj_M} {J : mj_J} {R : mj_R} {b A : St} {i : Nat}
theorem rn_X5_queuesAt {d p : Nat} (hi : i < 21) (hS : mj_wS R i) (hB : mj_wB R 4) (hb : cB I b) (hk : bOK b) (hd : d < b 0 2) (h3 : b 1 d = 3) (hset : b 3 d < 2 ^ b 0 0) (hp : p < 8) : Rn w l yX5_queuesAt dd_X5_queuesAt [.ref (sA i 0), .int (nI d), .int (nI p)] (472, I, J, R) (some (.int (nI (qN b d p (b 2 d))))) (472, I, J, R) := by
  have hz : 50 + 20 * i ≤ 472 := by omega
  have h10 := hk.2.2.1
  have hs := hk.2.2.2 d hd
  have eb := (hb.2 d hd).2.1
  refine rn_intro2 (L := [some (.ref (sA i 0)), some (.int (nI d)), some (.int (nI p)), none, none]) ⟨by decide, rfl, (fun h => by cases h)⟩ (Nat.le_refl _) (Nat.le_of_ble_eq_true rfl) rfl (fun Y Q hQ => ?_)
  have loop : ∀ m k, k + m = b 2 d → Wq dd_X5_queuesAt (mj_mk w l 472 Y) Q 5 [some (.ref (sA i 0)), some (.int (nI d)), some (.int (nI p)), some (.int (nI (qN b d p k))), some (.int (nI k))] [] (472, I, J, R) := by
    intro m
    induction m with
    | zero =>
      intro k hkm
      have hkz : k = b 2 d := by omega
      subst hkz
      exact q_iload (pc' := 7) dX5_queuesAt_5 rfl rfl (q_aload_n (pc' := 8) dX5_queuesAt_7 rfl rfl (q_getR (pc' := 11) dX5_queuesAt_8 rfl fr_RX5_32 (okS hi hz (by decide) rfl) rfl (wS_5_0 hS) (by decide) (q_getR (pc' := 14) dX5_queuesAt_11 rfl fr_RX5_85 (by first | assumption | exact ⟨by omega, rfl⟩) rfl (wB_8 hB) (by omega) (q_iload_n (pc' := 15) dX5_queuesAt_14 rfl rfl (q_ialde (pc' := 16) (d) dX5_queuesAt_15 rfl (by first | exact ⟨by omega, rfl⟩ | exact okaS hi hz (by decide) rfl | assumption) (by (first | (simp only [nI_add, pk_mul]; done) | (simp only [nI_add, pk_mul]; exact nI_e (by omega)) | exact nI_e (by omega))) (by omega) eb (q_icmp_ge (pc' := 19) (pt := 42) dX5_queuesAt_16 rfl rfl (fun _ => (q_iload_n (pc' := 43) dX5_queuesAt_42 rfl rfl (q_iret dX5_queuesAt_43 rfl hQ))) (fun h9 => absurd (by (first | assumption | exact nI_le (by omega) (by omega) | exact nI_ge (by omega) (by omega) | exact nI_lt (by omega) (by omega) | exact nI_nlt (by omega) (by omega) | exact nI_ne (by omega) (by omega) (by omega) | exact nI_e (by omega) | decide)) h9)))))))
    | succ m ih =>
      intro k hkm
      have hlt := aSpread_lt b hk d k
      refine q_iload (pc' := 7) dX5_queuesAt_5 rfl rfl (q_aload_n (pc' := 8) dX5_queuesAt_7 rfl rfl (q_getR (pc' := 11) dX5_queuesAt_8 rfl fr_RX5_32 (okS hi hz (by decide) rfl) rfl (wS_5_0 hS) (by decide) (q_getR (pc' := 14) dX5_queuesAt_11 rfl fr_RX5_85 (by first | assumption | exact ⟨by omega, rfl⟩) rfl (wB_8 hB) (by omega) (q_iload_n (pc' := 15) dX5_queuesAt_14 rfl rfl (q_ialde (pc' := 16) (d) dX5_queuesAt_15 rfl (by first | exact ⟨by omega, rfl⟩ | exact okaS hi hz (by decide) rfl | assumption) (by (first | (simp only [nI_add, pk_mul]; done) | (simp only [nI_add, pk_mul]; exact nI_e (by omega)) | exact nI_e (by omega))) (by omega) eb (q_icmp_ge (pc' := 19) (pt := 42) dX5_queuesAt_16 rfl rfl (fun h9 => absurd h9 (by (first | assumption | exact nI_le (by omega) (by omega) | exact nI_ge (by omega) (by omega) | exact nI_lt (by omega) (by omega) | exact nI_nlt (by omega) (by omega) | exact nI_ne (by omega) (by omega) (by omega) | exact nI_e (by omega) | decide))) (fun _ => (q_iload_n (pc' := 20) dX5_queuesAt_19 rfl rfl (q_aload_n (pc' := 21) dX5_queuesAt_20 rfl rfl (q_getR (pc' := 24) dX5_queuesAt_21 rfl fr_RX5_32 (okS hi hz (by decide) rfl) rfl (wS_5_0 hS) (by decide) (q_iload_n (pc' := 25) dX5_queuesAt_24 rfl rfl (q_iload (pc' := 27) dX5_queuesAt_25 rfl rfl (q_cVi (pc' := 30) dX5_queuesAt_27 rfl ml_RX5_165 yv_X0_queueCpus (by decide) (rn_X0_queueCpus hB hb hk hd (by omega) h3 hset) (by first | assumption | exact ⟨by omega, rfl⟩) rfl rfl (Nat.le_of_ble_eq_true rfl) (Nat.le_refl _) (q_iload_n (pc' := 31) dX5_queuesAt_30 rfl rfl ?_))))))))))))))
      refine q_iushr (pc' := 32) dX5_queuesAt_31 rfl (q_iconst (pc' := 33) _ dX5_queuesAt_32 rfl kk_iconst_1 (q_iand (pc' := 34) dX5_queuesAt_33 rfl ?_))
      refine q_top (ubit1 (by omega) (by omega)) ?_
      refine q_iadd dX5_queuesAt_34 rfl ?_
      refine q_top (nI_add _ _) ?_
      refine q_ist_3 (pc' := 36) dX5_queuesAt_35 rfl (by decide) rfl (q_inc_4 (pc' := 39) dX5_queuesAt_36 rfl (by decide) rfl (q_goto (pc' := 5) dX5_queuesAt_39 rfl ?_))
      exact ih (k + 1) (by omega)
  refine q_iconst (pc' := 1) _ dX5_queuesAt_0 rfl kk_iconst_0 (q_ist_3 (pc' := 2) dX5_queuesAt_1 rfl (by decide) rfl (q_iconst (pc' := 3) _ dX5_queuesAt_2 rfl kk_iconst_0 (q_ist_4 (pc' := 5) dX5_queuesAt_3 rfl (by decide) rfl ?_)))
  exact loop (b 2 d) 0 (by omega)
theorem rs_X5_reserve {d q : Nat} (hi : i < 21) (hS : mj_wS R i) (hB : mj_wB R 4) (hb : cB I b) (hk : bOK b) (h : cR I i b A) (hd : d < b 0 2) (hq : q < 8) (h3 : b 1 d = 3) (hset : b 3 d < 2 ^ b 0 0) : RsV w l yX5_reserve dd_X5_reserve [.ref (sA i 0), .int (nI d), .int (nI q)] (472, I, J, R) (fun I' => cR I' i b (itN (aRsT b d q) (b 0 0) A) ∧ mS i I I') := by
  have hz : 50 + 20 * i ≤ 472 := by omega
  have h10 := hk.2.2.1
  have hs := hk.2.2.2 d hd
  have h8 := hk.1.2
  have h32 := hk.2.1.2
  have hlt := aSpread_lt b hk d q
  refine rt_intro2 (L := [some (.ref (sA i 0)), some (.int (nI d)), some (.int (nI q)), none, none, none]) ⟨by decide, rfl, (fun h => by cases h)⟩ (Nat.le_of_ble_eq_true rfl) rfl (fun Y Q hQ => ?_)
  refine q_aload_n (pc' := 1) dX5_reserve_0 rfl rfl (q_getR (pc' := 4) dX5_reserve_1 rfl fr_RX5_32 (okS hi hz (by decide) rfl) rfl (wS_5_0 hS) (by decide) (q_iload_n (pc' := 5) dX5_reserve_4 rfl rfl (q_iload_n (pc' := 6) dX5_reserve_5 rfl rfl (q_cVi (pc' := 9) dX5_reserve_6 rfl ml_RX5_165 yv_X0_queueCpus (by decide) (rn_X0_queueCpus hB hb hk hd hq h3 hset) (by first | assumption | exact ⟨by omega, rfl⟩) rfl rfl (Nat.le_of_ble_eq_true rfl) (Nat.le_refl _) (q_ist_3 (pc' := 10) dX5_reserve_9 rfl (by decide) rfl (q_iconst (pc' := 11) _ dX5_reserve_10 rfl kk_iconst_0 (q_ist_4 (pc' := 13) dX5_reserve_11 rfl (by decide) rfl ?_)))))))
  have loop : ∀ m k I0 o5, k + m = b 0 0 → cR I0 i b (itN (aRsT b d q) k A) → mS i I I0 → Wq dd_X5_reserve (mj_mk w l 472 Y) Q 13 [some (.ref (sA i 0)), some (.int (nI d)), some (.int (nI q)), some (.int (nI (aSpread b d q))), some (.int (nI k)), o5] [] (472, I0, J, R) := by
    intro m
    induction m with
    | zero =>
      intro k I0 o5 hkm hr hm
      have hkz : k = b 0 0 := by omega
      subst hkz
      have eb : I0 4 0 = nI (b 0 0) := cB_0 (cB_S hm hb)
      exact q_iload (pc' := 15) dX5_reserve_13 rfl rfl (q_aload_n (pc' := 16) dX5_reserve_15 rfl rfl (q_getR (pc' := 19) dX5_reserve_16 rfl fr_RX5_32 (okS hi hz (by decide) rfl) rfl (wS_5_0 hS) (by decide) (q_getIe (pc' := 22) dX5_reserve_19 rfl fr_RX5_88 (by first | assumption | exact ⟨by omega, rfl⟩) rfl eb (q_icmp_ge (pc' := 25) (pt := 81) dX5_reserve_22 rfl rfl (fun _ => (q_vret dX5_reserve_81 rfl (hQ _ _ _ _ ⟨rfl, ⟨rfl, rfl⟩, hr, hm⟩))) (fun h9 => absurd (by (first | assumption | exact nI_le (by omega) (by omega) | exact nI_ge (by omega) (by omega) | exact nI_lt (by omega) (by omega) | exact nI_nlt (by omega) (by omega) | exact nI_ne (by omega) (by omega) (by omega) | exact nI_e (by omega) | decide)) h9)))))
    | succ m ih =>
      intro k I0 o5 hkm hr hm
      have eb : I0 4 0 = nI (b 0 0) := cB_0 (cB_S hm hb)
      have hb0 := cB_S hm hb
      have next := fun I1 o5 r1 f1 => ih (k + 1) I1 o5 (by omega) r1 f1
      have hstep : itN (aRsT b d q) (k + 1) A = aRsT b d q k (itN (aRsT b d q) k A) := rfl
      rw [hstep] at next
      generalize itN (aRsT b d q) k A = B at hr next
      have e := ubit (show aSpread b d q < 2 ^ 32 by omega) (show k < 32 by omega)
      by_cases hbit : (aSpread b d q).testBit k = true
      · rw [hbit, decide_eq_true_iff] at e
        cases hbk : aBlk b B k 1 with
        | none =>
          have er : aRsT b d q k B = B := by unfold aRsT; rw [if_pos hbit, hbk]
          rw [er] at next
          refine q_iload (pc' := 15) dX5_reserve_13 rfl rfl (q_aload_n (pc' := 16) dX5_reserve_15 rfl rfl (q_getR (pc' := 19) dX5_reserve_16 rfl fr_RX5_32 (okS hi hz (by decide) rfl) rfl (wS_5_0 hS) (by decide) (q_getIe (pc' := 22) dX5_reserve_19 rfl fr_RX5_88 (by first | assumption | exact ⟨by omega, rfl⟩) rfl eb (q_icmp_ge (pc' := 25) (pt := 81) dX5_reserve_22 rfl rfl (fun h9 => absurd h9 (by (first | assumption | exact nI_le (by omega) (by omega) | exact nI_ge (by omega) (by omega) | exact nI_lt (by omega) (by omega) | exact nI_nlt (by omega) (by omega) | exact nI_ne (by omega) (by omega) (by omega) | exact nI_e (by omega) | decide))) (fun _ => (q_aload_n (pc' := 26) dX5_reserve_25 rfl rfl (q_getR (pc' := 29) dX5_reserve_26 rfl fr_RX5_41 (okS hi hz (by decide) rfl) rfl (wS_5_1 hS) (sA_lt hi (by decide)) (q_iload (pc' := 31) dX5_reserve_29 rfl rfl (q_iconst (pc' := 32) _ dX5_reserve_31 rfl kk_iconst_1 (q_cVi (pc' := 35) dX5_reserve_32 rfl ml_RX5_168 yv_X4_firstBlock (by decide) (rn_X4_firstBlock hi hS hb0 hk hr.1 (by omega) ⟨by decide, by decide⟩) (okS hi hz (by decide) rfl) rfl rfl (Nat.le_of_ble_eq_true rfl) (Nat.le_refl _) (q_ist_5 (pc' := 37) dX5_reserve_35 rfl (by decide) rfl (q_iload_n (pc' := 38) dX5_reserve_37 rfl rfl (q_iload (pc' := 40) dX5_reserve_38 rfl rfl (q_iushr (pc' := 41) dX5_reserve_40 rfl ?_))))))))))))))
          refine q_iconst (pc' := 42) _ dX5_reserve_41 rfl kk_iconst_1 (q_iand (pc' := 43) dX5_reserve_42 rfl (q_iconst (pc' := 44) _ dX5_reserve_43 rfl kk_iconst_1 (q_icmp_ne (pc' := 47) (pt := 75) dX5_reserve_44 rfl rfl (fun h9 => absurd (e) h9) (fun _ => (q_iload (pc' := 49) dX5_reserve_47 rfl rfl (q_iconst (pc' := 50) _ dX5_reserve_49 rfl kk_iconst_m1 (q_icmp_eq (pc' := 53) (pt := 75) dX5_reserve_50 rfl rfl (fun _ => (q_inc_4 (pc' := 78) dX5_reserve_75 rfl (by decide) rfl (q_goto (pc' := 13) dX5_reserve_78 rfl ?_))) (fun h9 => absurd (by rw [hbk]; rfl) h9))))))))
          exact next I0 _ hr hm
        | some v =>
          have hv := aBlk_lt (by decide) hbk
          have er : aRsT b d q k B = aSets B (32 * k + v) 4 (8 * d + q + 1) := by unfold aRsT; rw [if_pos hbit, hbk]
          rw [er] at next
          have hput := rs_X4_put (w := w) (l := l) (J := J) (R := R) (k := 32 * k + v) (s := 4) (o := 8 * d + q + 1) hi hS hk hr.1 (by omega) (by rw [show (32 * k + v) % 32 = v by omega]; omega) (by decide)
          rw [lD_s] at hput
          refine q_iload (pc' := 15) dX5_reserve_13 rfl rfl (q_aload_n (pc' := 16) dX5_reserve_15 rfl rfl (q_getR (pc' := 19) dX5_reserve_16 rfl fr_RX5_32 (okS hi hz (by decide) rfl) rfl (wS_5_0 hS) (by decide) (q_getIe (pc' := 22) dX5_reserve_19 rfl fr_RX5_88 (by first | assumption | exact ⟨by omega, rfl⟩) rfl eb (q_icmp_ge (pc' := 25) (pt := 81) dX5_reserve_22 rfl rfl (fun h9 => absurd h9 (by (first | assumption | exact nI_le (by omega) (by omega) | exact nI_ge (by omega) (by omega) | exact nI_lt (by omega) (by omega) | exact nI_nlt (by omega) (by omega) | exact nI_ne (by omega) (by omega) (by omega) | exact nI_e (by omega) | decide))) (fun _ => (q_aload_n (pc' := 26) dX5_reserve_25 rfl rfl (q_getR (pc' := 29) dX5_reserve_26 rfl fr_RX5_41 (okS hi hz (by decide) rfl) rfl (wS_5_1 hS) (sA_lt hi (by decide)) (q_iload (pc' := 31) dX5_reserve_29 rfl rfl (q_iconst (pc' := 32) _ dX5_reserve_31 rfl kk_iconst_1 (q_cVi (pc' := 35) dX5_reserve_32 rfl ml_RX5_168 yv_X4_firstBlock (by decide) (rn_X4_firstBlock hi hS hb0 hk hr.1 (by omega) ⟨by decide, by decide⟩) (okS hi hz (by decide) rfl) rfl rfl (Nat.le_of_ble_eq_true rfl) (Nat.le_refl _) ?_))))))))))
          rw [hbk]
          refine q_top (y := nI v) (by show nI (1 * v) = nI v; rw [Nat.one_mul]) ?_
          refine q_ist_5 (pc' := 37) dX5_reserve_35 rfl (by decide) rfl (q_iload_n (pc' := 38) dX5_reserve_37 rfl rfl (q_iload (pc' := 40) dX5_reserve_38 rfl rfl (q_iushr (pc' := 41) dX5_reserve_40 rfl (q_iconst (pc' := 42) _ dX5_reserve_41 rfl kk_iconst_1 (q_iand (pc' := 43) dX5_reserve_42 rfl (q_iconst (pc' := 44) _ dX5_reserve_43 rfl kk_iconst_1 (q_icmp_ne (pc' := 47) (pt := 75) dX5_reserve_44 rfl rfl (fun h9 => absurd (e) h9) (fun _ => (q_iload (pc' := 49) dX5_reserve_47 rfl rfl (q_iconst (pc' := 50) _ dX5_reserve_49 rfl kk_iconst_m1 (q_icmp_eq (pc' := 53) (pt := 75) dX5_reserve_50 rfl rfl (fun h9 => absurd h9 (nI_m1 (by omega))) (fun _ => (q_aload_n (pc' := 54) dX5_reserve_53 rfl rfl (q_getR (pc' := 57) dX5_reserve_54 rfl fr_RX5_41 (okS hi hz (by decide) rfl) rfl (wS_5_1 hS) (sA_lt hi (by decide)) (q_iload (pc' := 59) dX5_reserve_57 rfl rfl ?_)))))))))))))))
          refine q_bipush (pc' := 61) _ dX5_reserve_59 rfl kk_bipush_32 (q_imul (pc' := 62) dX5_reserve_61 rfl (q_iload (pc' := 64) dX5_reserve_62 rfl rfl (q_iadd (pc' := 65) dX5_reserve_64 rfl ?_)))
          refine q_top (y := nI (32 * k + v)) (by rw [pk_mul, nI_add, Nat.mul_comm k 32]) ?_
          refine q_iconst (pc' := 66) _ dX5_reserve_65 rfl kk_iconst_4 (q_iload_n (pc' := 67) dX5_reserve_66 rfl rfl (q_bipush (pc' := 69) _ dX5_reserve_67 rfl kk_bipush_8 (q_imul (pc' := 70) dX5_reserve_69 rfl (q_iload_n (pc' := 71) dX5_reserve_70 rfl rfl (q_iadd (pc' := 72) dX5_reserve_71 rfl ?_)))))
          refine q_top (y := nI (8 * d + q)) (by rw [pk_mul, nI_add, Nat.mul_comm d 8]) ?_
          refine q_sVv (pc' := 75) dX5_reserve_72 rfl ml_RX5_100 yv_X4_put (by decide) (hput) (okS hi hz (by decide) rfl) rfl rfl (Nat.le_of_ble_eq_true rfl) (Nat.le_refl _) (fun I1 ⟨r1, f1⟩ => ?_)
          refine q_inc_4 (pc' := 78) dX5_reserve_75 rfl (by decide) rfl (q_goto (pc' := 13) dX5_reserve_78 rfl ?_)
          exact next I1 _ (cR_rows hr r1 f1 (fun g hg => by unfold aSets; rw [up_f (by omega), up_f (by omega)])) (hm.tr f1.s)
      · have er : aRsT b d q k B = B := by unfold aRsT; rw [if_neg hbit]
        rw [er] at next
        rw [Bool.not_eq_true] at hbit
        rw [hbit, decide_eq_false_iff_not] at e
        refine q_iload (pc' := 15) dX5_reserve_13 rfl rfl (q_aload_n (pc' := 16) dX5_reserve_15 rfl rfl (q_getR (pc' := 19) dX5_reserve_16 rfl fr_RX5_32 (okS hi hz (by decide) rfl) rfl (wS_5_0 hS) (by decide) (q_getIe (pc' := 22) dX5_reserve_19 rfl fr_RX5_88 (by first | assumption | exact ⟨by omega, rfl⟩) rfl eb (q_icmp_ge (pc' := 25) (pt := 81) dX5_reserve_22 rfl rfl (fun h9 => absurd h9 (by (first | assumption | exact nI_le (by omega) (by omega) | exact nI_ge (by omega) (by omega) | exact nI_lt (by omega) (by omega) | exact nI_nlt (by omega) (by omega) | exact nI_ne (by omega) (by omega) (by omega) | exact nI_e (by omega) | decide))) (fun _ => (q_aload_n (pc' := 26) dX5_reserve_25 rfl rfl (q_getR (pc' := 29) dX5_reserve_26 rfl fr_RX5_41 (okS hi hz (by decide) rfl) rfl (wS_5_1 hS) (sA_lt hi (by decide)) (q_iload (pc' := 31) dX5_reserve_29 rfl rfl (q_iconst (pc' := 32) _ dX5_reserve_31 rfl kk_iconst_1 (q_cVi (pc' := 35) dX5_reserve_32 rfl ml_RX5_168 yv_X4_firstBlock (by decide) (rn_X4_firstBlock hi hS hb0 hk hr.1 (by omega) ⟨by decide, by decide⟩) (okS hi hz (by decide) rfl) rfl rfl (Nat.le_of_ble_eq_true rfl) (Nat.le_refl _) (q_ist_5 (pc' := 37) dX5_reserve_35 rfl (by decide) rfl (q_iload_n (pc' := 38) dX5_reserve_37 rfl rfl (q_iload (pc' := 40) dX5_reserve_38 rfl rfl (q_iushr (pc' := 41) dX5_reserve_40 rfl ?_))))))))))))))
        refine q_iconst (pc' := 42) _ dX5_reserve_41 rfl kk_iconst_1 (q_iand (pc' := 43) dX5_reserve_42 rfl (q_iconst (pc' := 44) _ dX5_reserve_43 rfl kk_iconst_1 (q_icmp_ne (pc' := 47) (pt := 75) dX5_reserve_44 rfl rfl (fun _ => (q_inc_4 (pc' := 78) dX5_reserve_75 rfl (by decide) rfl (q_goto (pc' := 13) dX5_reserve_78 rfl ?_))) (fun h9 => absurd h9 (e)))))
        exact next I0 _ hr hm
  exact loop (b 0 0) 0 I _ (by omega) h mS.rf
theorem rn_X5_isAt {x p : Nat} {h : mj_H} (hx : x ≤ 256) (hp : p < 8) : Rn w l yX5_isAt dd_X5_isAt [.int (lD x), .int (nI p)] h (some (.int (bI (decide (x ≠ 0 ∧ (x - 1) / 32 = p))))) h := by
  refine rn_intro2 (L := [some (.int (lD x)), some (.int (nI p))]) ⟨by decide, rfl, (fun h => by cases h)⟩ (Nat.le_refl _) (Nat.le_of_ble_eq_true rfl) rfl (fun Y Q hQ => ?_)
  by_cases h0 : x = 0
  · rw [decide_eq_false (fun q => q.1 h0)] at hQ
    exact q_iload_n (pc' := 1) dX5_isAt_0 rfl rfl (q_iconst (pc' := 2) _ dX5_isAt_1 rfl kk_iconst_m1 (q_icmp_eq (pc' := 5) (pt := 17) dX5_isAt_2 rfl rfl (fun _ => (q_iconst (pc' := 18) _ dX5_isAt_17 rfl kk_iconst_0 (q_zret dX5_isAt_18 rfl (by first | exact Or.inl rfl | exact Or.inr rfl | exact bI_01 _) hQ))) (fun h9 => absurd (by rw [h0]; rfl) h9)))
  · have el : lD x = nI (x - 1) := lD_p (by omega)
    have ed := pk_div (a := x - 1) (d := 32) (by omega) (by decide) (by decide)
    rw [el]
    refine q_iload_n (pc' := 1) dX5_isAt_0 rfl rfl (q_iconst (pc' := 2) _ dX5_isAt_1 rfl kk_iconst_m1 (q_icmp_eq (pc' := 5) (pt := 17) dX5_isAt_2 rfl rfl (fun h9 => absurd h9 (nI_m1 (by omega))) (fun _ => (q_iload_n (pc' := 6) dX5_isAt_5 rfl rfl (q_bipush (pc' := 8) _ dX5_isAt_6 rfl kk_bipush_32 (q_idiv (pc' := 9) dX5_isAt_8 rfl (by decide) ?_))))))
    refine q_top ed ?_
    by_cases hc : (x - 1) / 32 = p
    · rw [decide_eq_true ⟨h0, hc⟩] at hQ
      exact q_iload_n (pc' := 10) dX5_isAt_9 rfl rfl (q_icmp_ne (pc' := 13) (pt := 17) dX5_isAt_10 rfl rfl (fun h9 => absurd (congrArg nI hc) h9) (fun _ => (q_iconst (pc' := 14) _ dX5_isAt_13 rfl kk_iconst_1 (q_goto (pc' := 18) dX5_isAt_14 rfl (q_zret dX5_isAt_18 rfl (by first | exact Or.inl rfl | exact Or.inr rfl | exact bI_01 _) hQ)))))
    · rw [decide_eq_false (fun q => hc q.2)] at hQ
      exact q_iload_n (pc' := 10) dX5_isAt_9 rfl rfl (q_icmp_ne (pc' := 13) (pt := 17) dX5_isAt_10 rfl rfl (fun _ => (q_iconst (pc' := 18) _ dX5_isAt_17 rfl kk_iconst_0 (q_zret dX5_isAt_18 rfl (by first | exact Or.inl rfl | exact Or.inr rfl | exact bI_01 _) hQ))) (fun h9 => absurd h9 (nI_ne hc (by omega) (by omega))))
theorem rn_X5_leastLoadedPlace {id set : Nat} (hi : i < 21) (hS : mj_wS R i) (hB : mj_wB R 4) (hb : cB I b) (hk : bOK b) (h : cR I i b A) (hA : aOK A) (hid : id < 80) (hd : id / 8 < b 0 2) (h3 : b 1 (id / 8) = 3) (hset : b 3 (id / 8) < 2 ^ b 0 0) : Rn w l yX5_leastLoadedPlace dd_X5_leastLoadedPlace [.ref (sA i 0), .int (nI id), .int (nI set)] (472, I, J, R) (some (.int (oI (aLp b A id set)))) (472, I, J, R) := by
  have hz : 50 + 20 * i ≤ 472 := by omega
  have h8 := hk.1.2
  have hlt := aSpread_lt b hk (id / 8) (id % 8)
  have e1 := pk_div (a := id) (d := 8) (by omega) (by decide) (by decide)
  have e2 := pk_rem (a := id) (d := 8) (by omega) (by decide) (by decide)
  have c4 := (hA.2.1 id hid).2.1
  have e4 : I (sA i 8) id = lD (A 4 id) := (h.2.2.2 id hid).2.1
  refine rn_intro2 (L := [some (.ref (sA i 0)), some (.int (nI id)), some (.int (nI set)), none, none]) ⟨by decide, rfl, (fun h => by cases h)⟩ (Nat.le_refl _) (Nat.le_of_ble_eq_true rfl) rfl (fun Y Q hQ => ?_)
  unfold aLp at hQ
  refine q_aload_n (pc' := 1) dX5_leastLoadedPlace_0 rfl rfl (q_getR (pc' := 4) dX5_leastLoadedPlace_1 rfl fr_RX5_32 (okS hi hz (by decide) rfl) rfl (wS_5_0 hS) (by decide) (q_iload_n (pc' := 5) dX5_leastLoadedPlace_4 rfl rfl (q_bipush (pc' := 7) _ dX5_leastLoadedPlace_5 rfl kk_bipush_8 (q_idiv (pc' := 8) dX5_leastLoadedPlace_7 rfl (by decide) ?_))))
  refine q_top e1 ?_
  refine q_iload_n (pc' := 9) dX5_leastLoadedPlace_8 rfl rfl (q_bipush (pc' := 11) _ dX5_leastLoadedPlace_9 rfl kk_bipush_8 (q_irem (pc' := 12) dX5_leastLoadedPlace_11 rfl (by decide) ?_))
  refine q_top e2 ?_
  refine q_cVi (pc' := 15) dX5_leastLoadedPlace_12 rfl ml_RX5_165 yv_X0_queueCpus (by decide) (rn_X0_queueCpus hB hb hk hd (Nat.mod_lt _ (by decide)) h3 hset) (by first | assumption | exact ⟨by omega, rfl⟩) rfl rfl (Nat.le_of_ble_eq_true rfl) (Nat.le_refl _) (q_ist_3 (pc' := 16) dX5_leastLoadedPlace_15 rfl (by decide) rfl (q_aload_n (pc' := 17) dX5_leastLoadedPlace_16 rfl rfl (q_getR (pc' := 20) dX5_leastLoadedPlace_17 rfl fr_RX5_41 (okS hi hz (by decide) rfl) rfl (wS_5_1 hS) (sA_lt hi (by decide)) (q_iload_n (pc' := 21) dX5_leastLoadedPlace_20 rfl rfl (q_iload_n (pc' := 22) dX5_leastLoadedPlace_21 rfl rfl (q_iand (pc' := 23) dX5_leastLoadedPlace_22 rfl ?_))))))
  refine q_top (nI_and _ _) ?_
  refine q_cVi (pc' := 26) dX5_leastLoadedPlace_23 rfl ml_RX5_171 yv_X4_leastLoaded (by decide) (rn_X4_leastLoaded hi hS hb hk h.1 (Nat.lt_of_le_of_lt Nat.and_le_left (by omega))) (okS hi hz (by decide) rfl) rfl rfl (Nat.le_of_ble_eq_true rfl) (Nat.le_refl _) ?_
  cases hl : aLeast b A (aSpread b (id / 8) (id % 8) &&& set) with
  | none =>
    rw [hl] at hQ
    exact q_ist_4 (pc' := 28) dX5_leastLoadedPlace_26 rfl (by decide) rfl (q_iload (pc' := 30) dX5_leastLoadedPlace_28 rfl rfl (q_iconst (pc' := 31) _ dX5_leastLoadedPlace_30 rfl kk_iconst_m1 (q_icmp_ne (pc' := 34) (pt := 36) dX5_leastLoadedPlace_31 rfl rfl (fun h9 => absurd (rfl) h9) (fun _ => (q_iconst (pc' := 35) _ dX5_leastLoadedPlace_34 rfl kk_iconst_m1 (q_iret dX5_leastLoadedPlace_35 rfl hQ))))))
  | some p =>
    have hp := (lstN_lt hl).1
    rw [hl] at hQ
    refine q_ist_4 (pc' := 28) dX5_leastLoadedPlace_26 rfl (by decide) rfl (q_iload (pc' := 30) dX5_leastLoadedPlace_28 rfl rfl (q_iconst (pc' := 31) _ dX5_leastLoadedPlace_30 rfl kk_iconst_m1 (q_icmp_ne (pc' := 34) (pt := 36) dX5_leastLoadedPlace_31 rfl rfl (fun _ => (q_aload_n (pc' := 37) dX5_leastLoadedPlace_36 rfl rfl (q_getR (pc' := 40) dX5_leastLoadedPlace_37 rfl fr_RX5_22 (okS hi hz (by decide) rfl) rfl (wS_5_6 hS) (sA_lt hi (by decide)) (q_iload_n (pc' := 41) dX5_leastLoadedPlace_40 rfl rfl (q_ialde (pc' := 42) (id) dX5_leastLoadedPlace_41 rfl (by first | exact ⟨by omega, rfl⟩ | exact okaS hi hz (by decide) rfl | assumption) (by (first | (simp only [nI_add, pk_mul]; done) | (simp only [nI_add, pk_mul]; exact nI_e (by omega)) | exact nI_e (by omega))) (by omega) e4 (q_iload (pc' := 44) dX5_leastLoadedPlace_42 rfl rfl (q_cSi (pc' := 47) dX5_leastLoadedPlace_44 rfl ml_RX5_174 ys_X5_isAt (by decide) (rn_X5_isAt c4 (by omega)) rfl rfl (Nat.le_of_ble_eq_true rfl) (Nat.le_refl _) ?_))))))) (fun h9 => absurd h9 (nI_m1 (by omega))))))
    by_cases hc : A 4 id ≠ 0 ∧ (A 4 id - 1) / 32 = p
    · have hQ2 : Q (some (.int (nI (A 4 id - 1)))) (472, I, J, R) := by
        have q : Q (some (.int (oI (if A 4 id ≠ 0 ∧ (A 4 id - 1) / 32 = p then some (A 4 id - 1) else aRsP b A id p)))) (472, I, J, R) := hQ
        rw [if_pos hc] at q; exact q
      have e4' : I (sA i 8) id = nI (A 4 id - 1) := e4.trans (lD_p (by have := hc.1; omega))
      exact q_ifb_eq (pc' := 50) (pt := 59) dX5_leastLoadedPlace_47 rfl rfl (fun h9 => Bool.noConfusion (Eq.trans (Eq.symm (decide_eq_true hc)) h9)) (fun _ => (q_aload_n (pc' := 51) dX5_leastLoadedPlace_50 rfl rfl (q_getR (pc' := 54) dX5_leastLoadedPlace_51 rfl fr_RX5_22 (okS hi hz (by decide) rfl) rfl (wS_5_6 hS) (sA_lt hi (by decide)) (q_iload_n (pc' := 55) dX5_leastLoadedPlace_54 rfl rfl (q_ialde (pc' := 56) (id) dX5_leastLoadedPlace_55 rfl (by first | exact ⟨by omega, rfl⟩ | exact okaS hi hz (by decide) rfl | assumption) (by (first | (simp only [nI_add, pk_mul]; done) | (simp only [nI_add, pk_mul]; exact nI_e (by omega)) | exact nI_e (by omega))) (by omega) e4' (q_goto (pc' := 69) dX5_leastLoadedPlace_56 rfl (q_iret dX5_leastLoadedPlace_69 rfl hQ2)))))))
    · have hQ2 : Q (some (.int (oI (aRsP b A id p)))) (472, I, J, R) := by
        have q : Q (some (.int (oI (if A 4 id ≠ 0 ∧ (A 4 id - 1) / 32 = p then some (A 4 id - 1) else aRsP b A id p)))) (472, I, J, R) := hQ
        rw [if_neg hc] at q; exact q
      exact q_ifb_eq (pc' := 50) (pt := 59) dX5_leastLoadedPlace_47 rfl rfl (fun _ => (q_aload_n (pc' := 60) dX5_leastLoadedPlace_59 rfl rfl (q_getR (pc' := 63) dX5_leastLoadedPlace_60 rfl fr_RX5_41 (okS hi hz (by decide) rfl) rfl (wS_5_1 hS) (sA_lt hi (by decide)) (q_iload (pc' := 65) dX5_leastLoadedPlace_63 rfl rfl (q_iload_n (pc' := 66) dX5_leastLoadedPlace_65 rfl rfl (q_cVi (pc' := 69) dX5_leastLoadedPlace_66 rfl ml_RX5_178 yv_X4_reservedPlace (by decide) (rn_X4_reservedPlace hi hS hb hk h.1 (fun k hk2 => (hA.1 k hk2).2.1) (by omega) hid) (okS hi hz (by decide) rfl) rfl rfl (Nat.le_of_ble_eq_true rfl) (Nat.le_refl _) (q_iret dX5_leastLoadedPlace_69 rfl hQ2))))))) (fun h9 => Bool.noConfusion (Eq.trans (Eq.symm (decide_eq_false hc)) h9))
end ST8
