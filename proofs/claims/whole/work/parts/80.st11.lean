/-! ===== the class: PLUG ===== -/
theorem cR_9 {I : mj_M} {i p x : Nat} {b A : St} {v : Int32} (hv : v = nI (bitN (fun e => mj_up A 9 p x 9 e == 1) (b 0 0))) (h : cR I i b A) : cR (mj_up I (sA i 11) 1 v) i b (mj_up A 9 p x) := by
  subst hv
  have n : ∀ e, e ≠ 11 → mj_up I (sA i 11) 1 (nI (bitN (fun e => mj_up A 9 p x 9 e == 1) (b 0 0))) (sA i e) = I (sA i e) := fun e he => up_fI (sA_ne he)
  refine ⟨⟨fun s hs q hq => ?_, fun q hq => ?_, fun k hk => ?_, ?_⟩, cRt_A (mj_up_ne (by decide)) (mj_up_ne (by decide)) (up_f (by decide)) (up_f (by decide)) (up_f (by decide)) (up_f (by decide)) (up_f (by decide)) (cRt_f (fun e h1 h2 => n e (by omega)) h.2.1), cRs_A (up_f (by decide)) (up_f (by decide)) (up_f (by decide)) (up_f (by decide)) (up_f (by decide)) (up_f (by decide)) (cRs_f (fun e he => n e (by omega)) h.2.2)⟩
  · rw [n (13 + s) (by omega), h.1.1 s hs q hq]; unfold cT; rw [up_f (by decide)]
  · rw [n 18 (by decide), h.1.2.1 q hq]; unfold cPe; rw [up_f (by decide)]
  · rw [n 19 (by decide), up_f (by decide)]; exact h.1.2.2.1 k hk
  · rw [mj_up_eq]; rfl
theorem cR_2 {I I' : mj_M} {i k x : Nat} {b A : St} (hr : cRr I' i b (mj_up A 2 k x)) (f : mSr i I I') (h : cR I i b A) : cR I' i b (mj_up A 2 k x) := cR_rows h hr f (fun g hg => up_f (by omega))
/-- nothing is PENDING there anyhow -/
theorem cR_2z {I : mj_M} {i k : Nat} {b A : St} (hk : bOK b) (h256 : k < 256) (hn : A 2 k ≠ 1) (h : cR I i b A) : cR I i b (mj_up A 2 k 0) := by
  have ek : 32 * (k / 32) + k % 32 = k := by omega
  refine cR_2 (cRr_pe hk h.1 ?_ (fun _ _ => rfl) (fun _ _ => rfl)) mSr.rf h
  rw [h.1.2.1 (k / 32) (by omega)]
  congr 1
  refine bitN_cong (fun u hu => ?_)
  by_cases eu : u = k % 32
  · rw [if_pos eu, eu, ek, beq_eq_false_iff_ne.mpr hn]; rfl
  · rw [if_neg eu]
/-- what else the class must know while a CPU comes -/
def gC2 (b : St) (p : Nat) (U : St → Prop) : Prop := (∀ B d q v, U B → d < b 0 2 → B 7 d = 1 → b 1 d = 3 → q < b 2 d → aResv b B (8 * d + q) p = some v → (aSpread b d q).testBit p = true) ∧ ∀ B k, U B → k < 256 → B 0 k = 4 → B 2 k ≠ 1
section ST11
variable {w : mj_Wd} {l : Launch} {I : mj_M} {J : mj_J} {R : mj_R} {b A : St} {i : Nat}
theorem rs_X5_openQueue {d q p : Nat} (hi : i < 21) (hS : mj_wS R i) (hb : cB I b) (hk : bOK b) (h : cR I i b A) (hA : aOK A) (hd : d < b 0 2) (hq : q < 8) (hp : p < b 0 0) (h1 : A 3 (8 * d + q) = 0 → (aSpread b d q).testBit p = true → ∃ v, aResv b A (8 * d + q) p = some v) (h2 : ∀ v, aResv b A (8 * d + q) p = some v → (aSpread b d q).testBit p = true) (h4 : ∀ k, k < 256 → A 0 k = 4 → A 2 k ≠ 1) : RsV w l yX5_openQueue dd_X5_openQueue [.ref (sA i 0), .int (nI (8 * d + q)), .int (nI p)] (472, I, J, R) (fun I' => cR I' i b (aPg1 b p d q A) ∧ mS i I I') := by
  have hz : 50 + 20 * i ≤ 472 := by omega
  have h10 := hk.2.2.1
  have h8 := hk.1.2
  have h32 := hk.2.1.2
  have e8 : 8 * d + q < 80 := by omega
  have hln := h.2.2.2 (8 * d + q) e8
  have hok := hA.2.1 (8 * d + q) e8
  refine rt_intro2 (L := [some (.ref (sA i 0)), some (.int (nI (8 * d + q))), some (.int (nI p)), none]) ⟨by decide, rfl, (fun h => by cases h)⟩ (Nat.le_of_ble_eq_true rfl) rfl (fun Y Q hQ => ?_)
  by_cases c3 : A 3 (8 * d + q) = 0
  · have e3 : I (sA i 7) (8 * d + q) = -1 := by rw [hln.1, c3]; rfl
    cases hr : aResv b A (8 * d + q) p with
    | none =>
      have hno : aPg1 b p d q A = A := if_neg (fun z => by obtain ⟨v, hv⟩ := h1 z.1 z.2; rw [hr] at hv; cases hv)
      rw [hno] at hQ
      have er : aRsP b A (8 * d + q) p = none := by unfold aRsP; rw [hr]; rfl
      refine q_aload_n (pc' := 1) dX5_openQueue_0 rfl rfl (q_getR (pc' := 4) dX5_openQueue_1 rfl fr_RX5_18 (okS hi hz (by decide) rfl) rfl (wS_5_5 hS) (sA_lt hi (by decide)) (q_iload_n (pc' := 5) dX5_openQueue_4 rfl rfl (q_ialde (pc' := 6) (8 * d + q) dX5_openQueue_5 rfl (by first | exact ⟨by omega, rfl⟩ | exact okaS hi hz (by decide) rfl | assumption) (by (first | (simp only [nI_add, pk_mul]; done) | (simp only [nI_add, pk_mul]; exact nI_e (by omega)) | exact nI_e (by omega))) (by omega) e3 (q_iconst (pc' := 7) _ dX5_openQueue_6 rfl kk_iconst_m1 (q_icmp_ne (pc' := 10) (pt := 22) dX5_openQueue_7 rfl rfl (fun h9 => absurd (rfl) h9) (fun _ => (q_aload_n (pc' := 11) dX5_openQueue_10 rfl rfl (q_getR (pc' := 14) dX5_openQueue_11 rfl fr_RX5_41 (okS hi hz (by decide) rfl) rfl (wS_5_1 hS) (sA_lt hi (by decide)) (q_iload_n (pc' := 15) dX5_openQueue_14 rfl rfl (q_iload_n (pc' := 16) dX5_openQueue_15 rfl rfl (q_cVi (pc' := 19) dX5_openQueue_16 rfl ml_RX5_178 yv_X4_reservedPlace (by decide) (rn_X4_reservedPlace hi hS hb hk h.1 (fun k hk2 => (hA.1 k hk2).2.1) (by omega) e8) (okS hi hz (by decide) rfl) rfl rfl (Nat.le_of_ble_eq_true rfl) (Nat.le_refl _) (q_goto (pc' := 23) dX5_openQueue_19 rfl ?_))))))))))))
      rw [er]
      exact q_ist_3 (pc' := 24) dX5_openQueue_23 rfl (by decide) rfl (q_iload_n (pc' := 25) dX5_openQueue_24 rfl rfl (q_iconst (pc' := 26) _ dX5_openQueue_25 rfl kk_iconst_m1 (q_icmp_ne (pc' := 29) (pt := 30) dX5_openQueue_26 rfl rfl (fun h9 => absurd (rfl) h9) (fun _ => (q_vret dX5_openQueue_29 rfl (hQ _ _ _ _ ⟨rfl, ⟨rfl, rfl⟩, h, mS.rf⟩))))))
    | some v =>
      have hrs := resv_some hr
      have hy : aPg1 b p d q A = mj_up (mj_up (aHolds A (8 * d + q) (32 * p + v)) 2 (32 * p + v) (A 6 (8 * d + q))) 6 (8 * d + q) 0 := by
        unfold aPg1
        rw [if_pos ⟨c3, h2 v hr⟩, hr]
        rfl
      rw [hy] at hQ
      have er : aRsP b A (8 * d + q) p = some (32 * p + v) := by unfold aRsP; rw [hr]; rfl
      have hv1 : 32 * p + v < 256 := by omega
      have hv2 : (32 * p + v) % 32 < b 0 1 := by rw [show (32 * p + v) % 32 = v by omega]; exact hrs.1
      have hnp := h4 _ hv1 hrs.2.1
      refine q_aload_n (pc' := 1) dX5_openQueue_0 rfl rfl (q_getR (pc' := 4) dX5_openQueue_1 rfl fr_RX5_18 (okS hi hz (by decide) rfl) rfl (wS_5_5 hS) (sA_lt hi (by decide)) (q_iload_n (pc' := 5) dX5_openQueue_4 rfl rfl (q_ialde (pc' := 6) (8 * d + q) dX5_openQueue_5 rfl (by first | exact ⟨by omega, rfl⟩ | exact okaS hi hz (by decide) rfl | assumption) (by (first | (simp only [nI_add, pk_mul]; done) | (simp only [nI_add, pk_mul]; exact nI_e (by omega)) | exact nI_e (by omega))) (by omega) e3 (q_iconst (pc' := 7) _ dX5_openQueue_6 rfl kk_iconst_m1 (q_icmp_ne (pc' := 10) (pt := 22) dX5_openQueue_7 rfl rfl (fun h9 => absurd (rfl) h9) (fun _ => (q_aload_n (pc' := 11) dX5_openQueue_10 rfl rfl (q_getR (pc' := 14) dX5_openQueue_11 rfl fr_RX5_41 (okS hi hz (by decide) rfl) rfl (wS_5_1 hS) (sA_lt hi (by decide)) (q_iload_n (pc' := 15) dX5_openQueue_14 rfl rfl (q_iload_n (pc' := 16) dX5_openQueue_15 rfl rfl (q_cVi (pc' := 19) dX5_openQueue_16 rfl ml_RX5_178 yv_X4_reservedPlace (by decide) (rn_X4_reservedPlace hi hS hb hk h.1 (fun k hk2 => (hA.1 k hk2).2.1) (by omega) e8) (okS hi hz (by decide) rfl) rfl rfl (Nat.le_of_ble_eq_true rfl) (Nat.le_refl _) (q_goto (pc' := 23) dX5_openQueue_19 rfl ?_))))))))))))
      rw [er]
      refine q_ist_3 (pc' := 24) dX5_openQueue_23 rfl (by decide) rfl (q_iload_n (pc' := 25) dX5_openQueue_24 rfl rfl (q_iconst (pc' := 26) _ dX5_openQueue_25 rfl kk_iconst_m1 (q_icmp_ne (pc' := 29) (pt := 30) dX5_openQueue_26 rfl rfl (fun _ => (q_aload_n (pc' := 31) dX5_openQueue_30 rfl rfl (q_iload_n (pc' := 32) dX5_openQueue_31 rfl rfl (q_iload_n (pc' := 33) dX5_openQueue_32 rfl rfl (q_sVv (pc' := 36) dX5_openQueue_33 rfl ml_RX5_144 yv_X5_hold (by decide) (rs_X5_hold hi hS hk h e8 hv1 hv2) (okS hi hz (by decide) rfl) rfl rfl (Nat.le_of_ble_eq_true rfl) (Nat.le_refl _) (fun I1 ⟨r1, f1⟩ => ?_)))))) (fun h9 => absurd h9 (nI_m1 (by omega))))))
      have e6 : I1 (sA i 10) (8 * d + q) = bI (A 6 (8 * d + q) == 1) := by
        rw [(r1.2.2.2 _ e8).2.2.2, holds_g (by decide) (by decide) (by decide)]
        exact bI_n hok.2.2.2
      have n2 : aHolds A (8 * d + q) (32 * p + v) 2 (32 * p + v) ≠ 1 := by rw [holds_g (by decide) (by decide) (by decide)]; exact hnp
      by_cases c6 : A 6 (8 * d + q) = 1
      · have r2 : cR (mj_up I1 (sA i 10) (8 * d + q) (nI 0)) i b (mj_up (aHolds A (8 * d + q) (32 * p + v)) 6 (8 * d + q) 0) := cR_ln (x := 0) (Or.inr (Or.inr (Or.inr ⟨rfl, rfl, rfl⟩))) r1
        refine q_aload_n (pc' := 37) dX5_openQueue_36 rfl rfl (q_getR (pc' := 40) dX5_openQueue_37 rfl fr_RX5_29 (okS hi hz (by decide) rfl) rfl (wS_5_8 hS) (sA_lt hi (by decide)) (q_iload_n (pc' := 41) dX5_openQueue_40 rfl rfl (q_zalde (pc' := 42) (8 * d + q) dX5_openQueue_41 rfl (by first | exact ⟨by omega, rfl⟩ | exact okaS hi hz (by decide) rfl | assumption) (by (first | (simp only [nI_add, pk_mul]; done) | (simp only [nI_add, pk_mul]; exact nI_e (by omega)) | exact nI_e (by omega))) (by omega) e6 (q_ifb_eq (pc' := 45) (pt := 60) dX5_openQueue_42 rfl rfl (fun h9 => Bool.noConfusion (Eq.trans (Eq.symm (beq_iff_eq.mpr c6)) h9)) (fun _ => (q_aload_n (pc' := 46) dX5_openQueue_45 rfl rfl (q_getR (pc' := 49) dX5_openQueue_46 rfl fr_RX5_29 (okS hi hz (by decide) rfl) rfl (wS_5_8 hS) (sA_lt hi (by decide)) (q_iload_n (pc' := 50) dX5_openQueue_49 rfl rfl (q_iconst (pc' := 51) _ dX5_openQueue_50 rfl kk_iconst_0 (q_zast (pc' := 52) (8 * d + q) dX5_openQueue_51 rfl (by first | exact ⟨by omega, rfl⟩ | exact okaS hi hz (by decide) rfl | assumption) (by (first | (simp only [nI_add, pk_mul]; done) | (simp only [nI_add, pk_mul]; exact nI_e (by omega)) | exact nI_e (by omega))) (by omega) (by first | exact Or.inl rfl | exact Or.inr rfl | exact bI_01 _) (q_aload_n (pc' := 53) dX5_openQueue_52 rfl rfl (q_getR (pc' := 56) dX5_openQueue_53 rfl fr_RX5_41 (okS hi hz (by decide) rfl) rfl (wS_5_1 hS) (sA_lt hi (by decide)) (q_iload_n (pc' := 57) dX5_openQueue_56 rfl rfl (q_sVv (pc' := 60) dX5_openQueue_57 rfl ml_RX5_117 yv_X4_pend (by decide) (rs_X4_pend hi hS hk r2.1 hv1 hv2) (okS hi hz (by decide) rfl) rfl rfl (Nat.le_of_ble_eq_true rfl) (Nat.le_refl _) (fun I2 ⟨r3, f3⟩ => ?_)))))))))))))))
        have r4 := cR_2 r3 f3 r2
        rw [mj_up_com (show (6:Nat) ≠ 2 by decide)] at r4
        refine q_vret dX5_openQueue_60 rfl (hQ _ _ _ _ ⟨rfl, ⟨rfl, rfl⟩, ?_, (f1.tr (mS_up (by decide))).tr f3.s⟩)
        rw [c6]
        exact r4
      · have c60 : A 6 (8 * d + q) = 0 := by omega
        have r2 := cR_2z hk hv1 n2 r1
        have e : mj_up (mj_up (aHolds A (8 * d + q) (32 * p + v)) 2 (32 * p + v) 0) 6 (8 * d + q) 0 = mj_up (aHolds A (8 * d + q) (32 * p + v)) 2 (32 * p + v) 0 := mj_up_self (by rw [mj_up_ne (by decide), holds_g (by decide) (by decide) (by decide)]; exact c60)
        rw [c60, e] at hQ
        exact q_aload_n (pc' := 37) dX5_openQueue_36 rfl rfl (q_getR (pc' := 40) dX5_openQueue_37 rfl fr_RX5_29 (okS hi hz (by decide) rfl) rfl (wS_5_8 hS) (sA_lt hi (by decide)) (q_iload_n (pc' := 41) dX5_openQueue_40 rfl rfl (q_zalde (pc' := 42) (8 * d + q) dX5_openQueue_41 rfl (by first | exact ⟨by omega, rfl⟩ | exact okaS hi hz (by decide) rfl | assumption) (by (first | (simp only [nI_add, pk_mul]; done) | (simp only [nI_add, pk_mul]; exact nI_e (by omega)) | exact nI_e (by omega))) (by omega) e6 (q_ifb_eq (pc' := 45) (pt := 60) dX5_openQueue_42 rfl rfl (fun _ => (q_vret dX5_openQueue_60 rfl (hQ _ _ _ _ ⟨rfl, ⟨rfl, rfl⟩, r2, f1⟩))) (fun h9 => Bool.noConfusion (Eq.trans (Eq.symm (beq_eq_false_iff_ne.mpr c6)) h9))))))
  · have hno : aPg1 b p d q A = A := if_neg (fun z => c3 z.1)
    rw [hno] at hQ
    have e3 : I (sA i 7) (8 * d + q) = nI (A 3 (8 * d + q) - 1) := hln.1.trans (lD_p (by omega))
    exact q_aload_n (pc' := 1) dX5_openQueue_0 rfl rfl (q_getR (pc' := 4) dX5_openQueue_1 rfl fr_RX5_18 (okS hi hz (by decide) rfl) rfl (wS_5_5 hS) (sA_lt hi (by decide)) (q_iload_n (pc' := 5) dX5_openQueue_4 rfl rfl (q_ialde (pc' := 6) (8 * d + q) dX5_openQueue_5 rfl (by first | exact ⟨by omega, rfl⟩ | exact okaS hi hz (by decide) rfl | assumption) (by (first | (simp only [nI_add, pk_mul]; done) | (simp only [nI_add, pk_mul]; exact nI_e (by omega)) | exact nI_e (by omega))) (by omega) e3 (q_iconst (pc' := 7) _ dX5_openQueue_6 rfl kk_iconst_m1 (q_icmp_ne (pc' := 10) (pt := 22) dX5_openQueue_7 rfl rfl (fun _ => (q_iconst (pc' := 23) _ dX5_openQueue_22 rfl kk_iconst_m1 (q_ist_3 (pc' := 24) dX5_openQueue_23 rfl (by decide) rfl (q_iload_n (pc' := 25) dX5_openQueue_24 rfl rfl (q_iconst (pc' := 26) _ dX5_openQueue_25 rfl kk_iconst_m1 (q_icmp_ne (pc' := 29) (pt := 30) dX5_openQueue_26 rfl rfl (fun h9 => absurd (rfl) h9) (fun _ => (q_vret dX5_openQueue_29 rfl (hQ _ _ _ _ ⟨rfl, ⟨rfl, rfl⟩, h, mS.rf⟩))))))))) (fun h9 => absurd h9 (nI_m1 (by omega))))))))
theorem rs_X5_comeBack {U : St → Prop} {p : Nat} (hi : i < 21) (hS : mj_wS R i) (hB : mj_wB R 4) (hb : cB I b) (hk : bOK b) (h : cR I i b A) (hU : gCl b p U) (hU2 : gC2 b p U) (hA0 : A 9 p ≠ 1 → U (mj_up A 9 p 1)) (hp : p < b 0 0) : RsI w l yX5_comeBack dd_X5_comeBack [.ref (sA i 0), .int (nI p)] (472, I, J, R) (fun x I' => x = nI (aPlug b A p).1 ∧ cR I' i b (aPlug b A p).2 ∧ mS i I I') := by
  have hz : 50 + 20 * i ≤ 472 := by omega
  have h10 := hk.2.2.1
  have h8 := hk.1.2
  refine rt_intro2 (L := [some (.ref (sA i 0)), some (.int (nI p)), none, none]) ⟨by decide, rfl, (fun h => by cases h)⟩ (Nat.le_of_ble_eq_true rfl) rfl (fun Y Q hQ => ?_)
  unfold aPlug at hQ
  by_cases c9 : A 9 p = 1
  · rw [if_pos c9] at hQ
    exact q_aload_n (pc' := 1) dX5_comeBack_0 rfl rfl (q_getR (pc' := 4) dX5_comeBack_1 rfl fr_RX5_41 (okS hi hz (by decide) rfl) rfl (wS_5_1 hS) (sA_lt hi (by decide)) (q_iload_n (pc' := 5) dX5_comeBack_4 rfl rfl (q_cVi (pc' := 8) dX5_comeBack_5 rfl ml_RX5_153 yv_X4_isOnline (by decide) (rn_X4_isOnline hi hk h.1 hp) (okS hi hz (by decide) rfl) rfl rfl (Nat.le_of_ble_eq_true rfl) (Nat.le_refl _) (q_ifb_eq (pc' := 11) (pt := 13) dX5_comeBack_8 rfl rfl (fun h9 => Bool.noConfusion (Eq.trans (Eq.symm (beq_iff_eq.mpr c9)) h9)) (fun _ => (q_iconst (pc' := 12) _ dX5_comeBack_11 rfl kk_iconst_4 (q_iret dX5_comeBack_12 rfl (hQ _ _ _ _ ⟨_, rfl, ⟨rfl, rfl⟩, rfl, h, mS.rf⟩))))))))
  · rw [if_neg c9] at hQ
    have hUA := hA0 c9
    refine q_aload_n (pc' := 1) dX5_comeBack_0 rfl rfl (q_getR (pc' := 4) dX5_comeBack_1 rfl fr_RX5_41 (okS hi hz (by decide) rfl) rfl (wS_5_1 hS) (sA_lt hi (by decide)) (q_iload_n (pc' := 5) dX5_comeBack_4 rfl rfl (q_cVi (pc' := 8) dX5_comeBack_5 rfl ml_RX5_153 yv_X4_isOnline (by decide) (rn_X4_isOnline hi hk h.1 hp) (okS hi hz (by decide) rfl) rfl rfl (Nat.le_of_ble_eq_true rfl) (Nat.le_refl _) (q_ifb_eq (pc' := 11) (pt := 13) dX5_comeBack_8 rfl rfl (fun _ => (q_aload_n (pc' := 14) dX5_comeBack_13 rfl rfl (q_getR (pc' := 17) dX5_comeBack_14 rfl fr_RX5_41 (okS hi hz (by decide) rfl) rfl (wS_5_1 hS) (sA_lt hi (by decide)) (q_dup_a (pc' := 18) dX5_comeBack_17 rfl (q_getIe (pc' := 21) dX5_comeBack_18 rfl fr_RX5_227 (okS hi hz (by decide) rfl) rfl h.1.2.2.2 (q_iconst (pc' := 22) _ dX5_comeBack_21 rfl kk_iconst_1 (q_iload_n (pc' := 23) dX5_comeBack_22 rfl rfl (q_ishl (pc' := 24) dX5_comeBack_23 rfl ?_)))))))) (fun h9 => Bool.noConfusion (Eq.trans (Eq.symm (beq_eq_false_iff_ne.mpr c9)) h9))))))
    refine q_top (sh32 p (by omega)) ?_
    refine q_ior dX5_comeBack_24 rfl ?_
    refine q_top (bit_on hp) ?_
    have h1 : cR (mj_up I (sA i 11) 1 (nI (bitN (fun e => mj_up A 9 p 1 9 e == 1) (b 0 0)))) i b (mj_up A 9 p 1) := cR_9 rfl h
    refine q_putI (pc' := 28) dX5_comeBack_25 rfl fl_RX5_227 (okS hi hz (by decide) rfl) rfl (q_iconst (pc' := 29) _ dX5_comeBack_28 rfl kk_iconst_0 (q_ist_2 (pc' := 30) dX5_comeBack_29 rfl (by decide) rfl ?_))
    generalize hI : mj_up I (sA i 11) 1 (nI (bitN (fun e => mj_up A 9 p 1 9 e == 1) (b 0 0))) = I1 at h1 ⊢
    have f1 : mS i I I1 := by rw [← hI]; exact mS_up (by decide)
    -- a DEVICE's QUEUES
    have inner : ∀ d B0, d < b 0 2 → U B0 → B0 7 d = 1 → b 1 d = 3 → (∀ I3 o3, cR I3 i b (itN (aPg1 b p d) (b 2 d) B0) → mS i I I3 → Wq dd_X5_comeBack (mj_mk w l 472 Y) Q 89 [some (.ref (sA i 0)), some (.int (nI p)), some (.int (nI d)), o3] [] (472, I3, J, R)) → ∀ m k I2, k + m = b 2 d → cR I2 i b (itN (aPg1 b p d) k B0) → mS i I I2 → Wq dd_X5_comeBack (mj_mk w l 472 Y) Q 43 [some (.ref (sA i 0)), some (.int (nI p)), some (.int (nI d)), some (.int (nI k))] [] (472, I2, J, R) := by
      intro d B0 hd hU0 h7 h3 hnext m
      have hs := hk.2.2.2 d hd
      induction m with
      | zero =>
        intro k I2 hkm hr hm
        have hkz : k = b 2 d := by omega
        subst hkz
        have hb2 := cB_S hm hb
        have hu := u_pg1 hU hd h3 hU0 h7 (b 2 d) (Nat.le_refl _)
        refine q_aload_n (pc' := 44) dX5_comeBack_43 rfl rfl (q_iload_n (pc' := 45) dX5_comeBack_44 rfl rfl (q_cVi (pc' := 48) dX5_comeBack_45 rfl ml_RX5_121 yv_X5_isStarted (by decide) (rn_X5_isStarted hi hr.2.2 (by omega)) (okS hi hz (by decide) rfl) rfl rfl (Nat.le_of_ble_eq_true rfl) (Nat.le_refl _) (q_ifb_eq (pc' := 51) (pt := 89) dX5_comeBack_48 rfl rfl (fun h9 => Bool.noConfusion (Eq.trans (Eq.symm (beq_iff_eq.mpr hu.2)) h9)) (fun _ => (q_aload_n (pc' := 52) dX5_comeBack_51 rfl rfl (q_iload_n (pc' := 53) dX5_comeBack_52 rfl rfl (q_cVi (pc' := 56) dX5_comeBack_53 rfl ml_RX5_104 yv_X5_isManaged (by decide) (rn_X5_isManaged hi hS hB hb2 hk hd) (okS hi hz (by decide) rfl) rfl rfl (Nat.le_of_ble_eq_true rfl) (Nat.le_refl _) (q_ifb_eq (pc' := 59) (pt := 89) dX5_comeBack_56 rfl rfl (fun h9 => Bool.noConfusion (Eq.trans (Eq.symm (beq_iff_eq.mpr h3)) h9)) (fun _ => (q_iload_n (pc' := 60) dX5_comeBack_59 rfl rfl (q_aload_n (pc' := 61) dX5_comeBack_60 rfl rfl (q_getR (pc' := 64) dX5_comeBack_61 rfl fr_RX5_32 (okS hi hz (by decide) rfl) rfl (wS_5_0 hS) (by decide) (q_getR (pc' := 67) dX5_comeBack_64 rfl fr_RX5_85 (by first | assumption | exact ⟨by omega, rfl⟩) rfl (wB_8 hB) (by omega) (q_iload_n (pc' := 68) dX5_comeBack_67 rfl rfl (q_ialde (pc' := 69) (d) dX5_comeBack_68 rfl (by first | exact ⟨by omega, rfl⟩ | exact okaS hi hz (by decide) rfl | assumption) (by (first | (simp only [nI_add, pk_mul]; done) | (simp only [nI_add, pk_mul]; exact nI_e (by omega)) | exact nI_e (by omega))) (by omega) (hb2.2 d hd).2.1 ?_)))))))))))))))
        refine q_icmp_ge (pc' := 72) (pt := 89) dX5_comeBack_69 rfl rfl (fun _ => ?_) (fun h9 => absurd (by (first | assumption | exact nI_le (by omega) (by omega) | exact nI_ge (by omega) (by omega) | exact nI_lt (by omega) (by omega) | exact nI_nlt (by omega) (by omega) | exact nI_ne (by omega) (by omega) (by omega) | exact nI_e (by omega) | decide)) h9)
        exact hnext I2 _ hr hm
      | succ m ih =>
        intro k I2 hkm hr hm
        have hb2 := cB_S hm hb
        have hu := u_pg1 hU hd h3 hU0 h7 k (by omega)
        refine q_aload_n (pc' := 44) dX5_comeBack_43 rfl rfl (q_iload_n (pc' := 45) dX5_comeBack_44 rfl rfl (q_cVi (pc' := 48) dX5_comeBack_45 rfl ml_RX5_121 yv_X5_isStarted (by decide) (rn_X5_isStarted hi hr.2.2 (by omega)) (okS hi hz (by decide) rfl) rfl rfl (Nat.le_of_ble_eq_true rfl) (Nat.le_refl _) (q_ifb_eq (pc' := 51) (pt := 89) dX5_comeBack_48 rfl rfl (fun h9 => Bool.noConfusion (Eq.trans (Eq.symm (beq_iff_eq.mpr hu.2)) h9)) (fun _ => (q_aload_n (pc' := 52) dX5_comeBack_51 rfl rfl (q_iload_n (pc' := 53) dX5_comeBack_52 rfl rfl (q_cVi (pc' := 56) dX5_comeBack_53 rfl ml_RX5_104 yv_X5_isManaged (by decide) (rn_X5_isManaged hi hS hB hb2 hk hd) (okS hi hz (by decide) rfl) rfl rfl (Nat.le_of_ble_eq_true rfl) (Nat.le_refl _) (q_ifb_eq (pc' := 59) (pt := 89) dX5_comeBack_56 rfl rfl (fun h9 => Bool.noConfusion (Eq.trans (Eq.symm (beq_iff_eq.mpr h3)) h9)) (fun _ => (q_iload_n (pc' := 60) dX5_comeBack_59 rfl rfl (q_aload_n (pc' := 61) dX5_comeBack_60 rfl rfl (q_getR (pc' := 64) dX5_comeBack_61 rfl fr_RX5_32 (okS hi hz (by decide) rfl) rfl (wS_5_0 hS) (by decide) (q_getR (pc' := 67) dX5_comeBack_64 rfl fr_RX5_85 (by first | assumption | exact ⟨by omega, rfl⟩) rfl (wB_8 hB) (by omega) (q_iload_n (pc' := 68) dX5_comeBack_67 rfl rfl (q_ialde (pc' := 69) (d) dX5_comeBack_68 rfl (by first | exact ⟨by omega, rfl⟩ | exact okaS hi hz (by decide) rfl | assumption) (by (first | (simp only [nI_add, pk_mul]; done) | (simp only [nI_add, pk_mul]; exact nI_e (by omega)) | exact nI_e (by omega))) (by omega) (hb2.2 d hd).2.1 ?_)))))))))))))))
        refine q_icmp_ge (pc' := 72) (pt := 89) dX5_comeBack_69 rfl rfl (fun h9 => absurd h9 (by (first | assumption | exact nI_le (by omega) (by omega) | exact nI_ge (by omega) (by omega) | exact nI_lt (by omega) (by omega) | exact nI_nlt (by omega) (by omega) | exact nI_ne (by omega) (by omega) (by omega) | exact nI_e (by omega) | decide))) (fun _ => (q_aload_n (pc' := 73) dX5_comeBack_72 rfl rfl (q_iload_n (pc' := 74) dX5_comeBack_73 rfl rfl (q_bipush (pc' := 76) _ dX5_comeBack_74 rfl kk_bipush_8 (q_imul (pc' := 77) dX5_comeBack_76 rfl (q_iload_n (pc' := 78) dX5_comeBack_77 rfl rfl (q_iadd (pc' := 79) dX5_comeBack_78 rfl ?_)))))))
        refine q_top (y := nI (8 * d + k)) (by rw [pk_mul, nI_add, Nat.mul_comm d 8]) ?_
        refine q_iload_n (pc' := 80) dX5_comeBack_79 rfl rfl (q_sVv (pc' := 83) dX5_comeBack_80 rfl ml_RX5_245 yv_X5_openQueue (by decide) (rs_X5_openQueue hi hS hb2 hk hr (hU.1 _ hu.1) hd (by omega) hp (fun z1 z2 => hU.2.1 _ d k hu.1 hd hu.2 h3 (by omega) z1 z2) (fun v hv => hU2.1 _ d k v hu.1 hd hu.2 h3 (by omega) hv) (fun k hk2 => hU2.2 _ k hu.1 hk2)) (okS hi hz (by decide) rfl) rfl rfl (Nat.le_of_ble_eq_true rfl) (Nat.le_refl _) (fun I3 ⟨r3, f3⟩ => ?_))
        refine q_inc_3 (pc' := 86) dX5_comeBack_83 rfl (by decide) rfl (q_goto (pc' := 43) dX5_comeBack_86 rfl ?_)
        exact ih (k + 1) I3 (by omega) r3 (hm.tr f3)
    have hul : ∀ n, n ≤ b 0 2 → U (itN (aPgD b p) n (mj_up A 9 p 1)) := fun n hn => itN_P (n := b 0 2) hUA (fun d B hd hB => by
      unfold aPgD
      split
      · rename_i hc; exact (u_pg1 hU hd hc.2 hB hc.1 _ (Nat.le_refl _)).1
      · exact hB) n hn
    have loop : ∀ m d I2 o3, d + m = b 0 2 → cR I2 i b (itN (aPgD b p) d (mj_up A 9 p 1)) → mS i I I2 → Wq dd_X5_comeBack (mj_mk w l 472 Y) Q 30 [some (.ref (sA i 0)), some (.int (nI p)), some (.int (nI d)), o3] [] (472, I2, J, R) := by
      intro m
      induction m with
      | zero =>
        intro d I2 o3 hdm hr hm
        have hdz : d = b 0 2 := by omega
        subst hdz
        have eb : I2 4 4 = nI (b 0 2) := cB_4 (cB_S hm hb)
        exact q_iload_n (pc' := 31) dX5_comeBack_30 rfl rfl (q_aload_n (pc' := 32) dX5_comeBack_31 rfl rfl (q_getR (pc' := 35) dX5_comeBack_32 rfl fr_RX5_32 (okS hi hz (by decide) rfl) rfl (wS_5_0 hS) (by decide) (q_getIe (pc' := 38) dX5_comeBack_35 rfl fr_RX5_79 (by first | assumption | exact ⟨by omega, rfl⟩) rfl eb (q_icmp_ge (pc' := 41) (pt := 95) dX5_comeBack_38 rfl rfl (fun _ => (q_iconst (pc' := 96) _ dX5_comeBack_95 rfl kk_iconst_0 (q_iret dX5_comeBack_96 rfl (hQ _ _ _ _ ⟨_, rfl, ⟨rfl, rfl⟩, rfl, hr, hm⟩)))) (fun h9 => absurd (by (first | assumption | exact nI_le (by omega) (by omega) | exact nI_ge (by omega) (by omega) | exact nI_lt (by omega) (by omega) | exact nI_nlt (by omega) (by omega) | exact nI_ne (by omega) (by omega) (by omega) | exact nI_e (by omega) | decide)) h9)))))
      | succ m ih =>
        intro d I2 o3 hdm hr hm
        have hd : d < b 0 2 := by omega
        have hb2 := cB_S hm hb
        have eb : I2 4 4 = nI (b 0 2) := cB_4 hb2
        have hu := hul d (by omega)
        have next := fun I3 o3 r3 f3 => ih (d + 1) I3 o3 (by omega) r3 f3
        have hst : itN (aPgD b p) (d + 1) (mj_up A 9 p 1) = (if itN (aPgD b p) d (mj_up A 9 p 1) 7 d = 1 ∧ b 1 d = 3 then itN (aPg1 b p d) (b 2 d) (itN (aPgD b p) d (mj_up A 9 p 1)) else itN (aPgD b p) d (mj_up A 9 p 1)) := rfl
        rw [hst] at next
        generalize itN (aPgD b p) d (mj_up A 9 p 1) = B at hr hu next
        by_cases hc : B 7 d = 1 ∧ b 1 d = 3
        · rw [if_pos hc] at next
          refine q_iload_n (pc' := 31) dX5_comeBack_30 rfl rfl (q_aload_n (pc' := 32) dX5_comeBack_31 rfl rfl (q_getR (pc' := 35) dX5_comeBack_32 rfl fr_RX5_32 (okS hi hz (by decide) rfl) rfl (wS_5_0 hS) (by decide) (q_getIe (pc' := 38) dX5_comeBack_35 rfl fr_RX5_79 (by first | assumption | exact ⟨by omega, rfl⟩) rfl eb (q_icmp_ge (pc' := 41) (pt := 95) dX5_comeBack_38 rfl rfl (fun h9 => absurd h9 (by (first | assumption | exact nI_le (by omega) (by omega) | exact nI_ge (by omega) (by omega) | exact nI_lt (by omega) (by omega) | exact nI_nlt (by omega) (by omega) | exact nI_ne (by omega) (by omega) (by omega) | exact nI_e (by omega) | decide))) (fun _ => (q_iconst (pc' := 42) _ dX5_comeBack_41 rfl kk_iconst_0 (q_ist_3 (pc' := 43) dX5_comeBack_42 rfl (by decide) rfl ?_)))))))
          refine inner d B hd hu hc.1 hc.2 (fun I3 o3 r3 f3 => ?_) (b 2 d) 0 I2 (by omega) hr hm
          refine q_inc_2 (pc' := 92) dX5_comeBack_89 rfl (by decide) rfl (q_goto (pc' := 30) dX5_comeBack_92 rfl ?_)
          exact next I3 _ r3 f3
        · rw [if_neg hc] at next
          by_cases h7 : B 7 d = 1
          · have h3 : b 1 d ≠ 3 := fun q => hc ⟨h7, q⟩
            refine q_iload_n (pc' := 31) dX5_comeBack_30 rfl rfl (q_aload_n (pc' := 32) dX5_comeBack_31 rfl rfl (q_getR (pc' := 35) dX5_comeBack_32 rfl fr_RX5_32 (okS hi hz (by decide) rfl) rfl (wS_5_0 hS) (by decide) (q_getIe (pc' := 38) dX5_comeBack_35 rfl fr_RX5_79 (by first | assumption | exact ⟨by omega, rfl⟩) rfl eb (q_icmp_ge (pc' := 41) (pt := 95) dX5_comeBack_38 rfl rfl (fun h9 => absurd h9 (by (first | assumption | exact nI_le (by omega) (by omega) | exact nI_ge (by omega) (by omega) | exact nI_lt (by omega) (by omega) | exact nI_nlt (by omega) (by omega) | exact nI_ne (by omega) (by omega) (by omega) | exact nI_e (by omega) | decide))) (fun _ => (q_iconst (pc' := 42) _ dX5_comeBack_41 rfl kk_iconst_0 (q_ist_3 (pc' := 43) dX5_comeBack_42 rfl (by decide) rfl (q_aload_n (pc' := 44) dX5_comeBack_43 rfl rfl (q_iload_n (pc' := 45) dX5_comeBack_44 rfl rfl (q_cVi (pc' := 48) dX5_comeBack_45 rfl ml_RX5_121 yv_X5_isStarted (by decide) (rn_X5_isStarted hi hr.2.2 (by omega)) (okS hi hz (by decide) rfl) rfl rfl (Nat.le_of_ble_eq_true rfl) (Nat.le_refl _) (q_ifb_eq (pc' := 51) (pt := 89) dX5_comeBack_48 rfl rfl (fun h9 => Bool.noConfusion (Eq.trans (Eq.symm (beq_iff_eq.mpr h7)) h9)) (fun _ => (q_aload_n (pc' := 52) dX5_comeBack_51 rfl rfl (q_iload_n (pc' := 53) dX5_comeBack_52 rfl rfl (q_cVi (pc' := 56) dX5_comeBack_53 rfl ml_RX5_104 yv_X5_isManaged (by decide) (rn_X5_isManaged hi hS hB hb2 hk hd) (okS hi hz (by decide) rfl) rfl rfl (Nat.le_of_ble_eq_true rfl) (Nat.le_refl _) ?_)))))))))))))))
            refine q_ifb_eq (pc' := 59) (pt := 89) dX5_comeBack_56 rfl rfl (fun _ => (q_inc_2 (pc' := 92) dX5_comeBack_89 rfl (by decide) rfl (q_goto (pc' := 30) dX5_comeBack_92 rfl ?_))) (fun h9 => Bool.noConfusion (Eq.trans (Eq.symm (beq_eq_false_iff_ne.mpr h3)) h9))
            exact next I2 _ hr hm
          · refine q_iload_n (pc' := 31) dX5_comeBack_30 rfl rfl (q_aload_n (pc' := 32) dX5_comeBack_31 rfl rfl (q_getR (pc' := 35) dX5_comeBack_32 rfl fr_RX5_32 (okS hi hz (by decide) rfl) rfl (wS_5_0 hS) (by decide) (q_getIe (pc' := 38) dX5_comeBack_35 rfl fr_RX5_79 (by first | assumption | exact ⟨by omega, rfl⟩) rfl eb (q_icmp_ge (pc' := 41) (pt := 95) dX5_comeBack_38 rfl rfl (fun h9 => absurd h9 (by (first | assumption | exact nI_le (by omega) (by omega) | exact nI_ge (by omega) (by omega) | exact nI_lt (by omega) (by omega) | exact nI_nlt (by omega) (by omega) | exact nI_ne (by omega) (by omega) (by omega) | exact nI_e (by omega) | decide))) (fun _ => (q_iconst (pc' := 42) _ dX5_comeBack_41 rfl kk_iconst_0 (q_ist_3 (pc' := 43) dX5_comeBack_42 rfl (by decide) rfl (q_aload_n (pc' := 44) dX5_comeBack_43 rfl rfl (q_iload_n (pc' := 45) dX5_comeBack_44 rfl rfl (q_cVi (pc' := 48) dX5_comeBack_45 rfl ml_RX5_121 yv_X5_isStarted (by decide) (rn_X5_isStarted hi hr.2.2 (by omega)) (okS hi hz (by decide) rfl) rfl rfl (Nat.le_of_ble_eq_true rfl) (Nat.le_refl _) (q_ifb_eq (pc' := 51) (pt := 89) dX5_comeBack_48 rfl rfl (fun _ => (q_inc_2 (pc' := 92) dX5_comeBack_89 rfl (by decide) rfl (q_goto (pc' := 30) dX5_comeBack_92 rfl ?_))) (fun h9 => Bool.noConfusion (Eq.trans (Eq.symm (beq_eq_false_iff_ne.mpr h7)) h9)))))))))))))
            exact next I2 _ hr hm
    exact loop (b 0 2) 0 I1 _ (by omega) h1 f1
end ST11
