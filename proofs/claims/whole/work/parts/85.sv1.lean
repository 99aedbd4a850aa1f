/-! ===== the class: Survey ===== -/
theorem balL_33 {b A : St} {k : Nat} (hl : ∀ p, aLoad b A p ≤ 32) : (balL b A k = 33 → balM b A k = 0) ∧ (balL b A k ≤ 32 → balL b A k ≤ balM b A k) := by
  induction k with
  | zero => exact ⟨fun _ => rfl, fun h => absurd h (by unfold balL; decide)⟩
  | succ k ih =>
    have h1 := hl k
    have h2 := balL_le b A k
    unfold balL balM
    by_cases c : A 9 k = 1
    · rw [if_pos c, if_pos c]
      refine ⟨fun h => by omega, fun h => ?_⟩
      omega
    · rw [if_neg c, if_neg c]; exact ih
theorem load_32 {b A : St} (hk : bOK b) (p : Nat) : aLoad b A p ≤ 32 := by
  rw [← load_e hk]
  exact cntN_le _ _
/-- room, as the class counts it -/
def cBlks (b A : St) (n m : Nat) : Nat := sumN (fun p => if A 9 p = 1 then cntN (aBl A p n) (b 0 1 / n) else 0) m
def cRoom (b A : St) (n : Nat) : Nat := min (cBlks b A n (b 0 0)) ((aFree b A - aProm b A) / n)
section SV1
variable {w : mj_Wd} {l : Launch} {I : mj_M} {J : mj_J} {R : mj_R} {b A : St} {i : Nat}
theorem rn_maxI {x y : Int32} {h : mj_H} : Rn w l yJ9_max_7cf53 dd_J9_max_7cf53 [.int x, .int y] h (some (.int (if x < y then y else x))) h := by
  refine rn_intro2F (L := [some (.int x), some (.int y)]) ⟨by decide +kernel, rfl, (fun h => by cases h)⟩ (Nat.le_refl _) (Nat.le_of_ble_eq_true rfl) rfl (fun Y Q hQ => ?_)
  by_cases hc : x < y
  · rw [if_pos hc] at hQ
    exact q_iload_n (pc' := 1) dJ9_max_7cf53_0 rfl rfl (q_iload_n (pc' := 2) dJ9_max_7cf53_1 rfl rfl (q_icmp_lt (pc' := 5) (pt := 9) dJ9_max_7cf53_2 rfl rfl (fun _ => (q_iload_n (pc' := 10) dJ9_max_7cf53_9 rfl rfl (q_iret dJ9_max_7cf53_10 rfl hQ))) (fun h9 => absurd (hc) h9)))
  · rw [if_neg hc] at hQ
    exact q_iload_n (pc' := 1) dJ9_max_7cf53_0 rfl rfl (q_iload_n (pc' := 2) dJ9_max_7cf53_1 rfl rfl (q_icmp_lt (pc' := 5) (pt := 9) dJ9_max_7cf53_2 rfl rfl (fun h9 => absurd h9 (hc)) (fun _ => (q_iload_n (pc' := 6) dJ9_max_7cf53_5 rfl rfl (q_goto (pc' := 10) dJ9_max_7cf53_6 rfl (q_iret dJ9_max_7cf53_10 rfl hQ))))))
theorem max_0 {f p : Nat} (hf : f < 2 ^ 30) (hp : p < 2 ^ 30) : (if nI f - nI p < nI 0 then nI 0 else nI f - nI p) = nI (f - p) := by
  by_cases h : p ≤ f
  · rw [nI_sb h, if_neg (Int32.not_lt.mpr (nI_le (Nat.zero_le _) (by omega)))]
  · have h1 : nI f - nI p = -(nI (p - f)) := by
      rw [← nI_sb (show f ≤ p by omega)]
      simp [Int32.neg_sub]
    have h2 : nI f - nI p < nI 0 := by
      rw [h1]
      apply Int32.lt_iff_toInt_lt.mpr
      have e1 : (nI (p - f)).toInt = ((p - f : Nat) : Int) := nI_toInt (by omega)
      rw [Int32.toInt_neg, e1, nI_toInt (show 0 < 2 ^ 31 by decide)]
      rw [Int.bmod_def]
      omega
    rw [if_pos h2, show f - p = 0 by omega]
theorem rn_X7_heldLines (hi : i < 21) (hS : mj_wS R i) (hV : mj_wV R) (hb : cB I b) (hk : bOK b) (h : cRr I i b A) : Rn w l yX7_heldLines dd_X7_heldLines [.ref 450, .ref (sA i 11)] (472, I, J, R) (some (.int (nI (aHeld b A)))) (472, I, J, R) := by
  have hz : 50 + 20 * i ≤ 472 := by omega
  have h8 := hk.1.2
  unfold aHeld
  refine rn_intro2 (L := [some (.ref 450), some (.ref (sA i 11)), none, none]) ⟨by decide, rfl, (fun h => by cases h)⟩ (Nat.le_refl _) (Nat.le_of_ble_eq_true rfl) rfl (fun Y Q hQ => ?_)
  have loop : ∀ m k, k + m = b 0 0 → Wq dd_X7_heldLines (mj_mk w l 472 Y) Q 4 [some (.ref 450), some (.ref (sA i 11)), some (.int (nI (sumN (fun p => aCnt b A p 2) k))), some (.int (nI k))] [] (472, I, J, R) := by
    intro m
    induction m with
    | zero =>
      intro k hkm
      have hkz : k = b 0 0 := by omega
      subst hkz
      exact q_iload_n (pc' := 5) dX7_heldLines_4 rfl rfl (q_aload_n (pc' := 6) dX7_heldLines_5 rfl rfl (q_getR (pc' := 9) dX7_heldLines_6 rfl fr_RX7_18 ⟨by omega, rfl⟩ rfl (wV_7_0 hV) (by decide) (q_getIe (pc' := 12) dX7_heldLines_9 rfl fr_RX7_22 (by first | assumption | exact ⟨by omega, rfl⟩) rfl (cB_0 hb) (q_icmp_ge (pc' := 15) (pt := 30) dX7_heldLines_12 rfl rfl (fun _ => (q_iload_n (pc' := 31) dX7_heldLines_30 rfl rfl (q_iret dX7_heldLines_31 rfl hQ))) (fun h9 => absurd (by (first | assumption | exact nI_le (by omega) (by omega) | exact nI_ge (by omega) (by omega) | exact nI_lt (by omega) (by omega) | exact nI_nlt (by omega) (by omega) | exact nI_ne (by omega) (by omega) (by omega) | exact nI_e (by omega) | decide)) h9)))))
    | succ m ih =>
      intro k hkm
      refine q_iload_n (pc' := 5) dX7_heldLines_4 rfl rfl (q_aload_n (pc' := 6) dX7_heldLines_5 rfl rfl (q_getR (pc' := 9) dX7_heldLines_6 rfl fr_RX7_18 ⟨by omega, rfl⟩ rfl (wV_7_0 hV) (by decide) (q_getIe (pc' := 12) dX7_heldLines_9 rfl fr_RX7_22 (by first | assumption | exact ⟨by omega, rfl⟩) rfl (cB_0 hb) (q_icmp_ge (pc' := 15) (pt := 30) dX7_heldLines_12 rfl rfl (fun h9 => absurd h9 (by (first | assumption | exact nI_le (by omega) (by omega) | exact nI_ge (by omega) (by omega) | exact nI_lt (by omega) (by omega) | exact nI_nlt (by omega) (by omega) | exact nI_ne (by omega) (by omega) (by omega) | exact nI_e (by omega) | decide))) (fun _ => (q_iload_n (pc' := 16) dX7_heldLines_15 rfl rfl (q_aload_n (pc' := 17) dX7_heldLines_16 rfl rfl (q_iconst (pc' := 18) _ dX7_heldLines_17 rfl kk_iconst_2 (q_iload_n (pc' := 19) dX7_heldLines_18 rfl rfl (q_cVi (pc' := 22) dX7_heldLines_19 rfl ml_RX7_71 yv_X4_howMany (by decide) (rn_X4_howMany (s := 2) hi hS hk h (by omega) (by decide)) (okS hi hz (by decide) rfl) rfl rfl (Nat.le_of_ble_eq_true rfl) (Nat.le_refl _) ?_))))))))))
      refine q_iadd dX7_heldLines_22 rfl ?_
      refine q_top (nI_add _ _) ?_
      refine q_ist_2 (pc' := 24) dX7_heldLines_23 rfl (by decide) rfl (q_inc_3 (pc' := 27) dX7_heldLines_24 rfl (by decide) rfl (q_goto (pc' := 4) dX7_heldLines_27 rfl ?_))
      exact ih (k + 1) (by omega)
  refine q_iconst (pc' := 1) _ dX7_heldLines_0 rfl kk_iconst_0 (q_ist_2 (pc' := 2) dX7_heldLines_1 rfl (by decide) rfl (q_iconst (pc' := 3) _ dX7_heldLines_2 rfl kk_iconst_0 (q_ist_3 (pc' := 4) dX7_heldLines_3 rfl (by decide) rfl ?_)))
  exact loop (b 0 0) 0 (by omega)
theorem rn_X7_ticksUntilQuiet (hi : i < 21) (hS : mj_wS R i) (hV : mj_wV R) (hb : cB I b) (hk : bOK b) (h : cRr I i b A) (hA : aOK A) : Rn w l yX7_ticksUntilQuiet dd_X7_ticksUntilQuiet [.ref 450, .ref (sA i 11)] (472, I, J, R) (some (.int (nI (qQuiet b A (b 0 0))))) (472, I, J, R) := by
  have hz : 50 + 20 * i ≤ 472 := by omega
  have h8 := hk.1.2
  have hv := hk.2.1.2
  have ep : ∀ p, p < 8 → bcN (cPe b A p) = aPend b A p := fun p hp => by
    unfold cPe aPend
    rw [bcN_bitN hv]
    exact cnt_sum (fun v hv2 => (hA.1 (32 * p + v) (by omega)).2.2)
  refine rn_intro2 (L := [some (.ref 450), some (.ref (sA i 11)), none, none]) ⟨by decide, rfl, (fun h => by cases h)⟩ (Nat.le_refl _) (Nat.le_of_ble_eq_true rfl) rfl (fun Y Q hQ => ?_)
  have loop : ∀ m k, k + m = b 0 0 → Wq dd_X7_ticksUntilQuiet (mj_mk w l 472 Y) Q 4 [some (.ref 450), some (.ref (sA i 11)), some (.int (nI (qQuiet b A k))), some (.int (nI k))] [] (472, I, J, R) := by
    intro m
    induction m with
    | zero =>
      intro k hkm
      have hkz : k = b 0 0 := by omega
      subst hkz
      exact q_iload_n (pc' := 5) dX7_ticksUntilQuiet_4 rfl rfl (q_aload_n (pc' := 6) dX7_ticksUntilQuiet_5 rfl rfl (q_getR (pc' := 9) dX7_ticksUntilQuiet_6 rfl fr_RX7_18 ⟨by omega, rfl⟩ rfl (wV_7_0 hV) (by decide) (q_getIe (pc' := 12) dX7_ticksUntilQuiet_9 rfl fr_RX7_22 (by first | assumption | exact ⟨by omega, rfl⟩) rfl (cB_0 hb) (q_icmp_ge (pc' := 15) (pt := 47) dX7_ticksUntilQuiet_12 rfl rfl (fun _ => (q_iload_n (pc' := 48) dX7_ticksUntilQuiet_47 rfl rfl (q_iret dX7_ticksUntilQuiet_48 rfl hQ))) (fun h9 => absurd (by (first | assumption | exact nI_le (by omega) (by omega) | exact nI_ge (by omega) (by omega) | exact nI_lt (by omega) (by omega) | exact nI_nlt (by omega) (by omega) | exact nI_ne (by omega) (by omega) (by omega) | exact nI_e (by omega) | decide)) h9)))))
    | succ m ih =>
      intro k hkm
      have hq := qQuiet_le hk hA k (by omega)
      have hp := aPend_le (p := k) hk hA (by omega)
      have next := ih (k + 1) (by omega)
      unfold qQuiet at next
      by_cases c9 : A 9 k = 1
      · rw [if_pos c9] at next
        refine q_iload_n (pc' := 5) dX7_ticksUntilQuiet_4 rfl rfl (q_aload_n (pc' := 6) dX7_ticksUntilQuiet_5 rfl rfl (q_getR (pc' := 9) dX7_ticksUntilQuiet_6 rfl fr_RX7_18 ⟨by omega, rfl⟩ rfl (wV_7_0 hV) (by decide) (q_getIe (pc' := 12) dX7_ticksUntilQuiet_9 rfl fr_RX7_22 (by first | assumption | exact ⟨by omega, rfl⟩) rfl (cB_0 hb) (q_icmp_ge (pc' := 15) (pt := 47) dX7_ticksUntilQuiet_12 rfl rfl (fun h9 => absurd h9 (by (first | assumption | exact nI_le (by omega) (by omega) | exact nI_ge (by omega) (by omega) | exact nI_lt (by omega) (by omega) | exact nI_nlt (by omega) (by omega) | exact nI_ne (by omega) (by omega) (by omega) | exact nI_e (by omega) | decide))) (fun _ => (q_iload_n (pc' := 16) dX7_ticksUntilQuiet_15 rfl rfl (q_aload_n (pc' := 17) dX7_ticksUntilQuiet_16 rfl rfl (q_iload_n (pc' := 18) dX7_ticksUntilQuiet_17 rfl rfl (q_cVi (pc' := 21) dX7_ticksUntilQuiet_18 rfl ml_RX7_33 yv_X4_isOnline (by decide) (rn_X4_isOnline hi hk h (by omega)) (okS hi hz (by decide) rfl) rfl rfl (Nat.le_of_ble_eq_true rfl) (Nat.le_refl _) (q_ifb_eq (pc' := 24) (pt := 36) dX7_ticksUntilQuiet_21 rfl rfl (fun h9 => Bool.noConfusion (Eq.trans (Eq.symm (beq_iff_eq.mpr c9)) h9)) (fun _ => (q_aload_n (pc' := 25) dX7_ticksUntilQuiet_24 rfl rfl (q_getR (pc' := 28) dX7_ticksUntilQuiet_25 rfl fr_RX7_62 (okS hi hz (by decide) rfl) rfl (wS_4_3 hS) (sA_lt hi (by decide)) (q_iload_n (pc' := 29) dX7_ticksUntilQuiet_28 rfl rfl (q_ialde (pc' := 30) (k) dX7_ticksUntilQuiet_29 rfl (by first | exact ⟨by omega, rfl⟩ | exact okaS hi hz (by decide) rfl | assumption) (by (first | (simp only [nI_add, pk_mul]; done) | (simp only [nI_add, pk_mul]; exact nI_e (by omega)) | exact nI_e (by omega))) (by omega) (h.2.1 k (by omega)) ?_)))))))))))))))
        refine q_cSi (pc' := 33) dX7_ticksUntilQuiet_30 rfl ml_RX7_66 ys_J6_bitCount_0f7a4 (by decide) (rn_bitCount (cPe_lt hk)) rfl rfl (Nat.le_of_ble_eq_true rfl) (Nat.le_refl _) ?_
        rw [ep k (by omega)]
        refine q_goto (pc' := 37) dX7_ticksUntilQuiet_33 rfl (q_cSi (pc' := 40) dX7_ticksUntilQuiet_37 rfl ml_RX7_50 ys_J9_max_7cf53 (by decide) (rn_max (by omega) (by omega)) rfl rfl (Nat.le_of_ble_eq_true rfl) (Nat.le_refl _) (q_ist_2 (pc' := 41) dX7_ticksUntilQuiet_40 rfl (by decide) rfl (q_inc_3 (pc' := 44) dX7_ticksUntilQuiet_41 rfl (by decide) rfl (q_goto (pc' := 4) dX7_ticksUntilQuiet_44 rfl ?_))))
        exact next
      · rw [if_neg c9] at next
        refine q_iload_n (pc' := 5) dX7_ticksUntilQuiet_4 rfl rfl (q_aload_n (pc' := 6) dX7_ticksUntilQuiet_5 rfl rfl (q_getR (pc' := 9) dX7_ticksUntilQuiet_6 rfl fr_RX7_18 ⟨by omega, rfl⟩ rfl (wV_7_0 hV) (by decide) (q_getIe (pc' := 12) dX7_ticksUntilQuiet_9 rfl fr_RX7_22 (by first | assumption | exact ⟨by omega, rfl⟩) rfl (cB_0 hb) (q_icmp_ge (pc' := 15) (pt := 47) dX7_ticksUntilQuiet_12 rfl rfl (fun h9 => absurd h9 (by (first | assumption | exact nI_le (by omega) (by omega) | exact nI_ge (by omega) (by omega) | exact nI_lt (by omega) (by omega) | exact nI_nlt (by omega) (by omega) | exact nI_ne (by omega) (by omega) (by omega) | exact nI_e (by omega) | decide))) (fun _ => (q_iload_n (pc' := 16) dX7_ticksUntilQuiet_15 rfl rfl (q_aload_n (pc' := 17) dX7_ticksUntilQuiet_16 rfl rfl (q_iload_n (pc' := 18) dX7_ticksUntilQuiet_17 rfl rfl (q_cVi (pc' := 21) dX7_ticksUntilQuiet_18 rfl ml_RX7_33 yv_X4_isOnline (by decide) (rn_X4_isOnline hi hk h (by omega)) (okS hi hz (by decide) rfl) rfl rfl (Nat.le_of_ble_eq_true rfl) (Nat.le_refl _) (q_ifb_eq (pc' := 24) (pt := 36) dX7_ticksUntilQuiet_21 rfl rfl (fun _ => (q_iconst (pc' := 37) _ dX7_ticksUntilQuiet_36 rfl kk_iconst_0 (q_cSi (pc' := 40) dX7_ticksUntilQuiet_37 rfl ml_RX7_50 ys_J9_max_7cf53 (by decide) (rn_max (by omega) (by decide)) rfl rfl (Nat.le_of_ble_eq_true rfl) (Nat.le_refl _) ?_))) (fun h9 => Bool.noConfusion (Eq.trans (Eq.symm (beq_eq_false_iff_ne.mpr c9)) h9))))))))))))
        rw [Nat.max_eq_left (Nat.zero_le _)]
        refine q_ist_2 (pc' := 41) dX7_ticksUntilQuiet_40 rfl (by decide) rfl (q_inc_3 (pc' := 44) dX7_ticksUntilQuiet_41 rfl (by decide) rfl (q_goto (pc' := 4) dX7_ticksUntilQuiet_44 rfl ?_))
        exact next
  refine q_iconst (pc' := 1) _ dX7_ticksUntilQuiet_0 rfl kk_iconst_0 (q_ist_2 (pc' := 2) dX7_ticksUntilQuiet_1 rfl (by decide) rfl (q_iconst (pc' := 3) _ dX7_ticksUntilQuiet_2 rfl kk_iconst_0 (q_ist_3 (pc' := 4) dX7_ticksUntilQuiet_3 rfl (by decide) rfl ?_)))
  exact loop (b 0 0) 0 (by omega)
theorem rn_X7_loadGap (hi : i < 21) (hS : mj_wS R i) (hV : mj_wV R) (hb : cB I b) (hk : bOK b) (h : cRr I i b A) : Rn w l yX7_loadGap dd_X7_loadGap [.ref 450, .ref (sA i 11)] (472, I, J, R) (some (.int (qBal b A))) (472, I, J, R) := by
  have hz : 50 + 20 * i ≤ 472 := by omega
  have h8 := hk.1.2
  have h32 := hk.2.1.2
  refine rn_intro2 (L := [some (.ref 450), some (.ref (sA i 11)), none, none, none]) ⟨by decide, rfl, (fun h => by cases h)⟩ (Nat.le_refl _) (Nat.le_of_ble_eq_true rfl) rfl (fun Y Q hQ => ?_)
  have loop : ∀ m k, k + m = b 0 0 → Wq dd_X7_loadGap (mj_mk w l 472 Y) Q 8 [some (.ref 450), some (.ref (sA i 11)), some (.int (nI (min 32 (balL b A k)))), some (.int (nI (balM b A k))), some (.int (nI k))] [] (472, I, J, R) := by
    intro m
    induction m with
    | zero =>
      intro k hkm
      have hkz : k = b 0 0 := by omega
      subst hkz
      have hb3 := balL_33 (b := b) (A := A) (k := b 0 0) (load_32 hk)
      have hl1 := balL_le b A (b 0 0)
      have hl2 := balM_le b A (b 0 0)
      unfold qBal at hQ
      refine q_iload (pc' := 10) dX7_loadGap_8 rfl rfl (q_aload_n (pc' := 11) dX7_loadGap_10 rfl rfl (q_getR (pc' := 14) dX7_loadGap_11 rfl fr_RX7_18 ⟨by omega, rfl⟩ rfl (wV_7_0 hV) (by decide) (q_getIe (pc' := 17) dX7_loadGap_14 rfl fr_RX7_22 (by first | assumption | exact ⟨by omega, rfl⟩) rfl (cB_0 hb) (q_icmp_ge (pc' := 20) (pt := 57) dX7_loadGap_17 rfl rfl (fun _ => (q_iload_n (pc' := 58) dX7_loadGap_57 rfl rfl (q_iload_n (pc' := 59) dX7_loadGap_58 rfl rfl (q_isub (pc' := 60) dX7_loadGap_59 rfl (q_iconst (pc' := 61) _ dX7_loadGap_60 rfl kk_iconst_0 (q_cSi (pc' := 64) dX7_loadGap_61 rfl ml_RX7_50 ys_J9_max_7cf53 (by decide) (rn_maxI) rfl rfl (Nat.le_of_ble_eq_true rfl) (Nat.le_refl _) ?_)))))) (fun h9 => absurd (by (first | assumption | exact nI_le (by omega) (by omega) | exact nI_ge (by omega) (by omega) | exact nI_lt (by omega) (by omega) | exact nI_nlt (by omega) (by omega) | exact nI_ne (by omega) (by omega) (by omega) | exact nI_e (by omega) | decide)) h9)))))
      rw [max_0 (by omega) (by omega)]
      by_cases c : 32 < balL b A (b 0 0)
      · rw [if_pos c] at hQ
        have e0 := hb3.1 (by omega)
        rw [e0, Nat.min_eq_left (by omega)]
        exact q_iret dX7_loadGap_64 rfl hQ
      · rw [if_neg c, nI_sb (hb3.2 (by omega))] at hQ
        rw [Nat.min_eq_right (by omega)]
        exact q_iret dX7_loadGap_64 rfl hQ
    | succ m ih =>
      intro k hkm
      have hl1 := balL_le b A k
      have hl2 := balM_le b A k
      have hl3 := load_32 (A := A) hk k
      have next := ih (k + 1) (by omega)
      unfold balL balM at next
      by_cases c9 : A 9 k = 1
      · rw [if_pos c9, if_pos c9] at next
        refine q_iload (pc' := 10) dX7_loadGap_8 rfl rfl (q_aload_n (pc' := 11) dX7_loadGap_10 rfl rfl (q_getR (pc' := 14) dX7_loadGap_11 rfl fr_RX7_18 ⟨by omega, rfl⟩ rfl (wV_7_0 hV) (by decide) (q_getIe (pc' := 17) dX7_loadGap_14 rfl fr_RX7_22 (by first | assumption | exact ⟨by omega, rfl⟩) rfl (cB_0 hb) (q_icmp_ge (pc' := 20) (pt := 57) dX7_loadGap_17 rfl rfl (fun h9 => absurd h9 (by (first | assumption | exact nI_le (by omega) (by omega) | exact nI_ge (by omega) (by omega) | exact nI_lt (by omega) (by omega) | exact nI_nlt (by omega) (by omega) | exact nI_ne (by omega) (by omega) (by omega) | exact nI_e (by omega) | decide))) (fun _ => (q_aload_n (pc' := 21) dX7_loadGap_20 rfl rfl (q_iload (pc' := 23) dX7_loadGap_21 rfl rfl (q_cVi (pc' := 26) dX7_loadGap_23 rfl ml_RX7_33 yv_X4_isOnline (by decide) (rn_X4_isOnline hi hk h (by omega)) (okS hi hz (by decide) rfl) rfl rfl (Nat.le_of_ble_eq_true rfl) (Nat.le_refl _) (q_ifb_eq (pc' := 29) (pt := 51) dX7_loadGap_26 rfl rfl (fun h9 => Bool.noConfusion (Eq.trans (Eq.symm (beq_iff_eq.mpr c9)) h9)) (fun _ => (q_iload_n (pc' := 30) dX7_loadGap_29 rfl rfl (q_aload_n (pc' := 31) dX7_loadGap_30 rfl rfl (q_iload (pc' := 33) dX7_loadGap_31 rfl rfl (q_cVi (pc' := 36) dX7_loadGap_33 rfl ml_RX7_58 yv_X4_loadOf (by decide) (rn_X4_loadOf hi hS hk h (by omega)) (okS hi hz (by decide) rfl) rfl rfl (Nat.le_of_ble_eq_true rfl) (Nat.le_refl _) (q_cSi (pc' := 39) dX7_loadGap_36 rfl ml_RX7_55 ys_J9_min_7cf53 (by decide) (rn_min (by omega) (by omega)) rfl rfl (Nat.le_of_ble_eq_true rfl) (Nat.le_refl _) ?_)))))))))))))))
        rw [Nat.min_assoc]
        refine q_ist_2 (pc' := 40) dX7_loadGap_39 rfl (by decide) rfl (q_iload_n (pc' := 41) dX7_loadGap_40 rfl rfl (q_aload_n (pc' := 42) dX7_loadGap_41 rfl rfl (q_iload (pc' := 44) dX7_loadGap_42 rfl rfl (q_cVi (pc' := 47) dX7_loadGap_44 rfl ml_RX7_58 yv_X4_loadOf (by decide) (rn_X4_loadOf hi hS hk h (by omega)) (okS hi hz (by decide) rfl) rfl rfl (Nat.le_of_ble_eq_true rfl) (Nat.le_refl _) (q_cSi (pc' := 50) dX7_loadGap_47 rfl ml_RX7_50 ys_J9_max_7cf53 (by decide) (rn_max (by omega) (by omega)) rfl rfl (Nat.le_of_ble_eq_true rfl) (Nat.le_refl _) (q_ist_3 (pc' := 51) dX7_loadGap_50 rfl (by decide) rfl (q_inc_4 (pc' := 54) dX7_loadGap_51 rfl (by decide) rfl (q_goto (pc' := 8) dX7_loadGap_54 rfl ?_))))))))
        exact next
      · rw [if_neg c9, if_neg c9] at next
        refine q_iload (pc' := 10) dX7_loadGap_8 rfl rfl (q_aload_n (pc' := 11) dX7_loadGap_10 rfl rfl (q_getR (pc' := 14) dX7_loadGap_11 rfl fr_RX7_18 ⟨by omega, rfl⟩ rfl (wV_7_0 hV) (by decide) (q_getIe (pc' := 17) dX7_loadGap_14 rfl fr_RX7_22 (by first | assumption | exact ⟨by omega, rfl⟩) rfl (cB_0 hb) (q_icmp_ge (pc' := 20) (pt := 57) dX7_loadGap_17 rfl rfl (fun h9 => absurd h9 (by (first | assumption | exact nI_le (by omega) (by omega) | exact nI_ge (by omega) (by omega) | exact nI_lt (by omega) (by omega) | exact nI_nlt (by omega) (by omega) | exact nI_ne (by omega) (by omega) (by omega) | exact nI_e (by omega) | decide))) (fun _ => (q_aload_n (pc' := 21) dX7_loadGap_20 rfl rfl (q_iload (pc' := 23) dX7_loadGap_21 rfl rfl (q_cVi (pc' := 26) dX7_loadGap_23 rfl ml_RX7_33 yv_X4_isOnline (by decide) (rn_X4_isOnline hi hk h (by omega)) (okS hi hz (by decide) rfl) rfl rfl (Nat.le_of_ble_eq_true rfl) (Nat.le_refl _) (q_ifb_eq (pc' := 29) (pt := 51) dX7_loadGap_26 rfl rfl (fun _ => (q_inc_4 (pc' := 54) dX7_loadGap_51 rfl (by decide) rfl (q_goto (pc' := 8) dX7_loadGap_54 rfl ?_))) (fun h9 => Bool.noConfusion (Eq.trans (Eq.symm (beq_eq_false_iff_ne.mpr c9)) h9)))))))))))
        exact next
  refine q_bipush (pc' := 2) _ dX7_loadGap_0 rfl kk_bipush_32 (q_ist_2 (pc' := 3) dX7_loadGap_2 rfl (by decide) rfl (q_iconst (pc' := 4) _ dX7_loadGap_3 rfl kk_iconst_0 (q_ist_3 (pc' := 5) dX7_loadGap_4 rfl (by decide) rfl (q_iconst (pc' := 6) _ dX7_loadGap_5 rfl kk_iconst_0 (q_ist_4 (pc' := 8) dX7_loadGap_6 rfl (by decide) rfl ?_)))))
  exact loop (b 0 0) 0 (by omega)
theorem cBlks_le {n m : Nat} (hk : bOK b) : cBlks b A n m ≤ m * 32 := by
  refine sumN_le (fun p hp => ?_)
  split
  · have := cntN_le (aBl A p n) (b 0 1 / n)
    have := Nat.div_le_self (b 0 1) n
    have := hk.2.1.2
    omega
  · omega
theorem rn_X7_roomFor {n : Nat} (hi : i < 21) (hS : mj_wS R i) (hV : mj_wV R) (hB : mj_wB R 4) (hb : cB I b) (hk : bOK b) (h : cR I i b A) (hn : 1 ≤ n ∧ n ≤ 8) : Rn w l yX7_roomFor dd_X7_roomFor [.ref 450, .ref (sA i 0), .int (nI n)] (472, I, J, R) (some (.int (nI (cRoom b A n)))) (472, I, J, R) := by
  have hz : 50 + 20 * i ≤ 472 := by omega
  have h8 := hk.1.2
  have hf := aFree_le hk (A := A)
  have hpr := aProm_le hk (A := A)
  unfold cRoom
  refine rn_intro2 (L := [some (.ref 450), some (.ref (sA i 0)), some (.int (nI n)), none, none]) ⟨by decide, rfl, (fun h => by cases h)⟩ (Nat.le_refl _) (Nat.le_of_ble_eq_true rfl) rfl (fun Y Q hQ => ?_)
  have loop : ∀ m k, k + m = b 0 0 → Wq dd_X7_roomFor (mj_mk w l 472 Y) Q 5 [some (.ref 450), some (.ref (sA i 0)), some (.int (nI n)), some (.int (nI (cBlks b A n k))), some (.int (nI k))] [] (472, I, J, R) := by
    intro m
    induction m with
    | zero =>
      intro k hkm
      have hkz : k = b 0 0 := by omega
      subst hkz
      have hbl := cBlks_le (A := A) (n := n) (m := b 0 0) hk
      have hdv := Nat.div_le_self (aFree b A - aProm b A) n
      refine q_iload (pc' := 7) dX7_roomFor_5 rfl rfl (q_aload_n (pc' := 8) dX7_roomFor_7 rfl rfl (q_getR (pc' := 11) dX7_roomFor_8 rfl fr_RX7_18 ⟨by omega, rfl⟩ rfl (wV_7_0 hV) (by decide) (q_getIe (pc' := 14) dX7_roomFor_11 rfl fr_RX7_22 (by first | assumption | exact ⟨by omega, rfl⟩) rfl (cB_0 hb) (q_icmp_ge (pc' := 17) (pt := 52) dX7_roomFor_14 rfl rfl (fun _ => (q_aload_n (pc' := 53) dX7_roomFor_52 rfl rfl (q_getR (pc' := 56) dX7_roomFor_53 rfl fr_RX7_27 (okS hi hz (by decide) rfl) rfl (wS_5_1 hS) (sA_lt hi (by decide)) (q_cVi (pc' := 59) dX7_roomFor_56 rfl ml_RX7_43 yv_X4_freeOnline (by decide) (rn_X4_freeOnline hi hS hb hk h.1) (okS hi hz (by decide) rfl) rfl rfl (Nat.le_of_ble_eq_true rfl) (Nat.le_refl _) (q_aload_n (pc' := 60) dX7_roomFor_59 rfl rfl (q_cVi (pc' := 63) dX7_roomFor_60 rfl ml_RX7_47 yv_X5_promisedVectors (by decide) (rn_X5_promisedVectors hi hS hB hb hk h.2.2) (okS hi hz (by decide) rfl) rfl rfl (Nat.le_of_ble_eq_true rfl) (Nat.le_refl _) (q_isub (pc' := 64) dX7_roomFor_63 rfl (q_iconst (pc' := 65) _ dX7_roomFor_64 rfl kk_iconst_0 (q_cSi (pc' := 68) dX7_roomFor_65 rfl ml_RX7_50 ys_J9_max_7cf53 (by decide) (rn_maxI) rfl rfl (Nat.le_of_ble_eq_true rfl) (Nat.le_refl _) ?_))))))))) (fun h9 => absurd (by (first | assumption | exact nI_le (by omega) (by omega) | exact nI_ge (by omega) (by omega) | exact nI_lt (by omega) (by omega) | exact nI_nlt (by omega) (by omega) | exact nI_ne (by omega) (by omega) (by omega) | exact nI_e (by omega) | decide)) h9)))))
      rw [max_0 (by omega) (by omega)]
      refine q_ist_4 (pc' := 70) dX7_roomFor_68 rfl (by decide) rfl (q_iload_n (pc' := 71) dX7_roomFor_70 rfl rfl (q_iconst (pc' := 72) _ dX7_roomFor_71 rfl kk_iconst_1 (q_icmp_ge (pc' := 75) (pt := 79) dX7_roomFor_72 rfl rfl (fun _ => (q_iload_n (pc' := 80) dX7_roomFor_79 rfl rfl (q_iload (pc' := 82) dX7_roomFor_80 rfl rfl (q_iload_n (pc' := 83) dX7_roomFor_82 rfl rfl (q_idiv (pc' := 84) dX7_roomFor_83 rfl (nI_ne0 (by omega) (by omega)) ?_))))) (fun h9 => absurd (nI_le hn.1 (by omega)) h9))))
      refine q_top (pk_div (by omega) (by omega) (by omega)) ?_
      exact q_cSi (pc' := 87) dX7_roomFor_84 rfl ml_RX7_55 ys_J9_min_7cf53 (by decide) (rn_min (by omega) (by omega)) rfl rfl (Nat.le_of_ble_eq_true rfl) (Nat.le_refl _) (q_iret dX7_roomFor_87 rfl hQ)
    | succ m ih =>
      intro k hkm
      have next := ih (k + 1) (by omega)
      have es : cBlks b A n (k + 1) = cBlks b A n k + (if A 9 k = 1 then cntN (aBl A k n) (b 0 1 / n) else 0) := rfl
      rw [es] at next
      by_cases c9 : A 9 k = 1
      · rw [if_pos c9] at next
        refine q_iload (pc' := 7) dX7_roomFor_5 rfl rfl (q_aload_n (pc' := 8) dX7_roomFor_7 rfl rfl (q_getR (pc' := 11) dX7_roomFor_8 rfl fr_RX7_18 ⟨by omega, rfl⟩ rfl (wV_7_0 hV) (by decide) (q_getIe (pc' := 14) dX7_roomFor_11 rfl fr_RX7_22 (by first | assumption | exact ⟨by omega, rfl⟩) rfl (cB_0 hb) (q_icmp_ge (pc' := 17) (pt := 52) dX7_roomFor_14 rfl rfl (fun h9 => absurd h9 (by (first | assumption | exact nI_le (by omega) (by omega) | exact nI_ge (by omega) (by omega) | exact nI_lt (by omega) (by omega) | exact nI_nlt (by omega) (by omega) | exact nI_ne (by omega) (by omega) (by omega) | exact nI_e (by omega) | decide))) (fun _ => (q_iload_n (pc' := 18) dX7_roomFor_17 rfl rfl (q_aload_n (pc' := 19) dX7_roomFor_18 rfl rfl (q_getR (pc' := 22) dX7_roomFor_19 rfl fr_RX7_27 (okS hi hz (by decide) rfl) rfl (wS_5_1 hS) (sA_lt hi (by decide)) (q_iload (pc' := 24) dX7_roomFor_22 rfl rfl (q_cVi (pc' := 27) dX7_roomFor_24 rfl ml_RX7_33 yv_X4_isOnline (by decide) (rn_X4_isOnline hi hk h.1 (by omega)) (okS hi hz (by decide) rfl) rfl rfl (Nat.le_of_ble_eq_true rfl) (Nat.le_refl _) (q_ifb_eq (pc' := 30) (pt := 43) dX7_roomFor_27 rfl rfl (fun h9 => Bool.noConfusion (Eq.trans (Eq.symm (beq_iff_eq.mpr c9)) h9)) (fun _ => (q_aload_n (pc' := 31) dX7_roomFor_30 rfl rfl (q_getR (pc' := 34) dX7_roomFor_31 rfl fr_RX7_27 (okS hi hz (by decide) rfl) rfl (wS_5_1 hS) (sA_lt hi (by decide)) (q_iload (pc' := 36) dX7_roomFor_34 rfl rfl ?_)))))))))))))))
        refine q_iload_n (pc' := 37) dX7_roomFor_36 rfl rfl (q_cVi (pc' := 40) dX7_roomFor_37 rfl ml_RX7_39 yv_X4_countBlocks (by decide) (rn_X4_countBlocks hi hS hb hk h.1 (by omega) hn) (okS hi hz (by decide) rfl) rfl rfl (Nat.le_of_ble_eq_true rfl) (Nat.le_refl _) (q_goto (pc' := 44) dX7_roomFor_40 rfl ?_))
        refine q_iadd dX7_roomFor_44 rfl ?_
        refine q_top (nI_add _ _) ?_
        refine q_ist_3 (pc' := 46) dX7_roomFor_45 rfl (by decide) rfl (q_inc_4 (pc' := 49) dX7_roomFor_46 rfl (by decide) rfl (q_goto (pc' := 5) dX7_roomFor_49 rfl ?_))
        exact next
      · rw [if_neg c9] at next
        refine q_iload (pc' := 7) dX7_roomFor_5 rfl rfl (q_aload_n (pc' := 8) dX7_roomFor_7 rfl rfl (q_getR (pc' := 11) dX7_roomFor_8 rfl fr_RX7_18 ⟨by omega, rfl⟩ rfl (wV_7_0 hV) (by decide) (q_getIe (pc' := 14) dX7_roomFor_11 rfl fr_RX7_22 (by first | assumption | exact ⟨by omega, rfl⟩) rfl (cB_0 hb) (q_icmp_ge (pc' := 17) (pt := 52) dX7_roomFor_14 rfl rfl (fun h9 => absurd h9 (by (first | assumption | exact nI_le (by omega) (by omega) | exact nI_ge (by omega) (by omega) | exact nI_lt (by omega) (by omega) | exact nI_nlt (by omega) (by omega) | exact nI_ne (by omega) (by omega) (by omega) | exact nI_e (by omega) | decide))) (fun _ => (q_iload_n (pc' := 18) dX7_roomFor_17 rfl rfl (q_aload_n (pc' := 19) dX7_roomFor_18 rfl rfl (q_getR (pc' := 22) dX7_roomFor_19 rfl fr_RX7_27 (okS hi hz (by decide) rfl) rfl (wS_5_1 hS) (sA_lt hi (by decide)) (q_iload (pc' := 24) dX7_roomFor_22 rfl rfl (q_cVi (pc' := 27) dX7_roomFor_24 rfl ml_RX7_33 yv_X4_isOnline (by decide) (rn_X4_isOnline hi hk h.1 (by omega)) (okS hi hz (by decide) rfl) rfl rfl (Nat.le_of_ble_eq_true rfl) (Nat.le_refl _) (q_ifb_eq (pc' := 30) (pt := 43) dX7_roomFor_27 rfl rfl (fun _ => (q_iconst (pc' := 44) _ dX7_roomFor_43 rfl kk_iconst_0 ?_)) (fun h9 => Bool.noConfusion (Eq.trans (Eq.symm (beq_eq_false_iff_ne.mpr c9)) h9)))))))))))))
        refine q_iadd dX7_roomFor_44 rfl ?_
        refine q_top (nI_add _ 0) ?_
        refine q_ist_3 (pc' := 46) dX7_roomFor_45 rfl (by decide) rfl (q_inc_4 (pc' := 49) dX7_roomFor_46 rfl (by decide) rfl (q_goto (pc' := 5) dX7_roomFor_49 rfl ?_))
        exact next
  refine q_iconst (pc' := 1) _ dX7_roomFor_0 rfl kk_iconst_0 (q_ist_3 (pc' := 2) dX7_roomFor_1 rfl (by decide) rfl (q_iconst (pc' := 3) _ dX7_roomFor_2 rfl kk_iconst_0 (q_ist_4 (pc' := 5) dX7_roomFor_3 rfl (by decide) rfl ?_)))
  exact loop (b 0 0) 0 (by omega)
end SV1
