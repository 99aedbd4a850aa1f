/-! ===== the reference: balance, quiet, the log, storms ===== -/
theorem nI_min {x y : Nat} (hx : x < 2 ^ 31) (hy : y < 2 ^ 31) : (if nI y ≤ nI x then nI y else nI x) = nI (min x y) := by
  by_cases h : y ≤ x
  · rw [if_pos ((nI_leI hy hx).mpr h), Nat.min_eq_right h]
  · rw [if_neg (fun q => h ((nI_leI hy hx).mp q)), Nat.min_eq_left (by omega)]
theorem nI_max {x y : Nat} (hx : x < 2 ^ 31) (hy : y < 2 ^ 31) : (if nI x ≤ nI y then nI y else nI x) = nI (max x y) := by
  by_cases h : x ≤ y
  · rw [if_pos ((nI_leI hx hy).mpr h), Nat.max_eq_right h]
  · rw [if_neg (fun q => h ((nI_leI hx hy).mp q)), Nat.max_eq_left (by omega)]
def balL (b A : St) : Nat → Nat
  | 0 => 33
  | k + 1 => if A 9 k = 1 then min (balL b A k) (aLoad b A k) else balL b A k
def balM (b A : St) : Nat → Nat
  | 0 => 0
  | k + 1 => if A 9 k = 1 then max (balM b A k) (aLoad b A k) else balM b A k
def qBal (b A : St) : Int32 := if 32 < balL b A (b 0 0) then nI 0 else nI (balM b A (b 0 0)) - nI (balL b A (b 0 0))
def qQuiet (b A : St) : Nat → Nat
  | 0 => 0
  | k + 1 => if A 9 k = 1 then max (qQuiet b A k) (aPend b A k) else qQuiet b A k
theorem balL_le (b A : St) (k : Nat) : balL b A k ≤ 33 := by
  induction k with
  | zero => exact Nat.le_refl _
  | succ k ih => unfold balL; split <;> omega
theorem balM_le (b A : St) (k : Nat) : balM b A k ≤ 2 * b 0 1 := by
  induction k with
  | zero => exact Nat.zero_le _
  | succ k ih => have := aLoad_le b A k; unfold balM; split <;> omega
theorem aPend_le {b A : St} {p : Nat} (hk : bOK b) (hA : aOK A) (hp : p < 8) : aPend b A p ≤ 32 := by
  have h := hk.2.1.2
  have := sumN_le (f := fun v => A 2 (32 * p + v)) (n := b 0 1) (m := 1) (fun k hk9 => by have := (hA.1 (32 * p + k) (by omega)).2.2; omega)
  unfold aPend; omega
theorem qQuiet_le {b A : St} (hk : bOK b) (hA : aOK A) (k : Nat) (h : k ≤ b 0 0) : qQuiet b A k ≤ 32 := by
  induction k with
  | zero => exact Nat.zero_le _
  | succ k ih =>
    have h8 := hk.1.2
    have := aPend_le (p := k) hk hA (by omega)
    have := ih (by omega)
    unfold qQuiet; split <;> omega
section M18
variable {w : mj_Wd} {l : Launch} {I : mj_M} {J : mj_J} {R : mj_R} {b A W0 : St} {ps : Nat → St} {n u : Nat} {h : mj_H}
theorem rn_X11_balance (hM : mj_wM R) (hb : mB I b) (hk : bOK b) (hR : rR (I 464) A) (hA : aOK A) : Rn w l yX11_balance dd_X11_balance [.ref 452] (472, I, J, R) (some (.int (qBal b A))) (472, I, J, R) := by
  have h8 := hk.1.2
  have h9 := hk.2.1
  refine rn_intro2 (L := [some (.ref 452), none, none, none]) ⟨by decide, rfl, (fun h => by cases h)⟩ (Nat.le_refl _) (Nat.le_of_ble_eq_true rfl) rfl (fun Y Q hQ => ?_)
  refine q_bipush (pc' := 2) _ dX11_balance_0 rfl kk_bipush_33 (q_ist_1 (pc' := 3) dX11_balance_2 rfl (by decide) rfl (q_iconst (pc' := 4) _ dX11_balance_3 rfl kk_iconst_0 (q_ist_2 (pc' := 5) dX11_balance_4 rfl (by decide) rfl (q_iconst (pc' := 6) _ dX11_balance_5 rfl kk_iconst_0 (q_ist_3 (pc' := 7) dX11_balance_6 rfl (by decide) rfl ?_)))))
  have loop : ∀ m k, k + m = (b 0 0) → Wq dd_X11_balance (mj_mk w l 472 Y) Q 7 [some (.ref 452), some (.int (nI (balL b A k))), some (.int (nI (balM b A k))), some (.int (nI k))] [] (472, I, J, R) := by
    intro m
    induction m with
    | zero =>
      intro k hkm
      have hkz : k = (b 0 0) := by omega
      subst hkz
      have hl1 := balL_le b A (b 0 0)
      unfold qBal at hQ
      refine q_iload_n (pc' := 8) dX11_balance_7 rfl rfl (q_aload_n (pc' := 9) dX11_balance_8 rfl rfl (q_getIe (pc' := 12) dX11_balance_9 rfl fr_RX11_240 ⟨by omega, rfl⟩ rfl (mB_0 hb) (q_icmp_ge (pc' := 15) (pt := 52) dX11_balance_12 rfl rfl (fun _ => (q_iload_n (pc' := 53) dX11_balance_52 rfl rfl (q_bipush (pc' := 55) _ dX11_balance_53 rfl kk_bipush_32 (q_icmp_le (pc' := 58) (pt := 62) dX11_balance_55 rfl rfl (fun h1 => ?_) (fun h1 => ?_))))) (fun h9 => absurd (by (first | assumption | exact nI_le (by omega) (by omega) | exact nI_ge (by omega) (by omega) | exact nI_lt (by omega) (by omega) | exact nI_nlt (by omega) (by omega) | exact nI_ne (by omega) (by omega) (by omega) | exact nI_e (by omega) | decide)) h9))))
      · exact q_iload_n (pc' := 63) dX11_balance_62 rfl rfl (q_iload_n (pc' := 64) dX11_balance_63 rfl rfl (q_isub (pc' := 65) dX11_balance_64 rfl (q_iret dX11_balance_65 rfl (by rw [if_neg (fun q => Nat.lt_irrefl _ (Nat.lt_of_lt_of_le q ((nI_leI (by omega) (by omega)).mp h1)))] at hQ; exact hQ))))
      · exact q_iconst (pc' := 59) _ dX11_balance_58 rfl kk_iconst_0 (q_goto (pc' := 65) dX11_balance_59 rfl (q_iret dX11_balance_65 rfl (by rw [if_pos (Nat.not_le.mp (fun q => h1 ((nI_leI (by omega) (by omega)).mpr q)))] at hQ; exact hQ)))
    | succ m ih =>
      intro k hkm
      have hl1 := balL_le b A k
      have hl2 := balM_le b A k
      have hl3 := aLoad_le b A k
      have next := ih (k + 1) (by omega)
      unfold balL balM at next
      refine q_iload_n (pc' := 8) dX11_balance_7 rfl rfl (q_aload_n (pc' := 9) dX11_balance_8 rfl rfl (q_getIe (pc' := 12) dX11_balance_9 rfl fr_RX11_240 ⟨by omega, rfl⟩ rfl (mB_0 hb) (q_icmp_ge (pc' := 15) (pt := 52) dX11_balance_12 rfl rfl (fun h9 => absurd h9 (by (first | assumption | exact nI_le (by omega) (by omega) | exact nI_ge (by omega) (by omega) | exact nI_lt (by omega) (by omega) | exact nI_nlt (by omega) (by omega) | exact nI_ne (by omega) (by omega) (by omega) | exact nI_e (by omega) | decide))) (fun _ => (q_aload_n (pc' := 16) dX11_balance_15 rfl rfl (q_iload_n (pc' := 17) dX11_balance_16 rfl rfl (q_cVi (pc' := 20) dX11_balance_17 rfl ml_RX11_292 yv_X11_isOnline (by decide) (rn_X11_isOnline hM hR hA (by omega)) ⟨by omega, rfl⟩ rfl rfl (Nat.le_of_ble_eq_true rfl) (Nat.le_refl _) (q_ifb_ne (pc' := 23) (pt := 26) dX11_balance_20 rfl rfl (fun h1 => ?_) (fun h1 => ?_)))))))))
      · rw [if_pos (beq_iff_eq.mp h1), if_pos (beq_iff_eq.mp h1)] at next
        refine q_iload_n (pc' := 27) dX11_balance_26 rfl rfl (q_aload_n (pc' := 28) dX11_balance_27 rfl rfl (q_iload_n (pc' := 29) dX11_balance_28 rfl rfl (q_cVi (pc' := 32) dX11_balance_29 rfl ml_RX11_301 yv_X11_loadOf (by decide) (rn_X11_loadOf hM hb hk hR hA (by omega)) ⟨by omega, rfl⟩ rfl rfl (Nat.le_of_ble_eq_true rfl) (Nat.le_refl _) (q_cSi (pc' := 35) dX11_balance_32 rfl ml_RX11_362 ys_X11_lesser (by decide) (rn_X11_lesser) rfl rfl (Nat.le_of_ble_eq_true rfl) (Nat.le_refl _) ?_))))
        refine q_top (nI_min (by omega) (by omega)) ?_
        refine q_ist_1 (pc' := 36) dX11_balance_35 rfl (by decide) rfl (q_iload_n (pc' := 37) dX11_balance_36 rfl rfl (q_aload_n (pc' := 38) dX11_balance_37 rfl rfl (q_iload_n (pc' := 39) dX11_balance_38 rfl rfl (q_cVi (pc' := 42) dX11_balance_39 rfl ml_RX11_301 yv_X11_loadOf (by decide) (rn_X11_loadOf hM hb hk hR hA (by omega)) ⟨by omega, rfl⟩ rfl rfl (Nat.le_of_ble_eq_true rfl) (Nat.le_refl _) (q_cSi (pc' := 45) dX11_balance_42 rfl ml_RX11_466 ys_X11_greater (by decide) (rn_X11_greater) rfl rfl (Nat.le_of_ble_eq_true rfl) (Nat.le_refl _) ?_)))))
        refine q_top (nI_max (by omega) (by omega)) ?_
        refine q_ist_2 (pc' := 46) dX11_balance_45 rfl (by decide) rfl (q_inc_3 (pc' := 49) dX11_balance_46 rfl (by decide) rfl (q_goto (pc' := 7) dX11_balance_49 rfl ?_))
        exact next
      · rw [if_neg (beq_eq_false_iff_ne.mp h1), if_neg (beq_eq_false_iff_ne.mp h1)] at next
        refine q_goto (pc' := 46) dX11_balance_23 rfl (q_inc_3 (pc' := 49) dX11_balance_46 rfl (by decide) rfl (q_goto (pc' := 7) dX11_balance_49 rfl ?_))
        exact next
  exact loop (b 0 0) 0 (by omega)
theorem rn_X11_quiet (hM : mj_wM R) (hb : mB I b) (hk : bOK b) (hR : rR (I 464) A) (hA : aOK A) : Rn w l yX11_quiet dd_X11_quiet [.ref 452] (472, I, J, R) (some (.int (nI (qQuiet b A (b 0 0))))) (472, I, J, R) := by
  have h8 := hk.1.2
  refine rn_intro2 (L := [some (.ref 452), none, none]) ⟨by decide, rfl, (fun h => by cases h)⟩ (Nat.le_refl _) (Nat.le_of_ble_eq_true rfl) rfl (fun Y Q hQ => ?_)
  refine q_iconst (pc' := 1) _ dX11_quiet_0 rfl kk_iconst_0 (q_ist_1 (pc' := 2) dX11_quiet_1 rfl (by decide) rfl (q_iconst (pc' := 3) _ dX11_quiet_2 rfl kk_iconst_0 (q_ist_2 (pc' := 4) dX11_quiet_3 rfl (by decide) rfl ?_)))
  have loop : ∀ m k, k + m = (b 0 0) → Wq dd_X11_quiet (mj_mk w l 472 Y) Q 4 [some (.ref 452), some (.int (nI (qQuiet b A k))), some (.int (nI k))] [] (472, I, J, R) := by
    intro m
    induction m with
    | zero =>
      intro k hkm
      have hkz : k = (b 0 0) := by omega
      subst hkz
      exact q_iload_n (pc' := 5) dX11_quiet_4 rfl rfl (q_aload_n (pc' := 6) dX11_quiet_5 rfl rfl (q_getIe (pc' := 9) dX11_quiet_6 rfl fr_RX11_240 ⟨by omega, rfl⟩ rfl (mB_0 hb) (q_icmp_ge (pc' := 12) (pt := 40) dX11_quiet_9 rfl rfl (fun _ => (q_iload_n (pc' := 41) dX11_quiet_40 rfl rfl (q_iret dX11_quiet_41 rfl hQ))) (fun h9 => absurd (by (first | assumption | exact nI_le (by omega) (by omega) | exact nI_ge (by omega) (by omega) | exact nI_lt (by omega) (by omega) | exact nI_nlt (by omega) (by omega) | exact nI_ne (by omega) (by omega) (by omega) | exact nI_e (by omega) | decide)) h9))))
    | succ m ih =>
      intro k hkm
      have hl1 := qQuiet_le hk hA k (by omega)
      have hl3 := aPend_le (p := k) hk hA (by omega)
      have next := ih (k + 1) (by omega)
      unfold qQuiet at next
      refine q_iload_n (pc' := 5) dX11_quiet_4 rfl rfl (q_aload_n (pc' := 6) dX11_quiet_5 rfl rfl (q_getIe (pc' := 9) dX11_quiet_6 rfl fr_RX11_240 ⟨by omega, rfl⟩ rfl (mB_0 hb) (q_icmp_ge (pc' := 12) (pt := 40) dX11_quiet_9 rfl rfl (fun h9 => absurd h9 (by (first | assumption | exact nI_le (by omega) (by omega) | exact nI_ge (by omega) (by omega) | exact nI_lt (by omega) (by omega) | exact nI_nlt (by omega) (by omega) | exact nI_ne (by omega) (by omega) (by omega) | exact nI_e (by omega) | decide))) (fun _ => (q_aload_n (pc' := 13) dX11_quiet_12 rfl rfl (q_iload_n (pc' := 14) dX11_quiet_13 rfl rfl (q_cVi (pc' := 17) dX11_quiet_14 rfl ml_RX11_292 yv_X11_isOnline (by decide) (rn_X11_isOnline hM hR hA (by omega)) ⟨by omega, rfl⟩ rfl rfl (Nat.le_of_ble_eq_true rfl) (Nat.le_refl _) (q_ifb_eq (pc' := 20) (pt := 32) dX11_quiet_17 rfl rfl (fun h1 => ?_) (fun h1 => ?_)))))))))
      · rw [if_neg (beq_eq_false_iff_ne.mp h1)] at next
        refine q_iload_n (pc' := 33) dX11_quiet_32 rfl rfl (q_ist_1 (pc' := 34) dX11_quiet_33 rfl (by decide) rfl (q_inc_2 (pc' := 37) dX11_quiet_34 rfl (by decide) rfl (q_goto (pc' := 4) dX11_quiet_37 rfl ?_)))
        exact next
      · rw [if_pos (beq_iff_eq.mp h1)] at next
        refine q_iload_n (pc' := 21) dX11_quiet_20 rfl rfl (q_aload_n (pc' := 22) dX11_quiet_21 rfl rfl (q_iload_n (pc' := 23) dX11_quiet_22 rfl rfl (q_cVi (pc' := 26) dX11_quiet_23 rfl ml_RX11_295 yv_X11_pendingOf (by decide) (rn_X11_pendingOf hM hb hk hR (by omega)) ⟨by omega, rfl⟩ rfl rfl (Nat.le_of_ble_eq_true rfl) (Nat.le_refl _) (q_cSi (pc' := 29) dX11_quiet_26 rfl ml_RX11_466 ys_X11_greater (by decide) (rn_X11_greater) rfl rfl (Nat.le_of_ble_eq_true rfl) (Nat.le_refl _) ?_))))
        refine q_top (nI_max (by omega) (by omega)) ?_
        refine q_goto (pc' := 33) dX11_quiet_29 rfl (q_ist_1 (pc' := 34) dX11_quiet_33 rfl (by decide) rfl (q_inc_2 (pc' := 37) dX11_quiet_34 rfl (by decide) rfl (q_goto (pc' := 4) dX11_quiet_37 rfl ?_)))
        exact next
  exact loop (b 0 0) 0 (by omega)
theorem rn_X11_line0 {x y z : Int32} (hM : mj_wM R) (hb : mB I b) (hk : bOK b) (hR : rR (I 464) A) (hA : aOK A) (hx : ∀ d, d < b 0 2 → x = nI d → (((A 7 d == 1) && inN y (b 2 d)) && inN z 6) = false) : Rn w l yX11_line_ dd_X11_line_ [.ref 452, .int x, .int y, .int z] (472, I, J, R) (some (.int (-1))) (472, I, J, R) := by
  refine rn_intro2 (L := [some (.ref 452), some (.int x), some (.int y), some (.int z)]) ⟨by decide, rfl, (fun h => by cases h)⟩ (Nat.le_refl _) (Nat.le_of_ble_eq_true rfl) rfl (fun Y Q hQ => ?_)
  cases h1 : inN x (b 0 2) with
  | false =>
    exact q_aload_n (pc' := 1) dX11_line__0 rfl rfl (q_iload_n (pc' := 2) dX11_line__1 rfl rfl (q_iload_n (pc' := 3) dX11_line__2 rfl rfl (q_cVi (pc' := 6) dX11_line__3 rfl ml_RX11_378 yv_X11_isLine (by decide) (rn_X11_isLine0 hM hb h1) ⟨by omega, rfl⟩ rfl rfl (Nat.le_of_ble_eq_true rfl) (Nat.le_refl _) (q_ifb_eq (pc' := 9) (pt := 40) dX11_line__6 rfl rfl (fun _ => (q_iconst (pc' := 41) _ dX11_line__40 rfl kk_iconst_m1 (q_iret dX11_line__41 rfl hQ))) (fun h9 => Bool.noConfusion (Eq.trans (Eq.symm (rfl)) h9))))))
  | true =>
    obtain ⟨d, hd, rfl⟩ := (inN_iff (by have := hk.2.2.1; omega)).mp h1
    have hx1 := hx d hd rfl
    refine q_aload_n (pc' := 1) dX11_line__0 rfl rfl (q_iload_n (pc' := 2) dX11_line__1 rfl rfl (q_iload_n (pc' := 3) dX11_line__2 rfl rfl (q_cVi (pc' := 6) dX11_line__3 rfl ml_RX11_378 yv_X11_isLine (by decide) (rn_X11_isLine hM hb hk hR hA hd) ⟨by omega, rfl⟩ rfl rfl (Nat.le_of_ble_eq_true rfl) (Nat.le_refl _) (q_ifb_eq (pc' := 9) (pt := 40) dX11_line__6 rfl rfl (fun h2 => ?_) (fun h2 => ?_)))))
    · exact q_iconst (pc' := 41) _ dX11_line__40 rfl kk_iconst_m1 (q_iret dX11_line__41 rfl hQ)
    · rw [h2, Bool.true_and] at hx1
      exact q_iload_n (pc' := 10) dX11_line__9 rfl rfl (q_iconst (pc' := 11) _ dX11_line__10 rfl kk_iconst_0 (q_iconst (pc' := 12) _ dX11_line__11 rfl kk_iconst_5 (q_cSi (pc' := 15) dX11_line__12 rfl ml_RX11_89 ys_X11_isIn (by decide) (rn_isInN 5) rfl rfl (Nat.le_of_ble_eq_true rfl) (Nat.le_refl _) (q_ifb_eq (pc' := 18) (pt := 40) dX11_line__15 rfl rfl (fun _ => (q_iconst (pc' := 41) _ dX11_line__40 rfl kk_iconst_m1 (q_iret dX11_line__41 rfl hQ))) (fun h9 => Bool.noConfusion (Eq.trans (Eq.symm (hx1)) h9))))))
/-- log(k, j) -/
theorem rn_X11_log {k j : Nat} (hM : mj_wM R) (hR : rR (I 464) A) (hg : k < min (A 14 4) 40) (hj : j < 5) : Rn w l yX11_log dd_X11_log [.ref 452, .int (nI k), .int (nI j)] (472, I, J, R) (some (.int (nI (eG (A 15 (A 14 4 - 1 - k)) j)))) (472, I, J, R) := by
  have e := cE_log (A := A) (k := k) hj
  rw [if_pos (by omega)] at e
  refine rn_intro2 (L := [some (.ref 452), some (.int (nI k)), some (.int (nI j))]) ⟨by decide, rfl, (fun h => by cases h)⟩ (Nat.le_refl _) (Nat.le_of_ble_eq_true rfl) rfl (fun Y Q hQ => ?_)
  refine q_iload_n (pc' := 1) dX11_log_0 rfl rfl (q_iconst (pc' := 2) _ dX11_log_1 rfl kk_iconst_0 (q_aload_n (pc' := 3) dX11_log_2 rfl rfl (q_getR (pc' := 6) dX11_log_3 rfl fr_RX11_51 ⟨by omega, rfl⟩ rfl (wM_36 hM) (by decide) (q_sipush (pc' := 9) _ dX11_log_6 rfl kk_sipush_1574 (q_ialde (pc' := 10) _ dX11_log_9 rfl (by first | exact ⟨by omega, rfl⟩ | exact okaS hi hz (by decide) rfl | assumption) rfl (by omega) ((hR _ (by omega)).trans cE_lg) (q_iconst (pc' := 11) _ dX11_log_10 rfl kk_iconst_1 (q_isub (pc' := 12) dX11_log_11 rfl (q_cSi (pc' := 15) dX11_log_12 rfl ml_RX11_89 ys_X11_isIn (by decide) (rn_isInS) rfl rfl (Nat.le_of_ble_eq_true rfl) (Nat.le_refl _) (q_ifb_eq (pc' := 18) (pt := 44) dX11_log_15 rfl rfl (fun h9 => Bool.noConfusion (Eq.trans (Eq.symm (inN_t (by omega) hg)) h9)) (fun _ => (q_iload_n (pc' := 19) dX11_log_18 rfl rfl (q_iconst (pc' := 20) _ dX11_log_19 rfl kk_iconst_0 (q_iconst (pc' := 21) _ dX11_log_20 rfl kk_iconst_4 (q_cSi (pc' := 24) dX11_log_21 rfl ml_RX11_89 ys_X11_isIn (by decide) (rn_isInN 4) rfl rfl (Nat.le_of_ble_eq_true rfl) (Nat.le_refl _) ?_))))))))))))))
  exact q_ifb_eq (pc' := 27) (pt := 44) dX11_log_24 rfl rfl (fun h9 => Bool.noConfusion (Eq.trans (Eq.symm (inN_t (by decide) hj)) h9)) (fun _ => (q_aload_n (pc' := 28) dX11_log_27 rfl rfl (q_getR (pc' := 31) dX11_log_28 rfl fr_RX11_51 ⟨by omega, rfl⟩ rfl (wM_36 hM) (by decide) (q_sipush (pc' := 34) _ dX11_log_31 rfl kk_sipush_1575 (q_iconst (pc' := 35) _ dX11_log_34 rfl kk_iconst_5 (q_iload_n (pc' := 36) dX11_log_35 rfl rfl (q_imul (pc' := 37) dX11_log_36 rfl (q_iadd (pc' := 38) dX11_log_37 rfl (q_iload_n (pc' := 39) dX11_log_38 rfl rfl (q_iadd (pc' := 40) dX11_log_39 rfl (q_ialde (pc' := 41) (1575 + (5 * k + j)) dX11_log_40 rfl (by first | exact ⟨by omega, rfl⟩ | exact okaS hi hz (by decide) rfl | assumption) (by (first | (simp only [nI_add, pk_mul]; done) | (simp only [nI_add, pk_mul]; exact nI_e (by omega)) | exact nI_e (by omega))) (by omega) ((hR _ (by omega)).trans e) (q_goto (pc' := 45) dX11_log_41 rfl (q_iret dX11_log_45 rfl hQ)))))))))))))
theorem rn_X11_log0 {x y : Int32} (hM : mj_wM R) (hR : rR (I 464) A) (hx : (inN x (min (A 14 4) 40) && inN y 5) = false) : Rn w l yX11_log dd_X11_log [.ref 452, .int x, .int y] (472, I, J, R) (some (.int (-1))) (472, I, J, R) := by
  refine rn_intro2 (L := [some (.ref 452), some (.int x), some (.int y)]) ⟨by decide, rfl, (fun h => by cases h)⟩ (Nat.le_refl _) (Nat.le_of_ble_eq_true rfl) rfl (fun Y Q hQ => ?_)
  refine q_iload_n (pc' := 1) dX11_log_0 rfl rfl (q_iconst (pc' := 2) _ dX11_log_1 rfl kk_iconst_0 (q_aload_n (pc' := 3) dX11_log_2 rfl rfl (q_getR (pc' := 6) dX11_log_3 rfl fr_RX11_51 ⟨by omega, rfl⟩ rfl (wM_36 hM) (by decide) (q_sipush (pc' := 9) _ dX11_log_6 rfl kk_sipush_1574 (q_ialde (pc' := 10) _ dX11_log_9 rfl (by first | exact ⟨by omega, rfl⟩ | exact okaS hi hz (by decide) rfl | assumption) rfl (by omega) ((hR _ (by omega)).trans cE_lg) (q_iconst (pc' := 11) _ dX11_log_10 rfl kk_iconst_1 (q_isub (pc' := 12) dX11_log_11 rfl (q_cSi (pc' := 15) dX11_log_12 rfl ml_RX11_89 ys_X11_isIn (by decide) (rn_isInS) rfl rfl (Nat.le_of_ble_eq_true rfl) (Nat.le_refl _) (q_ifb_eq (pc' := 18) (pt := 44) dX11_log_15 rfl rfl (fun h1 => ?_) (fun h1 => ?_))))))))))
  · exact q_iconst (pc' := 45) _ dX11_log_44 rfl kk_iconst_m1 (q_iret dX11_log_45 rfl hQ)
  · rw [h1, Bool.true_and] at hx
    exact q_iload_n (pc' := 19) dX11_log_18 rfl rfl (q_iconst (pc' := 20) _ dX11_log_19 rfl kk_iconst_0 (q_iconst (pc' := 21) _ dX11_log_20 rfl kk_iconst_4 (q_cSi (pc' := 24) dX11_log_21 rfl ml_RX11_89 ys_X11_isIn (by decide) (rn_isInN 4) rfl rfl (Nat.le_of_ble_eq_true rfl) (Nat.le_refl _) (q_ifb_eq (pc' := 27) (pt := 44) dX11_log_24 rfl rfl (fun _ => (q_iconst (pc' := 45) _ dX11_log_44 rfl kk_iconst_m1 (q_iret dX11_log_45 rfl hQ))) (fun h9 => Bool.noConfusion (Eq.trans (Eq.symm (hx)) h9))))))
/-- how many LINES are STARTED of the first so many DEVICES -/
def aStL (b A : St) : Nat → Nat := sumN (fun d => if A 7 d = 1 then b 2 d else 0)
theorem aStL_le {b A : St} (hk : bOK b) (k : Nat) (h : k ≤ b 0 2) : aStL b A k ≤ k * 8 := sumN_le (fun d hd => by
  have := hk.2.2.2 d (by omega)
  split <;> omega)
theorem rn_X11_startedLines (hM : mj_wM R) (hb : mB I b) (hk : bOK b) (hR : rR (I 464) A) (hA : aOK A) : Rn w l yX11_startedLines dd_X11_startedLines [.ref 452] (472, I, J, R) (some (.int (nI (aStL b A (b 0 2))))) (472, I, J, R) := by
  have hv := hk.2.2.1
  refine rn_intro2 (L := [some (.ref 452), none, none]) ⟨by decide, rfl, (fun h => by cases h)⟩ (Nat.le_refl _) (Nat.le_of_ble_eq_true rfl) rfl (fun Y Q hQ => ?_)
  refine q_iconst (pc' := 1) _ dX11_startedLines_0 rfl kk_iconst_0 (q_ist_1 (pc' := 2) dX11_startedLines_1 rfl (by decide) rfl (q_iconst (pc' := 3) _ dX11_startedLines_2 rfl kk_iconst_0 (q_ist_2 (pc' := 4) dX11_startedLines_3 rfl (by decide) rfl ?_)))
  have loop : ∀ m k, k + m = (b 0 2) → Wq dd_X11_startedLines (mj_mk w l 472 Y) Q 4 [some (.ref 452), some (.int (nI (aStL b A k))), some (.int (nI k))] [] (472, I, J, R) := by
    intro m
    induction m with
    | zero =>
      intro k hkm
      have hkz : k = (b 0 2) := by omega
      subst hkz
      exact q_iload_n (pc' := 5) dX11_startedLines_4 rfl rfl (q_aload_n (pc' := 6) dX11_startedLines_5 rfl rfl (q_getIe (pc' := 9) dX11_startedLines_6 rfl fr_RX11_252 ⟨by omega, rfl⟩ rfl (mB_2 hb) (q_icmp_ge (pc' := 12) (pt := 39) dX11_startedLines_9 rfl rfl (fun _ => (q_iload_n (pc' := 40) dX11_startedLines_39 rfl rfl (q_iret dX11_startedLines_40 rfl hQ))) (fun h9 => absurd (by (first | assumption | exact nI_le (by omega) (by omega) | exact nI_ge (by omega) (by omega) | exact nI_lt (by omega) (by omega) | exact nI_nlt (by omega) (by omega) | exact nI_ne (by omega) (by omega) (by omega) | exact nI_e (by omega) | decide)) h9))))
    | succ m ih =>
      intro k hkm
      refine q_iload_n (pc' := 5) dX11_startedLines_4 rfl rfl (q_aload_n (pc' := 6) dX11_startedLines_5 rfl rfl (q_getIe (pc' := 9) dX11_startedLines_6 rfl fr_RX11_252 ⟨by omega, rfl⟩ rfl (mB_2 hb) (q_icmp_ge (pc' := 12) (pt := 39) dX11_startedLines_9 rfl rfl (fun h9 => absurd h9 (by (first | assumption | exact nI_le (by omega) (by omega) | exact nI_ge (by omega) (by omega) | exact nI_lt (by omega) (by omega) | exact nI_nlt (by omega) (by omega) | exact nI_ne (by omega) (by omega) (by omega) | exact nI_e (by omega) | decide))) (fun _ => (q_iload_n (pc' := 13) dX11_startedLines_12 rfl rfl (q_aload_n (pc' := 14) dX11_startedLines_13 rfl rfl (q_iload_n (pc' := 15) dX11_startedLines_14 rfl rfl (q_cVi (pc' := 18) dX11_startedLines_15 rfl ml_RX11_283 yv_X11_isStarted (by decide) (rn_X11_isStarted hM hR hA (by omega)) ⟨by omega, rfl⟩ rfl rfl (Nat.le_of_ble_eq_true rfl) (Nat.le_refl _) (q_ifb_eq (pc' := 21) (pt := 30) dX11_startedLines_18 rfl rfl (fun h1 => ?_) (fun h1 => ?_))))))))))
      · refine q_iconst (pc' := 31) _ dX11_startedLines_30 rfl kk_iconst_0 (q_iadd (pc' := 32) dX11_startedLines_31 rfl ?_)
        refine q_top (sum_st ?_) ?_
        · exact if_neg (beq_eq_false_iff_ne.mp h1)
        refine q_ist_1 (pc' := 33) dX11_startedLines_32 rfl (by decide) rfl (q_inc_2 (pc' := 36) dX11_startedLines_33 rfl (by decide) rfl (q_goto (pc' := 4) dX11_startedLines_36 rfl ?_))
        exact ih (k + 1) (by omega)
      · refine q_aload_n (pc' := 22) dX11_startedLines_21 rfl rfl (q_getR (pc' := 25) dX11_startedLines_22 rfl fr_RX11_32 ⟨by omega, rfl⟩ rfl (wM_30 hM) (by decide) (q_iload_n (pc' := 26) dX11_startedLines_25 rfl rfl (q_ialde (pc' := 27) _ dX11_startedLines_26 rfl (by first | exact ⟨by omega, rfl⟩ | exact okaS hi hz (by decide) rfl | assumption) rfl (by omega) (hb.2.2.2 k (by omega)).2.1 (q_goto (pc' := 31) dX11_startedLines_27 rfl (q_iadd (pc' := 32) dX11_startedLines_31 rfl ?_)))))
        refine q_top (sum_st ?_) ?_
        · exact if_pos (beq_iff_eq.mp h1)
        refine q_ist_1 (pc' := 33) dX11_startedLines_32 rfl (by decide) rfl (q_inc_2 (pc' := 36) dX11_startedLines_33 rfl (by decide) rfl (q_goto (pc' := 4) dX11_startedLines_36 rfl ?_))
        exact ih (k + 1) (by omega)
  exact loop (b 0 2) 0 (by omega)
theorem rn_X11_triesNow (hM : mj_wM R) : Rn w l yX11_triesNow dd_X11_triesNow [.ref 452] (472, I, J, R) none (472, mj_cp I 469 1775 (I 464), J, R) := by
  refine rn_intro2 (L := [some (.ref 452), none]) ⟨by decide, rfl, (fun h => by cases h)⟩ (Nat.le_refl _) (Nat.le_of_ble_eq_true rfl) rfl (fun Y Q hQ => ?_)
  refine q_iconst (pc' := 1) _ dX11_triesNow_0 rfl kk_iconst_0 (q_ist_1 (pc' := 2) dX11_triesNow_1 rfl (by decide) rfl ?_)
  have loop : ∀ m k, k + m = 1775 → Wq dd_X11_triesNow (mj_mk w l 472 Y) Q 2 [some (.ref 452), some (.int (nI k))] [] (472, mj_cp I 469 k (I 464), J, R) := by
    intro m
    induction m with
    | zero =>
      intro k hkm
      have hkz : k = 1775 := by omega
      subst hkz
      exact q_iload_n (pc' := 3) dX11_triesNow_2 rfl rfl (q_sipush (pc' := 6) _ dX11_triesNow_3 rfl kk_sipush_1775 (q_icmp_ge (pc' := 9) (pt := 27) dX11_triesNow_6 rfl rfl (fun _ => (q_vret dX11_triesNow_27 rfl hQ)) (fun h9 => absurd (by (first | assumption | exact nI_le (by omega) (by omega) | exact nI_ge (by omega) (by omega) | exact nI_lt (by omega) (by omega) | exact nI_nlt (by omega) (by omega) | exact nI_ne (by omega) (by omega) (by omega) | exact nI_e (by omega) | decide)) h9)))
    | succ m ih =>
      intro k hkm
      refine q_iload_n (pc' := 3) dX11_triesNow_2 rfl rfl (q_sipush (pc' := 6) _ dX11_triesNow_3 rfl kk_sipush_1775 (q_icmp_ge (pc' := 9) (pt := 27) dX11_triesNow_6 rfl rfl (fun h9 => absurd h9 (by (first | assumption | exact nI_le (by omega) (by omega) | exact nI_ge (by omega) (by omega) | exact nI_lt (by omega) (by omega) | exact nI_nlt (by omega) (by omega) | exact nI_ne (by omega) (by omega) (by omega) | exact nI_e (by omega) | decide))) (fun _ => (q_aload_n (pc' := 10) dX11_triesNow_9 rfl rfl (q_getR (pc' := 13) dX11_triesNow_10 rfl fr_RX11_66 ⟨by omega, rfl⟩ rfl (wM_48 hM) (by decide) (q_iload_n (pc' := 14) dX11_triesNow_13 rfl rfl (q_aload_n (pc' := 15) dX11_triesNow_14 rfl rfl (q_getR (pc' := 18) dX11_triesNow_15 rfl fr_RX11_51 ⟨by omega, rfl⟩ rfl (wM_36 hM) (by decide) (q_iload_n (pc' := 19) dX11_triesNow_18 rfl rfl (q_ialde (pc' := 20) _ dX11_triesNow_19 rfl (by first | exact ⟨by omega, rfl⟩ | exact okaS hi hz (by decide) rfl | assumption) rfl (by omega) (congrFun (cp_ne (by decide)) k) (q_iast (pc' := 21) _ dX11_triesNow_20 rfl (by first | exact ⟨by omega, rfl⟩ | exact okaS hi hz (by decide) rfl | assumption) rfl (by omega) ?_)))))))))))
      rw [cp_s]
      refine q_inc_1 (pc' := 24) dX11_triesNow_21 rfl (by decide) rfl (q_goto (pc' := 2) dX11_triesNow_24 rfl ?_)
      exact ih (k + 1) (by omega)
  have := loop 1775 0 (by omega)
  rw [cp_0] at this
  exact this
theorem rn_X11_endsTry (hM : mj_wM R) : Rn w l yX11_endsTry dd_X11_endsTry [.ref 452] (472, I, J, R) none (472, mj_cp I 464 1775 (I 469), J, R) := by
  refine rn_intro2 (L := [some (.ref 452), none]) ⟨by decide, rfl, (fun h => by cases h)⟩ (Nat.le_refl _) (Nat.le_of_ble_eq_true rfl) rfl (fun Y Q hQ => ?_)
  refine q_iconst (pc' := 1) _ dX11_endsTry_0 rfl kk_iconst_0 (q_ist_1 (pc' := 2) dX11_endsTry_1 rfl (by decide) rfl ?_)
  have loop : ∀ m k, k + m = 1775 → Wq dd_X11_endsTry (mj_mk w l 472 Y) Q 2 [some (.ref 452), some (.int (nI k))] [] (472, mj_cp I 464 k (I 469), J, R) := by
    intro m
    induction m with
    | zero =>
      intro k hkm
      have hkz : k = 1775 := by omega
      subst hkz
      exact q_iload_n (pc' := 3) dX11_endsTry_2 rfl rfl (q_sipush (pc' := 6) _ dX11_endsTry_3 rfl kk_sipush_1775 (q_icmp_ge (pc' := 9) (pt := 27) dX11_endsTry_6 rfl rfl (fun _ => (q_vret dX11_endsTry_27 rfl hQ)) (fun h9 => absurd (by (first | assumption | exact nI_le (by omega) (by omega) | exact nI_ge (by omega) (by omega) | exact nI_lt (by omega) (by omega) | exact nI_nlt (by omega) (by omega) | exact nI_ne (by omega) (by omega) (by omega) | exact nI_e (by omega) | decide)) h9)))
    | succ m ih =>
      intro k hkm
      refine q_iload_n (pc' := 3) dX11_endsTry_2 rfl rfl (q_sipush (pc' := 6) _ dX11_endsTry_3 rfl kk_sipush_1775 (q_icmp_ge (pc' := 9) (pt := 27) dX11_endsTry_6 rfl rfl (fun h9 => absurd h9 (by (first | assumption | exact nI_le (by omega) (by omega) | exact nI_ge (by omega) (by omega) | exact nI_lt (by omega) (by omega) | exact nI_nlt (by omega) (by omega) | exact nI_ne (by omega) (by omega) (by omega) | exact nI_e (by omega) | decide))) (fun _ => (q_aload_n (pc' := 10) dX11_endsTry_9 rfl rfl (q_getR (pc' := 13) dX11_endsTry_10 rfl fr_RX11_51 ⟨by omega, rfl⟩ rfl (wM_36 hM) (by decide) (q_iload_n (pc' := 14) dX11_endsTry_13 rfl rfl (q_aload_n (pc' := 15) dX11_endsTry_14 rfl rfl (q_getR (pc' := 18) dX11_endsTry_15 rfl fr_RX11_66 ⟨by omega, rfl⟩ rfl (wM_48 hM) (by decide) (q_iload_n (pc' := 19) dX11_endsTry_18 rfl rfl (q_ialde (pc' := 20) _ dX11_endsTry_19 rfl (by first | exact ⟨by omega, rfl⟩ | exact okaS hi hz (by decide) rfl | assumption) rfl (by omega) (congrFun (cp_ne (by decide)) k) (q_iast (pc' := 21) _ dX11_endsTry_20 rfl (by first | exact ⟨by omega, rfl⟩ | exact okaS hi hz (by decide) rfl | assumption) rfl (by omega) ?_)))))))))))
      rw [cp_s]
      refine q_inc_1 (pc' := 24) dX11_endsTry_21 rfl (by decide) rfl (q_goto (pc' := 2) dX11_endsTry_24 rfl ?_)
      exact ih (k + 1) (by omega)
  have := loop 1775 0 (by omega)
  rw [cp_0] at this
  exact this
end M18
