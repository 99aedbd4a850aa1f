/-! ===== the reference: storms ===== -/
theorem inN_sub {x o m : Nat} (hx : x < 2 ^ 29) (ho : o < 2 ^ 29) (hm : m < 2 ^ 29) : inN (nI x - nI o) m = decide (o ≤ x ∧ x < o + m) := by
  unfold inN
  rw [decide_eq_decide, Int32.le_iff_toInt_le, Int32.le_iff_toInt_le, pk_sub_toInt (by omega) (by omega), pk_sub_toInt (by omega) (by omega), nI_toInt (by omega)]
  omega
theorem nI_sb {x o : Nat} (h : o ≤ x) : nI x - nI o = nI (x - o) := by
  have : x = (x - o) + o := by omega
  rw [this, ← nI_add, Int32.add_sub_cancel, Nat.add_sub_cancel]
theorem raise_7 (A : St) (d k : Nat) (late : Bool) : (aRaise A d k late).2 7 = A 7 := by
  unfold aRaise
  split
  · unfold aPends; split <;> rfl
  · split
    · unfold aPends; split <;> rfl
    · split <;> rfl
/-- what holds through TICKS and RAISES -/
def sCl (b : St) (U : St → Prop) : Prop := ∀ B, U B → (aOK B ∧ pOK B) ∧ U (aTick b B) ∧ ∀ d k, d < b 0 2 → B 7 d = 1 → k < b 2 d → U (aRaise B d k false).2
/-- RAISE of the STARTED LINE of this number -/
def aRa1 (b A : St) (x : Nat) : Nat → St → St := fun d B => if A 7 d = 1 ∧ aStL b A d ≤ x ∧ x < aStL b A d + b 2 d then (aRaise B d (x - aStL b A d) false).2 else B
def aRaA (b : St) (x : Nat) (A : St) : St := itN (aRa1 b A x) (b 0 2) A
theorem aRa_ok {U : St → Prop} {b A : St} {x : Nat} (hU : sCl b U) (hA : U A) (k : Nat) (hk : k ≤ b 0 2) : U (itN (aRa1 b A x) k A) ∧ itN (aRa1 b A x) k A 7 = A 7 := itN_P (P := fun B => U B ∧ B 7 = A 7) (n := b 0 2) ⟨hA, rfl⟩ (fun d B hd hB => by
  unfold aRa1
  split
  · rename_i hc
    exact ⟨(hU B hB.1).2.2 d _ hd (by rw [hB.2]; exact hc.1) (by omega), by rw [raise_7]; exact hB.2⟩
  · exact hB) k hk
def stS (s : Nat) : Nat := (137 * s + 71) % 10007
/-- a storm: where the numbers are, the most that was PENDING, the state -/
def aSto (b A : St) (seed : Nat) : Nat → Nat × Nat × St
  | 0 => (seed, 0, A)
  | k + 1 => if stS (aSto b A seed k).1 % 4 = 0 then (stS (aSto b A seed k).1, max (aSto b A seed k).2.1 (aUnh b (aTick b (aSto b A seed k).2.2)), aTick b (aSto b A seed k).2.2)
    else if 0 < aStL b A (b 0 2) then (stS (stS (aSto b A seed k).1), max (aSto b A seed k).2.1 (aUnh b (aRaA b (stS (stS (aSto b A seed k).1) % aStL b A (b 0 2)) (aSto b A seed k).2.2)), aRaA b (stS (stS (aSto b A seed k).1) % aStL b A (b 0 2)) (aSto b A seed k).2.2)
    else (stS (stS (aSto b A seed k).1), max (aSto b A seed k).2.1 (aUnh b (aSto b A seed k).2.2), (aSto b A seed k).2.2)
theorem aUnh_le {b A : St} (hk : bOK b) (hA : aOK A) : aUnh b A ≤ 336 := by
  have h8 := hk.1.2
  have h1 := sumN_le (f := aPend b A) (n := b 0 0) (m := 32) (fun p hp => aPend_le hk hA (by omega))
  have h2 := sumN_le (f := A 6) (n := 80) (m := 1) (fun p hp => by have := (hA.2.1 p hp).2.2.2; omega)
  unfold aUnh
  omega
theorem stS_lt (s : Nat) : stS s < 10007 := Nat.mod_lt _ (by decide)
theorem aSto_ok {U : St → Prop} {b A : St} {seed : Nat} (hk : bOK b) (hU : sCl b U) (hA : U A) (hs : seed < 10007) (k : Nat) : U (aSto b A seed k).2.2 ∧ (aSto b A seed k).1 < 10007 ∧ (aSto b A seed k).2.1 ≤ 336 := by
  induction k with
  | zero => exact ⟨hA, hs, Nat.zero_le _⟩
  | succ k ih =>
    unfold aSto
    split
    · have h1 := (hU _ ih.1).2.1
      exact ⟨h1, stS_lt _, by have := aUnh_le hk (hU _ h1).1.1; have := ih.2.2; dsimp only; omega⟩
    · split
      · have h1 := (aRa_ok (x := stS (stS (aSto b A seed k).1) % aStL b A (b 0 2)) hU ih.1 (b 0 2) (Nat.le_refl _)).1
        exact ⟨h1, stS_lt _, by have := aUnh_le hk (hU _ h1).1.1; have := ih.2.2; unfold aRaA; dsimp only; omega⟩
      · exact ⟨ih.1, stS_lt _, by have := aUnh_le hk (hU _ ih.1).1.1; have := ih.2.2; dsimp only; omega⟩
/-- nothing but the row and what was put aside or tried has changed -/
def mT (I I' : mj_M) : Prop := ∀ a, a ≠ 464 → a ≠ 465 → a ≠ 469 → I' a = I a
section M19
variable {w : mj_Wd} {l : Launch} {I : mj_M} {J : mj_J} {R : mj_R} {b A W0 : St} {ps : Nat → St} {n u : Nat} {h : mj_H} {U : St → Prop}
theorem rs_X11_raisesAt {x : Nat} (hM : mj_wM R) (hb : mB I b) (hk : bOK b) (hU : sCl b U) (hA : U A) (hR : rR (I 464) A) (hx : x < 2 ^ 29) : RsV w l yX11_raisesAt dd_X11_raisesAt [.ref 452, .int (nI x)] (472, I, J, R) (fun I' => rR (I' 464) (aRaA b x A) ∧ mF I I') := by
  have h10 := hk.2.2.1
  refine rt_intro2 (L := [some (.ref 452), some (.int (nI x)), none, none, none]) ⟨by decide, rfl, (fun h => by cases h)⟩ (Nat.le_of_ble_eq_true rfl) rfl (fun Y Q hQ => ?_)
  have loop : ∀ m k I0 o4, k + m = b 0 2 → mF I I0 → rR (I0 464) (itN (aRa1 b A x) k A) → Wq dd_X11_raisesAt (mj_mk w l 472 Y) Q 4 [some (.ref 452), some (.int (nI x)), some (.int (nI x - nI (aStL b A k))), some (.int (nI k)), o4] [] (472, I0, J, R) := by
    intro m
    induction m with
    | zero =>
      intro k I0 o4 hkm hF0 hR0
      have hkz : k = b 0 2 := by omega
      subst hkz
      have hb0 := mB_F hF0 hb
      exact q_iload_n (pc' := 5) dX11_raisesAt_4 rfl rfl (q_aload_n (pc' := 6) dX11_raisesAt_5 rfl rfl (q_getIe (pc' := 9) dX11_raisesAt_6 rfl fr_RX11_252 ⟨by omega, rfl⟩ rfl (mB_2 hb0) (q_icmp_ge (pc' := 12) (pt := 63) dX11_raisesAt_9 rfl rfl (fun _ => (q_vret dX11_raisesAt_63 rfl (hQ _ _ _ _ ⟨rfl, ⟨rfl, rfl⟩, hR0, hF0⟩))) (fun h9 => absurd (by (first | assumption | exact nI_le (by omega) (by omega) | exact nI_ge (by omega) (by omega) | exact nI_lt (by omega) (by omega) | exact nI_nlt (by omega) (by omega) | exact nI_ne (by omega) (by omega) (by omega) | exact nI_e (by omega) | decide)) h9))))
    | succ m ih =>
      intro k I0 o4 hkm hF0 hR0
      have hb0 := mB_F hF0 hb
      have hok := aRa_ok (x := x) hU hA k (by omega)
      have h7 : itN (aRa1 b A x) k A 7 k = A 7 k := congrFun hok.2 k
      have hao := (hU _ hok.1).1.1
      have hbd := hk.2.2.2 k (by omega)
      have ho := aStL_le (A := A) hk k (by omega)
      have hns : ∀ B, aRa1 b A x k (itN (aRa1 b A x) k A) = B → itN (aRa1 b A x) (k + 1) A = B := fun B h => h
      have hns2 : ∀ y, (if A 7 k = 1 then b 2 k else 0) = y → aStL b A (k + 1) = aStL b A k + y := fun y h => by unfold aStL; rw [← h]; rfl
      refine q_iload_n (pc' := 5) dX11_raisesAt_4 rfl rfl (q_aload_n (pc' := 6) dX11_raisesAt_5 rfl rfl (q_getIe (pc' := 9) dX11_raisesAt_6 rfl fr_RX11_252 ⟨by omega, rfl⟩ rfl (mB_2 hb0) (q_icmp_ge (pc' := 12) (pt := 63) dX11_raisesAt_9 rfl rfl (fun h9 => absurd h9 (by (first | assumption | exact nI_le (by omega) (by omega) | exact nI_ge (by omega) (by omega) | exact nI_lt (by omega) (by omega) | exact nI_nlt (by omega) (by omega) | exact nI_ne (by omega) (by omega) (by omega) | exact nI_e (by omega) | decide))) (fun _ => (q_aload_n (pc' := 13) dX11_raisesAt_12 rfl rfl (q_iload_n (pc' := 14) dX11_raisesAt_13 rfl rfl (q_cVi (pc' := 17) dX11_raisesAt_14 rfl ml_RX11_283 yv_X11_isStarted (by decide) (rn_X11_isStarted hM hR0 hao (by omega)) ⟨by omega, rfl⟩ rfl rfl (Nat.le_of_ble_eq_true rfl) (Nat.le_refl _) (q_ifb_ne (pc' := 20) (pt := 23) dX11_raisesAt_17 rfl rfl (fun h1 => ?_) (fun h1 => ?_)))))))))
      · have h1 : A 7 k = 1 := by rw [← h7]; exact beq_iff_eq.mp h1
        have e2 := hns2 _ (if_pos h1)
        have tail : ∀ I1 o4, mF I I1 → rR (I1 464) (itN (aRa1 b A x) (k + 1) A) → Wq dd_X11_raisesAt (mj_mk w l 472 Y) Q 48 [some (.ref 452), some (.int (nI x)), some (.int (nI x - nI (aStL b A k))), some (.int (nI k)), o4] [] (472, I1, J, R) := by
          intro I1 o5 hF1 hR1
          have hb1 := mB_F hF1 hb
          refine q_iload_n (pc' := 49) dX11_raisesAt_48 rfl rfl (q_aload_n (pc' := 50) dX11_raisesAt_49 rfl rfl (q_getR (pc' := 53) dX11_raisesAt_50 rfl fr_RX11_32 ⟨by omega, rfl⟩ rfl (wM_30 hM) (by decide) (q_iload_n (pc' := 54) dX11_raisesAt_53 rfl rfl (q_ialde (pc' := 55) _ dX11_raisesAt_54 rfl (by first | exact ⟨by omega, rfl⟩ | exact okaS hi hz (by decide) rfl | assumption) rfl (by omega) (hb1.2.2.2 k (by omega)).2.1 (q_isub (pc' := 56) dX11_raisesAt_55 rfl ?_)))))
          refine q_top (y := nI x - nI (aStL b A (k + 1))) (by rw [Int32.sub_sub, nI_add, e2]) ?_
          refine q_ist_2 (pc' := 57) dX11_raisesAt_56 rfl (by decide) rfl (q_inc_3 (pc' := 60) dX11_raisesAt_57 rfl (by decide) rfl (q_goto (pc' := 4) dX11_raisesAt_60 rfl ?_))
          exact ih (k + 1) I1 o5 (by omega) hF1 hR1
        refine q_iload_n (pc' := 24) dX11_raisesAt_23 rfl rfl (q_iconst (pc' := 25) _ dX11_raisesAt_24 rfl kk_iconst_0 (q_aload_n (pc' := 26) dX11_raisesAt_25 rfl rfl (q_getR (pc' := 29) dX11_raisesAt_26 rfl fr_RX11_32 ⟨by omega, rfl⟩ rfl (wM_30 hM) (by decide) (q_iload_n (pc' := 30) dX11_raisesAt_29 rfl rfl (q_ialde (pc' := 31) _ dX11_raisesAt_30 rfl (by first | exact ⟨by omega, rfl⟩ | exact okaS hi hz (by decide) rfl | assumption) rfl (by omega) (hb0.2.2.2 k (by omega)).2.1 (q_iconst (pc' := 32) _ dX11_raisesAt_31 rfl kk_iconst_1 (q_isub (pc' := 33) dX11_raisesAt_32 rfl (q_cSi (pc' := 36) dX11_raisesAt_33 rfl ml_RX11_89 ys_X11_isIn (by decide) (rn_isInS) rfl rfl (Nat.le_of_ble_eq_true rfl) (Nat.le_refl _) ?_))))))))
        rw [inN_sub hx (by omega) (by omega)]
        by_cases hc : aStL b A k ≤ x ∧ x < aStL b A k + b 2 k
        · rw [decide_eq_true hc, nI_sb hc.1]
          refine q_ifb_eq (pc' := 39) (pt := 48) dX11_raisesAt_36 rfl rfl (fun h9 => Bool.noConfusion (Eq.trans (Eq.symm (rfl)) h9)) (fun _ => (q_aload_n (pc' := 40) dX11_raisesAt_39 rfl rfl (q_iload_n (pc' := 41) dX11_raisesAt_40 rfl rfl (q_iload_n (pc' := 42) dX11_raisesAt_41 rfl rfl (q_iconst (pc' := 43) _ dX11_raisesAt_42 rfl kk_iconst_0 (q_sVi (pc' := 46) dX11_raisesAt_43 rfl ml_RX11_423 yv_X11_raises (by decide) (rs_X11_raises (late := false) hM hR0 hao (by omega) (by omega)) ⟨by omega, rfl⟩ rfl rfl (Nat.le_of_ble_eq_true rfl) (Nat.le_refl _) (fun x2 I2 ⟨t1, t2, t3⟩ => ?_)))))))
          rw [← nI_sb hc.1]
          refine q_ist_4 (pc' := 48) dX11_raisesAt_46 rfl (by decide) rfl ?_
          exact tail I2 _ (hF0.tr t3) (by rw [hns _ (if_pos ⟨h1, hc⟩)]; exact t2)
        · rw [decide_eq_false hc]
          refine q_ifb_eq (pc' := 39) (pt := 48) dX11_raisesAt_36 rfl rfl (fun _ => ?_) (fun h9 => Bool.noConfusion (Eq.trans (Eq.symm (rfl)) h9))
          exact tail I0 _ hF0 (by rw [hns _ (if_neg (fun q => hc q.2))]; exact hR0)
      · have h1 : ¬ A 7 k = 1 := by rw [← h7]; exact beq_eq_false_iff_ne.mp h1
        have e2 := hns2 _ (if_neg h1)
        have next := ih (k + 1) I0 o4 (by omega) hF0 (by rw [hns _ (if_neg (fun q => h1 q.1))]; exact hR0)
        rw [e2] at next
        refine q_goto (pc' := 57) dX11_raisesAt_20 rfl (q_inc_3 (pc' := 60) dX11_raisesAt_57 rfl (by decide) rfl (q_goto (pc' := 4) dX11_raisesAt_60 rfl ?_))
        exact next
  refine q_iload_n (pc' := 1) dX11_raisesAt_0 rfl rfl (q_ist_2 (pc' := 2) dX11_raisesAt_1 rfl (by decide) rfl (q_iconst (pc' := 3) _ dX11_raisesAt_2 rfl kk_iconst_0 (q_ist_3 (pc' := 4) dX11_raisesAt_3 rfl (by decide) rfl ?_)))
  have := loop (b 0 2) 0 I none (by omega) mF.rf hR
  rw [show nI x - nI (aStL b A 0) = nI x from nI_sb (Nat.zero_le _)] at this
  exact this
end M19
