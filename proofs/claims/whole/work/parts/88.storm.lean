/-! ===== the class: storms ===== -/
def mSw (i : Nat) (I I' : mj_M) : Prop := ∀ a, (∀ c, c < 20 → a ≠ sA i c) → a ≠ 451 → I' a = I a
theorem mSw.rf {i : Nat} {I : mj_M} : mSw i I I := fun _ _ _ => rfl
theorem mSw.tr {i : Nat} {I I' I2 : mj_M} (h : mSw i I I') (h2 : mSw i I' I2) : mSw i I I2 := fun a ha hb => (h2 a ha hb).trans (h a ha hb)
theorem mS.sw {i : Nat} {I I' : mj_M} (h : mS i I I') : mSw i I I' := fun a ha _ => h a ha
theorem mSw_up {i j : Nat} {I : mj_M} {x : Int32} : mSw i I (mj_up I 451 j x) := fun a _ hb => up_fI hb
theorem cB_W {i : Nat} {I I' : mj_M} {b : St} (h : mSw i I I') (hb : cB I b) : cB I' b := by
  have f : ∀ a, a < 30 → I' a = I a := fun a ha => h a (fun c _ => by unfold sA; omega) (by omega)
  refine ⟨?_, fun d hd => ?_⟩
  · rw [f 4 (by decide)]; exact hb.1
  · rw [f 7 (by decide), f 8 (by decide), f 9 (by decide)]; exact hb.2 d hd
theorem cR_W {i j : Nat} {I : mj_M} {x : Int32} {b A : St} (hi : i < 21) (h : cR I i b A) : cR (mj_up I 451 j x) i b A := cR_F (fun c hc => up_fI (by unfold sA; omega)) h
theorem mS_451 {i : Nat} {I I' : mj_M} (hi : i < 21) (h : mS i I I') : I' 451 = I 451 := h 451 (fun c hc => by unfold sA; omega)
theorem raise_142 {A : St} {d k : Nat} {late : Bool} (h2 : ∀ q, q < 256 → A 2 q < 2) (p3 : A 3 (8 * d + k) ≤ 256) (p4 : A 4 (8 * d + k) ≤ 256) : (aRaise A d k late).2 14 2 = A 14 2 + (if (aRaise A d k late).1 = 0 then 1 else 0) ∧ (aRaise A d k late).2 14 4 = A 14 4 ∧ (aRaise A d k late).2 14 1 = A 14 1 := by
  have key : ∀ pl, pl < 256 → aPends A d pl 14 2 = A 14 2 + (if 1 - A 2 pl = 0 then 1 else 0) ∧ aPends A d pl 14 4 = A 14 4 ∧ aPends A d pl 14 1 = A 14 1 := fun pl hpl => by
    unfold aPends
    have hb := h2 pl hpl
    by_cases c : A 2 pl = 1
    · rw [if_pos c, if_pos (by omega)]
      unfold aMerge
      rw [mj_up_eq, mj_up_ne2 (by decide), mj_up_ne (by decide), mj_up_ne2 (by decide), mj_up_ne (by decide)]
      exact ⟨rfl, rfl, rfl⟩
    · rw [if_neg c, if_neg (by omega), mj_up_ne (by decide), mj_up_ne (by decide), mj_up_ne (by decide)]
      exact ⟨rfl, rfl, rfl⟩
  unfold aRaise
  by_cases c1 : late = true ∧ A 4 (8 * d + k) ≠ 0
  · rw [if_pos c1]; exact key _ (by have := c1.2; omega)
  · rw [if_neg c1]
    by_cases c3 : A 3 (8 * d + k) ≠ 0
    · rw [if_pos c3]; exact key _ (by omega)
    · rw [if_neg c3]
      by_cases c6 : A 6 (8 * d + k) = 1
      · rw [if_pos c6]
        show aMerge A d 14 2 = A 14 2 + 1 ∧ aMerge A d 14 4 = A 14 4 ∧ aMerge A d 14 1 = A 14 1
        unfold aMerge
        rw [mj_up_eq, mj_up_ne2 (by decide), mj_up_ne (by decide), mj_up_ne2 (by decide), mj_up_ne (by decide)]
        exact ⟨rfl, rfl, rfl⟩
      · rw [if_neg c6]
        show mj_up A 6 (8 * d + k) 1 14 2 = A 14 2 + 0 ∧ mj_up A 6 (8 * d + k) 1 14 4 = A 14 4 ∧ mj_up A 6 (8 * d + k) 1 14 1 = A 14 1
        rw [mj_up_ne (by decide), mj_up_ne (by decide), mj_up_ne (by decide)]
        exact ⟨rfl, rfl, rfl⟩
theorem tick_142 {b A : St} (hk : bOK b) (h : tI b A) : aTick b A 14 2 = A 14 2 := by
  unfold aTick
  rw [mj_up_ne2 (by decide)]
  have ht : tI b (aTick1 b A) := tI_tick1 hk h (b 0 0) (Nat.le_refl _)
  rw [← drain_flat hk ht, drs_14]
  unfold aTick1
  refine itN_P (P := fun B => B 14 2 = A 14 2) (n := b 0 0) rfl (fun p B _ hB => ?_) (b 0 0) (Nat.le_refl _)
  show (if B 9 p = 1 then aHandle b B p else B) 14 2 = A 14 2
  split
  · unfold aHandle
    cases aTop b B p with
    | none => exact hB
    | some v => show aHand B p (32 * p + v) 14 2 = _; rw [hand_14, if_neg (by decide), if_neg (by decide)]; exact hB
  · exact hB
/-- what else the class must know through a storm -/
def sC2 (b : St) (U : St → Prop) : Prop := ∀ B, U B → (tI b B ∧ dI B) ∧ (∀ d k, d < b 0 2 → B 7 d = 1 → k < b 2 d → pv b (B 3 (8 * d + k)) ∧ pv b (B 4 (8 * d + k))) ∧ ∀ id, 8 * b 0 2 ≤ id → id < 80 → B 6 id = 0
section STORM
variable {w : mj_Wd} {l : Launch} {I : mj_M} {J : mj_J} {R : mj_R} {b A : St} {i : Nat} {U : St → Prop}
theorem rn_X6_nextSeed {s : Nat} {h : mj_H} (hs : s < 10007) : Rn w l yX6_nextSeed dd_X6_nextSeed [.int (nI s)] h (some (.int (nI (stS s)))) h := by
  refine rn_intro2 (L := [some (.int (nI s))]) ⟨by decide, rfl, (fun h => by cases h)⟩ (Nat.le_refl _) (Nat.le_of_ble_eq_true rfl) rfl (fun Y Q hQ => ?_)
  refine q_iload_n (pc' := 1) dX6_nextSeed_0 rfl rfl (q_sipush (pc' := 4) _ dX6_nextSeed_1 rfl kk_sipush_137 (q_imul (pc' := 5) dX6_nextSeed_4 rfl (q_bipush (pc' := 7) _ dX6_nextSeed_5 rfl kk_bipush_71 (q_iadd (pc' := 8) dX6_nextSeed_7 rfl ?_))))
  refine q_top (y := nI (137 * s + 71)) (by rw [pk_mul, nI_add, Nat.mul_comm s 137]) ?_
  refine q_sipush (pc' := 11) _ dX6_nextSeed_8 rfl kk_sipush_10007 (q_irem (pc' := 12) dX6_nextSeed_11 rfl (by decide) ?_)
  refine q_top (stS_e hs) ?_
  exact q_iret dX6_nextSeed_12 rfl hQ
theorem rn_X6_startedLines (hi : i < 21) (hV : mj_wV R) (hB : mj_wB R 4) (hb : cB I b) (hk : bOK b) (h : cRs I i A) : Rn w l yX6_startedLines dd_X6_startedLines [.ref 451, .ref (sA i 0)] (472, I, J, R) (some (.int (nI (aStL b A (b 0 2))))) (472, I, J, R) := by
  have hz : 50 + 20 * i ≤ 472 := by omega
  have h10 := hk.2.2.1
  refine rn_intro2 (L := [some (.ref 451), some (.ref (sA i 0)), none, none]) ⟨by decide, rfl, (fun h => by cases h)⟩ (Nat.le_refl _) (Nat.le_of_ble_eq_true rfl) rfl (fun Y Q hQ => ?_)
  have loop : ∀ m k, k + m = b 0 2 → Wq dd_X6_startedLines (mj_mk w l 472 Y) Q 4 [some (.ref 451), some (.ref (sA i 0)), some (.int (nI (aStL b A k))), some (.int (nI k))] [] (472, I, J, R) := by
    intro m
    induction m with
    | zero =>
      intro k hkm
      have hkz : k = b 0 2 := by omega
      subst hkz
      exact q_iload_n (pc' := 5) dX6_startedLines_4 rfl rfl (q_aload_n (pc' := 6) dX6_startedLines_5 rfl rfl (q_getR (pc' := 9) dX6_startedLines_6 rfl fr_RX6_9 ⟨by omega, rfl⟩ rfl (wV_6_0 hV) (by decide) (q_getIe (pc' := 12) dX6_startedLines_9 rfl fr_RX6_52 (by first | assumption | exact ⟨by omega, rfl⟩) rfl (cB_4 hb) (q_icmp_ge (pc' := 15) (pt := 45) dX6_startedLines_12 rfl rfl (fun _ => (q_iload_n (pc' := 46) dX6_startedLines_45 rfl rfl (q_iret dX6_startedLines_46 rfl hQ))) (fun h9 => absurd (by (first | assumption | exact nI_le (by omega) (by omega) | exact nI_ge (by omega) (by omega) | exact nI_lt (by omega) (by omega) | exact nI_nlt (by omega) (by omega) | exact nI_ne (by omega) (by omega) (by omega) | exact nI_e (by omega) | decide)) h9)))))
    | succ m ih =>
      intro k hkm
      have next := ih (k + 1) (by omega)
      have es : aStL b A (k + 1) = aStL b A k + (if A 7 k = 1 then b 2 k else 0) := rfl
      rw [es] at next
      by_cases hc : A 7 k = 1
      · rw [if_pos hc] at next
        refine q_iload_n (pc' := 5) dX6_startedLines_4 rfl rfl (q_aload_n (pc' := 6) dX6_startedLines_5 rfl rfl (q_getR (pc' := 9) dX6_startedLines_6 rfl fr_RX6_9 ⟨by omega, rfl⟩ rfl (wV_6_0 hV) (by decide) (q_getIe (pc' := 12) dX6_startedLines_9 rfl fr_RX6_52 (by first | assumption | exact ⟨by omega, rfl⟩) rfl (cB_4 hb) (q_icmp_ge (pc' := 15) (pt := 45) dX6_startedLines_12 rfl rfl (fun h9 => absurd h9 (by (first | assumption | exact nI_le (by omega) (by omega) | exact nI_ge (by omega) (by omega) | exact nI_lt (by omega) (by omega) | exact nI_nlt (by omega) (by omega) | exact nI_ne (by omega) (by omega) (by omega) | exact nI_e (by omega) | decide))) (fun _ => (q_iload_n (pc' := 16) dX6_startedLines_15 rfl rfl (q_aload_n (pc' := 17) dX6_startedLines_16 rfl rfl (q_iload_n (pc' := 18) dX6_startedLines_17 rfl rfl (q_cVi (pc' := 21) dX6_startedLines_18 rfl ml_RX6_57 yv_X5_isStarted (by decide) (rn_X5_isStarted hi h (by omega)) (okS hi hz (by decide) rfl) rfl rfl (Nat.le_of_ble_eq_true rfl) (Nat.le_refl _) (q_ifb_eq (pc' := 24) (pt := 36) dX6_startedLines_21 rfl rfl (fun h9 => Bool.noConfusion (Eq.trans (Eq.symm (beq_iff_eq.mpr hc)) h9)) (fun _ => (q_aload_n (pc' := 25) dX6_startedLines_24 rfl rfl (q_getR (pc' := 28) dX6_startedLines_25 rfl fr_RX6_9 ⟨by omega, rfl⟩ rfl (wV_6_0 hV) (by decide) (q_getR (pc' := 31) dX6_startedLines_28 rfl fr_RX6_61 (by first | assumption | exact ⟨by omega, rfl⟩) rfl (wB_8 hB) (by omega) (q_iload_n (pc' := 32) dX6_startedLines_31 rfl rfl ?_)))))))))))))))
        refine q_ialde (pc' := 33) (k) dX6_startedLines_32 rfl (by first | exact ⟨by omega, rfl⟩ | exact okaS hi hz (by decide) rfl | assumption) (by (first | (simp only [nI_add, pk_mul]; done) | (simp only [nI_add, pk_mul]; exact nI_e (by omega)) | exact nI_e (by omega))) (by omega) (hb.2 k (by omega)).2.1 (q_goto (pc' := 37) dX6_startedLines_33 rfl ?_)
        refine q_iadd dX6_startedLines_37 rfl ?_
        refine q_top (nI_add _ _) ?_
        refine q_ist_2 (pc' := 39) dX6_startedLines_38 rfl (by decide) rfl (q_inc_3 (pc' := 42) dX6_startedLines_39 rfl (by decide) rfl (q_goto (pc' := 4) dX6_startedLines_42 rfl ?_))
        exact next
      · rw [if_neg hc] at next
        refine q_iload_n (pc' := 5) dX6_startedLines_4 rfl rfl (q_aload_n (pc' := 6) dX6_startedLines_5 rfl rfl (q_getR (pc' := 9) dX6_startedLines_6 rfl fr_RX6_9 ⟨by omega, rfl⟩ rfl (wV_6_0 hV) (by decide) (q_getIe (pc' := 12) dX6_startedLines_9 rfl fr_RX6_52 (by first | assumption | exact ⟨by omega, rfl⟩) rfl (cB_4 hb) (q_icmp_ge (pc' := 15) (pt := 45) dX6_startedLines_12 rfl rfl (fun h9 => absurd h9 (by (first | assumption | exact nI_le (by omega) (by omega) | exact nI_ge (by omega) (by omega) | exact nI_lt (by omega) (by omega) | exact nI_nlt (by omega) (by omega) | exact nI_ne (by omega) (by omega) (by omega) | exact nI_e (by omega) | decide))) (fun _ => (q_iload_n (pc' := 16) dX6_startedLines_15 rfl rfl (q_aload_n (pc' := 17) dX6_startedLines_16 rfl rfl (q_iload_n (pc' := 18) dX6_startedLines_17 rfl rfl (q_cVi (pc' := 21) dX6_startedLines_18 rfl ml_RX6_57 yv_X5_isStarted (by decide) (rn_X5_isStarted hi h (by omega)) (okS hi hz (by decide) rfl) rfl rfl (Nat.le_of_ble_eq_true rfl) (Nat.le_refl _) (q_ifb_eq (pc' := 24) (pt := 36) dX6_startedLines_21 rfl rfl (fun _ => (q_iconst (pc' := 37) _ dX6_startedLines_36 rfl kk_iconst_0 ?_)) (fun h9 => Bool.noConfusion (Eq.trans (Eq.symm (beq_eq_false_iff_ne.mpr hc)) h9))))))))))))
        refine q_iadd dX6_startedLines_37 rfl ?_
        refine q_top (nI_add _ 0) ?_
        refine q_ist_2 (pc' := 39) dX6_startedLines_38 rfl (by decide) rfl (q_inc_3 (pc' := 42) dX6_startedLines_39 rfl (by decide) rfl (q_goto (pc' := 4) dX6_startedLines_42 rfl ?_))
        exact next
  refine q_iconst (pc' := 1) _ dX6_startedLines_0 rfl kk_iconst_0 (q_ist_2 (pc' := 2) dX6_startedLines_1 rfl (by decide) rfl (q_iconst (pc' := 3) _ dX6_startedLines_2 rfl kk_iconst_0 (q_ist_3 (pc' := 4) dX6_startedLines_3 rfl (by decide) rfl ?_)))
  exact loop (b 0 2) 0 (by omega)
theorem stL_mono {d e : Nat} (h : d ≤ e) : aStL b A d ≤ aStL b A e := by
  induction e with
  | zero => rw [show d = 0 by omega]; exact Nat.le_refl _
  | succ e ih =>
    by_cases c : d = e + 1
    · rw [c]; exact Nat.le_refl _
    · have := ih (by omega)
      have es : aStL b A (e + 1) = aStL b A e + (if A 7 e = 1 then b 2 e else 0) := rfl
      omega
/-- behind the one that was RAISED nothing more happens -/
theorem ra_done {x d : Nat} (hx : x < aStL b A d) : ∀ e, d ≤ e → itN (aRa1 b A x) e A = itN (aRa1 b A x) d A := by
  intro e
  induction e with
  | zero => intro h; rw [show d = 0 by omega]
  | succ e ih =>
    intro h
    by_cases c : d = e + 1
    · rw [c]
    · have h1 := ih (by omega)
      have h2 := stL_mono (b := b) (A := A) (show d ≤ e by omega)
      show aRa1 b A x e (itN (aRa1 b A x) e A) = _
      rw [h1]
      exact if_neg (fun z => by omega)
theorem rn_X6_strike0 (hi : i < 21) (hV : mj_wV R) (hb : cB I b) (hk : bOK b) : Rn w l yX6_strike dd_X6_strike [.ref 451, .ref (sA i 0), .int (-1)] (472, I, J, R) none (472, I, J, R) := by
  have hz : 50 + 20 * i ≤ 472 := by omega
  have h10 := hk.2.2.1
  refine rn_intro2 (L := [some (.ref 451), some (.ref (sA i 0)), some (.int (-1)), none, none, none]) ⟨by decide, rfl, (fun h => by cases h)⟩ (Nat.le_refl _) (Nat.le_of_ble_eq_true rfl) rfl (fun Y Q hQ => ?_)
  by_cases h0 : b 0 2 = 0
  · exact q_iload_n (pc' := 1) dX6_strike_0 rfl rfl (q_ist_3 (pc' := 2) dX6_strike_1 rfl (by decide) rfl (q_iconst (pc' := 3) _ dX6_strike_2 rfl kk_iconst_0 (q_ist_4 (pc' := 5) dX6_strike_3 rfl (by decide) rfl (q_iload (pc' := 7) dX6_strike_5 rfl rfl (q_aload_n (pc' := 8) dX6_strike_7 rfl rfl (q_getR (pc' := 11) dX6_strike_8 rfl fr_RX6_9 ⟨by omega, rfl⟩ rfl (wV_6_0 hV) (by decide) (q_getIe (pc' := 14) dX6_strike_11 rfl fr_RX6_52 (by first | assumption | exact ⟨by omega, rfl⟩) rfl (cB_4 hb) (q_icmp_ge (pc' := 17) (pt := 88) dX6_strike_14 rfl rfl (fun _ => (q_vret dX6_strike_88 rfl hQ)) (fun h9 => absurd (nI_le (by omega) (by omega)) h9)))))))))
  · exact q_iload_n (pc' := 1) dX6_strike_0 rfl rfl (q_ist_3 (pc' := 2) dX6_strike_1 rfl (by decide) rfl (q_iconst (pc' := 3) _ dX6_strike_2 rfl kk_iconst_0 (q_ist_4 (pc' := 5) dX6_strike_3 rfl (by decide) rfl (q_iload (pc' := 7) dX6_strike_5 rfl rfl (q_aload_n (pc' := 8) dX6_strike_7 rfl rfl (q_getR (pc' := 11) dX6_strike_8 rfl fr_RX6_9 ⟨by omega, rfl⟩ rfl (wV_6_0 hV) (by decide) (q_getIe (pc' := 14) dX6_strike_11 rfl fr_RX6_52 (by first | assumption | exact ⟨by omega, rfl⟩) rfl (cB_4 hb) (q_icmp_ge (pc' := 17) (pt := 88) dX6_strike_14 rfl rfl (fun h9 => absurd h9 (Int32.not_le.mpr (nI_lt (by omega) (by omega)))) (fun _ => (q_iload_n (pc' := 18) dX6_strike_17 rfl rfl (q_if_lt (pc' := 21) (pt := 88) dX6_strike_18 rfl rfl (fun _ => (q_vret dX6_strike_88 rfl hQ)) (fun h9 => absurd (by decide) h9))))))))))))
theorem rs_X6_strike {x : Nat} (hi : i < 21) (hS : mj_wS R i) (hV : mj_wV R) (hB : mj_wB R 4) (hb : cB I b) (hk : bOK b) (hU : sCl b U) (hU2 : sC2 b U) (hA : U A) (h : cR I i b A) (hx : x < 2 ^ 20) {g : Nat} (hg : I 451 2 = nI g) : RsV w l yX6_strike dd_X6_strike [.ref 451, .ref (sA i 0), .int (nI x)] (472, I, J, R) (fun I' => (∃ n, I' 451 2 = nI (g + n) ∧ aRaA b x A 14 2 = A 14 2 + n) ∧ aRaA b x A 14 1 = A 14 1 ∧ aRaA b x A 14 4 = A 14 4 ∧ I' 451 1 = I 451 1 ∧ I' 451 3 = I 451 3 ∧ cR I' i b (aRaA b x A) ∧ mSw i I I') := by
  have hz : 50 + 20 * i ≤ 472 := by omega
  have h10 := hk.2.2.1
  refine rt_intro2 (L := [some (.ref 451), some (.ref (sA i 0)), some (.int (nI x)), none, none, none]) ⟨by decide, rfl, (fun h => by cases h)⟩ (Nat.le_of_ble_eq_true rfl) rfl (fun Y Q hQ => ?_)
  unfold aRaA at hQ
  -- the one is RAISED: the rest goes by
  have over : ∀ I0 B d o5 y, x < aStL b A d → d ≤ b 0 2 → y < 0 → itN (aRa1 b A x) d A = B → cR I0 i b B → (∃ n, I0 451 2 = nI (g + n) ∧ B 14 2 = A 14 2 + n) → B 14 1 = A 14 1 → B 14 4 = A 14 4 → I0 451 1 = I 451 1 → I0 451 3 = I 451 3 → mSw i I I0 → Wq dd_X6_strike (mj_mk w l 472 Y) Q 5 [some (.ref 451), some (.ref (sA i 0)), some (.int (nI x)), some (.int y), some (.int (nI d)), o5] [] (472, I0, J, R) := by
    intro I0 B d o5 y hlt hd hy he hr e1 e2 e3 e4 e5 hm
    have hf := ra_done hlt (b 0 2) hd
    rw [hf, he] at hQ
    have hb0 := cB_W hm hb
    by_cases hd2 : d = b 0 2
    · exact q_iload (pc' := 7) dX6_strike_5 rfl rfl (q_aload_n (pc' := 8) dX6_strike_7 rfl rfl (q_getR (pc' := 11) dX6_strike_8 rfl fr_RX6_9 ⟨by omega, rfl⟩ rfl (wV_6_0 hV) (by decide) (q_getIe (pc' := 14) dX6_strike_11 rfl fr_RX6_52 (by first | assumption | exact ⟨by omega, rfl⟩) rfl (cB_4 hb0) (q_icmp_ge (pc' := 17) (pt := 88) dX6_strike_14 rfl rfl (fun _ => (q_vret dX6_strike_88 rfl (hQ _ _ _ _ ⟨rfl, ⟨rfl, rfl⟩, e1, e2, e3, e4, e5, hr, hm⟩))) (fun h9 => absurd (nI_le (by omega) (by omega)) h9)))))
    · exact q_iload (pc' := 7) dX6_strike_5 rfl rfl (q_aload_n (pc' := 8) dX6_strike_7 rfl rfl (q_getR (pc' := 11) dX6_strike_8 rfl fr_RX6_9 ⟨by omega, rfl⟩ rfl (wV_6_0 hV) (by decide) (q_getIe (pc' := 14) dX6_strike_11 rfl fr_RX6_52 (by first | assumption | exact ⟨by omega, rfl⟩) rfl (cB_4 hb0) (q_icmp_ge (pc' := 17) (pt := 88) dX6_strike_14 rfl rfl (fun h9 => absurd h9 (Int32.not_le.mpr (nI_lt (by omega) (by omega)))) (fun _ => (q_iload_n (pc' := 18) dX6_strike_17 rfl rfl (q_if_lt (pc' := 21) (pt := 88) dX6_strike_18 rfl rfl (fun _ => (q_vret dX6_strike_88 rfl (hQ _ _ _ _ ⟨rfl, ⟨rfl, rfl⟩, e1, e2, e3, e4, e5, hr, hm⟩))) (fun h9 => absurd (hy) h9))))))))
  have loop : ∀ m d o5, d + m = b 0 2 → aStL b A d ≤ x → itN (aRa1 b A x) d A = A → Wq dd_X6_strike (mj_mk w l 472 Y) Q 5 [some (.ref 451), some (.ref (sA i 0)), some (.int (nI x)), some (.int (nI (x - aStL b A d))), some (.int (nI d)), o5] [] (472, I, J, R) := by
    intro m
    induction m with
    | zero =>
      intro d o5 hdm hle he
      have hdz : d = b 0 2 := by omega
      subst hdz
      rw [he] at hQ
      exact q_iload (pc' := 7) dX6_strike_5 rfl rfl (q_aload_n (pc' := 8) dX6_strike_7 rfl rfl (q_getR (pc' := 11) dX6_strike_8 rfl fr_RX6_9 ⟨by omega, rfl⟩ rfl (wV_6_0 hV) (by decide) (q_getIe (pc' := 14) dX6_strike_11 rfl fr_RX6_52 (by first | assumption | exact ⟨by omega, rfl⟩) rfl (cB_4 hb) (q_icmp_ge (pc' := 17) (pt := 88) dX6_strike_14 rfl rfl (fun _ => (q_vret dX6_strike_88 rfl (hQ _ _ _ _ ⟨rfl, ⟨rfl, rfl⟩, ⟨0, hg, rfl⟩, rfl, rfl, rfl, rfl, h, mSw.rf⟩))) (fun h9 => absurd (by (first | assumption | exact nI_le (by omega) (by omega) | exact nI_ge (by omega) (by omega) | exact nI_lt (by omega) (by omega) | exact nI_nlt (by omega) (by omega) | exact nI_ne (by omega) (by omega) (by omega) | exact nI_e (by omega) | decide)) h9)))))
    | succ m ih =>
      intro d o5 hdm hle he
      have hd : d < b 0 2 := by omega
      have hs := hk.2.2.2 d hd
      have es : aStL b A (d + 1) = aStL b A d + (if A 7 d = 1 then b 2 d else 0) := rfl
      by_cases c7 : A 7 d = 1
      · rw [if_pos c7] at es
        by_cases hlt : x < aStL b A d + b 2 d
        · have hst : itN (aRa1 b A x) (d + 1) A = (aRaise A d (x - aStL b A d) false).2 := by
            show aRa1 b A x d (itN (aRa1 b A x) d A) = _
            rw [he]
            exact if_pos ⟨c7, hle, hlt⟩
          have hpv := (hU2 A hA).2.1 d (x - aStL b A d) hd c7 (by omega)
          have hok := (hU A hA).1.1
          have hl := hok.2.1 (8 * d + (x - aStL b A d)) (by omega)
          have hrr := raise_142 (A := A) (d := d) (k := x - aStL b A d) (late := false) (fun q hq => (hok.1 q hq).2.2) hl.1 hl.2.1
          refine q_iload (pc' := 7) dX6_strike_5 rfl rfl (q_aload_n (pc' := 8) dX6_strike_7 rfl rfl (q_getR (pc' := 11) dX6_strike_8 rfl fr_RX6_9 ⟨by omega, rfl⟩ rfl (wV_6_0 hV) (by decide) (q_getIe (pc' := 14) dX6_strike_11 rfl fr_RX6_52 (by first | assumption | exact ⟨by omega, rfl⟩) rfl (cB_4 hb) (q_icmp_ge (pc' := 17) (pt := 88) dX6_strike_14 rfl rfl (fun h9 => absurd h9 (by (first | assumption | exact nI_le (by omega) (by omega) | exact nI_ge (by omega) (by omega) | exact nI_lt (by omega) (by omega) | exact nI_nlt (by omega) (by omega) | exact nI_ne (by omega) (by omega) (by omega) | exact nI_e (by omega) | decide))) (fun _ => (q_iload_n (pc' := 18) dX6_strike_17 rfl rfl (q_if_lt (pc' := 21) (pt := 88) dX6_strike_18 rfl rfl (fun h9 => absurd h9 (Int32.not_lt.mpr (nI_le (a := 0) (by omega) (by omega)))) (fun _ => (q_aload_n (pc' := 22) dX6_strike_21 rfl rfl (q_iload (pc' := 24) dX6_strike_22 rfl rfl (q_cVi (pc' := 27) dX6_strike_24 rfl ml_RX6_57 yv_X5_isStarted (by decide) (rn_X5_isStarted hi h.2.2 (by omega)) (okS hi hz (by decide) rfl) rfl rfl (Nat.le_of_ble_eq_true rfl) (Nat.le_refl _) (q_ifb_eq (pc' := 30) (pt := 43) dX6_strike_27 rfl rfl (fun h9 => Bool.noConfusion (Eq.trans (Eq.symm (beq_iff_eq.mpr c7)) h9)) (fun _ => (q_aload_n (pc' := 31) dX6_strike_30 rfl rfl (q_getR (pc' := 34) dX6_strike_31 rfl fr_RX6_9 ⟨by omega, rfl⟩ rfl (wV_6_0 hV) (by decide) (q_getR (pc' := 37) dX6_strike_34 rfl fr_RX6_61 (by first | assumption | exact ⟨by omega, rfl⟩) rfl (wB_8 hB) (by omega) ?_))))))))))))))))
          refine q_iload (pc' := 39) dX6_strike_37 rfl rfl (q_ialde (pc' := 40) (d) dX6_strike_39 rfl (by first | exact ⟨by omega, rfl⟩ | exact okaS hi hz (by decide) rfl | assumption) (by (first | (simp only [nI_add, pk_mul]; done) | (simp only [nI_add, pk_mul]; exact nI_e (by omega)) | exact nI_e (by omega))) (by omega) (hb.2 d hd).2.1 (q_goto (pc' := 44) dX6_strike_40 rfl (q_ist_5 (pc' := 46) dX6_strike_44 rfl (by decide) rfl ?_)))
          refine q_iload_n (pc' := 47) dX6_strike_46 rfl rfl (q_iload (pc' := 49) dX6_strike_47 rfl rfl (q_icmp_ge (pc' := 52) (pt := 77) dX6_strike_49 rfl rfl (fun h9 => absurd h9 (Int32.not_le.mpr (nI_lt (by omega) (by omega)))) (fun _ => (q_aload_n (pc' := 53) dX6_strike_52 rfl rfl (q_dup_a (pc' := 54) dX6_strike_53 rfl (q_getIe (pc' := 57) dX6_strike_54 rfl fr_RX6_19 ⟨by omega, rfl⟩ rfl hg (q_aload_n (pc' := 58) dX6_strike_57 rfl rfl (q_iload (pc' := 60) dX6_strike_58 rfl rfl (q_iload_n (pc' := 61) dX6_strike_60 rfl rfl (q_iconst (pc' := 62) _ dX6_strike_61 rfl kk_iconst_0 (q_sVi (pc' := 65) dX6_strike_62 rfl ml_RX6_65 yv_X5_signal (by decide) (rs_X5_signal (late := false) hi hS hB hb hk h hok hd (by omega) c7 hpv.1 hpv.2) (okS hi hz (by decide) rfl) rfl rfl (Nat.le_of_ble_eq_true rfl) (Nat.le_refl _) (fun x1 I1 ⟨r1, h1, f1⟩ => ?_))))))))))))
          rw [r1]
          have hsb : nI (x - aStL b A d) - nI (b 2 d) < 0 := by
            have e : nI (x - aStL b A d) - nI (b 2 d) = -(nI (b 2 d - (x - aStL b A d))) := by
              rw [← nI_sb (show x - aStL b A d ≤ b 2 d by omega)]
              simp [Int32.neg_sub]
            rw [e]
            apply Int32.lt_iff_toInt_lt.mpr
            have e1 : (nI (b 2 d - (x - aStL b A d))).toInt = ((b 2 d - (x - aStL b A d) : Nat) : Int) := nI_toInt (by omega)
            have e0 : ((0 : Int32)).toInt = 0 := by decide
            rw [Int32.toInt_neg, e1, e0, Int.bmod_def]
            omega
          have fin : ∀ n, (if (aRaise A d (x - aStL b A d) false).1 = 0 then 1 else 0) = n → Wq dd_X6_strike (mj_mk w l 472 Y) Q 73 [some (.ref 451), some (.ref (sA i 0)), some (.int (nI x)), some (.int (nI (x - aStL b A d))), some (.int (nI d)), some (.int (nI (b 2 d)))] [.int (nI n), .int (nI g), .ref 451] (472, I1, J, R) := by
            intro n hn
            refine q_iadd dX6_strike_73 rfl ?_
            refine q_top (nI_add _ _) ?_
            refine q_putI (pc' := 77) dX6_strike_74 rfl fl_RX6_19 ⟨by omega, rfl⟩ rfl (q_iload_n (pc' := 78) dX6_strike_77 rfl rfl (q_iload (pc' := 80) dX6_strike_78 rfl rfl (q_isub (pc' := 81) dX6_strike_80 rfl (q_ist_3 (pc' := 82) dX6_strike_81 rfl (by decide) rfl (q_inc_4 (pc' := 85) dX6_strike_82 rfl (by decide) rfl (q_goto (pc' := 5) dX6_strike_85 rfl ?_))))))
            refine over _ _ (d + 1) _ _ (by omega) (by omega) hsb hst (cR_W hi h1) ⟨n, mj_up_eq, by rw [hrr.1, hn]⟩ hrr.2.2 hrr.2.1 ?_ ?_ (f1.sw.tr mSw_up)
            · rw [mj_up_ne2 (by decide), mS_451 hi f1]
            · rw [mj_up_ne2 (by decide), mS_451 hi f1]
          have hle1 : (aRaise A d (x - aStL b A d) false).1 ≤ 1 := by
            unfold aRaise
            split
            · exact Nat.sub_le _ _
            · split
              · exact Nat.sub_le _ _
              · split
                · exact Nat.zero_le _
                · exact Nat.le_refl _
          by_cases c0 : (aRaise A d (x - aStL b A d) false).1 = 0
          · refine q_if_ne (pc' := 68) (pt := 72) dX6_strike_65 rfl rfl (fun h9 => absurd (by rw [c0]; rfl) h9) (fun _ => (q_iconst (pc' := 69) _ dX6_strike_68 rfl kk_iconst_1 (q_goto (pc' := 73) dX6_strike_69 rfl ?_)))
            exact fin 1 (if_pos c0)
          · refine q_if_ne (pc' := 68) (pt := 72) dX6_strike_65 rfl rfl (fun _ => (q_iconst (pc' := 73) _ dX6_strike_72 rfl kk_iconst_0 ?_)) (fun h9 => absurd h9 (nI_ne (b := 0) c0 (by omega) (by omega)))
            exact fin 0 (if_neg c0)
        · have hst : itN (aRa1 b A x) (d + 1) A = A := by
            show aRa1 b A x d (itN (aRa1 b A x) d A) = _
            rw [he]
            exact if_neg (fun z => hlt z.2.2)
          have next := fun o5 => ih (d + 1) o5 (by omega) (by omega) hst
          rw [es, show x - (aStL b A d + b 2 d) = x - aStL b A d - b 2 d by omega] at next
          refine q_iload (pc' := 7) dX6_strike_5 rfl rfl (q_aload_n (pc' := 8) dX6_strike_7 rfl rfl (q_getR (pc' := 11) dX6_strike_8 rfl fr_RX6_9 ⟨by omega, rfl⟩ rfl (wV_6_0 hV) (by decide) (q_getIe (pc' := 14) dX6_strike_11 rfl fr_RX6_52 (by first | assumption | exact ⟨by omega, rfl⟩) rfl (cB_4 hb) (q_icmp_ge (pc' := 17) (pt := 88) dX6_strike_14 rfl rfl (fun h9 => absurd h9 (by (first | assumption | exact nI_le (by omega) (by omega) | exact nI_ge (by omega) (by omega) | exact nI_lt (by omega) (by omega) | exact nI_nlt (by omega) (by omega) | exact nI_ne (by omega) (by omega) (by omega) | exact nI_e (by omega) | decide))) (fun _ => (q_iload_n (pc' := 18) dX6_strike_17 rfl rfl (q_if_lt (pc' := 21) (pt := 88) dX6_strike_18 rfl rfl (fun h9 => absurd h9 (Int32.not_lt.mpr (nI_le (a := 0) (by omega) (by omega)))) (fun _ => (q_aload_n (pc' := 22) dX6_strike_21 rfl rfl (q_iload (pc' := 24) dX6_strike_22 rfl rfl (q_cVi (pc' := 27) dX6_strike_24 rfl ml_RX6_57 yv_X5_isStarted (by decide) (rn_X5_isStarted hi h.2.2 (by omega)) (okS hi hz (by decide) rfl) rfl rfl (Nat.le_of_ble_eq_true rfl) (Nat.le_refl _) (q_ifb_eq (pc' := 30) (pt := 43) dX6_strike_27 rfl rfl (fun h9 => Bool.noConfusion (Eq.trans (Eq.symm (beq_iff_eq.mpr c7)) h9)) (fun _ => (q_aload_n (pc' := 31) dX6_strike_30 rfl rfl (q_getR (pc' := 34) dX6_strike_31 rfl fr_RX6_9 ⟨by omega, rfl⟩ rfl (wV_6_0 hV) (by decide) (q_getR (pc' := 37) dX6_strike_34 rfl fr_RX6_61 (by first | assumption | exact ⟨by omega, rfl⟩) rfl (wB_8 hB) (by omega) ?_))))))))))))))))
          refine q_iload (pc' := 39) dX6_strike_37 rfl rfl (q_ialde (pc' := 40) (d) dX6_strike_39 rfl (by first | exact ⟨by omega, rfl⟩ | exact okaS hi hz (by decide) rfl | assumption) (by (first | (simp only [nI_add, pk_mul]; done) | (simp only [nI_add, pk_mul]; exact nI_e (by omega)) | exact nI_e (by omega))) (by omega) (hb.2 d hd).2.1 (q_goto (pc' := 44) dX6_strike_40 rfl (q_ist_5 (pc' := 46) dX6_strike_44 rfl (by decide) rfl ?_)))
          refine q_iload_n (pc' := 47) dX6_strike_46 rfl rfl (q_iload (pc' := 49) dX6_strike_47 rfl rfl (q_icmp_ge (pc' := 52) (pt := 77) dX6_strike_49 rfl rfl (fun _ => (q_iload_n (pc' := 78) dX6_strike_77 rfl rfl (q_iload (pc' := 80) dX6_strike_78 rfl rfl (q_isub (pc' := 81) dX6_strike_80 rfl ?_)))) (fun h9 => absurd (nI_le (by omega) (by omega)) h9)))
          refine q_top (nI_sb (by omega)) ?_
          refine q_ist_3 (pc' := 82) dX6_strike_81 rfl (by decide) rfl (q_inc_4 (pc' := 85) dX6_strike_82 rfl (by decide) rfl (q_goto (pc' := 5) dX6_strike_85 rfl ?_))
          exact next _
      · rw [if_neg c7] at es
        have hst : itN (aRa1 b A x) (d + 1) A = A := by
          show aRa1 b A x d (itN (aRa1 b A x) d A) = _
          rw [he]
          exact if_neg (fun z => c7 z.1)
        have next := fun o5 => ih (d + 1) o5 (by omega) (by omega) hst
        rw [es, Nat.add_zero] at next
        refine q_iload (pc' := 7) dX6_strike_5 rfl rfl (q_aload_n (pc' := 8) dX6_strike_7 rfl rfl (q_getR (pc' := 11) dX6_strike_8 rfl fr_RX6_9 ⟨by omega, rfl⟩ rfl (wV_6_0 hV) (by decide) (q_getIe (pc' := 14) dX6_strike_11 rfl fr_RX6_52 (by first | assumption | exact ⟨by omega, rfl⟩) rfl (cB_4 hb) (q_icmp_ge (pc' := 17) (pt := 88) dX6_strike_14 rfl rfl (fun h9 => absurd h9 (by (first | assumption | exact nI_le (by omega) (by omega) | exact nI_ge (by omega) (by omega) | exact nI_lt (by omega) (by omega) | exact nI_nlt (by omega) (by omega) | exact nI_ne (by omega) (by omega) (by omega) | exact nI_e (by omega) | decide))) (fun _ => (q_iload_n (pc' := 18) dX6_strike_17 rfl rfl (q_if_lt (pc' := 21) (pt := 88) dX6_strike_18 rfl rfl (fun h9 => absurd h9 (Int32.not_lt.mpr (nI_le (a := 0) (by omega) (by omega)))) (fun _ => (q_aload_n (pc' := 22) dX6_strike_21 rfl rfl (q_iload (pc' := 24) dX6_strike_22 rfl rfl (q_cVi (pc' := 27) dX6_strike_24 rfl ml_RX6_57 yv_X5_isStarted (by decide) (rn_X5_isStarted hi h.2.2 (by omega)) (okS hi hz (by decide) rfl) rfl rfl (Nat.le_of_ble_eq_true rfl) (Nat.le_refl _) (q_ifb_eq (pc' := 30) (pt := 43) dX6_strike_27 rfl rfl (fun _ => (q_iconst (pc' := 44) _ dX6_strike_43 rfl kk_iconst_0 (q_ist_5 (pc' := 46) dX6_strike_44 rfl (by decide) rfl ?_))) (fun h9 => Bool.noConfusion (Eq.trans (Eq.symm (beq_eq_false_iff_ne.mpr c7)) h9))))))))))))))
        refine q_iload_n (pc' := 47) dX6_strike_46 rfl rfl (q_iload (pc' := 49) dX6_strike_47 rfl rfl (q_icmp_ge (pc' := 52) (pt := 77) dX6_strike_49 rfl rfl (fun _ => (q_iload_n (pc' := 78) dX6_strike_77 rfl rfl (q_iload (pc' := 80) dX6_strike_78 rfl rfl (q_isub (pc' := 81) dX6_strike_80 rfl ?_)))) (fun h9 => absurd (nI_le (a := 0) (by omega) (by omega)) h9)))
        refine q_top (nI_sb (Nat.zero_le _)) ?_
        refine q_ist_3 (pc' := 82) dX6_strike_81 rfl (by decide) rfl (q_inc_4 (pc' := 85) dX6_strike_82 rfl (by decide) rfl (q_goto (pc' := 5) dX6_strike_85 rfl ?_))
        exact next _
  refine q_iload_n (pc' := 1) dX6_strike_0 rfl rfl (q_ist_3 (pc' := 2) dX6_strike_1 rfl (by decide) rfl (q_iconst (pc' := 3) _ dX6_strike_2 rfl kk_iconst_0 (q_ist_4 (pc' := 5) dX6_strike_3 rfl (by decide) rfl ?_)))
  exact loop (b 0 2) 0 _ (by omega) (Nat.zero_le _) rfl
theorem rs_X6_blow {seed n : Nat} (hi : i < 21) (hS : mj_wS R i) (hV : mj_wV R) (hB : mj_wB R 4) (hb : cB I b) (hk : bOK b) (hU : sCl b U) (hU2 : sC2 b U) (hA : U A) (h : cR I i b A) (hs : seed < 10007) (hn : n < 501) (hL : A 14 4 + 8 * 501 < 2 ^ 31) : RsV w l yX6_blow dd_X6_blow [.ref 451, .ref (sA i 0), .int (nI seed), .int (nI n)] (472, I, J, R) (fun I' => I' 451 1 = qStorm b A seed n 0 ∧ I' 451 2 = qStorm b A seed n 1 ∧ I' 451 3 = qStorm b A seed n 2 ∧ cR I' i b (aSto b A seed n).2.2 ∧ mSw i I I') := by
  have hz : 50 + 20 * i ≤ 472 := by omega
  have h10 := hk.2.2.1
  have hmany := aStL_le (A := A) hk (b 0 2) (Nat.le_refl _)
  refine rt_intro2 (L := [some (.ref 451), some (.ref (sA i 0)), some (.int (nI seed)), some (.int (nI n)), none, none, none]) ⟨by decide, rfl, (fun h => by cases h)⟩ (Nat.le_of_ble_eq_true rfl) rfl (fun Y Q hQ => ?_)
  have i0 : mSw i I (mj_up (mj_up (mj_up I 451 1 (nI 0)) 451 2 (nI 0)) 451 3 (nI 0)) := (mSw_up.tr mSw_up).tr mSw_up
  have c0 : cR (mj_up (mj_up (mj_up I 451 1 (nI 0)) 451 2 (nI 0)) 451 3 (nI 0)) i b A := cR_W hi (cR_W hi (cR_W hi h))
  have v1 : mj_up (mj_up (mj_up I 451 1 (nI 0)) 451 2 (nI 0)) 451 3 (nI 0) 451 1 = nI 0 := by rw [mj_up_ne2 (by decide), mj_up_ne2 (by decide), mj_up_eq]
  have v2 : mj_up (mj_up (mj_up I 451 1 (nI 0)) 451 2 (nI 0)) 451 3 (nI 0) 451 2 = nI 0 := by rw [mj_up_ne2 (by decide), mj_up_eq]
  have v3 : mj_up (mj_up (mj_up I 451 1 (nI 0)) 451 2 (nI 0)) 451 3 (nI 0) 451 3 = nI 0 := mj_up_eq
  refine q_aload_n (pc' := 1) dX6_blow_0 rfl rfl (q_iconst (pc' := 2) _ dX6_blow_1 rfl kk_iconst_0 (q_putI (pc' := 5) dX6_blow_2 rfl fl_RX6_15 ⟨by omega, rfl⟩ rfl (q_aload_n (pc' := 6) dX6_blow_5 rfl rfl (q_iconst (pc' := 7) _ dX6_blow_6 rfl kk_iconst_0 (q_putI (pc' := 10) dX6_blow_7 rfl fl_RX6_19 ⟨by omega, rfl⟩ rfl (q_aload_n (pc' := 11) dX6_blow_10 rfl rfl (q_iconst (pc' := 12) _ dX6_blow_11 rfl kk_iconst_0 (q_putI (pc' := 15) dX6_blow_12 rfl fl_RX6_22 ⟨by omega, rfl⟩ rfl (q_iload_n (pc' := 16) dX6_blow_15 rfl rfl (q_ist_4 (pc' := 18) dX6_blow_16 rfl (by decide) rfl ?_))))))))))
  generalize mj_up (mj_up (mj_up I 451 1 (nI 0)) 451 2 (nI 0)) 451 3 (nI 0) = I1 at i0 c0 v1 v2 v3 ⊢
  refine q_aload_n (pc' := 19) dX6_blow_18 rfl rfl (q_aload_n (pc' := 20) dX6_blow_19 rfl rfl (q_cVi (pc' := 23) dX6_blow_20 rfl ml_RX6_25 yv_X6_startedLines (by decide) (rn_X6_startedLines hi hV hB (cB_W i0 hb) hk c0.2.2) ⟨by omega, rfl⟩ rfl rfl (Nat.le_of_ble_eq_true rfl) (Nat.le_refl _) (q_ist_5 (pc' := 25) dX6_blow_23 rfl (by decide) rfl (q_iconst (pc' := 26) _ dX6_blow_25 rfl kk_iconst_0 (q_ist_6 (pc' := 28) dX6_blow_26 rfl (by decide) rfl ?_)))))
  have loop : ∀ m k I2 d1 d2, k + m = n → (aSto b A seed k).2.2 14 1 = A 14 1 + d1 → (aSto b A seed k).2.2 14 2 = A 14 2 + d2 → (aSto b A seed k).2.2 14 4 ≤ A 14 4 + 8 * k → I2 451 1 = nI d1 → I2 451 2 = nI d2 → I2 451 3 = nI (aSto b A seed k).2.1 → cR I2 i b (aSto b A seed k).2.2 → mSw i I I2 → Wq dd_X6_blow (mj_mk w l 472 Y) Q 28 [some (.ref 451), some (.ref (sA i 0)), some (.int (nI seed)), some (.int (nI n)), some (.int (nI (aSto b A seed k).1)), some (.int (nI (aStL b A (b 0 2)))), some (.int (nI k))] [] (472, I2, J, R) := by
    intro m
    induction m with
    | zero =>
      intro k I2 d1 d2 hkm t1 t2 t4 w1 w2 w3 hr hm
      have hkz : k = n := by omega
      subst hkz
      have q0 : qStorm b A seed k 0 = nI d1 := by show nI _ - nI _ = _; rw [t1, nI_sb (by omega), Nat.add_sub_cancel_left]
      have q1 : qStorm b A seed k 1 = nI d2 := by show nI _ - nI _ = _; rw [t2, nI_sb (by omega), Nat.add_sub_cancel_left]
      exact q_iload (pc' := 30) dX6_blow_28 rfl rfl (q_iload_n (pc' := 31) dX6_blow_30 rfl rfl (q_icmp_ge (pc' := 34) (pt := 112) dX6_blow_31 rfl rfl (fun _ => (q_vret dX6_blow_112 rfl (hQ _ _ _ _ ⟨rfl, ⟨rfl, rfl⟩, w1.trans q0.symm, w2.trans q1.symm, w3, hr, hm⟩))) (fun h9 => absurd (by (first | assumption | exact nI_le (by omega) (by omega) | exact nI_ge (by omega) (by omega) | exact nI_lt (by omega) (by omega) | exact nI_nlt (by omega) (by omega) | exact nI_ne (by omega) (by omega) (by omega) | exact nI_e (by omega) | decide)) h9)))
    | succ m ih =>
      intro k I2 d1 d2 hkm t1 t2 t4 w1 w2 w3 hr hm
      obtain ⟨hu, hsd, hmx⟩ := aSto_ok hk hU hA hs k
      have hb2 := cB_W hm hb
      have h2 := hU2 _ hu
      have e7 : (aSto b A seed k).2.2 7 = A 7 ∨ True := Or.inr trivial
      -- what is most at once
      have most : ∀ I3 B sd o4, aSto b A seed (k + 1) = (sd, max (aSto b A seed k).2.1 (aUnh b B), B) → U B → ∀ d1 d2, B 14 1 = A 14 1 + d1 → B 14 2 = A 14 2 + d2 → B 14 4 ≤ A 14 4 + 8 * (k + 1) → I3 451 1 = nI d1 → I3 451 2 = nI d2 → I3 451 3 = nI (aSto b A seed k).2.1 → cR I3 i b B → mSw i I I3 → o4 = nI sd → Wq dd_X6_blow (mj_mk w l 472 Y) Q 91 [some (.ref 451), some (.ref (sA i 0)), some (.int (nI seed)), some (.int (nI n)), some (.int o4), some (.int (nI (aStL b A (b 0 2)))), some (.int (nI k))] [] (472, I3, J, R) := by
        intro I3 B sd o4 he hUB d1 d2 s1 s2 s4 x1 x2 x3 hr3 hm3 ho4
        subst ho4
        have hok := (hU B hUB).1.1
        have hun := aUnh_le hk hok
        have next := fun I4 => ih (k + 1) I4 d1 d2 (by omega)
        rw [he] at next
        refine q_aload_n (pc' := 92) dX6_blow_91 rfl rfl (q_aload_n (pc' := 93) dX6_blow_92 rfl rfl (q_getIe (pc' := 96) dX6_blow_93 rfl fr_RX6_22 ⟨by omega, rfl⟩ rfl x3 (q_aload_n (pc' := 97) dX6_blow_96 rfl rfl (q_cVi (pc' := 100) dX6_blow_97 rfl ml_RX6_42 yv_X5_unheard (by decide) (rn_X5_unheard hi hS hB (cB_W hm3 hb) hk hr3 hok (hU2 B hUB).2.2) (okS hi hz (by decide) rfl) rfl rfl (Nat.le_of_ble_eq_true rfl) (Nat.le_refl _) (q_cSi (pc' := 103) dX6_blow_100 rfl ml_RX6_46 ys_J9_max_7cf53 (by decide) (rn_max (by omega) (by omega)) rfl rfl (Nat.le_of_ble_eq_true rfl) (Nat.le_refl _) ?_)))))
        refine q_putI (pc' := 106) dX6_blow_103 rfl fl_RX6_22 ⟨by omega, rfl⟩ rfl (q_inc_6 (pc' := 109) dX6_blow_106 rfl (by decide) rfl (q_goto (pc' := 28) dX6_blow_109 rfl ?_))
        refine next _ s1 s2 s4 ?_ ?_ mj_up_eq (cR_W hi hr3) (hm3.tr mSw_up)
        · rw [mj_up_ne2 (by decide)]; exact x1
        · rw [mj_up_ne2 (by decide)]; exact x2
      refine q_iload (pc' := 30) dX6_blow_28 rfl rfl (q_iload_n (pc' := 31) dX6_blow_30 rfl rfl (q_icmp_ge (pc' := 34) (pt := 112) dX6_blow_31 rfl rfl (fun h9 => absurd h9 (by (first | assumption | exact nI_le (by omega) (by omega) | exact nI_ge (by omega) (by omega) | exact nI_lt (by omega) (by omega) | exact nI_nlt (by omega) (by omega) | exact nI_ne (by omega) (by omega) (by omega) | exact nI_e (by omega) | decide))) (fun _ => (q_iload (pc' := 36) dX6_blow_34 rfl rfl (q_cSi (pc' := 39) dX6_blow_36 rfl ml_RX6_29 ys_X6_nextSeed (by decide) (rn_X6_nextSeed hsd) rfl rfl (Nat.le_of_ble_eq_true rfl) (Nat.le_refl _) (q_ist_4 (pc' := 41) dX6_blow_39 rfl (by decide) rfl (q_iload (pc' := 43) dX6_blow_41 rfl rfl (q_iconst (pc' := 44) _ dX6_blow_43 rfl kk_iconst_4 (q_irem (pc' := 45) dX6_blow_44 rfl (by decide) ?_)))))))))
      have hsl := stS_lt (aSto b A seed k).1
      refine q_top (pk_rem (by omega) (by decide) (by decide)) ?_
      have ue : aSto b A seed (k + 1) = (if stS (aSto b A seed k).1 % 4 = 0 then (stS (aSto b A seed k).1, max (aSto b A seed k).2.1 (aUnh b (aTick b (aSto b A seed k).2.2)), aTick b (aSto b A seed k).2.2) else if 0 < aStL b A (b 0 2) then (stS (stS (aSto b A seed k).1), max (aSto b A seed k).2.1 (aUnh b (aRaA b (stS (stS (aSto b A seed k).1) % aStL b A (b 0 2)) (aSto b A seed k).2.2)), aRaA b (stS (stS (aSto b A seed k).1) % aStL b A (b 0 2)) (aSto b A seed k).2.2) else (stS (stS (aSto b A seed k).1), max (aSto b A seed k).2.1 (aUnh b (aSto b A seed k).2.2), (aSto b A seed k).2.2)) := rfl
      by_cases c4 : stS (aSto b A seed k).1 % 4 = 0
      · rw [if_pos c4] at ue
        have hUt := (hU _ hu).2.1
        have h142 := tick_142 hk h2.1.1
        generalize (aSto b A seed k).2.2 = B at hr hu h2 t1 t2 t4 ue hUt h142
        have hpass := rs_X5_pass (w := w) (l := l) (J := J) (R := R) (m := 1) hi hS hB hb2 hk hr h2.1.1 h2.1.2 (by decide) (by omega)
        refine q_if_ne (pc' := 48) (pt := 65) dX6_blow_45 rfl rfl (fun h9 => absurd (by rw [c4]; rfl) h9) (fun _ => (q_aload_n (pc' := 49) dX6_blow_48 rfl rfl (q_dup_a (pc' := 50) dX6_blow_49 rfl (q_getIe (pc' := 53) dX6_blow_50 rfl fr_RX6_15 ⟨by omega, rfl⟩ rfl w1 (q_aload_n (pc' := 54) dX6_blow_53 rfl rfl (q_iconst (pc' := 55) _ dX6_blow_54 rfl kk_iconst_1 (q_sVi (pc' := 58) dX6_blow_55 rfl ml_RX6_33 yv_X5_pass (by decide) (hpass) (okS hi hz (by decide) rfl) rfl rfl (Nat.le_of_ble_eq_true rfl) (Nat.le_refl _) (fun x3 I3 ⟨⟨n1, r1, r2, r3, r4⟩, h3, f3⟩ => ?_))))))))
        have et : aTicks b 1 B = aTick b B := rfl
        rw [et] at r3 r4 h3
        rw [r1]
        refine q_iadd dX6_blow_58 rfl ?_
        refine q_top (nI_add _ _) ?_
        refine q_putI (pc' := 62) dX6_blow_59 rfl fl_RX6_15 ⟨by omega, rfl⟩ rfl (q_goto (pc' := 91) dX6_blow_62 rfl ?_)
        refine most _ _ _ _ ue hUt (d1 + n1) d2 (by omega) (by omega) (by omega) mj_up_eq ?_ ?_ (cR_W hi h3) ((hm.tr f3.sw).tr mSw_up) rfl
        · rw [mj_up_ne2 (by decide), mS_451 hi f3]; exact w2
        · rw [mj_up_ne2 (by decide), mS_451 hi f3]; exact w3
      · rw [if_neg c4] at ue
        by_cases cL : 0 < aStL b A (b 0 2)
        · rw [if_pos cL] at ue
          have hsl2 := stS_lt (stS (aSto b A seed k).1)
          have hxl : stS (stS (aSto b A seed k).1) % aStL b A (b 0 2) < aStL b A (b 0 2) := Nat.mod_lt _ cL
          have hUr := (aRa_ok (x := stS (stS (aSto b A seed k).1) % aStL b A (b 0 2)) hU hu (b 0 2) (Nat.le_refl _)).1
          refine q_if_ne (pc' := 48) (pt := 65) dX6_blow_45 rfl rfl (fun _ => (q_iload (pc' := 67) dX6_blow_65 rfl rfl (q_cSi (pc' := 70) dX6_blow_67 rfl ml_RX6_29 ys_X6_nextSeed (by decide) (rn_X6_nextSeed hsl) rfl rfl (Nat.le_of_ble_eq_true rfl) (Nat.le_refl _) (q_ist_4 (pc' := 72) dX6_blow_70 rfl (by decide) rfl (q_aload_n (pc' := 73) dX6_blow_72 rfl rfl (q_aload_n (pc' := 74) dX6_blow_73 rfl rfl (q_iload (pc' := 76) dX6_blow_74 rfl rfl (q_if_le (pc' := 79) (pt := 87) dX6_blow_76 rfl rfl (fun h9 => absurd h9 (Int32.not_le.mpr (nI_lt (a := 0) cL (by omega)))) (fun _ => (q_iload (pc' := 81) dX6_blow_79 rfl rfl (q_iload (pc' := 83) dX6_blow_81 rfl rfl (q_irem (pc' := 84) dX6_blow_83 rfl (nI_ne0 cL (by omega)) ?_)))))))))))) (fun h9 => absurd h9 (nI_ne (b := 0) c4 (by omega) (by omega)))
          refine q_top (pk_rem (by omega) cL (by omega)) ?_
          refine q_goto (pc' := 88) dX6_blow_84 rfl (q_sVv (pc' := 91) dX6_blow_88 rfl ml_RX6_38 yv_X6_strike (by decide) (rs_X6_strike hi hS hV hB hb2 hk hU hU2 hu hr (by omega) w2) ⟨by omega, rfl⟩ rfl rfl (Nat.le_of_ble_eq_true rfl) (Nat.le_refl _) (fun I3 ⟨⟨n1, r1, r2⟩, r3, r4, r5, r6, h3, f3⟩ => ?_))
          exact most I3 _ _ _ ue hUr d1 (d2 + n1) (by omega) (by omega) (by omega) (r5.trans w1) r1 (r6.trans w3) h3 (hm.tr f3) rfl
        · rw [if_neg cL] at ue
          refine q_if_ne (pc' := 48) (pt := 65) dX6_blow_45 rfl rfl (fun _ => (q_iload (pc' := 67) dX6_blow_65 rfl rfl (q_cSi (pc' := 70) dX6_blow_67 rfl ml_RX6_29 ys_X6_nextSeed (by decide) (rn_X6_nextSeed hsl) rfl rfl (Nat.le_of_ble_eq_true rfl) (Nat.le_refl _) (q_ist_4 (pc' := 72) dX6_blow_70 rfl (by decide) rfl (q_aload_n (pc' := 73) dX6_blow_72 rfl rfl (q_aload_n (pc' := 74) dX6_blow_73 rfl rfl (q_iload (pc' := 76) dX6_blow_74 rfl rfl (q_if_le (pc' := 79) (pt := 87) dX6_blow_76 rfl rfl (fun _ => (q_iconst (pc' := 88) _ dX6_blow_87 rfl kk_iconst_m1 (q_cVv (pc' := 91) dX6_blow_88 rfl ml_RX6_38 yv_X6_strike (by decide) (rn_X6_strike0 hi hV hb2 hk) ⟨by omega, rfl⟩ rfl rfl (Nat.le_of_ble_eq_true rfl) (Nat.le_refl _) ?_))) (fun h9 => absurd (nI_le (b := 0) (by omega) (by omega)) h9))))))))) (fun h9 => absurd h9 (nI_ne (b := 0) c4 (by omega) (by omega)))
          exact most I2 _ _ _ ue hu d1 d2 t1 t2 (by omega) w1 w2 w3 hr hm rfl
  exact loop n 0 I1 0 0 (by omega) rfl rfl (by show A 14 4 ≤ _; omega) v1 v2 v3 c0 i0
end STORM
