/-! ===== the class: START of QUEUES ===== -/
theorem sumN_plus {f g : Nat → Nat} {n : Nat} : sumN (fun k => f k + g k) n = sumN f n + sumN g n := by
  induction n with
  | zero => rfl
  | succ n ih => unfold sumN; rw [ih]; omega
def qTk (b A : St) (d m : Nat) : Nat := sumN (fun p => if A 9 p = 1 then qN b d p (b 2 d) else 0) m
section SQ
variable {b A : St}
theorem rs_free {d : Nat} (hk : bOK b) (hr : ∀ p, p < b 0 0 → qN b d p (b 2 d) ≤ aCnt b A p 0) : aFree b (aRsAll b d (b 2 d) A) + qTk b A d (b 0 0) = aFree b A := by
  have h1 := rsv_out (d := d) hk (b 2 d) _ (rsv_ok hk _ hr)
  unfold aFree qTk
  rw [← sumN_plus]
  refine sumN_cong (fun p hp => ?_)
  rw [rsAll_g (by decide) (by decide)]
  have := h1 p hp
  by_cases c : A 9 p = 1
  · rw [if_pos c, if_pos c, if_pos c]; exact this
  · rw [if_neg c, if_neg c, if_neg c]
theorem aOK_rsT {d q p : Nat} (hd : d < 10) (hq : q < 8) (h : aOK A) : aOK (aRsT b d q p A) := by
  unfold aRsT
  by_cases hb : (aSpread b d q).testBit p = true
  · rw [if_pos hb]
    cases aBlk b A p 1 with
    | none => exact h
    | some v => exact aOK_sets h (by decide) (by omega)
  · rw [if_neg hb]; exact h
theorem aOK_rsAll {d m : Nat} (hd : d < 10) (hm : m ≤ 8) (h : aOK A) : aOK (aRsAll b d m A) := itN_P (n := 8) h (fun q B hq hB => itN_P (n := b 0 0) hB (fun p C _ hC => aOK_rsT hd hq hC) (b 0 0) (Nat.le_refl _)) m hm
/-- there is something RESERVED where each QUEUE goes -/
def hoOK (b : St) (d : Nat) (A1 : St) : Prop := ∀ q, q < b 2 d → ∀ p, aLeast b (itN (aHoQ b d) q A1) (aSpread b d q) = some p → ∃ v, aResv b (itN (aHoQ b d) q A1) (8 * d + q) p = some v
theorem ho_free {d : Nat} (hk : bOK b) (h : hoOK b d A) : ∀ m, m ≤ b 2 d → aFree b (itN (aHoQ b d) m A) = aFree b A := by
  intro m
  induction m with
  | zero => intro _; rfl
  | succ m ih =>
    intro hm
    rw [← ih (by omega)]
    show aFree b (aHoQ b d m (itN (aHoQ b d) m A)) = _
    unfold aFree
    refine sumN_cong (fun p hp => ?_)
    rw [hoQ_g (by decide) (by decide) (by decide), hoQ_cnt hk (h m (by omega))]
theorem hoOK_of {d : Nat} (hk : bOK b) (hc : clrD A d) (hr : ∀ p, p < b 0 0 → qN b d p (b 2 d) ≤ aCnt b A p 0) (h : aHoOK b (aSt0 A d) d) : hoOK b d (aRsAll b d (b 2 d) A) := by
  intro q hq p hl
  rw [st0_e hc] at h
  have e0 : mj_up (mj_up A 7 d 1) 8 d 0 0 = A 0 := by rw [up_f (by decide), up_f (by decide)]
  have hr' : ∀ p, p < b 0 0 → qN b d p (b 2 d) ≤ aCnt b (mj_up (mj_up A 7 d 1) 8 d 0) p 0 := fun p hp => by rw [aCnt_A e0]; exact hr p hp
  have e1 : aRsvA b d (mj_up (mj_up A 7 d 1) 8 d 0) = some (mj_up (mj_up (aRsAll b d (b 2 d) A) 7 d 1) 8 d 0) := by
    rw [rsvA_e hk, if_pos hr', rsAll_com (by decide) (by decide), rsAll_com (by decide) (by decide)]
  have h1 := h _ e1 q hq p
  rw [hoQs_com (by decide) (by decide) (by decide) (by decide), hoQs_com (by decide) (by decide) (by decide) (by decide)] at h1
  have e3 : ∀ B : St, aLeast b (mj_up (mj_up B 7 d 1) 8 d 0) (aSpread b d q) = aLeast b B (aSpread b d q) := fun B => aLeast_A (by rw [up_f (by decide), up_f (by decide)]) (by rw [up_f (by decide), up_f (by decide)])
  have e4 : ∀ B : St, aResv b (mj_up (mj_up B 7 d 1) 8 d 0) (8 * d + q) p = aResv b B (8 * d + q) p := fun B => aResv_A (by rw [up_f (by decide), up_f (by decide)]) (by rw [up_f (by decide), up_f (by decide)])
  rw [e3, e4] at h1
  exact h1 hl
/-- START of QUEUES, as the class does it -/
theorem start_q {d : Nat} (hk : bOK b) (hd : d < b 0 2) (h7 : A 7 d ≠ 1) (h8 : A 8 d ≠ 1) (h3 : b 1 d = 3) (hc : clrD A d) (hH : aHoOK b (aSt0 A d) d) : aStart b A d = (if ∀ p, p < b 0 0 → qN b d p (b 2 d) ≤ aCnt b A p 0 then (if aFree b A - qTk b A d (b 0 0) < aProm b A then (2, A) else (0, mj_up (mj_up (itN (aHoQ b d) (b 2 d) (aRsAll b d (b 2 d) A)) 7 d 1) 8 d 0)) else (1, A)) := by
  have e0 : mj_up (mj_up A 7 d 1) 8 d 0 0 = A 0 := by rw [up_f (by decide), up_f (by decide)]
  have ec : ∀ p, aCnt b (mj_up (mj_up A 7 d 1) 8 d 0) p 0 = aCnt b A p 0 := fun p => aCnt_A e0
  unfold aStart
  rw [if_neg h7, if_pos h3]
  by_cases hr : ∀ p, p < b 0 0 → qN b d p (b 2 d) ≤ aCnt b A p 0
  · have hho := hoOK_of hk hc hr hH
    rw [if_pos hr, st0_e hc]
    unfold aStQ
    rw [rsvA_e hk, if_pos (fun p hp => by rw [ec]; exact hr p hp), Option.map_some, rsAll_com (by decide) (by decide), rsAll_com (by decide) (by decide), hoQs_com (by decide) (by decide) (by decide) (by decide), hoQs_com (by decide) (by decide) (by decide) (by decide)]
    have hF := rs_free (d := d) hk hr
    have hF2 := ho_free hk hho (b 2 d) (Nat.le_refl _)
    have hP := prom_d (A := A) hd
    rw [if_neg h8] at hP
    generalize hX : itN (aHoQ b d) (b 2 d) (aRsAll b d (b 2 d) A) = X at hF2
    have hX8 : X 8 = A 8 := by rw [← hX, hoQs_g (by decide) (by decide) (by decide), rsAll_g (by decide) (by decide)]
    have e1 : aFree b (mj_up (mj_up X 7 d 1) 8 d 0) = aFree b X := aFree_A (by rw [up_f (by decide), up_f (by decide)]) (by rw [up_f (by decide), up_f (by decide)])
    have e2 : aProm b (mj_up (mj_up X 7 d 1) 8 d 0) = aProm b (mj_up A 8 d 0) := by
      refine aProm_A ?_
      funext k
      by_cases ek : k = d
      · rw [ek, mj_up_eq, mj_up_eq]
      · rw [mj_up_ne2 ek, mj_up_ne (by decide), mj_up_ne2 ek, hX8]
    show (if aFree b (mj_up (mj_up X 7 d 1) 8 d 0) < aProm b (mj_up (mj_up X 7 d 1) 8 d 0) then (2, A) else (0, mj_up (mj_up X 7 d 1) 8 d 0)) = _
    rw [e1, e2]
    have ecc : (aFree b X < aProm b (mj_up A 8 d 0)) ↔ (aFree b A - qTk b A d (b 0 0) < aProm b A) := by omega
    by_cases hcc : aFree b A - qTk b A d (b 0 0) < aProm b A
    · rw [if_pos (ecc.mpr hcc), if_pos hcc]
    · rw [if_neg (fun z => hcc (ecc.mp z)), if_neg hcc]
  · rw [if_neg hr, st0_e hc]
    unfold aStQ
    rw [rsvA_e hk, if_neg (fun z => hr (fun p hp => by have := z p hp; rw [ec] at this; exact this))]
    rfl
end SQ
section ST9
variable {w : mj_Wd} {l : Launch} {I : mj_M} {J : mj_J} {R : mj_R} {b A : St} {i : Nat}
theorem rs_X5_beginQueues {d : Nat} (hi : i < 21) (hS : mj_wS R i) (hB : mj_wB R 4) (hb : cB I b) (hk : bOK b) (h : cR I i b A) (hA : aOK A) (hd : d < b 0 2) (h3 : b 1 d = 3) (hset : b 3 d < 2 ^ b 0 0) (hc : clrD A d) (hH : aHoOK b (aSt0 A d) d) : RsI w l yX5_beginQueues dd_X5_beginQueues [.ref (sA i 0), .int (nI d)] (472, I, J, R) (fun x I' => (if ∀ p, p < b 0 0 → qN b d p (b 2 d) ≤ aCnt b A p 0 then (if aFree b A - qTk b A d (b 0 0) < aProm b A then x = nI 2 ∧ cR I' i b A else x = nI 0 ∧ cR I' i b (itN (aHoQ b d) (b 2 d) (aRsAll b d (b 2 d) A))) else x = nI 1 ∧ cR I' i b A) ∧ mS i I I') := by
  have hz : 50 + 20 * i ≤ 472 := by omega
  have h10 := hk.2.2.1
  have hs := hk.2.2.2 d hd
  have h32 := hk.2.1.2
  have hc8 := hk.1.2
  have hf := aFree_le hk (A := A)
  have hp := aProm_le hk (A := A)
  have hq8 : ∀ p m, qN b d p m ≤ m := fun p m => cntN_le _ _
  refine rt_intro2 (L := [some (.ref (sA i 0)), some (.int (nI d)), none, none, none, none]) ⟨by decide, rfl, (fun h => by cases h)⟩ (Nat.le_of_ble_eq_true rfl) rfl (fun Y Q hQ => ?_)
  -- what is HELD
  have holds : (∀ p, p < b 0 0 → qN b d p (b 2 d) ≤ aCnt b A p 0) → ¬ aFree b A - qTk b A d (b 0 0) < aProm b A → ∀ I0 o4 o5, cR I0 i b (aRsAll b d (b 2 d) A) → mS i I I0 → Wq dd_X5_beginQueues (mj_mk w l 472 Y) Q 110 [some (.ref (sA i 0)), some (.int (nI d)), some (.int (nI (qTk b A d (b 0 0)))), some (.int (nI (b 2 d))), o4, o5] [] (472, I0, J, R) := by
    intro hr hpr I0 o4 o5 hr0 hm0
    have hho := hoOK_of hk hc hr hH
    have hok1 : aOK (aRsAll b d (b 2 d) A) := aOK_rsAll (by omega) hs.2.1.2 hA
    have loop : ∀ m k I1 o4 o5, k + m = b 2 d → cR I1 i b (itN (aHoQ b d) k (aRsAll b d (b 2 d) A)) → mS i I I1 → Wq dd_X5_beginQueues (mj_mk w l 472 Y) Q 112 [some (.ref (sA i 0)), some (.int (nI d)), some (.int (nI (qTk b A d (b 0 0)))), some (.int (nI k)), o4, o5] [] (472, I1, J, R) := by
      intro m
      induction m with
      | zero =>
        intro k I1 o4 o5 hkm hr1 hm1
        have hkz : k = b 2 d := by omega
        subst hkz
        have eb : I1 8 d = nI (b 2 d) := ((cB_S hm1 hb).2 d hd).2.1
        exact q_iload_n (pc' := 113) dX5_beginQueues_112 rfl rfl (q_aload_n (pc' := 114) dX5_beginQueues_113 rfl rfl (q_getR (pc' := 117) dX5_beginQueues_114 rfl fr_RX5_32 (okS hi hz (by decide) rfl) rfl (wS_5_0 hS) (by decide) (q_getR (pc' := 120) dX5_beginQueues_117 rfl fr_RX5_85 (by first | assumption | exact ⟨by omega, rfl⟩) rfl (wB_8 hB) (by omega) (q_iload_n (pc' := 121) dX5_beginQueues_120 rfl rfl (q_ialde (pc' := 122) (d) dX5_beginQueues_121 rfl (by first | exact ⟨by omega, rfl⟩ | exact okaS hi hz (by decide) rfl | assumption) (by (first | (simp only [nI_add, pk_mul]; done) | (simp only [nI_add, pk_mul]; exact nI_e (by omega)) | exact nI_e (by omega))) (by omega) eb (q_icmp_ge (pc' := 125) (pt := 168) dX5_beginQueues_122 rfl rfl (fun _ => (q_iconst (pc' := 169) _ dX5_beginQueues_168 rfl kk_iconst_0 (q_iret dX5_beginQueues_169 rfl (hQ _ _ _ _ ⟨_, rfl, ⟨rfl, rfl⟩, (by rw [if_pos hr, if_neg hpr]; exact ⟨rfl, hr1⟩), hm1⟩)))) (fun h9 => absurd (by (first | assumption | exact nI_le (by omega) (by omega) | exact nI_ge (by omega) (by omega) | exact nI_lt (by omega) (by omega) | exact nI_nlt (by omega) (by omega) | exact nI_ne (by omega) (by omega) (by omega) | exact nI_e (by omega) | decide)) h9)))))))
      | succ m ih =>
        intro k I1 o4 o5 hkm hr1 hm1
        have hb1 := cB_S hm1 hb
        have eb : I1 8 d = nI (b 2 d) := (hb1.2 d hd).2.1
        have hokB : aOK (itN (aHoQ b d) k (aRsAll b d (b 2 d) A)) := itN_P (n := 8) hok1 (fun q B hq hB => aOK_hoQ hk hB (by omega) hq) k (by omega)
        have hh := hho k (by omega)
        have h4 : itN (aHoQ b d) k (aRsAll b d (b 2 d) A) 4 (8 * d + k) = 0 := by
          rw [hoQs_g (by decide) (by decide) (by decide), rsAll_g (by decide) (by decide)]
          exact (hc k (by omega)).2.1
        have next := fun I2 o4 o5 r2 f2 => ih (k + 1) I2 o4 o5 (by omega) r2 f2
        have hstep : itN (aHoQ b d) (k + 1) (aRsAll b d (b 2 d) A) = aHoQ b d k (itN (aHoQ b d) k (aRsAll b d (b 2 d) A)) := rfl
        rw [hstep] at next
        generalize itN (aHoQ b d) k (aRsAll b d (b 2 d) A) = B at hr1 hokB hh h4 next
        have ed : (8 * d + k) / 8 = d := by omega
        have em : (8 * d + k) % 8 = k := by omega
        have elp : aLp b B (8 * d + k) (2 ^ b 0 0 - 1) = (match aLeast b B (aSpread b d k) with | none => none | some p => aRsP b B (8 * d + k) p) := by
          unfold aLp
          rw [ed, em]
          have ea : aSpread b d k &&& (2 ^ b 0 0 - 1) = aSpread b d k := by
            rw [Nat.and_two_pow_sub_one_eq_mod]
            exact Nat.mod_eq_of_lt (bitN_lt _ _)
          rw [ea]
          cases aLeast b B (aSpread b d k) with
          | none => rfl
          | some p => exact if_neg (fun q => q.1 h4)
        refine q_iload_n (pc' := 113) dX5_beginQueues_112 rfl rfl (q_aload_n (pc' := 114) dX5_beginQueues_113 rfl rfl (q_getR (pc' := 117) dX5_beginQueues_114 rfl fr_RX5_32 (okS hi hz (by decide) rfl) rfl (wS_5_0 hS) (by decide) (q_getR (pc' := 120) dX5_beginQueues_117 rfl fr_RX5_85 (by first | assumption | exact ⟨by omega, rfl⟩) rfl (wB_8 hB) (by omega) (q_iload_n (pc' := 121) dX5_beginQueues_120 rfl rfl (q_ialde (pc' := 122) (d) dX5_beginQueues_121 rfl (by first | exact ⟨by omega, rfl⟩ | exact okaS hi hz (by decide) rfl | assumption) (by (first | (simp only [nI_add, pk_mul]; done) | (simp only [nI_add, pk_mul]; exact nI_e (by omega)) | exact nI_e (by omega))) (by omega) eb (q_icmp_ge (pc' := 125) (pt := 168) dX5_beginQueues_122 rfl rfl (fun h9 => absurd h9 (by (first | assumption | exact nI_le (by omega) (by omega) | exact nI_ge (by omega) (by omega) | exact nI_lt (by omega) (by omega) | exact nI_nlt (by omega) (by omega) | exact nI_ne (by omega) (by omega) (by omega) | exact nI_e (by omega) | decide))) (fun _ => (q_iload_n (pc' := 126) dX5_beginQueues_125 rfl rfl (q_bipush (pc' := 128) _ dX5_beginQueues_126 rfl kk_bipush_8 (q_imul (pc' := 129) dX5_beginQueues_128 rfl (q_iload_n (pc' := 130) dX5_beginQueues_129 rfl rfl (q_iadd (pc' := 131) dX5_beginQueues_130 rfl ?_))))))))))))
        refine q_top (y := nI (8 * d + k)) (by rw [pk_mul, nI_add, Nat.mul_comm d 8]) ?_
        refine q_ist_4 (pc' := 133) dX5_beginQueues_131 rfl (by decide) rfl (q_aload_n (pc' := 134) dX5_beginQueues_133 rfl rfl (q_iload (pc' := 136) dX5_beginQueues_134 rfl rfl (q_aload_n (pc' := 137) dX5_beginQueues_136 rfl rfl (q_getR (pc' := 140) dX5_beginQueues_137 rfl fr_RX5_32 (okS hi hz (by decide) rfl) rfl (wS_5_0 hS) (by decide) (q_cVi (pc' := 143) dX5_beginQueues_140 rfl ml_RX5_159 yv_X0_allCpus (by decide) (rn_X0_allCpus hb1 hk) (by first | assumption | exact ⟨by omega, rfl⟩) rfl rfl (Nat.le_of_ble_eq_true rfl) (Nat.le_refl _) (q_cVi (pc' := 146) dX5_beginQueues_143 rfl ml_RX5_162 yv_X5_leastLoadedPlace (by decide) (rn_X5_leastLoadedPlace hi hS hB hb1 hk hr1 hokB (by omega) (by rw [ed]; exact hd) (by rw [ed]; exact h3) (by rw [ed]; exact hset)) (okS hi hz (by decide) rfl) rfl rfl (Nat.le_of_ble_eq_true rfl) (Nat.le_refl _) ?_))))))
        rw [elp]
        cases hl : aLeast b B (aSpread b d k) with
        | none =>
          have eh : aHoQ b d k B = B := by unfold aHoQ; rw [hl]
          rw [eh] at next
          refine q_ist_5 (pc' := 148) dX5_beginQueues_146 rfl (by decide) rfl (q_iload (pc' := 150) dX5_beginQueues_148 rfl rfl (q_iconst (pc' := 151) _ dX5_beginQueues_150 rfl kk_iconst_m1 (q_icmp_eq (pc' := 154) (pt := 162) dX5_beginQueues_151 rfl rfl (fun _ => (q_inc_3 (pc' := 165) dX5_beginQueues_162 rfl (by decide) rfl (q_goto (pc' := 112) dX5_beginQueues_165 rfl ?_))) (fun h9 => absurd (rfl) h9))))
          exact next I1 _ _ hr1 hm1
        | some p =>
          obtain ⟨v, hv⟩ := hh p hl
          have hrs := resv_some hv
          have hp0 := (lstN_lt hl).1
          have eh : aHoQ b d k B = aHolds B (8 * d + k) (32 * p + v) := by unfold aHoQ; rw [hl]; show aHolds B (8 * d + k) (32 * p + (aResv b B (8 * d + k) p).getD 0) = _; rw [hv]; rfl
          rw [eh] at next
          have ep : aRsP b B (8 * d + k) p = some (32 * p + v) := by unfold aRsP; rw [hv]; rfl
          show Wq _ _ _ _ _ [.int (oI (aRsP b B (8 * d + k) p))] _
          rw [ep]
          refine q_ist_5 (pc' := 148) dX5_beginQueues_146 rfl (by decide) rfl (q_iload (pc' := 150) dX5_beginQueues_148 rfl rfl (q_iconst (pc' := 151) _ dX5_beginQueues_150 rfl kk_iconst_m1 (q_icmp_eq (pc' := 154) (pt := 162) dX5_beginQueues_151 rfl rfl (fun h9 => absurd h9 (nI_m1 (by omega))) (fun _ => (q_aload_n (pc' := 155) dX5_beginQueues_154 rfl rfl (q_iload (pc' := 157) dX5_beginQueues_155 rfl rfl (q_iload (pc' := 159) dX5_beginQueues_157 rfl rfl (q_sVv (pc' := 162) dX5_beginQueues_159 rfl ml_RX5_144 yv_X5_hold (by decide) (rs_X5_hold hi hS hk hr1 (by omega) (show 32 * p + v < 256 by omega) (by rw [show (32 * p + v) % 32 = v by omega]; exact hrs.1)) (okS hi hz (by decide) rfl) rfl rfl (Nat.le_of_ble_eq_true rfl) (Nat.le_refl _) (fun I2 ⟨r2, f2⟩ => ?_)))))))))
          refine q_inc_3 (pc' := 165) dX5_beginQueues_162 rfl (by decide) rfl (q_goto (pc' := 112) dX5_beginQueues_165 rfl ?_)
          exact next I2 _ _ r2 (hm1.tr f2)
    refine q_iconst (pc' := 111) _ dX5_beginQueues_110 rfl kk_iconst_0 (q_ist_3 (pc' := 112) dX5_beginQueues_111 rfl (by decide) rfl ?_)
    exact loop (b 2 d) 0 I0 _ _ (by omega) hr0 hm0
  -- what is RESERVED
  have reserves : (∀ p, p < b 0 0 → qN b d p (b 2 d) ≤ aCnt b A p 0) → ¬ aFree b A - qTk b A d (b 0 0) < aProm b A → ∀ m k I0 o4 o5, k + m = b 2 d → cR I0 i b (aRsAll b d k A) → mS i I I0 → Wq dd_X5_beginQueues (mj_mk w l 472 Y) Q 85 [some (.ref (sA i 0)), some (.int (nI d)), some (.int (nI (qTk b A d (b 0 0)))), some (.int (nI k)), o4, o5] [] (472, I0, J, R) := by
    intro hr hpr m
    induction m with
    | zero =>
      intro k I0 o4 o5 hkm hr0 hm0
      have hkz : k = b 2 d := by omega
      subst hkz
      have eb : I0 8 d = nI (b 2 d) := ((cB_S hm0 hb).2 d hd).2.1
      refine q_iload_n (pc' := 86) dX5_beginQueues_85 rfl rfl (q_aload_n (pc' := 87) dX5_beginQueues_86 rfl rfl (q_getR (pc' := 90) dX5_beginQueues_87 rfl fr_RX5_32 (okS hi hz (by decide) rfl) rfl (wS_5_0 hS) (by decide) (q_getR (pc' := 93) dX5_beginQueues_90 rfl fr_RX5_85 (by first | assumption | exact ⟨by omega, rfl⟩) rfl (wB_8 hB) (by omega) (q_iload_n (pc' := 94) dX5_beginQueues_93 rfl rfl (q_ialde (pc' := 95) (d) dX5_beginQueues_94 rfl (by first | exact ⟨by omega, rfl⟩ | exact okaS hi hz (by decide) rfl | assumption) (by (first | (simp only [nI_add, pk_mul]; done) | (simp only [nI_add, pk_mul]; exact nI_e (by omega)) | exact nI_e (by omega))) (by omega) eb (q_icmp_ge (pc' := 98) (pt := 110) dX5_beginQueues_95 rfl rfl (fun _ => ?_) (fun h9 => absurd (by (first | assumption | exact nI_le (by omega) (by omega) | exact nI_ge (by omega) (by omega) | exact nI_lt (by omega) (by omega) | exact nI_nlt (by omega) (by omega) | exact nI_ne (by omega) (by omega) (by omega) | exact nI_e (by omega) | decide)) h9)))))))
      exact holds hr hpr I0 _ _ hr0 hm0
    | succ m ih =>
      intro k I0 o4 o5 hkm hr0 hm0
      have hb0 := cB_S hm0 hb
      have eb : I0 8 d = nI (b 2 d) := (hb0.2 d hd).2.1
      refine q_iload_n (pc' := 86) dX5_beginQueues_85 rfl rfl (q_aload_n (pc' := 87) dX5_beginQueues_86 rfl rfl (q_getR (pc' := 90) dX5_beginQueues_87 rfl fr_RX5_32 (okS hi hz (by decide) rfl) rfl (wS_5_0 hS) (by decide) (q_getR (pc' := 93) dX5_beginQueues_90 rfl fr_RX5_85 (by first | assumption | exact ⟨by omega, rfl⟩) rfl (wB_8 hB) (by omega) (q_iload_n (pc' := 94) dX5_beginQueues_93 rfl rfl (q_ialde (pc' := 95) (d) dX5_beginQueues_94 rfl (by first | exact ⟨by omega, rfl⟩ | exact okaS hi hz (by decide) rfl | assumption) (by (first | (simp only [nI_add, pk_mul]; done) | (simp only [nI_add, pk_mul]; exact nI_e (by omega)) | exact nI_e (by omega))) (by omega) eb (q_icmp_ge (pc' := 98) (pt := 110) dX5_beginQueues_95 rfl rfl (fun h9 => absurd h9 (by (first | assumption | exact nI_le (by omega) (by omega) | exact nI_ge (by omega) (by omega) | exact nI_lt (by omega) (by omega) | exact nI_nlt (by omega) (by omega) | exact nI_ne (by omega) (by omega) (by omega) | exact nI_e (by omega) | decide))) (fun _ => (q_aload_n (pc' := 99) dX5_beginQueues_98 rfl rfl (q_iload_n (pc' := 100) dX5_beginQueues_99 rfl rfl (q_iload_n (pc' := 101) dX5_beginQueues_100 rfl rfl (q_sVv (pc' := 104) dX5_beginQueues_101 rfl ml_RX5_156 yv_X5_reserve (by decide) (rs_X5_reserve hi hS hB hb0 hk hr0 hd (by omega) h3 hset) (okS hi hz (by decide) rfl) rfl rfl (Nat.le_of_ble_eq_true rfl) (Nat.le_refl _) (fun I1 ⟨r1, f1⟩ => ?_))))))))))))
      refine q_inc_3 (pc' := 107) dX5_beginQueues_104 rfl (by decide) rfl (q_goto (pc' := 85) dX5_beginQueues_107 rfl ?_)
      exact ih (k + 1) I1 _ _ (by omega) r1 (hm0.tr f1)
  have loop : ∀ m k o4 o5, k + m = b 0 0 → (∀ p, p < k → qN b d p (b 2 d) ≤ aCnt b A p 0) → Wq dd_X5_beginQueues (mj_mk w l 472 Y) Q 4 [some (.ref (sA i 0)), some (.int (nI d)), some (.int (nI (qTk b A d k))), some (.int (nI k)), o4, o5] [] (472, I, J, R) := by
    intro m
    induction m with
    | zero =>
      intro k o4 o5 hkm hr
      have hkz : k = b 0 0 := by omega
      subst hkz
      have hF := rs_free (d := d) hk hr
      refine q_iload_n (pc' := 5) dX5_beginQueues_4 rfl rfl (q_aload_n (pc' := 6) dX5_beginQueues_5 rfl rfl (q_getR (pc' := 9) dX5_beginQueues_6 rfl fr_RX5_32 (okS hi hz (by decide) rfl) rfl (wS_5_0 hS) (by decide) (q_getIe (pc' := 12) dX5_beginQueues_9 rfl fr_RX5_88 (by first | assumption | exact ⟨by omega, rfl⟩) rfl (cB_0 hb) (q_icmp_ge (pc' := 15) (pt := 65) dX5_beginQueues_12 rfl rfl (fun _ => (q_aload_n (pc' := 66) dX5_beginQueues_65 rfl rfl (q_getR (pc' := 69) dX5_beginQueues_66 rfl fr_RX5_41 (okS hi hz (by decide) rfl) rfl (wS_5_1 hS) (sA_lt hi (by decide)) (q_cVi (pc' := 72) dX5_beginQueues_69 rfl ml_RX5_137 yv_X4_freeOnline (by decide) (rn_X4_freeOnline hi hS hb hk h.1) (okS hi hz (by decide) rfl) rfl rfl (Nat.le_of_ble_eq_true rfl) (Nat.le_refl _) (q_iload_n (pc' := 73) dX5_beginQueues_72 rfl rfl ?_))))) (fun h9 => absurd (by (first | assumption | exact nI_le (by omega) (by omega) | exact nI_ge (by omega) (by omega) | exact nI_lt (by omega) (by omega) | exact nI_nlt (by omega) (by omega) | exact nI_ne (by omega) (by omega) (by omega) | exact nI_e (by omega) | decide)) h9)))))
      refine q_isub dX5_beginQueues_73 rfl ?_
      refine q_top (nI_sb (by omega)) ?_
      by_cases hpr : aFree b A - qTk b A d (b 0 0) < aProm b A
      · exact q_aload_n (pc' := 75) dX5_beginQueues_74 rfl rfl (q_cVi (pc' := 78) dX5_beginQueues_75 rfl ml_RX5_141 yv_X5_promisedVectors (by decide) (rn_X5_promisedVectors hi hS hB hb hk h.2.2) (okS hi hz (by decide) rfl) rfl rfl (Nat.le_of_ble_eq_true rfl) (Nat.le_refl _) (q_icmp_ge (pc' := 81) (pt := 83) dX5_beginQueues_78 rfl rfl (fun h9 => absurd h9 (Int32.not_le.mpr (nI_lt hpr (by omega)))) (fun _ => (q_iconst (pc' := 82) _ dX5_beginQueues_81 rfl kk_iconst_2 (q_iret dX5_beginQueues_82 rfl (hQ _ _ _ _ ⟨_, rfl, ⟨rfl, rfl⟩, (by rw [if_pos hr, if_pos hpr]; exact ⟨rfl, h⟩), mS.rf⟩))))))
      · refine q_aload_n (pc' := 75) dX5_beginQueues_74 rfl rfl (q_cVi (pc' := 78) dX5_beginQueues_75 rfl ml_RX5_141 yv_X5_promisedVectors (by decide) (rn_X5_promisedVectors hi hS hB hb hk h.2.2) (okS hi hz (by decide) rfl) rfl rfl (Nat.le_of_ble_eq_true rfl) (Nat.le_refl _) (q_icmp_ge (pc' := 81) (pt := 83) dX5_beginQueues_78 rfl rfl (fun _ => (q_iconst (pc' := 84) _ dX5_beginQueues_83 rfl kk_iconst_0 (q_ist_3 (pc' := 85) dX5_beginQueues_84 rfl (by decide) rfl ?_))) (fun h9 => absurd (nI_le (by omega) (by omega)) h9)))
        exact reserves hr hpr (b 2 d) 0 I _ _ (by omega) h mS.rf
    | succ m ih =>
      intro k o4 o5 hkm hr
      have hle := aCnt_le b A k 0
      have hqk := hq8 k (b 2 d)
      refine q_iload_n (pc' := 5) dX5_beginQueues_4 rfl rfl (q_aload_n (pc' := 6) dX5_beginQueues_5 rfl rfl (q_getR (pc' := 9) dX5_beginQueues_6 rfl fr_RX5_32 (okS hi hz (by decide) rfl) rfl (wS_5_0 hS) (by decide) (q_getIe (pc' := 12) dX5_beginQueues_9 rfl fr_RX5_88 (by first | assumption | exact ⟨by omega, rfl⟩) rfl (cB_0 hb) (q_icmp_ge (pc' := 15) (pt := 65) dX5_beginQueues_12 rfl rfl (fun h9 => absurd h9 (by (first | assumption | exact nI_le (by omega) (by omega) | exact nI_ge (by omega) (by omega) | exact nI_lt (by omega) (by omega) | exact nI_nlt (by omega) (by omega) | exact nI_ne (by omega) (by omega) (by omega) | exact nI_e (by omega) | decide))) (fun _ => (q_aload_n (pc' := 16) dX5_beginQueues_15 rfl rfl (q_iload_n (pc' := 17) dX5_beginQueues_16 rfl rfl (q_iload_n (pc' := 18) dX5_beginQueues_17 rfl rfl (q_cVi (pc' := 21) dX5_beginQueues_18 rfl ml_RX5_147 yv_X5_queuesAt (by decide) (rn_X5_queuesAt hi hS hB hb hk hd h3 hset (by omega)) (okS hi hz (by decide) rfl) rfl rfl (Nat.le_of_ble_eq_true rfl) (Nat.le_refl _) (q_ist_4 (pc' := 23) dX5_beginQueues_21 rfl (by decide) rfl (q_iload (pc' := 25) dX5_beginQueues_23 rfl rfl (q_aload_n (pc' := 26) dX5_beginQueues_25 rfl rfl (q_getR (pc' := 29) dX5_beginQueues_26 rfl fr_RX5_41 (okS hi hz (by decide) rfl) rfl (wS_5_1 hS) (sA_lt hi (by decide)) (q_iconst (pc' := 30) _ dX5_beginQueues_29 rfl kk_iconst_0 ?_))))))))))))))
      refine q_iload_n (pc' := 31) dX5_beginQueues_30 rfl rfl (q_cVi (pc' := 34) dX5_beginQueues_31 rfl ml_RX5_150 yv_X4_howMany (by decide) (rn_X4_howMany (s := 0) hi hS hk h.1 (by omega) (by decide)) (okS hi hz (by decide) rfl) rfl rfl (Nat.le_of_ble_eq_true rfl) (Nat.le_refl _) ?_)
      by_cases hcw : qN b d k (b 2 d) ≤ aCnt b A k 0
      · have next := fun o4 o5 => ih (k + 1) o4 o5 (by omega) (fun p hp2 => by
          by_cases e : p = k
          · rw [e]; exact hcw
          · exact hr p (by omega))
        have es : qTk b A d (k + 1) = qTk b A d k + (if A 9 k = 1 then qN b d k (b 2 d) else 0) := rfl
        rw [es] at next
        by_cases c9 : A 9 k = 1
        · rw [if_pos c9] at next
          refine q_icmp_le (pc' := 37) (pt := 39) dX5_beginQueues_34 rfl rfl (fun _ => (q_iload_n (pc' := 40) dX5_beginQueues_39 rfl rfl (q_aload_n (pc' := 41) dX5_beginQueues_40 rfl rfl (q_getR (pc' := 44) dX5_beginQueues_41 rfl fr_RX5_41 (okS hi hz (by decide) rfl) rfl (wS_5_1 hS) (sA_lt hi (by decide)) (q_iload_n (pc' := 45) dX5_beginQueues_44 rfl rfl (q_cVi (pc' := 48) dX5_beginQueues_45 rfl ml_RX5_153 yv_X4_isOnline (by decide) (rn_X4_isOnline hi hk h.1 (by omega)) (okS hi hz (by decide) rfl) rfl rfl (Nat.le_of_ble_eq_true rfl) (Nat.le_refl _) (q_ifb_eq (pc' := 51) (pt := 56) dX5_beginQueues_48 rfl rfl (fun h9 => Bool.noConfusion (Eq.trans (Eq.symm (beq_iff_eq.mpr c9)) h9)) (fun _ => (q_iload (pc' := 53) dX5_beginQueues_51 rfl rfl (q_goto (pc' := 57) dX5_beginQueues_53 rfl ?_)))))))))) (fun h9 => absurd (nI_le hcw (by omega)) h9)
          refine q_iadd dX5_beginQueues_57 rfl ?_
          refine q_top (nI_add _ _) ?_
          refine q_ist_2 (pc' := 59) dX5_beginQueues_58 rfl (by decide) rfl (q_inc_3 (pc' := 62) dX5_beginQueues_59 rfl (by decide) rfl (q_goto (pc' := 4) dX5_beginQueues_62 rfl ?_))
          exact next _ _
        · rw [if_neg c9] at next
          refine q_icmp_le (pc' := 37) (pt := 39) dX5_beginQueues_34 rfl rfl (fun _ => (q_iload_n (pc' := 40) dX5_beginQueues_39 rfl rfl (q_aload_n (pc' := 41) dX5_beginQueues_40 rfl rfl (q_getR (pc' := 44) dX5_beginQueues_41 rfl fr_RX5_41 (okS hi hz (by decide) rfl) rfl (wS_5_1 hS) (sA_lt hi (by decide)) (q_iload_n (pc' := 45) dX5_beginQueues_44 rfl rfl (q_cVi (pc' := 48) dX5_beginQueues_45 rfl ml_RX5_153 yv_X4_isOnline (by decide) (rn_X4_isOnline hi hk h.1 (by omega)) (okS hi hz (by decide) rfl) rfl rfl (Nat.le_of_ble_eq_true rfl) (Nat.le_refl _) (q_ifb_eq (pc' := 51) (pt := 56) dX5_beginQueues_48 rfl rfl (fun _ => (q_iconst (pc' := 57) _ dX5_beginQueues_56 rfl kk_iconst_0 ?_)) (fun h9 => Bool.noConfusion (Eq.trans (Eq.symm (beq_eq_false_iff_ne.mpr c9)) h9))))))))) (fun h9 => absurd (nI_le hcw (by omega)) h9)
          refine q_iadd dX5_beginQueues_57 rfl ?_
          refine q_top (nI_add _ 0) ?_
          refine q_ist_2 (pc' := 59) dX5_beginQueues_58 rfl (by decide) rfl (q_inc_3 (pc' := 62) dX5_beginQueues_59 rfl (by decide) rfl (q_goto (pc' := 4) dX5_beginQueues_62 rfl ?_))
          exact next _ _
      · have hno : ¬ ∀ p, p < b 0 0 → qN b d p (b 2 d) ≤ aCnt b A p 0 := fun z => hcw (z k (by omega))
        exact q_icmp_le (pc' := 37) (pt := 39) dX5_beginQueues_34 rfl rfl (fun h9 => absurd h9 (Int32.not_le.mpr (nI_lt (by omega) (by omega)))) (fun _ => (q_iconst (pc' := 38) _ dX5_beginQueues_37 rfl kk_iconst_1 (q_iret dX5_beginQueues_38 rfl (hQ _ _ _ _ ⟨_, rfl, ⟨rfl, rfl⟩, (by rw [if_neg hno]; exact ⟨rfl, h⟩), mS.rf⟩))))
  refine q_iconst (pc' := 1) _ dX5_beginQueues_0 rfl kk_iconst_0 (q_ist_2 (pc' := 2) dX5_beginQueues_1 rfl (by decide) rfl (q_iconst (pc' := 3) _ dX5_beginQueues_2 rfl kk_iconst_0 (q_ist_3 (pc' := 4) dX5_beginQueues_3 rfl (by decide) rfl ?_)))
  exact loop (b 0 0) 0 _ _ (by omega) (fun p hp2 => absurd hp2 (Nat.not_lt_zero _))
theorem rs_X5_begin_q {d : Nat} (hi : i < 21) (hS : mj_wS R i) (hB : mj_wB R 4) (hb : cB I b) (hk : bOK b) (h : cR I i b A) (hA : aOK A) (hd : d < b 0 2) (h3 : b 1 d = 3) (hset : b 3 d < 2 ^ b 0 0) (h8 : A 8 d ≠ 1) (hcl : A 7 d ≠ 1 → clrD A d) (hH : aHoOK b (aSt0 A d) d) : RsI w l yX5_begin dd_X5_begin [.ref (sA i 0), .int (nI d)] (472, I, J, R) (fun x I' => x = nI (aStart b A d).1 ∧ cR I' i b (aStart b A d).2 ∧ mS i I I') := by
  have hz : 50 + 20 * i ≤ 472 := by omega
  have h10 := hk.2.2.1
  refine rt_intro2 (L := [some (.ref (sA i 0)), some (.int (nI d)), none]) ⟨by decide, rfl, (fun h => by cases h)⟩ (Nat.le_of_ble_eq_true rfl) rfl (fun Y Q hQ => ?_)
  by_cases h7 : A 7 d = 1
  · have e : aStart b A d = (4, A) := if_pos h7
    rw [e] at hQ
    exact q_aload_n (pc' := 1) dX5_begin_0 rfl rfl (q_iload_n (pc' := 2) dX5_begin_1 rfl rfl (q_cVi (pc' := 5) dX5_begin_2 rfl ml_RX5_121 yv_X5_isStarted (by decide) (rn_X5_isStarted hi h.2.2 (by omega)) (okS hi hz (by decide) rfl) rfl rfl (Nat.le_of_ble_eq_true rfl) (Nat.le_refl _) (q_ifb_eq (pc' := 8) (pt := 10) dX5_begin_5 rfl rfl (fun h9 => Bool.noConfusion (Eq.trans (Eq.symm (beq_iff_eq.mpr h7)) h9)) (fun _ => (q_iconst (pc' := 9) _ dX5_begin_8 rfl kk_iconst_4 (q_iret dX5_begin_9 rfl (hQ _ _ _ _ ⟨_, rfl, ⟨rfl, rfl⟩, rfl, h, mS.rf⟩)))))))
  · rw [start_q hk hd h7 h8 h3 (hcl h7) hH] at hQ
    refine q_aload_n (pc' := 1) dX5_begin_0 rfl rfl (q_iload_n (pc' := 2) dX5_begin_1 rfl rfl (q_cVi (pc' := 5) dX5_begin_2 rfl ml_RX5_121 yv_X5_isStarted (by decide) (rn_X5_isStarted hi h.2.2 (by omega)) (okS hi hz (by decide) rfl) rfl rfl (Nat.le_of_ble_eq_true rfl) (Nat.le_refl _) (q_ifb_eq (pc' := 8) (pt := 10) dX5_begin_5 rfl rfl (fun _ => (q_aload_n (pc' := 11) dX5_begin_10 rfl rfl (q_iload_n (pc' := 12) dX5_begin_11 rfl rfl (q_cVi (pc' := 15) dX5_begin_12 rfl ml_RX5_104 yv_X5_isManaged (by decide) (rn_X5_isManaged hi hS hB hb hk hd) (okS hi hz (by decide) rfl) rfl rfl (Nat.le_of_ble_eq_true rfl) (Nat.le_refl _) (q_ifb_eq (pc' := 18) (pt := 26) dX5_begin_15 rfl rfl (fun h9 => Bool.noConfusion (Eq.trans (Eq.symm (beq_iff_eq.mpr h3)) h9)) (fun _ => (q_aload_n (pc' := 19) dX5_begin_18 rfl rfl (q_iload_n (pc' := 20) dX5_begin_19 rfl rfl (q_sVi (pc' := 23) dX5_begin_20 rfl ml_RX5_124 yv_X5_beginQueues (by decide) (rs_X5_beginQueues hi hS hB hb hk h hA hd h3 hset (hcl h7) hH) (okS hi hz (by decide) rfl) rfl rfl (Nat.le_of_ble_eq_true rfl) (Nat.le_refl _) (fun x1 I1 ⟨r1, f1⟩ => (q_goto (pc' := 31) dX5_begin_23 rfl ?_))))))))))) (fun h9 => Bool.noConfusion (Eq.trans (Eq.symm (beq_eq_false_iff_ne.mpr h7)) h9)))))
    by_cases hr : ∀ p, p < b 0 0 → qN b d p (b 2 d) ≤ aCnt b A p 0
    · rw [if_pos hr] at r1 hQ
      by_cases hpr : aFree b A - qTk b A d (b 0 0) < aProm b A
      · rw [if_pos hpr] at r1 hQ
        rw [r1.1]
        exact q_ist_2 (pc' := 32) dX5_begin_31 rfl (by decide) rfl (q_iload_n (pc' := 33) dX5_begin_32 rfl rfl (q_if_ne (pc' := 36) (pt := 62) dX5_begin_33 rfl rfl (fun _ => (q_iload_n (pc' := 63) dX5_begin_62 rfl rfl (q_iret dX5_begin_63 rfl (hQ _ _ _ _ ⟨_, rfl, ⟨rfl, rfl⟩, rfl, r1.2, f1⟩)))) (fun h9 => absurd h9 (by decide))))
      · rw [if_neg hpr] at r1 hQ
        rw [r1.1]
        refine q_ist_2 (pc' := 32) dX5_begin_31 rfl (by decide) rfl ?_
        exact w_beg Q Y hi (by omega) r1.2 (fun I' q1 q2 => hQ _ _ _ _ ⟨_, rfl, ⟨rfl, rfl⟩, rfl, q1, f1.tr q2⟩)
    · rw [if_neg hr] at r1 hQ
      rw [r1.1]
      exact q_ist_2 (pc' := 32) dX5_begin_31 rfl (by decide) rfl (q_iload_n (pc' := 33) dX5_begin_32 rfl rfl (q_if_ne (pc' := 36) (pt := 62) dX5_begin_33 rfl rfl (fun _ => (q_iload_n (pc' := 63) dX5_begin_62 rfl rfl (q_iret dX5_begin_63 rfl (hQ _ _ _ _ ⟨_, rfl, ⟨rfl, rfl⟩, rfl, r1.2, f1⟩)))) (fun h9 => absurd h9 (by decide))))
end ST9
