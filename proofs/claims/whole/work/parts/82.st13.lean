/-! ===== the class: UNPLUG ===== -/
/-- what else the class must know while a CPU is left -/
def uC2 (b : St) (p : Nat) (U : St → Prop) : Prop := (∀ B, U B → B 9 p ≠ 1) ∧ (∀ B d k, U B → d < b 0 2 → B 7 d = 1 → k < b 2 d → pv b (B 3 (8 * d + k)) ∧ pv b (B 4 (8 * d + k)) ∧ (B 5 (8 * d + k) = 1 → B 4 (8 * d + k) ≠ 0)) ∧ (∀ B d, U B → d < b 0 2 → B 7 d = 1 → b 1 d ≠ 3 → aAt B (8 * d) p = true → ∀ j, j < b 2 d → (B 3 (8 * d + j) - 1) / 32 = p) ∧ ∀ B k, U B → k < 256 → B 0 k = 0 → B 2 k ≠ 1
section ST13
variable {w : mj_Wd} {l : Launch} {I : mj_M} {J : mj_J} {R : mj_R} {b A : St} {i : Nat}
theorem at_iff {id p : Nat} : aAt A id p = decide (A 3 id ≠ 0 ∧ (A 3 id - 1) / 32 = p) := by
  unfold aAt
  rw [Bool.eq_iff_iff, Bool.and_eq_true, bne_iff_ne, beq_iff_eq, decide_eq_true_iff]
theorem rs_X5_bringQueuesAway {U : St → Prop} {d p : Nat} (hi : i < 21) (hS : mj_wS R i) (hB : mj_wB R 4) (hb : cB I b) (hk : bOK b) (h : cR I i b A) (hU : uCl b p U) (hU2 : uC2 b p U) (hA : U A) (hd : d < b 0 2) (h7 : A 7 d = 1) (h3 : b 1 d = 3) (hset : b 3 d < 2 ^ b 0 0) (hp : p < b 0 0) : RsV w l yX5_bringQueuesAway dd_X5_bringQueuesAway [.ref (sA i 0), .int (nI d), .int (nI p)] (472, I, J, R) (fun I' => cR I' i b (itN (aQ1 b d p) (b 2 d) A) ∧ mS i I I') := by
  have hz : 50 + 20 * i ≤ 472 := by omega
  have h10 := hk.2.2.1
  have h8 := hk.1.2
  have hs := hk.2.2.2 d hd
  refine rt_intro2 (L := [some (.ref (sA i 0)), some (.int (nI d)), some (.int (nI p)), none, none]) ⟨by decide, rfl, (fun h => by cases h)⟩ (Nat.le_of_ble_eq_true rfl) rfl (fun Y Q hQ => ?_)
  have loop : ∀ m k I0 o4, k + m = b 2 d → cR I0 i b (itN (aQ1 b d p) k A) → mS i I I0 → Wq dd_X5_bringQueuesAway (mj_mk w l 472 Y) Q 2 [some (.ref (sA i 0)), some (.int (nI d)), some (.int (nI p)), some (.int (nI k)), o4] [] (472, I0, J, R) := by
    intro m
    induction m with
    | zero =>
      intro k I0 o4 hkm hr hm
      have hkz : k = b 2 d := by omega
      subst hkz
      have hb0 := cB_S hm hb
      exact q_iload_n (pc' := 3) dX5_bringQueuesAway_2 rfl rfl (q_aload_n (pc' := 4) dX5_bringQueuesAway_3 rfl rfl (q_getR (pc' := 7) dX5_bringQueuesAway_4 rfl fr_RX5_32 (okS hi hz (by decide) rfl) rfl (wS_5_0 hS) (by decide) (q_getR (pc' := 10) dX5_bringQueuesAway_7 rfl fr_RX5_85 (by first | assumption | exact ⟨by omega, rfl⟩) rfl (wB_8 hB) (by omega) (q_iload_n (pc' := 11) dX5_bringQueuesAway_10 rfl rfl (q_ialde (pc' := 12) (d) dX5_bringQueuesAway_11 rfl (by first | exact ⟨by omega, rfl⟩ | exact okaS hi hz (by decide) rfl | assumption) (by (first | (simp only [nI_add, pk_mul]; done) | (simp only [nI_add, pk_mul]; exact nI_e (by omega)) | exact nI_e (by omega))) (by omega) (hb0.2 d hd).2.1 (q_icmp_ge (pc' := 15) (pt := 56) dX5_bringQueuesAway_12 rfl rfl (fun _ => (q_vret dX5_bringQueuesAway_56 rfl (hQ _ _ _ _ ⟨rfl, ⟨rfl, rfl⟩, hr, hm⟩))) (fun h9 => absurd (by (first | assumption | exact nI_le (by omega) (by omega) | exact nI_ge (by omega) (by omega) | exact nI_lt (by omega) (by omega) | exact nI_nlt (by omega) (by omega) | exact nI_ne (by omega) (by omega) (by omega) | exact nI_e (by omega) | decide)) h9)))))))
    | succ m ih =>
      intro k I0 o4 hkm hr hm
      have hb0 := cB_S hm hb
      have hu := u_q1 hU hd h3 hA h7 k (by omega)
      have next := fun I1 o4 r1 f1 => ih (k + 1) I1 o4 (by omega) r1 f1
      have hst : itN (aQ1 b d p) (k + 1) A = aQ1 b d p k (itN (aQ1 b d p) k A) := rfl
      rw [hst] at next
      generalize itN (aQ1 b d p) k A = B at hr hu next
      have c2 := hU2.2.1 B d k hu.1 hd hu.2 (by omega)
      have ed : (8 * d + k) / 8 = d := by omega
      refine q_iload_n (pc' := 3) dX5_bringQueuesAway_2 rfl rfl (q_aload_n (pc' := 4) dX5_bringQueuesAway_3 rfl rfl (q_getR (pc' := 7) dX5_bringQueuesAway_4 rfl fr_RX5_32 (okS hi hz (by decide) rfl) rfl (wS_5_0 hS) (by decide) (q_getR (pc' := 10) dX5_bringQueuesAway_7 rfl fr_RX5_85 (by first | assumption | exact ⟨by omega, rfl⟩) rfl (wB_8 hB) (by omega) (q_iload_n (pc' := 11) dX5_bringQueuesAway_10 rfl rfl (q_ialde (pc' := 12) (d) dX5_bringQueuesAway_11 rfl (by first | exact ⟨by omega, rfl⟩ | exact okaS hi hz (by decide) rfl | assumption) (by (first | (simp only [nI_add, pk_mul]; done) | (simp only [nI_add, pk_mul]; exact nI_e (by omega)) | exact nI_e (by omega))) (by omega) (hb0.2 d hd).2.1 (q_icmp_ge (pc' := 15) (pt := 56) dX5_bringQueuesAway_12 rfl rfl (fun h9 => absurd h9 (by (first | assumption | exact nI_le (by omega) (by omega) | exact nI_ge (by omega) (by omega) | exact nI_lt (by omega) (by omega) | exact nI_nlt (by omega) (by omega) | exact nI_ne (by omega) (by omega) (by omega) | exact nI_e (by omega) | decide))) (fun _ => (q_iload_n (pc' := 16) dX5_bringQueuesAway_15 rfl rfl (q_bipush (pc' := 18) _ dX5_bringQueuesAway_16 rfl kk_bipush_8 (q_imul (pc' := 19) dX5_bringQueuesAway_18 rfl (q_iload_n (pc' := 20) dX5_bringQueuesAway_19 rfl rfl (q_iadd (pc' := 21) dX5_bringQueuesAway_20 rfl ?_))))))))))))
      refine q_top (y := nI (8 * d + k)) (by rw [pk_mul, nI_add, Nat.mul_comm d 8]) ?_
      refine q_ist_4 (pc' := 23) dX5_bringQueuesAway_21 rfl (by decide) rfl (q_aload_n (pc' := 24) dX5_bringQueuesAway_23 rfl rfl (q_iload (pc' := 26) dX5_bringQueuesAway_24 rfl rfl (q_iload_n (pc' := 27) dX5_bringQueuesAway_26 rfl rfl (q_sVv (pc' := 30) dX5_bringQueuesAway_27 rfl ml_RX5_236 yv_X5_bringOldAway (by decide) (rs_X5_bringOldAway hi hS hB hb0 hk hr (hU.1 B hu.1) (by omega) (by rw [ed]; exact hd) (by omega) (hU.2.1 B d k hu.1 hd hu.2 (by omega)) c2.1 c2.2.1) (okS hi hz (by decide) rfl) rfl rfl (Nat.le_of_ble_eq_true rfl) (Nat.le_refl _) (fun I1 ⟨h1, f1⟩ => ?_)))))
      have hu2 := hU.2.2.2.2.1 B d k hu.1 hd hu.2 (by omega)
      have hu27 : aOldL b B (8 * d + k) p 7 d = 1 := by rw [oldL_7]; exact hu.2
      unfold aQ1 at next
      generalize aOldL b B (8 * d + k) p = C at h1 hu2 hu27 next
      have c3 := hU2.2.1 C d k hu2 hd hu27 (by omega)
      have hok := (hU.1 C hu2).2.1 (8 * d + k) (by omega)
      have hln := h1.2.2.2 (8 * d + k) (by omega)
      by_cases hat : aAt C (8 * d + k) p = true
      · rw [if_pos hat] at next
        have hat' := hat
        rw [at_iff, decide_eq_true_iff] at hat'
        refine q_aload_n (pc' := 31) dX5_bringQueuesAway_30 rfl rfl (q_getR (pc' := 34) dX5_bringQueuesAway_31 rfl fr_RX5_18 (okS hi hz (by decide) rfl) rfl (wS_5_5 hS) (sA_lt hi (by decide)) (q_iload (pc' := 36) dX5_bringQueuesAway_34 rfl rfl (q_ialde (pc' := 37) (8 * d + k) dX5_bringQueuesAway_36 rfl (by first | exact ⟨by omega, rfl⟩ | exact okaS hi hz (by decide) rfl | assumption) (by (first | (simp only [nI_add, pk_mul]; done) | (simp only [nI_add, pk_mul]; exact nI_e (by omega)) | exact nI_e (by omega))) (by omega) hln.1 (q_iload_n (pc' := 38) dX5_bringQueuesAway_37 rfl rfl (q_cSi (pc' := 41) dX5_bringQueuesAway_38 rfl ml_RX5_174 ys_X5_isAt (by decide) (rn_X5_isAt hok.1 (by omega)) rfl rfl (Nat.le_of_ble_eq_true rfl) (Nat.le_refl _) (q_ifb_eq (pc' := 44) (pt := 50) dX5_bringQueuesAway_41 rfl rfl (fun h9 => Bool.noConfusion (Eq.trans (Eq.symm (decide_eq_true hat')) h9)) (fun _ => (q_aload_n (pc' := 45) dX5_bringQueuesAway_44 rfl rfl (q_iload (pc' := 47) dX5_bringQueuesAway_45 rfl rfl (q_sVv (pc' := 50) dX5_bringQueuesAway_47 rfl ml_RX5_242 yv_X5_bringQueueAway (by decide) (rs_X5_bringQueueAway hi hS hB (cB_S (hm.tr f1) hb) hk h1 (hU.1 C hu2) hd (by omega) h3 hset hp (hU2.1 C hu2) hat'.1 hat'.2 c3.1 c3.2.1 c3.2.2 (hU.2.2.2.1 C d k hu2 hd hu27 h3 (by omega) hat)) (okS hi hz (by decide) rfl) rfl rfl (Nat.le_of_ble_eq_true rfl) (Nat.le_refl _) (fun I2 ⟨h2, f2⟩ => ?_)))))))))))
        refine q_inc_3 (pc' := 53) dX5_bringQueuesAway_50 rfl (by decide) rfl (q_goto (pc' := 2) dX5_bringQueuesAway_53 rfl ?_)
        exact next I2 _ h2 ((hm.tr f1).tr f2)
      · rw [if_neg hat] at next
        have hat' : ¬ (C 3 (8 * d + k) ≠ 0 ∧ (C 3 (8 * d + k) - 1) / 32 = p) := fun z => hat (by rw [at_iff, decide_eq_true_iff]; exact z)
        refine q_aload_n (pc' := 31) dX5_bringQueuesAway_30 rfl rfl (q_getR (pc' := 34) dX5_bringQueuesAway_31 rfl fr_RX5_18 (okS hi hz (by decide) rfl) rfl (wS_5_5 hS) (sA_lt hi (by decide)) (q_iload (pc' := 36) dX5_bringQueuesAway_34 rfl rfl (q_ialde (pc' := 37) (8 * d + k) dX5_bringQueuesAway_36 rfl (by first | exact ⟨by omega, rfl⟩ | exact okaS hi hz (by decide) rfl | assumption) (by (first | (simp only [nI_add, pk_mul]; done) | (simp only [nI_add, pk_mul]; exact nI_e (by omega)) | exact nI_e (by omega))) (by omega) hln.1 (q_iload_n (pc' := 38) dX5_bringQueuesAway_37 rfl rfl (q_cSi (pc' := 41) dX5_bringQueuesAway_38 rfl ml_RX5_174 ys_X5_isAt (by decide) (rn_X5_isAt hok.1 (by omega)) rfl rfl (Nat.le_of_ble_eq_true rfl) (Nat.le_refl _) (q_ifb_eq (pc' := 44) (pt := 50) dX5_bringQueuesAway_41 rfl rfl (fun _ => (q_inc_3 (pc' := 53) dX5_bringQueuesAway_50 rfl (by decide) rfl (q_goto (pc' := 2) dX5_bringQueuesAway_53 rfl ?_))) (fun h9 => Bool.noConfusion (Eq.trans (Eq.symm (decide_eq_false hat')) h9))))))))
        exact next I1 _ h1 (hm.tr f1)
  refine q_iconst (pc' := 1) _ dX5_bringQueuesAway_0 rfl kk_iconst_0 (q_ist_3 (pc' := 2) dX5_bringQueuesAway_1 rfl (by decide) rfl ?_)
  exact loop (b 2 d) 0 I _ (by omega) h mS.rf
/-- what is DEALT goes to another place, LINE by LINE -/
theorem br1_e {d p to k : Nat} (hat : (A 3 (8 * d + k) - 1) / 32 = p) : aBr1 b d p to k A = mj_up (aHolds (aLeaves b A (8 * d + k) (A 3 (8 * d + k) - 1)) (8 * d + k) (to + k)) 2 (to + k) (A 2 (A 3 (8 * d + k) - 1)) := by
  unfold aBr1
  rw [show 32 * p + (A 3 (8 * d + k) - 1) % 32 = A 3 (8 * d + k) - 1 by omega]
theorem rs_X5_bringDealtAway {U : St → Prop} {d p : Nat} (hi : i < 21) (hS : mj_wS R i) (hB : mj_wB R 4) (hb : cB I b) (hk : bOK b) (h : cR I i b A) (hU : uCl b p U) (hU2 : uC2 b p U) (hA : U A) (hd : d < b 0 2) (h7 : A 7 d = 1) (h3 : b 1 d ≠ 3) (hp : p < b 0 0) : RsI w l yX5_bringDealtAway dd_X5_bringDealtAway [.ref (sA i 0), .int (nI d), .int (nI p)] (472, I, J, R) (fun x I' => x = bI (aClD b A d p).isSome ∧ (∀ B, aClD b A d p = some B → cR I' i b B) ∧ mS i I I') := by
  have hz : 50 + 20 * i ≤ 472 := by omega
  have h10 := hk.2.2.1
  have h8 := hk.1.2
  have h32 := hk.2.1.2
  have hs := hk.2.2.2 d hd
  refine rt_intro2 (L := [some (.ref (sA i 0)), some (.int (nI d)), some (.int (nI p)), none, none, none, none]) ⟨by decide, rfl, (fun h => by cases h)⟩ (Nat.le_of_ble_eq_true rfl) rfl (fun Y Q hQ => ?_)
  unfold aClD at hQ
  have huB := u_old hU hd hA h7 (b 2 d) (Nat.le_refl _)
  -- behind the OLD ones
  have rest : ∀ I0, cR I0 i b (itN (fun k A => aOldL b A (8 * d + k) p) (b 2 d) A) → mS i I I0 → Wq dd_X5_bringDealtAway (mj_mk w l 472 Y) Q 41 [some (.ref (sA i 0)), some (.int (nI d)), some (.int (nI p)), some (.int (nI (b 2 d))), some (.int (nI (8 * d))), some (.int (nI (b 2 d))), none] [] (472, I0, J, R) := by
    intro I0 hr hm
    generalize itN (fun k A => aOldL b A (8 * d + k) p) (b 2 d) A = B at hr huB hQ
    have hokB := hU.1 B huB.1
    have hok := hokB.2.1 (8 * d) (by omega)
    have hln := hr.2.2.2 (8 * d) (by omega)
    have hb0 := cB_S hm hb
    by_cases hat : aAt B (8 * d) p = true
    · rw [if_pos hat] at hQ
      have hat' := hat
      rw [at_iff, decide_eq_true_iff] at hat'
      have hcpu := hU2.2.2.1 B d huB.1 hd huB.2 h3 hat
      have hhl := hU.2.2.1 B d huB.1 hd huB.2 h3
      have h9 := hU2.1 B huB.1
      -- one LINE behind another
      have go : ∀ pl o6, (∃ p' q, p' < b 0 0 ∧ B 9 p' = 1 ∧ pl = 32 * p' + b 2 d * q ∧ b 2 d * q + b 2 d ≤ b 0 1 ∧ ∀ t, t < b 2 d → B 0 (pl + t) = 0) → aBro b B d p = some (itN (aBr1 b d p pl) (b 2 d) B) → Wq dd_X5_bringDealtAway (mj_mk w l 472 Y) Q 107 [some (.ref (sA i 0)), some (.int (nI d)), some (.int (nI p)), some (.int (nI (b 2 d))), some (.int (nI (8 * d))), some (.int (nI pl)), o6] [] (472, I0, J, R) := by
        intro pl o6 ⟨p', q, g4, g5, g3, g6, g7⟩ hbro
        rw [hbro] at hQ
        have hpp : p' ≠ p := fun z => h9 (by rw [← z]; exact g5)
        have inv : ∀ k, k ≤ b 2 d → (∀ t, k ≤ t → itN (aBr1 b d p pl) k B 3 (8 * d + t) = B 3 (8 * d + t)) ∧ aOK (itN (aBr1 b d p pl) k B) ∧ ∀ t, k ≤ t → t < b 2 d → itN (aBr1 b d p pl) k B 2 (pl + t) = B 2 (pl + t) := by
          intro k
          induction k with
          | zero => intro _; exact ⟨fun t _ => rfl, hokB, fun t _ _ => rfl⟩
          | succ k ih =>
            intro hk2
            obtain ⟨i1, i2, i3⟩ := ih (by omega)
            have e3 := i1 k (Nat.le_refl _)
            have hst : itN (aBr1 b d p pl) (k + 1) B = aBr1 b d p pl k (itN (aBr1 b d p pl) k B) := rfl
            have hpk : (B 3 (8 * d + k) - 1) / 32 = p := hcpu k (by omega)
            rw [hst, br1_e (by rw [e3]; exact hpk)]
            refine ⟨fun t ht => ?_, ?_, fun t ht ht2 => ?_⟩
            · rw [mj_up_ne (by decide)]
              unfold aHolds
              rw [mj_up_ne2 (by omega), sets_g (by decide) (by decide), leaves_g (by decide) (by decide) (by decide)]
              exact i1 t (by omega)
            · refine aOK_up (aOK_holds ?_ (by omega) (by omega)) (fun hx => ?_)
              · unfold aLeaves
                refine aOK_up (aOK_sets i2 ?_ ?_) (fun _ => by decide)
                · split <;> decide
                · split
                  · omega
                  · decide
              · have hq1 := (hokB.2.1 (8 * d + k) (by omega)).1
                exact (i2.1 _ (by rw [e3]; omega)).2.2
            · rw [mj_up_ne2 (by omega), holds_g (by decide) (by decide) (by decide), (leaves_0 (by rw [e3]; omega)).2.2]
              exact i3 t (by omega) ht2
        have loop : ∀ m k I1, k + m = b 2 d → cR I1 i b (itN (aBr1 b d p pl) k B) → mS i I I1 → Wq dd_X5_bringDealtAway (mj_mk w l 472 Y) Q 110 [some (.ref (sA i 0)), some (.int (nI d)), some (.int (nI p)), some (.int (nI (b 2 d))), some (.int (nI (8 * d))), some (.int (nI pl)), some (.int (nI k))] [] (472, I1, J, R) := by
          intro m
          induction m with
          | zero =>
            intro k I1 hkm hr1 hm1
            have hkz : k = b 2 d := by omega
            subst hkz
            refine q_iload (pc' := 112) dX5_bringDealtAway_110 rfl rfl (q_iload_n (pc' := 113) dX5_bringDealtAway_112 rfl rfl (q_icmp_ge (pc' := 116) (pt := 136) dX5_bringDealtAway_113 rfl rfl (fun _ => ?_) (fun h9 => absurd (by (first | assumption | exact nI_le (by omega) (by omega) | exact nI_ge (by omega) (by omega) | exact nI_lt (by omega) (by omega) | exact nI_nlt (by omega) (by omega) | exact nI_ne (by omega) (by omega) (by omega) | exact nI_e (by omega) | decide)) h9)))
            refine q_iconst (bI true) dX5_bringDealtAway_136 rfl rfl ?_
            refine q_zret dX5_bringDealtAway_137 rfl (bI_01 _) (hQ _ _ _ _ ⟨_, rfl, ⟨rfl, rfl⟩, rfl, (fun C hC => by cases hC; exact hr1), hm1⟩)
          | succ m ih =>
            intro k I1 hkm hr1 hm1
            obtain ⟨i1, i2, i3⟩ := inv k (by omega)
            have e3 := i1 k (Nat.le_refl _)
            have e2 := i3 k (Nat.le_refl _) (by omega)
            have hpk : (B 3 (8 * d + k) - 1) / 32 = p := hcpu k (by omega)
            have hp3 := (hU2.2.1 B d k huB.1 hd huB.2 (by omega)).1
            have hnz := hhl k (by omega)
            have pp := hp3 hnz
            have next := fun I2 r2 f2 => ih (k + 1) I2 (by omega) r2 f2
            have hst : itN (aBr1 b d p pl) (k + 1) B = aBr1 b d p pl k (itN (aBr1 b d p pl) k B) := rfl
            rw [hst, br1_e (by rw [e3]; exact hpk)] at next
            generalize itN (aBr1 b d p pl) k B = C at hr1 i2 e3 e2 next
            have t1 : pl + k < 256 := by omega
            have t2 : (pl + k) % 32 < b 0 1 := by rw [g3, show (32 * p' + b 2 d * q + k) % 32 = b 2 d * q + k by omega]; omega
            have hnp : C 2 (pl + k) ≠ 1 := by rw [e2]; exact hU2.2.2.2 B _ huB.1 t1 (g7 k (by omega))
            have hnp2 : aHolds (aLeaves b C (8 * d + k) (C 3 (8 * d + k) - 1)) (8 * d + k) (pl + k) 2 (pl + k) ≠ 1 := by
              rw [holds_g (by decide) (by decide) (by decide), (leaves_0 (by rw [e3]; omega)).2.2]
              exact hnp
            have c2 := (i2.1 (C 3 (8 * d + k) - 1) (by rw [e3]; omega)).2.2
            refine q_iload (pc' := 112) dX5_bringDealtAway_110 rfl rfl (q_iload_n (pc' := 113) dX5_bringDealtAway_112 rfl rfl (q_icmp_ge (pc' := 116) (pt := 136) dX5_bringDealtAway_113 rfl rfl (fun h9 => absurd h9 (by (first | assumption | exact nI_le (by omega) (by omega) | exact nI_ge (by omega) (by omega) | exact nI_lt (by omega) (by omega) | exact nI_nlt (by omega) (by omega) | exact nI_ne (by omega) (by omega) (by omega) | exact nI_e (by omega) | decide))) (fun _ => (q_aload_n (pc' := 117) dX5_bringDealtAway_116 rfl rfl (q_iload (pc' := 119) dX5_bringDealtAway_117 rfl rfl (q_iload (pc' := 121) dX5_bringDealtAway_119 rfl rfl (q_iadd (pc' := 122) dX5_bringDealtAway_121 rfl ?_)))))))
            refine q_top (nI_add _ _) ?_
            refine q_iload (pc' := 124) dX5_bringDealtAway_122 rfl rfl (q_iload (pc' := 126) dX5_bringDealtAway_124 rfl rfl (q_iadd (pc' := 127) dX5_bringDealtAway_126 rfl ?_))
            refine q_top (nI_add _ _) ?_
            refine q_sVv (pc' := 130) dX5_bringDealtAway_127 rfl ml_RX5_239 yv_X5_carry (by decide) (rs_X5_carry hi hS hB (cB_S hm1 hb) hk hr1 i2 (by omega) (by rw [show (8 * d + k) / 8 = d by omega]; exact hd) (by rw [e3]; exact hnz) (by rw [e3]; exact hp3) t1 t2) (okS hi hz (by decide) rfl) rfl rfl (Nat.le_of_ble_eq_true rfl) (Nat.le_refl _) (fun I2 ⟨h2, f2⟩ => ?_)
            refine q_inc_6 (pc' := 133) dX5_bringDealtAway_130 rfl (by decide) rfl (q_goto (pc' := 110) dX5_bringDealtAway_133 rfl ?_)
            refine next I2 ?_ (hm1.tr f2)
            unfold aQend at h2
            by_cases w1 : C 2 (C 3 (8 * d + k) - 1) = 1
            · rw [if_pos w1] at h2
              unfold aPends at h2
              rw [if_neg hnp2] at h2
              rw [w1]
              exact h2
            · rw [if_neg w1] at h2
              rw [show C 2 (C 3 (8 * d + k) - 1) = 0 by omega]
              exact cR_2z hk t1 hnp2 h2
        refine q_iconst (pc' := 108) _ dX5_bringDealtAway_107 rfl kk_iconst_0 (q_ist_6 (pc' := 110) dX5_bringDealtAway_108 rfl (by decide) rfl ?_)
        exact loop (b 2 d) 0 I0 (by omega) hr hm
      have first : ∀ set pl, aDl b B set (b 2 d) = some pl → (aBrTo b B d = aDealt b B (b 2 d) set) → (∃ p' q, p' < b 0 0 ∧ B 9 p' = 1 ∧ pl = 32 * p' + b 2 d * q ∧ b 2 d * q + b 2 d ≤ b 0 1 ∧ ∀ t, t < b 2 d → B 0 (pl + t) = 0) ∧ aBro b B d p = some (itN (aBr1 b d p pl) (b 2 d) B) := by
        intro set pl hdl he
        obtain ⟨p', q, g1, g2, g3, g4, g5, g6, g7⟩ := dl_some hk hs.2.1 hdl
        refine ⟨⟨p', q, g4, g5, g3, g6, g7⟩, ?_⟩
        unfold aBro
        rw [he, g1, Option.map_some, g2, g3]
        rfl
      have nodl : ∀ set, aDl b B set (b 2 d) = none → aDealt b B (b 2 d) set = none := fun set hdl => by
        unfold aDl at hdl
        cases hzz : aDealt b B (b 2 d) set with
        | none => rfl
        | some p => rw [hzz] at hdl; cases hdl
      have h2c : 2 ^ b 0 0 ≤ 2 ^ 8 := Nat.pow_le_pow_right (by decide) h8
      refine q_aload_n (pc' := 42) dX5_bringDealtAway_41 rfl rfl (q_getR (pc' := 45) dX5_bringDealtAway_42 rfl fr_RX5_18 (okS hi hz (by decide) rfl) rfl (wS_5_5 hS) (sA_lt hi (by decide)) (q_iload (pc' := 47) dX5_bringDealtAway_45 rfl rfl (q_ialde (pc' := 48) (8 * d) dX5_bringDealtAway_47 rfl (by first | exact ⟨by omega, rfl⟩ | exact okaS hi hz (by decide) rfl | assumption) (by (first | (simp only [nI_add, pk_mul]; done) | (simp only [nI_add, pk_mul]; exact nI_e (by omega)) | exact nI_e (by omega))) (by omega) hln.1 (q_iload_n (pc' := 49) dX5_bringDealtAway_48 rfl rfl (q_cSi (pc' := 52) dX5_bringDealtAway_49 rfl ml_RX5_174 ys_X5_isAt (by decide) (rn_X5_isAt hok.1 (by omega)) rfl rfl (Nat.le_of_ble_eq_true rfl) (Nat.le_refl _) (q_ifb_ne (pc' := 55) (pt := 57) dX5_bringDealtAway_52 rfl rfl (fun _ => (q_aload_n (pc' := 58) dX5_bringDealtAway_57 rfl rfl (q_getR (pc' := 61) dX5_bringDealtAway_58 rfl fr_RX5_41 (okS hi hz (by decide) rfl) rfl (wS_5_1 hS) (sA_lt hi (by decide)) (q_aload_n (pc' := 62) dX5_bringDealtAway_61 rfl rfl (q_getR (pc' := 65) dX5_bringDealtAway_62 rfl fr_RX5_32 (okS hi hz (by decide) rfl) rfl (wS_5_0 hS) (by decide) (q_getR (pc' := 68) dX5_bringDealtAway_65 rfl fr_RX5_130 (by first | assumption | exact ⟨by omega, rfl⟩) rfl (wB_9 hB) (by omega) (q_iload_n (pc' := 69) dX5_bringDealtAway_68 rfl rfl (q_ialde (pc' := 70) (d) dX5_bringDealtAway_69 rfl (by first | exact ⟨by omega, rfl⟩ | exact okaS hi hz (by decide) rfl | assumption) (by (first | (simp only [nI_add, pk_mul]; done) | (simp only [nI_add, pk_mul]; exact nI_e (by omega)) | exact nI_e (by omega))) (by omega) (hb0.2 d hd).2.2 ?_)))))))) (fun h9 => Bool.noConfusion (Eq.trans (Eq.symm (decide_eq_true hat')) h9))))))))
      refine q_iload_n (pc' := 71) dX5_bringDealtAway_70 rfl rfl (q_cVi (pc' := 74) dX5_bringDealtAway_71 rfl ml_RX5_133 yv_X4_deal (by decide) (rn_X4_deal hi hS hb0 hk hr.1 (by omega) hs.2.1) (okS hi hz (by decide) rfl) rfl rfl (Nat.le_of_ble_eq_true rfl) (Nat.le_refl _) ?_)
      cases hdl : aDl b B (b 3 d) (b 2 d) with
      | some pl =>
        obtain ⟨f1, f2⟩ := first (b 3 d) pl hdl (by
          unfold aBrTo
          obtain ⟨p', q, g1, _⟩ := dl_some hk hs.2.1 hdl
          rw [g1])
        have hlt : pl < 2 ^ 31 := by obtain ⟨p', q, g4, _, g3, g6, _⟩ := f1; omega
        refine q_ist_5 (pc' := 76) dX5_bringDealtAway_74 rfl (by decide) rfl (q_iload (pc' := 78) dX5_bringDealtAway_76 rfl rfl (q_iconst (pc' := 79) _ dX5_bringDealtAway_78 rfl kk_iconst_m1 (q_icmp_ne (pc' := 82) (pt := 99) dX5_bringDealtAway_79 rfl rfl (fun _ => (q_iload (pc' := 101) dX5_bringDealtAway_99 rfl rfl (q_iconst (pc' := 102) _ dX5_bringDealtAway_101 rfl kk_iconst_m1 (q_icmp_ne (pc' := 105) (pt := 107) dX5_bringDealtAway_102 rfl rfl (fun _ => ?_) (fun h9 => absurd h9 (nI_m1 hlt)))))) (fun h9 => absurd h9 (nI_m1 hlt)))))
        exact go pl _ f1 f2
      | none =>
        have e1 := nodl _ hdl
        refine q_ist_5 (pc' := 76) dX5_bringDealtAway_74 rfl (by decide) rfl (q_iload (pc' := 78) dX5_bringDealtAway_76 rfl rfl (q_iconst (pc' := 79) _ dX5_bringDealtAway_78 rfl kk_iconst_m1 (q_icmp_ne (pc' := 82) (pt := 99) dX5_bringDealtAway_79 rfl rfl (fun h9 => absurd (rfl) h9) (fun _ => (q_aload_n (pc' := 83) dX5_bringDealtAway_82 rfl rfl (q_getR (pc' := 86) dX5_bringDealtAway_83 rfl fr_RX5_41 (okS hi hz (by decide) rfl) rfl (wS_5_1 hS) (sA_lt hi (by decide)) (q_aload_n (pc' := 87) dX5_bringDealtAway_86 rfl rfl (q_getR (pc' := 90) dX5_bringDealtAway_87 rfl fr_RX5_32 (okS hi hz (by decide) rfl) rfl (wS_5_0 hS) (by decide) (q_cVi (pc' := 93) dX5_bringDealtAway_90 rfl ml_RX5_159 yv_X0_allCpus (by decide) (rn_X0_allCpus hb0 hk) (by first | assumption | exact ⟨by omega, rfl⟩) rfl rfl (Nat.le_of_ble_eq_true rfl) (Nat.le_refl _) (q_iload_n (pc' := 94) dX5_bringDealtAway_93 rfl rfl (q_cVi (pc' := 97) dX5_bringDealtAway_94 rfl ml_RX5_133 yv_X4_deal (by decide) (rn_X4_deal hi hS hb0 hk hr.1 (by omega) hs.2.1) (okS hi hz (by decide) rfl) rfl rfl (Nat.le_of_ble_eq_true rfl) (Nat.le_refl _) ?_)))))))))))
        cases hdl2 : aDl b B (2 ^ b 0 0 - 1) (b 2 d) with
        | some pl =>
          obtain ⟨f1, f2⟩ := first (2 ^ b 0 0 - 1) pl hdl2 (by unfold aBrTo; rw [e1])
          have hlt : pl < 2 ^ 31 := by obtain ⟨p', q, g4, _, g3, g6, _⟩ := f1; omega
          refine q_ist_5 (pc' := 99) dX5_bringDealtAway_97 rfl (by decide) rfl (q_iload (pc' := 101) dX5_bringDealtAway_99 rfl rfl (q_iconst (pc' := 102) _ dX5_bringDealtAway_101 rfl kk_iconst_m1 (q_icmp_ne (pc' := 105) (pt := 107) dX5_bringDealtAway_102 rfl rfl (fun _ => ?_) (fun h9 => absurd h9 (nI_m1 hlt)))))
          exact go pl _ f1 f2
        | none =>
          have e2 := nodl _ hdl2
          have hbro : aBro b B d p = none := by unfold aBro aBrTo; rw [e1]; show Option.map _ (aDealt b B (b 2 d) (2 ^ b 0 0 - 1)) = none; rw [e2]; rfl
          rw [hbro] at hQ
          refine q_ist_5 (pc' := 99) dX5_bringDealtAway_97 rfl (by decide) rfl (q_iload (pc' := 101) dX5_bringDealtAway_99 rfl rfl (q_iconst (pc' := 102) _ dX5_bringDealtAway_101 rfl kk_iconst_m1 (q_icmp_ne (pc' := 105) (pt := 107) dX5_bringDealtAway_102 rfl rfl (fun h9 => absurd (rfl) h9) (fun _ => ?_))))
          refine q_iconst (bI false) dX5_bringDealtAway_105 rfl rfl ?_
          refine q_zret dX5_bringDealtAway_106 rfl (bI_01 _) (hQ _ _ _ _ ⟨_, rfl, ⟨rfl, rfl⟩, rfl, (fun C hC => by cases hC), hm⟩)
    · rw [if_neg hat] at hQ
      have hat' : ¬ (B 3 (8 * d) ≠ 0 ∧ (B 3 (8 * d) - 1) / 32 = p) := fun z => hat (by rw [at_iff, decide_eq_true_iff]; exact z)
      refine q_aload_n (pc' := 42) dX5_bringDealtAway_41 rfl rfl (q_getR (pc' := 45) dX5_bringDealtAway_42 rfl fr_RX5_18 (okS hi hz (by decide) rfl) rfl (wS_5_5 hS) (sA_lt hi (by decide)) (q_iload (pc' := 47) dX5_bringDealtAway_45 rfl rfl (q_ialde (pc' := 48) (8 * d) dX5_bringDealtAway_47 rfl (by first | exact ⟨by omega, rfl⟩ | exact okaS hi hz (by decide) rfl | assumption) (by (first | (simp only [nI_add, pk_mul]; done) | (simp only [nI_add, pk_mul]; exact nI_e (by omega)) | exact nI_e (by omega))) (by omega) hln.1 (q_iload_n (pc' := 49) dX5_bringDealtAway_48 rfl rfl (q_cSi (pc' := 52) dX5_bringDealtAway_49 rfl ml_RX5_174 ys_X5_isAt (by decide) (rn_X5_isAt hok.1 (by omega)) rfl rfl (Nat.le_of_ble_eq_true rfl) (Nat.le_refl _) (q_ifb_ne (pc' := 55) (pt := 57) dX5_bringDealtAway_52 rfl rfl (fun h9 => Bool.noConfusion (Eq.trans (Eq.symm (decide_eq_false hat')) h9)) (fun _ => ?_)))))))
      refine q_iconst (bI true) dX5_bringDealtAway_55 rfl rfl ?_
      refine q_zret dX5_bringDealtAway_56 rfl (bI_01 _) (hQ _ _ _ _ ⟨_, rfl, ⟨rfl, rfl⟩, rfl, (fun C hC => by cases hC; exact hr), hm⟩)
  have loop : ∀ m k I0, k + m = b 2 d → cR I0 i b (itN (fun k A => aOldL b A (8 * d + k) p) k A) → mS i I I0 → Wq dd_X5_bringDealtAway (mj_mk w l 472 Y) Q 19 [some (.ref (sA i 0)), some (.int (nI d)), some (.int (nI p)), some (.int (nI (b 2 d))), some (.int (nI (8 * d))), some (.int (nI k)), none] [] (472, I0, J, R) := by
    intro m
    induction m with
    | zero =>
      intro k I0 hkm hr hm
      have hkz : k = b 2 d := by omega
      subst hkz
      refine q_iload (pc' := 21) dX5_bringDealtAway_19 rfl rfl (q_iload_n (pc' := 22) dX5_bringDealtAway_21 rfl rfl (q_icmp_ge (pc' := 25) (pt := 41) dX5_bringDealtAway_22 rfl rfl (fun _ => ?_) (fun h9 => absurd (by (first | assumption | exact nI_le (by omega) (by omega) | exact nI_ge (by omega) (by omega) | exact nI_lt (by omega) (by omega) | exact nI_nlt (by omega) (by omega) | exact nI_ne (by omega) (by omega) (by omega) | exact nI_e (by omega) | decide)) h9)))
      exact rest I0 hr hm
    | succ m ih =>
      intro k I0 hkm hr hm
      have hu := u_old hU hd hA h7 k (by omega)
      have next := fun I1 r1 f1 => ih (k + 1) I1 (by omega) r1 f1
      have hst : itN (fun k A => aOldL b A (8 * d + k) p) (k + 1) A = aOldL b (itN (fun k A => aOldL b A (8 * d + k) p) k A) (8 * d + k) p := rfl
      rw [hst] at next
      generalize itN (fun k A => aOldL b A (8 * d + k) p) k A = B at hr hu next
      have c2 := hU2.2.1 B d k hu.1 hd hu.2 (by omega)
      refine q_iload (pc' := 21) dX5_bringDealtAway_19 rfl rfl (q_iload_n (pc' := 22) dX5_bringDealtAway_21 rfl rfl (q_icmp_ge (pc' := 25) (pt := 41) dX5_bringDealtAway_22 rfl rfl (fun h9 => absurd h9 (by (first | assumption | exact nI_le (by omega) (by omega) | exact nI_ge (by omega) (by omega) | exact nI_lt (by omega) (by omega) | exact nI_nlt (by omega) (by omega) | exact nI_ne (by omega) (by omega) (by omega) | exact nI_e (by omega) | decide))) (fun _ => (q_aload_n (pc' := 26) dX5_bringDealtAway_25 rfl rfl (q_iload (pc' := 28) dX5_bringDealtAway_26 rfl rfl (q_iload (pc' := 30) dX5_bringDealtAway_28 rfl rfl (q_iadd (pc' := 31) dX5_bringDealtAway_30 rfl ?_)))))))
      refine q_top (nI_add _ _) ?_
      refine q_iload_n (pc' := 32) dX5_bringDealtAway_31 rfl rfl (q_sVv (pc' := 35) dX5_bringDealtAway_32 rfl ml_RX5_236 yv_X5_bringOldAway (by decide) (rs_X5_bringOldAway hi hS hB (cB_S hm hb) hk hr (hU.1 B hu.1) (by omega) (by rw [show (8 * d + k) / 8 = d by omega]; exact hd) (by omega) (hU.2.1 B d k hu.1 hd hu.2 (by omega)) c2.1 c2.2.1) (okS hi hz (by decide) rfl) rfl rfl (Nat.le_of_ble_eq_true rfl) (Nat.le_refl _) (fun I1 ⟨h1, f1⟩ => ?_))
      refine q_inc_5 (pc' := 38) dX5_bringDealtAway_35 rfl (by decide) rfl (q_goto (pc' := 19) dX5_bringDealtAway_38 rfl ?_)
      exact next I1 h1 (hm.tr f1)
  refine q_aload_n (pc' := 1) dX5_bringDealtAway_0 rfl rfl (q_getR (pc' := 4) dX5_bringDealtAway_1 rfl fr_RX5_32 (okS hi hz (by decide) rfl) rfl (wS_5_0 hS) (by decide) (q_getR (pc' := 7) dX5_bringDealtAway_4 rfl fr_RX5_85 (by first | assumption | exact ⟨by omega, rfl⟩) rfl (wB_8 hB) (by omega) (q_iload_n (pc' := 8) dX5_bringDealtAway_7 rfl rfl (q_ialde (pc' := 9) (d) dX5_bringDealtAway_8 rfl (by first | exact ⟨by omega, rfl⟩ | exact okaS hi hz (by decide) rfl | assumption) (by (first | (simp only [nI_add, pk_mul]; done) | (simp only [nI_add, pk_mul]; exact nI_e (by omega)) | exact nI_e (by omega))) (by omega) (hb.2 d hd).2.1 (q_ist_3 (pc' := 10) dX5_bringDealtAway_9 rfl (by decide) rfl (q_iload_n (pc' := 11) dX5_bringDealtAway_10 rfl rfl (q_bipush (pc' := 13) _ dX5_bringDealtAway_11 rfl kk_bipush_8 (q_imul (pc' := 14) dX5_bringDealtAway_13 rfl ?_))))))))
  refine q_top (y := nI (8 * d)) (by rw [pk_mul, Nat.mul_comm d 8]) ?_
  refine q_ist_4 (pc' := 16) dX5_bringDealtAway_14 rfl (by decide) rfl (q_iconst (pc' := 17) _ dX5_bringDealtAway_16 rfl kk_iconst_0 (q_ist_5 (pc' := 19) dX5_bringDealtAway_17 rfl (by decide) rfl ?_))
  exact loop (b 2 d) 0 I (by omega) h mS.rf
end ST13
