/-! ===== the reference: single orders ===== -/
section M34
variable {w : mj_Wd} {l : Launch} {I : mj_M} {J : mj_J} {R : mj_R} {b A : St} {T : Nat → Nat} {sz t : Nat} {K : Nat → Nat}
theorem rs_X11_doesTicks {m : Nat} (hM : mj_wM R) (hb : mB I b) (hk : bOK b) (hR : rR (I 464) A) (hA : aOK A) (hP : pOK A) (h2 : m ≤ 100) : RsI w l yX11_doesTicks dd_X11_doesTicks [.ref 452, .int (nI m)] (472, I, J, R) (fun x I' => x = nI 0 ∧ rR (I' 464) (aTicks b m A) ∧ mF I I') := by
  refine rt_intro2 (L := [some (.ref 452), some (.int (nI m)), none]) ⟨by decide, rfl, (fun h => by cases h)⟩ (Nat.le_of_ble_eq_true rfl) rfl (fun Y Q hQ => ?_)
  have loop : ∀ x k I0, k + x = m → mF I I0 → rR (I0 464) (aTicks b k A) → Wq dd_X11_doesTicks (mj_mk w l 472 Y) Q 2 [some (.ref 452), some (.int (nI m)), some (.int (nI k))] [] (472, I0, J, R) := by
    intro x
    induction x with
    | zero =>
      intro k I0 hkm hF0 hR0
      have hkz : k = m := by omega
      subst hkz
      exact q_iload_n (pc' := 3) dX11_doesTicks_2 rfl rfl (q_iload_n (pc' := 4) dX11_doesTicks_3 rfl rfl (q_icmp_ge (pc' := 7) (pt := 17) dX11_doesTicks_4 rfl rfl (fun _ => (q_iconst (pc' := 18) _ dX11_doesTicks_17 rfl kk_iconst_0 (q_iret dX11_doesTicks_18 rfl (hQ _ _ _ _ ⟨_, rfl, ⟨rfl, rfl⟩, rfl, hR0, hF0⟩)))) (fun h9 => absurd (by (first | assumption | exact nI_le (by omega) (by omega) | exact nI_ge (by omega) (by omega) | exact nI_lt (by omega) (by omega) | exact nI_nlt (by omega) (by omega) | exact nI_ne (by omega) (by omega) (by omega) | exact nI_e (by omega) | decide)) h9)))
    | succ x ih =>
      intro k I0 hkm hF0 hR0
      have hok := aTicks_ok hk hA hP k
      refine q_iload_n (pc' := 3) dX11_doesTicks_2 rfl rfl (q_iload_n (pc' := 4) dX11_doesTicks_3 rfl rfl (q_icmp_ge (pc' := 7) (pt := 17) dX11_doesTicks_4 rfl rfl (fun h9 => absurd h9 (by (first | assumption | exact nI_le (by omega) (by omega) | exact nI_ge (by omega) (by omega) | exact nI_lt (by omega) (by omega) | exact nI_nlt (by omega) (by omega) | exact nI_ne (by omega) (by omega) (by omega) | exact nI_e (by omega) | decide))) (fun _ => (q_aload_n (pc' := 8) dX11_doesTicks_7 rfl rfl (q_sVv (pc' := 11) dX11_doesTicks_8 rfl ml_RX11_427 yv_X11_ticks (by decide) (rs_X11_ticks hM (mB_F hF0 hb) hk hR0 hok.1 hok.2) ⟨by omega, rfl⟩ rfl rfl (Nat.le_of_ble_eq_true rfl) (Nat.le_refl _) (fun I4 ⟨hF4, hR4⟩ => ?_))))))
      refine q_inc_2 (pc' := 14) dX11_doesTicks_11 rfl (by decide) rfl (q_goto (pc' := 2) dX11_doesTicks_14 rfl ?_)
      exact ih (k + 1) I4 (by omega) (hF0.tr hF4) hR4
  refine q_iconst (pc' := 1) _ dX11_doesTicks_0 rfl kk_iconst_0 (q_ist_2 (pc' := 2) dX11_doesTicks_1 rfl (by decide) rfl ?_)
  exact loop m 0 I (by omega) mF.rf hR
theorem rs_X11_raisesOr {d k : Nat} {late : Bool} (hM : mj_wM R) (hb : mB I b) (hk : bOK b) (hR : rR (I 464) A) (hA : aOK A) (hd : d < b 0 2) (hk8 : k < 8) : RsI w l yX11_raisesOr dd_X11_raisesOr [.ref 452, .int (nI d), .int (nI k), .int (bI late)] (472, I, J, R) (fun x I' => x = nI (if A 7 d = 1 ∧ k < b 2 d then 0 else 4) ∧ rR (I' 464) (if A 7 d = 1 ∧ k < b 2 d then (aRaise A d k late).2 else A) ∧ mF I I') := by
  have h10 := hk.2.2.1
  have hbs := hk.2.2.2 d hd
  refine rt_intro2 (L := [some (.ref 452), some (.int (nI d)), some (.int (nI k)), some (.int (bI late)), none]) ⟨by decide, rfl, (fun h => by cases h)⟩ (Nat.le_of_ble_eq_true rfl) rfl (fun Y Q hQ => ?_)
  by_cases hc : A 7 d = 1 ∧ k < b 2 d
  · have hin : ((A 7 d == 1) && inN (nI k) (b 2 d)) = true := by rw [inN_t (by omega) hc.2, hc.1]; rfl
    rw [if_pos hc, if_pos hc] at hQ
    refine q_aload_n (pc' := 1) dX11_raisesOr_0 rfl rfl (q_iload_n (pc' := 2) dX11_raisesOr_1 rfl rfl (q_iload_n (pc' := 3) dX11_raisesOr_2 rfl rfl (q_cVi (pc' := 6) dX11_raisesOr_3 rfl ml_RX11_378 yv_X11_isLine (by decide) (rn_X11_isLine hM hb hk hR hA hd) ⟨by omega, rfl⟩ rfl rfl (Nat.le_of_ble_eq_true rfl) (Nat.le_refl _) (q_ifb_ne (pc' := 9) (pt := 11) dX11_raisesOr_6 rfl rfl (fun _ => (q_aload_n (pc' := 12) dX11_raisesOr_11 rfl rfl (q_iload_n (pc' := 13) dX11_raisesOr_12 rfl rfl (q_iload_n (pc' := 14) dX11_raisesOr_13 rfl rfl (q_iload_n (pc' := 15) dX11_raisesOr_14 rfl rfl (q_sVi (pc' := 18) dX11_raisesOr_15 rfl ml_RX11_423 yv_X11_raises (by decide) (rs_X11_raises hM hR hA (by omega) hk8) ⟨by omega, rfl⟩ rfl rfl (Nat.le_of_ble_eq_true rfl) (Nat.le_refl _) (fun x2 I2 ⟨t1, t2, t3⟩ => ?_))))))) (fun h9 => Bool.noConfusion (Eq.trans (Eq.symm (hin)) h9))))))
    exact q_ist_4 (pc' := 20) dX11_raisesOr_18 rfl (by decide) rfl (q_iconst (pc' := 21) _ dX11_raisesOr_20 rfl kk_iconst_0 (q_iret dX11_raisesOr_21 rfl (hQ _ _ _ _ ⟨_, rfl, ⟨rfl, rfl⟩, rfl, t2, t3⟩)))
  · have hin : ((A 7 d == 1) && inN (nI k) (b 2 d)) = false := by
      apply Bool.eq_false_iff.mpr
      intro q
      rw [Bool.and_eq_true, beq_iff_eq, inN_iff (by omega)] at q
      obtain ⟨q1, j, q2, q3⟩ := q
      exact hc ⟨q1, by rw [(nI_eq (by omega) (by omega)).mp q3]; exact q2⟩
    rw [if_neg hc, if_neg hc] at hQ
    exact q_aload_n (pc' := 1) dX11_raisesOr_0 rfl rfl (q_iload_n (pc' := 2) dX11_raisesOr_1 rfl rfl (q_iload_n (pc' := 3) dX11_raisesOr_2 rfl rfl (q_cVi (pc' := 6) dX11_raisesOr_3 rfl ml_RX11_378 yv_X11_isLine (by decide) (rn_X11_isLine hM hb hk hR hA hd) ⟨by omega, rfl⟩ rfl rfl (Nat.le_of_ble_eq_true rfl) (Nat.le_refl _) (q_ifb_ne (pc' := 9) (pt := 11) dX11_raisesOr_6 rfl rfl (fun h9 => Bool.noConfusion (Eq.trans (Eq.symm (hin)) h9)) (fun _ => (q_iconst (pc' := 10) _ dX11_raisesOr_9 rfl kk_iconst_4 (q_iret dX11_raisesOr_10 rfl (hQ _ _ _ _ ⟨_, rfl, ⟨rfl, rfl⟩, rfl, hR, mF.rf⟩))))))))
/-- what is read of a board, at its begin -/
theorem rn_X11_begins : Rn w l yX11_begins dd_X11_begins [.ref 452] (472, I, J, R) none (472, mj_up (mj_up (mj_up (mj_up (mj_up (mj_up (mj_up (mj_up I 452 13 (nI 4)) 452 14 (nI 16)) 452 15 (nI 0)) 452 16 (nI 0)) 452 17 (nI 0)) 452 23 (nI 0)) 452 24 (nI 0)) 452 25 (nI 0), J, R) := by
  refine rn_intro2 (L := [some (.ref 452)]) ⟨by decide, rfl, (fun h => by cases h)⟩ (Nat.le_refl _) (Nat.le_of_ble_eq_true rfl) rfl (fun Y Q hQ => ?_)
  refine q_aload_n (pc' := 1) dX11_begins_0 rfl rfl (q_iconst (pc' := 2) _ dX11_begins_1 rfl kk_iconst_4 (q_putI (pc' := 5) dX11_begins_2 rfl fl_RX11_196 ⟨by omega, rfl⟩ rfl (q_aload_n (pc' := 6) dX11_begins_5 rfl rfl (q_bipush (pc' := 8) _ dX11_begins_6 rfl kk_bipush_16 (q_putI (pc' := 11) dX11_begins_8 rfl fl_RX11_199 ⟨by omega, rfl⟩ rfl (q_aload_n (pc' := 12) dX11_begins_11 rfl rfl (q_iconst (pc' := 13) _ dX11_begins_12 rfl kk_iconst_0 (q_putI (pc' := 16) dX11_begins_13 rfl fl_RX11_202 ⟨by omega, rfl⟩ rfl (q_aload_n (pc' := 17) dX11_begins_16 rfl rfl (q_iconst (pc' := 18) _ dX11_begins_17 rfl kk_iconst_0 (q_putI (pc' := 21) dX11_begins_18 rfl fl_RX11_205 ⟨by omega, rfl⟩ rfl (q_aload_n (pc' := 22) dX11_begins_21 rfl rfl (q_iconst (pc' := 23) _ dX11_begins_22 rfl kk_iconst_0 ?_)))))))))))))
  exact q_putI (pc' := 26) dX11_begins_23 rfl fl_RX11_208 ⟨by omega, rfl⟩ rfl (q_aload_n (pc' := 27) dX11_begins_26 rfl rfl (q_iconst (pc' := 28) _ dX11_begins_27 rfl kk_iconst_0 (q_putZ (pc' := 31) dX11_begins_28 rfl fl_RX11_211 ⟨by omega, rfl⟩ rfl (by first | exact Or.inl rfl | exact Or.inr rfl | exact bI_01 _) (q_aload_n (pc' := 32) dX11_begins_31 rfl rfl (q_iconst (pc' := 33) _ dX11_begins_32 rfl kk_iconst_0 (q_putZ (pc' := 36) dX11_begins_33 rfl fl_RX11_215 ⟨by omega, rfl⟩ rfl (by first | exact Or.inl rfl | exact Or.inr rfl | exact bI_01 _) (q_aload_n (pc' := 37) dX11_begins_36 rfl rfl (q_iconst (pc' := 38) _ dX11_begins_37 rfl kk_iconst_0 (q_putZ (pc' := 41) dX11_begins_38 rfl fl_RX11_218 ⟨by omega, rfl⟩ rfl (by first | exact Or.inl rfl | exact Or.inr rfl | exact bI_01 _) (q_vret dX11_begins_41 rfl hQ))))))))))
end M34
