/-! ===== the class itself: alike, image, back, about ===== -/
section VD4
variable {w : mj_Wd} {l : Launch} {I : mj_M} {J : mj_J} {R : mj_R} {b A B : St} {ps : Nat → St} {n u c s t : Nat} {T : Nat → Nat}
theorem rn_X0_beginsLike {d e g : Nat} (hB : mj_wB R 4) (hN : bNm b) (hk : bOK b) (hn : cN I J b) (hd : d < b 0 2) (he : e < b 0 2) (h1 : 1 ≤ g) (h7 : g ≤ 7) : Rn w l yX0_beginsLike dd_X0_beginsLike [.ref 4, .int (nI d), .int (nI e), .int (nI g)] (472, I, J, R) (some (.int (bI (aAlk b d e (min g (b 4 e)))))) (472, I, J, R) := by
  have h10 := hk.2.2.1
  obtain ⟨d1, f, d2, d3, d4⟩ := hn d hd
  obtain ⟨e1, q, e2, e3, e4⟩ := hn e he
  have n1 := hN d hd
  have n2 := hN e he
  have hm : min g (b 4 e) ≤ b 4 e := Nat.min_le_right _ _
  have hm1 : 1 ≤ min g (b 4 e) := by omega
  have hf35 := wP_lt (T := f) (a := 0) (n := b 4 d) (fun k hk => (d2 k hk).2)
  have hq35 := wP_lt (T := q) (a := 0) (n := b 4 e) (fun k hk => (e2 k hk).2)
  have hal := alk_e (f := f) (g := q) n1.1.2 n2.1.2 hm1 hm d2 e2
  refine rn_intro2 (L := [some (.ref 4), some (.int (nI d)), some (.int (nI e)), some (.int (nI g)), none, none]) ⟨by decide, rfl, (fun h => by cases h)⟩ (Nat.le_refl _) (Nat.le_of_ble_eq_true rfl) rfl (fun Y Q hQ => ?_)
  refine q_iload_n (pc' := 1) dX0_beginsLike_0 rfl rfl (q_aload_n (pc' := 2) dX0_beginsLike_1 rfl rfl (q_getR (pc' := 5) dX0_beginsLike_2 rfl fr_RX0_15 (by first | assumption | exact ⟨by omega, rfl⟩) rfl (wB_6 hB) (by omega) (q_iload_n (pc' := 6) dX0_beginsLike_5 rfl rfl (q_ialde (pc' := 7) (e) dX0_beginsLike_6 rfl (by first | exact ⟨by omega, rfl⟩ | exact okaS hi hz (by decide) rfl | assumption) (by (first | (simp only [nI_add, pk_mul]; done) | (simp only [nI_add, pk_mul]; exact nI_e (by omega)) | exact nI_e (by omega))) (by omega) e1 (q_cSi (pc' := 10) dX0_beginsLike_7 rfl ml_RX0_57 ys_J9_min_7cf53 (by decide) (rn_min (by omega) (by omega)) rfl rfl (Nat.le_of_ble_eq_true rfl) (Nat.le_refl _) (q_ist_4 (pc' := 12) dX0_beginsLike_10 rfl (by decide) rfl (q_iconst (pc' := 13) _ dX0_beginsLike_12 rfl kk_iconst_5 (q_bipush (pc' := 15) _ dX0_beginsLike_13 rfl kk_bipush_7 (q_iload (pc' := 17) dX0_beginsLike_15 rfl rfl (q_isub (pc' := 18) dX0_beginsLike_17 rfl ?_))))))))))
  refine q_top (nI_sb (x := 7) (by omega)) ?_
  refine q_imul (pc' := 19) dX0_beginsLike_18 rfl ?_
  refine q_top (pk_mul 5 _) ?_
  refine q_ist_5 (pc' := 21) dX0_beginsLike_19 rfl (by decide) rfl (q_aload_n (pc' := 22) dX0_beginsLike_21 rfl rfl (q_getR (pc' := 25) dX0_beginsLike_22 rfl fr_RX0_9 (by first | assumption | exact ⟨by omega, rfl⟩) rfl (wB_5 hB) (by omega) (q_iload_n (pc' := 26) dX0_beginsLike_25 rfl rfl (q_lalde (pc' := 27) (d) dX0_beginsLike_26 rfl (by first | exact ⟨by omega, rfl⟩ | exact okaS hi hz (by decide) rfl | assumption) (by (first | (simp only [nI_add, pk_mul]; done) | (simp only [nI_add, pk_mul]; exact nI_e (by omega)) | exact nI_e (by omega))) (by omega) d4 (q_iload (pc' := 29) dX0_beginsLike_27 rfl rfl (q_lushr (pc' := 30) dX0_beginsLike_29 rfl ?_))))))
  rw [nJ_ushr (by omega) (by omega)]
  refine q_aload_n (pc' := 31) dX0_beginsLike_30 rfl rfl (q_getR (pc' := 34) dX0_beginsLike_31 rfl fr_RX0_9 (by first | assumption | exact ⟨by omega, rfl⟩) rfl (wB_5 hB) (by omega) (q_iload_n (pc' := 35) dX0_beginsLike_34 rfl rfl (q_lalde (pc' := 36) (e) dX0_beginsLike_35 rfl (by first | exact ⟨by omega, rfl⟩ | exact okaS hi hz (by decide) rfl | assumption) (by (first | (simp only [nI_add, pk_mul]; done) | (simp only [nI_add, pk_mul]; exact nI_e (by omega)) | exact nI_e (by omega))) (by omega) e4 (q_iload (pc' := 38) dX0_beginsLike_36 rfl rfl (q_lushr (pc' := 39) dX0_beginsLike_38 rfl ?_)))))
  rw [nJ_ushr (by omega) (by omega)]
  have q1 := Nat.div_le_self (wP f 0 (b 4 d)) (2 ^ (5 * (7 - min g (b 4 e))))
  have q2 := Nat.div_le_self (wP q 0 (b 4 e)) (2 ^ (5 * (7 - min g (b 4 e))))
  have ea : aAlk b d e (min g (b 4 e)) = decide (wP f 0 (b 4 d) / 2 ^ (5 * (7 - min g (b 4 e))) = wP q 0 (b 4 e) / 2 ^ (5 * (7 - min g (b 4 e)))) := by
    unfold aAlk
    rw [d3, e3, ← Bool.decide_and, decide_eq_decide]
    exact hal.symm
  rw [ea] at hQ
  by_cases h2 : wP f 0 (b 4 d) / 2 ^ (5 * (7 - min g (b 4 e))) = wP q 0 (b 4 e) / 2 ^ (5 * (7 - min g (b 4 e)))
  · rw [decide_eq_true h2] at hQ
    exact q_lcmp (pc' := 40) dX0_beginsLike_39 rfl (q_if_ne (pc' := 43) (pt := 47) dX0_beginsLike_40 rfl rfl (fun h9 => absurd ((lg_cmp_eq _ _).mpr ((nJ_eq (by omega) (by omega)).mpr h2)) h9) (fun _ => (q_iconst (pc' := 44) _ dX0_beginsLike_43 rfl kk_iconst_1 (q_goto (pc' := 48) dX0_beginsLike_44 rfl (q_zret dX0_beginsLike_48 rfl (by first | exact Or.inl rfl | exact Or.inr rfl | exact bI_01 _) hQ)))))
  · rw [decide_eq_false h2] at hQ
    exact q_lcmp (pc' := 40) dX0_beginsLike_39 rfl (q_if_ne (pc' := 43) (pt := 47) dX0_beginsLike_40 rfl rfl (fun _ => (q_iconst (pc' := 48) _ dX0_beginsLike_47 rfl kk_iconst_0 (q_zret dX0_beginsLike_48 rfl (by first | exact Or.inl rfl | exact Or.inr rfl | exact bI_01 _) hQ))) (fun h9 => absurd h9 (fun z => h2 ((nJ_eq (by omega) (by omega)).mp ((lg_cmp_eq _ _).mp z)))))
theorem rn_X10_alike0 {x y : Int32} (hW : wSt R) (hb : cB I b) (hk : bOK b) (hx : (inN x (b 0 2) && decide (nI 1 ≤ y ∧ y ≤ nI 7)) = false) : Rn w l yX10_alike dd_X10_alike [.ref 0, .int x, .int y] (472, I, J, R) (some (.int (-1))) (472, I, J, R) := by
  have hV := hW.1
  refine rn_intro2 (L := [some (.ref 0), some (.int x), some (.int y), none, none, none]) ⟨by decide, rfl, (fun h => by cases h)⟩ (Nat.le_refl _) (Nat.le_of_ble_eq_true rfl) rfl (fun Y Q hQ => ?_)
  by_cases h1 : inN x (b 0 2) = true
  · rw [h1, Bool.true_and, decide_eq_false_iff_not] at hx
    by_cases h2 : y < nI 1
    · exact q_aload_n (pc' := 1) dX10_alike_0 rfl rfl (q_getR (pc' := 4) dX10_alike_1 rfl fr_RX10_26 ⟨by omega, rfl⟩ rfl (wV_10_3 hV) (by decide) (q_iload_n (pc' := 5) dX10_alike_4 rfl rfl (q_cVi (pc' := 8) dX10_alike_5 rfl ml_RX10_184 yv_X0_hasDevice (by decide) (rn_X0_hasDevice hb hk) (by first | assumption | exact ⟨by omega, rfl⟩) rfl rfl (Nat.le_of_ble_eq_true rfl) (Nat.le_refl _) (q_ifb_eq (pc' := 11) (pt := 22) dX10_alike_8 rfl rfl (fun h9 => Bool.noConfusion (Eq.trans (Eq.symm (h1)) h9)) (fun _ => (q_iload_n (pc' := 12) dX10_alike_11 rfl rfl (q_iconst (pc' := 13) _ dX10_alike_12 rfl kk_iconst_1 (q_icmp_lt (pc' := 16) (pt := 22) dX10_alike_13 rfl rfl (fun _ => (q_iconst (pc' := 23) _ dX10_alike_22 rfl kk_iconst_m1 (q_iret dX10_alike_23 rfl hQ))) (fun h9 => absurd (h2) h9)))))))))
    · exact q_aload_n (pc' := 1) dX10_alike_0 rfl rfl (q_getR (pc' := 4) dX10_alike_1 rfl fr_RX10_26 ⟨by omega, rfl⟩ rfl (wV_10_3 hV) (by decide) (q_iload_n (pc' := 5) dX10_alike_4 rfl rfl (q_cVi (pc' := 8) dX10_alike_5 rfl ml_RX10_184 yv_X0_hasDevice (by decide) (rn_X0_hasDevice hb hk) (by first | assumption | exact ⟨by omega, rfl⟩) rfl rfl (Nat.le_of_ble_eq_true rfl) (Nat.le_refl _) (q_ifb_eq (pc' := 11) (pt := 22) dX10_alike_8 rfl rfl (fun h9 => Bool.noConfusion (Eq.trans (Eq.symm (h1)) h9)) (fun _ => (q_iload_n (pc' := 12) dX10_alike_11 rfl rfl (q_iconst (pc' := 13) _ dX10_alike_12 rfl kk_iconst_1 (q_icmp_lt (pc' := 16) (pt := 22) dX10_alike_13 rfl rfl (fun h9 => absurd h9 (h2)) (fun _ => (q_iload_n (pc' := 17) dX10_alike_16 rfl rfl (q_bipush (pc' := 19) _ dX10_alike_17 rfl kk_bipush_7 (q_icmp_le (pc' := 22) (pt := 24) dX10_alike_19 rfl rfl (fun h9 => absurd h9 (fun q => hx ⟨Int32.not_lt.mp h2, q⟩)) (fun _ => (q_iconst (pc' := 23) _ dX10_alike_22 rfl kk_iconst_m1 (q_iret dX10_alike_23 rfl hQ)))))))))))))))
  · have h1 := Bool.eq_false_iff.mpr h1
    exact q_aload_n (pc' := 1) dX10_alike_0 rfl rfl (q_getR (pc' := 4) dX10_alike_1 rfl fr_RX10_26 ⟨by omega, rfl⟩ rfl (wV_10_3 hV) (by decide) (q_iload_n (pc' := 5) dX10_alike_4 rfl rfl (q_cVi (pc' := 8) dX10_alike_5 rfl ml_RX10_184 yv_X0_hasDevice (by decide) (rn_X0_hasDevice hb hk) (by first | assumption | exact ⟨by omega, rfl⟩) rfl rfl (Nat.le_of_ble_eq_true rfl) (Nat.le_refl _) (q_ifb_eq (pc' := 11) (pt := 22) dX10_alike_8 rfl rfl (fun _ => (q_iconst (pc' := 23) _ dX10_alike_22 rfl kk_iconst_m1 (q_iret dX10_alike_23 rfl hQ))) (fun h9 => Bool.noConfusion (Eq.trans (Eq.symm (h1)) h9))))))
theorem rn_X10_alike {e g : Nat} (hW : wSt R) (hb : cB I b) (hR : bRd b) (hn : cN I J b) (hc : c < 18) (hn0 : R 28 0 = sA c 0) (h : cR I c b A) (hN : gN b A) (hL : A 14 4 < 2 ^ 31) (he : e < b 0 2) (h1 : 1 ≤ g) (h7 : g ≤ 7) : Rn w l yX10_alike dd_X10_alike [.ref 0, .int (nI e), .int (nI g)] (472, I, J, R) (some (.int (nI (qAlike b A e g)))) (472, I, J, R) := by
  have hk := hR.1
  have hV := hW.1
  have hB := hW.2.1
  have hi : c < 21 := by omega
  have hz : 50 + 20 * c ≤ 472 := by omega
  have hS := hW.2.2.2 c hi
  have h10 := hk.2.2.1
  have hin : inN (nI e) (b 0 2) = true := inN_t (by omega) he
  refine rn_intro2 (L := [some (.ref 0), some (.int (nI e)), some (.int (nI g)), none, none, none]) ⟨by decide, rfl, (fun h => by cases h)⟩ (Nat.le_refl _) (Nat.le_of_ble_eq_true rfl) rfl (fun Y Q hQ => ?_)
  refine q_aload_n (pc' := 1) dX10_alike_0 rfl rfl (q_getR (pc' := 4) dX10_alike_1 rfl fr_RX10_26 ⟨by omega, rfl⟩ rfl (wV_10_3 hV) (by decide) (q_iload_n (pc' := 5) dX10_alike_4 rfl rfl (q_cVi (pc' := 8) dX10_alike_5 rfl ml_RX10_184 yv_X0_hasDevice (by decide) (rn_X0_hasDevice hb hk) (by first | assumption | exact ⟨by omega, rfl⟩) rfl rfl (Nat.le_of_ble_eq_true rfl) (Nat.le_refl _) (q_ifb_eq (pc' := 11) (pt := 22) dX10_alike_8 rfl rfl (fun h9 => Bool.noConfusion (Eq.trans (Eq.symm (hin)) h9)) (fun _ => (q_iload_n (pc' := 12) dX10_alike_11 rfl rfl (q_iconst (pc' := 13) _ dX10_alike_12 rfl kk_iconst_1 (q_icmp_lt (pc' := 16) (pt := 22) dX10_alike_13 rfl rfl (fun h9 => absurd h9 (nI_nlt (by omega) (by omega))) (fun _ => (q_iload_n (pc' := 17) dX10_alike_16 rfl rfl (q_bipush (pc' := 19) _ dX10_alike_17 rfl kk_bipush_7 (q_icmp_le (pc' := 22) (pt := 24) dX10_alike_19 rfl rfl (fun _ => (q_aload_n (pc' := 25) dX10_alike_24 rfl rfl (q_getR (pc' := 28) dX10_alike_25 rfl fr_RX10_62 ⟨by omega, rfl⟩ rfl (wV_10_6 hV) (by decide) (q_getR (pc' := 31) dX10_alike_28 rfl fr_RX10_109 ⟨by omega, rfl⟩ rfl (hn0) (sA_lt hi (by decide)) ?_)))) (fun h9 => absurd (nI_le (by omega) (by omega)) h9)))))))))))))
  refine q_getR (pc' := 34) dX10_alike_31 rfl fr_RX10_234 (okS hi hz (by decide) rfl) rfl (wS_5_2 hS) (sA_lt hi (by decide)) (q_ast_3 (pc' := 35) dX10_alike_34 rfl (by decide) rfl (q_iconst (pc' := 36) _ dX10_alike_35 rfl kk_iconst_0 (q_ist_4 (pc' := 38) dX10_alike_36 rfl (by decide) rfl (q_iconst (pc' := 39) _ dX10_alike_38 rfl kk_iconst_0 (q_ist_5 (pc' := 41) dX10_alike_39 rfl (by decide) rfl ?_)))))
  have loop : ∀ m k, k + m = (min (A 14 4) 40) → Wq dd_X10_alike (mj_mk w l 472 Y) Q 41 [some (.ref 0), some (.int (nI e)), some (.int (nI g)), some (.ref (sA c 1)), some (.int (nI (cntN (fun k => aAlk b (eG (A 15 (A 14 4 - 1 - k)) 0) e (min g (b 4 e))) k))), some (.int (nI k))] [] (472, I, J, R) := by
    intro m
    induction m with
    | zero =>
      intro k hkm
      have hkz : k = (min (A 14 4) 40) := by omega
      subst hkz
      exact q_iload (pc' := 43) dX10_alike_41 rfl rfl (q_aload_n (pc' := 44) dX10_alike_43 rfl rfl (q_cVi (pc' := 47) dX10_alike_44 rfl ml_RX10_342 yv_X8_kept (by decide) (rn_X8_kept hi h.2.1 hL) (okS hi hz (by decide) rfl) rfl rfl (Nat.le_of_ble_eq_true rfl) (Nat.le_refl _) (q_icmp_ge (pc' := 50) (pt := 80) dX10_alike_47 rfl rfl (fun _ => (q_iload (pc' := 82) dX10_alike_80 rfl rfl (q_iret dX10_alike_82 rfl hQ))) (fun h9 => absurd (by (first | assumption | exact nI_le (by omega) (by omega) | exact nI_ge (by omega) (by omega) | exact nI_lt (by omega) (by omega) | exact nI_nlt (by omega) (by omega) | exact nI_ne (by omega) (by omega) (by omega) | exact nI_e (by omega) | decide)) h9))))
    | succ m ih =>
      intro k hkm
      have hE := hN.2.2.2 (A 14 4 - 1 - k) (by omega)
      have hcn := nI_cnt (fun k => aAlk b (eG (A 15 (A 14 4 - 1 - k)) 0) e (min g (b 4 e))) k
      refine q_iload (pc' := 43) dX10_alike_41 rfl rfl (q_aload_n (pc' := 44) dX10_alike_43 rfl rfl (q_cVi (pc' := 47) dX10_alike_44 rfl ml_RX10_342 yv_X8_kept (by decide) (rn_X8_kept hi h.2.1 hL) (okS hi hz (by decide) rfl) rfl rfl (Nat.le_of_ble_eq_true rfl) (Nat.le_refl _) (q_icmp_ge (pc' := 50) (pt := 80) dX10_alike_47 rfl rfl (fun h9 => absurd h9 (by (first | assumption | exact nI_le (by omega) (by omega) | exact nI_ge (by omega) (by omega) | exact nI_lt (by omega) (by omega) | exact nI_nlt (by omega) (by omega) | exact nI_ne (by omega) (by omega) (by omega) | exact nI_e (by omega) | decide))) (fun _ => (q_aload_n (pc' := 51) dX10_alike_50 rfl rfl (q_getR (pc' := 54) dX10_alike_51 rfl fr_RX10_26 ⟨by omega, rfl⟩ rfl (wV_10_3 hV) (by decide) (q_aload_n (pc' := 55) dX10_alike_54 rfl rfl (q_iload (pc' := 57) dX10_alike_55 rfl rfl (q_cVi (pc' := 60) dX10_alike_57 rfl ml_RX10_345 yv_X8_latestId (by decide) (rn_X8_latestId hi hS h.2.1 hL (by omega) (by omega)) (okS hi hz (by decide) rfl) rfl rfl (Nat.le_of_ble_eq_true rfl) (Nat.le_refl _) (q_bipush (pc' := 62) _ dX10_alike_60 rfl kk_bipush_8 (q_idiv (pc' := 63) dX10_alike_62 rfl (by decide) ?_)))))))))))
      refine q_top (y := nI (eG (A 15 (A 14 4 - 1 - k)) 0)) (d8I _ (by omega)) ?_
      cases ha : aAlk b (eG (A 15 (A 14 4 - 1 - k)) 0) e (min g (b 4 e)) with
      | true =>
        have hcn2 : nI (cntN (fun k => aAlk b (eG (A 15 (A 14 4 - 1 - k)) 0) e (min g (b 4 e))) k) + Int32.ofInt 1 = nI (cntN (fun k => aAlk b (eG (A 15 (A 14 4 - 1 - k)) 0) e (min g (b 4 e))) (k + 1)) := by
          rw [← hcn]
          show _ = _ + bI (aAlk b (eG (A 15 (A 14 4 - 1 - k)) 0) e (min g (b 4 e)))
          rw [ha]
          rfl
        refine q_iload_n (pc' := 64) dX10_alike_63 rfl rfl (q_iload_n (pc' := 65) dX10_alike_64 rfl rfl (q_cVi (pc' := 68) dX10_alike_65 rfl ml_RX10_354 yv_X0_beginsLike (by decide) (rn_X0_beginsLike hB hR.2.1 hk hn (show eG (A 15 (A 14 4 - 1 - k)) 0 < b 0 2 by show A 15 (A 14 4 - 1 - k) / 512 / 8 < b 0 2; omega) he h1 h7) (by first | assumption | exact ⟨by omega, rfl⟩) rfl rfl (Nat.le_of_ble_eq_true rfl) (Nat.le_refl _) (q_ifb_eq (pc' := 71) (pt := 74) dX10_alike_68 rfl rfl (fun h9 => Bool.noConfusion (Eq.trans (Eq.symm (ha)) h9)) (fun _ => ?_))))
        refine q_iinc_4 (pc' := 74) _ dX10_alike_71 rfl (by decide) rfl hcn2 (q_inc_5 (pc' := 77) dX10_alike_74 rfl (by decide) rfl (q_goto (pc' := 41) dX10_alike_77 rfl ?_))
        exact ih (k + 1) (by omega)
      | false =>
        have hcn2 : nI (cntN (fun k => aAlk b (eG (A 15 (A 14 4 - 1 - k)) 0) e (min g (b 4 e))) k) = nI (cntN (fun k => aAlk b (eG (A 15 (A 14 4 - 1 - k)) 0) e (min g (b 4 e))) (k + 1)) := by
          rw [← hcn]
          show _ = _ + bI (aAlk b (eG (A 15 (A 14 4 - 1 - k)) 0) e (min g (b 4 e)))
          rw [ha]
          exact (Int32.add_zero _).symm
        refine q_iload_n (pc' := 64) dX10_alike_63 rfl rfl (q_iload_n (pc' := 65) dX10_alike_64 rfl rfl (q_cVi (pc' := 68) dX10_alike_65 rfl ml_RX10_354 yv_X0_beginsLike (by decide) (rn_X0_beginsLike hB hR.2.1 hk hn (show eG (A 15 (A 14 4 - 1 - k)) 0 < b 0 2 by show A 15 (A 14 4 - 1 - k) / 512 / 8 < b 0 2; omega) he h1 h7) (by first | assumption | exact ⟨by omega, rfl⟩) rfl rfl (Nat.le_of_ble_eq_true rfl) (Nat.le_refl _) (q_ifb_eq (pc' := 71) (pt := 74) dX10_alike_68 rfl rfl (fun _ => ?_) (fun h9 => Bool.noConfusion (Eq.trans (Eq.symm (ha)) h9)))))
        rw [hcn2]
        refine q_inc_5 (pc' := 77) dX10_alike_74 rfl (by decide) rfl (q_goto (pc' := 41) dX10_alike_77 rfl ?_)
        exact ih (k + 1) (by omega)
  exact loop (min (A 14 4) 40) 0 (by omega)
theorem rn_X10_image0 {x : Int32} (hx : inN x 2 = false) : Rn w l yX10_image dd_X10_image [.ref 0, .int x] (472, I, J, R) (some (.int (-1))) (472, I, J, R) := by
  refine rn_intro2 (L := [some (.ref 0), some (.int x)]) ⟨by decide, rfl, (fun h => by cases h)⟩ (Nat.le_refl _) (Nat.le_of_ble_eq_true rfl) rfl (fun Y Q hQ => ?_)
  by_cases h2 : x < 0
  · exact q_iload_n (pc' := 1) dX10_image_0 rfl rfl (q_if_lt (pc' := 4) (pt := 9) dX10_image_1 rfl rfl (fun _ => (q_iconst (pc' := 10) _ dX10_image_9 rfl kk_iconst_m1 (q_iret dX10_image_10 rfl hQ))) (fun h9 => absurd (h2) h9))
  · have h3 : ¬ x < nI 2 := fun q => by
      rw [(inN_cmp (by decide)).mpr ⟨h2, Int32.not_le.mpr q⟩] at hx
      cases hx
    exact q_iload_n (pc' := 1) dX10_image_0 rfl rfl (q_if_lt (pc' := 4) (pt := 9) dX10_image_1 rfl rfl (fun h9 => absurd h9 (h2)) (fun _ => (q_iload_n (pc' := 5) dX10_image_4 rfl rfl (q_iconst (pc' := 6) _ dX10_image_5 rfl kk_iconst_2 (q_icmp_lt (pc' := 9) (pt := 11) dX10_image_6 rfl rfl (fun h9 => absurd h9 (h3)) (fun _ => (q_iconst (pc' := 10) _ dX10_image_9 rfl kk_iconst_m1 (q_iret dX10_image_10 rfl hQ))))))))
theorem box_r (hV : mj_wV R) {j : Nat} (hj : j < 2) : R 2 j = sA (19 + j) 0 := by
  have hc : j = 0 ∨ j = 1 := by omega
  rcases hc with rfl | rfl
  · exact wV_box_0 hV
  · exact wV_box_1 hV
theorem rs_X10_image {j : Nat} (hW : wSt R) (hb : cB I b) (hk : bOK b) (hc : c < 18) (hn0 : R 28 0 = sA c 0) (h : cR I c b A) (h01 : ∀ k, k < 80 → A 5 k ≤ 1 ∧ A 6 k ≤ 1) (hj : j < 2) : RsI w l yX10_image dd_X10_image [.ref 0, .int (nI j)] (472, I, J, R) (fun x I' => x = nI (aHeld b A) ∧ cR I' (19 + j) b A ∧ I' 3 j = bI true ∧ (∀ q, q ≠ j → I' 3 q = I 3 q) ∧ ∀ a, a ≠ 3 → (∀ e, e < 20 → a ≠ sA (19 + j) e) → I' a = I a) := by
  have hV := hW.1
  have hi : 19 + j < 21 := by omega
  have hz : 50 + 20 * (19 + j) ≤ 472 := by omega
  have hS := hW.2.2.2 (19 + j) hi
  have hi2 : c < 21 := by omega
  have hz2 : 50 + 20 * c ≤ 472 := by omega
  have hS2 := hW.2.2.2 c hi2
  refine rt_intro2 (L := [some (.ref 0), some (.int (nI j))]) ⟨by decide, rfl, (fun h => by cases h)⟩ (Nat.le_of_ble_eq_true rfl) rfl (fun Y Q hQ => ?_)
  refine q_iload_n (pc' := 1) dX10_image_0 rfl rfl (q_if_lt (pc' := 4) (pt := 9) dX10_image_1 rfl rfl (fun h9 => absurd h9 (Int32.not_lt.mpr (nI_le (a := 0) (by omega) (by omega)))) (fun _ => (q_iload_n (pc' := 5) dX10_image_4 rfl rfl (q_iconst (pc' := 6) _ dX10_image_5 rfl kk_iconst_2 (q_icmp_lt (pc' := 9) (pt := 11) dX10_image_6 rfl rfl (fun _ => (q_aload_n (pc' := 12) dX10_image_11 rfl rfl (q_getR (pc' := 15) dX10_image_12 rfl fr_RX10_15 ⟨by omega, rfl⟩ rfl (wV_10_8 hV) (by decide) (q_iload_n (pc' := 16) dX10_image_15 rfl rfl (q_aald (pc' := 17) (j) dX10_image_16 rfl (by first | exact ⟨by omega, rfl⟩ | exact okaS hi hz (by decide) rfl | assumption) (by first | exact Or.inl rfl | exact Or.inr rfl) (by (first | (simp only [nI_add, pk_mul]; done) | (simp only [nI_add, pk_mul]; exact nI_e (by omega)) | exact nI_e (by omega))) (by omega) (box_r hV hj) (sA_lt hi (by decide)) (q_aload_n (pc' := 18) dX10_image_17 rfl rfl (q_getR (pc' := 21) dX10_image_18 rfl fr_RX10_62 ⟨by omega, rfl⟩ rfl (wV_10_6 hV) (by decide) (q_getR (pc' := 24) dX10_image_21 rfl fr_RX10_109 ⟨by omega, rfl⟩ rfl (hn0) (sA_lt hi2 (by decide)) (q_sVv (pc' := 27) dX10_image_24 rfl ml_RX10_132 yv_X5_copyFrom (by decide) (rs_X5_copyFrom hi hi2 (by omega) hS hS2 h h01) (okS hi hz (by decide) rfl) rfl rfl (Nat.le_of_ble_eq_true rfl) (Nat.le_refl _) (fun I1 ⟨r1, f1⟩ => ?_)))))))))) (fun h9 => absurd (nI_lt (by omega) (by decide)) h9))))))
  have hr : cR (mj_up I1 3 j (bI true)) c b A := cR_F (fun e he => (up_fI (by unfold sA; omega)).trans (mS_o f1 (by omega) he)) h
  have hb2 : cB (mj_up I1 3 j (bI true)) b := by
    have h1 := cB_S f1 hb
    unfold cB at h1 ⊢
    rw [up_fI (show (4:Nat) ≠ 3 by decide), up_fI (show (7:Nat) ≠ 3 by decide), up_fI (show (8:Nat) ≠ 3 by decide), up_fI (show (9:Nat) ≠ 3 by decide)]
    exact h1
  have hi := hi2
  have hz := hz2
  have hS := hS2
  have f3 : I1 3 = I 3 := f1 3 (fun e he => by unfold sA; omega)
  refine q_aload_n (pc' := 28) dX10_image_27 rfl rfl (q_getR (pc' := 31) dX10_image_28 rfl fr_RX10_19 ⟨by omega, rfl⟩ rfl (wV_10_9 hV) (by decide) (q_iload_n (pc' := 32) dX10_image_31 rfl rfl (q_iconst (pc' := 33) _ dX10_image_32 rfl kk_iconst_1 (q_zast (pc' := 34) (j) dX10_image_33 rfl (by first | exact ⟨by omega, rfl⟩ | exact okaS hi hz (by decide) rfl | assumption) (by (first | (simp only [nI_add, pk_mul]; done) | (simp only [nI_add, pk_mul]; exact nI_e (by omega)) | exact nI_e (by omega))) (by omega) (Or.inr rfl) (q_aload_n (pc' := 35) dX10_image_34 rfl rfl (q_getR (pc' := 38) dX10_image_35 rfl fr_RX10_74 ⟨by omega, rfl⟩ rfl (wV_10_10 hV) (by decide) (q_aload_n (pc' := 39) dX10_image_38 rfl rfl (q_getR (pc' := 42) dX10_image_39 rfl fr_RX10_62 ⟨by omega, rfl⟩ rfl (wV_10_6 hV) (by decide) (q_getR (pc' := 45) dX10_image_42 rfl fr_RX10_109 ⟨by omega, rfl⟩ rfl (hn0) (sA_lt hi (by decide)) (q_getR (pc' := 48) dX10_image_45 rfl fr_RX10_207 (okS hi hz (by decide) rfl) rfl (wS_5_1 hS) (sA_lt hi (by decide)) (q_cVi (pc' := 51) dX10_image_48 rfl ml_RX10_364 yv_X7_heldLines (by decide) (rn_X7_heldLines hi hS hV hb2 hk hr.1) ⟨by omega, rfl⟩ rfl rfl (Nat.le_of_ble_eq_true rfl) (Nat.le_refl _) ?_)))))))))))
  refine q_iret dX10_image_51 rfl (hQ _ _ _ _ ⟨_, rfl, ⟨rfl, rfl⟩, rfl, ?_, mj_up_eq, fun q hq => ?_, fun a h3 ha => ?_⟩)
  · exact cR_F (fun e he => up_fI (by unfold sA; omega)) r1
  · rw [mj_up_ne2 hq, f3]
  · rw [up_fI h3]; exact f1 a ha
theorem rn_X10_back0 {x : Int32} {bx : Nat → Option St} (hV : mj_wV R) (hX : ∀ j, j < 2 → I 3 j = bI (bx j).isSome) (hx : ∀ j, j < 2 → x = nI j → bx j = none) : Rn w l yX10_back dd_X10_back [.ref 0, .int x] (472, I, J, R) (some (.int (-1))) (472, I, J, R) := by
  refine rn_intro2 (L := [some (.ref 0), some (.int x)]) ⟨by decide, rfl, (fun h => by cases h)⟩ (Nat.le_refl _) (Nat.le_of_ble_eq_true rfl) rfl (fun Y Q hQ => ?_)
  by_cases h2 : x < 0
  · exact q_iload_n (pc' := 1) dX10_back_0 rfl rfl (q_if_lt (pc' := 4) (pt := 18) dX10_back_1 rfl rfl (fun _ => (q_iconst (pc' := 19) _ dX10_back_18 rfl kk_iconst_m1 (q_iret dX10_back_19 rfl hQ))) (fun h9 => absurd (h2) h9))
  · by_cases h3 : nI 2 ≤ x
    · exact q_iload_n (pc' := 1) dX10_back_0 rfl rfl (q_if_lt (pc' := 4) (pt := 18) dX10_back_1 rfl rfl (fun h9 => absurd h9 (h2)) (fun _ => (q_iload_n (pc' := 5) dX10_back_4 rfl rfl (q_iconst (pc' := 6) _ dX10_back_5 rfl kk_iconst_2 (q_icmp_ge (pc' := 9) (pt := 18) dX10_back_6 rfl rfl (fun _ => (q_iconst (pc' := 19) _ dX10_back_18 rfl kk_iconst_m1 (q_iret dX10_back_19 rfl hQ))) (fun h9 => absurd (h3) h9))))))
    · obtain ⟨j, hj, rfl⟩ := (inN_iff (by decide)).mp ((inN_cmp (n := 2) (by decide)).mpr ⟨h2, h3⟩)
      have e : I 3 j = nI 0 := by rw [hX j hj, hx j hj rfl]; rfl
      exact q_iload_n (pc' := 1) dX10_back_0 rfl rfl (q_if_lt (pc' := 4) (pt := 18) dX10_back_1 rfl rfl (fun h9 => absurd h9 (h2)) (fun _ => (q_iload_n (pc' := 5) dX10_back_4 rfl rfl (q_iconst (pc' := 6) _ dX10_back_5 rfl kk_iconst_2 (q_icmp_ge (pc' := 9) (pt := 18) dX10_back_6 rfl rfl (fun h9 => absurd h9 (h3)) (fun _ => (q_aload_n (pc' := 10) dX10_back_9 rfl rfl (q_getR (pc' := 13) dX10_back_10 rfl fr_RX10_19 ⟨by omega, rfl⟩ rfl (wV_10_9 hV) (by decide) (q_iload_n (pc' := 14) dX10_back_13 rfl rfl (q_zalde (pc' := 15) (j) dX10_back_14 rfl (by first | exact ⟨by omega, rfl⟩ | exact okaS hi hz (by decide) rfl | assumption) (by (first | (simp only [nI_add, pk_mul]; done) | (simp only [nI_add, pk_mul]; exact nI_e (by omega)) | exact nI_e (by omega))) (by omega) e (q_if_ne (pc' := 18) (pt := 20) dX10_back_15 rfl rfl (fun h9 => absurd (rfl) h9) (fun _ => (q_iconst (pc' := 19) _ dX10_back_18 rfl kk_iconst_m1 (q_iret dX10_back_19 rfl hQ))))))))))))))
theorem cH_0 {I1 I2 : mj_M} (h : cH I R b ps n u A c s) (f1 : mS c I I1) (fI : ∀ a, a ≠ 28 → I2 a = I1 a) (hr : cR I2 c b B) (h4 : I2 28 4 = nI 0) (h5 : I2 28 5 = nI 0) (h3 : I2 28 3 = I1 28 3) : cH I2 R b ps 0 0 B c s := by
  obtain ⟨o, g, ⟨q1, q2, _⟩, h2, _, _⟩ := h
  have e28 : I1 28 = I 28 := f1 28 (fun e _ => by unfold sA; omega)
  exact ⟨o, g, ⟨⟨q1.1, by decide⟩, by rw [h3, e28]; exact q2, h4, h5⟩, h2, hr, fun t ht => absurd ht (Nat.not_lt_zero _)⟩
theorem rs_X10_back {j : Nat} (hW : wSt R) (hb : cB I b) (hk : bOK b) (h : cH I R b ps n u A c s) (hr : cR I (19 + j) b B) (h01 : ∀ k, k < 80 → B 5 k ≤ 1 ∧ B 6 k ≤ 1) (hf : I 3 j = bI true) (hj : j < 2) : RsI w l yX10_back dd_X10_back [.ref 0, .int (nI j)] (472, I, J, R) (fun x I' => x = nI (aHeld b B) ∧ cH I' R b ps 0 0 B c s ∧ hF I I') := by
  have hV := hW.1
  obtain ⟨hn0, hA⟩ := cH_now h
  obtain ⟨hc, hs18⟩ := cH_lt h
  have hi : c < 21 := by omega
  have hz : 50 + 20 * c ≤ 472 := by omega
  have hS := hW.2.2.2 c hi
  have hi2 : 19 + j < 21 := by omega
  have hz2 : 50 + 20 * (19 + j) ≤ 472 := by omega
  have hS2 := hW.2.2.2 (19 + j) hi2
  have e1 : I 3 j = nI 1 := hf
  refine rt_intro2 (L := [some (.ref 0), some (.int (nI j))]) ⟨by decide, rfl, (fun h => by cases h)⟩ (Nat.le_of_ble_eq_true rfl) rfl (fun Y Q hQ => ?_)
  refine q_iload_n (pc' := 1) dX10_back_0 rfl rfl (q_if_lt (pc' := 4) (pt := 18) dX10_back_1 rfl rfl (fun h9 => absurd h9 (Int32.not_lt.mpr (nI_le (a := 0) (by omega) (by omega)))) (fun _ => (q_iload_n (pc' := 5) dX10_back_4 rfl rfl (q_iconst (pc' := 6) _ dX10_back_5 rfl kk_iconst_2 (q_icmp_ge (pc' := 9) (pt := 18) dX10_back_6 rfl rfl (fun h9 => absurd h9 (Int32.not_le.mpr (nI_lt (by omega) (by decide)))) (fun _ => (q_aload_n (pc' := 10) dX10_back_9 rfl rfl (q_getR (pc' := 13) dX10_back_10 rfl fr_RX10_19 ⟨by omega, rfl⟩ rfl (wV_10_9 hV) (by decide) (q_iload_n (pc' := 14) dX10_back_13 rfl rfl (q_zalde (pc' := 15) (j) dX10_back_14 rfl (by first | exact ⟨by omega, rfl⟩ | exact okaS hi hz (by decide) rfl | assumption) (by (first | (simp only [nI_add, pk_mul]; done) | (simp only [nI_add, pk_mul]; exact nI_e (by omega)) | exact nI_e (by omega))) (by omega) e1 (q_if_ne (pc' := 18) (pt := 20) dX10_back_15 rfl rfl (fun _ => (q_aload_n (pc' := 21) dX10_back_20 rfl rfl (q_getR (pc' := 24) dX10_back_21 rfl fr_RX10_62 ⟨by omega, rfl⟩ rfl (wV_10_6 hV) (by decide) (q_getR (pc' := 27) dX10_back_24 rfl fr_RX10_109 ⟨by omega, rfl⟩ rfl (hn0) (sA_lt hi (by decide)) (q_aload_n (pc' := 28) dX10_back_27 rfl rfl ?_))))) (fun h9 => absurd h9 (by decide)))))))))))))
  refine q_getR (pc' := 31) dX10_back_28 rfl fr_RX10_15 ⟨by omega, rfl⟩ rfl (wV_10_8 hV) (by decide) (q_iload_n (pc' := 32) dX10_back_31 rfl rfl (q_aald (pc' := 33) (j) dX10_back_32 rfl (by first | exact ⟨by omega, rfl⟩ | exact okaS hi hz (by decide) rfl | assumption) (by first | exact Or.inl rfl | exact Or.inr rfl) (by (first | (simp only [nI_add, pk_mul]; done) | (simp only [nI_add, pk_mul]; exact nI_e (by omega)) | exact nI_e (by omega))) (by omega) (box_r hV hj) (sA_lt hi2 (by decide)) (q_sVv (pc' := 36) dX10_back_33 rfl ml_RX10_132 yv_X5_copyFrom (by decide) (rs_X5_copyFrom hi hi2 (by omega) hS hS2 hr h01) (okS hi hz (by decide) rfl) rfl rfl (Nat.le_of_ble_eq_true rfl) (Nat.le_refl _) (fun I1 ⟨r1, f1⟩ => ?_))))
  have fI : ∀ a, a ≠ 28 → mj_up (mj_up I1 28 4 (nI 0)) 28 5 (nI 0) a = I1 a := fun a ha => by rw [up_fI ha, up_fI ha]
  have r2 := cR_28 fI r1
  have hb2 : cB (mj_up (mj_up I1 28 4 (nI 0)) 28 5 (nI 0)) b := by
    have h1 := cB_S f1 hb
    unfold cB at h1 ⊢
    rw [fI 4 (by decide), fI 7 (by decide), fI 8 (by decide), fI 9 (by decide)]
    exact h1
  exact q_aload_n (pc' := 37) dX10_back_36 rfl rfl (q_getR (pc' := 40) dX10_back_37 rfl fr_RX10_62 ⟨by omega, rfl⟩ rfl (wV_10_6 hV) (by decide) (q_cVv (pc' := 43) dX10_back_40 rfl ml_RX10_115 yv_X2_forget (by decide) (rn_X2_forget) ⟨by omega, rfl⟩ rfl rfl (Nat.le_of_ble_eq_true rfl) (Nat.le_refl _) (q_aload_n (pc' := 44) dX10_back_43 rfl rfl (q_getR (pc' := 47) dX10_back_44 rfl fr_RX10_74 ⟨by omega, rfl⟩ rfl (wV_10_10 hV) (by decide) (q_aload_n (pc' := 48) dX10_back_47 rfl rfl (q_getR (pc' := 51) dX10_back_48 rfl fr_RX10_62 ⟨by omega, rfl⟩ rfl (wV_10_6 hV) (by decide) (q_getR (pc' := 54) dX10_back_51 rfl fr_RX10_109 ⟨by omega, rfl⟩ rfl (hn0) (sA_lt hi (by decide)) (q_getR (pc' := 57) dX10_back_54 rfl fr_RX10_207 (okS hi hz (by decide) rfl) rfl (wS_5_1 hS) (sA_lt hi (by decide)) (q_cVi (pc' := 60) dX10_back_57 rfl ml_RX10_364 yv_X7_heldLines (by decide) (rn_X7_heldLines hi hS hV hb2 hk r2.1) ⟨by omega, rfl⟩ rfl rfl (Nat.le_of_ble_eq_true rfl) (Nat.le_refl _) (q_iret dX10_back_60 rfl (hQ _ _ _ _ ⟨_, rfl, ⟨rfl, rfl⟩, rfl, cH_0 h f1 fI r2 (by rw [mj_up_ne2 (by decide), mj_up_eq]) mj_up_eq (by rw [mj_up_ne2 (by decide), mj_up_ne2 (by decide)]), (f1.hF hc).tr (hF_28 fI)⟩)))))))))))
end VD4
