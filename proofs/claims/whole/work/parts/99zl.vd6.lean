/-! ===== the class itself: ORDERS ===== -/
section VD6
variable {w : mj_Wd} {l : Launch} {I : mj_M} {J : mj_J} {R : mj_R} {b A B O : St} {ps : Nat → St} {n u c s t : Nat} {T : Nat → Nat}
theorem stop_16 {d : Nat} (hk : bOK b) (hA : aOK A) (hd : d < 10) : aStop b A d 16 0 ≤ 264 := by
  have hc8 := hk.1.2
  have hv32 := hk.2.1.2
  have s1 := itN_ind (P := fun m B => aOK B ∧ B 16 0 ≤ 32 * m) (f := fun p A => itN (fun v A => aFr d (32 * p + v) A) (b 0 1) A) (n := b 0 0) (A := mj_up A 16 0 0) ⟨aOK_hi hA (by decide), Nat.le_refl _⟩ (fun p B hp hB => by
    have s2 := itN_ind (P := fun m D => aOK D ∧ D 16 0 ≤ 32 * p + m) (f := fun v A => aFr d (32 * p + v) A) (n := b 0 1) (A := B) ⟨hB.1, hB.2⟩ (fun v D hv hD => by
      refine ⟨aOK_fr hD.1, ?_⟩
      have h2 := (hD.1.1 (32 * p + v) (by omega)).2.2
      have h3 := hD.2
      show aFr d (32 * p + v) D 16 0 ≤ _
      unfold aFr
      split
      · rw [mj_up_eq]; omega
      · omega) (b 0 1) (Nat.le_refl _)
    refine ⟨s2.1, ?_⟩
    have := s2.2
    show itN (fun v A => aFr d (32 * p + v) A) (b 0 1) B 16 0 ≤ _
    omega) (b 0 0) (Nat.le_refl _)
  have s3 := itN_ind (P := fun m B => aOK B ∧ B 16 0 ≤ 256 + m) (f := fun k A => aClrW A (8 * d + k)) (n := 8) (A := aStop1 b d A) ⟨s1.1, by have := s1.2; show itN _ _ _ 16 0 ≤ _; omega⟩ (fun k B hk2 hB => by
    refine ⟨aOK_clrW hB.1, ?_⟩
    have h3 := hB.2
    show aClrW B (8 * d + k) 16 0 ≤ _
    have e : aClrW B (8 * d + k) 16 0 = B 16 0 + B 6 (8 * d + k) := by
      unfold aClrW aNoOld
      rw [up_f (by decide), up_f (by decide), up_f (by decide), up_f (by decide), mj_up_eq]
    rw [e]
    have := (hB.1.2.1 (8 * d + k) (by omega)).2.2.2
    omega) 8 (Nat.le_refl _)
  exact s3.2
theorem ord_eq {r : Nat → Nat} (h : (aOrd b A r).1 ≠ 0) (h9 : r 0 < 9) : (aOrd b A r).2 = A := by
  have hr : r 0 = 0 ∨ r 0 = 1 ∨ r 0 = 2 ∨ r 0 = 3 ∨ r 0 = 4 ∨ r 0 = 5 ∨ r 0 = 6 ∨ r 0 = 7 ∨ r 0 = 8 := by omega
  unfold aOrd at h ⊢
  rcases hr with e | e | e | e | e | e | e | e | e
  · rw [e] at h ⊢; exact start_eq h
  · rw [e] at h ⊢
    have h : (if A 7 (r 1 - 1) = 1 then 0 else 4) ≠ 0 := h
    show (if A 7 (r 1 - 1) = 1 then aStop b A (r 1 - 1) else A) = A
    split
    · rename_i q; rw [if_pos q] at h; exact absurd rfl h
    · rfl
  · rw [e] at h ⊢; exact claim_eq h
  · rw [e] at h ⊢
    have h : (if A 7 (r 1 - 1) = 1 ∧ r 2 - 1 < b 2 (r 1 - 1) then 0 else 4) ≠ 0 := h
    show (if A 7 (r 1 - 1) = 1 ∧ r 2 - 1 < b 2 (r 1 - 1) then (aRaise A (r 1 - 1) (r 2 - 1) false).2 else A) = A
    split
    · rename_i q; rw [if_pos q] at h; exact absurd rfl h
    · rfl
  · rw [e] at h ⊢
    have h : (if A 7 (r 1 - 1) = 1 ∧ r 2 - 1 < b 2 (r 1 - 1) then 0 else 4) ≠ 0 := h
    show (if A 7 (r 1 - 1) = 1 ∧ r 2 - 1 < b 2 (r 1 - 1) then (aRaise A (r 1 - 1) (r 2 - 1) true).2 else A) = A
    split
    · rename_i q; rw [if_pos q] at h; exact absurd rfl h
    · rfl
  · rw [e] at h ⊢
    have h : (if r 2 - 1 < b 2 (r 1 - 1) then aMove b A (r 1 - 1) (r 2 - 1) (r 3) else (4, A)).1 ≠ 0 := h
    show (if r 2 - 1 < b 2 (r 1 - 1) then aMove b A (r 1 - 1) (r 2 - 1) (r 3) else (4, A)).2 = A
    split
    · rename_i q; rw [if_pos q] at h; exact move_eq h
    · rfl
  · rw [e] at h; exact absurd rfl h
  · rw [e] at h ⊢; exact plug_eq h
  · rw [e] at h ⊢; exact unplug_eq h
theorem rs_X10_perform {k m : Nat} (hW : wSt R) (hb : cB I b) (hR : bRd b) (h : cR I s b B) (hs : s < 18) (hA : gI b 8 B) (hO : cOr I O m) (hkm : k < m) (hm : m ≤ 160) (ho : oOK b (O k)) (hL : B 14 4 + 800 < 2 ^ 31) : RsI w l yX10_perform dd_X10_perform [.ref 0, .ref (sA s 0), .int (nI k)] (472, I, J, R) (fun x I' => x = nI (aOrd b B (O k)).1 ∧ ((aOrd b B (O k)).1 = 0 ∨ O k 0 ≠ 8 → cR I' s b (aOrd b B (O k)).2) ∧ mS s I I') := by
  have hk := hR.1
  have hV := hW.1
  have hB := hW.2.1
  have hi : s < 21 := by omega
  have hz : 50 + 20 * s ≤ 472 := by omega
  have hS := hW.2.2.2 s hi
  have h10 := hk.2.2.1
  have hAok := gC_aOK hk hA.1
  obtain ⟨w0, w1, w2, w3⟩ := hO k hkm
  obtain ⟨o0, o1, o2, o3, o4, o5⟩ := ho
  generalize hr : O k = r at w0 w1 w2 w3 o0 o1 o2 o3 o4 o5
  refine rt_intro2 (L := [some (.ref 0), some (.ref (sA s 0)), some (.int (nI k)), none, none]) ⟨by decide, rfl, (fun h => by cases h)⟩ (Nat.le_of_ble_eq_true rfl) rfl (fun Y Q hQ => ?_)
  refine q_aload_n (pc' := 1) dX10_perform_0 rfl rfl (q_getR (pc' := 4) dX10_perform_1 rfl fr_RX10_53 ⟨by omega, rfl⟩ rfl (wV_10_5 hV) (by decide) (q_getR (pc' := 7) dX10_perform_4 rfl fr_RX10_142 ⟨by omega, rfl⟩ rfl (wV_3_4 hV) (by decide) (q_iload_n (pc' := 8) dX10_perform_7 rfl rfl (q_ialde (pc' := 9) (k) dX10_perform_8 rfl (by first | exact ⟨by omega, rfl⟩ | exact okaS hi hz (by decide) rfl | assumption) (by (first | (simp only [nI_add, pk_mul]; done) | (simp only [nI_add, pk_mul]; exact nI_e (by omega)) | exact nI_e (by omega))) (by omega) w1 (q_ist_3 (pc' := 10) dX10_perform_9 rfl (by decide) rfl (q_aload_n (pc' := 11) dX10_perform_10 rfl rfl (q_getR (pc' := 14) dX10_perform_11 rfl fr_RX10_53 ⟨by omega, rfl⟩ rfl (wV_10_5 hV) (by decide) (q_getR (pc' := 17) dX10_perform_14 rfl fr_RX10_145 ⟨by omega, rfl⟩ rfl (wV_3_5 hV) (by decide) (q_iload_n (pc' := 18) dX10_perform_17 rfl rfl (q_ialde (pc' := 19) (k) dX10_perform_18 rfl (by first | exact ⟨by omega, rfl⟩ | exact okaS hi hz (by decide) rfl | assumption) (by (first | (simp only [nI_add, pk_mul]; done) | (simp only [nI_add, pk_mul]; exact nI_e (by omega)) | exact nI_e (by omega))) (by omega) w2 (q_ist_4 (pc' := 21) dX10_perform_19 rfl (by decide) rfl ?_)))))))))))
  have hcs : r 0 = 0 ∨ r 0 = 1 ∨ r 0 = 2 ∨ r 0 = 3 ∨ r 0 = 4 ∨ r 0 = 5 ∨ r 0 = 6 ∨ r 0 = 7 ∨ r 0 = 8 := by omega
  unfold aOrd at hQ
  rcases hcs with e | e | e | e | e | e | e | e | e
  · have od := o1 (by omega)
    rw [e] at w0 hQ
    rw [lD_p od.1]
    refine q_aload_n (pc' := 22) dX10_perform_21 rfl rfl (q_getR (pc' := 25) dX10_perform_22 rfl fr_RX10_53 ⟨by omega, rfl⟩ rfl (wV_10_5 hV) (by decide) (q_getR (pc' := 28) dX10_perform_25 rfl fr_RX10_128 ⟨by omega, rfl⟩ rfl (wV_3_3 hV) (by decide) (q_iload_n (pc' := 29) dX10_perform_28 rfl rfl (q_ialde (pc' := 30) (k) dX10_perform_29 rfl (by first | exact ⟨by omega, rfl⟩ | exact okaS hi hz (by decide) rfl | assumption) (by (first | (simp only [nI_add, pk_mul]; done) | (simp only [nI_add, pk_mul]; exact nI_e (by omega)) | exact nI_e (by omega))) (by omega) w0 (q_tabIn (pc' := 80) dX10_perform_30 (by decide) (by decide) rfl rfl (q_aload_n (pc' := 81) dX10_perform_80 rfl rfl (q_iload_n (pc' := 82) dX10_perform_81 rfl rfl (q_sVi (pc' := 85) dX10_perform_82 rfl ml_RX10_148 yv_X5_begin (by decide) (rs_begin hi hS hB hb hR h hA od.2) (okS hi hz (by decide) rfl) rfl rfl (Nat.le_of_ble_eq_true rfl) (Nat.le_refl _) (fun x2 I2 ⟨t1, r2, f2⟩ => ?_)))))))))
    exact q_iret dX10_perform_85 rfl (hQ _ _ _ _ ⟨_, rfl, ⟨rfl, rfl⟩, t1, fun _ => r2, f2⟩)
  · have od := o1 (by omega)
    rw [e] at w0 hQ
    rw [lD_p od.1]
    by_cases h7 : B 7 (r 1 - 1) = 1
    · have hq : ∀ I', cR I' s b (aStop b B (r 1 - 1)) → mS s I I' → Q (some (.int (nI 0))) (472, I', J, R) := fun I' r2 f2 => hQ _ _ _ _ ⟨_, rfl, ⟨rfl, rfl⟩, by show nI 0 = nI (if B 7 (r 1 - 1) = 1 then 0 else 4); rw [if_pos h7], fun _ => by show cR I' s b (if B 7 (r 1 - 1) = 1 then aStop b B (r 1 - 1) else B); rw [if_pos h7]; exact r2, f2⟩
      have h16 := stop_16 (d := r 1 - 1) hk hAok (by omega)
      refine q_aload_n (pc' := 22) dX10_perform_21 rfl rfl (q_getR (pc' := 25) dX10_perform_22 rfl fr_RX10_53 ⟨by omega, rfl⟩ rfl (wV_10_5 hV) (by decide) (q_getR (pc' := 28) dX10_perform_25 rfl fr_RX10_128 ⟨by omega, rfl⟩ rfl (wV_3_3 hV) (by decide) (q_iload_n (pc' := 29) dX10_perform_28 rfl rfl (q_ialde (pc' := 30) (k) dX10_perform_29 rfl (by first | exact ⟨by omega, rfl⟩ | exact okaS hi hz (by decide) rfl | assumption) (by (first | (simp only [nI_add, pk_mul]; done) | (simp only [nI_add, pk_mul]; exact nI_e (by omega)) | exact nI_e (by omega))) (by omega) w0 (q_tabIn (pc' := 86) dX10_perform_30 (by decide) (by decide) rfl rfl (q_aload_n (pc' := 87) dX10_perform_86 rfl rfl (q_iload_n (pc' := 88) dX10_perform_87 rfl rfl (q_sVi (pc' := 91) dX10_perform_88 rfl ml_RX10_152 yv_X5_halt (by decide) (rs_X5_halt hi hS hB hb hk h hAok od.2 h7 (clrL_of hk hA.1 od.2)) (okS hi hz (by decide) rfl) rfl rfl (Nat.le_of_ble_eq_true rfl) (Nat.le_refl _) (fun x2 I2 ⟨t1, r2, f2⟩ => ?_)))))))))
      subst t1
      exact q_iconst (pc' := 92) _ dX10_perform_91 rfl kk_iconst_m1 (q_icmp_ne (pc' := 95) (pt := 99) dX10_perform_92 rfl rfl (fun _ => (q_iconst (pc' := 100) _ dX10_perform_99 rfl kk_iconst_0 (q_iret dX10_perform_100 rfl (hq _ r2 f2)))) (fun h9 => absurd h9 (nI_m1 (by omega))))
    · have hq : Q (some (.int (nI 4))) (472, I, J, R) := hQ _ _ _ _ ⟨_, rfl, ⟨rfl, rfl⟩, by show nI 4 = nI (if B 7 (r 1 - 1) = 1 then 0 else 4); rw [if_neg h7], fun _ => by show cR I s b (if B 7 (r 1 - 1) = 1 then aStop b B (r 1 - 1) else B); rw [if_neg h7]; exact h, mS.rf⟩
      exact q_aload_n (pc' := 22) dX10_perform_21 rfl rfl (q_getR (pc' := 25) dX10_perform_22 rfl fr_RX10_53 ⟨by omega, rfl⟩ rfl (wV_10_5 hV) (by decide) (q_getR (pc' := 28) dX10_perform_25 rfl fr_RX10_128 ⟨by omega, rfl⟩ rfl (wV_3_3 hV) (by decide) (q_iload_n (pc' := 29) dX10_perform_28 rfl rfl (q_ialde (pc' := 30) (k) dX10_perform_29 rfl (by first | exact ⟨by omega, rfl⟩ | exact okaS hi hz (by decide) rfl | assumption) (by (first | (simp only [nI_add, pk_mul]; done) | (simp only [nI_add, pk_mul]; exact nI_e (by omega)) | exact nI_e (by omega))) (by omega) w0 (q_tabIn (pc' := 86) dX10_perform_30 (by decide) (by decide) rfl rfl (q_aload_n (pc' := 87) dX10_perform_86 rfl rfl (q_iload_n (pc' := 88) dX10_perform_87 rfl rfl (q_cVi (pc' := 91) dX10_perform_88 rfl ml_RX10_152 yv_X5_halt (by decide) (rn_X5_halt0 hi h (by omega) h7) (okS hi hz (by decide) rfl) rfl rfl (Nat.le_of_ble_eq_true rfl) (Nat.le_refl _) (q_iconst (pc' := 92) _ dX10_perform_91 rfl kk_iconst_m1 (q_icmp_ne (pc' := 95) (pt := 99) dX10_perform_92 rfl rfl (fun h9 => absurd (rfl) h9) (fun _ => (q_iconst (pc' := 96) _ dX10_perform_95 rfl kk_iconst_4 (q_goto (pc' := 100) dX10_perform_96 rfl (q_iret dX10_perform_100 rfl hq))))))))))))))
  · have od := o1 (by omega)
    rw [e] at w0 hQ
    rw [lD_p od.1]
    refine q_aload_n (pc' := 22) dX10_perform_21 rfl rfl (q_getR (pc' := 25) dX10_perform_22 rfl fr_RX10_53 ⟨by omega, rfl⟩ rfl (wV_10_5 hV) (by decide) (q_getR (pc' := 28) dX10_perform_25 rfl fr_RX10_128 ⟨by omega, rfl⟩ rfl (wV_3_3 hV) (by decide) (q_iload_n (pc' := 29) dX10_perform_28 rfl rfl (q_ialde (pc' := 30) (k) dX10_perform_29 rfl (by first | exact ⟨by omega, rfl⟩ | exact okaS hi hz (by decide) rfl | assumption) (by (first | (simp only [nI_add, pk_mul]; done) | (simp only [nI_add, pk_mul]; exact nI_e (by omega)) | exact nI_e (by omega))) (by omega) w0 (q_tabIn (pc' := 101) dX10_perform_30 (by decide) (by decide) rfl rfl (q_aload_n (pc' := 102) dX10_perform_101 rfl rfl (q_iload_n (pc' := 103) dX10_perform_102 rfl rfl (q_sVi (pc' := 106) dX10_perform_103 rfl ml_RX10_155 yv_X5_promise (by decide) (rs_X5_promise hi hS hB hb hk h od.2) (okS hi hz (by decide) rfl) rfl rfl (Nat.le_of_ble_eq_true rfl) (Nat.le_refl _) (fun x2 I2 ⟨t1, r2, f2⟩ => ?_)))))))))
    exact q_iret dX10_perform_106 rfl (hQ _ _ _ _ ⟨_, rfl, ⟨rfl, rfl⟩, t1, fun _ => r2, f2⟩)
  · have od := o1 (by omega)
    have on := o2 (by omega) (by omega)
    have hs8 := (hk.2.2.2 _ od.2).2.1
    rw [e] at w0 hQ
    rw [lD_p od.1, lD_p on.1]
    by_cases hc : B 7 (r 1 - 1) = 1 ∧ r 2 - 1 < b 2 (r 1 - 1)
    · have hq : ∀ I', cR I' s b (aRaise B (r 1 - 1) (r 2 - 1) false).2 → mS s I I' → Q (some (.int (nI 0))) (472, I', J, R) := fun I' r2 f2 => hQ _ _ _ _ ⟨_, rfl, ⟨rfl, rfl⟩, by show nI 0 = nI (if B 7 (r 1 - 1) = 1 ∧ r 2 - 1 < b 2 (r 1 - 1) then 0 else 4); rw [if_pos hc], fun _ => by show cR I' s b (if B 7 (r 1 - 1) = 1 ∧ r 2 - 1 < b 2 (r 1 - 1) then (aRaise B (r 1 - 1) (r 2 - 1) false).2 else B); rw [if_pos hc]; exact r2, f2⟩
      have hpv := pv_3 hA.1 (show 8 * (r 1 - 1) + (r 2 - 1) < 80 by omega)
      have hle := raise_le (A := B) (d := r 1 - 1) (k := r 2 - 1) (late := false)
      refine q_aload_n (pc' := 22) dX10_perform_21 rfl rfl (q_getR (pc' := 25) dX10_perform_22 rfl fr_RX10_53 ⟨by omega, rfl⟩ rfl (wV_10_5 hV) (by decide) (q_getR (pc' := 28) dX10_perform_25 rfl fr_RX10_128 ⟨by omega, rfl⟩ rfl (wV_3_3 hV) (by decide) (q_iload_n (pc' := 29) dX10_perform_28 rfl rfl (q_ialde (pc' := 30) (k) dX10_perform_29 rfl (by first | exact ⟨by omega, rfl⟩ | exact okaS hi hz (by decide) rfl | assumption) (by (first | (simp only [nI_add, pk_mul]; done) | (simp only [nI_add, pk_mul]; exact nI_e (by omega)) | exact nI_e (by omega))) (by omega) w0 (q_tabIn (pc' := 107) dX10_perform_30 (by decide) (by decide) rfl rfl (q_aload_n (pc' := 108) dX10_perform_107 rfl rfl (q_iload_n (pc' := 109) dX10_perform_108 rfl rfl (q_iload (pc' := 111) dX10_perform_109 rfl rfl (q_iconst (pc' := 112) _ dX10_perform_111 rfl kk_iconst_0 (q_sVi (pc' := 115) dX10_perform_112 rfl ml_RX10_158 yv_X5_signal (by decide) (rs_X5_signal (late := false) hi hS hB hb hk h hAok od.2 hc.2 hc.1 hpv.1 hpv.2) (okS hi hz (by decide) rfl) rfl rfl (Nat.le_of_ble_eq_true rfl) (Nat.le_refl _) (fun x2 I2 ⟨t1, r2, f2⟩ => ?_)))))))))))
      subst t1
      exact q_iconst (pc' := 116) _ dX10_perform_115 rfl kk_iconst_m1 (q_icmp_ne (pc' := 119) (pt := 123) dX10_perform_116 rfl rfl (fun _ => (q_iconst (pc' := 124) _ dX10_perform_123 rfl kk_iconst_0 (q_iret dX10_perform_124 rfl (hq _ r2 f2)))) (fun h9 => absurd h9 (nI_m1 (by omega))))
    · have hq : Q (some (.int (nI 4))) (472, I, J, R) := hQ _ _ _ _ ⟨_, rfl, ⟨rfl, rfl⟩, by show nI 4 = nI (if B 7 (r 1 - 1) = 1 ∧ r 2 - 1 < b 2 (r 1 - 1) then 0 else 4); rw [if_neg hc], fun _ => by show cR I s b (if B 7 (r 1 - 1) = 1 ∧ r 2 - 1 < b 2 (r 1 - 1) then (aRaise B (r 1 - 1) (r 2 - 1) false).2 else B); rw [if_neg hc]; exact h, mS.rf⟩
      have hn : inN (nI (r 2 - 1)) (b 2 (r 1 - 1)) = false ∨ B 7 (r 1 - 1) ≠ 1 := by
        by_cases q : B 7 (r 1 - 1) = 1
        · left
          apply Bool.eq_false_iff.mpr
          intro q2
          rw [inN_iff (by omega)] at q2
          obtain ⟨j, q3, q4⟩ := q2
          exact hc ⟨q, by rw [(nI_eq (by omega) (by omega)).mp q4]; exact q3⟩
        · exact Or.inr q
      refine q_aload_n (pc' := 22) dX10_perform_21 rfl rfl (q_getR (pc' := 25) dX10_perform_22 rfl fr_RX10_53 ⟨by omega, rfl⟩ rfl (wV_10_5 hV) (by decide) (q_getR (pc' := 28) dX10_perform_25 rfl fr_RX10_128 ⟨by omega, rfl⟩ rfl (wV_3_3 hV) (by decide) (q_iload_n (pc' := 29) dX10_perform_28 rfl rfl (q_ialde (pc' := 30) (k) dX10_perform_29 rfl (by first | exact ⟨by omega, rfl⟩ | exact okaS hi hz (by decide) rfl | assumption) (by (first | (simp only [nI_add, pk_mul]; done) | (simp only [nI_add, pk_mul]; exact nI_e (by omega)) | exact nI_e (by omega))) (by omega) w0 (q_tabIn (pc' := 107) dX10_perform_30 (by decide) (by decide) rfl rfl (q_aload_n (pc' := 108) dX10_perform_107 rfl rfl (q_iload_n (pc' := 109) dX10_perform_108 rfl rfl (q_iload (pc' := 111) dX10_perform_109 rfl rfl (q_iconst (pc' := 112) _ dX10_perform_111 rfl kk_iconst_0 (q_cVi (pc' := 115) dX10_perform_112 rfl ml_RX10_158 yv_X5_signal (by decide) (rn_X5_signal1 (late := false) hi hS hB hb hk h od.2 hn) (okS hi hz (by decide) rfl) rfl rfl (Nat.le_of_ble_eq_true rfl) (Nat.le_refl _) (q_iconst (pc' := 116) _ dX10_perform_115 rfl kk_iconst_m1 (q_icmp_ne (pc' := 119) (pt := 123) dX10_perform_116 rfl rfl (fun h9 => absurd (rfl) h9) (fun _ => (q_iconst (pc' := 120) _ dX10_perform_119 rfl kk_iconst_4 ?_))))))))))))))
      exact q_goto (pc' := 124) dX10_perform_120 rfl (q_iret dX10_perform_124 rfl hq)
  · have od := o1 (by omega)
    have on := o2 (by omega) (by omega)
    have hs8 := (hk.2.2.2 _ od.2).2.1
    rw [e] at w0 hQ
    rw [lD_p od.1, lD_p on.1]
    by_cases hc : B 7 (r 1 - 1) = 1 ∧ r 2 - 1 < b 2 (r 1 - 1)
    · have hq : ∀ I', cR I' s b (aRaise B (r 1 - 1) (r 2 - 1) true).2 → mS s I I' → Q (some (.int (nI 0))) (472, I', J, R) := fun I' r2 f2 => hQ _ _ _ _ ⟨_, rfl, ⟨rfl, rfl⟩, by show nI 0 = nI (if B 7 (r 1 - 1) = 1 ∧ r 2 - 1 < b 2 (r 1 - 1) then 0 else 4); rw [if_pos hc], fun _ => by show cR I' s b (if B 7 (r 1 - 1) = 1 ∧ r 2 - 1 < b 2 (r 1 - 1) then (aRaise B (r 1 - 1) (r 2 - 1) true).2 else B); rw [if_pos hc]; exact r2, f2⟩
      have hpv := pv_3 hA.1 (show 8 * (r 1 - 1) + (r 2 - 1) < 80 by omega)
      have hle := raise_le (A := B) (d := r 1 - 1) (k := r 2 - 1) (late := true)
      refine q_aload_n (pc' := 22) dX10_perform_21 rfl rfl (q_getR (pc' := 25) dX10_perform_22 rfl fr_RX10_53 ⟨by omega, rfl⟩ rfl (wV_10_5 hV) (by decide) (q_getR (pc' := 28) dX10_perform_25 rfl fr_RX10_128 ⟨by omega, rfl⟩ rfl (wV_3_3 hV) (by decide) (q_iload_n (pc' := 29) dX10_perform_28 rfl rfl (q_ialde (pc' := 30) (k) dX10_perform_29 rfl (by first | exact ⟨by omega, rfl⟩ | exact okaS hi hz (by decide) rfl | assumption) (by (first | (simp only [nI_add, pk_mul]; done) | (simp only [nI_add, pk_mul]; exact nI_e (by omega)) | exact nI_e (by omega))) (by omega) w0 (q_tabIn (pc' := 125) dX10_perform_30 (by decide) (by decide) rfl rfl (q_aload_n (pc' := 126) dX10_perform_125 rfl rfl (q_iload_n (pc' := 127) dX10_perform_126 rfl rfl (q_iload (pc' := 129) dX10_perform_127 rfl rfl (q_iconst (pc' := 130) _ dX10_perform_129 rfl kk_iconst_1 (q_sVi (pc' := 133) dX10_perform_130 rfl ml_RX10_158 yv_X5_signal (by decide) (rs_X5_signal (late := true) hi hS hB hb hk h hAok od.2 hc.2 hc.1 hpv.1 hpv.2) (okS hi hz (by decide) rfl) rfl rfl (Nat.le_of_ble_eq_true rfl) (Nat.le_refl _) (fun x2 I2 ⟨t1, r2, f2⟩ => ?_)))))))))))
      subst t1
      exact q_iconst (pc' := 134) _ dX10_perform_133 rfl kk_iconst_m1 (q_icmp_ne (pc' := 137) (pt := 141) dX10_perform_134 rfl rfl (fun _ => (q_iconst (pc' := 142) _ dX10_perform_141 rfl kk_iconst_0 (q_iret dX10_perform_142 rfl (hq _ r2 f2)))) (fun h9 => absurd h9 (nI_m1 (by omega))))
    · have hq : Q (some (.int (nI 4))) (472, I, J, R) := hQ _ _ _ _ ⟨_, rfl, ⟨rfl, rfl⟩, by show nI 4 = nI (if B 7 (r 1 - 1) = 1 ∧ r 2 - 1 < b 2 (r 1 - 1) then 0 else 4); rw [if_neg hc], fun _ => by show cR I s b (if B 7 (r 1 - 1) = 1 ∧ r 2 - 1 < b 2 (r 1 - 1) then (aRaise B (r 1 - 1) (r 2 - 1) true).2 else B); rw [if_neg hc]; exact h, mS.rf⟩
      have hn : inN (nI (r 2 - 1)) (b 2 (r 1 - 1)) = false ∨ B 7 (r 1 - 1) ≠ 1 := by
        by_cases q : B 7 (r 1 - 1) = 1
        · left
          apply Bool.eq_false_iff.mpr
          intro q2
          rw [inN_iff (by omega)] at q2
          obtain ⟨j, q3, q4⟩ := q2
          exact hc ⟨q, by rw [(nI_eq (by omega) (by omega)).mp q4]; exact q3⟩
        · exact Or.inr q
      refine q_aload_n (pc' := 22) dX10_perform_21 rfl rfl (q_getR (pc' := 25) dX10_perform_22 rfl fr_RX10_53 ⟨by omega, rfl⟩ rfl (wV_10_5 hV) (by decide) (q_getR (pc' := 28) dX10_perform_25 rfl fr_RX10_128 ⟨by omega, rfl⟩ rfl (wV_3_3 hV) (by decide) (q_iload_n (pc' := 29) dX10_perform_28 rfl rfl (q_ialde (pc' := 30) (k) dX10_perform_29 rfl (by first | exact ⟨by omega, rfl⟩ | exact okaS hi hz (by decide) rfl | assumption) (by (first | (simp only [nI_add, pk_mul]; done) | (simp only [nI_add, pk_mul]; exact nI_e (by omega)) | exact nI_e (by omega))) (by omega) w0 (q_tabIn (pc' := 125) dX10_perform_30 (by decide) (by decide) rfl rfl (q_aload_n (pc' := 126) dX10_perform_125 rfl rfl (q_iload_n (pc' := 127) dX10_perform_126 rfl rfl (q_iload (pc' := 129) dX10_perform_127 rfl rfl (q_iconst (pc' := 130) _ dX10_perform_129 rfl kk_iconst_1 (q_cVi (pc' := 133) dX10_perform_130 rfl ml_RX10_158 yv_X5_signal (by decide) (rn_X5_signal1 (late := true) hi hS hB hb hk h od.2 hn) (okS hi hz (by decide) rfl) rfl rfl (Nat.le_of_ble_eq_true rfl) (Nat.le_refl _) (q_iconst (pc' := 134) _ dX10_perform_133 rfl kk_iconst_m1 (q_icmp_ne (pc' := 137) (pt := 141) dX10_perform_134 rfl rfl (fun h9 => absurd (rfl) h9) (fun _ => (q_iconst (pc' := 138) _ dX10_perform_137 rfl kk_iconst_4 ?_))))))))))))))
      exact q_goto (pc' := 142) dX10_perform_138 rfl (q_iret dX10_perform_142 rfl hq)
  · have od := o1 (by omega)
    have on := o2 (by omega) (by omega)
    have hs8 := (hk.2.2.2 _ od.2).2.1
    rw [e] at w0 hQ
    rw [lD_p od.1, lD_p on.1]
    have hset : r 3 < 2 ^ 31 := Nat.lt_of_lt_of_le o5 (Nat.pow_le_pow_right (by decide) (by have := hk.1.2; omega))
    by_cases hc : r 2 - 1 < b 2 (r 1 - 1)
    · have hq : ∀ x I', x = nI (aMove b B (r 1 - 1) (r 2 - 1) (r 3)).1 → cR I' s b (aMove b B (r 1 - 1) (r 2 - 1) (r 3)).2 → mS s I I' → Q (some (.int x)) (472, I', J, R) := fun x I' t1 r2 f2 => hQ _ _ _ _ ⟨_, rfl, ⟨rfl, rfl⟩, by show x = nI (if r 2 - 1 < b 2 (r 1 - 1) then aMove b B (r 1 - 1) (r 2 - 1) (r 3) else (4, B)).1; rw [if_pos hc]; exact t1, fun _ => by show cR I' s b (if r 2 - 1 < b 2 (r 1 - 1) then aMove b B (r 1 - 1) (r 2 - 1) (r 3) else (4, B)).2; rw [if_pos hc]; exact r2, f2⟩
      refine q_aload_n (pc' := 22) dX10_perform_21 rfl rfl (q_getR (pc' := 25) dX10_perform_22 rfl fr_RX10_53 ⟨by omega, rfl⟩ rfl (wV_10_5 hV) (by decide) (q_getR (pc' := 28) dX10_perform_25 rfl fr_RX10_128 ⟨by omega, rfl⟩ rfl (wV_3_3 hV) (by decide) (q_iload_n (pc' := 29) dX10_perform_28 rfl rfl (q_ialde (pc' := 30) (k) dX10_perform_29 rfl (by first | exact ⟨by omega, rfl⟩ | exact okaS hi hz (by decide) rfl | assumption) (by (first | (simp only [nI_add, pk_mul]; done) | (simp only [nI_add, pk_mul]; exact nI_e (by omega)) | exact nI_e (by omega))) (by omega) w0 (q_tabIn (pc' := 143) dX10_perform_30 (by decide) (by decide) rfl rfl (q_aload_n (pc' := 144) dX10_perform_143 rfl rfl (q_iload_n (pc' := 145) dX10_perform_144 rfl rfl (q_iload (pc' := 147) dX10_perform_145 rfl rfl (q_aload_n (pc' := 148) dX10_perform_147 rfl rfl (q_getR (pc' := 151) dX10_perform_148 rfl fr_RX10_53 ⟨by omega, rfl⟩ rfl (wV_10_5 hV) (by decide) (q_getR (pc' := 154) dX10_perform_151 rfl fr_RX10_162 ⟨by omega, rfl⟩ rfl (wV_3_6 hV) (by decide) (q_iload_n (pc' := 155) dX10_perform_154 rfl rfl (q_ialde (pc' := 156) (k) dX10_perform_155 rfl (by first | exact ⟨by omega, rfl⟩ | exact okaS hi hz (by decide) rfl | assumption) (by (first | (simp only [nI_add, pk_mul]; done) | (simp only [nI_add, pk_mul]; exact nI_e (by omega)) | exact nI_e (by omega))) (by omega) w3 ?_)))))))))))))
      refine q_sVi (pc' := 159) dX10_perform_156 rfl ml_RX10_165 yv_X5_shift (by decide) (rs_X5_shift hi hS hB hb hk h hAok od.2 hc (hR.2.2.2.1 _ od.2).1 (by omega) (hR.2.2.2.1 _ od.2).2.1 (fun i hi2 h5 => d5_4 hA.1 hi2 h5) (fun _ j hj => hld_of hA.1 (by omega)) (fun h3 h7 => gG_3 hA od.2 h7 h3) (fun h3 h7 h0 h4 q hq => (move_resv hk hA od.2 hc h3 h7 h0 h4 q hq).2)) (okS hi hz (by decide) rfl) rfl rfl (Nat.le_of_ble_eq_true rfl) (Nat.le_refl _) (fun x2 I2 ⟨t1, r2, f2⟩ => ?_)
      exact q_iret dX10_perform_159 rfl (hq _ _ t1 r2 f2)
    · have hq : Q (some (.int (nI 4))) (472, I, J, R) := hQ _ _ _ _ ⟨_, rfl, ⟨rfl, rfl⟩, by show nI 4 = nI (if r 2 - 1 < b 2 (r 1 - 1) then aMove b B (r 1 - 1) (r 2 - 1) (r 3) else (4, B)).1; rw [if_neg hc], fun _ => by show cR I s b (if r 2 - 1 < b 2 (r 1 - 1) then aMove b B (r 1 - 1) (r 2 - 1) (r 3) else (4, B)).2; rw [if_neg hc]; exact h, mS.rf⟩
      have hin : inN (nI (r 2 - 1)) (b 2 (r 1 - 1)) = false := by
        apply Bool.eq_false_iff.mpr
        intro q2
        rw [inN_iff (by omega)] at q2
        obtain ⟨j, q3, q4⟩ := q2
        exact hc (by rw [(nI_eq (by omega) (by omega)).mp q4]; exact q3)
      refine q_aload_n (pc' := 22) dX10_perform_21 rfl rfl (q_getR (pc' := 25) dX10_perform_22 rfl fr_RX10_53 ⟨by omega, rfl⟩ rfl (wV_10_5 hV) (by decide) (q_getR (pc' := 28) dX10_perform_25 rfl fr_RX10_128 ⟨by omega, rfl⟩ rfl (wV_3_3 hV) (by decide) (q_iload_n (pc' := 29) dX10_perform_28 rfl rfl (q_ialde (pc' := 30) (k) dX10_perform_29 rfl (by first | exact ⟨by omega, rfl⟩ | exact okaS hi hz (by decide) rfl | assumption) (by (first | (simp only [nI_add, pk_mul]; done) | (simp only [nI_add, pk_mul]; exact nI_e (by omega)) | exact nI_e (by omega))) (by omega) w0 (q_tabIn (pc' := 143) dX10_perform_30 (by decide) (by decide) rfl rfl (q_aload_n (pc' := 144) dX10_perform_143 rfl rfl (q_iload_n (pc' := 145) dX10_perform_144 rfl rfl (q_iload (pc' := 147) dX10_perform_145 rfl rfl (q_aload_n (pc' := 148) dX10_perform_147 rfl rfl (q_getR (pc' := 151) dX10_perform_148 rfl fr_RX10_53 ⟨by omega, rfl⟩ rfl (wV_10_5 hV) (by decide) (q_getR (pc' := 154) dX10_perform_151 rfl fr_RX10_162 ⟨by omega, rfl⟩ rfl (wV_3_6 hV) (by decide) (q_iload_n (pc' := 155) dX10_perform_154 rfl rfl (q_ialde (pc' := 156) (k) dX10_perform_155 rfl (by first | exact ⟨by omega, rfl⟩ | exact okaS hi hz (by decide) rfl | assumption) (by (first | (simp only [nI_add, pk_mul]; done) | (simp only [nI_add, pk_mul]; exact nI_e (by omega)) | exact nI_e (by omega))) (by omega) w3 ?_)))))))))))))
      exact q_cVi (pc' := 159) dX10_perform_156 rfl ml_RX10_165 yv_X5_shift (by decide) (rn_X5_shift1 hi hS hB hb hk h od.2 hin) (okS hi hz (by decide) rfl) rfl rfl (Nat.le_of_ble_eq_true rfl) (Nat.le_refl _) (q_iret dX10_perform_159 rfl hq)
  · have on := o3 e
    rw [e] at w0 hQ
    rw [lD_p (show 1 ≤ r 2 by omega)]
    refine q_aload_n (pc' := 22) dX10_perform_21 rfl rfl (q_getR (pc' := 25) dX10_perform_22 rfl fr_RX10_53 ⟨by omega, rfl⟩ rfl (wV_10_5 hV) (by decide) (q_getR (pc' := 28) dX10_perform_25 rfl fr_RX10_128 ⟨by omega, rfl⟩ rfl (wV_3_3 hV) (by decide) (q_iload_n (pc' := 29) dX10_perform_28 rfl rfl (q_ialde (pc' := 30) (k) dX10_perform_29 rfl (by first | exact ⟨by omega, rfl⟩ | exact okaS hi hz (by decide) rfl | assumption) (by (first | (simp only [nI_add, pk_mul]; done) | (simp only [nI_add, pk_mul]; exact nI_e (by omega)) | exact nI_e (by omega))) (by omega) w0 (q_tabIn (pc' := 160) dX10_perform_30 (by decide) (by decide) rfl rfl (q_aload_n (pc' := 161) dX10_perform_160 rfl rfl (q_iload (pc' := 163) dX10_perform_161 rfl rfl (q_sVi (pc' := 166) dX10_perform_163 rfl ml_RX10_169 yv_X5_pass (by decide) (rs_X5_pass hi hS hB hb hk h (gC_tI hk hA.1) (gI_dI hA.1) on.2 (by omega)) (okS hi hz (by decide) rfl) rfl rfl (Nat.le_of_ble_eq_true rfl) (Nat.le_refl _) (fun x2 I2 ⟨t1, r2, f2⟩ => ?_)))))))))
    exact q_pop_i (pc' := 167) dX10_perform_166 rfl (q_iconst (pc' := 168) _ dX10_perform_167 rfl kk_iconst_0 (q_iret dX10_perform_168 rfl (hQ _ _ _ _ ⟨_, rfl, ⟨rfl, rfl⟩, rfl, fun _ => r2, f2⟩)))
  · have on := o4 (by omega)
    rw [e] at w0 hQ
    rw [lD_p on.1]
    refine q_aload_n (pc' := 22) dX10_perform_21 rfl rfl (q_getR (pc' := 25) dX10_perform_22 rfl fr_RX10_53 ⟨by omega, rfl⟩ rfl (wV_10_5 hV) (by decide) (q_getR (pc' := 28) dX10_perform_25 rfl fr_RX10_128 ⟨by omega, rfl⟩ rfl (wV_3_3 hV) (by decide) (q_iload_n (pc' := 29) dX10_perform_28 rfl rfl (q_ialde (pc' := 30) (k) dX10_perform_29 rfl (by first | exact ⟨by omega, rfl⟩ | exact okaS hi hz (by decide) rfl | assumption) (by (first | (simp only [nI_add, pk_mul]; done) | (simp only [nI_add, pk_mul]; exact nI_e (by omega)) | exact nI_e (by omega))) (by omega) w0 (q_tabIn (pc' := 169) dX10_perform_30 (by decide) (by decide) rfl rfl (q_aload_n (pc' := 170) dX10_perform_169 rfl rfl (q_iload (pc' := 172) dX10_perform_170 rfl rfl (q_sVi (pc' := 175) dX10_perform_172 rfl ml_RX10_172 yv_X5_comeBack (by decide) (rs_X5_comeBack hi hS hB hb hk h (gCl_of (p0 := 8) hk on.2) (gC2_of hk on.2) (fun _ => ⟨gI_on hA, mj_up_eq⟩) on.2) (okS hi hz (by decide) rfl) rfl rfl (Nat.le_of_ble_eq_true rfl) (Nat.le_refl _) (fun x2 I2 ⟨t1, r2, f2⟩ => ?_)))))))))
    exact q_iret dX10_perform_175 rfl (hQ _ _ _ _ ⟨_, rfl, ⟨rfl, rfl⟩, t1, fun _ => r2, f2⟩)
  · have on := o4 (by omega)
    rw [e] at w0 hQ
    rw [lD_p on.1]
    have w0b : I 24 k = nI 18 := w0
    refine q_aload_n (pc' := 22) dX10_perform_21 rfl rfl (q_getR (pc' := 25) dX10_perform_22 rfl fr_RX10_53 ⟨by omega, rfl⟩ rfl (wV_10_5 hV) (by decide) (q_getR (pc' := 28) dX10_perform_25 rfl fr_RX10_128 ⟨by omega, rfl⟩ rfl (wV_3_3 hV) (by decide) (q_iload_n (pc' := 29) dX10_perform_28 rfl rfl (q_ialde (pc' := 30) (k) dX10_perform_29 rfl (by first | exact ⟨by omega, rfl⟩ | exact okaS hi hz (by decide) rfl | assumption) (by (first | (simp only [nI_add, pk_mul]; done) | (simp only [nI_add, pk_mul]; exact nI_e (by omega)) | exact nI_e (by omega))) (by omega) w0b (q_tabOut (pc' := 176) dX10_perform_30 (Or.inr (by decide)) rfl (q_aload_n (pc' := 177) dX10_perform_176 rfl rfl (q_iload (pc' := 179) dX10_perform_177 rfl rfl (q_sVi (pc' := 182) dX10_perform_179 rfl ml_RX10_175 yv_X5_leave (by decide) (rs_leave hi hS hB hb hR h hA on.2) (okS hi hz (by decide) rfl) rfl rfl (Nat.le_of_ble_eq_true rfl) (Nat.le_refl _) (fun x2 I2 ⟨t1, r2, f2⟩ => ?_)))))))))
    exact q_iret dX10_perform_182 rfl (hQ _ _ _ _ ⟨_, rfl, ⟨rfl, rfl⟩, t1, fun q => r2 (q.elim id (fun z => absurd rfl z)), f2⟩)
end VD6
