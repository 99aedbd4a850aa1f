/-! ===== the class: Rows, what is PENDING ===== -/
section ROWS5
variable {w : mj_Wd} {l : Launch} {I : mj_M} {J : mj_J} {R : mj_R} {b A : St} {i : Nat}
theorem cPe_up {k x q : Nat} (ek : 32 * (k / 32) + k % 32 = k) : cPe b (mj_up A 2 k x) q = (if q = k / 32 then bitN (fun u => if u = k % 32 then x == 1 else A 2 (32 * (k / 32) + u) == 1) (b 0 1) else cPe b A q) ∨ 32 < b 0 1 := by
  by_cases hb : 32 < b 0 1
  · exact Or.inr hb
  · refine Or.inl ?_
    unfold cPe
    by_cases eq : q = k / 32
    · rw [if_pos eq]
      refine bitN_cong (fun u hu => ?_)
      by_cases eu : u = k % 32
      · rw [if_pos eu, eq, eu, ek, mj_up_eq]
      · rw [if_neg eu, eq, mj_up_ne2 (by omega)]
    · rw [if_neg eq]
      refine bitN_cong (fun u hu => ?_)
      rw [mj_up_ne2 (by omega)]
theorem cRr_pe {I' : mj_M} {k x : Nat} (hk : bOK b) (h : cRr I i b A) (hp : I' (sA i 18) (k / 32) = nI (bitN (fun u => if u = k % 32 then x == 1 else A 2 (32 * (k / 32) + u) == 1) (b 0 1))) (hq : ∀ q, q ≠ k / 32 → I' (sA i 18) q = I (sA i 18) q) (hf : ∀ a, a ≠ sA i 18 → I' a = I a) : cRr I' i b (mj_up A 2 k x) := by
  have ek : 32 * (k / 32) + k % 32 = k := by omega
  refine ⟨fun s hs p hp2 => ?_, fun q hq8 => ?_, fun q hq2 => ?_, ?_⟩
  · rw [hf _ (sA_ne (by omega))]; exact h.1 s hs p hp2
  · have hc := (cPe_up (b := b) (A := A) (x := x) (q := q) ek).resolve_right (by have := hk.2.1.2; omega)
    rw [hc]
    by_cases eq : q = k / 32
    · rw [if_pos eq, eq]; exact hp
    · rw [if_neg eq, hq q eq]; exact h.2.1 q hq8
  · rw [hf _ (sA_ne (by decide))]; exact h.2.2.1 q hq2
  · rw [hf _ (sA_ne (by decide))]; exact h.2.2.2
theorem rs_X4_pend {k : Nat} (hi : i < 21) (hS : mj_wS R i) (hk : bOK b) (h : cRr I i b A) (h256 : k < 256) (hv : k % 32 < b 0 1) : RsV w l yX4_pend dd_X4_pend [.ref (sA i 11), .int (nI k)] (472, I, J, R) (fun I' => cRr I' i b (mj_up A 2 k 1) ∧ mSr i I I') := by
  have hz : 50 + 20 * i ≤ 472 := by omega
  have ek : 32 * (k / 32) + k % 32 = k := by omega
  refine rt_intro2 (L := [some (.ref (sA i 11)), some (.int (nI k))]) ⟨by decide, rfl, (fun h => by cases h)⟩ (Nat.le_of_ble_eq_true rfl) rfl (fun Y Q hQ => ?_)
  refine q_iload_n (pc' := 1) dX4_pend_0 rfl rfl (q_if_lt (pc' := 4) (pt := 29) dX4_pend_1 rfl rfl (fun h9 => absurd h9 (Int32.not_lt.mpr (nI_le (a := 0) (by omega) (by omega)))) (fun _ => (q_iload_n (pc' := 5) dX4_pend_4 rfl rfl (q_sipush (pc' := 8) _ dX4_pend_5 rfl kk_sipush_256 (q_icmp_ge (pc' := 11) (pt := 29) dX4_pend_8 rfl rfl (fun h9 => absurd h9 (Int32.not_le.mpr (nI_lt h256 (by decide)))) (fun _ => (q_aload_n (pc' := 12) dX4_pend_11 rfl rfl (q_getR (pc' := 15) dX4_pend_12 rfl fr_RX4_16 (okS hi hz (by decide) rfl) rfl (wS_4_3 hS) (sA_lt hi (by decide)) (q_iload_n (pc' := 16) dX4_pend_15 rfl rfl (q_bipush (pc' := 18) _ dX4_pend_16 rfl kk_bipush_32 (q_idiv (pc' := 19) dX4_pend_18 rfl (by decide) ?_)))))))))))
  refine q_top (d32 k h256) ?_
  refine q_dup2 (pc' := 20) dX4_pend_19 rfl (q_ialde (pc' := 21) (k / 32) dX4_pend_20 rfl (by first | exact ⟨by omega, rfl⟩ | exact okaS hi hz (by decide) rfl | assumption) (by (first | (simp only [nI_add, pk_mul]; done) | (simp only [nI_add, pk_mul]; exact nI_e (by omega)) | exact nI_e (by omega))) (by omega) (h.2.1 (k / 32) (by omega)) (q_iconst (pc' := 22) _ dX4_pend_21 rfl kk_iconst_1 (q_iload_n (pc' := 23) dX4_pend_22 rfl rfl (q_bipush (pc' := 25) _ dX4_pend_23 rfl kk_bipush_32 (q_irem (pc' := 26) dX4_pend_25 rfl (by decide) ?_)))))
  refine q_top (m32 k h256) ?_
  refine q_ishl dX4_pend_26 rfl ?_
  refine q_top (sh32 (k % 32) (by omega)) ?_
  refine q_ior dX4_pend_27 rfl ?_
  refine q_top (set_e hv) ?_
  refine q_iast (pc' := 29) (k / 32) dX4_pend_28 rfl (by first | exact ⟨by omega, rfl⟩ | exact okaS hi hz (by decide) rfl | assumption) (by (first | (simp only [nI_add, pk_mul]; done) | (simp only [nI_add, pk_mul]; exact nI_e (by omega)) | exact nI_e (by omega))) (by omega) ?_
  refine q_vret dX4_pend_29 rfl (hQ _ _ _ _ ⟨rfl, ⟨rfl, rfl⟩, cRr_pe hk h ?_ (fun q hq => mj_up_ne2 hq) (fun a ha => up_fI ha), fun a ha => up_fI (ha 18 (by decide) (by decide))⟩)
  rw [mj_up_eq]
  congr 1
  refine bitN_cong (fun u hu => ?_)
  by_cases eu : u = k % 32
  · rw [if_pos eu, eu]; simp
  · have e2 : (u == k % 32) = false := beq_eq_false_iff_ne.mpr eu
    rw [if_neg eu, e2, Bool.or_false]
theorem rs_X4_unpend {k : Nat} (hi : i < 21) (hS : mj_wS R i) (hk : bOK b) (h : cRr I i b A) (h256 : k < 256) (hv : k % 32 < b 0 1) : RsI w l yX4_unpend dd_X4_unpend [.ref (sA i 11), .int (nI k)] (472, I, J, R) (fun x I' => x = bI (A 2 k == 1) ∧ cRr I' i b (mj_up A 2 k 0) ∧ mSr i I I') := by
  have hz : 50 + 20 * i ≤ 472 := by omega
  have ek : 32 * (k / 32) + k % 32 = k := by omega
  have hv2 := hk.2.1.2
  refine rt_intro2 (L := [some (.ref (sA i 11)), some (.int (nI k)), none]) ⟨by decide, rfl, (fun h => by cases h)⟩ (Nat.le_of_ble_eq_true rfl) rfl (fun Y Q hQ => ?_)
  by_cases hc : A 2 k = 1
  · rw [beq_iff_eq.mpr hc] at hQ
    refine q_aload_n (pc' := 1) dX4_unpend_0 rfl rfl (q_iload_n (pc' := 2) dX4_unpend_1 rfl rfl (q_cVi (pc' := 5) dX4_unpend_2 rfl ml_RX4_75 yv_X4_isPending (by decide) (rn_X4_isPending hi hS hk h h256 hv) (okS hi hz (by decide) rfl) rfl rfl (Nat.le_of_ble_eq_true rfl) (Nat.le_refl _) ?_))
    rw [beq_iff_eq.mpr hc]
    refine q_ist_2 (pc' := 6) dX4_unpend_5 rfl (by decide) rfl (q_iload_n (pc' := 7) dX4_unpend_6 rfl rfl (q_ifb_eq (pc' := 10) (pt := 30) dX4_unpend_7 rfl rfl (fun h9 => Bool.noConfusion (Eq.trans (Eq.symm (rfl)) h9)) (fun _ => (q_aload_n (pc' := 11) dX4_unpend_10 rfl rfl (q_getR (pc' := 14) dX4_unpend_11 rfl fr_RX4_16 (okS hi hz (by decide) rfl) rfl (wS_4_3 hS) (sA_lt hi (by decide)) (q_iload_n (pc' := 15) dX4_unpend_14 rfl rfl (q_bipush (pc' := 17) _ dX4_unpend_15 rfl kk_bipush_32 (q_idiv (pc' := 18) dX4_unpend_17 rfl (by decide) ?_))))))))
    refine q_top (d32 k h256) ?_
    refine q_dup2 (pc' := 19) dX4_unpend_18 rfl (q_ialde (pc' := 20) (k / 32) dX4_unpend_19 rfl (by first | exact ⟨by omega, rfl⟩ | exact okaS hi hz (by decide) rfl | assumption) (by (first | (simp only [nI_add, pk_mul]; done) | (simp only [nI_add, pk_mul]; exact nI_e (by omega)) | exact nI_e (by omega))) (by omega) (h.2.1 (k / 32) (by omega)) (q_iconst (pc' := 21) _ dX4_unpend_20 rfl kk_iconst_1 (q_iload_n (pc' := 22) dX4_unpend_21 rfl rfl (q_bipush (pc' := 24) _ dX4_unpend_22 rfl kk_bipush_32 (q_irem (pc' := 25) dX4_unpend_24 rfl (by decide) ?_)))))
    refine q_top (m32 k h256) ?_
    refine q_ishl dX4_unpend_25 rfl ?_
    refine q_top (sh32 (k % 32) (by omega)) ?_
    refine q_iconst (pc' := 27) _ dX4_unpend_26 rfl kk_iconst_m1 (q_ixor (pc' := 28) dX4_unpend_27 rfl (q_iand (pc' := 29) dX4_unpend_28 rfl ?_))
    refine q_top (clr_e hv2) ?_
    refine q_iast (pc' := 30) (k / 32) dX4_unpend_29 rfl (by first | exact ⟨by omega, rfl⟩ | exact okaS hi hz (by decide) rfl | assumption) (by (first | (simp only [nI_add, pk_mul]; done) | (simp only [nI_add, pk_mul]; exact nI_e (by omega)) | exact nI_e (by omega))) (by omega) (q_iload_n (pc' := 31) dX4_unpend_30 rfl rfl ?_)
    refine q_zret dX4_unpend_31 rfl (bI_01 _) (hQ _ _ _ _ ⟨_, rfl, ⟨rfl, rfl⟩, rfl, cRr_pe hk h ?_ (fun q hq => mj_up_ne2 hq) (fun a ha => up_fI ha), fun a ha => up_fI (ha 18 (by decide) (by decide))⟩)
    rw [mj_up_eq]
    congr 1
    refine bitN_cong (fun u hu => ?_)
    by_cases eu : u = k % 32
    · rw [if_pos eu, eu]; simp
    · have e2 : (u != k % 32) = true := bne_iff_ne.mpr eu
      rw [if_neg eu, e2, Bool.and_true]
  · rw [beq_eq_false_iff_ne.mpr hc] at hQ
    refine q_aload_n (pc' := 1) dX4_unpend_0 rfl rfl (q_iload_n (pc' := 2) dX4_unpend_1 rfl rfl (q_cVi (pc' := 5) dX4_unpend_2 rfl ml_RX4_75 yv_X4_isPending (by decide) (rn_X4_isPending hi hS hk h h256 hv) (okS hi hz (by decide) rfl) rfl rfl (Nat.le_of_ble_eq_true rfl) (Nat.le_refl _) ?_))
    rw [beq_eq_false_iff_ne.mpr hc]
    refine q_ist_2 (pc' := 6) dX4_unpend_5 rfl (by decide) rfl (q_iload_n (pc' := 7) dX4_unpend_6 rfl rfl (q_ifb_eq (pc' := 10) (pt := 30) dX4_unpend_7 rfl rfl (fun _ => (q_iload_n (pc' := 31) dX4_unpend_30 rfl rfl ?_)) (fun h9 => Bool.noConfusion (Eq.trans (Eq.symm (rfl)) h9))))
    refine q_zret dX4_unpend_31 rfl (bI_01 _) (hQ _ _ _ _ ⟨_, rfl, ⟨rfl, rfl⟩, rfl, cRr_pe hk h ?_ (fun q hq => rfl) (fun a ha => rfl), mSr.rf⟩)
    rw [h.2.1 (k / 32) (by omega)]
    congr 1
    refine bitN_cong (fun u hu => ?_)
    by_cases eu : u = k % 32
    · rw [if_pos eu, eu, ek, beq_eq_false_iff_ne.mpr hc]; rfl
    · rw [if_neg eu]
end ROWS5
