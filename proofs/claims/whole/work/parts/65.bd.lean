/-! ===== the class: its board ===== -/
theorem inN_cmp {x : Int32} {n : Nat} (hn : n < 2 ^ 30) : inN x n = true ↔ ¬ x < 0 ∧ ¬ nI n ≤ x := by
  rw [inN_iff hn]
  constructor
  · rintro ⟨j, hj, rfl⟩
    exact ⟨Int32.not_lt.mpr (nI_le (a := 0) (by omega) (by omega)), Int32.not_le.mpr (nI_lt hj (by omega))⟩
  · rintro ⟨h1, h2⟩
    have a1 := Int32.le_iff_toInt_le.mp (Int32.not_lt.mp h1)
    have a2 := Int32.lt_iff_toInt_lt.mp (Int32.not_le.mp h2)
    rw [nI_toInt (by omega)] at a2
    have a0 : ((0 : Int32)).toInt = 0 := by decide
    rw [a0] at a1
    refine ⟨x.toInt.toNat, by omega, ?_⟩
    apply Int32.toInt_inj.mp
    rw [nI_toInt (by omega)]
    omega
section BD
variable {w : mj_Wd} {l : Launch} {I : mj_M} {J : mj_J} {R : mj_R} {b A : St} {i : Nat}
theorem rn_X0_hasCpu {x : Int32} (hb : cB I b) (hk : bOK b) : Rn w l yX0_hasCpu dd_X0_hasCpu [.ref 4, .int x] (472, I, J, R) (some (.int (bI (inN x (b 0 0))))) (472, I, J, R) := by
  have h8 := hk.1.2
  have hc := inN_cmp (x := x) (n := b 0 0) (by omega)
  refine rn_intro2 (L := [some (.ref 4), some (.int x)]) ⟨by decide, rfl, (fun h => by cases h)⟩ (Nat.le_refl _) (Nat.le_of_ble_eq_true rfl) rfl (fun Y Q hQ => ?_)
  by_cases h1 : x < 0
  · rw [show inN x (b 0 0) = false from Bool.eq_false_iff.mpr (fun q => (hc.mp q).1 h1)] at hQ
    exact q_iload_n (pc' := 1) dX0_hasCpu_0 rfl rfl (q_if_lt (pc' := 4) (pt := 16) dX0_hasCpu_1 rfl rfl (fun _ => (q_iconst (pc' := 17) _ dX0_hasCpu_16 rfl kk_iconst_0 (q_zret dX0_hasCpu_17 rfl (by first | exact Or.inl rfl | exact Or.inr rfl | exact bI_01 _) hQ))) (fun h9 => absurd (h1) h9))
  · by_cases h2 : nI (b 0 0) ≤ x
    · rw [show inN x (b 0 0) = false from Bool.eq_false_iff.mpr (fun q => (hc.mp q).2 h2)] at hQ
      exact q_iload_n (pc' := 1) dX0_hasCpu_0 rfl rfl (q_if_lt (pc' := 4) (pt := 16) dX0_hasCpu_1 rfl rfl (fun h9 => absurd h9 (h1)) (fun _ => (q_iload_n (pc' := 5) dX0_hasCpu_4 rfl rfl (q_aload_n (pc' := 6) dX0_hasCpu_5 rfl rfl (q_getIe (pc' := 9) dX0_hasCpu_6 rfl fr_RX0_31 (by first | assumption | exact ⟨by omega, rfl⟩) rfl (cB_0 hb) (q_icmp_ge (pc' := 12) (pt := 16) dX0_hasCpu_9 rfl rfl (fun _ => (q_iconst (pc' := 17) _ dX0_hasCpu_16 rfl kk_iconst_0 (q_zret dX0_hasCpu_17 rfl (by first | exact Or.inl rfl | exact Or.inr rfl | exact bI_01 _) hQ))) (fun h9 => absurd (h2) h9)))))))
    · rw [hc.mpr ⟨h1, h2⟩] at hQ
      exact q_iload_n (pc' := 1) dX0_hasCpu_0 rfl rfl (q_if_lt (pc' := 4) (pt := 16) dX0_hasCpu_1 rfl rfl (fun h9 => absurd h9 (h1)) (fun _ => (q_iload_n (pc' := 5) dX0_hasCpu_4 rfl rfl (q_aload_n (pc' := 6) dX0_hasCpu_5 rfl rfl (q_getIe (pc' := 9) dX0_hasCpu_6 rfl fr_RX0_31 (by first | assumption | exact ⟨by omega, rfl⟩) rfl (cB_0 hb) (q_icmp_ge (pc' := 12) (pt := 16) dX0_hasCpu_9 rfl rfl (fun h9 => absurd h9 (h2)) (fun _ => (q_iconst (pc' := 13) _ dX0_hasCpu_12 rfl kk_iconst_1 (q_goto (pc' := 17) dX0_hasCpu_13 rfl (q_zret dX0_hasCpu_17 rfl (by first | exact Or.inl rfl | exact Or.inr rfl | exact bI_01 _) hQ))))))))))
theorem rn_X0_hasVector {x : Int32} (hb : cB I b) (hk : bOK b) : Rn w l yX0_hasVector dd_X0_hasVector [.ref 4, .int x] (472, I, J, R) (some (.int (bI (inN x (b 0 1))))) (472, I, J, R) := by
  have h8 := hk.2.1.2
  have hc := inN_cmp (x := x) (n := b 0 1) (by omega)
  refine rn_intro2 (L := [some (.ref 4), some (.int x)]) ⟨by decide, rfl, (fun h => by cases h)⟩ (Nat.le_refl _) (Nat.le_of_ble_eq_true rfl) rfl (fun Y Q hQ => ?_)
  by_cases h1 : x < 0
  · rw [show inN x (b 0 1) = false from Bool.eq_false_iff.mpr (fun q => (hc.mp q).1 h1)] at hQ
    exact q_iload_n (pc' := 1) dX0_hasVector_0 rfl rfl (q_if_lt (pc' := 4) (pt := 16) dX0_hasVector_1 rfl rfl (fun _ => (q_iconst (pc' := 17) _ dX0_hasVector_16 rfl kk_iconst_0 (q_zret dX0_hasVector_17 rfl (by first | exact Or.inl rfl | exact Or.inr rfl | exact bI_01 _) hQ))) (fun h9 => absurd (h1) h9))
  · by_cases h2 : nI (b 0 1) ≤ x
    · rw [show inN x (b 0 1) = false from Bool.eq_false_iff.mpr (fun q => (hc.mp q).2 h2)] at hQ
      exact q_iload_n (pc' := 1) dX0_hasVector_0 rfl rfl (q_if_lt (pc' := 4) (pt := 16) dX0_hasVector_1 rfl rfl (fun h9 => absurd h9 (h1)) (fun _ => (q_iload_n (pc' := 5) dX0_hasVector_4 rfl rfl (q_aload_n (pc' := 6) dX0_hasVector_5 rfl rfl (q_getIe (pc' := 9) dX0_hasVector_6 rfl fr_RX0_35 (by first | assumption | exact ⟨by omega, rfl⟩) rfl (cB_1 hb) (q_icmp_ge (pc' := 12) (pt := 16) dX0_hasVector_9 rfl rfl (fun _ => (q_iconst (pc' := 17) _ dX0_hasVector_16 rfl kk_iconst_0 (q_zret dX0_hasVector_17 rfl (by first | exact Or.inl rfl | exact Or.inr rfl | exact bI_01 _) hQ))) (fun h9 => absurd (h2) h9)))))))
    · rw [hc.mpr ⟨h1, h2⟩] at hQ
      exact q_iload_n (pc' := 1) dX0_hasVector_0 rfl rfl (q_if_lt (pc' := 4) (pt := 16) dX0_hasVector_1 rfl rfl (fun h9 => absurd h9 (h1)) (fun _ => (q_iload_n (pc' := 5) dX0_hasVector_4 rfl rfl (q_aload_n (pc' := 6) dX0_hasVector_5 rfl rfl (q_getIe (pc' := 9) dX0_hasVector_6 rfl fr_RX0_35 (by first | assumption | exact ⟨by omega, rfl⟩) rfl (cB_1 hb) (q_icmp_ge (pc' := 12) (pt := 16) dX0_hasVector_9 rfl rfl (fun h9 => absurd h9 (h2)) (fun _ => (q_iconst (pc' := 13) _ dX0_hasVector_12 rfl kk_iconst_1 (q_goto (pc' := 17) dX0_hasVector_13 rfl (q_zret dX0_hasVector_17 rfl (by first | exact Or.inl rfl | exact Or.inr rfl | exact bI_01 _) hQ))))))))))
theorem rn_X0_hasDevice {x : Int32} (hb : cB I b) (hk : bOK b) : Rn w l yX0_hasDevice dd_X0_hasDevice [.ref 4, .int x] (472, I, J, R) (some (.int (bI (inN x (b 0 2))))) (472, I, J, R) := by
  have h8 := hk.2.2.1
  have hc := inN_cmp (x := x) (n := b 0 2) (by omega)
  refine rn_intro2 (L := [some (.ref 4), some (.int x)]) ⟨by decide, rfl, (fun h => by cases h)⟩ (Nat.le_refl _) (Nat.le_of_ble_eq_true rfl) rfl (fun Y Q hQ => ?_)
  by_cases h1 : x < 0
  · rw [show inN x (b 0 2) = false from Bool.eq_false_iff.mpr (fun q => (hc.mp q).1 h1)] at hQ
    exact q_iload_n (pc' := 1) dX0_hasDevice_0 rfl rfl (q_if_lt (pc' := 4) (pt := 16) dX0_hasDevice_1 rfl rfl (fun _ => (q_iconst (pc' := 17) _ dX0_hasDevice_16 rfl kk_iconst_0 (q_zret dX0_hasDevice_17 rfl (by first | exact Or.inl rfl | exact Or.inr rfl | exact bI_01 _) hQ))) (fun h9 => absurd (h1) h9))
  · by_cases h2 : nI (b 0 2) ≤ x
    · rw [show inN x (b 0 2) = false from Bool.eq_false_iff.mpr (fun q => (hc.mp q).2 h2)] at hQ
      exact q_iload_n (pc' := 1) dX0_hasDevice_0 rfl rfl (q_if_lt (pc' := 4) (pt := 16) dX0_hasDevice_1 rfl rfl (fun h9 => absurd h9 (h1)) (fun _ => (q_iload_n (pc' := 5) dX0_hasDevice_4 rfl rfl (q_aload_n (pc' := 6) dX0_hasDevice_5 rfl rfl (q_getIe (pc' := 9) dX0_hasDevice_6 rfl fr_RX0_44 (by first | assumption | exact ⟨by omega, rfl⟩) rfl (cB_4 hb) (q_icmp_ge (pc' := 12) (pt := 16) dX0_hasDevice_9 rfl rfl (fun _ => (q_iconst (pc' := 17) _ dX0_hasDevice_16 rfl kk_iconst_0 (q_zret dX0_hasDevice_17 rfl (by first | exact Or.inl rfl | exact Or.inr rfl | exact bI_01 _) hQ))) (fun h9 => absurd (h2) h9)))))))
    · rw [hc.mpr ⟨h1, h2⟩] at hQ
      exact q_iload_n (pc' := 1) dX0_hasDevice_0 rfl rfl (q_if_lt (pc' := 4) (pt := 16) dX0_hasDevice_1 rfl rfl (fun h9 => absurd h9 (h1)) (fun _ => (q_iload_n (pc' := 5) dX0_hasDevice_4 rfl rfl (q_aload_n (pc' := 6) dX0_hasDevice_5 rfl rfl (q_getIe (pc' := 9) dX0_hasDevice_6 rfl fr_RX0_44 (by first | assumption | exact ⟨by omega, rfl⟩) rfl (cB_4 hb) (q_icmp_ge (pc' := 12) (pt := 16) dX0_hasDevice_9 rfl rfl (fun h9 => absurd h9 (h2)) (fun _ => (q_iconst (pc' := 13) _ dX0_hasDevice_12 rfl kk_iconst_1 (q_goto (pc' := 17) dX0_hasDevice_13 rfl (q_zret dX0_hasDevice_17 rfl (by first | exact Or.inl rfl | exact Or.inr rfl | exact bI_01 _) hQ))))))))))
theorem rn_X0_hasLine {d : Nat} {x : Int32} (hB : mj_wB R 4) (hb : cB I b) (hk : bOK b) (hd : d < b 0 2) : Rn w l yX0_hasLine dd_X0_hasLine [.ref 4, .int (nI d), .int x] (472, I, J, R) (some (.int (bI (inN x (b 2 d))))) (472, I, J, R) := by
  have h10 := hk.2.2.1
  have h8 := (hk.2.2.2 d hd).2.1.2
  have hc := inN_cmp (x := x) (n := b 2 d) (by omega)
  have hin : inN (nI d) (b 0 2) = true := inN_t (by omega) hd
  have e := (hb.2 d hd).2.1
  refine rn_intro2 (L := [some (.ref 4), some (.int (nI d)), some (.int x)]) ⟨by decide, rfl, (fun h => by cases h)⟩ (Nat.le_refl _) (Nat.le_of_ble_eq_true rfl) rfl (fun Y Q hQ => ?_)
  by_cases h1 : x < 0
  · rw [show inN x (b 2 d) = false from Bool.eq_false_iff.mpr (fun q => (hc.mp q).1 h1)] at hQ
    exact q_aload_n (pc' := 1) dX0_hasLine_0 rfl rfl (q_iload_n (pc' := 2) dX0_hasLine_1 rfl rfl (q_cVi (pc' := 5) dX0_hasLine_2 rfl ml_RX0_53 yv_X0_hasDevice (by decide) (rn_X0_hasDevice hb hk) (by first | assumption | exact ⟨by omega, rfl⟩) rfl rfl (Nat.le_of_ble_eq_true rfl) (Nat.le_refl _) (q_ifb_eq (pc' := 8) (pt := 26) dX0_hasLine_5 rfl rfl (fun h9 => Bool.noConfusion (Eq.trans (Eq.symm (hin)) h9)) (fun _ => (q_iload_n (pc' := 9) dX0_hasLine_8 rfl rfl (q_if_lt (pc' := 12) (pt := 26) dX0_hasLine_9 rfl rfl (fun _ => (q_iconst (pc' := 27) _ dX0_hasLine_26 rfl kk_iconst_0 (q_zret dX0_hasLine_27 rfl (by first | exact Or.inl rfl | exact Or.inr rfl | exact bI_01 _) hQ))) (fun h9 => absurd (h1) h9)))))))
  · by_cases h2 : nI (b 2 d) ≤ x
    · rw [show inN x (b 2 d) = false from Bool.eq_false_iff.mpr (fun q => (hc.mp q).2 h2)] at hQ
      exact q_aload_n (pc' := 1) dX0_hasLine_0 rfl rfl (q_iload_n (pc' := 2) dX0_hasLine_1 rfl rfl (q_cVi (pc' := 5) dX0_hasLine_2 rfl ml_RX0_53 yv_X0_hasDevice (by decide) (rn_X0_hasDevice hb hk) (by first | assumption | exact ⟨by omega, rfl⟩) rfl rfl (Nat.le_of_ble_eq_true rfl) (Nat.le_refl _) (q_ifb_eq (pc' := 8) (pt := 26) dX0_hasLine_5 rfl rfl (fun h9 => Bool.noConfusion (Eq.trans (Eq.symm (hin)) h9)) (fun _ => (q_iload_n (pc' := 9) dX0_hasLine_8 rfl rfl (q_if_lt (pc' := 12) (pt := 26) dX0_hasLine_9 rfl rfl (fun h9 => absurd h9 (h1)) (fun _ => (q_iload_n (pc' := 13) dX0_hasLine_12 rfl rfl (q_aload_n (pc' := 14) dX0_hasLine_13 rfl rfl (q_getR (pc' := 17) dX0_hasLine_14 rfl fr_RX0_22 (by first | assumption | exact ⟨by omega, rfl⟩) rfl (wB_8 hB) (by omega) (q_iload_n (pc' := 18) dX0_hasLine_17 rfl rfl (q_ialde (pc' := 19) (d) dX0_hasLine_18 rfl (by first | exact ⟨by omega, rfl⟩ | exact okaS hi hz (by decide) rfl | assumption) (by (first | (simp only [nI_add, pk_mul]; done) | (simp only [nI_add, pk_mul]; exact nI_e (by omega)) | exact nI_e (by omega))) (by omega) e (q_icmp_ge (pc' := 22) (pt := 26) dX0_hasLine_19 rfl rfl (fun _ => (q_iconst (pc' := 27) _ dX0_hasLine_26 rfl kk_iconst_0 (q_zret dX0_hasLine_27 rfl (by first | exact Or.inl rfl | exact Or.inr rfl | exact bI_01 _) hQ))) (fun h9 => absurd (h2) h9))))))))))))))
    · rw [hc.mpr ⟨h1, h2⟩] at hQ
      refine q_aload_n (pc' := 1) dX0_hasLine_0 rfl rfl (q_iload_n (pc' := 2) dX0_hasLine_1 rfl rfl (q_cVi (pc' := 5) dX0_hasLine_2 rfl ml_RX0_53 yv_X0_hasDevice (by decide) (rn_X0_hasDevice hb hk) (by first | assumption | exact ⟨by omega, rfl⟩) rfl rfl (Nat.le_of_ble_eq_true rfl) (Nat.le_refl _) (q_ifb_eq (pc' := 8) (pt := 26) dX0_hasLine_5 rfl rfl (fun h9 => Bool.noConfusion (Eq.trans (Eq.symm (hin)) h9)) (fun _ => (q_iload_n (pc' := 9) dX0_hasLine_8 rfl rfl (q_if_lt (pc' := 12) (pt := 26) dX0_hasLine_9 rfl rfl (fun h9 => absurd h9 (h1)) (fun _ => (q_iload_n (pc' := 13) dX0_hasLine_12 rfl rfl (q_aload_n (pc' := 14) dX0_hasLine_13 rfl rfl (q_getR (pc' := 17) dX0_hasLine_14 rfl fr_RX0_22 (by first | assumption | exact ⟨by omega, rfl⟩) rfl (wB_8 hB) (by omega) (q_iload_n (pc' := 18) dX0_hasLine_17 rfl rfl (q_ialde (pc' := 19) (d) dX0_hasLine_18 rfl (by first | exact ⟨by omega, rfl⟩ | exact okaS hi hz (by decide) rfl | assumption) (by (first | (simp only [nI_add, pk_mul]; done) | (simp only [nI_add, pk_mul]; exact nI_e (by omega)) | exact nI_e (by omega))) (by omega) e (q_icmp_ge (pc' := 22) (pt := 26) dX0_hasLine_19 rfl rfl (fun h9 => absurd h9 (h2)) (fun _ => (q_iconst (pc' := 23) _ dX0_hasLine_22 rfl kk_iconst_1 (q_goto (pc' := 27) dX0_hasLine_23 rfl ?_))))))))))))))))
      exact q_zret dX0_hasLine_27 rfl (by first | exact Or.inl rfl | exact Or.inr rfl | exact bI_01 _) hQ
theorem rn_X0_hasLine0 {x y : Int32} (hb : cB I b) (hk : bOK b) (hx : inN x (b 0 2) = false) : Rn w l yX0_hasLine dd_X0_hasLine [.ref 4, .int x, .int y] (472, I, J, R) (some (.int (bI false))) (472, I, J, R) := by
  refine rn_intro2 (L := [some (.ref 4), some (.int x), some (.int y)]) ⟨by decide, rfl, (fun h => by cases h)⟩ (Nat.le_refl _) (Nat.le_of_ble_eq_true rfl) rfl (fun Y Q hQ => ?_)
  exact q_aload_n (pc' := 1) dX0_hasLine_0 rfl rfl (q_iload_n (pc' := 2) dX0_hasLine_1 rfl rfl (q_cVi (pc' := 5) dX0_hasLine_2 rfl ml_RX0_53 yv_X0_hasDevice (by decide) (rn_X0_hasDevice hb hk) (by first | assumption | exact ⟨by omega, rfl⟩) rfl rfl (Nat.le_of_ble_eq_true rfl) (Nat.le_refl _) (q_ifb_eq (pc' := 8) (pt := 26) dX0_hasLine_5 rfl rfl (fun _ => (q_iconst (pc' := 27) _ dX0_hasLine_26 rfl kk_iconst_0 (q_zret dX0_hasLine_27 rfl (by first | exact Or.inl rfl | exact Or.inr rfl | exact bI_01 _) hQ))) (fun h9 => Bool.noConfusion (Eq.trans (Eq.symm (hx)) h9)))))
theorem rn_X0_allCpus (hb : cB I b) (hk : bOK b) : Rn w l yX0_allCpus dd_X0_allCpus [.ref 4] (472, I, J, R) (some (.int (nI (2 ^ b 0 0 - 1)))) (472, I, J, R) := by
  have h8 := hk.1.2
  refine rn_intro2 (L := [some (.ref 4)]) ⟨by decide, rfl, (fun h => by cases h)⟩ (Nat.le_refl _) (Nat.le_of_ble_eq_true rfl) rfl (fun Y Q hQ => ?_)
  refine q_iconst (pc' := 1) _ dX0_allCpus_0 rfl kk_iconst_1 (q_aload_n (pc' := 2) dX0_allCpus_1 rfl rfl (q_getIe (pc' := 5) dX0_allCpus_2 rfl fr_RX0_31 (by first | assumption | exact ⟨by omega, rfl⟩) rfl (cB_0 hb) (q_ishl (pc' := 6) dX0_allCpus_5 rfl (q_iconst (pc' := 7) _ dX0_allCpus_6 rfl kk_iconst_1 (q_isub (pc' := 8) dX0_allCpus_7 rfl ?_)))))
  refine q_top (sh_m1 h8) ?_
  exact q_iret dX0_allCpus_8 rfl hQ
theorem aSetN_bc {d : Nat} (hk : bOK b) (hs : b 3 d < 2 ^ b 0 0) : bcN (b 3 d) = aSetN b d (b 0 0) := by
  have h8 := hk.1.2
  unfold bcN aSetN
  rw [show (32:Nat) = b 0 0 + (32 - b 0 0) by omega, cntN_add]
  have e2 : cntN (fun k => (b 3 d).testBit (b 0 0 + k)) (32 - b 0 0) = 0 := by
    generalize 32 - b 0 0 = m
    induction m with
    | zero => rfl
    | succ m ih =>
      unfold cntN
      rw [ih, Nat.testBit_lt_two_pow (Nat.lt_of_lt_of_le hs (Nat.pow_le_pow_right (by decide) (Nat.le_add_right _ _)))]
      rfl
  rw [e2]
  rfl
theorem rn_X0_queueCpus0 {d q : Nat} (hB : mj_wB R 4) (hb : cB I b) (hk : bOK b) (hd : d < b 0 2) (h3 : b 1 d ≠ 3) : Rn w l yX0_queueCpus dd_X0_queueCpus [.ref 4, .int (nI d), .int (nI q)] (472, I, J, R) (some (.int (nI 0))) (472, I, J, R) := by
  have h10 := hk.2.2.1
  have hs := hk.2.2.2 d hd
  have eb := hb.2 d hd
  refine rn_intro2 (L := [some (.ref 4), some (.int (nI d)), some (.int (nI q)), none, none, none, none, none, none, none]) ⟨by decide, rfl, (fun h => by cases h)⟩ (Nat.le_refl _) (Nat.le_of_ble_eq_true rfl) rfl (fun Y Q hQ => ?_)
  exact q_aload_n (pc' := 1) dX0_queueCpus_0 rfl rfl (q_getR (pc' := 4) dX0_queueCpus_1 rfl fr_RX0_25 (by first | assumption | exact ⟨by omega, rfl⟩) rfl (wB_9 hB) (by omega) (q_iload_n (pc' := 5) dX0_queueCpus_4 rfl rfl (q_ialde (pc' := 6) (d) dX0_queueCpus_5 rfl (by first | exact ⟨by omega, rfl⟩ | exact okaS hi hz (by decide) rfl | assumption) (by (first | (simp only [nI_add, pk_mul]; done) | (simp only [nI_add, pk_mul]; exact nI_e (by omega)) | exact nI_e (by omega))) (by omega) eb.2.2 (q_cSi (pc' := 9) dX0_queueCpus_6 rfl ml_RX0_63 ys_J6_bitCount_0f7a4 (by decide) (rn_bitCount (by omega)) rfl rfl (Nat.le_of_ble_eq_true rfl) (Nat.le_refl _) (q_ist_3 (pc' := 10) dX0_queueCpus_9 rfl (by decide) rfl (q_aload_n (pc' := 11) dX0_queueCpus_10 rfl rfl (q_getR (pc' := 14) dX0_queueCpus_11 rfl fr_RX0_19 (by first | assumption | exact ⟨by omega, rfl⟩) rfl (wB_7 hB) (by omega) (q_iload_n (pc' := 15) dX0_queueCpus_14 rfl rfl (q_ialde (pc' := 16) (d) dX0_queueCpus_15 rfl (by first | exact ⟨by omega, rfl⟩ | exact okaS hi hz (by decide) rfl | assumption) (by (first | (simp only [nI_add, pk_mul]; done) | (simp only [nI_add, pk_mul]; exact nI_e (by omega)) | exact nI_e (by omega))) (by omega) eb.1 (q_iconst (pc' := 17) _ dX0_queueCpus_16 rfl kk_iconst_3 (q_icmp_ne (pc' := 20) (pt := 24) dX0_queueCpus_17 rfl rfl (fun _ => (q_iconst (pc' := 25) _ dX0_queueCpus_24 rfl kk_iconst_0 (q_iret dX0_queueCpus_25 rfl hQ))) (fun h9 => absurd h9 (nI_ne h3 (by omega) (by omega))))))))))))))
theorem rn_X0_queueCpus {d q : Nat} (hB : mj_wB R 4) (hb : cB I b) (hk : bOK b) (hd : d < b 0 2) (hq : q < 8) (h3 : b 1 d = 3) (hset : b 3 d < 2 ^ b 0 0) : Rn w l yX0_queueCpus dd_X0_queueCpus [.ref 4, .int (nI d), .int (nI q)] (472, I, J, R) (some (.int (nI (aSpread b d q)))) (472, I, J, R) := by
  have hv := hk.1.2
  have h10 : d < 10 := by have := hk.2.2.1; omega
  have hs := hk.2.2.2 d hd
  have hm8 : aSetN b d (b 0 0) ≤ 8 := Nat.le_trans (cntN_le _ _) hv
  have eb := hb.2 d hd
  refine rn_intro2 (L := [some (.ref 4), some (.int (nI d)), some (.int (nI q)), none, none, none, none, none, none, none]) ⟨by decide, rfl, (fun h => by cases h)⟩ (Nat.le_refl _) (Nat.le_of_ble_eq_true rfl) rfl (fun Y Q hQ => ?_)
  by_cases hm0 : aSetN b d (b 0 0) = 0
  · have e0 : aSpread b d q = 0 := by
      unfold aSpread
      have hno : ∀ p, p < b 0 0 → (b 3 d).testBit p = false := fun p hp => by
        refine Bool.eq_false_iff.mpr (fun q => ?_)
        have := cntN_pos (P := fun p => (b 3 d).testBit p) hp q
        unfold aSetN at hm0
        omega
      have : bitN (aSpP b d q) (b 0 0) = bitN (fun _ => false) (b 0 0) := bitN_cong (fun p hp => by unfold aSpP; rw [hno p hp, Bool.false_and])
      rw [this]
      apply Nat.eq_of_testBit_eq
      intro k
      rw [bitN_bit, Bool.and_false, Nat.zero_testBit]
    rw [e0] at hQ
    refine q_aload_n (pc' := 1) dX0_queueCpus_0 rfl rfl (q_getR (pc' := 4) dX0_queueCpus_1 rfl fr_RX0_25 (by first | assumption | exact ⟨by omega, rfl⟩) rfl (wB_9 hB) (by omega) (q_iload_n (pc' := 5) dX0_queueCpus_4 rfl rfl (q_ialde (pc' := 6) (d) dX0_queueCpus_5 rfl (by first | exact ⟨by omega, rfl⟩ | exact okaS hi hz (by decide) rfl | assumption) (by (first | (simp only [nI_add, pk_mul]; done) | (simp only [nI_add, pk_mul]; exact nI_e (by omega)) | exact nI_e (by omega))) (by omega) eb.2.2 (q_cSi (pc' := 9) dX0_queueCpus_6 rfl ml_RX0_63 ys_J6_bitCount_0f7a4 (by decide) (rn_bitCount (by omega)) rfl rfl (Nat.le_of_ble_eq_true rfl) (Nat.le_refl _) ?_))))
    rw [aSetN_bc hk hset, hm0]
    exact q_ist_3 (pc' := 10) dX0_queueCpus_9 rfl (by decide) rfl (q_aload_n (pc' := 11) dX0_queueCpus_10 rfl rfl (q_getR (pc' := 14) dX0_queueCpus_11 rfl fr_RX0_19 (by first | assumption | exact ⟨by omega, rfl⟩) rfl (wB_7 hB) (by omega) (q_iload_n (pc' := 15) dX0_queueCpus_14 rfl rfl (q_ialde (pc' := 16) (d) dX0_queueCpus_15 rfl (by first | exact ⟨by omega, rfl⟩ | exact okaS hi hz (by decide) rfl | assumption) (by (first | (simp only [nI_add, pk_mul]; done) | (simp only [nI_add, pk_mul]; exact nI_e (by omega)) | exact nI_e (by omega))) (by omega) eb.1 (q_iconst (pc' := 17) _ dX0_queueCpus_16 rfl kk_iconst_3 (q_icmp_ne (pc' := 20) (pt := 24) dX0_queueCpus_17 rfl rfl (fun h9 => absurd (congrArg nI h3) h9) (fun _ => (q_iload_n (pc' := 21) dX0_queueCpus_20 rfl rfl (q_if_ne (pc' := 24) (pt := 26) dX0_queueCpus_21 rfl rfl (fun h9 => absurd (rfl) h9) (fun _ => (q_iconst (pc' := 25) _ dX0_queueCpus_24 rfl kk_iconst_0 (q_iret dX0_queueCpus_25 rfl hQ))))))))))))
  · refine q_aload_n (pc' := 1) dX0_queueCpus_0 rfl rfl (q_getR (pc' := 4) dX0_queueCpus_1 rfl fr_RX0_25 (by first | assumption | exact ⟨by omega, rfl⟩) rfl (wB_9 hB) (by omega) (q_iload_n (pc' := 5) dX0_queueCpus_4 rfl rfl (q_ialde (pc' := 6) (d) dX0_queueCpus_5 rfl (by first | exact ⟨by omega, rfl⟩ | exact okaS hi hz (by decide) rfl | assumption) (by (first | (simp only [nI_add, pk_mul]; done) | (simp only [nI_add, pk_mul]; exact nI_e (by omega)) | exact nI_e (by omega))) (by omega) eb.2.2 (q_cSi (pc' := 9) dX0_queueCpus_6 rfl ml_RX0_63 ys_J6_bitCount_0f7a4 (by decide) (rn_bitCount (by omega)) rfl rfl (Nat.le_of_ble_eq_true rfl) (Nat.le_refl _) ?_))))
    rw [aSetN_bc hk hset]
    refine q_ist_3 (pc' := 10) dX0_queueCpus_9 rfl (by decide) rfl (q_aload_n (pc' := 11) dX0_queueCpus_10 rfl rfl (q_getR (pc' := 14) dX0_queueCpus_11 rfl fr_RX0_19 (by first | assumption | exact ⟨by omega, rfl⟩) rfl (wB_7 hB) (by omega) (q_iload_n (pc' := 15) dX0_queueCpus_14 rfl rfl (q_ialde (pc' := 16) (d) dX0_queueCpus_15 rfl (by first | exact ⟨by omega, rfl⟩ | exact okaS hi hz (by decide) rfl | assumption) (by (first | (simp only [nI_add, pk_mul]; done) | (simp only [nI_add, pk_mul]; exact nI_e (by omega)) | exact nI_e (by omega))) (by omega) eb.1 (q_iconst (pc' := 17) _ dX0_queueCpus_16 rfl kk_iconst_3 (q_icmp_ne (pc' := 20) (pt := 24) dX0_queueCpus_17 rfl rfl (fun h9 => absurd (congrArg nI h3) h9) (fun _ => (q_iload_n (pc' := 21) dX0_queueCpus_20 rfl rfl (q_if_ne (pc' := 24) (pt := 26) dX0_queueCpus_21 rfl rfl (fun _ => (q_aload_n (pc' := 27) dX0_queueCpus_26 rfl rfl (q_getR (pc' := 30) dX0_queueCpus_27 rfl fr_RX0_22 (by first | assumption | exact ⟨by omega, rfl⟩) rfl (wB_8 hB) (by omega) (q_iload_n (pc' := 31) dX0_queueCpus_30 rfl rfl (q_ialde (pc' := 32) (d) dX0_queueCpus_31 rfl (by first | exact ⟨by omega, rfl⟩ | exact okaS hi hz (by decide) rfl | assumption) (by (first | (simp only [nI_add, pk_mul]; done) | (simp only [nI_add, pk_mul]; exact nI_e (by omega)) | exact nI_e (by omega))) (by omega) eb.2.1 (q_ist_4 (pc' := 34) dX0_queueCpus_32 rfl (by decide) rfl ?_)))))) (fun h9 => absurd h9 (nI_ne (b := 0) hm0 (by omega) (by omega))))))))))))
    refine q_iconst (pc' := 35) _ dX0_queueCpus_34 rfl kk_iconst_0 (q_ist_5 (pc' := 37) dX0_queueCpus_35 rfl (by decide) rfl (q_iconst (pc' := 38) _ dX0_queueCpus_37 rfl kk_iconst_0 (q_ist_6 (pc' := 40) dX0_queueCpus_38 rfl (by decide) rfl (q_iconst (pc' := 41) _ dX0_queueCpus_40 rfl kk_iconst_0 (q_ist_7 (pc' := 43) dX0_queueCpus_41 rfl (by decide) rfl ?_)))))
    have loop : ∀ m k (o8 o9 : Option Value), k + m = b 0 0 → Wq dd_X0_queueCpus (mj_mk w l 472 Y) Q 43 [some (.ref 4), some (.int (nI d)), some (.int (nI q)), some (.int (nI (aSetN b d (b 0 0)))), some (.int (nI (b 2 d))), some (.int (nI (bitN (aSpP b d q) k))), some (.int (nI (aSetN b d k))), some (.int (nI k)), o8, o9] [] (472, I, J, R) := by
      intro m
      induction m with
      | zero =>
        intro k o8 o9 hkm
        have hkz : k = b 0 0 := by omega
        subst hkz
        exact q_iload (pc' := 45) dX0_queueCpus_43 rfl rfl (q_aload_n (pc' := 46) dX0_queueCpus_45 rfl rfl (q_getIe (pc' := 49) dX0_queueCpus_46 rfl fr_RX0_31 (by first | assumption | exact ⟨by omega, rfl⟩) rfl (cB_0 hb) (q_icmp_ge (pc' := 52) (pt := 131) dX0_queueCpus_49 rfl rfl (fun _ => (q_iload (pc' := 133) dX0_queueCpus_131 rfl rfl (q_iret dX0_queueCpus_133 rfl hQ))) (fun h9 => absurd (by (first | assumption | exact nI_le (by omega) (by omega) | exact nI_ge (by omega) (by omega) | exact nI_lt (by omega) (by omega) | exact nI_nlt (by omega) (by omega) | exact nI_ne (by omega) (by omega) (by omega) | exact nI_e (by omega) | decide)) h9))))
      | succ m ih =>
        intro k o8 o9 hkm
        have hik : aSetN b d k ≤ 8 := Nat.le_trans (cntN_le _ _) (by omega)
        have e := ubit (show b 3 d < 2 ^ 32 by omega) (show k < 32 by omega)
        by_cases h1 : (b 3 d).testBit k = true
        · rw [h1, decide_eq_true_iff] at e
          have e2 : nI (aSetN b d k) + nI 1 = nI (aSetN b d (k + 1)) := by
            have := nI_cnt (fun p => (b 3 d).testBit p) k
            rw [h1] at this
            exact this
          refine q_iload (pc' := 45) dX0_queueCpus_43 rfl rfl (q_aload_n (pc' := 46) dX0_queueCpus_45 rfl rfl (q_getIe (pc' := 49) dX0_queueCpus_46 rfl fr_RX0_31 (by first | assumption | exact ⟨by omega, rfl⟩) rfl (cB_0 hb) (q_icmp_ge (pc' := 52) (pt := 131) dX0_queueCpus_49 rfl rfl (fun h9 => absurd h9 (by (first | assumption | exact nI_le (by omega) (by omega) | exact nI_ge (by omega) (by omega) | exact nI_lt (by omega) (by omega) | exact nI_nlt (by omega) (by omega) | exact nI_ne (by omega) (by omega) (by omega) | exact nI_e (by omega) | decide))) (fun _ => (q_aload_n (pc' := 53) dX0_queueCpus_52 rfl rfl (q_getR (pc' := 56) dX0_queueCpus_53 rfl fr_RX0_25 (by first | assumption | exact ⟨by omega, rfl⟩) rfl (wB_9 hB) (by omega) (q_iload_n (pc' := 57) dX0_queueCpus_56 rfl rfl (q_ialde (pc' := 58) (d) dX0_queueCpus_57 rfl (by first | exact ⟨by omega, rfl⟩ | exact okaS hi hz (by decide) rfl | assumption) (by (first | (simp only [nI_add, pk_mul]; done) | (simp only [nI_add, pk_mul]; exact nI_e (by omega)) | exact nI_e (by omega))) (by omega) eb.2.2 (q_iload (pc' := 60) dX0_queueCpus_58 rfl rfl (q_iushr (pc' := 61) dX0_queueCpus_60 rfl (q_iconst (pc' := 62) _ dX0_queueCpus_61 rfl kk_iconst_1 (q_iand (pc' := 63) dX0_queueCpus_62 rfl (q_iconst (pc' := 64) _ dX0_queueCpus_63 rfl kk_iconst_1 (q_icmp_ne (pc' := 67) (pt := 125) dX0_queueCpus_64 rfl rfl (fun h9 => absurd (e) h9) (fun _ => ?_)))))))))))))))
          have tail : ∀ x y, x < 100 → y < 100 → aSpP b d q k = (x == y) → Wq dd_X0_queueCpus (mj_mk w l 472 Y) Q 102 [some (.ref 4), some (.int (nI d)), some (.int (nI q)), some (.int (nI (aSetN b d (b 0 0)))), some (.int (nI (b 2 d))), some (.int (nI (bitN (aSpP b d q) k))), some (.int (nI (aSetN b d k))), some (.int (nI k)), some (.int (nI x)), some (.int (nI y))] [] (472, I, J, R) := by
            intro x y hx hy hr
            by_cases exy : x = y
            · rw [beq_iff_eq.mpr exy] at hr
              refine q_iload (pc' := 104) dX0_queueCpus_102 rfl rfl (q_iload (pc' := 106) dX0_queueCpus_104 rfl rfl (q_iload (pc' := 108) dX0_queueCpus_106 rfl rfl (q_icmp_ne (pc' := 111) (pt := 118) dX0_queueCpus_108 rfl rfl (fun h9 => absurd (congrArg nI exy) h9) (fun _ => (q_iconst (pc' := 112) _ dX0_queueCpus_111 rfl kk_iconst_1 (q_iload (pc' := 114) dX0_queueCpus_112 rfl rfl (q_ishl (pc' := 115) dX0_queueCpus_114 rfl ?_)))))))
              refine q_top (y := nI ((if aSpP b d q k = true then 1 else 0) * 2 ^ k)) (by rw [sh32 k (by omega), if_pos hr, Nat.one_mul]) ?_
              refine q_goto (pc' := 119) dX0_queueCpus_115 rfl ?_
              refine q_ior dX0_queueCpus_119 rfl ?_
              refine q_top (bitN_or (aSpP b d q) k) ?_
              refine q_ist_5 (pc' := 122) dX0_queueCpus_120 rfl (by decide) rfl ?_
              refine q_iinc_6 (pc' := 125) _ dX0_queueCpus_122 rfl (by decide) rfl e2 ?_
              refine q_inc_7 (pc' := 128) dX0_queueCpus_125 rfl (by decide) rfl (q_goto (pc' := 43) dX0_queueCpus_128 rfl ?_)
              exact ih (k + 1) _ _ (by omega)
            · rw [beq_eq_false_iff_ne.mpr exy] at hr
              refine q_iload (pc' := 104) dX0_queueCpus_102 rfl rfl (q_iload (pc' := 106) dX0_queueCpus_104 rfl rfl (q_iload (pc' := 108) dX0_queueCpus_106 rfl rfl (q_icmp_ne (pc' := 111) (pt := 118) dX0_queueCpus_108 rfl rfl (fun _ => (q_iconst (pc' := 119) _ dX0_queueCpus_118 rfl kk_iconst_0 ?_)) (fun h9 => absurd h9 (nI_ne exy (by omega) (by omega))))))
              refine q_top (y := nI ((if aSpP b d q k = true then 1 else 0) * 2 ^ k)) (by rw [if_neg (by rw [hr]; decide), Nat.zero_mul]) ?_
              refine q_ior dX0_queueCpus_119 rfl ?_
              refine q_top (bitN_or (aSpP b d q) k) ?_
              refine q_ist_5 (pc' := 122) dX0_queueCpus_120 rfl (by decide) rfl ?_
              refine q_iinc_6 (pc' := 125) _ dX0_queueCpus_122 rfl (by decide) rfl e2 ?_
              refine q_inc_7 (pc' := 128) dX0_queueCpus_125 rfl (by decide) rfl (q_goto (pc' := 43) dX0_queueCpus_128 rfl ?_)
              exact ih (k + 1) _ _ (by omega)
          by_cases hle : b 2 d ≤ aSetN b d (b 0 0)
          · have h7 : aSetN b d k * b 2 d ≤ 8 * 8 := Nat.mul_le_mul hik hs.2.1.2
            have e1 := pk_div (a := aSetN b d k * b 2 d) (d := aSetN b d (b 0 0)) (by omega) (by omega) (by omega)
            have h8 := Nat.div_le_self (aSetN b d k * b 2 d) (aSetN b d (b 0 0))
            refine q_iload_n (pc' := 68) dX0_queueCpus_67 rfl rfl (q_iload (pc' := 70) dX0_queueCpus_68 rfl rfl (q_icmp_lt (pc' := 73) (pt := 83) dX0_queueCpus_70 rfl rfl (fun h9 => absurd h9 (Int32.not_lt.mpr (nI_le hle (by omega)))) (fun _ => (q_iload (pc' := 75) dX0_queueCpus_73 rfl rfl (q_iload (pc' := 77) dX0_queueCpus_75 rfl rfl (q_imul (pc' := 78) dX0_queueCpus_77 rfl ?_))))))
            refine q_top (pk_mul _ _) ?_
            refine q_iload_n (pc' := 79) dX0_queueCpus_78 rfl rfl (q_idiv (pc' := 80) dX0_queueCpus_79 rfl (nI_ne0 (by omega) (by omega)) ?_)
            refine q_top e1 ?_
            refine q_goto (pc' := 85) dX0_queueCpus_80 rfl (q_ist_8 (pc' := 87) dX0_queueCpus_85 rfl (by decide) rfl (q_iload_n (pc' := 88) dX0_queueCpus_87 rfl rfl (q_iload (pc' := 90) dX0_queueCpus_88 rfl rfl (q_icmp_lt (pc' := 93) (pt := 97) dX0_queueCpus_90 rfl rfl (fun h9 => absurd h9 (Int32.not_lt.mpr (nI_le hle (by omega)))) (fun _ => (q_iload_n (pc' := 94) dX0_queueCpus_93 rfl rfl (q_goto (pc' := 100) dX0_queueCpus_94 rfl (q_ist_9 (pc' := 102) dX0_queueCpus_100 rfl (by decide) rfl ?_))))))))
            exact tail _ _ (by omega) (by omega) (by unfold aSpP; rw [h1, if_pos hle, Bool.true_and])
          · have e1 := pk_rem (a := q) (d := aSetN b d (b 0 0)) (by omega) (by omega) (by omega)
            have h9' : q % aSetN b d (b 0 0) < 8 := Nat.lt_of_le_of_lt (Nat.mod_le _ _) hq
            refine q_iload_n (pc' := 68) dX0_queueCpus_67 rfl rfl (q_iload (pc' := 70) dX0_queueCpus_68 rfl rfl (q_icmp_lt (pc' := 73) (pt := 83) dX0_queueCpus_70 rfl rfl (fun _ => (q_iload (pc' := 85) dX0_queueCpus_83 rfl rfl (q_ist_8 (pc' := 87) dX0_queueCpus_85 rfl (by decide) rfl (q_iload_n (pc' := 88) dX0_queueCpus_87 rfl rfl (q_iload (pc' := 90) dX0_queueCpus_88 rfl rfl (q_icmp_lt (pc' := 93) (pt := 97) dX0_queueCpus_90 rfl rfl (fun _ => (q_iload_n (pc' := 98) dX0_queueCpus_97 rfl rfl (q_iload_n (pc' := 99) dX0_queueCpus_98 rfl rfl (q_irem (pc' := 100) dX0_queueCpus_99 rfl (nI_ne0 (by omega) (by omega)) ?_)))) (fun h9 => absurd (nI_lt (by omega) (by omega)) h9))))))) (fun h9 => absurd (nI_lt (by omega) (by omega)) h9)))
            refine q_top e1 ?_
            refine q_ist_9 (pc' := 102) dX0_queueCpus_100 rfl (by decide) rfl ?_
            exact tail _ _ (by omega) (by omega) (by unfold aSpP; rw [h1, if_neg hle, Bool.true_and]; exact BEq.comm)
        · rw [Bool.not_eq_true] at h1
          rw [h1, decide_eq_false_iff_not] at e
          have e1 : bitN (aSpP b d q) (k + 1) = bitN (aSpP b d q) k := by
            show bitN (aSpP b d q) k + (if aSpP b d q k = true then 1 else 0) * 2 ^ k = _
            rw [if_neg (by unfold aSpP; rw [h1]; exact fun z => Bool.noConfusion z), Nat.zero_mul]
            rfl
          have e2 : aSetN b d (k + 1) = aSetN b d k := by
            show aSetN b d k + (if (b 3 d).testBit k = true then 1 else 0) = _
            rw [h1, if_neg (by decide)]
            rfl
          have next := fun o8 o9 => ih (k + 1) o8 o9 (by omega)
          rw [e1, e2] at next
          refine q_iload (pc' := 45) dX0_queueCpus_43 rfl rfl (q_aload_n (pc' := 46) dX0_queueCpus_45 rfl rfl (q_getIe (pc' := 49) dX0_queueCpus_46 rfl fr_RX0_31 (by first | assumption | exact ⟨by omega, rfl⟩) rfl (cB_0 hb) (q_icmp_ge (pc' := 52) (pt := 131) dX0_queueCpus_49 rfl rfl (fun h9 => absurd h9 (by (first | assumption | exact nI_le (by omega) (by omega) | exact nI_ge (by omega) (by omega) | exact nI_lt (by omega) (by omega) | exact nI_nlt (by omega) (by omega) | exact nI_ne (by omega) (by omega) (by omega) | exact nI_e (by omega) | decide))) (fun _ => (q_aload_n (pc' := 53) dX0_queueCpus_52 rfl rfl (q_getR (pc' := 56) dX0_queueCpus_53 rfl fr_RX0_25 (by first | assumption | exact ⟨by omega, rfl⟩) rfl (wB_9 hB) (by omega) (q_iload_n (pc' := 57) dX0_queueCpus_56 rfl rfl (q_ialde (pc' := 58) (d) dX0_queueCpus_57 rfl (by first | exact ⟨by omega, rfl⟩ | exact okaS hi hz (by decide) rfl | assumption) (by (first | (simp only [nI_add, pk_mul]; done) | (simp only [nI_add, pk_mul]; exact nI_e (by omega)) | exact nI_e (by omega))) (by omega) eb.2.2 (q_iload (pc' := 60) dX0_queueCpus_58 rfl rfl (q_iushr (pc' := 61) dX0_queueCpus_60 rfl (q_iconst (pc' := 62) _ dX0_queueCpus_61 rfl kk_iconst_1 (q_iand (pc' := 63) dX0_queueCpus_62 rfl (q_iconst (pc' := 64) _ dX0_queueCpus_63 rfl kk_iconst_1 (q_icmp_ne (pc' := 67) (pt := 125) dX0_queueCpus_64 rfl rfl (fun _ => ?_) (fun h9 => absurd h9 (e))))))))))))))))
          refine q_inc_7 (pc' := 128) dX0_queueCpus_125 rfl (by decide) rfl (q_goto (pc' := 43) dX0_queueCpus_128 rfl ?_)
          exact next _ _
    exact loop (b 0 0) 0 _ _ (by omega)
end BD
