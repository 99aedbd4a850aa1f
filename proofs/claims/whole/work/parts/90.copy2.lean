/-! ===== one state of the class copied into another ===== -/
/-- nothing changes but the cells of one state, from one on -/
def mSc (i lo : Nat) (I I' : mj_M) : Prop := ∀ a, (∀ c, lo ≤ c → c < 20 → a ≠ sA i c) → I' a = I a
theorem mSc.s {i lo : Nat} {I I' : mj_M} (h : mSc i lo I I') : mS i I I' := fun a ha => h a (fun c _ hc => ha c hc)
theorem sA_o {i i2 c e : Nat} (h : i2 ≠ i) (hc : c < 20) (he : e < 20) : sA i2 c ≠ sA i e := by unfold sA; omega
theorem mS_o {i i2 c : Nat} {I I' : mj_M} (h : mS i I I') (hn : i2 ≠ i) (hc : c < 20) : I' (sA i2 c) = I (sA i2 c) := h _ (fun e he => sA_o hn hc he)
theorem cpf_ne {I : mj_M} {a n x : Nat} {f : Nat → Int32} (h : x ≠ a) : mj_cp I a n f x = I x := by
  funext k
  unfold mj_cp
  rw [if_neg (fun q => h q.1)]
theorem cpf_eq {I : mj_M} {a n k : Nat} {f : Nat → Int32} (h : k < n) : mj_cp I a n f a k = f k := if_pos ⟨rfl, h⟩
section COPY2
variable {w : mj_Wd} {l : Launch} {I : mj_M} {J : mj_J} {R : mj_R} {b A : St} {i i2 : Nat}
theorem rs_X4_copyFrom (hi : i < 21) (hi2 : i2 < 21) (hne : i2 ≠ i) (hS : mj_wS R i) (hS2 : mj_wS R i2) (h : cRr I i2 b A) : RsV w l yX4_copyFrom dd_X4_copyFrom [.ref (sA i 11), .ref (sA i2 11)] (472, I, J, R) (fun I' => cRr I' i b A ∧ mSc i 11 I I') := by
  have hz : 50 + 20 * i ≤ 472 := by omega
  have hz2 : 50 + 20 * i2 ≤ 472 := by omega
  refine rt_intro2 (L := [some (.ref (sA i 11)), some (.ref (sA i2 11)), none]) ⟨by decide, rfl, (fun h => by cases h)⟩ (Nat.le_of_ble_eq_true rfl) rfl (fun Y Q hQ => ?_)
  have loop : ∀ m k I1, k + m = 5 → mSc i 11 I I1 → I1 (sA i 11) 1 = I (sA i2 11) 1 → (∀ s, s < k → ∀ p, p < 8 → I1 (sA i (13 + s)) p = I (sA i2 (13 + s)) p) → Wq dd_X4_copyFrom (mj_mk w l 472 Y) Q 10 [some (.ref (sA i 11)), some (.ref (sA i2 11)), some (.int (nI k))] [] (472, I1, J, R) := by
    intro m
    induction m with
    | zero =>
      intro k I1 hk hm h1 h2
      have hk5 : k = 5 := by omega
      subst hk5
      have hm' := hm.s
      refine q_iload_n (pc' := 11) dX4_copyFrom_10 rfl rfl (q_iconst (pc' := 12) _ dX4_copyFrom_11 rfl kk_iconst_5 (q_icmp_ge (pc' := 15) (pt := 40) dX4_copyFrom_12 rfl rfl (fun _ => (q_aload_n (pc' := 41) dX4_copyFrom_40 rfl rfl (q_getR (pc' := 44) dX4_copyFrom_41 rfl fr_RX4_16 (okS hi2 hz2 (by decide) rfl) rfl (wS_4_3 hS2) (sA_lt hi2 (by decide)) (q_iconst (pc' := 45) _ dX4_copyFrom_44 rfl kk_iconst_0 (q_aload_n (pc' := 46) dX4_copyFrom_45 rfl rfl (q_getR (pc' := 49) dX4_copyFrom_46 rfl fr_RX4_16 (okS hi hz (by decide) rfl) rfl (wS_4_3 hS) (sA_lt hi (by decide)) (q_iconst (pc' := 50) _ dX4_copyFrom_49 rfl kk_iconst_0 (q_bipush (pc' := 52) _ dX4_copyFrom_50 rfl kk_bipush_8 (q_copyI (pc' := 55) dX4_copyFrom_52 rfl ml_RX4_52 (by decide) (okaS hi2 hz2 (by decide) rfl) (okaS hi hz (by decide) rfl) (Nat.le_of_ble_eq_true rfl) (q_aload_n (pc' := 56) dX4_copyFrom_55 rfl rfl (q_getR (pc' := 59) dX4_copyFrom_56 rfl fr_RX4_20 (okS hi2 hz2 (by decide) rfl) rfl (wS_4_4 hS2) (sA_lt hi2 (by decide)) (q_iconst (pc' := 60) _ dX4_copyFrom_59 rfl kk_iconst_0 ?_)))))))))))) (fun h9 => absurd (by (first | assumption | exact nI_le (by omega) (by omega) | exact nI_ge (by omega) (by omega) | exact nI_lt (by omega) (by omega) | exact nI_nlt (by omega) (by omega) | exact nI_ne (by omega) (by omega) (by omega) | exact nI_e (by omega) | decide)) h9)))
      refine q_aload_n (pc' := 61) dX4_copyFrom_60 rfl rfl (q_getR (pc' := 64) dX4_copyFrom_61 rfl fr_RX4_20 (okS hi hz (by decide) rfl) rfl (wS_4_4 hS) (sA_lt hi (by decide)) (q_iconst (pc' := 65) _ dX4_copyFrom_64 rfl kk_iconst_0 (q_sipush (pc' := 68) _ dX4_copyFrom_65 rfl kk_sipush_256 (q_copyI (pc' := 71) dX4_copyFrom_68 rfl ml_RX4_52 (by decide) (okaS hi2 hz2 (by decide) rfl) (okaS hi hz (by decide) rfl) (Nat.le_of_ble_eq_true rfl) ?_))))
      refine q_vret dX4_copyFrom_71 rfl (hQ _ _ _ _ ⟨rfl, ⟨rfl, rfl⟩, ⟨fun s hs p hp => ?_, fun p hp => ?_, fun k hk => ?_, ?_⟩, fun a ha => ?_⟩)
      · rw [cpf_ne (sA_ne (by omega)), cpf_ne (sA_ne (by omega)), h2 s hs p hp]; exact h.1 s hs p hp
      · rw [cpf_ne (sA_ne (by decide)), cpf_eq hp, mS_o hm' hne (by decide)]; exact h.2.1 p hp
      · rw [cpf_eq hk, cpf_ne (sA_o hne (by decide) (by decide)), mS_o hm' hne (by decide)]; exact h.2.2.1 k hk
      · rw [cpf_ne (sA_ne (by decide)), cpf_ne (sA_ne (by decide)), h1]; exact h.2.2.2
      · rw [cpf_ne (ha 19 (by decide) (by decide)), cpf_ne (ha 18 (by decide) (by decide))]
        exact hm a ha
    | succ m ih =>
      intro k I1 hk hm h1 h2
      have hk5 : k < 5 := by omega
      have hm' := hm.s
      refine q_iload_n (pc' := 11) dX4_copyFrom_10 rfl rfl (q_iconst (pc' := 12) _ dX4_copyFrom_11 rfl kk_iconst_5 (q_icmp_ge (pc' := 15) (pt := 40) dX4_copyFrom_12 rfl rfl (fun h9 => absurd h9 (by (first | assumption | exact nI_le (by omega) (by omega) | exact nI_ge (by omega) (by omega) | exact nI_lt (by omega) (by omega) | exact nI_nlt (by omega) (by omega) | exact nI_ne (by omega) (by omega) (by omega) | exact nI_e (by omega) | decide))) (fun _ => (q_aload_n (pc' := 16) dX4_copyFrom_15 rfl rfl (q_getR (pc' := 19) dX4_copyFrom_16 rfl fr_RX4_11 (okS hi2 hz2 (by decide) rfl) rfl (wS_4_2 hS2) (sA_lt hi2 (by decide)) (q_iload_n (pc' := 20) dX4_copyFrom_19 rfl rfl (q_aald (pc' := 21) _ dX4_copyFrom_20 rfl (okaS hi2 hz2 (by decide) rfl) (by first | exact Or.inl rfl | exact Or.inr rfl) rfl (by omega) (wS_row hS2 (by omega)) (sA_lt hi2 (by omega)) (q_iconst (pc' := 22) _ dX4_copyFrom_21 rfl kk_iconst_0 (q_aload_n (pc' := 23) dX4_copyFrom_22 rfl rfl (q_getR (pc' := 26) dX4_copyFrom_23 rfl fr_RX4_11 (okS hi hz (by decide) rfl) rfl (wS_4_2 hS) (sA_lt hi (by decide)) (q_iload_n (pc' := 27) dX4_copyFrom_26 rfl rfl (q_aald (pc' := 28) _ dX4_copyFrom_27 rfl (by first | exact ⟨by omega, rfl⟩ | exact okaS hi hz (by decide) rfl | assumption) (by first | exact Or.inl rfl | exact Or.inr rfl) rfl (by omega) (wS_row hS (by omega)) (sA_lt hi (by omega)) (q_iconst (pc' := 29) _ dX4_copyFrom_28 rfl kk_iconst_0 (q_bipush (pc' := 31) _ dX4_copyFrom_29 rfl kk_bipush_8 ?_))))))))))))))
      refine q_copyI (pc' := 34) dX4_copyFrom_31 rfl ml_RX4_52 (by decide) (mj_oka_row hi2 hk5) (mj_oka_row hi hk5) (Nat.le_of_ble_eq_true rfl) (q_inc_2 (pc' := 37) dX4_copyFrom_34 rfl (by decide) rfl (q_goto (pc' := 10) dX4_copyFrom_37 rfl ?_))
      refine ih (k + 1) _ (by omega) (fun a ha => ?_) ?_ (fun s hs p hp => ?_)
      · rw [cpf_ne (ha (13 + k) (by omega) (by omega))]; exact hm a ha
      · rw [cpf_ne (sA_ne (by omega)), h1]
      · by_cases e : s = k
        · subst e
          rw [cpf_eq hp, mS_o hm' hne (by omega)]
        · rw [cpf_ne (sA_ne (by omega))]
          exact h2 s (by omega) p hp
  refine q_aload_n (pc' := 1) dX4_copyFrom_0 rfl rfl (q_aload_n (pc' := 2) dX4_copyFrom_1 rfl rfl (q_getI (pc' := 5) dX4_copyFrom_2 rfl fr_RX4_49 (okS hi2 hz2 (by decide) rfl) rfl (q_putI (pc' := 8) dX4_copyFrom_5 rfl fl_RX4_49 (okS hi hz (by decide) rfl) rfl (q_iconst (pc' := 9) _ dX4_copyFrom_8 rfl kk_iconst_0 (q_ist_2 (pc' := 10) dX4_copyFrom_9 rfl (by decide) rfl ?_)))))
  exact loop 5 0 _ rfl (fun a ha => up_fI (ha 11 (by decide) (by decide))) mj_up_eq (fun s hs => absurd hs (Nat.not_lt_zero s))
theorem rs_X8_copyFrom (hi : i < 21) (hi2 : i2 < 21) (hne : i2 ≠ i) (hS : mj_wS R i) (hS2 : mj_wS R i2) (h : cRt I i2 A) : RsV w l yX8_copyFrom dd_X8_copyFrom [.ref (sA i 1), .ref (sA i2 1)] (472, I, J, R) (fun I' => cRt I' i A ∧ mSt i I I') := by
  have hz : 50 + 20 * i ≤ 472 := by omega
  have hz2 : 50 + 20 * i2 ≤ 472 := by omega
  have no : ∀ {c e : Nat}, c < 20 → e < 20 → sA i2 c ≠ sA i e := fun hc he => sA_o hne hc he
  refine rt_intro2 (L := [some (.ref (sA i 1)), some (.ref (sA i2 1))]) ⟨by decide, rfl, (fun h => by cases h)⟩ (Nat.le_of_ble_eq_true rfl) rfl (fun Y Q hQ => ?_)
  refine q_aload_n (pc' := 1) dX8_copyFrom_0 rfl rfl (q_aload_n (pc' := 2) dX8_copyFrom_1 rfl rfl (q_getI (pc' := 5) dX8_copyFrom_2 rfl fr_RX8_27 (okS hi2 hz2 (by decide) rfl) rfl (q_putI (pc' := 8) dX8_copyFrom_5 rfl fl_RX8_27 (okS hi hz (by decide) rfl) rfl (q_aload_n (pc' := 9) dX8_copyFrom_8 rfl rfl (q_aload_n (pc' := 10) dX8_copyFrom_9 rfl rfl (q_getI (pc' := 13) dX8_copyFrom_10 rfl fr_RX8_31 (okS hi2 hz2 (by decide) rfl) rfl (q_putI (pc' := 16) dX8_copyFrom_13 rfl fl_RX8_31 (okS hi hz (by decide) rfl) rfl (q_aload_n (pc' := 17) dX8_copyFrom_16 rfl rfl (q_getR (pc' := 20) dX8_copyFrom_17 rfl fr_RX8_9 (okS hi2 hz2 (by decide) rfl) rfl (wS_8_2 hS2) (sA_lt hi2 (by decide)) (q_iconst (pc' := 21) _ dX8_copyFrom_20 rfl kk_iconst_0 (q_aload_n (pc' := 22) dX8_copyFrom_21 rfl rfl (q_getR (pc' := 25) dX8_copyFrom_22 rfl fr_RX8_9 (okS hi hz (by decide) rfl) rfl (wS_8_2 hS) (sA_lt hi (by decide)) (q_iconst (pc' := 26) _ dX8_copyFrom_25 rfl kk_iconst_0 ?_)))))))))))))
  refine q_bipush (pc' := 28) _ dX8_copyFrom_26 rfl kk_bipush_10 (q_copyI (pc' := 31) dX8_copyFrom_28 rfl ml_RX8_40 (by decide) (okaS hi2 hz2 (by decide) rfl) (okaS hi hz (by decide) rfl) (Nat.le_of_ble_eq_true rfl) (q_aload_n (pc' := 32) dX8_copyFrom_31 rfl rfl (q_getR (pc' := 35) dX8_copyFrom_32 rfl fr_RX8_15 (okS hi2 hz2 (by decide) rfl) rfl (wS_8_3 hS2) (sA_lt hi2 (by decide)) (q_iconst (pc' := 36) _ dX8_copyFrom_35 rfl kk_iconst_0 (q_aload_n (pc' := 37) dX8_copyFrom_36 rfl rfl (q_getR (pc' := 40) dX8_copyFrom_37 rfl fr_RX8_15 (okS hi hz (by decide) rfl) rfl (wS_8_3 hS) (sA_lt hi (by decide)) (q_iconst (pc' := 41) _ dX8_copyFrom_40 rfl kk_iconst_0 (q_bipush (pc' := 43) _ dX8_copyFrom_41 rfl kk_bipush_10 (q_copyI (pc' := 46) dX8_copyFrom_43 rfl ml_RX8_40 (by decide) (okaS hi2 hz2 (by decide) rfl) (okaS hi hz (by decide) rfl) (Nat.le_of_ble_eq_true rfl) (q_aload_n (pc' := 47) dX8_copyFrom_46 rfl rfl (q_getR (pc' := 50) dX8_copyFrom_47 rfl fr_RX8_18 (okS hi2 hz2 (by decide) rfl) rfl (wS_8_4 hS2) (sA_lt hi2 (by decide)) (q_iconst (pc' := 51) _ dX8_copyFrom_50 rfl kk_iconst_0 (q_aload_n (pc' := 52) dX8_copyFrom_51 rfl rfl ?_)))))))))))))
  refine q_getR (pc' := 55) dX8_copyFrom_52 rfl fr_RX8_18 (okS hi hz (by decide) rfl) rfl (wS_8_4 hS) (sA_lt hi (by decide)) (q_iconst (pc' := 56) _ dX8_copyFrom_55 rfl kk_iconst_0 (q_bipush (pc' := 58) _ dX8_copyFrom_56 rfl kk_bipush_10 (q_copyI (pc' := 61) dX8_copyFrom_58 rfl ml_RX8_40 (by decide) (okaS hi2 hz2 (by decide) rfl) (okaS hi hz (by decide) rfl) (Nat.le_of_ble_eq_true rfl) (q_aload_n (pc' := 62) dX8_copyFrom_61 rfl rfl (q_getR (pc' := 65) dX8_copyFrom_62 rfl fr_RX8_21 (okS hi2 hz2 (by decide) rfl) rfl (wS_8_5 hS2) (sA_lt hi2 (by decide)) (q_iconst (pc' := 66) _ dX8_copyFrom_65 rfl kk_iconst_0 (q_aload_n (pc' := 67) dX8_copyFrom_66 rfl rfl (q_getR (pc' := 70) dX8_copyFrom_67 rfl fr_RX8_21 (okS hi hz (by decide) rfl) rfl (wS_8_5 hS) (sA_lt hi (by decide)) (q_iconst (pc' := 71) _ dX8_copyFrom_70 rfl kk_iconst_0 (q_bipush (pc' := 73) _ dX8_copyFrom_71 rfl kk_bipush_8 (q_copyI (pc' := 76) dX8_copyFrom_73 rfl ml_RX8_40 (by decide) (okaS hi2 hz2 (by decide) rfl) (okaS hi hz (by decide) rfl) (Nat.le_of_ble_eq_true rfl) (q_aload_n (pc' := 77) dX8_copyFrom_76 rfl rfl (q_getR (pc' := 80) dX8_copyFrom_77 rfl fr_RX8_24 (okS hi2 hz2 (by decide) rfl) rfl (wS_8_6 hS2) (sA_lt hi2 (by decide)) ?_)))))))))))))
  refine q_iconst (pc' := 81) _ dX8_copyFrom_80 rfl kk_iconst_0 (q_aload_n (pc' := 82) dX8_copyFrom_81 rfl rfl (q_getR (pc' := 85) dX8_copyFrom_82 rfl fr_RX8_24 (okS hi hz (by decide) rfl) rfl (wS_8_6 hS) (sA_lt hi (by decide)) (q_iconst (pc' := 86) _ dX8_copyFrom_85 rfl kk_iconst_0 (q_bipush (pc' := 88) _ dX8_copyFrom_86 rfl kk_bipush_40 (q_copyI (pc' := 91) dX8_copyFrom_88 rfl ml_RX8_40 (by decide) (okaS hi2 hz2 (by decide) rfl) (okaS hi hz (by decide) rfl) (Nat.le_of_ble_eq_true rfl) ?_)))))
  have hu : mj_up I (sA i 1) 0 (I (sA i2 1) 0) (sA i2 1) 1 = I (sA i2 1) 1 := mj_up_ne (no (by decide) (by decide))
  have fu : ∀ {c : Nat}, c ≠ 1 → c < 20 → mj_up (mj_up I (sA i 1) 0 (I (sA i2 1) 0)) (sA i 1) 1 (mj_up I (sA i 1) 0 (I (sA i2 1) 0) (sA i2 1) 1) (sA i2 c) = I (sA i2 c) := fun h1 hc => by
    rw [up_fI (no hc (by decide)), up_fI (no hc (by decide))]
  refine q_vret dX8_copyFrom_91 rfl (hQ _ _ _ _ ⟨rfl, ⟨rfl, rfl⟩, ⟨⟨?_, ?_⟩, fun d hd => ⟨?_, ?_, ?_⟩, fun p hp => ?_, fun k hk => ?_⟩, fun a ha => ?_⟩)
  · rw [cpf_ne (sA_ne (by decide)), cpf_ne (sA_ne (by decide)), cpf_ne (sA_ne (by decide)), cpf_ne (sA_ne (by decide)), cpf_ne (sA_ne (by decide)), mj_up_ne2 (by decide), mj_up_eq]; exact h.1.1
  · rw [cpf_ne (sA_ne (by decide)), cpf_ne (sA_ne (by decide)), cpf_ne (sA_ne (by decide)), cpf_ne (sA_ne (by decide)), cpf_ne (sA_ne (by decide)), mj_up_eq, hu]; exact h.1.2
  · rw [cpf_ne (sA_ne (by decide)), cpf_ne (sA_ne (by decide)), cpf_ne (sA_ne (by decide)), cpf_ne (sA_ne (by decide)), cpf_eq hd, fu (by decide) (by decide)]; exact (h.2.1 d hd).1
  · rw [cpf_ne (sA_ne (by decide)), cpf_ne (sA_ne (by decide)), cpf_ne (sA_ne (by decide)), cpf_eq hd, cpf_ne (no (by decide) (by decide)), fu (by decide) (by decide)]; exact (h.2.1 d hd).2.1
  · rw [cpf_ne (sA_ne (by decide)), cpf_ne (sA_ne (by decide)), cpf_eq hd, cpf_ne (no (by decide) (by decide)), cpf_ne (no (by decide) (by decide)), fu (by decide) (by decide)]; exact (h.2.1 d hd).2.2
  · rw [cpf_ne (sA_ne (by decide)), cpf_eq hp, cpf_ne (no (by decide) (by decide)), cpf_ne (no (by decide) (by decide)), cpf_ne (no (by decide) (by decide)), fu (by decide) (by decide)]; exact h.2.2.1 p hp
  · rw [cpf_eq (Nat.mod_lt _ (by decide)), cpf_ne (no (by decide) (by decide)), cpf_ne (no (by decide) (by decide)), cpf_ne (no (by decide) (by decide)), cpf_ne (no (by decide) (by decide)), fu (by decide) (by decide)]; exact h.2.2.2 k hk
  · rw [cpf_ne (ha 6 (by decide) (by decide)), cpf_ne (ha 5 (by decide) (by decide)), cpf_ne (ha 4 (by decide) (by decide)), cpf_ne (ha 3 (by decide) (by decide)), cpf_ne (ha 2 (by decide) (by decide)), up_fI (ha 1 (by decide) (by decide)), up_fI (ha 1 (by decide) (by decide))]
theorem rs_X5_copyFrom (hi : i < 21) (hi2 : i2 < 21) (hne : i2 ≠ i) (hS : mj_wS R i) (hS2 : mj_wS R i2) (h : cR I i2 b A) (h01 : ∀ k, k < 80 → A 5 k ≤ 1 ∧ A 6 k ≤ 1) : RsV w l yX5_copyFrom dd_X5_copyFrom [.ref (sA i 0), .ref (sA i2 0)] (472, I, J, R) (fun I' => cR I' i b A ∧ mS i I I') := by
  have hz : 50 + 20 * i ≤ 472 := by omega
  have hz2 : 50 + 20 * i2 ≤ 472 := by omega
  have no : ∀ {c e : Nat}, c < 20 → e < 20 → sA i2 c ≠ sA i e := fun hc he => sA_o hne hc he
  refine rt_intro2 (L := [some (.ref (sA i 0)), some (.ref (sA i2 0)), none]) ⟨by decide, rfl, (fun h => by cases h)⟩ (Nat.le_of_ble_eq_true rfl) rfl (fun Y Q hQ => ?_)
  refine q_aload_n (pc' := 1) dX5_copyFrom_0 rfl rfl (q_getR (pc' := 4) dX5_copyFrom_1 rfl fr_RX5_41 (okS hi hz (by decide) rfl) rfl (wS_5_1 hS) (sA_lt hi (by decide)) (q_aload_n (pc' := 5) dX5_copyFrom_4 rfl rfl (q_getR (pc' := 8) dX5_copyFrom_5 rfl fr_RX5_41 (okS hi2 hz2 (by decide) rfl) rfl (wS_5_1 hS2) (sA_lt hi2 (by decide)) (q_sVv (pc' := 11) dX5_copyFrom_8 rfl ml_RX5_61 yv_X4_copyFrom (by decide) (rs_X4_copyFrom hi hi2 hne hS hS2 h.1) (okS hi hz (by decide) rfl) rfl rfl (Nat.le_of_ble_eq_true rfl) (Nat.le_refl _) (fun I1 ⟨r1, m1⟩ => ?_)))))
  have f1 := m1.s
  have h1 : cR I1 i2 b A := cR_F (fun c hc => mS_o f1 hne hc) h
  refine q_aload_n (pc' := 12) dX5_copyFrom_11 rfl rfl (q_getR (pc' := 15) dX5_copyFrom_12 rfl fr_RX5_12 (okS hi hz (by decide) rfl) rfl (wS_5_2 hS) (sA_lt hi (by decide)) (q_aload_n (pc' := 16) dX5_copyFrom_15 rfl rfl (q_getR (pc' := 19) dX5_copyFrom_16 rfl fr_RX5_12 (okS hi2 hz2 (by decide) rfl) rfl (wS_5_2 hS2) (sA_lt hi2 (by decide)) (q_sVv (pc' := 22) dX5_copyFrom_19 rfl ml_RX5_65 yv_X8_copyFrom (by decide) (rs_X8_copyFrom hi hi2 hne hS hS2 h1.2.1) (okS hi hz (by decide) rfl) rfl rfl (Nat.le_of_ble_eq_true rfl) (Nat.le_refl _) (fun I2 ⟨r2, m2⟩ => ?_)))))
  have f2 := m2.s
  have h2 : cR I2 i2 b A := cR_F (fun c hc => mS_o f2 hne hc) h1
  have q01 : ∀ v : Nat, v ≤ 1 → nI v = 0 ∨ nI v = 1 := fun v hv => by
    have : v = 0 ∨ v = 1 := by omega
    rcases this with rfl | rfl
    · exact Or.inl rfl
    · exact Or.inr rfl
  have r1' : cRr I2 i b A := ⟨fun s hs p hp => by rw [m2.hi (Or.inr (by omega))]; exact r1.1 s hs p hp, fun p hp => by rw [m2.hi (Or.inr (by omega))]; exact r1.2.1 p hp, fun k hk => by rw [m2.hi (Or.inr (by omega))]; exact r1.2.2.1 k hk, by rw [m2.hi (Or.inr (by omega))]; exact r1.2.2.2⟩
  have ok9 : mj_oka 472 (sA i2 9) 14 80 := okaS hi2 hz2 (by decide) rfl
  have ok10 : mj_oka 472 (sA i2 10) 14 80 := okaS hi2 hz2 (by decide) rfl
  have loop : ∀ I3 : mj_M, cRr I3 i b A → cRt I3 i A → (I3 (sA i 0) 3 = nI (bitN (fun d => A 7 d == 1) 10) ∧ I3 (sA i 0) 4 = nI (bitN (fun d => A 8 d == 1) 10)) → (∀ k, k < 80 → I3 (sA i 7) k = lD (A 3 k) ∧ I3 (sA i 8) k = lD (A 4 k)) → (∀ k, k < 80 → I3 (sA i2 9) k = nI (A 5 k) ∧ I3 (sA i2 10) k = nI (A 6 k)) → mS i I I3 → ∀ m k I4, k + m = 80 → (∀ a, a ≠ sA i 9 → a ≠ sA i 10 → I4 a = I3 a) → (∀ j, j < k → I4 (sA i 9) j = nI (A 5 j) ∧ I4 (sA i 10) j = nI (A 6 j)) → Wq dd_X5_copyFrom (mj_mk w l 472 Y) Q 70 [some (.ref (sA i 0)), some (.ref (sA i2 0)), some (.int (nI k))] [] (472, I4, J, R) := by
    intro I3 c1 c2 c3 c4 c5 c6 m
    induction m with
    | zero =>
      intro k I4 hk g gd
      have hk8 : k = 80 := by omega
      subst hk8
      have e : ∀ {c : Nat}, c ≠ 9 → c ≠ 10 → I4 (sA i c) = I3 (sA i c) := fun q1 q2 => g _ (sA_ne q1) (sA_ne q2)
      refine q_iload_n (pc' := 71) dX5_copyFrom_70 rfl rfl (q_bipush (pc' := 73) _ dX5_copyFrom_71 rfl kk_bipush_80 (q_icmp_ge (pc' := 76) (pt := 106) dX5_copyFrom_73 rfl rfl (fun _ => ?_) (fun h9 => absurd (by (first | assumption | exact nI_le (by omega) (by omega) | exact nI_ge (by omega) (by omega) | exact nI_lt (by omega) (by omega) | exact nI_nlt (by omega) (by omega) | exact nI_ne (by omega) (by omega) (by omega) | exact nI_e (by omega) | decide)) h9)))
      refine q_vret dX5_copyFrom_106 rfl (hQ _ _ _ _ ⟨rfl, ⟨rfl, rfl⟩, ⟨⟨fun s hs p hp => ?_, fun p hp => ?_, fun k hk => ?_, ?_⟩, ⟨?_, fun d hd => ?_, fun p hp => ?_, fun k hk => ?_⟩, ⟨?_, ?_⟩, fun k hk => ⟨?_, ?_, ?_, ?_⟩⟩, fun a ha => ?_⟩)
      · rw [e (by omega) (by omega)]; exact c1.1 s hs p hp
      · rw [e (by omega) (by omega)]; exact c1.2.1 p hp
      · rw [e (by omega) (by omega)]; exact c1.2.2.1 k hk
      · rw [e (by omega) (by omega)]; exact c1.2.2.2
      · rw [e (by omega) (by omega)]; exact c2.1
      · rw [e (by omega) (by omega), e (by omega) (by omega), e (by omega) (by omega)]; exact c2.2.1 d hd
      · rw [e (by omega) (by omega)]; exact c2.2.2.1 p hp
      · rw [e (by omega) (by omega)]; exact c2.2.2.2 k hk
      · rw [e (by omega) (by omega)]; exact c3.1
      · rw [e (by omega) (by omega)]; exact c3.2
      · rw [e (by omega) (by omega)]; exact (c4 k hk).1
      · rw [e (by omega) (by omega)]; exact (c4 k hk).2
      · exact (gd k hk).1
      · exact (gd k hk).2
      · rw [g a (ha 9 (by decide)) (ha 10 (by decide))]; exact c6 a ha
    | succ m ih =>
      intro k I4 hk g gd
      have hk8 : k < 80 := by omega
      have v9 : I4 (sA i2 9) k = nI (A 5 k) := by rw [g _ (no (by decide) (by decide)) (no (by decide) (by decide))]; exact (c5 k hk8).1
      have v10 : mj_up I4 (sA i 9) k (nI (A 5 k)) (sA i2 10) k = nI (A 6 k) := by rw [mj_up_ne (no (by decide) (by decide)), g _ (no (by decide) (by decide)) (no (by decide) (by decide))]; exact (c5 k hk8).2
      refine q_iload_n (pc' := 71) dX5_copyFrom_70 rfl rfl (q_bipush (pc' := 73) _ dX5_copyFrom_71 rfl kk_bipush_80 (q_icmp_ge (pc' := 76) (pt := 106) dX5_copyFrom_73 rfl rfl (fun h9 => absurd h9 (by (first | assumption | exact nI_le (by omega) (by omega) | exact nI_ge (by omega) (by omega) | exact nI_lt (by omega) (by omega) | exact nI_nlt (by omega) (by omega) | exact nI_ne (by omega) (by omega) (by omega) | exact nI_e (by omega) | decide))) (fun _ => (q_aload_n (pc' := 77) dX5_copyFrom_76 rfl rfl (q_getR (pc' := 80) dX5_copyFrom_77 rfl fr_RX5_25 (okS hi hz (by decide) rfl) rfl (wS_5_7 hS) (sA_lt hi (by decide)) (q_iload_n (pc' := 81) dX5_copyFrom_80 rfl rfl (q_aload_n (pc' := 82) dX5_copyFrom_81 rfl rfl (q_getR (pc' := 85) dX5_copyFrom_82 rfl fr_RX5_25 (okS hi2 hz2 (by decide) rfl) rfl (wS_5_7 hS2) (sA_lt hi2 (by decide)) (q_iload_n (pc' := 86) dX5_copyFrom_85 rfl rfl (q_zalde (pc' := 87) _ dX5_copyFrom_86 rfl (by first | exact ⟨by omega, rfl⟩ | exact okaS hi hz (by decide) rfl | assumption) rfl (by omega) v9 (q_zast (pc' := 88) _ dX5_copyFrom_87 rfl (by first | exact ⟨by omega, rfl⟩ | exact okaS hi hz (by decide) rfl | assumption) rfl (by omega) (q01 _ (h01 k hk8).1) (q_aload_n (pc' := 89) dX5_copyFrom_88 rfl rfl (q_getR (pc' := 92) dX5_copyFrom_89 rfl fr_RX5_29 (okS hi hz (by decide) rfl) rfl (wS_5_8 hS) (sA_lt hi (by decide)) (q_iload_n (pc' := 93) dX5_copyFrom_92 rfl rfl ?_))))))))))))))
      refine q_aload_n (pc' := 94) dX5_copyFrom_93 rfl rfl (q_getR (pc' := 97) dX5_copyFrom_94 rfl fr_RX5_29 (okS hi2 hz2 (by decide) rfl) rfl (wS_5_8 hS2) (sA_lt hi2 (by decide)) (q_iload_n (pc' := 98) dX5_copyFrom_97 rfl rfl (q_zalde (pc' := 99) _ dX5_copyFrom_98 rfl (by first | exact ⟨by omega, rfl⟩ | exact okaS hi hz (by decide) rfl | assumption) rfl (by omega) v10 (q_zast (pc' := 100) _ dX5_copyFrom_99 rfl (by first | exact ⟨by omega, rfl⟩ | exact okaS hi hz (by decide) rfl | assumption) rfl (by omega) (q01 _ (h01 k hk8).2) (q_inc_2 (pc' := 103) dX5_copyFrom_100 rfl (by decide) rfl (q_goto (pc' := 70) dX5_copyFrom_103 rfl ?_))))))
      refine ih (k + 1) _ (by omega) (fun a h1 h2 => ?_) (fun j hj => ⟨?_, ?_⟩)
      · rw [up_fI h2, up_fI h1]; exact g a h1 h2
      · rw [mj_up_ne (sA_ne (by decide))]
        by_cases q : j = k
        · subst q; rw [mj_up_eq]
        · rw [mj_up_ne2 q]; exact (gd j (by omega)).1
      · by_cases q : j = k
        · subst q; rw [mj_up_eq]
        · rw [mj_up_ne2 q, mj_up_ne (sA_ne (by decide))]; exact (gd j (by omega)).2
  refine q_aload_n (pc' := 23) dX5_copyFrom_22 rfl rfl (q_aload_n (pc' := 24) dX5_copyFrom_23 rfl rfl (q_getI (pc' := 27) dX5_copyFrom_24 rfl fr_RX5_50 (okS hi2 hz2 (by decide) rfl) rfl (q_putI (pc' := 30) dX5_copyFrom_27 rfl fl_RX5_50 (okS hi hz (by decide) rfl) rfl (q_aload_n (pc' := 31) dX5_copyFrom_30 rfl rfl (q_aload_n (pc' := 32) dX5_copyFrom_31 rfl rfl (q_getI (pc' := 35) dX5_copyFrom_32 rfl fr_RX5_54 (okS hi2 hz2 (by decide) rfl) rfl (q_putI (pc' := 38) dX5_copyFrom_35 rfl fl_RX5_54 (okS hi hz (by decide) rfl) rfl (q_aload_n (pc' := 39) dX5_copyFrom_38 rfl rfl (q_getR (pc' := 42) dX5_copyFrom_39 rfl fr_RX5_18 (okS hi2 hz2 (by decide) rfl) rfl (wS_5_5 hS2) (sA_lt hi2 (by decide)) (q_iconst (pc' := 43) _ dX5_copyFrom_42 rfl kk_iconst_0 (q_aload_n (pc' := 44) dX5_copyFrom_43 rfl rfl (q_getR (pc' := 47) dX5_copyFrom_44 rfl fr_RX5_18 (okS hi hz (by decide) rfl) rfl (wS_5_5 hS) (sA_lt hi (by decide)) (q_iconst (pc' := 48) _ dX5_copyFrom_47 rfl kk_iconst_0 ?_)))))))))))))
  refine q_bipush (pc' := 50) _ dX5_copyFrom_48 rfl kk_bipush_80 (q_copyI (pc' := 53) dX5_copyFrom_50 rfl ml_RX5_68 (by decide) (okaS hi2 hz2 (by decide) rfl) (okaS hi hz (by decide) rfl) (Nat.le_of_ble_eq_true rfl) (q_aload_n (pc' := 54) dX5_copyFrom_53 rfl rfl (q_getR (pc' := 57) dX5_copyFrom_54 rfl fr_RX5_22 (okS hi2 hz2 (by decide) rfl) rfl (wS_5_6 hS2) (sA_lt hi2 (by decide)) (q_iconst (pc' := 58) _ dX5_copyFrom_57 rfl kk_iconst_0 (q_aload_n (pc' := 59) dX5_copyFrom_58 rfl rfl (q_getR (pc' := 62) dX5_copyFrom_59 rfl fr_RX5_22 (okS hi hz (by decide) rfl) rfl (wS_5_6 hS) (sA_lt hi (by decide)) (q_iconst (pc' := 63) _ dX5_copyFrom_62 rfl kk_iconst_0 (q_bipush (pc' := 65) _ dX5_copyFrom_63 rfl kk_bipush_80 (q_copyI (pc' := 68) dX5_copyFrom_65 rfl ml_RX5_68 (by decide) (okaS hi2 hz2 (by decide) rfl) (okaS hi hz (by decide) rfl) (Nat.le_of_ble_eq_true rfl) (q_iconst (pc' := 69) _ dX5_copyFrom_68 rfl kk_iconst_0 (q_ist_2 (pc' := 70) dX5_copyFrom_69 rfl (by decide) rfl ?_)))))))))))
  have hu : mj_up I2 (sA i 0) 3 (I2 (sA i2 0) 3) (sA i2 0) 4 = I2 (sA i2 0) 4 := mj_up_ne (no (by decide) (by decide))
  have fu : ∀ {c : Nat}, c < 20 → mj_up (mj_up I2 (sA i 0) 3 (I2 (sA i2 0) 3)) (sA i 0) 4 (mj_up I2 (sA i 0) 3 (I2 (sA i2 0) 3) (sA i2 0) 4) (sA i2 c) = I2 (sA i2 c) := fun hc => by
    rw [up_fI (no hc (by decide)), up_fI (no hc (by decide))]
  refine loop _ ⟨fun s hs p hp => ?_, fun p hp => ?_, fun k hk => ?_, ?_⟩ ⟨?_, fun d hd => ⟨?_, ?_, ?_⟩, fun p hp => ?_, fun k hk => ?_⟩ ⟨?_, ?_⟩ (fun k hk => ⟨?_, ?_⟩) (fun k hk => ⟨?_, ?_⟩) (fun a ha => ?_) 80 0 _ rfl (fun _ _ _ => rfl) (fun j hj => absurd hj (Nat.not_lt_zero j))
  · rw [cpf_ne (sA_ne (by omega)), cpf_ne (sA_ne (by omega)), up_fI (sA_ne (by omega)), up_fI (sA_ne (by omega))]; exact r1'.1 s hs p hp
  · rw [cpf_ne (sA_ne (by omega)), cpf_ne (sA_ne (by omega)), up_fI (sA_ne (by omega)), up_fI (sA_ne (by omega))]; exact r1'.2.1 p hp
  · rw [cpf_ne (sA_ne (by omega)), cpf_ne (sA_ne (by omega)), up_fI (sA_ne (by omega)), up_fI (sA_ne (by omega))]; exact r1'.2.2.1 k hk
  · rw [cpf_ne (sA_ne (by omega)), cpf_ne (sA_ne (by omega)), up_fI (sA_ne (by omega)), up_fI (sA_ne (by omega))]; exact r1'.2.2.2
  · rw [cpf_ne (sA_ne (by omega)), cpf_ne (sA_ne (by omega)), up_fI (sA_ne (by omega)), up_fI (sA_ne (by omega))]; exact r2.1
  · rw [cpf_ne (sA_ne (by omega)), cpf_ne (sA_ne (by omega)), up_fI (sA_ne (by omega)), up_fI (sA_ne (by omega))]; exact (r2.2.1 d hd).1
  · rw [cpf_ne (sA_ne (by omega)), cpf_ne (sA_ne (by omega)), up_fI (sA_ne (by omega)), up_fI (sA_ne (by omega))]; exact (r2.2.1 d hd).2.1
  · rw [cpf_ne (sA_ne (by omega)), cpf_ne (sA_ne (by omega)), up_fI (sA_ne (by omega)), up_fI (sA_ne (by omega))]; exact (r2.2.1 d hd).2.2
  · rw [cpf_ne (sA_ne (by omega)), cpf_ne (sA_ne (by omega)), up_fI (sA_ne (by omega)), up_fI (sA_ne (by omega))]; exact r2.2.2.1 p hp
  · rw [cpf_ne (sA_ne (by omega)), cpf_ne (sA_ne (by omega)), up_fI (sA_ne (by omega)), up_fI (sA_ne (by omega))]; exact r2.2.2.2 k hk
  · rw [cpf_ne (sA_ne (by decide)), cpf_ne (sA_ne (by decide)), mj_up_ne2 (by decide), mj_up_eq]; exact h2.2.2.1.1
  · rw [cpf_ne (sA_ne (by decide)), cpf_ne (sA_ne (by decide)), mj_up_eq, hu]; exact h2.2.2.1.2
  · rw [cpf_ne (sA_ne (by decide)), cpf_eq hk, fu (by decide)]; exact (h2.2.2.2 k hk).1
  · rw [cpf_eq hk, cpf_ne (no (by decide) (by decide)), fu (by decide)]; exact (h2.2.2.2 k hk).2.1
  · rw [cpf_ne (no (by decide) (by decide)), cpf_ne (no (by decide) (by decide)), fu (by decide)]; exact (h2.2.2.2 k hk).2.2.1
  · rw [cpf_ne (no (by decide) (by decide)), cpf_ne (no (by decide) (by decide)), fu (by decide)]; exact (h2.2.2.2 k hk).2.2.2
  · rw [cpf_ne (ha 8 (by decide)), cpf_ne (ha 7 (by decide)), up_fI (ha 0 (by decide)), up_fI (ha 0 (by decide)), f2 a ha, f1 a ha]
end COPY2
