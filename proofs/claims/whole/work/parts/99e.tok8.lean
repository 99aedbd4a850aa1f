/-! ===== the class: names, words and signs asked of a TOKEN ===== -/
theorem ise {c : Bool} {a : Nat} {o : Option Nat} : (if c = true then some a else o).isSome = (c || o.isSome) := by cases c <;> rfl
theorem kIs_e {K : Nat → Nat} {x : Nat} (h8 : K 8 = 0) (h5 : K 5 = 1) : kIs K x = (K 12 == x) := by
  unfold kIs
  rw [h8, h5]
  simp
/-- whether a word stands for itself -/
def own2 (x : Nat) : Bool := ownW x || ((x == 495873782388) || ((x == 1937010544) || ((x == 427020085613) || ((x == 491260572517) || ((x == 1818326117) || ((x == 1836021349) || ((x == 1953063787) || ((x == 1886156135) || ((x == 129117193008487) || false)))))))))
theorem own2_e {K : Nat → Nat} (h8 : K 8 = 0) (h5 : K 5 = 1) : (ownW (K 12) || (ordN K).isSome) = own2 (K 12) := by
  unfold ordN own2
  rw [ise, ise, ise, ise, ise, ise, ise, ise, ise, kIs_e h8 h5, kIs_e h8 h5, kIs_e h8 h5, kIs_e h8 h5, kIs_e h8 h5, kIs_e h8 h5, kIs_e h8 h5, kIs_e h8 h5, kIs_e h8 h5]
  rfl
theorem own2_kw : ∀ j, j < 19 → own2 (kw8 j) = true := by decide +kernel
theorem own2_ex {x : Nat} (h : own2 x = true) : ∃ j, j < 19 ∧ x = kw8 j := by
  unfold own2 ownW at h
  simp only [Bool.or_eq_true, beq_iff_eq, Bool.false_eq_true, or_false] at h
  rcases h with ((((((((((h | h) | h) | h) | h) | h) | h) | h) | h) | h) | h | h | h | h | h | h | h | h | h)
  · exact ⟨0, by decide, h⟩
  · exact ⟨1, by decide, h⟩
  · exact ⟨2, by decide, h⟩
  · exact ⟨3, by decide, h⟩
  · exact ⟨4, by decide, h⟩
  · exact ⟨8, by decide, h⟩
  · exact ⟨5, by decide, h⟩
  · exact ⟨6, by decide, h⟩
  · exact ⟨7, by decide, h⟩
  · exact ⟨15, by decide, h⟩
  · exact ⟨9, by decide, h⟩
  · exact ⟨10, by decide, h⟩
  · exact ⟨11, by decide, h⟩
  · exact ⟨12, by decide, h⟩
  · exact ⟨13, by decide, h⟩
  · exact ⟨14, by decide, h⟩
  · exact ⟨16, by decide, h⟩
  · exact ⟨17, by decide, h⟩
  · exact ⟨18, by decide, h⟩
theorem kw_own {T K : Nat → Nat} (h8 : K 8 = 0) (h5 : K 5 = 1) (hw : kWd1 T K) : kwO T K = 0 ↔ (ownW (K 12) || (ordN K).isSome) = false := by
  rw [own2_e h8 h5]
  constructor
  · intro h
    refine Bool.eq_false_iff.mpr (fun q => ?_)
    obtain ⟨j, hj, e⟩ := own2_ex q
    have := (hw j hj).mpr ⟨h5, e⟩
    omega
  · intro h
    refine Classical.byContradiction (fun q => ?_)
    have hle := kwO_le (T := T) (K := K)
    obtain ⟨j, e⟩ : ∃ j, kwO T K = j + 1 := ⟨kwO T K - 1, by omega⟩
    have h1 := (hw j (by omega)).mp e
    rw [h1.2, own2_kw j (by omega)] at h
    cases h
theorem lD_m1 {v : Nat} (hv : v < 2 ^ 31) : lD v = -1 ↔ v = 0 := by
  unfold lD
  by_cases h : v = 0
  · rw [if_pos h]; exact ⟨fun _ => h, fun _ => rfl⟩
  · rw [if_neg h]
    exact ⟨fun q => absurd q (nI_m1 (by omega)), fun q => absurd q h⟩
section TOK8
variable {w : mj_Wd} {l : Launch} {I : mj_M} {J : mj_J} {R : mj_R} {T : Nat → Nat} {sz : Nat} {K : Nat → Nat}
theorem rn_X9_fitsName (h : cCur I J T K) (hk : kOK sz K) (h800 : sz ≤ 800) (h8 : K 8 = 0) (hw : kWd1 T K) : Rn w l yX9_fitsName dd_X9_fitsName [.ref 10] (472, I, J, R) (some (.int (bI (kNm K 8 == 0)))) (472, (if kNm K 8 = 0 then I else fB I (kNm K 8)), J, R) := by
  have k5 := hk.2.1
  have k7 : K 7 ≤ 800 := by have := hk.2.2.2.2.2.1; omega
  have e9 := h.1.1
  have e10 : I 10 10 = lD (kwO T K) := h.2.2.2.2
  have hle := kwO_le (T := T) (K := K)
  have no : ¬ (K 5 = 1 ∧ K 7 ≤ 7 ∧ (ownW (K 12) || (ordN K).isSome) = false) → kNm K = kW K 2 := fun q => by
    unfold kNm
    rw [if_pos ⟨h8, q⟩]
  have e4 : kW K 2 8 = if K 5 = 4 then 1 else 2 := kW_8 h8
  have e5 : ¬ (if K 5 = 4 then 1 else 2) = 0 := by split <;> decide
  refine rn_intro2 (L := [some (.ref 10), none]) ⟨by decide, rfl, (fun h => by cases h)⟩ (Nat.le_refl _) (Nat.le_of_ble_eq_true rfl) rfl (fun Y Q hQ => ?_)
  by_cases h1 : K 5 = 1
  · have e11 : I 10 11 = nI (K 7) := by rw [h.2.1, if_pos h1]
    by_cases hkw : kwO T K = 0
    · have eo := (kw_own h8 h1 hw).mp hkw
      by_cases h7 : K 7 ≤ 7
      · have eN : kNm K = K := by
          unfold kNm
          rw [if_neg (fun q => q.2 ⟨h1, h7, eo⟩)]
        rw [eN, if_pos h8, h8] at hQ
        refine q_aload_n (pc' := 1) dX9_fitsName_0 rfl rfl (q_getIe (pc' := 4) dX9_fitsName_1 rfl fr_RX9_96 ⟨by omega, rfl⟩ rfl e9 (q_iconst (pc' := 5) _ dX9_fitsName_4 rfl kk_iconst_1 (q_icmp_ne (pc' := 8) (pt := 29) dX9_fitsName_5 rfl rfl (fun h9 => absurd (congrArg nI h1) h9) (fun _ => (q_aload_n (pc' := 9) dX9_fitsName_8 rfl rfl (q_getIe (pc' := 12) dX9_fitsName_9 rfl fr_RX9_116 ⟨by omega, rfl⟩ rfl e10 (q_iconst (pc' := 13) _ dX9_fitsName_12 rfl kk_iconst_m1 (q_icmp_ne (pc' := 16) (pt := 29) dX9_fitsName_13 rfl rfl (fun h9 => absurd ((lD_m1 (by omega)).mpr hkw) h9) (fun _ => (q_aload_n (pc' := 17) dX9_fitsName_16 rfl rfl (q_getIe (pc' := 20) dX9_fitsName_17 rfl fr_RX9_102 ⟨by omega, rfl⟩ rfl e11 (q_bipush (pc' := 22) _ dX9_fitsName_20 rfl kk_bipush_7 (q_icmp_gt (pc' := 25) (pt := 29) dX9_fitsName_22 rfl rfl (fun h9 => absurd h9 (Int32.not_lt.mpr (nI_le h7 (by decide)))) (fun _ => (q_iconst (pc' := 26) _ dX9_fitsName_25 rfl kk_iconst_1 (q_goto (pc' := 30) dX9_fitsName_26 rfl ?_))))))))))))))))
        exact q_ist_1 (pc' := 31) dX9_fitsName_30 rfl (by decide) rfl (q_iload_n (pc' := 32) dX9_fitsName_31 rfl rfl (q_if_ne (pc' := 35) (pt := 42) dX9_fitsName_32 rfl rfl (fun _ => (q_iconst (pc' := 43) _ dX9_fitsName_42 rfl kk_iconst_1 (q_goto (pc' := 47) dX9_fitsName_43 rfl (q_zret dX9_fitsName_47 rfl (by first | exact Or.inl rfl | exact Or.inr rfl | exact bI_01 _) hQ)))) (fun h9 => absurd h9 (by decide))))
      · rw [no (fun q => h7 q.2.1), e4, if_neg e5, beq_eq_false_iff_ne.mpr e5] at hQ
        refine q_aload_n (pc' := 1) dX9_fitsName_0 rfl rfl (q_getIe (pc' := 4) dX9_fitsName_1 rfl fr_RX9_96 ⟨by omega, rfl⟩ rfl e9 (q_iconst (pc' := 5) _ dX9_fitsName_4 rfl kk_iconst_1 (q_icmp_ne (pc' := 8) (pt := 29) dX9_fitsName_5 rfl rfl (fun h9 => absurd (congrArg nI h1) h9) (fun _ => (q_aload_n (pc' := 9) dX9_fitsName_8 rfl rfl (q_getIe (pc' := 12) dX9_fitsName_9 rfl fr_RX9_116 ⟨by omega, rfl⟩ rfl e10 (q_iconst (pc' := 13) _ dX9_fitsName_12 rfl kk_iconst_m1 (q_icmp_ne (pc' := 16) (pt := 29) dX9_fitsName_13 rfl rfl (fun h9 => absurd ((lD_m1 (by omega)).mpr hkw) h9) (fun _ => (q_aload_n (pc' := 17) dX9_fitsName_16 rfl rfl (q_getIe (pc' := 20) dX9_fitsName_17 rfl fr_RX9_102 ⟨by omega, rfl⟩ rfl e11 (q_bipush (pc' := 22) _ dX9_fitsName_20 rfl kk_bipush_7 (q_icmp_gt (pc' := 25) (pt := 29) dX9_fitsName_22 rfl rfl (fun _ => (q_iconst (pc' := 30) _ dX9_fitsName_29 rfl kk_iconst_0 (q_ist_1 (pc' := 31) dX9_fitsName_30 rfl (by decide) rfl ?_))) (fun h9 => absurd (nI_lt (by omega) (by omega)) h9))))))))))))))
        exact q_iload_n (pc' := 32) dX9_fitsName_31 rfl rfl (q_if_ne (pc' := 35) (pt := 42) dX9_fitsName_32 rfl rfl (fun h9 => absurd (rfl) h9) (fun _ => (q_aload_n (pc' := 36) dX9_fitsName_35 rfl rfl (q_cVi (pc' := 39) dX9_fitsName_36 rfl ml_RX9_119 yv_X9_blameToken (by decide) (rn_X9_blameToken e9 k5) ⟨by omega, rfl⟩ rfl rfl (Nat.le_of_ble_eq_true rfl) (Nat.le_refl _) (q_ifb_eq (pc' := 42) (pt := 46) dX9_fitsName_39 rfl rfl (fun _ => (q_iconst (pc' := 47) _ dX9_fitsName_46 rfl kk_iconst_0 (q_zret dX9_fitsName_47 rfl (by first | exact Or.inl rfl | exact Or.inr rfl | exact bI_01 _) hQ))) (fun h9 => Bool.noConfusion (Eq.trans (Eq.symm (rfl)) h9)))))))
    · rw [no (fun q => hkw ((kw_own h8 h1 hw).mpr q.2.2)), e4, if_neg e5, beq_eq_false_iff_ne.mpr e5] at hQ
      refine q_aload_n (pc' := 1) dX9_fitsName_0 rfl rfl (q_getIe (pc' := 4) dX9_fitsName_1 rfl fr_RX9_96 ⟨by omega, rfl⟩ rfl e9 (q_iconst (pc' := 5) _ dX9_fitsName_4 rfl kk_iconst_1 (q_icmp_ne (pc' := 8) (pt := 29) dX9_fitsName_5 rfl rfl (fun h9 => absurd (congrArg nI h1) h9) (fun _ => (q_aload_n (pc' := 9) dX9_fitsName_8 rfl rfl (q_getIe (pc' := 12) dX9_fitsName_9 rfl fr_RX9_116 ⟨by omega, rfl⟩ rfl e10 (q_iconst (pc' := 13) _ dX9_fitsName_12 rfl kk_iconst_m1 (q_icmp_ne (pc' := 16) (pt := 29) dX9_fitsName_13 rfl rfl (fun _ => (q_iconst (pc' := 30) _ dX9_fitsName_29 rfl kk_iconst_0 (q_ist_1 (pc' := 31) dX9_fitsName_30 rfl (by decide) rfl (q_iload_n (pc' := 32) dX9_fitsName_31 rfl rfl (q_if_ne (pc' := 35) (pt := 42) dX9_fitsName_32 rfl rfl (fun h9 => absurd (rfl) h9) (fun _ => (q_aload_n (pc' := 36) dX9_fitsName_35 rfl rfl (q_cVi (pc' := 39) dX9_fitsName_36 rfl ml_RX9_119 yv_X9_blameToken (by decide) (rn_X9_blameToken e9 k5) ⟨by omega, rfl⟩ rfl rfl (Nat.le_of_ble_eq_true rfl) (Nat.le_refl _) ?_)))))))) (fun h9 => absurd h9 (fun q => hkw ((lD_m1 (by omega)).mp q)))))))))))
      exact q_ifb_eq (pc' := 42) (pt := 46) dX9_fitsName_39 rfl rfl (fun _ => (q_iconst (pc' := 47) _ dX9_fitsName_46 rfl kk_iconst_0 (q_zret dX9_fitsName_47 rfl (by first | exact Or.inl rfl | exact Or.inr rfl | exact bI_01 _) hQ))) (fun h9 => Bool.noConfusion (Eq.trans (Eq.symm (rfl)) h9))
  · rw [no (fun q => h1 q.1), e4, if_neg e5, beq_eq_false_iff_ne.mpr e5] at hQ
    exact q_aload_n (pc' := 1) dX9_fitsName_0 rfl rfl (q_getIe (pc' := 4) dX9_fitsName_1 rfl fr_RX9_96 ⟨by omega, rfl⟩ rfl e9 (q_iconst (pc' := 5) _ dX9_fitsName_4 rfl kk_iconst_1 (q_icmp_ne (pc' := 8) (pt := 29) dX9_fitsName_5 rfl rfl (fun _ => (q_iconst (pc' := 30) _ dX9_fitsName_29 rfl kk_iconst_0 (q_ist_1 (pc' := 31) dX9_fitsName_30 rfl (by decide) rfl (q_iload_n (pc' := 32) dX9_fitsName_31 rfl rfl (q_if_ne (pc' := 35) (pt := 42) dX9_fitsName_32 rfl rfl (fun h9 => absurd (rfl) h9) (fun _ => (q_aload_n (pc' := 36) dX9_fitsName_35 rfl rfl (q_cVi (pc' := 39) dX9_fitsName_36 rfl ml_RX9_119 yv_X9_blameToken (by decide) (rn_X9_blameToken e9 k5) ⟨by omega, rfl⟩ rfl rfl (Nat.le_of_ble_eq_true rfl) (Nat.le_refl _) (q_ifb_eq (pc' := 42) (pt := 46) dX9_fitsName_39 rfl rfl (fun _ => (q_iconst (pc' := 47) _ dX9_fitsName_46 rfl kk_iconst_0 (q_zret dX9_fitsName_47 rfl (by first | exact Or.inl rfl | exact Or.inr rfl | exact bI_01 _) hQ))) (fun h9 => Bool.noConfusion (Eq.trans (Eq.symm (rfl)) h9))))))))))) (fun h9 => absurd h9 (nI_ne h1 (by omega) (by decide))))))
/-- what advance leaves -/
def mAd (I : mj_M) (J : mj_J) (I' : mj_M) (J' : mj_J) : Prop := (∀ a, a ≠ 10 → I' a = I a) ∧ (∀ f, (f < 8 ∨ f = 15) → I' 10 f = I 10 f) ∧ (∀ a f, ¬ (a = 10 ∧ f = 13) → J' a f = J a f)
theorem fB_ad {x : Nat} : mAd I J (fB I x) J := ⟨fun a ha => by unfold fB; rw [up_fI ha, up_fI ha], fun f hf => by unfold fB; rw [mj_up_ne2 (by omega), mj_up_ne2 (by omega)], fun _ _ _ => rfl⟩
/-- the class reads on at TOKEN j without a fault, or has told one -/
def cGo (I : mj_M) (J : mj_J) (T : Nat → Nat) (sz j : Nat) (K : Nat → Nat) : Prop := (K 8 = 0 ∧ K = kSq T sz j ∧ cRd I J T sz j ∧ I 10 16 = nI 0 ∧ I 10 17 = -1) ∨ (K 8 ≠ 0 ∧ I 10 16 = nI (K 8) ∧ I 10 17 = lD (K 9))
theorem fB_go {j x y : Nat} (h : cCur I J T K) (h8 : K 8 = 0) (hx : kW K y 8 = x) (hx0 : x ≠ 0) : cGo (fB I x) J T sz j (kW K y) := by
  refine Or.inr ⟨by rw [hx]; exact hx0, ?_, ?_⟩
  · unfold fB
    rw [mj_up_ne2 (by decide), mj_up_eq, hx]
  · unfold fB
    rw [mj_up_eq, h.1.2]
    have e : kW K y 9 = K 4 + 1 := by
      unfold kW
      rw [if_pos h8]
      rfl
    rw [e]
    rfl
theorem rt_X9_takeSign {j : Nat} (hV : mj_wV R) (hkw : cKw J) (h800 : sz ≤ 800) (h : cRd I J T sz j) (hf : I 10 16 = nI 0 ∧ I 10 17 = -1) : RtI w l yX9_takeSign dd_X9_takeSign [.ref 10] (472, I, J, R) (fun x I' J' R' => x = bI (kSq T sz j 5 == 3) ∧ cGo I' J' T sz (j + 1) (kG T sz (if kSq T sz j 5 = 3 then kSq T sz j else kW (kSq T sz j) 2)) ∧ mAd I J I' J' ∧ R' = R) := by
  have hc : cCur I J T (kSq T sz j) := by obtain ⟨m, _, _, hc, _⟩ := h; exact hc
  have k5 := (kOK_sq (T := T) (sz := sz) j).2.1
  have h8 := (kSq_89 (T := T) (sz := sz) j).1
  have e9 := hc.1.1
  refine rt_intro2 (L := [some (.ref 10)]) ⟨by decide, rfl, (fun h => by cases h)⟩ (Nat.le_of_ble_eq_true rfl) rfl (fun Y Q hQ => ?_)
  by_cases h3 : kSq T sz j 5 = 3
  · refine q_aload_n (pc' := 1) dX9_takeSign_0 rfl rfl (q_getIe (pc' := 4) dX9_takeSign_1 rfl fr_RX9_96 ⟨by omega, rfl⟩ rfl e9 (q_iconst (pc' := 5) _ dX9_takeSign_4 rfl kk_iconst_3 (q_icmp_eq (pc' := 8) (pt := 13) dX9_takeSign_5 rfl rfl (fun _ => (q_aload_n (pc' := 14) dX9_takeSign_13 rfl rfl (q_tVv (pc' := 17) dX9_takeSign_14 rfl ml_RX9_76 yv_X9_advance (by decide) (rt_X9_adv hV hkw h800 h (by rw [h3]; decide)) ⟨by omega, rfl⟩ rfl rfl (Nat.le_of_ble_eq_true rfl) (Nat.le_refl _) (fun I2 J2 R2 ⟨c1, f1, f2, f3, hR2⟩ => (q_iconst (pc' := 18) _ dX9_takeSign_17 rfl kk_iconst_1 ?_))))) (fun h9 => absurd (congrArg nI h3) h9))))
    refine q_zret dX9_takeSign_18 rfl (Or.inr rfl) (hQ _ _ _ _ ⟨_, rfl, ?_, ?_, ⟨f1, fun f hf2 => f2 f (by omega), f3⟩, hR2⟩)
    · rw [h3]; rfl
    · rw [if_pos h3]
      unfold kG
      rw [if_pos h8]
      exact Or.inl ⟨(kSq_89 (T := T) (sz := sz) (j + 1)).1, rfl, c1, (f2 16 (by decide)).trans hf.1, (f2 17 (by decide)).trans hf.2⟩
  · have e4 : kW (kSq T sz j) 2 8 = if kSq T sz j 5 = 4 then 1 else 2 := kW_8 h8
    have e5 : ¬ (if kSq T sz j 5 = 4 then 1 else 2) = 0 := by split <;> decide
    refine q_aload_n (pc' := 1) dX9_takeSign_0 rfl rfl (q_getIe (pc' := 4) dX9_takeSign_1 rfl fr_RX9_96 ⟨by omega, rfl⟩ rfl e9 (q_iconst (pc' := 5) _ dX9_takeSign_4 rfl kk_iconst_3 (q_icmp_eq (pc' := 8) (pt := 13) dX9_takeSign_5 rfl rfl (fun h9 => absurd h9 (nI_ne h3 (by omega) (by decide))) (fun _ => (q_aload_n (pc' := 9) dX9_takeSign_8 rfl rfl (q_cVi (pc' := 12) dX9_takeSign_9 rfl ml_RX9_119 yv_X9_blameToken (by decide) (rn_X9_blameToken e9 k5) ⟨by omega, rfl⟩ rfl rfl (Nat.le_of_ble_eq_true rfl) (Nat.le_refl _) ?_))))))
    refine q_zret dX9_takeSign_12 rfl (Or.inl rfl) (hQ _ _ _ _ ⟨_, rfl, ?_, ?_, fB_ad, rfl⟩)
    · rw [beq_eq_false_iff_ne.mpr h3]
    · rw [if_neg h3]
      have eG : kG T sz (kW (kSq T sz j) 2) = kW (kSq T sz j) 2 := if_neg (show ¬ kW (kSq T sz j) 2 8 = 0 by rw [e4]; exact e5)
      rw [eG]
      exact fB_go hc h8 e4 e5
theorem rt_X9_takeWord {j q : Nat} (hV : mj_wV R) (hkw : cKw J) (h800 : sz ≤ 800) (h : cRd I J T sz j) (hq : q < 19) (hf : I 10 16 = nI 0 ∧ I 10 17 = -1) : RtI w l yX9_takeWord dd_X9_takeWord [.ref 10, .int (nI q)] (472, I, J, R) (fun x I' J' R' => x = bI (kIs (kSq T sz j) (kw8 q)) ∧ cGo I' J' T sz (j + 1) (kG T sz (if kIs (kSq T sz j) (kw8 q) = true then kSq T sz j else kW (kSq T sz j) 2)) ∧ mAd I J I' J' ∧ R' = R) := by
  have hc : cCur I J T (kSq T sz j) := by obtain ⟨m, _, _, hc, _⟩ := h; exact hc
  have k5 := (kOK_sq (T := T) (sz := sz) j).2.1
  have h8 := (kSq_89 (T := T) (sz := sz) j).1
  have e9 := hc.1.1
  have e10 : I 10 10 = lD (kwO T (kSq T sz j)) := hc.2.2.2.2
  have hle := kwO_le (T := T) (K := kSq T sz j)
  have hw := kSq_kw (T := T) (sz := sz) (i := j) q hq
  have hi : kIs (kSq T sz j) (kw8 q) = true ↔ kwO T (kSq T sz j) = q + 1 := by
    rw [hw]
    unfold kIs
    rw [h8]
    simp
  refine rt_intro2 (L := [some (.ref 10), some (.int (nI q))]) ⟨by decide, rfl, (fun h => by cases h)⟩ (Nat.le_of_ble_eq_true rfl) rfl (fun Y Q hQ => ?_)
  by_cases h3 : kIs (kSq T sz j) (kw8 q) = true
  · have e1 := hi.mp h3
    have e2 : lD (kwO T (kSq T sz j)) = nI q := by rw [e1]; rfl
    have h1 := (hw.mp e1).1
    refine q_aload_n (pc' := 1) dX9_takeWord_0 rfl rfl (q_getIe (pc' := 4) dX9_takeWord_1 rfl fr_RX9_116 ⟨by omega, rfl⟩ rfl e10 (q_iload_n (pc' := 5) dX9_takeWord_4 rfl rfl (q_icmp_eq (pc' := 8) (pt := 13) dX9_takeWord_5 rfl rfl (fun _ => (q_aload_n (pc' := 14) dX9_takeWord_13 rfl rfl (q_tVv (pc' := 17) dX9_takeWord_14 rfl ml_RX9_76 yv_X9_advance (by decide) (rt_X9_adv hV hkw h800 h (by rw [h1]; decide)) ⟨by omega, rfl⟩ rfl rfl (Nat.le_of_ble_eq_true rfl) (Nat.le_refl _) (fun I2 J2 R2 ⟨c1, f1, f2, f3, hR2⟩ => (q_iconst (pc' := 18) _ dX9_takeWord_17 rfl kk_iconst_1 ?_))))) (fun h9 => absurd (e2) h9))))
    refine q_zret dX9_takeWord_18 rfl (Or.inr rfl) (hQ _ _ _ _ ⟨_, rfl, ?_, ?_, ⟨f1, fun f hf2 => f2 f (by omega), f3⟩, hR2⟩)
    · rw [h3]; rfl
    · rw [if_pos h3]
      unfold kG
      rw [if_pos h8]
      exact Or.inl ⟨(kSq_89 (T := T) (sz := sz) (j + 1)).1, rfl, c1, (f2 16 (by decide)).trans hf.1, (f2 17 (by decide)).trans hf.2⟩
  · have e2 : ¬ lD (kwO T (kSq T sz j)) = nI q := fun q2 => by
      by_cases h0 : kwO T (kSq T sz j) = 0
      · rw [h0] at q2
        exact nI_m1 (a := q) (by omega) q2.symm
      · refine h3 (hi.mpr ?_)
        unfold lD at q2
        rw [if_neg h0] at q2
        have := (nI_eq (by omega) (by omega)).mp q2
        omega
    have e4 : kW (kSq T sz j) 2 8 = if kSq T sz j 5 = 4 then 1 else 2 := kW_8 h8
    have e5 : ¬ (if kSq T sz j 5 = 4 then 1 else 2) = 0 := by split <;> decide
    refine q_aload_n (pc' := 1) dX9_takeWord_0 rfl rfl (q_getIe (pc' := 4) dX9_takeWord_1 rfl fr_RX9_116 ⟨by omega, rfl⟩ rfl e10 (q_iload_n (pc' := 5) dX9_takeWord_4 rfl rfl (q_icmp_eq (pc' := 8) (pt := 13) dX9_takeWord_5 rfl rfl (fun h9 => absurd h9 (e2)) (fun _ => (q_aload_n (pc' := 9) dX9_takeWord_8 rfl rfl (q_cVi (pc' := 12) dX9_takeWord_9 rfl ml_RX9_119 yv_X9_blameToken (by decide) (rn_X9_blameToken e9 k5) ⟨by omega, rfl⟩ rfl rfl (Nat.le_of_ble_eq_true rfl) (Nat.le_refl _) ?_))))))
    refine q_zret dX9_takeWord_12 rfl (Or.inl rfl) (hQ _ _ _ _ ⟨_, rfl, ?_, ?_, fB_ad, rfl⟩)
    · rw [Bool.eq_false_iff.mpr h3]
    · rw [if_neg h3]
      have eG : kG T sz (kW (kSq T sz j) 2) = kW (kSq T sz j) 2 := if_neg (show ¬ kW (kSq T sz j) 2 8 = 0 by rw [e4]; exact e5)
      rw [eG]
      exact fB_go hc h8 e4 e5
end TOK8
