/-! ===== constructors: History, the reference ===== -/
/-- States 0 .. n - 1 are new -/
def Sts (n : Nat) (I : mj_M) (R : mj_R) (b : St) : Prop := ∀ i, i < n → cR I i b (aNew b) ∧ mj_wS R i
section CT4
variable {w : mj_Wd} {l : Launch} {I I' : mj_M} {J : mj_J} {R R' : mj_R} {b : St} {i n : Nat}
theorem wS_F (f : ∀ e, e < 20 → R' (sA i e) = R (sA i e)) (h : mj_wS R i) : mj_wS R' i := by
  unfold mj_wS
  rw [f 0 (by decide), f 1 (by decide), f 11 (by decide), f 12 (by decide)]
  exact h
theorem Sts_F (fI : ∀ a, 30 ≤ a → a < 30 + 20 * n → I' a = I a) (fR : ∀ a, 30 ≤ a → a < 30 + 20 * n → R' a = R a) (h : Sts n I R b) : Sts n I' R' b := fun i hi => ⟨cR_F (fun e he => fI _ (by unfold sA; omega) (by unfold sA; omega)) (h i hi).1, wS_F (fun e he => fR _ (by unfold sA; omega) (by unfold sA; omega)) (h i hi).2⟩
theorem Sts_S (hn : n < 21) (h : Sts n I R b) (q1 : cR I' n b (aNew b)) (q2 : mS n I I') : Sts (n + 1) I' (sR R n) b := fun i hi => by
  by_cases e : i = n
  · subst e
    exact ⟨q1, sR_wS hn⟩
  · exact ⟨cR_F (fun c hc => q2 _ (fun e2 he2 => sA_o e hc he2)) (h i (by omega)).1, wS_F (fun c hc => sR_lo (fun e2 he2 => sA_o e hc he2)) (h i (by omega)).2⟩
theorem Z0_S (h : Z0 (sA n 1) I J R) (q2 : mS n I I') : Z0 (sA n 20) I' J (sR R n) := fun a ha => by
  have hne : ∀ e, e < 20 → a ≠ sA n e := fun e he => by unfold sA at ha ⊢; omega
  have h1 := h a (by unfold sA at ha ⊢; omega)
  rw [q2 a hne, sR_lo hne]
  exact h1
/-- what History holds, and what it left as it was -/
def HF (I : mj_M) (R : mj_R) (I1 : mj_M) (R1 : mj_R) (k : Nat) : Prop := (∀ a, a < 30 → I1 a = I a) ∧ (∀ a, a < 28 → R1 a = R a) ∧ R1 28 0 = sA 0 0 ∧ R1 28 1 = sA 1 0 ∧ R1 28 2 = 29 ∧ ∀ t, t < k → R1 29 t = sA (2 + t) 0
theorem rg_X2_init (h0 : Z0 29 I J R) (hb : cB I b) (hk : bOK b) (h3 : b 0 3 < 2 ^ b 0 1) : RgV w l yX2_init dd_X2_init [.ref 28, .ref 4] (29, I, J, R) 390 (fun I' J' R' => Sts 18 I' R' b ∧ HF I R I' R' 16 ∧ J' = J ∧ Z0 390 I' J R' ∧ cB I' b) := by
  refine rg_intro (L := [some (.ref 28), some (.ref 4), none]) ⟨by decide, rfl, fun _ => rfl⟩ (by omega) (Nat.le_of_ble_eq_true rfl) rfl (fun Y Q hQ => ?_)
  refine q_aload_n (pc' := 1) dX2_init_0 rfl rfl (q_objI (pc' := 4) dX2_init_1 rfl ml_RX2_3 (Nat.le_of_ble_eq_true rfl) (Nat.le_of_ble_eq_true rfl) (q_aload_n (pc' := 5) dX2_init_4 rfl rfl (q_bipush (pc' := 7) _ dX2_init_5 rfl kk_bipush_16 (q_newS (pc' := 10) (z2 := 30) dX2_init_7 rfl rfl T_cl_RX2_9 (by first | rfl | exact (okaS hi (Nat.le_refl _) (by decide) rfl).2 | assumption) (by decide) (by first | omega | (unfold sA; omega)) (by rw [zf_mk]; first | omega | (unfold sA; omega)) (by (repeat first | exact Z0_mono h0 (by first | omega | (unfold sA; omega)) | refine Z0_upR (by first | omega | (unfold sA; omega)) ?_ | refine Z0_upI (by first | omega | (unfold sA; omega)) ?_ | refine Z0_gr (by first | omega | (unfold sA; omega)) ?_)) (q_putR (pc' := 13) dX2_init_10 rfl fl_RX2_11 (fun _ => rfl) (Or.inr ⟨_, rfl⟩) ⟨(by first | omega | (unfold sA; omega)), (by first | rfl | exact (okS hi (Nat.le_refl _) (by decide) rfl).2 | assumption)⟩ rfl (by first | decide | omega) (q_aload_n (pc' := 14) dX2_init_13 rfl rfl (q_new (pc' := 17) (ci := 5) (z2 := sA 0 1) dX2_init_14 rfl rfl rfl T_cl_RX2_9 T_in_RX2_9 T_ini_RX2_9 (by first | rfl | exact (okS hi (Nat.le_refl _) (by decide) rfl).2 | assumption) (by first | omega | (unfold sA; omega)) (by rw [zf_mk]; first | omega | (unfold sA; omega)) (by (repeat first | exact Z0_mono h0 (by first | omega | (unfold sA; omega)) | refine Z0_upR (by first | omega | (unfold sA; omega)) ?_ | refine Z0_upI (by first | omega | (unfold sA; omega)) ?_ | refine Z0_gr (by first | omega | (unfold sA; omega)) ?_)) (q_dup_a (pc' := 18) dX2_init_17 rfl (q_aload_n (pc' := 19) dX2_init_18 rfl rfl (q_gI (pc' := 22) (z2 := sA 0 20) dX2_init_19 rfl ml_RX2_17 yi_X5_init (Nat.le_of_ble_eq_true rfl) (rg_X5_init (i := 0) (by decide) (by (repeat first | exact Z0_mono h0 (by first | omega | (unfold sA; omega)) | refine Z0_upR (by first | omega | (unfold sA; omega)) ?_ | refine Z0_upI (by first | omega | (unfold sA; omega)) ?_ | refine Z0_gr (by first | omega | (unfold sA; omega)) ?_)) hb hk h3) (by first | omega | (unfold sA; omega)) rfl rfl (Nat.le_of_ble_eq_true rfl) (by rw [zf_mk]; first | omega | (unfold sA; omega)) (fun I1 J1 R1 ⟨q1, q2, q3, q4⟩ => ?_)))))))))))
  subst q3
  subst q4
  have z1 : Z0 (sA 0 20) I1 J1 (sR (mj_up R 28 2 29) 0) := Z0_S (by (repeat first | exact Z0_mono h0 (by first | omega | (unfold sA; omega)) | refine Z0_upR (by first | omega | (unfold sA; omega)) ?_ | refine Z0_upI (by first | omega | (unfold sA; omega)) ?_ | refine Z0_gr (by first | omega | (unfold sA; omega)) ?_)) q2
  have s1 : Sts 1 I1 (sR (mj_up R 28 2 29) 0) b := Sts_S (n := 0) (by decide) (fun i hi => absurd hi (Nat.not_lt_zero _)) q1 q2
  have b1 : cB I1 b := cB_S q2 hb
  have r1 : ∀ a, a < 30 → sR (mj_up R 28 2 29) 0 a = mj_up R 28 2 29 a := fun a ha => sR_lo (fun e he => by unfold sA; omega)
  have i1 : ∀ a, a < 30 → I1 a = I a := fun a ha => q2 a (fun e he => by unfold sA; omega)
  clear h0
  generalize sR (mj_up R 28 2 29) 0 = R1 at z1 s1 r1 ⊢
  have h0 := z1
  refine q_putR (pc' := 25) dX2_init_22 rfl fl_RX2_20 (fun h => by cases h) (Or.inl ⟨_, rfl⟩) ⟨(by first | omega | (unfold sA; omega)), (by first | rfl | exact (okS hi (Nat.le_refl _) (by decide) rfl).2 | assumption)⟩ rfl (by first | decide | omega) (q_aload_n (pc' := 26) dX2_init_25 rfl rfl (q_new (pc' := 29) (ci := 5) (z2 := sA 1 1) dX2_init_26 rfl rfl rfl T_cl_RX2_9 T_in_RX2_9 T_ini_RX2_9 (by first | rfl | exact (okS hi (Nat.le_refl _) (by decide) rfl).2 | assumption) (by first | omega | (unfold sA; omega)) (by rw [zf_mk]; first | omega | (unfold sA; omega)) (by (repeat first | exact Z0_mono h0 (by first | omega | (unfold sA; omega)) | refine Z0_upR (by first | omega | (unfold sA; omega)) ?_ | refine Z0_upI (by first | omega | (unfold sA; omega)) ?_ | refine Z0_gr (by first | omega | (unfold sA; omega)) ?_)) (q_dup_a (pc' := 30) dX2_init_29 rfl (q_aload_n (pc' := 31) dX2_init_30 rfl rfl (q_gI (pc' := 34) (z2 := sA 1 20) dX2_init_31 rfl ml_RX2_17 yi_X5_init (Nat.le_of_ble_eq_true rfl) (rg_X5_init (i := 1) (by decide) (by (repeat first | exact Z0_mono h0 (by first | omega | (unfold sA; omega)) | refine Z0_upR (by first | omega | (unfold sA; omega)) ?_ | refine Z0_upI (by first | omega | (unfold sA; omega)) ?_ | refine Z0_gr (by first | omega | (unfold sA; omega)) ?_)) b1 hk h3) (by first | omega | (unfold sA; omega)) rfl rfl (Nat.le_of_ble_eq_true rfl) (by rw [zf_mk]; first | omega | (unfold sA; omega)) (fun I2 J2 R2 ⟨p1, p2, p3, p4⟩ => ?_))))))
  subst p3
  subst p4
  have z2 : Z0 (sA 1 20) I2 J2 (sR (mj_up R1 28 0 30) 1) := Z0_S (by (repeat first | exact Z0_mono h0 (by first | omega | (unfold sA; omega)) | refine Z0_upR (by first | omega | (unfold sA; omega)) ?_ | refine Z0_upI (by first | omega | (unfold sA; omega)) ?_ | refine Z0_gr (by first | omega | (unfold sA; omega)) ?_)) p2
  have s2 : Sts 2 I2 (sR (mj_up R1 28 0 30) 1) b := Sts_S (n := 1) (by decide) (Sts_F (fun _ _ _ => rfl) (fun a ha _ => up_fR (by omega)) s1) p1 p2
  have b2 : cB I2 b := cB_S p2 b1
  have r2 : ∀ a, a < 30 → sR (mj_up R1 28 0 30) 1 a = mj_up R1 28 0 30 a := fun a ha => sR_lo (fun e he => by unfold sA; omega)
  have i2 : ∀ a, a < 30 → I2 a = I a := fun a ha => (p2 a (fun e he => by unfold sA; omega)).trans (i1 a ha)
  have hf2 : HF I R I2 (mj_up (sR (mj_up R1 28 0 30) 1) 28 1 50) 0 := by
    refine ⟨i2, fun a ha => ?_, ?_, ?_, ?_, fun t ht => absurd ht (Nat.not_lt_zero _)⟩
    · rw [up_fR (by omega), r2 a (by omega), up_fR (by omega), r1 a (by omega), up_fR (by omega)]
    · rw [mj_up_ne2 (by decide), r2 28 (by decide), mj_up_eq]; rfl
    · rw [mj_up_eq]; rfl
    · rw [mj_up_ne2 (by decide), r2 28 (by decide), mj_up_ne2 (by decide), r1 28 (by decide), mj_up_eq]
  have s3 : Sts 2 I2 (mj_up (sR (mj_up R1 28 0 30) 1) 28 1 50) b := Sts_F (fun _ _ _ => rfl) (fun a ha _ => up_fR (by omega)) s2
  have z3 : Z0 (sA 2 0) I2 J2 (mj_up (sR (mj_up R1 28 0 30) 1) 28 1 50) := Z0_upR (by decide) z2
  clear h0
  have loop : ∀ f k I3 R3, k + f = 16 → Sts (2 + k) I3 R3 b → cB I3 b → Z0 (sA (2 + k) 0) I3 J2 R3 → HF I R I3 R3 k → Wq dd_X2_init (mj_mk w l 390 Y) Q 39 [some (.ref 28), some (.ref 4), some (.int (nI k))] [] (sA (2 + k) 0, I3, J2, R3) := by
    intro f
    induction f with
    | zero =>
      intro k I3 R3 hkf hs hb3 h0 hf
      have ek : k = 16 := by omega
      subst ek
      refine q_iload_n (pc' := 40) dX2_init_39 rfl rfl (q_bipush (pc' := 42) _ dX2_init_40 rfl kk_bipush_16 (q_icmp_ge (pc' := 45) (pt := 65) dX2_init_42 rfl rfl (fun _ => ?_) (fun h9 => absurd (by (first | assumption | exact nI_le (by omega) (by omega) | exact nI_ge (by omega) (by omega) | exact nI_lt (by omega) (by omega) | exact nI_nlt (by omega) (by omega) | exact nI_ne (by omega) (by omega) (by omega) | exact nI_e (by omega) | decide)) h9)))
      exact q_vret dX2_init_65 rfl (hQ none I3 J2 R3 ⟨rfl, hs, hf, rfl, h0, hb3⟩)
    | succ f ih =>
      intro k I3 R3 hkf hs hb3 h0 hf
      have sh5 : (mj_sh (sA (2 + k) 0)).1 = 5 := (okS (by omega) (Nat.le_refl _) (by decide) rfl).2
      refine q_iload_n (pc' := 40) dX2_init_39 rfl rfl (q_bipush (pc' := 42) _ dX2_init_40 rfl kk_bipush_16 (q_icmp_ge (pc' := 45) (pt := 65) dX2_init_42 rfl rfl (fun h9 => absurd h9 (Int32.not_le.mpr (nI_lt (by omega) (by omega)))) (fun _ => (q_aload_n (pc' := 46) dX2_init_45 rfl rfl (q_getR (pc' := 49) dX2_init_46 rfl fr_RX2_11 ⟨(by first | omega | (unfold sA; omega)), (by first | rfl | exact (okS hi (Nat.le_refl _) (by decide) rfl).2 | assumption)⟩ rfl hf.2.2.2.2.1 (by decide) (q_iload_n (pc' := 50) dX2_init_49 rfl rfl (q_new (pc' := 53) (ci := 5) (z2 := sA (2 + k) 1) dX2_init_50 rfl rfl rfl T_cl_RX2_9 T_in_RX2_9 T_ini_RX2_9 (by first | rfl | exact (okS hi (Nat.le_refl _) (by decide) rfl).2 | assumption) (by first | omega | (unfold sA; omega)) (by rw [zf_mk]; first | omega | (unfold sA; omega)) (by (repeat first | exact Z0_mono h0 (by first | omega | (unfold sA; omega)) | refine Z0_upR (by first | omega | (unfold sA; omega)) ?_ | refine Z0_upI (by first | omega | (unfold sA; omega)) ?_ | refine Z0_gr (by first | omega | (unfold sA; omega)) ?_)) (q_dup_a (pc' := 54) dX2_init_53 rfl (q_aload_n (pc' := 55) dX2_init_54 rfl rfl (q_gI (pc' := 58) (z2 := sA (2 + k) 20) dX2_init_55 rfl ml_RX2_17 yi_X5_init (Nat.le_of_ble_eq_true rfl) (rg_X5_init (i := 2 + k) (by omega) (by (repeat first | exact Z0_mono h0 (by first | omega | (unfold sA; omega)) | refine Z0_upR (by first | omega | (unfold sA; omega)) ?_ | refine Z0_upI (by first | omega | (unfold sA; omega)) ?_ | refine Z0_gr (by first | omega | (unfold sA; omega)) ?_)) hb3 hk h3) (by first | omega | (unfold sA; omega)) rfl rfl (Nat.le_of_ble_eq_true rfl) (by rw [zf_mk]; first | omega | (unfold sA; omega)) (fun I4 J4 R4 ⟨p5, p6, p7, p8⟩ => ?_)))))))))))
      subst p7
      subst p8
      have r4 : ∀ a, a < 30 → sR R3 (2 + k) a = R3 a := fun a ha => sR_lo (fun e he => by unfold sA; omega)
      refine q_aast (pc' := 59) _ dX2_init_58 rfl ⟨(by first | omega | (unfold sA; omega)), rfl⟩ ⟨(by first | omega | (unfold sA; omega)), (okS (by omega) (Nat.le_refl _) (by decide) rfl).2⟩ rfl (by omega) (q_inc_2 (pc' := 62) dX2_init_59 rfl (by decide) rfl (q_goto (pc' := 39) dX2_init_62 rfl ?_))
      have ez : sA (2 + k) 20 = sA (2 + (k + 1)) 0 := by unfold sA; omega
      rw [ez]
      refine ih (k + 1) _ _ (by omega) (Sts_F (fun _ _ _ => rfl) (fun a ha _ => up_fR (by omega)) (Sts_S (n := 2 + k) (by omega) hs p5 p6)) (cB_S p6 hb3) ?_ ⟨fun a ha => (p6 a (fun e he => by unfold sA; omega)).trans (hf.1 a ha), fun a ha => ?_, ?_, ?_, ?_, fun t ht => ?_⟩
      · rw [← ez]
        exact Z0_upR (by unfold sA; omega) (Z0_S (Z0_mono h0 (by unfold sA; omega)) p6)
      · rw [up_fR (by omega), r4 a (by omega)]; exact hf.2.1 a ha
      · rw [mj_up_ne (by decide), r4 28 (by decide)]; exact hf.2.2.1
      · rw [mj_up_ne (by decide), r4 28 (by decide)]; exact hf.2.2.2.1
      · rw [mj_up_ne (by decide), r4 28 (by decide)]; exact hf.2.2.2.2.1
      · by_cases e : t = k
        · subst e
          rw [mj_up_eq]
        · rw [mj_up_ne2 e, r4 29 (by decide)]
          exact hf.2.2.2.2.2 t (by omega)
  refine q_putR (pc' := 37) dX2_init_34 rfl fl_RX2_24 (fun h => by cases h) (Or.inl ⟨_, rfl⟩) ⟨(by first | omega | (unfold sA; omega)), (by first | rfl | exact (okS hi (Nat.le_refl _) (by decide) rfl).2 | assumption)⟩ rfl (by first | decide | omega) (q_iconst (pc' := 38) _ dX2_init_37 rfl kk_iconst_0 (q_ist_2 (pc' := 39) dX2_init_38 rfl (by decide) rfl ?_))
  exact loop 16 0 I2 _ rfl s3 b2 z3 hf2
end CT4
