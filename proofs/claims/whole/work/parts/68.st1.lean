/-! ===== the class: State, small steps ===== -/
theorem lD_s {x : Nat} : lD (x + 1) = nI x := by unfold lD; rw [if_neg (Nat.succ_ne_zero x), Nat.add_sub_cancel]
theorem cRr_A {I : mj_M} {i : Nat} {b A A' : St} (h0 : A' 0 = A 0) (h1 : A' 1 = A 1) (h2 : A' 2 = A 2) (h9 : A' 9 = A 9) (h : cRr I i b A) : cRr I i b A' := by
  refine ⟨fun s hs p hp => ?_, fun p hp => ?_, fun k hk => ?_, ?_⟩
  · rw [h.1 s hs p hp]; unfold cT; rw [h0]
  · rw [h.2.1 p hp]; unfold cPe; rw [h2]
  · rw [h1]; exact h.2.2.1 k hk
  · rw [h.2.2.2]; unfold cOn; rw [h9]
theorem cRt_A {I : mj_M} {i : Nat} {A A' : St} (h0 : A' 14 0 = A 14 0) (h4 : A' 14 4 = A 14 4) (h10 : A' 10 = A 10) (h11 : A' 11 = A 11) (h12 : A' 12 = A 12) (h13 : A' 13 = A 13) (h15 : A' 15 = A 15) (h : cRt I i A) : cRt I i A' := by
  unfold cRt
  rw [h0, h4, h10, h11, h12, h13, h15]
  exact h
theorem cRs_A {I : mj_M} {i : Nat} {A A' : St} (h3 : A' 3 = A 3) (h4 : A' 4 = A 4) (h5 : A' 5 = A 5) (h6 : A' 6 = A 6) (h7 : A' 7 = A 7) (h8 : A' 8 = A 8) (h : cRs I i A) : cRs I i A' := by
  unfold cRs
  rw [h3, h4, h5, h6, h7, h8]
  exact h
/-- rows and owners change: the rest stays -/
theorem cR_rows {I I' : mj_M} {i : Nat} {b A A' : St} (h : cR I i b A) (hr : cRr I' i b A') (hf : mSr i I I') (ht : ∀ g, 3 ≤ g → A' g = A g) : cR I' i b A' :=
  ⟨hr, cRt_A (congrFun (ht 14 (by decide)) 0) (congrFun (ht 14 (by decide)) 4) (ht 10 (by decide)) (ht 11 (by decide)) (ht 12 (by decide)) (ht 13 (by decide)) (ht 15 (by decide)) (cRt_F (fun c hc => hf.lo hc) h.2.1), cRs_A (ht 3 (by decide)) (ht 4 (by decide)) (ht 5 (by decide)) (ht 6 (by decide)) (ht 7 (by decide)) (ht 8 (by decide)) (cRs_F (fun c hc => hf.lo hc) h.2.2)⟩
theorem cRr_F {I I' : mj_M} {i : Nat} {b A : St} (f : ∀ c, 11 ≤ c → c < 20 → I' (sA i c) = I (sA i c)) (h : cRr I i b A) : cRr I' i b A := by
  refine ⟨fun s hs p hp => ?_, fun p hp => ?_, fun k hk => ?_, ?_⟩
  · rw [f (13 + s) (by omega) (by omega)]; exact h.1 s hs p hp
  · rw [f 18 (by decide) (by decide)]; exact h.2.1 p hp
  · rw [f 19 (by decide) (by decide)]; exact h.2.2.1 k hk
  · rw [f 11 (by decide) (by decide)]; exact h.2.2.2
theorem cRt_f {I I' : mj_M} {i : Nat} {A : St} (f : ∀ c, 1 ≤ c → c < 7 → I' (sA i c) = I (sA i c)) (h : cRt I i A) : cRt I' i A := by
  refine ⟨?_, fun d hd => ?_, fun p hp => ?_, fun k hk => ?_⟩
  · rw [f 1 (by decide) (by decide)]; exact h.1
  · rw [f 2 (by decide) (by decide), f 3 (by decide) (by decide), f 4 (by decide) (by decide)]; exact h.2.1 d hd
  · rw [f 5 (by decide) (by decide)]; exact h.2.2.1 p hp
  · rw [f 6 (by decide) (by decide)]; exact h.2.2.2 k hk
theorem cRs_f {I I' : mj_M} {i : Nat} {A : St} (f : ∀ c, c = 0 ∨ (7 ≤ c ∧ c < 11) → I' (sA i c) = I (sA i c)) (h : cRs I i A) : cRs I' i A := by
  refine ⟨?_, fun k hk => ?_⟩
  · rw [f 0 (by decide)]; exact h.1
  · rw [f 7 (by decide), f 8 (by decide), f 9 (by decide), f 10 (by decide)]; exact h.2 k hk
/-- a LINE's number changes -/
theorem cR_ln {I : mj_M} {i c f k x : Nat} {v : Int32} {b A : St} (hc : (c = 7 ∧ f = 3 ∧ v = lD x) ∨ (c = 8 ∧ f = 4 ∧ v = lD x) ∨ (c = 9 ∧ f = 5 ∧ v = nI x) ∨ (c = 10 ∧ f = 6 ∧ v = nI x)) (h : cR I i b A) : cR (mj_up I (sA i c) k v) i b (mj_up A f k x) := by
  have hc2 : 7 ≤ c ∧ c < 11 := by omega
  have hf : 3 ≤ f ∧ f < 7 := by omega
  have n : ∀ e, e ≠ c → mj_up I (sA i c) k v (sA i e) = I (sA i e) := fun e he => up_fI (sA_ne he)
  refine ⟨cRr_A (up_f (by omega)) (up_f (by omega)) (up_f (by omega)) (up_f (by omega)) (cRr_F (fun e h1 h2 => n e (by omega)) h.1), cRt_A (mj_up_ne (by omega)) (mj_up_ne (by omega)) (up_f (by omega)) (up_f (by omega)) (up_f (by omega)) (up_f (by omega)) (up_f (by omega)) (cRt_f (fun e h1 h2 => n e (by omega)) h.2.1), ?_, fun j hj => ?_⟩
  · rw [n 0 (by omega), up_f (show (7:Nat) ≠ f by omega), up_f (show (8:Nat) ≠ f by omega)]; exact h.2.2.1
  · obtain ⟨g1, g2, g3, g4⟩ := h.2.2.2 j hj
    rcases hc with ⟨rfl, rfl, rfl⟩ | ⟨rfl, rfl, rfl⟩ | ⟨rfl, rfl, rfl⟩ | ⟨rfl, rfl, rfl⟩
    · rw [n 8 (by decide), n 9 (by decide), n 10 (by decide), mj_up_ne (show (4:Nat) ≠ 3 by decide), mj_up_ne (show (5:Nat) ≠ 3 by decide), mj_up_ne (show (6:Nat) ≠ 3 by decide)]
      refine ⟨?_, g2, g3, g4⟩
      by_cases e : j = k
      · rw [e, mj_up_eq, mj_up_eq]
      · rw [mj_up_ne2 e, mj_up_ne2 e]; exact g1
    · rw [n 7 (by decide), n 9 (by decide), n 10 (by decide), mj_up_ne (show (3:Nat) ≠ 4 by decide), mj_up_ne (show (5:Nat) ≠ 4 by decide), mj_up_ne (show (6:Nat) ≠ 4 by decide)]
      refine ⟨g1, ?_, g3, g4⟩
      by_cases e : j = k
      · rw [e, mj_up_eq, mj_up_eq]
      · rw [mj_up_ne2 e, mj_up_ne2 e]; exact g2
    · rw [n 7 (by decide), n 8 (by decide), n 10 (by decide), mj_up_ne (show (3:Nat) ≠ 5 by decide), mj_up_ne (show (4:Nat) ≠ 5 by decide), mj_up_ne (show (6:Nat) ≠ 5 by decide)]
      refine ⟨g1, g2, ?_, g4⟩
      by_cases e : j = k
      · rw [e, mj_up_eq, mj_up_eq]
      · rw [mj_up_ne2 e, mj_up_ne2 e]; exact g3
    · rw [n 7 (by decide), n 8 (by decide), n 9 (by decide), mj_up_ne (show (3:Nat) ≠ 6 by decide), mj_up_ne (show (4:Nat) ≠ 6 by decide), mj_up_ne (show (5:Nat) ≠ 6 by decide)]
      refine ⟨g1, g2, g3, ?_⟩
      by_cases e : j = k
      · rw [e, mj_up_eq, mj_up_eq]
      · rw [mj_up_ne2 e, mj_up_ne2 e]; exact g4
theorem cR_up14 {I : mj_M} {i j x : Nat} {b A : St} (h0 : j ≠ 0) (h4 : j ≠ 4) (h : cR I i b A) : cR I i b (mj_up A 14 j x) :=
  ⟨cRr_A (up_f (by decide)) (up_f (by decide)) (up_f (by decide)) (up_f (by decide)) h.1, cRt_A (mj_up_ne2 (Ne.symm h0)) (mj_up_ne2 (Ne.symm h4)) (up_f (by decide)) (up_f (by decide)) (up_f (by decide)) (up_f (by decide)) (up_f (by decide)) h.2.1, cRs_A (up_f (by decide)) (up_f (by decide)) (up_f (by decide)) (up_f (by decide)) (up_f (by decide)) (up_f (by decide)) h.2.2⟩
/-- a count of a DEVICE changes -/
theorem cR_ct {I : mj_M} {i c f d x : Nat} {b A : St} (hc : (c = 2 ∧ f = 10) ∨ (c = 3 ∧ f = 11) ∨ (c = 4 ∧ f = 12)) (h : cR I i b A) : cR (mj_up I (sA i c) d (nI x)) i b (mj_up A f d x) := by
  have hc2 : 2 ≤ c ∧ c < 5 := by omega
  have hf : 10 ≤ f ∧ f < 13 := by omega
  have n : ∀ e, e ≠ c → mj_up I (sA i c) d (nI x) (sA i e) = I (sA i e) := fun e he => up_fI (sA_ne he)
  refine ⟨cRr_A (up_f (by omega)) (up_f (by omega)) (up_f (by omega)) (up_f (by omega)) (cRr_F (fun e h1 h2 => n e (by omega)) h.1), ⟨?_, fun j hj => ?_, fun p hp => ?_, fun k hk => ?_⟩, cRs_A (up_f (by omega)) (up_f (by omega)) (up_f (by omega)) (up_f (by omega)) (up_f (by omega)) (up_f (by omega)) (cRs_f (fun e he => n e (by omega)) h.2.2)⟩
  · rw [n 1 (by omega), up_f (show (14:Nat) ≠ f by omega)]; exact h.2.1.1
  · obtain ⟨g1, g2, g3⟩ := h.2.1.2.1 j hj
    rcases hc with ⟨rfl, rfl⟩ | ⟨rfl, rfl⟩ | ⟨rfl, rfl⟩
    · rw [n 3 (by decide), n 4 (by decide), mj_up_ne (show (11:Nat) ≠ 10 by decide), mj_up_ne (show (12:Nat) ≠ 10 by decide)]
      refine ⟨?_, g2, g3⟩
      by_cases e : j = d
      · rw [e, mj_up_eq, mj_up_eq]
      · rw [mj_up_ne2 e, mj_up_ne2 e]; exact g1
    · rw [n 2 (by decide), n 4 (by decide), mj_up_ne (show (10:Nat) ≠ 11 by decide), mj_up_ne (show (12:Nat) ≠ 11 by decide)]
      refine ⟨g1, ?_, g3⟩
      by_cases e : j = d
      · rw [e, mj_up_eq, mj_up_eq]
      · rw [mj_up_ne2 e, mj_up_ne2 e]; exact g2
    · rw [n 2 (by decide), n 3 (by decide), mj_up_ne (show (10:Nat) ≠ 12 by decide), mj_up_ne (show (11:Nat) ≠ 12 by decide)]
      refine ⟨g1, g2, ?_⟩
      by_cases e : j = d
      · rw [e, mj_up_eq, mj_up_eq]
      · rw [mj_up_ne2 e, mj_up_ne2 e]; exact g3
  · rw [n 5 (by omega), up_f (show (13:Nat) ≠ f by omega)]; exact h.2.1.2.2.1 p hp
  · rw [up_f (show (14:Nat) ≠ f by omega)] at hk ⊢
    rw [n 6 (by omega), up_f (show (15:Nat) ≠ f by omega)]; exact h.2.1.2.2.2 k hk
section ST1
variable {w : mj_Wd} {l : Launch} {I : mj_M} {J : mj_J} {R : mj_R} {b A : St} {i : Nat}
theorem rn_X5_isStarted {d : Nat} (hi : i < 21) (h : cRs I i A) (hd : d < 10) : Rn w l yX5_isStarted dd_X5_isStarted [.ref (sA i 0), .int (nI d)] (472, I, J, R) (some (.int (bI (A 7 d == 1)))) (472, I, J, R) := by
  have hz : 50 + 20 * i ≤ 472 := by omega
  have e := ubit (bit32_lt (P := fun d => A 7 d == 1) (show 10 ≤ 32 by decide)) (show d < 32 by omega)
  rw [bitN_bit, decide_eq_true hd, Bool.true_and] at e
  rw [← e]
  refine rn_intro2 (L := [some (.ref (sA i 0)), some (.int (nI d))]) ⟨by decide, rfl, (fun h => by cases h)⟩ (Nat.le_refl _) (Nat.le_of_ble_eq_true rfl) rfl (fun Y Q hQ => ?_)
  exact q_aload_n (pc' := 1) dX5_isStarted_0 rfl rfl (q_getIe (pc' := 4) dX5_isStarted_1 rfl fr_RX5_50 (okS hi hz (by decide) rfl) rfl h.1.1 (q_iload_n (pc' := 5) dX5_isStarted_4 rfl rfl (q_iushr (pc' := 6) dX5_isStarted_5 rfl (q_iconst (pc' := 7) _ dX5_isStarted_6 rfl kk_iconst_1 (q_iand (pc' := 8) dX5_isStarted_7 rfl (q_iconst (pc' := 9) _ dX5_isStarted_8 rfl kk_iconst_1 (q_bl_icmp_ne (p4 := 17) dX5_isStarted_9 dX5_isStarted_12 dX5_isStarted_13 dX5_isStarted_16 rfl rfl rfl rfl rfl (q_zret dX5_isStarted_17 rfl (by first | exact Or.inl rfl | exact Or.inr rfl | exact bI_01 _) hQ))))))))
theorem rn_X5_isPromised {d : Nat} (hi : i < 21) (h : cRs I i A) (hd : d < 10) : Rn w l yX5_isPromised dd_X5_isPromised [.ref (sA i 0), .int (nI d)] (472, I, J, R) (some (.int (bI (A 8 d == 1)))) (472, I, J, R) := by
  have hz : 50 + 20 * i ≤ 472 := by omega
  have e := ubit (bit32_lt (P := fun d => A 8 d == 1) (show 10 ≤ 32 by decide)) (show d < 32 by omega)
  rw [bitN_bit, decide_eq_true hd, Bool.true_and] at e
  rw [← e]
  refine rn_intro2 (L := [some (.ref (sA i 0)), some (.int (nI d))]) ⟨by decide, rfl, (fun h => by cases h)⟩ (Nat.le_refl _) (Nat.le_of_ble_eq_true rfl) rfl (fun Y Q hQ => ?_)
  exact q_aload_n (pc' := 1) dX5_isPromised_0 rfl rfl (q_getIe (pc' := 4) dX5_isPromised_1 rfl fr_RX5_54 (okS hi hz (by decide) rfl) rfl h.1.2 (q_iload_n (pc' := 5) dX5_isPromised_4 rfl rfl (q_iushr (pc' := 6) dX5_isPromised_5 rfl (q_iconst (pc' := 7) _ dX5_isPromised_6 rfl kk_iconst_1 (q_iand (pc' := 8) dX5_isPromised_7 rfl (q_iconst (pc' := 9) _ dX5_isPromised_8 rfl kk_iconst_1 (q_bl_icmp_ne (p4 := 17) dX5_isPromised_9 dX5_isPromised_12 dX5_isPromised_13 dX5_isPromised_16 rfl rfl rfl rfl rfl (q_zret dX5_isPromised_17 rfl (by first | exact Or.inl rfl | exact Or.inr rfl | exact bI_01 _) hQ))))))))
theorem rn_X5_isManaged {d : Nat} (hi : i < 21) (hS : mj_wS R i) (hB : mj_wB R 4) (hb : cB I b) (hk : bOK b) (hd : d < b 0 2) : Rn w l yX5_isManaged dd_X5_isManaged [.ref (sA i 0), .int (nI d)] (472, I, J, R) (some (.int (bI (b 1 d == 3)))) (472, I, J, R) := by
  have hz : 50 + 20 * i ≤ 472 := by omega
  have h10 := hk.2.2.1
  have hs := hk.2.2.2 d hd
  rw [← nI_dec (by omega) (by decide)]
  refine rn_intro2 (L := [some (.ref (sA i 0)), some (.int (nI d))]) ⟨by decide, rfl, (fun h => by cases h)⟩ (Nat.le_refl _) (Nat.le_of_ble_eq_true rfl) rfl (fun Y Q hQ => ?_)
  exact q_aload_n (pc' := 1) dX5_isManaged_0 rfl rfl (q_getR (pc' := 4) dX5_isManaged_1 rfl fr_RX5_32 (okS hi hz (by decide) rfl) rfl (wS_5_0 hS) (by decide) (q_getR (pc' := 7) dX5_isManaged_4 rfl fr_RX5_74 (by first | assumption | exact ⟨by omega, rfl⟩) rfl (wB_7 hB) (by omega) (q_iload_n (pc' := 8) dX5_isManaged_7 rfl rfl (q_ialde (pc' := 9) (d) dX5_isManaged_8 rfl (by first | exact ⟨by omega, rfl⟩ | exact okaS hi hz (by decide) rfl | assumption) (by (first | (simp only [nI_add, pk_mul]; done) | (simp only [nI_add, pk_mul]; exact nI_e (by omega)) | exact nI_e (by omega))) (by omega) (hb.2 d hd).1 (q_iconst (pc' := 10) _ dX5_isManaged_9 rfl kk_iconst_3 (q_bl_icmp_ne (p4 := 18) dX5_isManaged_10 dX5_isManaged_13 dX5_isManaged_14 dX5_isManaged_17 rfl rfl rfl rfl rfl (q_zret dX5_isManaged_18 rfl (by first | exact Or.inl rfl | exact Or.inr rfl | exact bI_01 _) hQ)))))))
theorem rn_X5_promisedVectors (hi : i < 21) (hS : mj_wS R i) (hB : mj_wB R 4) (hb : cB I b) (hk : bOK b) (h : cRs I i A) : Rn w l yX5_promisedVectors dd_X5_promisedVectors [.ref (sA i 0)] (472, I, J, R) (some (.int (nI (aProm b A)))) (472, I, J, R) := by
  have hz : 50 + 20 * i ≤ 472 := by omega
  have h10 := hk.2.2.1
  unfold aProm
  refine rn_intro2 (L := [some (.ref (sA i 0)), none, none]) ⟨by decide, rfl, (fun h => by cases h)⟩ (Nat.le_refl _) (Nat.le_of_ble_eq_true rfl) rfl (fun Y Q hQ => ?_)
  have loop : ∀ m k, k + m = b 0 2 → Wq dd_X5_promisedVectors (mj_mk w l 472 Y) Q 4 [some (.ref (sA i 0)), some (.int (nI (sumN (fun d => if A 8 d = 1 then b 2 d else 0) k))), some (.int (nI k))] [] (472, I, J, R) := by
    intro m
    induction m with
    | zero =>
      intro k hkm
      have hkz : k = b 0 2 := by omega
      subst hkz
      exact q_iload_n (pc' := 5) dX5_promisedVectors_4 rfl rfl (q_aload_n (pc' := 6) dX5_promisedVectors_5 rfl rfl (q_getR (pc' := 9) dX5_promisedVectors_6 rfl fr_RX5_32 (okS hi hz (by decide) rfl) rfl (wS_5_0 hS) (by decide) (q_getIe (pc' := 12) dX5_promisedVectors_9 rfl fr_RX5_79 (by first | assumption | exact ⟨by omega, rfl⟩) rfl (cB_4 hb) (q_icmp_ge (pc' := 15) (pt := 45) dX5_promisedVectors_12 rfl rfl (fun _ => (q_iload_n (pc' := 46) dX5_promisedVectors_45 rfl rfl (q_iret dX5_promisedVectors_46 rfl hQ))) (fun h9 => absurd (by (first | assumption | exact nI_le (by omega) (by omega) | exact nI_ge (by omega) (by omega) | exact nI_lt (by omega) (by omega) | exact nI_nlt (by omega) (by omega) | exact nI_ne (by omega) (by omega) (by omega) | exact nI_e (by omega) | decide)) h9)))))
    | succ m ih =>
      intro k hkm
      have next := ih (k + 1) (by omega)
      have es : sumN (fun d => if A 8 d = 1 then b 2 d else 0) (k + 1) = sumN (fun d => if A 8 d = 1 then b 2 d else 0) k + (if A 8 k = 1 then b 2 k else 0) := rfl
      rw [es] at next
      by_cases hc : A 8 k = 1
      · rw [if_pos hc] at next
        refine q_iload_n (pc' := 5) dX5_promisedVectors_4 rfl rfl (q_aload_n (pc' := 6) dX5_promisedVectors_5 rfl rfl (q_getR (pc' := 9) dX5_promisedVectors_6 rfl fr_RX5_32 (okS hi hz (by decide) rfl) rfl (wS_5_0 hS) (by decide) (q_getIe (pc' := 12) dX5_promisedVectors_9 rfl fr_RX5_79 (by first | assumption | exact ⟨by omega, rfl⟩) rfl (cB_4 hb) (q_icmp_ge (pc' := 15) (pt := 45) dX5_promisedVectors_12 rfl rfl (fun h9 => absurd h9 (by (first | assumption | exact nI_le (by omega) (by omega) | exact nI_ge (by omega) (by omega) | exact nI_lt (by omega) (by omega) | exact nI_nlt (by omega) (by omega) | exact nI_ne (by omega) (by omega) (by omega) | exact nI_e (by omega) | decide))) (fun _ => (q_iload_n (pc' := 16) dX5_promisedVectors_15 rfl rfl (q_aload_n (pc' := 17) dX5_promisedVectors_16 rfl rfl (q_iload_n (pc' := 18) dX5_promisedVectors_17 rfl rfl (q_cVi (pc' := 21) dX5_promisedVectors_18 rfl ml_RX5_82 yv_X5_isPromised (by decide) (rn_X5_isPromised hi h (by omega)) (okS hi hz (by decide) rfl) rfl rfl (Nat.le_of_ble_eq_true rfl) (Nat.le_refl _) (q_ifb_eq (pc' := 24) (pt := 36) dX5_promisedVectors_21 rfl rfl (fun h9 => Bool.noConfusion (Eq.trans (Eq.symm (beq_iff_eq.mpr hc)) h9)) (fun _ => (q_aload_n (pc' := 25) dX5_promisedVectors_24 rfl rfl (q_getR (pc' := 28) dX5_promisedVectors_25 rfl fr_RX5_32 (okS hi hz (by decide) rfl) rfl (wS_5_0 hS) (by decide) (q_getR (pc' := 31) dX5_promisedVectors_28 rfl fr_RX5_85 (by first | assumption | exact ⟨by omega, rfl⟩) rfl (wB_8 hB) (by omega) (q_iload_n (pc' := 32) dX5_promisedVectors_31 rfl rfl ?_)))))))))))))))
        refine q_ialde (pc' := 33) (k) dX5_promisedVectors_32 rfl (by first | exact ⟨by omega, rfl⟩ | exact okaS hi hz (by decide) rfl | assumption) (by (first | (simp only [nI_add, pk_mul]; done) | (simp only [nI_add, pk_mul]; exact nI_e (by omega)) | exact nI_e (by omega))) (by omega) (hb.2 k (by omega)).2.1 (q_goto (pc' := 37) dX5_promisedVectors_33 rfl ?_)
        refine q_iadd dX5_promisedVectors_37 rfl ?_
        refine q_top (nI_add _ _) ?_
        refine q_ist_1 (pc' := 39) dX5_promisedVectors_38 rfl (by decide) rfl (q_inc_2 (pc' := 42) dX5_promisedVectors_39 rfl (by decide) rfl (q_goto (pc' := 4) dX5_promisedVectors_42 rfl ?_))
        exact next
      · rw [if_neg hc] at next
        refine q_iload_n (pc' := 5) dX5_promisedVectors_4 rfl rfl (q_aload_n (pc' := 6) dX5_promisedVectors_5 rfl rfl (q_getR (pc' := 9) dX5_promisedVectors_6 rfl fr_RX5_32 (okS hi hz (by decide) rfl) rfl (wS_5_0 hS) (by decide) (q_getIe (pc' := 12) dX5_promisedVectors_9 rfl fr_RX5_79 (by first | assumption | exact ⟨by omega, rfl⟩) rfl (cB_4 hb) (q_icmp_ge (pc' := 15) (pt := 45) dX5_promisedVectors_12 rfl rfl (fun h9 => absurd h9 (by (first | assumption | exact nI_le (by omega) (by omega) | exact nI_ge (by omega) (by omega) | exact nI_lt (by omega) (by omega) | exact nI_nlt (by omega) (by omega) | exact nI_ne (by omega) (by omega) (by omega) | exact nI_e (by omega) | decide))) (fun _ => (q_iload_n (pc' := 16) dX5_promisedVectors_15 rfl rfl (q_aload_n (pc' := 17) dX5_promisedVectors_16 rfl rfl (q_iload_n (pc' := 18) dX5_promisedVectors_17 rfl rfl (q_cVi (pc' := 21) dX5_promisedVectors_18 rfl ml_RX5_82 yv_X5_isPromised (by decide) (rn_X5_isPromised hi h (by omega)) (okS hi hz (by decide) rfl) rfl rfl (Nat.le_of_ble_eq_true rfl) (Nat.le_refl _) (q_ifb_eq (pc' := 24) (pt := 36) dX5_promisedVectors_21 rfl rfl (fun _ => (q_iconst (pc' := 37) _ dX5_promisedVectors_36 rfl kk_iconst_0 ?_)) (fun h9 => Bool.noConfusion (Eq.trans (Eq.symm (beq_eq_false_iff_ne.mpr hc)) h9))))))))))))
        refine q_iadd dX5_promisedVectors_37 rfl ?_
        refine q_top (nI_add _ 0) ?_
        refine q_ist_1 (pc' := 39) dX5_promisedVectors_38 rfl (by decide) rfl (q_inc_2 (pc' := 42) dX5_promisedVectors_39 rfl (by decide) rfl (q_goto (pc' := 4) dX5_promisedVectors_42 rfl ?_))
        exact next
  refine q_iconst (pc' := 1) _ dX5_promisedVectors_0 rfl kk_iconst_0 (q_ist_1 (pc' := 2) dX5_promisedVectors_1 rfl (by decide) rfl (q_iconst (pc' := 3) _ dX5_promisedVectors_2 rfl kk_iconst_0 (q_ist_2 (pc' := 4) dX5_promisedVectors_3 rfl (by decide) rfl ?_)))
  exact loop (b 0 2) 0 (by omega)
theorem rs_X5_hold {id p : Nat} (hi : i < 21) (hS : mj_wS R i) (hk : bOK b) (h : cR I i b A) (hid : id < 80) (h256 : p < 256) (hv : p % 32 < b 0 1) : RsV w l yX5_hold dd_X5_hold [.ref (sA i 0), .int (nI id), .int (nI p)] (472, I, J, R) (fun I' => cR I' i b (aHolds A id p) ∧ mS i I I') := by
  have hz : 50 + 20 * i ≤ 472 := by omega
  refine rt_intro2 (L := [some (.ref (sA i 0)), some (.int (nI id)), some (.int (nI p))]) ⟨by decide, rfl, (fun h => by cases h)⟩ (Nat.le_of_ble_eq_true rfl) rfl (fun Y Q hQ => ?_)
  have hp := rs_X4_put (w := w) (l := l) (J := J) (R := R) (k := p) (s := 2) (o := id + 1) hi hS hk h.1 h256 hv (by decide)
  rw [show lD (id + 1) = nI id from lD_p (by omega)] at hp
  refine q_aload_n (pc' := 1) dX5_hold_0 rfl rfl (q_getR (pc' := 4) dX5_hold_1 rfl fr_RX5_41 (okS hi hz (by decide) rfl) rfl (wS_5_1 hS) (sA_lt hi (by decide)) (q_iload_n (pc' := 5) dX5_hold_4 rfl rfl (q_iconst (pc' := 6) _ dX5_hold_5 rfl kk_iconst_2 (q_iload_n (pc' := 7) dX5_hold_6 rfl rfl (q_sVv (pc' := 10) dX5_hold_7 rfl ml_RX5_100 yv_X4_put (by decide) (hp) (okS hi hz (by decide) rfl) rfl rfl (Nat.le_of_ble_eq_true rfl) (Nat.le_refl _) (fun I1 ⟨r1, f1⟩ => ?_))))))
  have h1 := cR_rows h r1 f1 (fun g hg => by unfold aSets; rw [up_f (by omega), up_f (by omega)])
  refine q_aload_n (pc' := 11) dX5_hold_10 rfl rfl (q_getR (pc' := 14) dX5_hold_11 rfl fr_RX5_18 (okS hi hz (by decide) rfl) rfl (wS_5_5 hS) (sA_lt hi (by decide)) (q_iload_n (pc' := 15) dX5_hold_14 rfl rfl (q_iload_n (pc' := 16) dX5_hold_15 rfl rfl (q_iast (pc' := 17) (id) dX5_hold_16 rfl (by first | exact ⟨by omega, rfl⟩ | exact okaS hi hz (by decide) rfl | assumption) (by (first | (simp only [nI_add, pk_mul]; done) | (simp only [nI_add, pk_mul]; exact nI_e (by omega)) | exact nI_e (by omega))) (by omega) ?_))))
  refine q_vret dX5_hold_17 rfl (hQ _ _ _ _ ⟨rfl, ⟨rfl, rfl⟩, ?_, f1.s.tr (mS_up (by decide))⟩)
  exact cR_ln (x := p + 1) (Or.inl ⟨rfl, rfl, lD_s.symm⟩) h1
theorem rs_X5_release {id p : Nat} (hi : i < 21) (hS : mj_wS R i) (hB : mj_wB R 4) (hb : cB I b) (hk : bOK b) (h : cR I i b A) (hid : id < 80) (hd : id / 8 < b 0 2) (h256 : p < 256) (hv : p % 32 < b 0 1) (hnp : A 2 p ≠ 1) : RsV w l yX5_release dd_X5_release [.ref (sA i 0), .int (nI id), .int (nI p)] (472, I, J, R) (fun I' => cR I' i b (aLeaves b A id p) ∧ mS i I I') := by
  have hz : 50 + 20 * i ≤ 472 := by omega
  have ek : 32 * (p / 32) + p % 32 = p := by omega
  have e1 := pk_div (a := id) (d := 8) (by omega) (by decide) (by decide)
  have fin : ∀ I1 x y, cRr I1 i b (aSets A p x y) → mSr i I I1 → cR I1 i b (mj_up (aSets A p x y) 2 p 0) := fun I1 x y r1 f1 => by
    have h1 := cR_rows h r1 f1 (fun g hg => by unfold aSets; rw [up_f (by omega), up_f (by omega)])
    refine ⟨cRr_pe hk r1 ?_ (fun _ _ => rfl) (fun _ _ => rfl), cRt_A (mj_up_ne (by decide)) (mj_up_ne (by decide)) (up_f (by decide)) (up_f (by decide)) (up_f (by decide)) (up_f (by decide)) (up_f (by decide)) h1.2.1, cRs_A (up_f (by decide)) (up_f (by decide)) (up_f (by decide)) (up_f (by decide)) (up_f (by decide)) (up_f (by decide)) h1.2.2⟩
    rw [r1.2.1 (p / 32) (by omega)]
    congr 1
    refine bitN_cong (fun u hu => ?_)
    by_cases eu : u = p % 32
    · rw [if_pos eu, eu, ek]
      show (A 2 p == 1) = _
      rw [beq_eq_false_iff_ne.mpr hnp]
      rfl
    · rw [if_neg eu]
  refine rt_intro2 (L := [some (.ref (sA i 0)), some (.int (nI id)), some (.int (nI p)), none]) ⟨by decide, rfl, (fun h => by cases h)⟩ (Nat.le_of_ble_eq_true rfl) rfl (fun Y Q hQ => ?_)
  unfold aLeaves at hQ
  refine q_aload_n (pc' := 1) dX5_release_0 rfl rfl (q_iload_n (pc' := 2) dX5_release_1 rfl rfl (q_bipush (pc' := 4) _ dX5_release_2 rfl kk_bipush_8 (q_idiv (pc' := 5) dX5_release_4 rfl (by decide) ?_)))
  refine q_top e1 ?_
  refine q_cVi (pc' := 8) dX5_release_5 rfl ml_RX5_104 yv_X5_isManaged (by decide) (rn_X5_isManaged hi hS hB hb hk hd) (okS hi hz (by decide) rfl) rfl rfl (Nat.le_of_ble_eq_true rfl) (Nat.le_refl _) ?_
  by_cases h3 : b 1 (id / 8) = 3
  · rw [if_pos h3, if_pos h3] at hQ
    rw [beq_iff_eq.mpr h3]
    have hp := rs_X4_put (w := w) (l := l) (J := J) (R := R) (k := p) (s := 4) (o := id + 1) hi hS hk h.1 h256 hv (by decide)
    rw [show lD (id + 1) = nI id from lD_p (by omega)] at hp
    refine q_ist_3 (pc' := 9) dX5_release_8 rfl (by decide) rfl (q_aload_n (pc' := 10) dX5_release_9 rfl rfl (q_getR (pc' := 13) dX5_release_10 rfl fr_RX5_41 (okS hi hz (by decide) rfl) rfl (wS_5_1 hS) (sA_lt hi (by decide)) (q_iload_n (pc' := 14) dX5_release_13 rfl rfl (q_iload_n (pc' := 15) dX5_release_14 rfl rfl (q_ifb_eq (pc' := 18) (pt := 22) dX5_release_15 rfl rfl (fun h9 => Bool.noConfusion (Eq.trans (Eq.symm (rfl)) h9)) (fun _ => (q_iconst (pc' := 19) _ dX5_release_18 rfl kk_iconst_4 (q_goto (pc' := 23) dX5_release_19 rfl (q_iload_n (pc' := 24) dX5_release_23 rfl rfl (q_ifb_eq (pc' := 27) (pt := 31) dX5_release_24 rfl rfl (fun h9 => Bool.noConfusion (Eq.trans (Eq.symm (rfl)) h9)) (fun _ => (q_iload_n (pc' := 28) dX5_release_27 rfl rfl (q_goto (pc' := 32) dX5_release_28 rfl (q_sVv (pc' := 35) dX5_release_32 rfl ml_RX5_100 yv_X4_put (by decide) (hp) (okS hi hz (by decide) rfl) rfl rfl (Nat.le_of_ble_eq_true rfl) (Nat.le_refl _) (fun I1 ⟨r1, f1⟩ => ?_)))))))))))))))
    refine q_vret dX5_release_35 rfl (hQ _ _ _ _ ⟨rfl, ⟨rfl, rfl⟩, fin I1 _ _ r1 f1, f1.s⟩)
  · rw [if_neg h3, if_neg h3] at hQ
    rw [beq_eq_false_iff_ne.mpr h3]
    have hp := rs_X4_put (w := w) (l := l) (J := J) (R := R) (k := p) (s := 0) (o := 0) hi hS hk h.1 h256 hv (by decide)
    refine q_ist_3 (pc' := 9) dX5_release_8 rfl (by decide) rfl (q_aload_n (pc' := 10) dX5_release_9 rfl rfl (q_getR (pc' := 13) dX5_release_10 rfl fr_RX5_41 (okS hi hz (by decide) rfl) rfl (wS_5_1 hS) (sA_lt hi (by decide)) (q_iload_n (pc' := 14) dX5_release_13 rfl rfl (q_iload_n (pc' := 15) dX5_release_14 rfl rfl (q_ifb_eq (pc' := 18) (pt := 22) dX5_release_15 rfl rfl (fun _ => (q_iconst (pc' := 23) _ dX5_release_22 rfl kk_iconst_0 (q_iload_n (pc' := 24) dX5_release_23 rfl rfl (q_ifb_eq (pc' := 27) (pt := 31) dX5_release_24 rfl rfl (fun _ => (q_iconst (pc' := 32) _ dX5_release_31 rfl kk_iconst_m1 (q_sVv (pc' := 35) dX5_release_32 rfl ml_RX5_100 yv_X4_put (by decide) (hp) (okS hi hz (by decide) rfl) rfl rfl (Nat.le_of_ble_eq_true rfl) (Nat.le_refl _) (fun I1 ⟨r1, f1⟩ => ?_)))) (fun h9 => Bool.noConfusion (Eq.trans (Eq.symm (rfl)) h9)))))) (fun h9 => Bool.noConfusion (Eq.trans (Eq.symm (rfl)) h9)))))))
    refine q_vret dX5_release_35 rfl (hQ _ _ _ _ ⟨rfl, ⟨rfl, rfl⟩, fin I1 _ _ r1 f1, f1.s⟩)
theorem rs_X5_releaseOld {id : Nat} (hi : i < 21) (hS : mj_wS R i) (hB : mj_wB R 4) (hb : cB I b) (hk : bOK b) (h : cR I i b A) (hid : id < 80) (hd : id / 8 < b 0 2) (h0 : A 4 id ≠ 0) (h256 : A 4 id - 1 < 256) (hv : (A 4 id - 1) % 32 < b 0 1) (hnp : A 2 (A 4 id - 1) ≠ 1) : RsV w l yX5_releaseOld dd_X5_releaseOld [.ref (sA i 0), .int (nI id)] (472, I, J, R) (fun I' => cR I' i b (aNoOld (aLeaves b A id (A 4 id - 1)) id) ∧ mS i I I') := by
  have hz : 50 + 20 * i ≤ 472 := by omega
  have e4 : I (sA i 8) id = nI (A 4 id - 1) := (h.2.2.2 id hid).2.1.trans (lD_p (by omega))
  refine rt_intro2 (L := [some (.ref (sA i 0)), some (.int (nI id))]) ⟨by decide, rfl, (fun h => by cases h)⟩ (Nat.le_of_ble_eq_true rfl) rfl (fun Y Q hQ => ?_)
  refine q_aload_n (pc' := 1) dX5_releaseOld_0 rfl rfl (q_iload_n (pc' := 2) dX5_releaseOld_1 rfl rfl (q_aload_n (pc' := 3) dX5_releaseOld_2 rfl rfl (q_getR (pc' := 6) dX5_releaseOld_3 rfl fr_RX5_22 (okS hi hz (by decide) rfl) rfl (wS_5_6 hS) (sA_lt hi (by decide)) (q_iload_n (pc' := 7) dX5_releaseOld_6 rfl rfl (q_ialde (pc' := 8) (id) dX5_releaseOld_7 rfl (by first | exact ⟨by omega, rfl⟩ | exact okaS hi hz (by decide) rfl | assumption) (by (first | (simp only [nI_add, pk_mul]; done) | (simp only [nI_add, pk_mul]; exact nI_e (by omega)) | exact nI_e (by omega))) (by omega) e4 (q_sVv (pc' := 11) dX5_releaseOld_8 rfl ml_RX5_107 yv_X5_release (by decide) (rs_X5_release hi hS hB hb hk h hid hd h256 hv hnp) (okS hi hz (by decide) rfl) rfl rfl (Nat.le_of_ble_eq_true rfl) (Nat.le_refl _) (fun I1 ⟨h1, f1⟩ => ?_)))))))
  refine q_aload_n (pc' := 12) dX5_releaseOld_11 rfl rfl (q_getR (pc' := 15) dX5_releaseOld_12 rfl fr_RX5_22 (okS hi hz (by decide) rfl) rfl (wS_5_6 hS) (sA_lt hi (by decide)) (q_iload_n (pc' := 16) dX5_releaseOld_15 rfl rfl (q_iconst (pc' := 17) _ dX5_releaseOld_16 rfl kk_iconst_m1 (q_iast (pc' := 18) (id) dX5_releaseOld_17 rfl (by first | exact ⟨by omega, rfl⟩ | exact okaS hi hz (by decide) rfl | assumption) (by (first | (simp only [nI_add, pk_mul]; done) | (simp only [nI_add, pk_mul]; exact nI_e (by omega)) | exact nI_e (by omega))) (by omega) (q_aload_n (pc' := 19) dX5_releaseOld_18 rfl rfl (q_getR (pc' := 22) dX5_releaseOld_19 rfl fr_RX5_25 (okS hi hz (by decide) rfl) rfl (wS_5_7 hS) (sA_lt hi (by decide)) (q_iload_n (pc' := 23) dX5_releaseOld_22 rfl rfl (q_iconst (pc' := 24) _ dX5_releaseOld_23 rfl kk_iconst_0 (q_zast (pc' := 25) (id) dX5_releaseOld_24 rfl (by first | exact ⟨by omega, rfl⟩ | exact okaS hi hz (by decide) rfl | assumption) (by (first | (simp only [nI_add, pk_mul]; done) | (simp only [nI_add, pk_mul]; exact nI_e (by omega)) | exact nI_e (by omega))) (by omega) (by first | exact Or.inl rfl | exact Or.inr rfl | exact bI_01 _) ?_)))))))))
  refine q_vret dX5_releaseOld_25 rfl (hQ _ _ _ _ ⟨rfl, ⟨rfl, rfl⟩, ?_, (f1.tr (mS_up (by decide))).tr (mS_up (by decide))⟩)
  exact cR_ln (x := 0) (Or.inr (Or.inr (Or.inl ⟨rfl, rfl, rfl⟩))) (cR_ln (x := 0) (Or.inr (Or.inl ⟨rfl, rfl, rfl⟩)) h1)
theorem rs_X5_pendAt {id p : Nat} (hi : i < 21) (hS : mj_wS R i) (hk : bOK b) (h : cR I i b A) (hid : id < 80) (h256 : p < 256) (hv : p % 32 < b 0 1) : RsI w l yX5_pendAt dd_X5_pendAt [.ref (sA i 0), .int (nI id), .int (nI p)] (472, I, J, R) (fun x I' => x = bI (A 2 p != 1) ∧ cR I' i b (aPends A (id / 8) p) ∧ mS i I I') := by
  have hz : 50 + 20 * i ≤ 472 := by omega
  have e1 := pk_div (a := id) (d := 8) (by omega) (by decide) (by decide)
  refine rt_intro2 (L := [some (.ref (sA i 0)), some (.int (nI id)), some (.int (nI p))]) ⟨by decide, rfl, (fun h => by cases h)⟩ (Nat.le_of_ble_eq_true rfl) rfl (fun Y Q hQ => ?_)
  unfold aPends at hQ
  by_cases hc : A 2 p = 1
  · rw [if_pos hc, show (A 2 p != 1) = false by rw [hc]; rfl] at hQ
    refine q_aload_n (pc' := 1) dX5_pendAt_0 rfl rfl (q_getR (pc' := 4) dX5_pendAt_1 rfl fr_RX5_41 (okS hi hz (by decide) rfl) rfl (wS_5_1 hS) (sA_lt hi (by decide)) (q_iload_n (pc' := 5) dX5_pendAt_4 rfl rfl (q_cVi (pc' := 8) dX5_pendAt_5 rfl ml_RX5_111 yv_X4_isPending (by decide) (rn_X4_isPending hi hS hk h.1 h256 hv) (okS hi hz (by decide) rfl) rfl rfl (Nat.le_of_ble_eq_true rfl) (Nat.le_refl _) (q_ifb_eq (pc' := 11) (pt := 29) dX5_pendAt_8 rfl rfl (fun h9 => Bool.noConfusion (Eq.trans (Eq.symm (beq_iff_eq.mpr hc)) h9)) (fun _ => (q_aload_n (pc' := 12) dX5_pendAt_11 rfl rfl (q_getR (pc' := 15) dX5_pendAt_12 rfl fr_RX5_12 (okS hi hz (by decide) rfl) rfl (wS_5_2 hS) (sA_lt hi (by decide)) (q_getR (pc' := 18) dX5_pendAt_15 rfl fr_RX5_114 (okS hi hz (by decide) rfl) rfl (wS_8_3 hS) (sA_lt hi (by decide)) (q_iload_n (pc' := 19) dX5_pendAt_18 rfl rfl (q_bipush (pc' := 21) _ dX5_pendAt_19 rfl kk_bipush_8 (q_idiv (pc' := 22) dX5_pendAt_21 rfl (by decide) ?_)))))))))))
    refine q_top e1 ?_
    refine q_dup2 (pc' := 23) dX5_pendAt_22 rfl (q_ialde (pc' := 24) (id / 8) dX5_pendAt_23 rfl (by first | exact ⟨by omega, rfl⟩ | exact okaS hi hz (by decide) rfl | assumption) (by (first | (simp only [nI_add, pk_mul]; done) | (simp only [nI_add, pk_mul]; exact nI_e (by omega)) | exact nI_e (by omega))) (by omega) (h.2.1.2.1 (id / 8) (by omega)).2.1 (q_iconst (pc' := 25) _ dX5_pendAt_24 rfl kk_iconst_1 (q_iadd (pc' := 26) dX5_pendAt_25 rfl ?_)))
    refine q_top (nI_add _ 1) ?_
    refine q_iast (pc' := 27) (id / 8) dX5_pendAt_26 rfl (by first | exact ⟨by omega, rfl⟩ | exact okaS hi hz (by decide) rfl | assumption) (by (first | (simp only [nI_add, pk_mul]; done) | (simp only [nI_add, pk_mul]; exact nI_e (by omega)) | exact nI_e (by omega))) (by omega) ?_
    refine q_iconst (bI false) dX5_pendAt_27 rfl rfl ?_
    refine q_zret dX5_pendAt_28 rfl (bI_01 _) (hQ _ _ _ _ ⟨_, rfl, ⟨rfl, rfl⟩, rfl, ?_, mS_up (by decide)⟩)
    exact cR_up14 (by decide) (by decide) (cR_ct (Or.inr (Or.inl ⟨rfl, rfl⟩)) h)
  · rw [if_neg hc, show (A 2 p != 1) = true from bne_iff_ne.mpr hc] at hQ
    refine q_aload_n (pc' := 1) dX5_pendAt_0 rfl rfl (q_getR (pc' := 4) dX5_pendAt_1 rfl fr_RX5_41 (okS hi hz (by decide) rfl) rfl (wS_5_1 hS) (sA_lt hi (by decide)) (q_iload_n (pc' := 5) dX5_pendAt_4 rfl rfl (q_cVi (pc' := 8) dX5_pendAt_5 rfl ml_RX5_111 yv_X4_isPending (by decide) (rn_X4_isPending hi hS hk h.1 h256 hv) (okS hi hz (by decide) rfl) rfl rfl (Nat.le_of_ble_eq_true rfl) (Nat.le_refl _) (q_ifb_eq (pc' := 11) (pt := 29) dX5_pendAt_8 rfl rfl (fun _ => (q_aload_n (pc' := 30) dX5_pendAt_29 rfl rfl (q_getR (pc' := 33) dX5_pendAt_30 rfl fr_RX5_41 (okS hi hz (by decide) rfl) rfl (wS_5_1 hS) (sA_lt hi (by decide)) (q_iload_n (pc' := 34) dX5_pendAt_33 rfl rfl (q_sVv (pc' := 37) dX5_pendAt_34 rfl ml_RX5_117 yv_X4_pend (by decide) (rs_X4_pend hi hS hk h.1 h256 hv) (okS hi hz (by decide) rfl) rfl rfl (Nat.le_of_ble_eq_true rfl) (Nat.le_refl _) (fun I1 ⟨r1, f1⟩ => ?_)))))) (fun h9 => Bool.noConfusion (Eq.trans (Eq.symm (beq_eq_false_iff_ne.mpr hc)) h9))))))
    refine q_iconst (bI true) dX5_pendAt_37 rfl rfl ?_
    refine q_zret dX5_pendAt_38 rfl (bI_01 _) (hQ _ _ _ _ ⟨_, rfl, ⟨rfl, rfl⟩, rfl, ?_, f1.s⟩)
    exact cR_rows h r1 f1 (fun g hg => up_f (by omega))
end ST1
