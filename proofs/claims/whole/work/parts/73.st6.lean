/-! ===== the class: a message is handled ===== -/
theorem log_g {A : St} {e g : Nat} (h14 : g ≠ 14) (h15 : g ≠ 15) : aLog A e g = A g := by
  unfold aLog
  rw [up_f h14, up_f h15]
theorem hand1_g {A : St} {p pl id g : Nat} (h2 : g ≠ 2) (h10 : g ≠ 10) (h13 : g ≠ 13) (h14 : g ≠ 14) (h15 : g ≠ 15) : aHand1 A p pl id g = A g := by
  unfold aHand1
  rw [log_g h14 h15, up_f h14, up_f h10, up_f h13, up_f h2]
theorem hand_hand1 {A : St} {p pl g : Nat} (h5 : g ≠ 5) : aHand A p pl g = aHand1 A p pl (A 1 pl - 1) g := by
  unfold aHand
  split
  · exact up_f h5
  · rfl
theorem hand_g {A : St} {p pl g : Nat} (h2 : g ≠ 2) (h5 : g ≠ 5) (h10 : g ≠ 10) (h13 : g ≠ 13) (h14 : g ≠ 14) (h15 : g ≠ 15) : aHand A p pl g = A g := (hand_hand1 h5).trans (hand1_g h2 h10 h13 h14 h15)
theorem hand_2 {A : St} {p pl : Nat} : aHand A p pl 2 = mj_up A 2 pl 0 2 := by
  rw [hand_hand1 (by decide)]
  unfold aHand1
  rw [log_g (by decide) (by decide), up_f (by decide), up_f (by decide), up_f (by decide)]
theorem hand_13 {A : St} {p pl : Nat} : aHand A p pl 13 = mj_up A 13 p (A 13 p + 1) 13 := by
  rw [hand_hand1 (by decide)]
  unfold aHand1
  rw [log_g (by decide) (by decide), up_f (by decide), up_f (by decide)]
  funext k
  by_cases e : k = p
  · rw [e, mj_up_eq, mj_up_eq]
  · rw [mj_up_ne2 e, mj_up_ne2 e, mj_up_ne (by decide)]
theorem hand_10 {A : St} {p pl : Nat} : aHand A p pl 10 = mj_up A 10 ((A 1 pl - 1) / 8) (A 10 ((A 1 pl - 1) / 8) + 1) 10 := by
  rw [hand_hand1 (by decide)]
  unfold aHand1
  rw [log_g (by decide) (by decide), up_f (by decide)]
  funext k
  by_cases e : k = (A 1 pl - 1) / 8
  · rw [e, mj_up_eq, mj_up_eq]
  · rw [mj_up_ne2 e, mj_up_ne2 e, mj_up_ne (by decide), mj_up_ne (by decide)]
theorem hand_5 {A : St} {p pl : Nat} : aHand A p pl 5 = (if A 0 pl ≠ 3 ∧ A 4 (A 1 pl - 1) ≠ 0 then mj_up A 5 (A 1 pl - 1) 1 5 else A 5) := by
  unfold aHand
  split
  · funext k
    by_cases e : k = A 1 pl - 1
    · rw [e, mj_up_eq, mj_up_eq]
    · rw [mj_up_ne2 e, mj_up_ne2 e, hand1_g (by decide) (by decide) (by decide) (by decide) (by decide)]
  · exact hand1_g (by decide) (by decide) (by decide) (by decide) (by decide)
theorem hand_14 {A : St} {p pl j : Nat} : aHand A p pl 14 j = (if j = 4 then A 14 4 + 1 else if j = 1 then A 14 1 + 1 else A 14 j) := by
  rw [hand_hand1 (by decide)]
  unfold aHand1 aLog
  by_cases e4 : j = 4
  · rw [if_pos e4, e4, mj_up_eq, mj_up_ne2 (by decide), mj_up_ne (by decide), mj_up_ne (by decide), mj_up_ne (by decide)]
  · rw [if_neg e4, mj_up_ne2 e4, mj_up_ne (by decide)]
    by_cases e1 : j = 1
    · rw [if_pos e1, e1, mj_up_eq]
    · rw [if_neg e1, mj_up_ne2 e1, mj_up_ne (by decide), mj_up_ne (by decide), mj_up_ne (by decide)]
theorem hand_15 {A : St} {p pl : Nat} : aHand A p pl 15 = mj_up A 15 (A 14 4) (eLog (A 1 pl - 1) pl (if A 0 pl = 3 then 1 else 0)) 15 := by
  rw [hand_hand1 (by decide)]
  unfold aHand1 aLog
  rw [up_f (by decide)]
  funext k
  have e14 : mj_up (mj_up (mj_up (mj_up A 2 pl 0) 13 p (A 13 p + 1)) 10 ((A 1 pl - 1) / 8) (A 10 ((A 1 pl - 1) / 8) + 1)) 14 1 (A 14 1 + 1) 14 4 = A 14 4 := by
    rw [mj_up_ne2 (by decide), mj_up_ne (by decide), mj_up_ne (by decide), mj_up_ne (by decide)]
  rw [e14]
  by_cases e : k = A 14 4
  · rw [e, mj_up_eq, mj_up_eq]
  · rw [mj_up_ne2 e, mj_up_ne2 e, mj_up_ne (by decide), mj_up_ne (by decide), mj_up_ne (by decide), mj_up_ne (by decide)]
theorem note_10 {A : St} {id p o : Nat} : aNote A id p o 10 = mj_up A 10 (id / 8) (A 10 (id / 8) + 1) 10 := by
  unfold aNote
  rw [log_g (by decide) (by decide)]
  funext k
  by_cases e : k = id / 8
  · rw [e, mj_up_eq, mj_up_eq]
  · rw [mj_up_ne2 e, mj_up_ne2 e, mj_up_ne (by decide)]
theorem note_13 {A : St} {id p o : Nat} : aNote A id p o 13 = mj_up A 13 (p / 32) (A 13 (p / 32) + 1) 13 := by
  unfold aNote
  rw [log_g (by decide) (by decide), up_f (by decide)]
theorem note_g {A : St} {id p o g : Nat} (h10 : g ≠ 10) (h13 : g ≠ 13) (h14 : g ≠ 14) (h15 : g ≠ 15) : aNote A id p o g = A g := by
  unfold aNote
  rw [log_g h14 h15, up_f h10, up_f h13]
theorem note_14 {A : St} {id p o j : Nat} : aNote A id p o 14 j = (if j = 4 then A 14 4 + 1 else A 14 j) := by
  unfold aNote aLog
  by_cases e4 : j = 4
  · rw [if_pos e4, e4, mj_up_eq, mj_up_ne (by decide), mj_up_ne (by decide)]
  · rw [if_neg e4, mj_up_ne2 e4, mj_up_ne (by decide), mj_up_ne (by decide), mj_up_ne (by decide)]
theorem note_15 {A : St} {id p o : Nat} : aNote A id p o 15 = mj_up A 15 (A 14 4) (eLog id p o) 15 := by
  unfold aNote aLog
  rw [up_f (by decide)]
  funext k
  have e14 : mj_up (mj_up A 13 (p / 32) (A 13 (p / 32) + 1)) 10 (id / 8) (A 10 (id / 8) + 1) 14 4 = A 14 4 := by rw [mj_up_ne (by decide), mj_up_ne (by decide)]
  rw [e14]
  by_cases e : k = A 14 4
  · rw [e, mj_up_eq, mj_up_eq]
  · rw [mj_up_ne2 e, mj_up_ne2 e, mj_up_ne (by decide), mj_up_ne (by decide)]
theorem upg_c {A B : St} {f j x : Nat} (h : B f = A f) : mj_up B f j x f = mj_up A f j x f := by
  funext k
  by_cases e : k = j
  · rw [e, mj_up_eq, mj_up_eq]
  · rw [mj_up_ne2 e, mj_up_ne2 e, h]
section ST6
variable {w : mj_Wd} {l : Launch} {I : mj_M} {J : mj_J} {R : mj_R} {b A : St} {i : Nat}
theorem rs_X5_deliver {pl : Nat} (hi : i < 21) (hS : mj_wS R i) (hk : bOK b) (h : cR I i b A) (hA : aOK A) (h256 : pl < 256) (hv : pl % 32 < b 0 1) (h1 : A 1 pl ≠ 0) (h3 : A 0 pl = 3 ↔ A 4 (A 1 pl - 1) = pl + 1) (hL : A 14 4 < 2 ^ 31) : RsV w l yX5_deliver dd_X5_deliver [.ref (sA i 0), .int (nI pl)] (472, I, J, R) (fun I' => cR I' i b (aHand A (pl / 32) pl) ∧ mS i I I') := by
  have hz : 50 + 20 * i ≤ 472 := by omega
  have c80 := (hA.1 pl h256).2.1
  have hid : A 1 pl - 1 < 80 := by omega
  have c4 := (hA.2.1 (A 1 pl - 1) hid).2.1
  refine rt_intro2 (L := [some (.ref (sA i 0)), some (.int (nI pl)), none, none]) ⟨by decide, rfl, (fun h => by cases h)⟩ (Nat.le_of_ble_eq_true rfl) rfl (fun Y Q hQ => ?_)
  refine q_aload_n (pc' := 1) dX5_deliver_0 rfl rfl (q_getR (pc' := 4) dX5_deliver_1 rfl fr_RX5_41 (okS hi hz (by decide) rfl) rfl (wS_5_1 hS) (sA_lt hi (by decide)) (q_iload_n (pc' := 5) dX5_deliver_4 rfl rfl (q_sVi (pc' := 8) dX5_deliver_5 rfl ml_RX5_187 yv_X4_unpend (by decide) (rs_X4_unpend hi hS hk h.1 h256 hv) (okS hi hz (by decide) rfl) rfl rfl (Nat.le_of_ble_eq_true rfl) (Nat.le_refl _) (fun x1 I1 ⟨r1, u1, f1⟩ => (q_pop_i (pc' := 9) dX5_deliver_8 rfl ?_)))))
  have g1 : cR I1 i b (mj_up A 2 pl 0) := cR_rows h u1 f1 (fun g hg => up_f (by omega))
  have eo : I1 (sA i 19) pl = nI (A 1 pl - 1) := (u1.2.2.1 pl h256).trans (by rw [mj_up_ne (show (1:Nat) ≠ 2 by decide)]; exact lD_p (by omega))
  have e4 : I1 (sA i 8) (A 1 pl - 1) = lD (A 4 (A 1 pl - 1)) := (g1.2.2.2 _ hid).2.1.trans (by rw [mj_up_ne (show (4:Nat) ≠ 2 by decide)])
  -- the end: what was handled is told
  have fin : ∀ I2 B o, cR I2 i b B → mS i I I2 → B 0 = A 0 → B 1 = A 1 → B 2 = mj_up A 2 pl 0 2 → (∀ g, g ≠ 2 → g ≠ 5 → B g = A g) → B 5 = aHand A (pl / 32) pl 5 → (o = true ↔ A 0 pl = 3) → Wq dd_X5_deliver (mj_mk w l 472 Y) Q 61 [some (.ref (sA i 0)), some (.int (nI pl)), some (.int (nI (A 1 pl - 1))), some (.int (bI o))] [] (472, I2, J, R) := by
    intro I2 B o hr hm b0 b1 b2 bg b5 ho
    refine q_aload_n (pc' := 62) dX5_deliver_61 rfl rfl (q_getR (pc' := 65) dX5_deliver_62 rfl fr_RX5_12 (okS hi hz (by decide) rfl) rfl (wS_5_2 hS) (sA_lt hi (by decide)) (q_iload_n (pc' := 66) dX5_deliver_65 rfl rfl (q_iload_n (pc' := 67) dX5_deliver_66 rfl rfl (q_iload_n (pc' := 68) dX5_deliver_67 rfl rfl (q_sVv (pc' := 71) dX5_deliver_68 rfl ml_RX5_214 yv_X8_note (by decide) (rs_X8_note hi hS hr.2.1 hid h256 (by rw [bg 14 (by decide) (by decide)]; exact hL)) (okS hi hz (by decide) rfl) rfl rfl (Nat.le_of_ble_eq_true rfl) (Nat.le_refl _) (fun I3 ⟨t3, f3⟩ => ?_))))))
    refine q_vret dX5_deliver_71 rfl (hQ _ _ _ _ ⟨rfl, ⟨rfl, rfl⟩, ?_, hm.tr f3.s⟩)
    have eo2 : (if o = true then 1 else 0) = (if A 0 pl = 3 then 1 else 0) := by
      by_cases c : A 0 pl = 3
      · rw [if_pos c, if_pos (ho.mpr c)]
      · rw [if_neg c, if_neg (fun q => c (ho.mp q))]
    have b14 : B 14 = A 14 := bg 14 (by decide) (by decide)
    refine ⟨?_, ?_, ?_⟩
    · refine cRr_A (A := B) ?_ ?_ ?_ ?_ (cRr_F (fun c c1 c2 => f3.hi (Or.inr (by omega))) hr.1)
      · rw [b0]; exact hand_g (by decide) (by decide) (by decide) (by decide) (by decide) (by decide)
      · rw [b1]; exact hand_g (by decide) (by decide) (by decide) (by decide) (by decide) (by decide)
      · rw [b2]; exact hand_2
      · rw [bg 9 (by decide) (by decide)]; exact hand_g (by decide) (by decide) (by decide) (by decide) (by decide) (by decide)
    · refine cRt_A ?_ ?_ ?_ ?_ ?_ ?_ ?_ t3
      · rw [hand_14, note_14, if_neg (by decide), if_neg (by decide), if_neg (by decide), b14]
      · rw [hand_14, note_14, if_pos rfl, if_pos rfl, b14]
      · rw [hand_10, note_10, upg_c (bg 10 (by decide) (by decide)), bg 10 (by decide) (by decide)]
      · rw [note_g (by decide) (by decide) (by decide) (by decide), bg 11 (by decide) (by decide)]; exact hand_g (by decide) (by decide) (by decide) (by decide) (by decide) (by decide)
      · rw [note_g (by decide) (by decide) (by decide) (by decide), bg 12 (by decide) (by decide)]; exact hand_g (by decide) (by decide) (by decide) (by decide) (by decide) (by decide)
      · rw [hand_13, note_13, upg_c (bg 13 (by decide) (by decide)), bg 13 (by decide) (by decide)]
      · rw [hand_15, note_15, upg_c (bg 15 (by decide) (by decide)), b14, eo2]
    · refine cRs_A (A := B) ?_ ?_ ?_ ?_ ?_ ?_ (cRs_f (fun c hc => f3.hi (by omega)) hr.2.2)
      · rw [bg 3 (by decide) (by decide)]; exact hand_g (by decide) (by decide) (by decide) (by decide) (by decide) (by decide)
      · rw [bg 4 (by decide) (by decide)]; exact hand_g (by decide) (by decide) (by decide) (by decide) (by decide) (by decide)
      · exact b5.symm
      · rw [bg 6 (by decide) (by decide)]; exact hand_g (by decide) (by decide) (by decide) (by decide) (by decide) (by decide)
      · rw [bg 7 (by decide) (by decide)]; exact hand_g (by decide) (by decide) (by decide) (by decide) (by decide) (by decide)
      · rw [bg 8 (by decide) (by decide)]; exact hand_g (by decide) (by decide) (by decide) (by decide) (by decide) (by decide)
  have same0 : mj_up A 2 pl 0 0 = A 0 := up_f (by decide)
  have same1 : mj_up A 2 pl 0 1 = A 1 := up_f (by decide)
  refine q_aload_n (pc' := 10) dX5_deliver_9 rfl rfl (q_getR (pc' := 13) dX5_deliver_10 rfl fr_RX5_41 (okS hi hz (by decide) rfl) rfl (wS_5_1 hS) (sA_lt hi (by decide)) (q_getR (pc' := 16) dX5_deliver_13 rfl fr_RX5_184 (okS hi hz (by decide) rfl) rfl (wS_4_4 hS) (sA_lt hi (by decide)) (q_iload_n (pc' := 17) dX5_deliver_16 rfl rfl (q_ialde (pc' := 18) (pl) dX5_deliver_17 rfl (by first | exact ⟨by omega, rfl⟩ | exact okaS hi hz (by decide) rfl | assumption) (by (first | (simp only [nI_add, pk_mul]; done) | (simp only [nI_add, pk_mul]; exact nI_e (by omega)) | exact nI_e (by omega))) (by omega) eo (q_ist_2 (pc' := 19) dX5_deliver_18 rfl (by decide) rfl (q_iload_n (pc' := 20) dX5_deliver_19 rfl rfl (q_if_ge (pc' := 23) (pt := 24) dX5_deliver_20 rfl rfl (fun _ => ?_) (fun h9 => absurd (nI_le (a := 0) (by omega) (by omega)) h9))))))))
  by_cases c3 : A 0 pl = 3
  · have e4' : I1 (sA i 8) (A 1 pl - 1) = nI pl := by rw [e4, h3.mp c3]; exact lD_s
    refine q_aload_n (pc' := 25) dX5_deliver_24 rfl rfl (q_getR (pc' := 28) dX5_deliver_25 rfl fr_RX5_22 (okS hi hz (by decide) rfl) rfl (wS_5_6 hS) (sA_lt hi (by decide)) (q_iload_n (pc' := 29) dX5_deliver_28 rfl rfl (q_ialde (pc' := 30) (A 1 pl - 1) dX5_deliver_29 rfl (by first | exact ⟨by omega, rfl⟩ | exact okaS hi hz (by decide) rfl | assumption) (by (first | (simp only [nI_add, pk_mul]; done) | (simp only [nI_add, pk_mul]; exact nI_e (by omega)) | exact nI_e (by omega))) (by omega) e4' (q_iload_n (pc' := 31) dX5_deliver_30 rfl rfl (q_icmp_ne (pc' := 34) (pt := 38) dX5_deliver_31 rfl rfl (fun h9 => absurd (rfl) h9) (fun _ => ?_))))))
    refine q_iconst (bI true) dX5_deliver_34 rfl rfl ?_
    refine q_goto (pc' := 39) dX5_deliver_35 rfl (q_ist_3 (pc' := 40) dX5_deliver_39 rfl (by decide) rfl (q_iload_n (pc' := 41) dX5_deliver_40 rfl rfl (q_ifb_ne (pc' := 44) (pt := 61) dX5_deliver_41 rfl rfl (fun _ => ?_) (fun h9 => Bool.noConfusion (Eq.trans (Eq.symm (rfl)) h9)))))
    exact fin I1 _ true g1 f1.s same0 same1 rfl (fun g q1 q2 => up_f q1) (by rw [hand_5, if_neg (fun q => q.1 c3)]; exact up_f (by decide)) ⟨fun _ => c3, fun _ => rfl⟩
  · have hne : ¬ lD (A 4 (A 1 pl - 1)) = nI pl := by
      intro q
      have hn : A 4 (A 1 pl - 1) ≠ pl + 1 := fun z => c3 (h3.mpr z)
      by_cases z : A 4 (A 1 pl - 1) = 0
      · rw [z] at q; exact nI_m1 (by omega) q.symm
      · rw [lD_p (by omega)] at q
        have := (nI_eq (by omega) (by omega)).mp q
        omega
    refine q_aload_n (pc' := 25) dX5_deliver_24 rfl rfl (q_getR (pc' := 28) dX5_deliver_25 rfl fr_RX5_22 (okS hi hz (by decide) rfl) rfl (wS_5_6 hS) (sA_lt hi (by decide)) (q_iload_n (pc' := 29) dX5_deliver_28 rfl rfl (q_ialde (pc' := 30) (A 1 pl - 1) dX5_deliver_29 rfl (by first | exact ⟨by omega, rfl⟩ | exact okaS hi hz (by decide) rfl | assumption) (by (first | (simp only [nI_add, pk_mul]; done) | (simp only [nI_add, pk_mul]; exact nI_e (by omega)) | exact nI_e (by omega))) (by omega) e4 (q_iload_n (pc' := 31) dX5_deliver_30 rfl rfl (q_icmp_ne (pc' := 34) (pt := 38) dX5_deliver_31 rfl rfl (fun _ => ?_) (fun h9 => absurd h9 (hne)))))))
    refine q_iconst (bI false) dX5_deliver_38 rfl rfl ?_
    by_cases c40 : A 4 (A 1 pl - 1) = 0
    · refine q_ist_3 (pc' := 40) dX5_deliver_39 rfl (by decide) rfl (q_iload_n (pc' := 41) dX5_deliver_40 rfl rfl (q_ifb_ne (pc' := 44) (pt := 61) dX5_deliver_41 rfl rfl (fun h9 => Bool.noConfusion (Eq.trans (Eq.symm (rfl)) h9)) (fun _ => (q_aload_n (pc' := 45) dX5_deliver_44 rfl rfl (q_getR (pc' := 48) dX5_deliver_45 rfl fr_RX5_22 (okS hi hz (by decide) rfl) rfl (wS_5_6 hS) (sA_lt hi (by decide)) (q_iload_n (pc' := 49) dX5_deliver_48 rfl rfl (q_ialde (pc' := 50) (A 1 pl - 1) dX5_deliver_49 rfl (by first | exact ⟨by omega, rfl⟩ | exact okaS hi hz (by decide) rfl | assumption) (by (first | (simp only [nI_add, pk_mul]; done) | (simp only [nI_add, pk_mul]; exact nI_e (by omega)) | exact nI_e (by omega))) (by omega) e4 (q_iconst (pc' := 51) _ dX5_deliver_50 rfl kk_iconst_m1 (q_icmp_eq (pc' := 54) (pt := 61) dX5_deliver_51 rfl rfl (fun _ => ?_) (fun h9 => absurd (by rw [c40]; rfl) h9))))))))))
      exact fin I1 _ false g1 f1.s same0 same1 rfl (fun g q1 q2 => up_f q1) (by rw [hand_5, if_neg (fun q => q.2 c40)]; exact up_f (by decide)) ⟨fun q => (by cases q), fun q => absurd q c3⟩
    · refine q_ist_3 (pc' := 40) dX5_deliver_39 rfl (by decide) rfl (q_iload_n (pc' := 41) dX5_deliver_40 rfl rfl (q_ifb_ne (pc' := 44) (pt := 61) dX5_deliver_41 rfl rfl (fun h9 => Bool.noConfusion (Eq.trans (Eq.symm (rfl)) h9)) (fun _ => (q_aload_n (pc' := 45) dX5_deliver_44 rfl rfl (q_getR (pc' := 48) dX5_deliver_45 rfl fr_RX5_22 (okS hi hz (by decide) rfl) rfl (wS_5_6 hS) (sA_lt hi (by decide)) (q_iload_n (pc' := 49) dX5_deliver_48 rfl rfl (q_ialde (pc' := 50) (A 1 pl - 1) dX5_deliver_49 rfl (by first | exact ⟨by omega, rfl⟩ | exact okaS hi hz (by decide) rfl | assumption) (by (first | (simp only [nI_add, pk_mul]; done) | (simp only [nI_add, pk_mul]; exact nI_e (by omega)) | exact nI_e (by omega))) (by omega) e4 (q_iconst (pc' := 51) _ dX5_deliver_50 rfl kk_iconst_m1 (q_icmp_eq (pc' := 54) (pt := 61) dX5_deliver_51 rfl rfl (fun h9 => absurd h9 (by rw [lD_p (by omega)]; exact nI_m1 (by omega))) (fun _ => (q_aload_n (pc' := 55) dX5_deliver_54 rfl rfl (q_getR (pc' := 58) dX5_deliver_55 rfl fr_RX5_25 (okS hi hz (by decide) rfl) rfl (wS_5_7 hS) (sA_lt hi (by decide)) (q_iload_n (pc' := 59) dX5_deliver_58 rfl rfl (q_iconst (pc' := 60) _ dX5_deliver_59 rfl kk_iconst_1 (q_zast (pc' := 61) (A 1 pl - 1) dX5_deliver_60 rfl (by first | exact ⟨by omega, rfl⟩ | exact okaS hi hz (by decide) rfl | assumption) (by (first | (simp only [nI_add, pk_mul]; done) | (simp only [nI_add, pk_mul]; exact nI_e (by omega)) | exact nI_e (by omega))) (by omega) (by first | exact Or.inl rfl | exact Or.inr rfl | exact bI_01 _) ?_)))))))))))))))
      refine fin _ (mj_up (mj_up A 2 pl 0) 5 (A 1 pl - 1) 1) false (cR_ln (x := 1) (Or.inr (Or.inr (Or.inl ⟨rfl, rfl, rfl⟩))) g1) (f1.s.tr (mS_up (by decide))) ?_ ?_ ?_ (fun g q1 q2 => by rw [up_f q2, up_f q1]) ?_ ⟨fun q => (by cases q), fun q => absurd q c3⟩
      · rw [up_f (by decide)]; exact same0
      · rw [up_f (by decide)]; exact same1
      · rw [up_f (by decide)]
      · rw [hand_5, if_pos ⟨c3, c40⟩]; exact upg_c (up_f (by decide))
end ST6
