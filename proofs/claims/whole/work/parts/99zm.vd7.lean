/-! ===== the class itself: orders() ===== -/
/-- nothing changes but the spare state, the trial and what was refused -/
def lF (s : Nat) (I I' : mj_M) : Prop := (∀ a, a ≠ 0 → (∀ e, e < 20 → a ≠ sA s e) → (∀ e, e < 20 → a ≠ sA 18 e) → I' a = I a) ∧ ∀ f, f ≠ 12 → I' 0 f = I 0 f
/-- what orders() leaves as it was -/
def oF (I : mj_M) (J : mj_J) (I' : mj_M) (J' : mj_J) : Prop := (∀ a, a ≠ 0 → (a < 10 ∨ a = 11 ∨ (15 ≤ a ∧ a < 23) ∨ 410 ≤ a) → I' a = I a) ∧ (∀ f, f ≠ 1 → f ≠ 12 → I' 0 f = I 0 f) ∧ ∀ a, a ≠ 10 → a ≠ 15 → J' a = J a
section VD7
variable {w : mj_Wd} {l : Launch} {I : mj_M} {J : mj_J} {R : mj_R} {b A B O : St} {ps : Nat → St} {n u c s t : Nat} {T : Nat → Nat}
theorem lF.rf : lF s I I := ⟨fun _ _ _ _ => rfl, fun _ _ => rfl⟩
theorem lF.tr {I1 I2 : mj_M} (h : lF s I I1) (h2 : lF s I1 I2) : lF s I I2 := ⟨fun a h0 h1 h3 => (h2.1 a h0 h1 h3).trans (h.1 a h0 h1 h3), fun f h1 => (h2.2 f h1).trans (h.2 f h1)⟩
theorem lF_s {I1 : mj_M} (h : mS s I I1) : lF s I I1 := ⟨fun a _ h1 _ => h a h1, fun f _ => by rw [h 0 (fun e _ => by unfold sA; omega)]⟩
theorem lF_18 {I1 : mj_M} (h : mS 18 I I1) : lF s I I1 := ⟨fun a _ _ h1 => h a h1, fun f _ => by rw [h 0 (fun e _ => by unfold sA; omega)]⟩
theorem lF_up {x : Int32} : lF s I (mj_up I 0 12 x) := ⟨fun a h0 _ _ => up_fI h0, fun f hf => mj_up_ne2 hf⟩
theorem lF.lo {I1 : mj_M} (h : lF s I I1) {a : Nat} (h0 : a ≠ 0) (ha : a < 30 ∨ 410 ≤ a) (hs : s < 18) : I1 a = I a := h.1 a h0 (fun e he => by unfold sA; omega) (fun e he => by unfold sA; omega)
theorem cB_l {I1 : mj_M} (hs : s < 18) (h : lF s I I1) (hb : cB I b) : cB I1 b := by
  unfold cB
  rw [h.lo (a := 4) (by decide) (by decide) hs, h.lo (a := 7) (by decide) (by decide) hs, h.lo (a := 8) (by decide) (by decide) hs, h.lo (a := 9) (by decide) (by decide) hs]
  exact hb
theorem cOr_l {I1 : mj_M} {m : Nat} (hs : s < 18) (h : lF s I I1) (hb : cOr I O m) : cOr I1 O m := by
  unfold cOr
  rw [h.lo (a := 24) (by decide) (by decide) hs, h.lo (a := 25) (by decide) (by decide) hs, h.lo (a := 26) (by decide) (by decide) hs, h.lo (a := 27) (by decide) (by decide) hs]
  exact hb
theorem cH_F {I1 : mj_M} (h : cH I R b ps n u A c s) (f : ∀ a, 28 ≤ a → a < 390 → (∀ e, e < 20 → a ≠ sA s e) → I1 a = I a) : cH I1 R b ps n u A c s := by
  obtain ⟨o, g, h1, h2, h3, h4⟩ := h
  have e28 : I1 28 = I 28 := f 28 (by decide) (by decide) (fun e _ => by unfold sA; omega)
  have q : ∀ i, i < 18 → i ≠ s → ∀ e, e < 20 → I1 (sA i e) = I (sA i e) := fun i hi hne e he => f _ (by unfold sA; omega) (by unfold sA; omega) (fun e2 he2 => sA_o hne he he2)
  refine ⟨o, g, ?_, h2, cR_F (q c h2.2.1.1 h2.2.2.1) h3, fun t ht => cR_F (q _ (h2.2.1.2.2 _ (Nat.mod_lt _ (by decide))) (h2.2.2.2.1 _ (Nat.mod_lt _ (by decide))).2) (h4 t ht)⟩
  unfold cHi
  rw [e28]
  exact h1
theorem rt_X10_orders {K : Nat → Nat} {N m : Nat} (eO : kOrders T t b = (K, N, O)) (hW : wSt R) (hkw : cKw J) (hb : cB I b) (hR : bRd b) (hNm : cN I J b) (ht : cTp I T t) (h01 : I 0 1 = nI t) (h : cH I R b ps n u A c s) (hA : gA b m A) (hm : m + 200000 < 2 ^ 31) : RtI w l yX10_orders dd_X10_orders [.ref 0] (472, I, J, R) (fun x I' J' R' => (I' 10 16 = nI (K 8) ∧ I' 10 17 = lD (K 9)) ∧ I' 0 1 = nI 0 ∧ oF I J I' J' ∧ mRh R R' ∧ ((K 8 ≠ 0 ∧ x = -1 ∧ I' 0 12 = nI 0 ∧ cH I' R' b ps n u A c s) ∨ (K 8 = 0 ∧ x = nI (aOrs b O N 0 A).1 ∧ I' 0 12 = nI (aOrs b O N 0 A).2.1 ∧ ∃ c' s', cH I' R' b (if 0 < (aOrs b O N 0 A).1 then hPush ps n A else ps) (if 0 < (aOrs b O N 0 A).1 then hN n else n) (if 0 < (aOrs b O N 0 A).1 then 0 else u) (aOrs b O N 0 A).2.2 c' s'))) := by
  have hk := hR.1
  have hV := hW.1
  have hB := hW.2.1
  obtain ⟨hn0, hr⟩ := cH_now h
  obtain ⟨hc, hs⟩ := cH_lt h
  have hi : s < 21 := by omega
  have hz : 50 + 20 * s ≤ 472 := by omega
  have hS := hW.2.2.2 s hi
  have h11 : ∀ d, d < b 0 2 → b 1 d = 1 → b 2 d = 1 := fun d hd => (hR.2.2.2.1 d hd).2.1
  refine rt_intro2 (L := [some (.ref 0), none, none, none, none]) ⟨by decide, rfl, (fun h => by cases h)⟩ (Nat.le_of_ble_eq_true rfl) rfl (fun Y Q hQ => ?_)
  refine q_aload_n (pc' := 1) dX10_orders_0 rfl rfl (q_getR (pc' := 4) dX10_orders_1 rfl fr_RX10_35 ⟨by omega, rfl⟩ rfl (wV_10_2 hV) (by decide) (q_aload_n (pc' := 5) dX10_orders_4 rfl rfl (q_getIe (pc' := 8) dX10_orders_5 rfl fr_RX10_85 ⟨by omega, rfl⟩ rfl h01 (q_tVv (pc' := 11) dX10_orders_8 rfl ml_RX10_93 yv_X9_open (by decide) (rt_X9_open hV hkw ht) ⟨by omega, rfl⟩ rfl rfl (Nat.le_of_ble_eq_true rfl) (Nat.le_refl _) (fun I1 J1 R1 ⟨k1, k2, k3, k4⟩ => ?_)))))
  subst k4
  refine q_aload_n (pc' := 12) dX10_orders_11 rfl rfl (q_iconst (pc' := 13) _ dX10_orders_12 rfl kk_iconst_0 (q_putI (pc' := 16) dX10_orders_13 rfl fl_RX10_85 ⟨by omega, rfl⟩ rfl (q_aload_n (pc' := 17) dX10_orders_16 rfl rfl (q_iconst (pc' := 18) _ dX10_orders_17 rfl kk_iconst_0 (q_putI (pc' := 21) dX10_orders_18 rfl fl_RX10_100 ⟨by omega, rfl⟩ rfl (q_aload_n (pc' := 22) dX10_orders_21 rfl rfl (q_getR (pc' := 25) dX10_orders_22 rfl fr_RX10_53 ⟨by omega, rfl⟩ rfl (wV_10_5 hV) (by decide) ?_)))))))
  have f1 : ∀ a, a ≠ 0 → mj_up (mj_up I1 0 1 (nI 0)) 0 12 (nI 0) a = I1 a := fun a ha => by rw [up_fI ha, up_fI ha]
  have j11 : J1 11 = J 11 := by funext k; exact k3.2 11 k (by decide) (fun q => absurd q.1 (by decide))
  have j5 : J1 5 = J 5 := by funext k; exact k3.2 5 k (by decide) (fun q => absurd q.1 (by decide))
  have hkw1 := cKw_F j11 hkw
  have hf1 : (mj_up (mj_up I1 0 1 (nI 0)) 0 12 (nI 0)) 10 16 = nI 0 ∧ (mj_up (mj_up I1 0 1 (nI 0)) 0 12 (nI 0)) 10 17 = -1 := by rw [f1 10 (by decide)]; exact k2
  have g1 : ∀ a, a ≠ 0 → a ≠ 10 → a ≠ 12 → a ≠ 13 → a ≠ 14 → mj_up (mj_up I1 0 1 (nI 0)) 0 12 (nI 0) a = I a := fun a h0 q1 q2 q3 q4 => by rw [f1 a h0, k3.1 a q1 q2 q3 q4]
  have hb4 : mj_up (mj_up I1 0 1 (nI 0)) 0 12 (nI 0) 4 = I 4 := g1 4 (by decide) (by decide) (by decide) (by decide) (by decide)
  have hN1 : cN (mj_up (mj_up I1 0 1 (nI 0)) 0 12 (nI 0)) J1 b := by
    unfold cN
    rw [g1 6 (by decide) (by decide) (by decide) (by decide) (by decide), j5]
    exact hNm
  have hrd := rt_X3_read (w := w) (l := l) (I := mj_up (mj_up I1 0 1 (nI 0)) 0 12 (nI 0)) (J := J1) (R := R1) (b := b) hV hB hkw1 ht.1 (cRd_o (fun a q1 q2 => f1 a (by omega)) k1) (by rw [hb4]; exact cB_0 hb) (by rw [hb4]; exact cB_4 hb) hN1 hR hf1
  rw [eO] at hrd
  dsimp only at hrd
  refine q_tVi (pc' := 28) dX10_orders_25 rfl ml_RX10_121 yv_X3_read (by decide) hrd ⟨by omega, rfl⟩ rfl rfl (Nat.le_of_ble_eq_true rfl) (Nat.le_refl _) (fun x2 I2 J2 R2 ⟨m1, m2, m3, m4, m5⟩ => ?_)
  subst m5
  subst m1
  have e01 : I2 0 1 = nI 0 := by rw [m4.1 0 (by decide) (Or.inl (by decide)), mj_up_ne2 (by decide), mj_up_eq]
  have e12 : I2 0 12 = nI 0 := by rw [m4.1 0 (by decide) (Or.inl (by decide)), mj_up_eq]
  have g2 : ∀ a, a ≠ 0 → (a < 10 ∨ a = 11 ∨ (15 ≤ a ∧ a < 23) ∨ 28 ≤ a) → I2 a = I a := fun a h0 ha => by rw [m4.1 a (by omega) (by omega), g1 a h0 (by omega) (by omega) (by omega) (by omega)]
  have gJ : ∀ a, a ≠ 10 → a ≠ 15 → J2 a = J a := fun a q1 q2 => by
    funext k
    rw [m4.2.2 a k (fun q => q1 q.1), k3.2 a k q2 (fun q => q1 q.1)]
  have oF2 : oF I J I2 J2 := ⟨fun a h0 ha => g2 a h0 (by omega), fun f q1 q2 => by rw [m4.1 0 (by decide) (Or.inl (by decide)), mj_up_ne2 q2, mj_up_ne2 q1, k3.1 0 (by decide) (by decide) (by decide) (by decide)], gJ⟩
  have cH2 : cH I2 R2 b ps n u A c s := cH_F h (fun a q1 q2 _ => g2 a (by omega) (by omega))
  by_cases hg : K 8 = 0
  · obtain ⟨n1, n2, n3, n4⟩ := m3 hg
    have hb2 : cB I2 b := by
      unfold cB
      rw [g2 4 (by decide) (by decide), g2 7 (by decide) (by decide), g2 8 (by decide) (by decide), g2 9 (by decide) (by decide)]
      exact hb
    have oFl : ∀ I0, lF s I2 I0 → oF I J I0 J2 := fun I0 hl => ⟨fun a h0 ha => by rw [hl.1 a h0 (fun e he => by unfold sA; omega) (fun e he => by unfold sA; omega)]; exact oF2.1 a h0 ha, fun f q1 q2 => by rw [hl.2 f q2]; exact oF2.2.1 f q1 q2, gJ⟩
    have tail : ∀ I0 dn rf Bf x3 x4, dn ≤ 160 → I0 0 12 = nI rf → (0 < dn → cR I0 s b Bf) → (¬ 0 < dn → Bf = A) → lF s I2 I0 → aOrs b O N 0 A = (dn, rf, Bf) → Wq dd_X10_orders (mj_mk w l 472 Y) Q 139 [some (.ref 0), some (.ref (sA s 0)), some (.int (nI dn)), x3, x4] [] (472, I0, J2, R2) := by
      intro I0 dn rf Bf x3 x4 hdn hrf hB1 hB0 hl eA
      rw [eA] at hQ
      have c0 : cH I0 R2 b ps n u A c s := cH_F cH2 (fun a q1 q2 q3 => hl.1 a (by omega) q3 (fun e he => by unfold sA; omega))
      have m20 : I0 10 16 = nI (K 8) ∧ I0 10 17 = lD (K 9) := by rw [hl.lo (a := 10) (by decide) (by decide) hs]; exact m2
      have e010 : I0 0 1 = nI 0 := by rw [hl.2 1 (by decide)]; exact e01
      by_cases hd : 0 < dn
      · refine q_iload_n (pc' := 140) dX10_orders_139 rfl rfl (q_if_le (pc' := 143) (pt := 150) dX10_orders_140 rfl rfl (fun h9 => absurd h9 (Int32.not_le.mpr (nI_lt (a := 0) (by omega) (by omega)))) (fun _ => (q_aload_n (pc' := 144) dX10_orders_143 rfl rfl (q_getR (pc' := 147) dX10_orders_144 rfl fr_RX10_62 ⟨by omega, rfl⟩ rfl (wV_10_6 hV) (by decide) (q_tVv (pc' := 150) dX10_orders_147 rfl ml_RX10_139 yv_X2_keep (by decide) (rt_X2_keep hV c0 (hB1 hd)) ⟨by omega, rfl⟩ rfl rfl (Nat.le_of_ble_eq_true rfl) (Nat.le_refl _) (fun I5 J5 R5 ⟨p1, p2, p3, s', p4⟩ => ?_))))))
        subst p1
        have q0 : I5 0 = I0 0 := p2 0 (by decide)
        have oF5 : oF I J I5 J5 := by
          have o1 := oFl I0 hl
          exact ⟨fun a h0 ha => by rw [p2 a (by omega)]; exact o1.1 a h0 ha, fun f q1 q2 => by rw [q0]; exact o1.2.1 f q1 q2, o1.2.2⟩
        refine q_iload_n (pc' := 151) dX10_orders_150 rfl rfl (q_iret dX10_orders_151 rfl (hQ _ _ _ _ ⟨_, rfl, ?_, ?_, oF5, p3, Or.inr ⟨hg, rfl, ?_, s, s', ?_⟩⟩))
        · rw [p2 10 (by decide)]; exact m20
        · rw [q0]; exact e010
        · rw [q0]; exact hrf
        · dsimp only
          rw [if_pos hd, if_pos hd, if_pos hd]
          exact p4
      · have hd0 : dn = 0 := by omega
        subst hd0
        refine q_iload_n (pc' := 140) dX10_orders_139 rfl rfl (q_if_le (pc' := 143) (pt := 150) dX10_orders_140 rfl rfl (fun _ => q_iload_n (pc' := 151) dX10_orders_150 rfl rfl (q_iret dX10_orders_151 rfl (hQ _ _ _ _ ⟨_, rfl, m20, e010, oFl I0 hl, mRh.rf, Or.inr ⟨hg, rfl, hrf, c, s, ?_⟩⟩))) (fun q => absurd (show nI 0 ≤ 0 by decide) q))
        dsimp only
        rw [if_neg (by decide), if_neg (by decide), if_neg (by decide), hB0 hd]
        exact c0
    have loop : ∀ f i I0 B x4, i + f = N → I0 0 12 = nI 0 → cR I0 s b B → gA b (m + 800 * i) B → lF s I2 I0 → (i = 0 → B = A) → aOrs b O N 0 A = aOrs b O f i B → Wq dd_X10_orders (mj_mk w l 472 Y) Q 45 [some (.ref 0), some (.ref (sA s 0)), some (.int (nI i)), some (.int (nI i)), x4] [] (472, I0, J2, R2) := by
      intro f
      induction f with
      | zero =>
        intro i I0 B x4 hif hrf hcr hgA hl hB0 eA
        have e23 : I0 23 2 = nI N := by rw [hl.lo (a := 23) (by decide) (by decide) hs]; exact n1
        refine q_iload_n (pc' := 46) dX10_orders_45 rfl rfl (q_aload_n (pc' := 47) dX10_orders_46 rfl rfl (q_getR (pc' := 50) dX10_orders_47 rfl fr_RX10_53 ⟨by omega, rfl⟩ rfl (wV_10_5 hV) (by decide) (q_getIe (pc' := 53) dX10_orders_50 rfl fr_RX10_125 ⟨by omega, rfl⟩ rfl e23 (q_icmp_ge (pc' := 56) (pt := 139) dX10_orders_53 rfl rfl (fun _ => ?_) (fun h9 => absurd (nI_le (by omega) (by omega)) h9)))))
        exact tail I0 i 0 B _ _ (by omega) hrf (fun _ => hcr) (fun q => hB0 (by omega)) hl eA
      | succ f ih =>
        intro i I0 B x4 hif hrf hcr hgA hl hB0 eA
        have hbd := hgA.2.2
        have e23 : ∀ I9, lF s I2 I9 → I9 23 2 = nI N := fun I9 hl9 => by rw [hl9.lo (a := 23) (by decide) (by decide) hs]; exact n1
        have hO0 := cOr_l hs hl n2
        have w0 := (hO0 i (by omega)).1
        have ho := n4 i (by omega)
        have ho9 := ho.1
        have hlt := (ordI_ok hk h11 hgA.1 ho).1
        have eA2 : aOrs b O N 0 A = if (aOrd b B (O i)).1 = 0 then aOrs b O f (i + 1) (aOrd b B (O i)).2 else (i, (aOrd b B (O i)).1, (aOrd b B (O i)).2) := eA
        have exit : ∀ I9 y4, lF s I2 I9 → I9 0 12 = nI (aOrd b B (O i)).1 → (aOrd b B (O i)).1 ≠ 0 → cR I9 s b (aOrd b B (O i)).2 → Wq dd_X10_orders (mj_mk w l 472 Y) Q 45 [some (.ref 0), some (.ref (sA s 0)), some (.int (nI i)), some (.int (nI (i + 1))), y4] [] (472, I9, J2, R2) := by
          intro I9 y4 hl9 hrf9 hne hcr9
          rw [if_neg hne] at eA2
          have fin : ∀ z3 z4, Wq dd_X10_orders (mj_mk w l 472 Y) Q 139 [some (.ref 0), some (.ref (sA s 0)), some (.int (nI i)), z3, z4] [] (472, I9, J2, R2) := fun z3 z4 => tail I9 i _ _ z3 z4 (by omega) hrf9 (fun _ => hcr9) (fun q => by rw [ord_eq hne ho9]; exact hB0 (by omega)) hl9 eA2
          by_cases hN1 : N ≤ i + 1
          · refine q_iload_n (pc' := 46) dX10_orders_45 rfl rfl (q_aload_n (pc' := 47) dX10_orders_46 rfl rfl (q_getR (pc' := 50) dX10_orders_47 rfl fr_RX10_53 ⟨by omega, rfl⟩ rfl (wV_10_5 hV) (by decide) (q_getIe (pc' := 53) dX10_orders_50 rfl fr_RX10_125 ⟨by omega, rfl⟩ rfl (e23 I9 hl9) (q_icmp_ge (pc' := 56) (pt := 139) dX10_orders_53 rfl rfl (fun _ => ?_) (fun h9 => absurd (nI_le (by omega) (by omega)) h9)))))
            exact fin _ _
          · refine q_iload_n (pc' := 46) dX10_orders_45 rfl rfl (q_aload_n (pc' := 47) dX10_orders_46 rfl rfl (q_getR (pc' := 50) dX10_orders_47 rfl fr_RX10_53 ⟨by omega, rfl⟩ rfl (wV_10_5 hV) (by decide) (q_getIe (pc' := 53) dX10_orders_50 rfl fr_RX10_125 ⟨by omega, rfl⟩ rfl (e23 I9 hl9) (q_icmp_ge (pc' := 56) (pt := 139) dX10_orders_53 rfl rfl (fun h9 => absurd h9 (Int32.not_le.mpr (nI_lt (by omega) (by omega)))) (fun _ => (q_aload_n (pc' := 57) dX10_orders_56 rfl rfl (q_getIe (pc' := 60) dX10_orders_57 rfl fr_RX10_100 ⟨by omega, rfl⟩ rfl hrf9 (q_if_ne (pc' := 63) (pt := 139) dX10_orders_60 rfl rfl (fun _ => ?_) (fun h9 => absurd h9 (nI_ne (b := 0) hne (by omega) (by decide)))))))))))
            exact fin _ _
        by_cases e8 : O i 0 = 8
        · have w18 : I0 24 i = nI 18 := by rw [w0, e8]; rfl
          refine q_iload_n (pc' := 46) dX10_orders_45 rfl rfl (q_aload_n (pc' := 47) dX10_orders_46 rfl rfl (q_getR (pc' := 50) dX10_orders_47 rfl fr_RX10_53 ⟨by omega, rfl⟩ rfl (wV_10_5 hV) (by decide) (q_getIe (pc' := 53) dX10_orders_50 rfl fr_RX10_125 ⟨by omega, rfl⟩ rfl (e23 I0 hl) (q_icmp_ge (pc' := 56) (pt := 139) dX10_orders_53 rfl rfl (fun h9 => absurd h9 (Int32.not_le.mpr (nI_lt (by omega) (by omega)))) (fun _ => (q_aload_n (pc' := 57) dX10_orders_56 rfl rfl (q_getIe (pc' := 60) dX10_orders_57 rfl fr_RX10_100 ⟨by omega, rfl⟩ rfl hrf (q_if_ne (pc' := 63) (pt := 139) dX10_orders_60 rfl rfl (fun h9 => absurd (rfl) h9) (fun _ => (q_aload_n (pc' := 64) dX10_orders_63 rfl rfl (q_getR (pc' := 67) dX10_orders_64 rfl fr_RX10_53 ⟨by omega, rfl⟩ rfl (wV_10_5 hV) (by decide) (q_getR (pc' := 70) dX10_orders_67 rfl fr_RX10_128 ⟨by omega, rfl⟩ rfl (wV_3_3 hV) (by decide) (q_iload_n (pc' := 71) dX10_orders_70 rfl rfl (q_ialde (pc' := 72) (i) dX10_orders_71 rfl (by first | exact ⟨by omega, rfl⟩ | exact okaS hi hz (by decide) rfl | assumption) (by (first | (simp only [nI_add, pk_mul]; done) | (simp only [nI_add, pk_mul]; exact nI_e (by omega)) | exact nI_e (by omega))) (by omega) w18 (q_bipush (pc' := 74) _ dX10_orders_72 rfl kk_bipush_18 ?_)))))))))))))))
          refine q_icmp_ne (pc' := 77) (pt := 81) dX10_orders_74 rfl rfl (fun h9 => absurd (rfl) h9) (fun _ => (q_iconst (pc' := 78) _ dX10_orders_77 rfl kk_iconst_1 (q_goto (pc' := 82) dX10_orders_78 rfl (q_ist_4 (pc' := 84) dX10_orders_82 rfl (by decide) rfl (q_iload (pc' := 86) dX10_orders_84 rfl rfl (q_if_eq (pc' := 89) (pt := 97) dX10_orders_86 rfl rfl (fun h9 => absurd h9 (by decide)) (fun _ => (q_aload_n (pc' := 90) dX10_orders_89 rfl rfl (q_getR (pc' := 93) dX10_orders_90 rfl fr_RX10_67 ⟨by omega, rfl⟩ rfl (wV_10_7 hV) (by decide) (q_aload_n (pc' := 94) dX10_orders_93 rfl rfl ?_))))))))))
          have hiS := hi
          have hzS := hz
          have hSS := hS
          have hi : 18 < 21 := by decide
          have hz : 50 + 20 * 18 ≤ 472 := by decide
          have hS := hW.2.2.2 18 hi
          refine q_sVv (pc' := 97) dX10_orders_94 rfl ml_RX10_132 yv_X5_copyFrom (by decide) (rs_X5_copyFrom hi hiS (by omega) hS hSS hcr (h01_of hk hgA.1.1)) (okS hi hz (by decide) rfl) rfl rfl (Nat.le_of_ble_eq_true rfl) (Nat.le_refl _) (fun I4 ⟨r4, f4⟩ => ?_)
          have hl4 : lF s I2 I4 := hl.tr (lF_18 f4)
          have hcr4 : cR I4 s b B := cR_F (fun e he => mS_o f4 (by omega) he) hcr
          refine q_aload_n (pc' := 98) dX10_orders_97 rfl rfl (q_aload_n (pc' := 99) dX10_orders_98 rfl rfl (q_aload_n (pc' := 100) dX10_orders_99 rfl rfl (q_iload_n (pc' := 101) dX10_orders_100 rfl rfl (q_sVi (pc' := 104) dX10_orders_101 rfl ml_RX10_135 yv_X10_perform (by decide) (rs_X10_perform hW (cB_l hs hl4 hb2) hR hcr4 hs hgA.1 (cOr_l hs hl4 n2) (by omega) n3 ho (by omega)) ⟨by omega, rfl⟩ rfl rfl (Nat.le_of_ble_eq_true rfl) (Nat.le_refl _) (fun x5 I5 ⟨t5, r5, f5⟩ => ?_)))))
          subst t5
          have hl5 : lF s I2 (mj_up I5 0 12 (nI (aOrd b B (O i)).1)) := (hl4.tr (lF_s f5)).tr lF_up
          by_cases hz0 : (aOrd b B (O i)).1 = 0
          · rw [if_pos hz0] at eA2
            rw [hz0] at hl5 ⊢
            have hrr : cR (mj_up I5 0 12 (nI 0)) s b (aOrd b B (O i)).2 := cR_F (fun e he => up_fI (by unfold sA; omega)) (r5 (Or.inl hz0))
            refine q_putI (pc' := 107) dX10_orders_104 rfl fl_RX10_100 ⟨by omega, rfl⟩ rfl (q_aload_n (pc' := 108) dX10_orders_107 rfl rfl (q_getIe (pc' := 111) dX10_orders_108 rfl fr_RX10_100 ⟨by omega, rfl⟩ rfl (mj_up_eq) (q_if_ne (pc' := 114) (pt := 120) dX10_orders_111 rfl rfl (fun h9 => absurd (rfl) h9) (fun _ => (q_inc_2 (pc' := 117) dX10_orders_114 rfl (by decide) rfl (q_goto (pc' := 133) dX10_orders_117 rfl (q_inc_3 (pc' := 136) dX10_orders_133 rfl (by decide) rfl (q_goto (pc' := 45) dX10_orders_136 rfl ?_))))))))
            exact ih (i + 1) _ _ _ (by omega) mj_up_eq hrr (gA_mono (by omega) (gA_ord hk h11 hgA ho)) hl5 (fun q => absurd q (Nat.succ_ne_zero _)) eA2
          · have r18 : cR (mj_up I5 0 12 (nI (aOrd b B (O i)).1)) 18 b B := cR_F (fun e he => (up_fI (by unfold sA; omega)).trans (mS_o f5 (by omega) he)) r4
            refine q_putI (pc' := 107) dX10_orders_104 rfl fl_RX10_100 ⟨by omega, rfl⟩ rfl (q_aload_n (pc' := 108) dX10_orders_107 rfl rfl (q_getIe (pc' := 111) dX10_orders_108 rfl fr_RX10_100 ⟨by omega, rfl⟩ rfl (mj_up_eq) (q_if_ne (pc' := 114) (pt := 120) dX10_orders_111 rfl rfl (fun _ => (q_iload (pc' := 122) dX10_orders_120 rfl rfl (q_if_eq (pc' := 125) (pt := 133) dX10_orders_122 rfl rfl (fun h9 => absurd h9 (by decide)) (fun _ => (q_aload_n (pc' := 126) dX10_orders_125 rfl rfl (q_aload_n (pc' := 127) dX10_orders_126 rfl rfl (q_getR (pc' := 130) dX10_orders_127 rfl fr_RX10_67 ⟨by omega, rfl⟩ rfl (wV_10_7 hV) (by decide) ?_))))))) (fun h9 => absurd h9 (nI_ne (b := 0) hz0 (by omega) (by decide))))))
            have hi18 := hi
            have hS18 := hS
            have hi := hiS
            have hz := hzS
            have hS := hSS
            refine q_sVv (pc' := 133) dX10_orders_130 rfl ml_RX10_132 yv_X5_copyFrom (by decide) (rs_X5_copyFrom hi hi18 (by omega) hS hS18 r18 (h01_of hk hgA.1.1)) (okS hi hz (by decide) rfl) rfl rfl (Nat.le_of_ble_eq_true rfl) (Nat.le_refl _) (fun I6 ⟨r6, f6⟩ => (q_inc_3 (pc' := 136) dX10_orders_133 rfl (by decide) rfl (q_goto (pc' := 45) dX10_orders_136 rfl ?_)))
            exact exit I6 _ (hl5.tr (lF_s f6)) (by rw [f6 0 (fun e he => by unfold sA; omega), mj_up_eq]) hz0 (by rw [ord_eq hz0 ho9]; exact r6)
        · have w18 : ¬ nI (wI (O i 0)) = nI 18 := nI_ne (by unfold wI; split <;> omega) (by unfold wI; split <;> omega) (by decide)
          refine q_iload_n (pc' := 46) dX10_orders_45 rfl rfl (q_aload_n (pc' := 47) dX10_orders_46 rfl rfl (q_getR (pc' := 50) dX10_orders_47 rfl fr_RX10_53 ⟨by omega, rfl⟩ rfl (wV_10_5 hV) (by decide) (q_getIe (pc' := 53) dX10_orders_50 rfl fr_RX10_125 ⟨by omega, rfl⟩ rfl (e23 I0 hl) (q_icmp_ge (pc' := 56) (pt := 139) dX10_orders_53 rfl rfl (fun h9 => absurd h9 (Int32.not_le.mpr (nI_lt (by omega) (by omega)))) (fun _ => (q_aload_n (pc' := 57) dX10_orders_56 rfl rfl (q_getIe (pc' := 60) dX10_orders_57 rfl fr_RX10_100 ⟨by omega, rfl⟩ rfl hrf (q_if_ne (pc' := 63) (pt := 139) dX10_orders_60 rfl rfl (fun h9 => absurd (rfl) h9) (fun _ => (q_aload_n (pc' := 64) dX10_orders_63 rfl rfl (q_getR (pc' := 67) dX10_orders_64 rfl fr_RX10_53 ⟨by omega, rfl⟩ rfl (wV_10_5 hV) (by decide) (q_getR (pc' := 70) dX10_orders_67 rfl fr_RX10_128 ⟨by omega, rfl⟩ rfl (wV_3_3 hV) (by decide) (q_iload_n (pc' := 71) dX10_orders_70 rfl rfl (q_ialde (pc' := 72) (i) dX10_orders_71 rfl (by first | exact ⟨by omega, rfl⟩ | exact okaS hi hz (by decide) rfl | assumption) (by (first | (simp only [nI_add, pk_mul]; done) | (simp only [nI_add, pk_mul]; exact nI_e (by omega)) | exact nI_e (by omega))) (by omega) w0 (q_bipush (pc' := 74) _ dX10_orders_72 rfl kk_bipush_18 ?_)))))))))))))))
          refine q_icmp_ne (pc' := 77) (pt := 81) dX10_orders_74 rfl rfl (fun _ => (q_iconst (pc' := 82) _ dX10_orders_81 rfl kk_iconst_0 (q_ist_4 (pc' := 84) dX10_orders_82 rfl (by decide) rfl (q_iload (pc' := 86) dX10_orders_84 rfl rfl (q_if_eq (pc' := 89) (pt := 97) dX10_orders_86 rfl rfl (fun _ => (q_aload_n (pc' := 98) dX10_orders_97 rfl rfl (q_aload_n (pc' := 99) dX10_orders_98 rfl rfl (q_aload_n (pc' := 100) dX10_orders_99 rfl rfl (q_iload_n (pc' := 101) dX10_orders_100 rfl rfl (q_sVi (pc' := 104) dX10_orders_101 rfl ml_RX10_135 yv_X10_perform (by decide) (rs_X10_perform hW (cB_l hs hl hb2) hR hcr hs hgA.1 hO0 (by omega) n3 ho (by omega)) ⟨by omega, rfl⟩ rfl rfl (Nat.le_of_ble_eq_true rfl) (Nat.le_refl _) (fun x5 I5 ⟨t5, r5, f5⟩ => ?_))))))) (fun h9 => absurd (rfl) h9)))))) (fun h9 => absurd h9 (w18))
          subst t5
          have hl5 : lF s I2 (mj_up I5 0 12 (nI (aOrd b B (O i)).1)) := (hl.tr (lF_s f5)).tr lF_up
          have hrr : cR (mj_up I5 0 12 (nI (aOrd b B (O i)).1)) s b (aOrd b B (O i)).2 := cR_F (fun e he => up_fI (by unfold sA; omega)) (r5 (Or.inr e8))
          by_cases hz0 : (aOrd b B (O i)).1 = 0
          · rw [if_pos hz0] at eA2
            rw [hz0] at hl5 hrr ⊢
            refine q_putI (pc' := 107) dX10_orders_104 rfl fl_RX10_100 ⟨by omega, rfl⟩ rfl (q_aload_n (pc' := 108) dX10_orders_107 rfl rfl (q_getIe (pc' := 111) dX10_orders_108 rfl fr_RX10_100 ⟨by omega, rfl⟩ rfl (mj_up_eq) (q_if_ne (pc' := 114) (pt := 120) dX10_orders_111 rfl rfl (fun h9 => absurd (rfl) h9) (fun _ => (q_inc_2 (pc' := 117) dX10_orders_114 rfl (by decide) rfl (q_goto (pc' := 133) dX10_orders_117 rfl (q_inc_3 (pc' := 136) dX10_orders_133 rfl (by decide) rfl (q_goto (pc' := 45) dX10_orders_136 rfl ?_))))))))
            exact ih (i + 1) _ _ _ (by omega) mj_up_eq hrr (gA_mono (by omega) (gA_ord hk h11 hgA ho)) hl5 (fun q => absurd q (Nat.succ_ne_zero _)) eA2
          · refine q_putI (pc' := 107) dX10_orders_104 rfl fl_RX10_100 ⟨by omega, rfl⟩ rfl (q_aload_n (pc' := 108) dX10_orders_107 rfl rfl (q_getIe (pc' := 111) dX10_orders_108 rfl fr_RX10_100 ⟨by omega, rfl⟩ rfl (mj_up_eq) (q_if_ne (pc' := 114) (pt := 120) dX10_orders_111 rfl rfl (fun _ => (q_iload (pc' := 122) dX10_orders_120 rfl rfl (q_if_eq (pc' := 125) (pt := 133) dX10_orders_122 rfl rfl (fun _ => (q_inc_3 (pc' := 136) dX10_orders_133 rfl (by decide) rfl (q_goto (pc' := 45) dX10_orders_136 rfl ?_))) (fun h9 => absurd (rfl) h9)))) (fun h9 => absurd h9 (nI_ne (b := 0) hz0 (by omega) (by decide))))))
            exact exit _ _ hl5 mj_up_eq hz0 hrr
    refine q_ifb_ne (pc' := 31) (pt := 33) dX10_orders_28 rfl rfl (fun _ => (q_aload_n (pc' := 34) dX10_orders_33 rfl rfl (q_getR (pc' := 37) dX10_orders_34 rfl fr_RX10_62 ⟨by omega, rfl⟩ rfl (wV_10_6 hV) (by decide) (q_sVa (pc' := 40) dX10_orders_37 rfl ml_RX10_122 yv_X2_draft (by decide) (rs_X2_draft hW.2.2.2 cH2 (h01_of hk hA.1.1)) ⟨by omega, rfl⟩ rfl rfl (Nat.le_of_ble_eq_true rfl) (Nat.le_refl _) (fun I3 ⟨r3, f3⟩ => (q_ast_1 (pc' := 41) dX10_orders_40 rfl (by decide) rfl (q_iconst (pc' := 42) _ dX10_orders_41 rfl kk_iconst_0 (q_ist_2 (pc' := 43) dX10_orders_42 rfl (by decide) rfl (q_iconst (pc' := 44) _ dX10_orders_43 rfl kk_iconst_0 (q_ist_3 (pc' := 45) dX10_orders_44 rfl (by decide) rfl ?_)))))))))) (fun h9 => Bool.noConfusion (Eq.trans (Eq.symm (beq_iff_eq.mpr hg)) h9))
    exact loop N 0 I3 A _ (by omega) (by rw [f3 0 (fun e he => by unfold sA; omega)]; exact e12) r3 hA (lF_s f3) (fun _ => rfl) rfl
  · refine q_ifb_ne (pc' := 31) (pt := 33) dX10_orders_28 rfl rfl (fun h9 => Bool.noConfusion (Eq.trans (Eq.symm (beq_eq_false_iff_ne.mpr hg)) h9)) (fun _ => (q_iconst (pc' := 32) _ dX10_orders_31 rfl kk_iconst_m1 ?_))
    exact q_iret dX10_orders_32 rfl (hQ _ _ _ _ ⟨_, rfl, m2, e01, oF2, mRh.rf, Or.inl ⟨hg, rfl, e12, cH2⟩⟩)
end VD7
