/-! ===== the class: History ===== -/
theorem rem16 : ∀ k, k < 64 → nI k - nI k / nI 16 * nI 16 = nI (k % 16) := by decide +kernel
def cHi (I : mj_M) (o n u : Nat) : Prop := (o < 16 ∧ n + u ≤ 16) ∧ I 28 3 = nI o ∧ I 28 4 = nI n ∧ I 28 5 = nI u
def cHr (R : mj_R) (c s : Nat) (g : Nat → Nat) : Prop := (R 28 0 = sA c 0 ∧ R 28 1 = sA s 0 ∧ ∀ t, t < 16 → R 29 t = sA (g t) 0) ∧ (c < 18 ∧ s < 18 ∧ ∀ t, t < 16 → g t < 18) ∧ c ≠ s ∧ (∀ t, t < 16 → g t ≠ c ∧ g t ≠ s) ∧ ∀ t q, t < 16 → q < 16 → g t = g q → t = q
def cHp (I : mj_M) (b : St) (g : Nat → Nat) (o n u : Nat) (ps : Nat → St) : Prop := ∀ t, t < n + u → cR I (g ((o + t) % 16)) b (ps t)
/-- what the class keeps: now in state c, a spare one in state s, what was in the slots -/
def cH (I : mj_M) (R : mj_R) (b : St) (ps : Nat → St) (n u : Nat) (A : St) (c s : Nat) : Prop := ∃ o g, cHi I o n u ∧ cHr R c s g ∧ cR I c b A ∧ cHp I b g o n u ps
/-- of the references only the history's own change -/
def mRh (R R' : mj_R) : Prop := (∀ a, a ≠ 28 → a ≠ 29 → R' a = R a) ∧ R' 28 2 = R 28 2
theorem mRh.rf {R : mj_R} : mRh R R := ⟨fun _ _ _ => rfl, rfl⟩
theorem wV_h {R R' : mj_R} (h : mRh R R') (hV : mj_wV R) : mj_wV R' := by
  unfold mj_wV
  rw [h.2, h.1 0 (by decide) (by decide), h.1 10 (by decide) (by decide), h.1 16 (by decide) (by decide), h.1 23 (by decide) (by decide), h.1 450 (by decide) (by decide), h.1 451 (by decide) (by decide), h.1 2 (by decide) (by decide)]
  exact hV
theorem wM_h {R R' : mj_R} (h : mRh R R') (hM : mj_wM R) : mj_wM R' := by
  unfold mj_wM
  rw [h.1 452 (by decide) (by decide)]
  exact hM
theorem wB_h {R R' : mj_R} {a : Nat} (h : mRh R R') (h1 : a ≠ 28) (h2 : a ≠ 29) (hB : mj_wB R a) : mj_wB R' a := by
  unfold mj_wB
  rw [h.1 a h1 h2]
  exact hB
theorem wS_h {R R' : mj_R} {i : Nat} (h : mRh R R') (hS : mj_wS R i) : mj_wS R' i := by
  have f : ∀ c, R' (sA i c) = R (sA i c) := fun c => h.1 _ (by unfold sA; omega) (by unfold sA; omega)
  unfold mj_wS
  rw [f 0, f 1, f 11, f 12]
  exact hS
theorem cR_28 {I I' : mj_M} {i : Nat} {b A : St} (f : ∀ a, a ≠ 28 → I' a = I a) (h : cR I i b A) : cR I' i b A := cR_F (fun c _ => f _ (by unfold sA; omega)) h
theorem up_fR {R : mj_R} {a j x y : Nat} (h : x ≠ a) : mj_up R a j y x = R x := by
  funext k
  exact mj_up_ne h
theorem cHr_xc {R : mj_R} {c s t : Nat} {g : Nat → Nat} (h : cHr R c s g) (ht : t < 16) : cHr (mj_up (mj_up R 29 t (sA c 0)) 28 0 (sA (g t) 0)) (g t) s (fun q => if q = t then c else g q) := by
  obtain ⟨⟨e1, e2, e3⟩, ⟨k1, k2, k3⟩, n1, n2, n3⟩ := h
  refine ⟨⟨mj_up_eq, ?_, fun q hq => ?_⟩, ⟨k3 t ht, k2, fun q hq => ?_⟩, (n2 t ht).2, fun q hq => ?_, fun q r hq hr he => ?_⟩
  all_goals try dsimp only
  · rw [mj_up_ne2 (by decide), mj_up_ne (by decide)]; exact e2
  · rw [mj_up_ne (by decide)]
    by_cases e : q = t
    · subst e; rw [mj_up_eq, if_pos rfl]
    · rw [mj_up_ne2 e, if_neg e]; exact e3 q hq
  · by_cases e : q = t
    · rw [if_pos e]; exact k1
    · rw [if_neg e]; exact k3 q hq
  · by_cases e : q = t
    · rw [if_pos e]; exact ⟨Ne.symm (n2 t ht).1, n1⟩
    · rw [if_neg e]; exact ⟨fun q2 => e (n3 q t hq ht q2), (n2 q hq).2⟩
  · dsimp only at he
    by_cases e : q = t
    · by_cases e2 : r = t
      · rw [e, e2]
      · rw [if_pos e, if_neg e2] at he
        exact absurd he.symm (n2 r hr).1
    · by_cases e2 : r = t
      · rw [if_neg e, if_pos e2] at he
        exact absurd he (n2 q hq).1
      · rw [if_neg e, if_neg e2] at he
        exact n3 q r hq hr he
theorem mRh_xc {R : mj_R} {t x y : Nat} : mRh R (mj_up (mj_up R 29 t x) 28 0 y) := ⟨fun a h1 h2 => by rw [up_fR h1, up_fR h2], by rw [mj_up_ne2 (by decide), mj_up_ne (by decide)]⟩
theorem hsl_ne {o q t : Nat} (hq : q < 16) (ht : t < 16) (h : (o + q) % 16 = (o + t) % 16) : q = t := by omega
section HIST
variable {w : mj_Wd} {l : Launch} {I : mj_M} {J : mj_J} {R : mj_R} {b A B : St} {ps : Nat → St} {n u c s : Nat} {g : Nat → Nat}
abbrev RsA (w : mj_Wd) (l : Launch) (y : MethodName) (d : mj_D) (As : List Value) (h : mj_H) (r : Nat) (P : mj_M → Prop) : Prop := Rt w l y d As h (fun v I' J' R' => v = some (.ref r) ∧ (J' = h.2.2.1 ∧ R' = h.2.2.2) ∧ P I')
theorem rs_X2_draft (hS : ∀ i, i < 21 → mj_wS R i) (h : cH I R b ps n u A c s) (h01 : ∀ k, k < 80 → A 5 k ≤ 1 ∧ A 6 k ≤ 1) : RsA w l yX2_draft dd_X2_draft [.ref 28] (472, I, J, R) (sA s 0) (fun I' => cR I' s b A ∧ mS s I I') := by
  obtain ⟨o, g, h1, h2, h3, h4⟩ := h
  have hc : c < 21 := by have := h2.2.1.1; omega
  have hi : s < 21 := by have := h2.2.1.2.1; omega
  have hz : 50 + 20 * s ≤ 472 := by omega
  refine rt_intro2 (L := [some (.ref 28)]) ⟨by decide, rfl, (fun h => by cases h)⟩ (Nat.le_of_ble_eq_true rfl) rfl (fun Y Q hQ => ?_)
  refine q_aload_n (pc' := 1) dX2_draft_0 rfl rfl (q_getR (pc' := 4) dX2_draft_1 rfl fr_RX2_24 ⟨by omega, rfl⟩ rfl (h2.1.2.1) (sA_lt hi (by decide)) (q_aload_n (pc' := 5) dX2_draft_4 rfl rfl (q_getR (pc' := 8) dX2_draft_5 rfl fr_RX2_20 ⟨by omega, rfl⟩ rfl (h2.1.1) (sA_lt hc (by decide)) (q_sVv (pc' := 11) dX2_draft_8 rfl ml_RX2_27 yv_X5_copyFrom (by decide) (rs_X5_copyFrom hi hc h2.2.2.1 (hS s hi) (hS c hc) h3 h01) (okS hi hz (by decide) rfl) rfl rfl (Nat.le_of_ble_eq_true rfl) (Nat.le_refl _) (fun I1 ⟨r1, f1⟩ => (q_aload_n (pc' := 12) dX2_draft_11 rfl rfl (q_getR (pc' := 15) dX2_draft_12 rfl fr_RX2_24 ⟨by omega, rfl⟩ rfl (h2.1.2.1) (sA_lt hi (by decide)) ?_)))))))
  exact q_aret dX2_draft_15 rfl (hQ _ _ _ _ ⟨rfl, ⟨rfl, rfl⟩, r1, f1⟩)
theorem cH_S {I' : mj_M} (h : cH I R b ps n u A c s) (f : mS s I I') : cH I' R b ps n u A c s := by
  obtain ⟨o, g, h1, h2, h3, h4⟩ := h
  have e28 : I' 28 = I 28 := f 28 (fun c _ => by unfold sA; omega)
  refine ⟨o, g, ?_, h2, cR_F (fun e he => mS_o f h2.2.2.1 he) h3, fun t ht => cR_F (fun e he => mS_o f (h2.2.2.2.1 _ (Nat.mod_lt _ (by decide))).2 he) (h4 t ht)⟩
  unfold cHi
  rw [e28]
  exact h1
theorem rn_X2_exchange {t : Nat} (hV : mj_wV R) (h : cHr R c s g) (ht : t < 16) : Rn w l yX2_exchange dd_X2_exchange [.ref 28, .int (nI t)] (472, I, J, R) none (472, I, J, mj_up (mj_up R 29 t (sA c 0)) 28 0 (sA (g t) 0)) := by
  have hc : c < 21 := by have := h.2.1.1; omega
  have hg : g t < 21 := by have := h.2.1.2.2 t ht; omega
  have h28 : 28 < 472 := by decide
  refine rn_intro2 (L := [some (.ref 28), some (.int (nI t)), none]) ⟨by decide, rfl, (fun h => by cases h)⟩ (Nat.le_refl _) (Nat.le_of_ble_eq_true rfl) rfl (fun Y Q hQ => ?_)
  refine q_aload_n (pc' := 1) dX2_exchange_0 rfl rfl (q_getR (pc' := 4) dX2_exchange_1 rfl fr_RX2_11 ⟨by omega, rfl⟩ rfl (wV_2_2 hV) (by decide) (q_iload_n (pc' := 5) dX2_exchange_4 rfl rfl (q_aald (pc' := 6) (t) dX2_exchange_5 rfl (by first | exact ⟨by omega, rfl⟩ | exact okaS hi hz (by decide) rfl | assumption) (by first | exact Or.inl rfl | exact Or.inr rfl) (by (first | (simp only [nI_add, pk_mul]; done) | (simp only [nI_add, pk_mul]; exact nI_e (by omega)) | exact nI_e (by omega))) (by omega) (h.1.2.2 t ht) (sA_lt hg (by decide)) (q_ast_2 (pc' := 7) dX2_exchange_6 rfl (by decide) rfl (q_aload_n (pc' := 8) dX2_exchange_7 rfl rfl (q_getR (pc' := 11) dX2_exchange_8 rfl fr_RX2_11 ⟨by omega, rfl⟩ rfl (wV_2_2 hV) (by decide) (q_iload_n (pc' := 12) dX2_exchange_11 rfl rfl (q_aload_n (pc' := 13) dX2_exchange_12 rfl rfl (q_getR (pc' := 16) dX2_exchange_13 rfl fr_RX2_20 ⟨by omega, rfl⟩ rfl (h.1.1) (sA_lt hc (by decide)) (q_aast (pc' := 17) (t) dX2_exchange_16 rfl (by first | exact ⟨by omega, rfl⟩ | exact okaS hi hz (by decide) rfl | assumption) (okS (by omega) (by omega) (by decide) rfl) (by (first | (simp only [nI_add, pk_mul]; done) | (simp only [nI_add, pk_mul]; exact nI_e (by omega)) | exact nI_e (by omega))) (by omega) (q_aload_n (pc' := 18) dX2_exchange_17 rfl rfl (q_aload_n (pc' := 19) dX2_exchange_18 rfl rfl (q_putR (pc' := 22) dX2_exchange_19 rfl fl_RX2_20 (fun h => by cases h) (Or.inl ⟨_, rfl⟩) ⟨by omega, rfl⟩ rfl (sA_lt hg (by decide)) ?_)))))))))))))
  exact q_vret dX2_exchange_22 rfl hQ
theorem rn_X2_forget : Rn w l yX2_forget dd_X2_forget [.ref 28] (472, I, J, R) none (472, mj_up (mj_up I 28 4 (nI 0)) 28 5 (nI 0), J, R) := by
  refine rn_intro2 (L := [some (.ref 28)]) ⟨by decide, rfl, (fun h => by cases h)⟩ (Nat.le_refl _) (Nat.le_of_ble_eq_true rfl) rfl (fun Y Q hQ => ?_)
  exact q_aload_n (pc' := 1) dX2_forget_0 rfl rfl (q_iconst (pc' := 2) _ dX2_forget_1 rfl kk_iconst_0 (q_putI (pc' := 5) dX2_forget_2 rfl fl_RX2_31 ⟨by omega, rfl⟩ rfl (q_aload_n (pc' := 6) dX2_forget_5 rfl rfl (q_iconst (pc' := 7) _ dX2_forget_6 rfl kk_iconst_0 (q_putI (pc' := 10) dX2_forget_7 rfl fl_RX2_38 ⟨by omega, rfl⟩ rfl (q_vret dX2_forget_10 rfl hQ))))))
theorem rt_X2_takeBack (hV : mj_wV R) (h : cH I R b ps n u A c s) : RtI w l yX2_takeBack dd_X2_takeBack [.ref 28] (472, I, J, R) (fun x I' J' R' => x = bI (n != 0) ∧ J' = J ∧ (∀ a, a ≠ 28 → I' a = I a) ∧ mRh R R' ∧ ∃ c', cH I' R' b (if n = 0 then ps else hSet ps (n - 1) A) (n - 1) (if n = 0 then u else u + 1) (if n = 0 then A else ps (n - 1)) c' s) := by
  have h' := h
  obtain ⟨o, g, ⟨⟨ho, hnu⟩, h3, h4, h5⟩, h2, hA, hp⟩ := h'
  refine rt_intro2 (L := [some (.ref 28)]) ⟨by decide, rfl, (fun h => by cases h)⟩ (Nat.le_of_ble_eq_true rfl) rfl (fun Y Q hQ => ?_)
  by_cases hn : n = 0
  · subst hn
    refine q_aload_n (pc' := 1) dX2_takeBack_0 rfl rfl (q_getIe (pc' := 4) dX2_takeBack_1 rfl fr_RX2_31 ⟨by omega, rfl⟩ rfl h4 (q_if_ne (pc' := 7) (pt := 9) dX2_takeBack_4 rfl rfl (fun h9 => absurd (rfl) h9) (fun _ => (q_iconst (pc' := 8) _ dX2_takeBack_7 rfl kk_iconst_0 ?_))))
    refine q_zret dX2_takeBack_8 rfl (Or.inl rfl) (hQ _ _ _ _ ⟨_, rfl, rfl, rfl, fun _ _ => rfl, mRh.rf, c, ?_⟩)
    exact h
  · have e3 : (mj_up (mj_up I 28 4 (nI (n - 1))) 28 5 (nI (u + 1))) 28 3 = nI o := by rw [mj_up_ne2 (by decide), mj_up_ne2 (by decide), h3]
    have e4 : (mj_up (mj_up I 28 4 (nI (n - 1))) 28 5 (nI (u + 1))) 28 4 = nI (n - 1) := by rw [mj_up_ne2 (by decide), mj_up_eq]
    have ht : (o + (n - 1)) % 16 < 16 := Nat.mod_lt _ (by decide)
    refine q_aload_n (pc' := 1) dX2_takeBack_0 rfl rfl (q_getIe (pc' := 4) dX2_takeBack_1 rfl fr_RX2_31 ⟨by omega, rfl⟩ rfl h4 (q_if_ne (pc' := 7) (pt := 9) dX2_takeBack_4 rfl rfl (fun _ => (q_aload_n (pc' := 10) dX2_takeBack_9 rfl rfl (q_dup_a (pc' := 11) dX2_takeBack_10 rfl (q_getIe (pc' := 14) dX2_takeBack_11 rfl fr_RX2_31 ⟨by omega, rfl⟩ rfl h4 (q_iconst (pc' := 15) _ dX2_takeBack_14 rfl kk_iconst_1 (q_isub (pc' := 16) dX2_takeBack_15 rfl ?_)))))) (fun h9 => absurd h9 (nI_ne (b := 0) hn (by omega) (by decide)))))
    refine q_top (nI_sb (by omega)) ?_
    refine q_putI (pc' := 19) dX2_takeBack_16 rfl fl_RX2_31 ⟨by omega, rfl⟩ rfl (q_aload_n (pc' := 20) dX2_takeBack_19 rfl rfl (q_dup_a (pc' := 21) dX2_takeBack_20 rfl (q_getIe (pc' := 24) dX2_takeBack_21 rfl fr_RX2_38 ⟨by omega, rfl⟩ rfl ((mj_up_ne2 (by decide)).trans h5) (q_iconst (pc' := 25) _ dX2_takeBack_24 rfl kk_iconst_1 (q_iadd (pc' := 26) dX2_takeBack_25 rfl ?_)))))
    refine q_top (nI_add _ _) ?_
    refine q_putI (pc' := 29) dX2_takeBack_26 rfl fl_RX2_38 ⟨by omega, rfl⟩ rfl (q_aload_n (pc' := 30) dX2_takeBack_29 rfl rfl (q_aload_n (pc' := 31) dX2_takeBack_30 rfl rfl (q_getIe (pc' := 34) dX2_takeBack_31 rfl fr_RX2_35 ⟨by omega, rfl⟩ rfl e3 (q_aload_n (pc' := 35) dX2_takeBack_34 rfl rfl (q_getIe (pc' := 38) dX2_takeBack_35 rfl fr_RX2_31 ⟨by omega, rfl⟩ rfl e4 (q_iadd (pc' := 39) dX2_takeBack_38 rfl ?_))))))
    refine q_top (nI_add _ _) ?_
    refine q_bipush (pc' := 41) _ dX2_takeBack_39 rfl kk_bipush_16 (q_irem (pc' := 42) dX2_takeBack_41 rfl (by decide) ?_)
    refine q_top (rem16 _ (by omega)) ?_
    refine q_cVv (pc' := 45) dX2_takeBack_42 rfl ml_RX2_41 yv_X2_exchange (by decide) (rn_X2_exchange (c := c) (s := s) (g := g) hV h2 ht) ⟨by omega, rfl⟩ rfl rfl (Nat.le_of_ble_eq_true rfl) (Nat.le_refl _) (q_iconst (pc' := 46) _ dX2_takeBack_45 rfl kk_iconst_1 ?_)
    refine q_zret dX2_takeBack_46 rfl (Or.inr rfl) (hQ _ _ _ _ ⟨_, rfl, ?_, rfl, fun a ha => by rw [up_fI ha, up_fI ha], mRh_xc, g ((o + (n - 1)) % 16), o, fun q => if q = (o + (n - 1)) % 16 then c else g q, ?_⟩)
    · rw [bne_iff_ne.mpr hn]; rfl
    · rw [if_neg hn, if_neg hn, if_neg hn]
      have fI : ∀ a, a ≠ 28 → mj_up (mj_up I 28 4 (nI (n - 1))) 28 5 (nI (u + 1)) a = I a := fun a ha => by rw [up_fI ha, up_fI ha]
      refine ⟨⟨⟨ho, by omega⟩, e3, e4, mj_up_eq⟩, cHr_xc h2 ht, cR_28 fI (hp (n - 1) (by omega)), fun q hq => ?_⟩
      refine cR_28 fI ?_
      unfold hSet
      dsimp only
      by_cases e : q = n - 1
      · rw [if_pos e, if_pos (by rw [e])]; exact hA
      · rw [if_neg e, if_neg (fun q2 => e (hsl_ne (by omega) (by omega) q2))]; exact hp q (by omega)
theorem rt_X2_doAgain (hV : mj_wV R) (h : cH I R b ps n u A c s) : RtI w l yX2_doAgain dd_X2_doAgain [.ref 28] (472, I, J, R) (fun x I' J' R' => x = bI (u != 0) ∧ J' = J ∧ (∀ a, a ≠ 28 → I' a = I a) ∧ mRh R R' ∧ ∃ c', cH I' R' b (if u = 0 then ps else hSet ps n A) (if u = 0 then n else n + 1) (u - 1) (if u = 0 then A else ps n) c' s) := by
  have h' := h
  obtain ⟨o, g, ⟨⟨ho, hnu⟩, h3, h4, h5⟩, h2, hA, hp⟩ := h'
  refine rt_intro2 (L := [some (.ref 28)]) ⟨by decide, rfl, (fun h => by cases h)⟩ (Nat.le_of_ble_eq_true rfl) rfl (fun Y Q hQ => ?_)
  by_cases hn : u = 0
  · subst hn
    refine q_aload_n (pc' := 1) dX2_doAgain_0 rfl rfl (q_getIe (pc' := 4) dX2_doAgain_1 rfl fr_RX2_38 ⟨by omega, rfl⟩ rfl h5 (q_if_ne (pc' := 7) (pt := 9) dX2_doAgain_4 rfl rfl (fun h9 => absurd (rfl) h9) (fun _ => (q_iconst (pc' := 8) _ dX2_doAgain_7 rfl kk_iconst_0 ?_))))
    refine q_zret dX2_doAgain_8 rfl (Or.inl rfl) (hQ _ _ _ _ ⟨_, rfl, rfl, rfl, fun _ _ => rfl, mRh.rf, c, ?_⟩)
    exact h
  · have ht : (o + n) % 16 < 16 := Nat.mod_lt _ (by decide)
    refine q_aload_n (pc' := 1) dX2_doAgain_0 rfl rfl (q_getIe (pc' := 4) dX2_doAgain_1 rfl fr_RX2_38 ⟨by omega, rfl⟩ rfl h5 (q_if_ne (pc' := 7) (pt := 9) dX2_doAgain_4 rfl rfl (fun _ => (q_aload_n (pc' := 10) dX2_doAgain_9 rfl rfl (q_aload_n (pc' := 11) dX2_doAgain_10 rfl rfl (q_getIe (pc' := 14) dX2_doAgain_11 rfl fr_RX2_35 ⟨by omega, rfl⟩ rfl h3 (q_aload_n (pc' := 15) dX2_doAgain_14 rfl rfl (q_getIe (pc' := 18) dX2_doAgain_15 rfl fr_RX2_31 ⟨by omega, rfl⟩ rfl h4 (q_iadd (pc' := 19) dX2_doAgain_18 rfl ?_))))))) (fun h9 => absurd h9 (nI_ne (b := 0) hn (by omega) (by decide)))))
    refine q_top (nI_add _ _) ?_
    refine q_bipush (pc' := 21) _ dX2_doAgain_19 rfl kk_bipush_16 (q_irem (pc' := 22) dX2_doAgain_21 rfl (by decide) ?_)
    refine q_top (rem16 _ (by omega)) ?_
    refine q_cVv (pc' := 25) dX2_doAgain_22 rfl ml_RX2_41 yv_X2_exchange (by decide) (rn_X2_exchange (c := c) (s := s) (g := g) hV h2 ht) ⟨by omega, rfl⟩ rfl rfl (Nat.le_of_ble_eq_true rfl) (Nat.le_refl _) (q_aload_n (pc' := 26) dX2_doAgain_25 rfl rfl (q_dup_a (pc' := 27) dX2_doAgain_26 rfl (q_getIe (pc' := 30) dX2_doAgain_27 rfl fr_RX2_31 ⟨by omega, rfl⟩ rfl h4 (q_iconst (pc' := 31) _ dX2_doAgain_30 rfl kk_iconst_1 (q_iadd (pc' := 32) dX2_doAgain_31 rfl ?_)))))
    refine q_top (nI_add _ _) ?_
    refine q_putI (pc' := 35) dX2_doAgain_32 rfl fl_RX2_31 ⟨by omega, rfl⟩ rfl (q_aload_n (pc' := 36) dX2_doAgain_35 rfl rfl (q_dup_a (pc' := 37) dX2_doAgain_36 rfl (q_getIe (pc' := 40) dX2_doAgain_37 rfl fr_RX2_38 ⟨by omega, rfl⟩ rfl ((mj_up_ne2 (by decide)).trans h5) (q_iconst (pc' := 41) _ dX2_doAgain_40 rfl kk_iconst_1 (q_isub (pc' := 42) dX2_doAgain_41 rfl ?_)))))
    refine q_top (nI_sb (by omega)) ?_
    refine q_putI (pc' := 45) dX2_doAgain_42 rfl fl_RX2_38 ⟨by omega, rfl⟩ rfl (q_iconst (pc' := 46) _ dX2_doAgain_45 rfl kk_iconst_1 ?_)
    refine q_zret dX2_doAgain_46 rfl (Or.inr rfl) (hQ _ _ _ _ ⟨_, rfl, ?_, rfl, fun a ha => by rw [up_fI ha, up_fI ha], mRh_xc, g ((o + n) % 16), o, fun q => if q = (o + n) % 16 then c else g q, ?_⟩)
    · rw [bne_iff_ne.mpr hn]; rfl
    · rw [if_neg hn, if_neg hn, if_neg hn]
      have fI : ∀ a, a ≠ 28 → mj_up (mj_up I 28 4 (nI (n + 1))) 28 5 (nI (u - 1)) a = I a := fun a ha => by rw [up_fI ha, up_fI ha]
      refine ⟨⟨⟨ho, by omega⟩, ?_, ?_, mj_up_eq⟩, cHr_xc h2 ht, cR_28 fI (hp n (by omega)), fun q hq => ?_⟩
      · rw [mj_up_ne2 (by decide), mj_up_ne2 (by decide), h3]
      · rw [mj_up_ne2 (by decide), mj_up_eq]
      refine cR_28 fI ?_
      unfold hSet
      dsimp only
      by_cases e : q = n
      · rw [if_pos e, if_pos (by rw [e])]; exact hA
      · rw [if_neg e, if_neg (fun q2 => e (hsl_ne (by omega) (by omega) q2))]; exact hp q (by omega)
theorem rt_X2_keep (hV : mj_wV R) (h : cH I R b ps n u A c s) (hB : cR I s b B) : RtV w l yX2_keep dd_X2_keep [.ref 28] (472, I, J, R) (fun I' J' R' => J' = J ∧ (∀ a, a ≠ 28 → I' a = I a) ∧ mRh R R' ∧ ∃ s', cH I' R' b (hPush ps n A) (hN n) 0 B s s') := by
  obtain ⟨o, g, ⟨⟨ho, hnu⟩, h3, h4, h5⟩, h2, hA, hp⟩ := h
  have hc : c < 21 := by have := h2.2.1.1; omega
  have hs : s < 21 := by have := h2.2.1.2.1; omega
  have h28 : 28 < 472 := by decide
  refine rt_intro2 (L := [some (.ref 28), none, none]) ⟨by decide, rfl, (fun h => by cases h)⟩ (Nat.le_of_ble_eq_true rfl) rfl (fun Y Q hQ => ?_)
  have tail : ∀ I0 p m, p < 16 → m < 16 → I0 28 3 = nI p → I0 28 4 = nI m → (∀ a, a ≠ 28 → I0 a = I a) → m + 1 = hN n → (∀ q, q < m → cR I (g ((p + q) % 16)) b (hPush ps n A q)) → hPush ps n A m = A → Wq dd_X2_keep (mj_mk w l 472 Y) Q 32 [some (.ref 28), none, none] [] (472, I0, J, R) := by
    intro I0 p m hp16 hm16 e3 e4 fI hN1 hq hq2
    have ht : (p + m) % 16 < 16 := Nat.mod_lt _ (by decide)
    have hg : g ((p + m) % 16) < 21 := by have := h2.2.1.2.2 _ ht; omega
    refine q_aload_n (pc' := 33) dX2_keep_32 rfl rfl (q_getIe (pc' := 36) dX2_keep_33 rfl fr_RX2_35 ⟨by omega, rfl⟩ rfl e3 (q_aload_n (pc' := 37) dX2_keep_36 rfl rfl (q_getIe (pc' := 40) dX2_keep_37 rfl fr_RX2_31 ⟨by omega, rfl⟩ rfl e4 (q_iadd (pc' := 41) dX2_keep_40 rfl ?_))))
    refine q_top (nI_add _ _) ?_
    refine q_bipush (pc' := 43) _ dX2_keep_41 rfl kk_bipush_16 (q_irem (pc' := 44) dX2_keep_43 rfl (by decide) ?_)
    refine q_top (rem16 _ (by omega)) ?_
    refine q_ist_1 (pc' := 45) dX2_keep_44 rfl (by decide) rfl (q_aload_n (pc' := 46) dX2_keep_45 rfl rfl (q_getR (pc' := 49) dX2_keep_46 rfl fr_RX2_11 ⟨by omega, rfl⟩ rfl (wV_2_2 hV) (by decide) (q_iload_n (pc' := 50) dX2_keep_49 rfl rfl (q_aald (pc' := 51) ((p + m) % 16) dX2_keep_50 rfl (by first | exact ⟨by omega, rfl⟩ | exact okaS hi hz (by decide) rfl | assumption) (by first | exact Or.inl rfl | exact Or.inr rfl) (by (first | (simp only [nI_add, pk_mul]; done) | (simp only [nI_add, pk_mul]; exact nI_e (by omega)) | exact nI_e (by omega))) (by omega) (h2.1.2.2 _ ht) (sA_lt hg (by decide)) (q_ast_2 (pc' := 52) dX2_keep_51 rfl (by decide) rfl (q_aload_n (pc' := 53) dX2_keep_52 rfl rfl (q_getR (pc' := 56) dX2_keep_53 rfl fr_RX2_11 ⟨by omega, rfl⟩ rfl (wV_2_2 hV) (by decide) (q_iload_n (pc' := 57) dX2_keep_56 rfl rfl (q_aload_n (pc' := 58) dX2_keep_57 rfl rfl (q_getR (pc' := 61) dX2_keep_58 rfl fr_RX2_20 ⟨by omega, rfl⟩ rfl (h2.1.1) (sA_lt hc (by decide)) (q_aast (pc' := 62) ((p + m) % 16) dX2_keep_61 rfl (by first | exact ⟨by omega, rfl⟩ | exact okaS hi hz (by decide) rfl | assumption) (okS (by omega) (by omega) (by decide) rfl) (by (first | (simp only [nI_add, pk_mul]; done) | (simp only [nI_add, pk_mul]; exact nI_e (by omega)) | exact nI_e (by omega))) (by omega) (q_aload_n (pc' := 63) dX2_keep_62 rfl rfl (q_aload_n (pc' := 64) dX2_keep_63 rfl rfl ?_)))))))))))))
    refine q_getR (pc' := 67) dX2_keep_64 rfl fr_RX2_24 ⟨by omega, rfl⟩ rfl ((mj_up_ne (by decide)).trans h2.1.2.1) (sA_lt hs (by decide)) (q_putR (pc' := 70) dX2_keep_67 rfl fl_RX2_20 (fun h => by cases h) (Or.inl ⟨_, rfl⟩) ⟨by omega, rfl⟩ rfl (sA_lt hs (by decide)) (q_aload_n (pc' := 71) dX2_keep_70 rfl rfl (q_aload_n (pc' := 72) dX2_keep_71 rfl rfl (q_putR (pc' := 75) dX2_keep_72 rfl fl_RX2_24 (fun h => by cases h) (Or.inl ⟨_, rfl⟩) ⟨by omega, rfl⟩ rfl (sA_lt hg (by decide)) (q_aload_n (pc' := 76) dX2_keep_75 rfl rfl (q_dup_a (pc' := 77) dX2_keep_76 rfl (q_getIe (pc' := 80) dX2_keep_77 rfl fr_RX2_31 ⟨by omega, rfl⟩ rfl e4 (q_iconst (pc' := 81) _ dX2_keep_80 rfl kk_iconst_1 (q_iadd (pc' := 82) dX2_keep_81 rfl ?_)))))))))
    refine q_top (nI_add _ _) ?_
    refine q_putI (pc' := 85) dX2_keep_82 rfl fl_RX2_31 ⟨by omega, rfl⟩ rfl (q_aload_n (pc' := 86) dX2_keep_85 rfl rfl (q_iconst (pc' := 87) _ dX2_keep_86 rfl kk_iconst_0 (q_putI (pc' := 90) dX2_keep_87 rfl fl_RX2_38 ⟨by omega, rfl⟩ rfl ?_)))
    have fI2 : ∀ a, a ≠ 28 → mj_up (mj_up I0 28 4 (nI (m + 1))) 28 5 (nI 0) a = I a := fun a ha => by rw [up_fI ha, up_fI ha]; exact fI a ha
    refine q_vret dX2_keep_90 rfl (hQ _ _ _ _ ⟨rfl, rfl, fI2, ⟨fun a h1 h2 => by rw [up_fR h1, up_fR h1, up_fR h2], by rw [mj_up_ne2 (by decide), mj_up_ne2 (by decide), mj_up_ne (by decide)]⟩, g ((p + m) % 16), p, fun q => if q = (p + m) % 16 then c else g q, ⟨⟨hp16, by omega⟩, ?_, ?_, mj_up_eq⟩, ?_, cR_28 fI2 hB, fun q hq3 => ?_⟩)
    · rw [mj_up_ne2 (by decide), mj_up_ne2 (by decide), e3]
    · rw [mj_up_ne2 (by decide), mj_up_eq, hN1]
    · obtain ⟨⟨r1, r2, r3⟩, ⟨k1, k2, k3⟩, n1, n2, n3⟩ := h2
      have hx := cHr_xc ⟨⟨r1, r2, r3⟩, ⟨k1, k2, k3⟩, n1, n2, n3⟩ ht
      refine ⟨⟨?_, mj_up_eq, fun q hq => ?_⟩, ⟨k2, k3 _ ht, hx.2.1.2.2⟩, Ne.symm (n2 _ ht).2, fun q hq => ⟨(hx.2.2.2.1 q hq).2, (hx.2.2.2.1 q hq).1⟩, hx.2.2.2.2⟩
      · rw [mj_up_ne2 (by decide), mj_up_eq]
      · rw [mj_up_ne (by decide), mj_up_ne (by decide)]
        have := hx.1.2.2 q hq
        rw [mj_up_ne (by decide)] at this
        exact this
    · refine cR_28 fI2 ?_
      dsimp only
      by_cases e : q = m
      · rw [if_pos (by rw [e]), e, hq2]; exact hA
      · rw [if_neg (fun q2 => e (hsl_ne (by omega) (by omega) q2))]; exact hq q (by omega)
  by_cases hn : n = 16
  · subst hn
    have eP : hPush ps 16 A = fun t => if t = 15 then A else ps (t + 1) := if_pos rfl
    refine q_aload_n (pc' := 1) dX2_keep_0 rfl rfl (q_getIe (pc' := 4) dX2_keep_1 rfl fr_RX2_31 ⟨by omega, rfl⟩ rfl h4 (q_bipush (pc' := 6) _ dX2_keep_4 rfl kk_bipush_16 (q_icmp_ne (pc' := 9) (pt := 32) dX2_keep_6 rfl rfl (fun h9 => absurd (rfl) h9) (fun _ => (q_aload_n (pc' := 10) dX2_keep_9 rfl rfl (q_aload_n (pc' := 11) dX2_keep_10 rfl rfl (q_getIe (pc' := 14) dX2_keep_11 rfl fr_RX2_35 ⟨by omega, rfl⟩ rfl h3 (q_iconst (pc' := 15) _ dX2_keep_14 rfl kk_iconst_1 (q_iadd (pc' := 16) dX2_keep_15 rfl ?_)))))))))
    refine q_top (nI_add _ _) ?_
    refine q_bipush (pc' := 18) _ dX2_keep_16 rfl kk_bipush_16 (q_irem (pc' := 19) dX2_keep_18 rfl (by decide) ?_)
    refine q_top (rem16 _ (by omega)) ?_
    refine q_putI (pc' := 22) dX2_keep_19 rfl fl_RX2_35 ⟨by omega, rfl⟩ rfl (q_aload_n (pc' := 23) dX2_keep_22 rfl rfl (q_dup_a (pc' := 24) dX2_keep_23 rfl (q_getIe (pc' := 27) dX2_keep_24 rfl fr_RX2_31 ⟨by omega, rfl⟩ rfl ((mj_up_ne2 (by decide)).trans h4) (q_iconst (pc' := 28) _ dX2_keep_27 rfl kk_iconst_1 (q_isub (pc' := 29) dX2_keep_28 rfl ?_)))))
    refine q_top (nI_sb (o := 1) (by decide)) ?_
    refine q_putI (pc' := 32) dX2_keep_29 rfl fl_RX2_31 ⟨by omega, rfl⟩ rfl ?_
    refine tail _ ((o + 1) % 16) 15 (Nat.mod_lt _ (by decide)) (by decide) ?_ mj_up_eq (fun a ha => by rw [up_fI ha, up_fI ha]) rfl (fun q hq => ?_) ?_
    · rw [mj_up_ne2 (by decide), mj_up_eq]
    · rw [eP]
      dsimp only
      rw [if_neg (by omega), show ((o + 1) % 16 + q) % 16 = (o + (q + 1)) % 16 by omega]
      exact hp (q + 1) (by omega)
    · rw [eP]; exact if_pos rfl
  · have eP : hPush ps n A = fun t => if t = n then A else ps t := if_neg hn
    refine q_aload_n (pc' := 1) dX2_keep_0 rfl rfl (q_getIe (pc' := 4) dX2_keep_1 rfl fr_RX2_31 ⟨by omega, rfl⟩ rfl h4 (q_bipush (pc' := 6) _ dX2_keep_4 rfl kk_bipush_16 (q_icmp_ne (pc' := 9) (pt := 32) dX2_keep_6 rfl rfl (fun _ => ?_) (fun h9 => absurd h9 (nI_ne hn (by omega) (by omega))))))
    refine tail I o n ho (by omega) h3 h4 (fun _ _ => rfl) (if_neg hn).symm (fun q hq => ?_) ?_
    · rw [eP]
      dsimp only
      rw [if_neg (by omega)]
      exact hp q (by omega)
    · rw [eP]; exact if_pos rfl
end HIST
