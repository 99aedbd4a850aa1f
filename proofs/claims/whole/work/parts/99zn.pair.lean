/-! ===== class and reference side by side ===== -/
abbrev Ms : Type := St × St × (Nat → St) × Nat × Nat × (Nat → Nat) × Nat × (Nat → Option St) × Nat × Nat × Nat
/-- what the class holds -/
def CW (M : Ms) (I : mj_M) (J : mj_J) (R : mj_R) : Prop := match M with
  | (b, A, ps, n, u, T, t, bx, r, ft, fp) => (cB I b ∧ cN I J b ∧ cKw J) ∧ (cTp I T t ∧ I 0 1 = nI t) ∧ (∀ j, j < 2 → I 3 j = bI (bx j).isSome ∧ ∀ B, bx j = some B → cR I (19 + j) b B) ∧ (I 0 12 = nI r ∧ I 10 16 = nI ft ∧ I 10 17 = lD fp) ∧ ∃ c s, cH I R b ps n u A c s
/-- what the reference holds -/
def MW0 (I : mj_M) (J : mj_J) (b : St) (T : Nat → Nat) (t : Nat) (bx : Nat → Option St) (r ft fp : Nat) : Prop := mB I b ∧ mN I J b ∧ mX I bx ∧ mTp I T t ∧ I 452 44 = nI r ∧ I 452 10 = nI ft ∧ I 452 11 = lD fp
def MW (M : Ms) (I : mj_M) (J : mj_J) : Prop := match M with
  | (b, A, ps, n, u, T, t, bx, r, ft, fp) => MW0 I J b T t bx r ft fp ∧ rR (I 464) A ∧ mH I ps n u
/-- what holds of all states that are kept -/
def GM (m : Nat) (M : Ms) : Prop := match M with
  | (b, A, ps, n, u, T, t, bx, r, ft, fp) => bRd b ∧ gA b m A ∧ (∀ q, q < n + u → gA b m (ps q)) ∧ (∀ j, j < 2 → ∀ B, bx j = some B → gA b m B) ∧ n + u ≤ 16
def wR (R : mj_R) : Prop := wSt R ∧ mj_wM R
/-- class and reference answer alike, and hold the same then -/
def Pr (w : mj_Wd) (l : Launch) (m : Nat) (M : Ms) (yc : MethodName) (dc : mj_D) (ym : MethodName) (dm : mj_D) (As : List Value) : Prop := ∃ (y : Int32) (M' : Ms), GM (m + 200000) M' ∧ (∀ I J R, wR R → CW M I J R → MW M I J → RtI w l yc dc (.ref 0 :: As) (472, I, J, R) (fun x I' J' R' => x = y ∧ wR R' ∧ CW M' I' J' R' ∧ MW M I' J')) ∧ ∀ I J R, wR R → CW M' I J R → MW M I J → RtI w l ym dm (.ref 452 :: As) (472, I, J, R) (fun x I' J' R' => x = y ∧ wR R' ∧ CW M' I' J' R' ∧ MW M' I' J')
section PAIR
variable {w : mj_Wd} {l : Launch} {I I' : mj_M} {J J' : mj_J} {R R' : mj_R} {b A B A' : St} {ps : Nat → St} {n u t m r ft fp : Nat} {T : Nat → Nat} {bx : Nat → Option St} {M : Ms}
theorem rn_rt {y : MethodName} {d : mj_D} {As : List Value} {x : Int32} {z : Nat} (h : Rn w l y d As (z, I, J, R) (some (.int x)) (z, I', J, R)) : RsI w l y d As (z, I, J, R) (fun v I2 => v = x ∧ I2 = I') := by
  obtain ⟨_, hM⟩ := h
  have hM : Met l y (mj_ws y d) { frames := d.2.2.2.2.1, cells := z - z, slots := mj_sl z - mj_sl z, locals := 38 * d.2.2.2.2.1 } (mj_Pc w As (z, I, J, R)) (mj_Qc w (some (.int x)) (z, I', J, R)) (z - z) (mj_sl z - mj_sl z) (mj_A w) := hM
  rw [Nat.sub_self, Nat.sub_self] at hM
  intro p e ha hc hk s m9 args below hf happ hpre htr
  obtain ⟨k, o, h1, h2, h3, ⟨⟨⟨q1, q2⟩, q4⟩, q5⟩⟩ := hM p e ha hc hk s m9 args below hf happ hpre htr
  exact ⟨k, o, h1, h2, h3, ⟨⟨⟨some (.int x), I', J, R, q1, ⟨x, rfl, ⟨rfl, rfl⟩, rfl, rfl⟩, q2⟩, q4⟩, q5⟩⟩
/-- the class's side changes nothing of the reference's, and the other way round -/
theorem MW_lo (hI : ∀ a, 452 ≤ a → I' a = I a) (hJ : ∀ a, 452 ≤ a → J' a = J a) (h : MW M I J) : MW M I' J' := by
  obtain ⟨b, A, ps, n, u, T, t, bx, r, ft, fp⟩ := M
  obtain ⟨⟨h1, h2, h3, h4, h5⟩, h6, h7⟩ := h
  have e : I' 452 = I 452 := hI 452 (by decide)
  refine ⟨⟨?_, ?_, mX_of h3 (hI 470 (by decide)) (hI 471 (by decide)), ?_, ?_⟩, ?_, mH_of h7 (by rw [e]) (by rw [e]) (hI 466 (by decide))⟩
  · unfold mB
    rw [e, hI 457 (by decide), hI 458 (by decide), hI 459 (by decide)]
    exact h1
  · unfold mN
    rw [hI 461 (by decide), hJ 463 (by decide)]
    exact h2
  · unfold mTp
    rw [e, hI 453 (by decide)]
    exact h4
  · rw [e]; exact h5
  · rw [hI 464 (by decide)]; exact h6
theorem CW_hi (hI : ∀ a, a < 450 → I' a = I a) (hJ : ∀ a, a < 450 → J' a = J a) (h : CW M I J R) : CW M I' J' R := by
  obtain ⟨b, A, ps, n, u, T, t, bx, r, ft, fp⟩ := M
  obtain ⟨⟨h1, h2, h3⟩, ⟨h4, h5⟩, h6, h7, c, s, h8⟩ := h
  have e0 := hI 0 (by decide)
  refine ⟨⟨?_, ?_, cKw_F (hJ 11 (by decide)) h3⟩, ⟨⟨h4.1, fun k hk => ?_⟩, by rw [e0]; exact h5⟩, fun j hj => ⟨by rw [hI 3 (by decide)]; exact (h6 j hj).1, fun B hB => cR_F (fun e he => hI _ (by unfold sA; omega)) ((h6 j hj).2 B hB)⟩, ?_, c, s, cH_F h8 (fun a q1 q2 _ => hI a (by omega))⟩
  · unfold cB
    rw [hI 4 (by decide), hI 7 (by decide), hI 8 (by decide), hI 9 (by decide)]
    exact h1
  · unfold cN
    rw [hI 6 (by decide), hJ 5 (by decide)]
    exact h2
  · rw [hI 1 (by decide)]; exact h4.2 k hk
  · rw [e0, hI 10 (by decide)]; exact h7
/-- trial, survey and storm don't count -/
theorem CW_k (hI : ∀ a, (a < 390 ∨ 410 ≤ a) → a < 450 → I' a = I a) (h : CW M I J R) : CW M I' J R := by
  obtain ⟨b, A, ps, n, u, T, t, bx, r, ft, fp⟩ := M
  obtain ⟨⟨h1, h2, h3⟩, ⟨h4, h5⟩, h6, h7, c, s, h8⟩ := h
  have hl : ∀ a, a < 390 → I' a = I a := fun a ha => hI a (Or.inl ha) (by omega)
  have e0 := hl 0 (by decide)
  refine ⟨⟨?_, ?_, h3⟩, ⟨⟨h4.1, fun k hk => ?_⟩, by rw [e0]; exact h5⟩, fun j hj => ⟨by rw [hl 3 (by decide)]; exact (h6 j hj).1, fun B hB => cR_F (fun e he => hI _ (by unfold sA; omega) (by unfold sA; omega)) ((h6 j hj).2 B hB)⟩, ?_, c, s, cH_F h8 (fun a q1 q2 _ => hl a q2)⟩
  · unfold cB
    rw [hl 4 (by decide), hl 7 (by decide), hl 8 (by decide), hl 9 (by decide)]
    exact h1
  · unfold cN
    rw [hl 6 (by decide)]
    exact h2
  · rw [hl 1 (by decide)]; exact h4.2 k hk
  · rw [e0, hl 10 (by decide)]; exact h7
theorem MW0_G (h : mG I I') (h0 : MW0 I J b T t bx r ft fp) : MW0 I' J b T t bx r ft fp := by
  obtain ⟨h1, h2, h3, h4, h5, h6, h7⟩ := h0
  have g : ∀ a, a ≠ 464 → a ≠ 465 → a ≠ 466 → a ≠ 467 → a ≠ 452 → I' a = I a := h.1
  refine ⟨mB_G h h1, ?_, mX_of h3 (g 470 (by decide) (by decide) (by decide) (by decide) (by decide)) (g 471 (by decide) (by decide) (by decide) (by decide) (by decide)), ?_, ?_, ?_, ?_⟩
  · unfold mN
    rw [g 461 (by decide) (by decide) (by decide) (by decide) (by decide)]
    exact h2
  · unfold mTp
    rw [h.2 1 (by decide) (by decide), g 453 (by decide) (by decide) (by decide) (by decide) (by decide)]
    exact h4
  · rw [h.2 44 (by decide) (by decide)]; exact h5
  · rw [h.2 10 (by decide) (by decide)]; exact h6
  · rw [h.2 11 (by decide) (by decide)]; exact h7
/-- the reference's scratch: the row aside, what is tried, what clear found -/
def kM (I I' : mj_M) : Prop := (∀ a, a ≠ 452 → a ≠ 464 → a ≠ 465 → a ≠ 469 → I' a = I a) ∧ ∀ f, f ≠ 45 → f ≠ 46 → f ≠ 47 → I' 452 f = I 452 f
theorem MW_k (h : kM I I') (hR : rR (I' 464) A) (h0 : MW (b, A, ps, n, u, T, t, bx, r, ft, fp) I J) : MW (b, A, ps, n, u, T, t, bx, r, ft, fp) I' J := by
  obtain ⟨⟨h1, h2, h3, h4, h5, h6, h7⟩, h8, h9⟩ := h0
  have g := h.1
  have f := h.2
  refine ⟨⟨?_, ?_, mX_of h3 (g 470 (by decide) (by decide) (by decide) (by decide)) (g 471 (by decide) (by decide) (by decide) (by decide)), ?_, ?_, ?_, ?_⟩, hR, mH_of h9 (f 40 (by decide) (by decide) (by decide)) (f 41 (by decide) (by decide) (by decide)) (g 466 (by decide) (by decide) (by decide) (by decide))⟩
  · unfold mB
    rw [f 18 (by decide) (by decide) (by decide), f 19 (by decide) (by decide) (by decide), f 22 (by decide) (by decide) (by decide), g 457 (by decide) (by decide) (by decide) (by decide), g 458 (by decide) (by decide) (by decide) (by decide), g 459 (by decide) (by decide) (by decide) (by decide)]
    exact h1
  · unfold mN
    rw [g 461 (by decide) (by decide) (by decide) (by decide)]
    exact h2
  · unfold mTp
    rw [f 1 (by decide) (by decide) (by decide), g 453 (by decide) (by decide) (by decide) (by decide)]
    exact h4
  · rw [f 44 (by decide) (by decide) (by decide)]; exact h5
  · rw [f 10 (by decide) (by decide) (by decide)]; exact h6
  · rw [f 11 (by decide) (by decide) (by decide)]; exact h7
theorem kM.rf : kM I I := ⟨fun _ _ _ _ _ => rfl, fun _ _ _ _ => rfl⟩
theorem mK.k (h : mK I I') : kM I I' := ⟨fun a h1 _ _ _ => h.1 a h1, h.2⟩
theorem mT.k (h : mT I I') : kM I I' := ⟨fun a _ h1 h2 h3 => h a h1 h2 h3, fun f _ _ _ => by rw [h 452 (by decide) (by decide) (by decide)]⟩
theorem mF2.k (h : mF2 I I') : kM I I' := ⟨fun a _ h1 h2 _ => h a h1 h2, fun f _ _ _ => by rw [h 452 (by decide) (by decide)]⟩
theorem mF2_lo (h : kM I I') : ∀ a, a < 450 → I' a = I a := fun a ha => h.1 a (by omega) (by omega) (by omega) (by omega)
theorem wSt_h (h : mRh R R') (hW : wSt R) : wSt R' := ⟨wV_h h hW.1, wB_h h (by decide) (by decide) hW.2.1, wB_h h (by decide) (by decide) hW.2.2.1, fun i hi => wS_h h (hW.2.2.2 i hi)⟩
theorem wR_h (h : mRh R R') (hW : wR R) : wR R' := ⟨wSt_h h hW.1, wM_h h hW.2⟩
theorem GM_mono {m' : Nat} (h : m ≤ m') (hG : GM m M) : GM m' M := by
  obtain ⟨b, A, ps, n, u, T, t, bx, r, ft, fp⟩ := M
  obtain ⟨h1, h2, h3, h4, h5⟩ := hG
  exact ⟨h1, gA_mono h h2, fun q hq => gA_mono h (h3 q hq), fun j hj B hB => gA_mono h (h4 j hj B hB), h5⟩
theorem GM_push (hG : GM m (b, A, ps, n, u, T, t, bx, r, ft, fp)) (hA : gA b (m + 200000) A') : GM (m + 200000) (b, A', hPush ps n A, hN n, 0, T, t, bx, r, ft, fp) := by
  obtain ⟨h1, h2, h3, h4, h5⟩ := hG
  have hm : m ≤ m + 200000 := by omega
  refine ⟨h1, hA, fun q hq => ?_, fun j hj B hB => gA_mono hm (h4 j hj B hB), ?_⟩
  · unfold hN at hq
    unfold hPush
    by_cases e : n = 16
    · rw [if_pos e] at hq ⊢
      show gA b (m + 200000) (if q = 15 then A else ps (q + 1))
      split
      · exact gA_mono hm h2
      · exact gA_mono hm (h3 _ (by omega))
    · rw [if_neg e] at hq ⊢
      show gA b (m + 200000) (if q = n then A else ps q)
      split
      · exact gA_mono hm h2
      · exact gA_mono hm (h3 _ (by omega))
  · unfold hN
    split <;> omega
/-- only the history changes: the class holds what it held beside it -/
theorem CW_h (hF1 : hF I I') (h : CW (b, A, ps, n, u, T, t, bx, r, ft, fp) I J R) {A2 : St} {ps2 : Nat → St} {n2 u2 : Nat} (hc : ∃ c s, cH I' R' b ps2 n2 u2 A2 c s) : CW (b, A2, ps2, n2, u2, T, t, bx, r, ft, fp) I' J R' := by
  obtain ⟨⟨h1, h2, h3⟩, ⟨h4, h5⟩, h6, h7, _⟩ := h
  have hl : ∀ a, a < 28 → I' a = I a := fun a ha => hF1 a (Or.inl ha)
  have e0 := hl 0 (by decide)
  refine ⟨⟨?_, ?_, h3⟩, ⟨⟨h4.1, fun k hk => ?_⟩, by rw [e0]; exact h5⟩, fun j hj => ⟨by rw [hl 3 (by decide)]; exact (h6 j hj).1, fun B hB => cR_F (fun e he => hF1 _ (Or.inr (by unfold sA; omega))) ((h6 j hj).2 B hB)⟩, ?_, hc⟩
  · unfold cB
    rw [hl 4 (by decide), hl 7 (by decide), hl 8 (by decide), hl 9 (by decide)]
    exact h1
  · unfold cN
    rw [hl 6 (by decide)]
    exact h2
  · rw [hl 1 (by decide)]; exact h4.2 k hk
  · rw [e0, hl 10 (by decide)]; exact h7
theorem mG_lo (h : mG I I') : ∀ a, a < 450 → I' a = I a := fun a ha => h.1 a (by omega) (by omega) (by omega) (by omega) (by omega)
section PR
variable {yc ym : MethodName} {dc dm : mj_D} {As : List Value} {y : Int32}
theorem pr_act {k : Nat} (hG : GM m (b, A, ps, n, u, T, t, bx, r, ft, fp)) (hA : gA b (m + 200000) A')
    (hc : ∀ I J R c s, wSt R → cB I b → cH I R b ps n u A c s → RtI w l yc dc (.ref 0 :: As) (472, I, J, R) (aP I J R b A ps n u k A'))
    (hm : ∀ I J R, mj_wM R → mB I b → rR (I 464) A → mH I ps n u → RsI w l ym dm (.ref 452 :: As) (472, I, J, R) (mAct I ps n u A k A')) : Pr w l m (b, A, ps, n, u, T, t, bx, r, ft, fp) yc dc ym dm As := by
  refine ⟨nI k, (b, A', if k = 0 then hPush ps n A else ps, if k = 0 then hN n else n, if k = 0 then 0 else u, T, t, bx, r, ft, fp), ?_, fun I J R hW hC hM => ?_, fun I J R hW hC hM => ?_⟩
  · by_cases e : k = 0
    · rw [if_pos e, if_pos e, if_pos e]; exact GM_push hG hA
    · rw [if_neg e, if_neg e, if_neg e]
      obtain ⟨h1, h2, h3, h4, h5⟩ := GM_mono (m' := m + 200000) (by omega) hG
      exact ⟨h1, hA, h3, h4, h5⟩
  · have hC0 := hC
    obtain ⟨⟨h1, h2, h3⟩, _, _, _, c, s, h8⟩ := hC
    refine rt_weak (hc I J R c s hW.1 h1 h8) (fun v I2 J2 R2 ⟨x, e, q1, q2, q3, q4, q5⟩ => ⟨x, e, q1, wR_h q4 hW, ?_, MW_lo (fun a ha => q3 a (Or.inr (by omega))) (fun a _ => by rw [q2]) hM⟩)
    rw [q2]
    exact CW_h q3 hC0 q5
  · obtain ⟨m0, m1, m2⟩ := hM
    refine rt_weak (hm I J R hW.2 m0.1 m1 m2) (fun v I2 J2 R2 ⟨x, e, ⟨e1, e2⟩, q1, q2, q3, q4⟩ => ⟨x, e, q1, ?_, ?_, ?_⟩)
    · rw [show R2 = R from e2]; exact hW
    · rw [show R2 = R from e2]
      exact CW_hi (mG_lo q4) (fun a _ => by rw [show J2 = J from e1]) hC
    · rw [show J2 = J from e1]
      exact ⟨MW0_G q4 m0, q2, q3⟩
theorem pr_done (hG : GM m (b, A, ps, n, u, T, t, bx, r, ft, fp)) (hA : gA b (m + 200000) A')
    (hc : ∀ I J R c s, wSt R → cB I b → cH I R b ps n u A c s → RtI w l yc dc (.ref 0 :: As) (472, I, J, R) (dP I J R b A ps n y A'))
    (hm : ∀ I J R, mj_wM R → mB I b → rR (I 464) A → mH I ps n u → RsI w l ym dm (.ref 452 :: As) (472, I, J, R) (mDone I ps n A y A')) : Pr w l m (b, A, ps, n, u, T, t, bx, r, ft, fp) yc dc ym dm As := by
  refine ⟨y, (b, A', hPush ps n A, hN n, 0, T, t, bx, r, ft, fp), GM_push hG hA, fun I J R hW hC hM => ?_, fun I J R hW hC hM => ?_⟩
  · have hC0 := hC
    obtain ⟨⟨h1, h2, h3⟩, _, _, _, c, s, h8⟩ := hC
    refine rt_weak (hc I J R c s hW.1 h1 h8) (fun v I2 J2 R2 ⟨x, e, q1, q2, q3, q4, q5⟩ => ⟨x, e, q1, wR_h q4 hW, ?_, MW_lo (fun a ha => q3 a (Or.inr (by omega))) (fun a _ => by rw [q2]) hM⟩)
    rw [q2]
    exact CW_h q3 hC0 q5
  · obtain ⟨m0, m1, m2⟩ := hM
    refine rt_weak (hm I J R hW.2 m0.1 m1 m2) (fun v I2 J2 R2 ⟨x, e, ⟨e1, e2⟩, q1, q2, q3, q4⟩ => ⟨x, e, q1, ?_, ?_, ?_⟩)
    · rw [show R2 = R from e2]; exact hW
    · rw [show R2 = R from e2]
      exact CW_hi (mG_lo q4) (fun a _ => by rw [show J2 = J from e1]) hC
    · rw [show J2 = J from e1]
      exact ⟨MW0_G q4 m0, q2, q3⟩
/-- a question: nothing changes but trial, survey, storm; the reference's scratch -/
theorem pr_q (hG : GM m (b, A, ps, n, u, T, t, bx, r, ft, fp))
    (hc : ∀ I J R c s, wSt R → CW (b, A, ps, n, u, T, t, bx, r, ft, fp) I J R → c < 18 → R 28 0 = sA c 0 → cR I c b A → cB I b → cH I R b ps n u A c s → RsI w l yc dc (.ref 0 :: As) (472, I, J, R) (fun x I' => x = y ∧ ∀ a, (a < 390 ∨ 410 ≤ a) → a ≠ 450 → a ≠ 451 → I' a = I a))
    (hm : ∀ I J R, mj_wM R → MW (b, A, ps, n, u, T, t, bx, r, ft, fp) I J → mB I b → rR (I 464) A → RsI w l ym dm (.ref 452 :: As) (472, I, J, R) (fun x I' => x = y ∧ rR (I' 464) A ∧ kM I I')) : Pr w l m (b, A, ps, n, u, T, t, bx, r, ft, fp) yc dc ym dm As := by
  refine ⟨y, (b, A, ps, n, u, T, t, bx, r, ft, fp), GM_mono (by omega) hG, fun I J R hW hC hM => ?_, fun I J R hW hC hM => ?_⟩
  · have hC0 := hC
    obtain ⟨⟨h1, h2, h3⟩, _, _, _, c, s, h8⟩ := hC
    refine rt_weak (hc I J R c s hW.1 hC0 (cH_lt h8).1 (cH_now h8).1 (cH_now h8).2 h1 h8) (fun v I2 J2 R2 ⟨x, e, ⟨e1, e2⟩, q1, q2⟩ => ⟨x, e, q1, ?_, ?_, ?_⟩)
    · rw [show R2 = R from e2]; exact hW
    · rw [show R2 = R from e2, show J2 = J from e1]
      exact CW_k (fun a ha h4 => q2 a ha (by omega) (by omega)) hC0
    · exact MW_lo (fun a ha => q2 a (by omega) (by omega) (by omega)) (fun a _ => by rw [show J2 = J from e1]) hM
  · have hM0 := hM
    obtain ⟨m0, m1, m2⟩ := hM
    refine rt_weak (hm I J R hW.2 hM0 m0.1 m1) (fun v I2 J2 R2 ⟨x, e, ⟨e1, e2⟩, q1, q2, q3⟩ => ⟨x, e, q1, ?_, ?_, ?_⟩)
    · rw [show R2 = R from e2]; exact hW
    · rw [show R2 = R from e2]
      exact CW_hi (mF2_lo q3) (fun a _ => by rw [show J2 = J from e1]) hC
    · rw [show J2 = J from e1]
      exact MW_k q3 q2 hM0
/-- both answer at once, and nothing changes -/
theorem pr_n (hG : GM m (b, A, ps, n, u, T, t, bx, r, ft, fp))
    (hc : ∀ I J R c s, wSt R → CW (b, A, ps, n, u, T, t, bx, r, ft, fp) I J R → c < 18 → R 28 0 = sA c 0 → cR I c b A → cB I b → cH I R b ps n u A c s → Rn w l yc dc (.ref 0 :: As) (472, I, J, R) (some (.int y)) (472, I, J, R))
    (hm : ∀ I J R, mj_wM R → MW (b, A, ps, n, u, T, t, bx, r, ft, fp) I J → mB I b → rR (I 464) A → Rn w l ym dm (.ref 452 :: As) (472, I, J, R) (some (.int y)) (472, I, J, R)) : Pr w l m (b, A, ps, n, u, T, t, bx, r, ft, fp) yc dc ym dm As :=
  pr_q hG (fun I J R c s h1 h2 h3 h4 h5 h6 h7 => rt_weak (rn_rt (hc I J R c s h1 h2 h3 h4 h5 h6 h7)) (fun v I2 J2 R2 ⟨x, e, e2, q1, q2⟩ => ⟨x, e, e2, q1, fun a _ _ _ => by rw [q2]⟩)) (fun I J R h1 h2 h3 h4 => rt_weak (rn_rt (hm I J R h1 h2 h3 h4)) (fun v I2 J2 R2 ⟨x, e, e2, q1, q2⟩ => ⟨x, e, e2, q1, by rw [q2]; exact h4, by rw [q2]; exact kM.rf⟩))
end PR
end PAIR
