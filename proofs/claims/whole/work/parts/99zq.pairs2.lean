/-! ===== each call: tape, boxes, taking back, texts ===== -/
section PAIRS2
variable {w : mj_Wd} {l : Launch} {I I' : mj_M} {J J' : mj_J} {R R' : mj_R} {b A B A' : St} {ps : Nat → St} {n u t m r ft fp : Nat} {T : Nat → Nat} {bx : Nat → Option St} {M : Ms}
theorem CW_t {T2 : Nat → Nat} {t2 : Nat} (f : tF0 I I') (hT : cTt I' T2 t2) (h : CW (b, A, ps, n, u, T, t, bx, r, ft, fp) I J R) : CW (b, A, ps, n, u, T2, t2, bx, r, ft, fp) I' J R := by
  obtain ⟨⟨h1, h2, h3⟩, _, h6, h7, c, s, h8⟩ := h
  have hl : ∀ a, 2 ≤ a → I' a = I a := fun a ha => f.1 a (by omega) (by omega)
  refine ⟨⟨?_, ?_, h3⟩, hT, fun j hj => ⟨by rw [hl 3 (by decide)]; exact (h6 j hj).1, fun B hB => cR_F (fun e he => hl _ (by unfold sA; omega)) ((h6 j hj).2 B hB)⟩, ?_, c, s, cH_F h8 (fun a q1 q2 _ => hl a (by omega))⟩
  · unfold cB
    rw [hl 4 (by decide), hl 7 (by decide), hl 8 (by decide), hl 9 (by decide)]
    exact h1
  · unfold cN
    rw [hl 6 (by decide)]
    exact h2
  · rw [f.2 12 (by decide), hl 10 (by decide)]; exact h7
theorem MW_t {T2 : Nat → Nat} {t2 : Nat} (f : mTf I I') (hT : mTp I' T2 t2) (h : MW (b, A, ps, n, u, T, t, bx, r, ft, fp) I J) : MW (b, A, ps, n, u, T2, t2, bx, r, ft, fp) I' J := by
  obtain ⟨⟨h1, h2, h3, h4, h5, h6, h7⟩, h8, h9⟩ := h
  have g := f.1
  have f := f.2
  refine ⟨⟨?_, ?_, mX_of h3 (g 470 (by decide) (by decide)) (g 471 (by decide) (by decide)), hT, ?_, ?_, ?_⟩, ?_, mH_of h9 (f 40 (by decide)) (f 41 (by decide)) (g 466 (by decide) (by decide))⟩
  · unfold mB
    rw [f 18 (by decide), f 19 (by decide), f 22 (by decide), g 457 (by decide) (by decide), g 458 (by decide) (by decide), g 459 (by decide) (by decide)]
    exact h1
  · unfold mN
    rw [g 461 (by decide) (by decide)]
    exact h2
  · rw [f 44 (by decide)]; exact h5
  · rw [f 10 (by decide)]; exact h6
  · rw [f 11 (by decide)]; exact h7
  · rw [g 464 (by decide) (by decide)]; exact h8
/-- a tape is never longer than 800 -/
theorem pr_800 {yc ym : MethodName} {dc dm : mj_D} {As : List Value} (hG : GM m (b, A, ps, n, u, T, t, bx, r, ft, fp)) (h : t ≤ 800 → Pr w l m (b, A, ps, n, u, T, t, bx, r, ft, fp) yc dc ym dm As) : Pr w l m (b, A, ps, n, u, T, t, bx, r, ft, fp) yc dc ym dm As := by
  by_cases h8 : t ≤ 800
  · exact h h8
  · exact ⟨0, (b, A, ps, n, u, T, t, bx, r, ft, fp), GM_mono (by omega) hG, fun I J R _ hC _ => absurd hC.2.1.1.1 h8, fun I J R _ _ hM => absurd hM.1.2.2.2.1.2.1 h8⟩
theorem GM_t {T2 : Nat → Nat} {t2 r2 ft2 fp2 : Nat} (hG : GM m (b, A, ps, n, u, T, t, bx, r, ft, fp)) : GM (m + 200000) (b, A, ps, n, u, T2, t2, bx, r2, ft2, fp2) := by
  obtain ⟨h1, h2, h3, h4, h5⟩ := GM_mono (m' := m + 200000) (by omega) hG
  exact ⟨h1, h2, h3, h4, h5⟩
theorem pr_tape {yc ym : MethodName} {dc dm : mj_D} {As : List Value} {y : Int32} {T2 : Nat → Nat} {t2 : Nat} (hG : GM m (b, A, ps, n, u, T, t, bx, r, ft, fp))
    (hc : ∀ I J R, wSt R → cTt I T t → RsI w l yc dc (.ref 0 :: As) (472, I, J, R) (fun x I' => x = y ∧ cTt I' T2 t2 ∧ tF0 I I'))
    (hm : ∀ I J R, mj_wM R → mTp I T t → RsI w l ym dm (.ref 452 :: As) (472, I, J, R) (fun x I' => x = y ∧ mTp I' T2 t2 ∧ mTf I I')) : Pr w l m (b, A, ps, n, u, T, t, bx, r, ft, fp) yc dc ym dm As := by
  refine ⟨y, (b, A, ps, n, u, T2, t2, bx, r, ft, fp), GM_t hG, fun I J R hW hC hM => ?_, fun I J R hW hC hM => ?_⟩
  · refine rt_weak (hc I J R hW.1 hC.2.1) (fun v I2 J2 R2 ⟨x, e, ⟨e1, e2⟩, q1, q2, q3⟩ => ⟨x, e, q1, ?_, ?_, ?_⟩)
    · rw [show R2 = R from e2]; exact hW
    · rw [show R2 = R from e2, show J2 = J from e1]
      exact CW_t q3 q2 hC
    · exact MW_lo (fun a ha => q3.1 a (by omega) (by omega)) (fun a _ => by rw [show J2 = J from e1]) hM
  · refine rt_weak (hm I J R hW.2 hM.1.2.2.2.1) (fun v I2 J2 R2 ⟨x, e, ⟨e1, e2⟩, q1, q2, q3⟩ => ⟨x, e, q1, ?_, ?_, ?_⟩)
    · rw [show R2 = R from e2]; exact hW
    · rw [show R2 = R from e2]
      exact CW_hi (fun a ha => q3.1 a (by omega) (by omega)) (fun a _ => by rw [show J2 = J from e1]) hC
    · rw [show J2 = J from e1]
      exact MW_t q3 q2 hM
theorem pr_feed {v1 v2 v3 v4 v5 : Int32} (hG : GM m M) : Pr w l m M yX10_feed dd_X10_feed yX11_feed dd_X11_feed [.int v1, .int v2, .int v3, .int v4, .int v5] := by
  obtain ⟨b, A, ps, n, u, T, t, bx, r, ft, fp⟩ := M
  by_cases h : t + 20 ≤ 800
  · exact pr_tape hG (fun I J R h1 h2 => rs_X10_feed h1.1 h2 h) (fun I J R h1 h2 => rs_X11_feed h1 h2 h)
  · exact pr_n hG (fun I J R c s _ h2 _ _ _ _ _ => rn_X10_feed0 h2.2.1 h) (fun I J R _ h2 _ _ => rn_X11_feed0 h2.1.2.2.2.1 h)
theorem pr_end {x : Int32} (hG : GM m M) : Pr w l m M yX10_end dd_X10_end yX11_end dd_X11_end [.int x] := by
  obtain ⟨b, A, ps, n, u, T, t, bx, r, ft, fp⟩ := M
  refine pr_800 hG (fun h8 => ?_)
  by_cases h : inN x (t + 1) = true
  · obtain ⟨k, hk, rfl⟩ := (inN_iff (by omega)).mp h
    exact pr_tape (T2 := T) (t2 := k) hG (fun I J R h1 h2 => rt_weak (rn_rt (rn_X10_end h2.2 h8 (by omega))) (fun v I2 J2 R2 ⟨x, e, e2, q1, q2⟩ => ⟨x, e, e2, q1, by rw [q2]; exact ⟨⟨by omega, fun q hq => by rw [up_fI (show (1:Nat) ≠ 0 by decide)]; exact h2.1.2 q (by omega)⟩, mj_up_eq⟩, by rw [q2]; exact ⟨fun a h0 _ => up_fI h0, fun f hf => mj_up_ne2 hf⟩⟩)) (fun I J R h1 h2 => rs_X11_end h2 (by omega))
  · have hf := Bool.eq_false_iff.mpr h
    exact pr_n hG (fun I J R c s _ h2 _ _ _ _ _ => rn_X10_end0 h2.2.1.2 h8 hf) (fun I J R _ h2 _ _ => rn_X11_end0 h2.1.2.2.2.1 hf)
theorem pr_undo (hG : GM m M) : Pr w l m M yX10_undo dd_X10_undo yX11_undo dd_X11_undo [] := by
  obtain ⟨b, A, ps, n, u, T, t, bx, r, ft, fp⟩ := M
  refine ⟨bI (n != 0), (b, if n = 0 then A else ps (n - 1), if n = 0 then ps else hSet ps (n - 1) A, n - 1, if n = 0 then u else u + 1, T, t, bx, r, ft, fp), ?_, fun I J R hW hC hM => ?_, fun I J R hW hC hM => ?_⟩
  · obtain ⟨h1, h2, h3, h4, h5⟩ := GM_mono (m' := m + 200000) (by omega) hG
    by_cases e : n = 0
    · rw [if_pos e, if_pos e, if_pos e]
      exact ⟨h1, h2, fun q hq => h3 q (by omega), h4, by omega⟩
    · rw [if_neg e, if_neg e, if_neg e]
      refine ⟨h1, h3 _ (by omega), fun q hq => ?_, h4, by omega⟩
      show gA b (m + 200000) (if q = n - 1 then A else ps q)
      split
      · exact h2
      · exact h3 q (by omega)
  · have hC0 := hC
    obtain ⟨_, _, _, _, c, s, h8⟩ := hC
    refine rt_weak (rt_X10_undo hW.1 h8) (fun v I2 J2 R2 ⟨x, e, q1, q2, q3, q4, c', q5⟩ => ⟨x, e, q1, wR_h q4 hW, ?_, MW_lo (fun a ha => q3 a (by omega)) (fun a _ => by rw [q2]) hM⟩)
    rw [q2]
    exact CW_h (fun a ha => q3 a (by omega)) hC0 ⟨c', s, q5⟩
  · obtain ⟨m0, m1, m2⟩ := hM
    refine rt_weak (rs_X11_undo hW.2 m1 m2) (fun v I2 J2 R2 ⟨x, e, ⟨e1, e2⟩, q1, q2, q3, q4⟩ => ⟨x, e, q1, ?_, ?_, ?_⟩)
    · rw [show R2 = R from e2]; exact hW
    · rw [show R2 = R from e2]
      exact CW_hi (mG_lo q4) (fun a _ => by rw [show J2 = J from e1]) hC
    · rw [show J2 = J from e1]
      exact ⟨MW0_G q4 m0, q2, q3⟩
theorem pr_redo (hG : GM m M) : Pr w l m M yX10_redo dd_X10_redo yX11_redo dd_X11_redo [] := by
  obtain ⟨b, A, ps, n, u, T, t, bx, r, ft, fp⟩ := M
  refine ⟨bI (u != 0), (b, if u = 0 then A else ps n, if u = 0 then ps else hSet ps n A, if u = 0 then n else n + 1, u - 1, T, t, bx, r, ft, fp), ?_, fun I J R hW hC hM => ?_, fun I J R hW hC hM => ?_⟩
  · obtain ⟨h1, h2, h3, h4, h5⟩ := GM_mono (m' := m + 200000) (by omega) hG
    by_cases e : u = 0
    · rw [if_pos e, if_pos e, if_pos e]
      exact ⟨h1, h2, fun q hq => h3 q (by omega), h4, by omega⟩
    · rw [if_neg e, if_neg e, if_neg e]
      refine ⟨h1, h3 _ (by omega), fun q hq => ?_, h4, by omega⟩
      show gA b (m + 200000) (if q = n then A else ps q)
      split
      · exact h2
      · exact h3 q (by omega)
  · have hC0 := hC
    obtain ⟨_, _, _, _, c, s, h8⟩ := hC
    refine rt_weak (rt_X10_redo hW.1 h8) (fun v I2 J2 R2 ⟨x, e, q1, q2, q3, q4, c', q5⟩ => ⟨x, e, q1, wR_h q4 hW, ?_, MW_lo (fun a ha => q3 a (by omega)) (fun a _ => by rw [q2]) hM⟩)
    rw [q2]
    exact CW_h (fun a ha => q3 a (by omega)) hC0 ⟨c', s, q5⟩
  · obtain ⟨m0, m1, m2⟩ := hM
    refine rt_weak (rs_X11_redo hW.2 m1 m2) (fun v I2 J2 R2 ⟨x, e, ⟨e1, e2⟩, q1, q2, q3, q4⟩ => ⟨x, e, q1, ?_, ?_, ?_⟩)
    · rw [show R2 = R from e2]; exact hW
    · rw [show R2 = R from e2]
      exact CW_hi (mG_lo q4) (fun a _ => by rw [show J2 = J from e1]) hC
    · rw [show J2 = J from e1]
      exact ⟨MW0_G q4 m0, q2, q3⟩
theorem pr_image {x : Int32} (hG : GM m M) : Pr w l m M yX10_image dd_X10_image yX11_image dd_X11_image [.int x] := by
  obtain ⟨b, A, ps, n, u, T, t, bx, r, ft, fp⟩ := M
  by_cases h : inN x 2 = true
  · obtain ⟨j, hj, rfl⟩ := (inN_iff (by decide)).mp h
    have hG0 := hG
    obtain ⟨hR, hA, hps, hbx, hnu⟩ := hG
    have hk := hR.1
    refine ⟨nI (aHeld b A), (b, A, ps, n, u, T, t, fun i => if i = j then some A else bx i, r, ft, fp), ?_, fun I J R hW hC hM => ?_, fun I J R hW hC hM => ?_⟩
    · obtain ⟨g1, g2, g3, g4, g5⟩ := GM_mono (m' := m + 200000) (by omega) hG0
      refine ⟨g1, g2, g3, fun q hq B hB => ?_, g5⟩
      have hB : (if q = j then some A else bx q) = some B := hB
      by_cases e : q = j
      · rw [if_pos e] at hB
        rw [← Option.some.inj hB]
        exact g2
      · rw [if_neg e] at hB
        exact g4 q hq B hB
    · have hC0 := hC
      obtain ⟨⟨h1, h2, h3⟩, ⟨h4, h5⟩, h6, h7, c, s, h8⟩ := hC
      refine rt_weak (rs_X10_image hW.1 h1 hk (cH_lt h8).1 (cH_now h8).1 (cH_now h8).2 (h01_of hk hA.1.1) hj) (fun v I2 J2 R2 ⟨x, e, ⟨e1, e2⟩, q1, q2, q3, q4, q5⟩ => ⟨x, e, q1, ?_, ?_, ?_⟩)
      · rw [show R2 = R from e2]; exact hW
      · rw [show R2 = R from e2, show J2 = J from e1]
        have hl : ∀ a, a ≠ 3 → a < 410 → I2 a = I a := fun a ha h9 => q5 a ha (fun e he => by unfold sA; omega)
        refine ⟨⟨?_, ?_, h3⟩, ⟨⟨h4.1, fun k hk => ?_⟩, by rw [hl 0 (by decide) (by decide)]; exact h5⟩, fun i hi => ?_, ?_, c, s, cH_F h8 (fun a q1 q2 _ => hl a (by omega) (by omega))⟩
        · unfold cB
          rw [hl 4 (by decide) (by decide), hl 7 (by decide) (by decide), hl 8 (by decide) (by decide), hl 9 (by decide) (by decide)]
          exact h1
        · unfold cN
          rw [hl 6 (by decide) (by decide)]
          exact h2
        · rw [hl 1 (by decide) (by decide)]; exact h4.2 k hk
        · show I2 3 i = bI (if i = j then some A else bx i).isSome ∧ ∀ B, (if i = j then some A else bx i) = some B → cR I2 (19 + i) b B
          by_cases ei : i = j
          · subst ei
            rw [if_pos rfl]
            exact ⟨q3, fun B hB => by rw [← Option.some.inj hB]; exact q2⟩
          · rw [if_neg ei, q4 i ei]
            exact ⟨(h6 i hi).1, fun B hB => cR_F (fun e he => q5 _ (by unfold sA; omega) (fun e2 he2 => sA_o (by omega) he he2)) ((h6 i hi).2 B hB)⟩
        · rw [hl 0 (by decide) (by decide), hl 10 (by decide) (by decide)]; exact h7
      · exact MW_lo (fun a ha => q5 a (by omega) (fun e he => by unfold sA; omega)) (fun a _ => by rw [show J2 = J from e1]) hM
    · obtain ⟨⟨m1, m2, m3, m4, m5, m6, m7⟩, m8, m9⟩ := hM
      refine rt_weak (rs_X11_image hW.2 m1 hk m8 (gC_aOK hk hA.1.1) m3 hj) (fun v I2 J2 R2 ⟨x, e, ⟨e1, e2⟩, q1, q2, q3⟩ => ⟨x, e, q1, ?_, ?_, ?_⟩)
      · rw [show R2 = R from e2]; exact hW
      · rw [show R2 = R from e2]
        exact CW_hi (fun a ha => q3 a (by omega) (by omega)) (fun a _ => by rw [show J2 = J from e1]) hC
      · rw [show J2 = J from e1]
        have g := q3
        have e452 := g 452 (by decide) (by decide)
        refine ⟨⟨?_, ?_, q2, ?_, ?_⟩, ?_, mH_of m9 (by rw [e452]) (by rw [e452]) (g 466 (by decide) (by decide))⟩
        · unfold mB
          rw [e452, g 457 (by decide) (by decide), g 458 (by decide) (by decide), g 459 (by decide) (by decide)]
          exact m1
        · unfold mN
          rw [g 461 (by decide) (by decide)]
          exact m2
        · unfold mTp
          rw [e452, g 453 (by decide) (by decide)]
          exact m4
        · rw [e452]; exact ⟨m5, m6, m7⟩
        · rw [g 464 (by decide) (by decide)]; exact m8
  · have hf := Bool.eq_false_iff.mpr h
    exact pr_n hG (fun I J R c s _ _ _ _ _ _ _ => rn_X10_image0 hf) (fun I J R _ _ _ _ => rn_X11_image0 hf)
theorem pr_back {x : Int32} (hG : GM m M) : Pr w l m M yX10_back dd_X10_back yX11_back dd_X11_back [.int x] := by
  obtain ⟨b, A, ps, n, u, T, t, bx, r, ft, fp⟩ := M
  by_cases h : ∃ j, j < 2 ∧ x = nI j ∧ (bx j).isSome = true
  · obtain ⟨j, hj, rfl, hs⟩ := h
    obtain ⟨B, hs⟩ := Option.isSome_iff_exists.mp hs
    have hG0 := hG
    obtain ⟨hR, hA, hps, hbx, hnu⟩ := hG
    have hk := hR.1
    have hB := hbx j hj B hs
    refine ⟨nI (aHeld b B), (b, B, ps, 0, 0, T, t, bx, r, ft, fp), ?_, fun I J R hW hC hM => ?_, fun I J R hW hC hM => ?_⟩
    · obtain ⟨g1, g2, g3, g4, g5⟩ := GM_mono (m' := m + 200000) (by omega) hG0
      exact ⟨g1, g4 j hj B hs, fun q hq => absurd hq (Nat.not_lt_zero _), g4, by decide⟩
    · have hC0 := hC
      obtain ⟨⟨h1, h2, h3⟩, _, h6, _, c, s, h8⟩ := hC
      refine rt_weak (rs_X10_back hW.1 h1 hk h8 ((h6 j hj).2 B hs) (h01_of hk hB.1.1) (by rw [(h6 j hj).1, hs]; rfl) hj) (fun v I2 J2 R2 ⟨x, e, ⟨e1, e2⟩, q1, q2, q3⟩ => ⟨x, e, q1, ?_, ?_, ?_⟩)
      · rw [show R2 = R from e2]; exact hW
      · rw [show R2 = R from e2, show J2 = J from e1]
        exact CW_h q3 hC0 ⟨c, s, q2⟩
      · exact MW_lo (fun a ha => q3 a (Or.inr (by omega))) (fun a _ => by rw [show J2 = J from e1]) hM
    · obtain ⟨m0, m1, m2⟩ := hM
      refine rt_weak (rs_X11_back (ps := ps) hW.2 m0.1 hk (gC_aOK hk hB.1.1) m0.2.2.1 hj hs) (fun v I2 J2 R2 ⟨x, e, ⟨e1, e2⟩, q1, q2, q3, q4⟩ => ⟨x, e, q1, ?_, ?_, ?_⟩)
      · rw [show R2 = R from e2]; exact hW
      · rw [show R2 = R from e2]
        exact CW_hi (mG_lo q4) (fun a _ => by rw [show J2 = J from e1]) hC
      · rw [show J2 = J from e1]
        exact ⟨MW0_G q4 m0, q2, q3⟩
  · have hf : ∀ j, j < 2 → x = nI j → bx j = none := fun j hj e => by
      cases hs : bx j with
      | none => rfl
      | some B => exact absurd ⟨j, hj, e, by rw [hs]; rfl⟩ h
    exact pr_n hG (fun I J R c s h1 h2 _ _ _ _ _ => rn_X10_back0 h1.1 (fun j hj => (h2.2.2.1 j hj).1) hf) (fun I J R h1 h2 _ _ => rn_X11_back0 h1 h2.1.2.2.1 hf)
/-- what the text of a board gives is a board -/
theorem kBd_ok {sz : Nat} : ∀ f D K, kOK sz K → K 8 = 0 → bDr D → ∀ K2 D2, kBd T sz f D K = (K2, D2) → K2 8 = 0 → bRd D2 := by
  intro f
  induction f with
  | zero => intro D K _ _ hD K2 D2 he _; injection he with e1 e2; rw [← e2]; exact hD.1
  | succ f ih =>
    intro D K hk g hD K2 D2 he g2
    unfold kBd at he
    by_cases g5 : K 5 = 0
    · rw [if_neg (fun q => q.2 g5)] at he
      injection he with e1 e2; rw [← e2]; exact hD.1
    · rw [if_pos ⟨g, g5⟩] at he
      by_cases gg : (kLine T sz D K).1 8 = 0
      · exact ih _ _ (kOK_sg (kOK_ln hk)) gg (line_ok hk hD gg).1 K2 D2 he g2
      · rw [kBd_bad gg] at he
        injection he with e1 e2
        rw [← e1] at g2
        exact absurd g2 gg
/-- what the text of orders gives are orders, 160 at most -/
theorem kOrs_ok {sz : Nat} (hB : bOK b) (h8 : sz ≤ 800) : ∀ f n O K, kOK sz K → K 8 = 0 → kTk K → 5 * n ≤ K 4 → (∀ i, i < n → oOK b (O i)) → ∀ K2 N O2, kOrs T sz b f n O K = (K2, N, O2) → K2 8 = 0 → N ≤ 160 ∧ ∀ i, i < N → oOK b (O2 i) := by
  intro f
  induction f with
  | zero =>
    intro n O K hk g _ h5 hO K2 N O2 he _
    have b4 := hk.2.2.2.2.2.2
    injection he with e1 e2
    injection e2 with e2 e3
    rw [← e2, ← e3]
    exact ⟨by omega, hO⟩
  | succ f ih =>
    intro n O K hk g ht h5 hO K2 N O2 he g2
    have b4 := hk.2.2.2.2.2.2
    unfold kOrs at he
    by_cases g5 : K 5 = 0
    · rw [if_neg (fun q => q.2 g5)] at he
      injection he with e1 e2
      injection e2 with e2 e3
      rw [← e2, ← e3]
      exact ⟨by omega, hO⟩
    · rw [if_pos ⟨g, g5⟩] at he
      by_cases gg : (kOrd T sz b K).1 8 = 0
      · obtain ⟨k1, k2, k3, k4⟩ := ord_ok hB hk gg
        have k5 := k3 ht
        refine ih _ _ _ (kOK_ord hk) gg k4 (by omega) (fun i hi => ?_) K2 N O2 he g2
        show oOK b (if i = n then (kOrd T sz b K).2 else O i)
        by_cases ei : i = n
        · rw [if_pos ei]; exact k2
        · rw [if_neg ei]; exact hO i (by omega)
      · rw [kOrs_bad gg] at he
        injection he with e1 e2
        rw [← e1] at g2
        exact absurd g2 gg
theorem gA_ors {O : St} {N : Nat} (hk : bOK b) (h11 : ∀ d, d < b 0 2 → b 1 d = 1 → b 2 d = 1) (hO : ∀ i, i < N → oOK b (O i)) : ∀ f i m A, i + f = N → gA b m A → gA b (m + 800 * f) (aOrs b O f i A).2.2 := by
  intro f
  induction f with
  | zero => intro i m A _ hA; exact hA
  | succ f ih =>
    intro i m A hi hA
    have h1 := gA_ord hk h11 hA (hO i (by omega))
    unfold aOrs
    split
    · exact gA_mono (by omega) (ih (i + 1) (m + 800) _ (by omega) h1)
    · exact gA_mono (by omega) h1
theorem lD_if {k : Nat} : (if k = 0 then (-1 : Int32) else nI (k - 1)) = lD k := rfl
theorem pr_board (hG : GM m M) : Pr w l m M yX10_board dd_X10_board yX11_board dd_X11_board [] := by
  obtain ⟨b, A, ps, n, u, T, t, bx, r, ft, fp⟩ := M
  have hG0 := hG
  obtain ⟨hR, hA, hps, hbx, hnu⟩ := hG
  have hk := hR.1
  cases eD : kBoard T t with
  | mk K D =>
  have hmb : ∀ I J R, mj_wM R → mTp I T t → _ := fun I J R h1 h2 => rt_X11_boardF (w := w) (l := l) (I := I) (J := J) (R := R) h1 h2
  rw [eD] at hmb
  have hD : K 8 = 0 → bRd D := fun g => kBd_ok 802 bD0 (tk0 T t) kOK_0 tk8 bD0_ok K D eD g
  by_cases g : K 8 = 0
  · refine ⟨nI (D 0 2), (D, aNew D, ps, 0, 0, T, 0, fun _ => none, 0, K 8, K 9), ?_, fun I J R hW hC hM => ?_, fun I J R hW hC hM => ?_⟩
    · exact ⟨hD g, gA_new (hD g) _, fun q hq => absurd hq (Nat.not_lt_zero _), fun j _ B hB => (by cases hB), by decide⟩
    · obtain ⟨⟨h1, h2, h3⟩, ⟨h4, h5⟩, h6, h7, c, s, h8⟩ := hC
      refine rt_weak (rt_X10_board eD hW.1 h3 h4 h5 h8 (fun k hk2 => (h01_of hk hA.1.1 k hk2).2)) (fun v I2 J2 R2 ⟨x, e, q1, q2, q3, q4, q5⟩ => ?_)
      rcases q5 with ⟨q5, -⟩ | ⟨-, q6, -, q7, q8, q9, q10, q11, q12⟩
      · exact absurd g q5
      · refine ⟨x, e, q6, by rw [q1]; exact hW, ⟨⟨q7, q8, q4⟩, ⟨⟨Nat.zero_le _, fun k hk => absurd hk (Nat.not_lt_zero _)⟩, q3⟩, fun j hj => ⟨q10 j hj, fun B hB => by cases hB⟩, ⟨q9, q2⟩, c, s, by rw [q1]; exact q11⟩, MW_lo (fun a ha => (q12 a (by omega)).1) (fun a ha => (q12 a (by omega)).2) hM⟩
    · refine rt_weak (hmb I J R hW.2 hM.1.2.2.2.1) (fun v I2 J2 R2 ⟨x, e, ⟨q1, q2, q3, q4⟩, q5⟩ => ?_)
      rcases q5 with ⟨q5, -⟩ | ⟨-, q6, -, q7, q8⟩
      · exact absurd g q5
      · obtain ⟨n1, n2, -, n4, ⟨n5, n6, n7⟩, n8⟩ := q7
        refine ⟨x, e, q6, by rw [q1]; exact hW, ?_, ⟨⟨n1, n2, fun j hj => ⟨n8 j hj, fun B hB => by cases hB⟩, ⟨q2, Nat.zero_le _, fun k hk => absurd hk (Nat.not_lt_zero _)⟩, n7, q3, q4⟩, n4, ⟨n5, n6, by decide, fun q hq => absurd hq (Nat.not_lt_zero _)⟩⟩⟩
        rw [q1]
        exact CW_hi (fun a ha => (q8 a (by omega)).1) (fun a ha => (q8 a (by omega)).2) hC
  · refine ⟨-1, (b, A, ps, n, u, T, 0, bx, r, K 8, K 9), GM_t hG0, fun I J R hW hC hM => ?_, fun I J R hW hC hM => ?_⟩
    · obtain ⟨⟨h1, h2, h3⟩, ⟨h4, h5⟩, h6, h7, c, s, h8⟩ := hC
      refine rt_weak (rt_X10_board eD hW.1 h3 h4 h5 h8 (fun k hk2 => (h01_of hk hA.1.1 k hk2).2)) (fun v I2 J2 R2 ⟨x, e, q1, q2, q3, q4, q5⟩ => ?_)
      rcases q5 with ⟨-, q6, q7⟩ | ⟨q5, -⟩
      · obtain ⟨f1, f2, f3⟩ := q7
        have hl : ∀ a, a ≠ 0 → (a < 10 ∨ 22 < a) → I2 a = I a := fun a h0 ha => f1 a h0 (by omega)
        refine ⟨x, e, q6, by rw [q1]; exact hW, ⟨⟨?_, ?_, q4⟩, ⟨⟨Nat.zero_le _, fun k hk => absurd hk (Nat.not_lt_zero _)⟩, q3⟩, fun j hj => ⟨by rw [hl 3 (by decide) (by decide)]; exact (h6 j hj).1, fun B hB => cR_F (fun e he => hl _ (by unfold sA; omega) (by unfold sA; omega)) ((h6 j hj).2 B hB)⟩, ⟨by rw [f2 12 (by decide)]; exact h7.1, q2⟩, c, s, by rw [q1]; exact cH_F h8 (fun a q1 q2 _ => hl a (by omega) (by omega))⟩, MW_lo (fun a ha => hl a (by omega) (by omega)) (fun a ha => f3 a (by omega) (by omega) (by omega)) hM⟩
        · unfold cB
          rw [hl 4 (by decide) (by decide), hl 7 (by decide) (by decide), hl 8 (by decide) (by decide), hl 9 (by decide) (by decide)]
          exact h1
        · unfold cN
          rw [hl 6 (by decide) (by decide), f3 5 (by decide) (by decide) (by decide)]
          exact h2
      · exact absurd q5 g
    · obtain ⟨⟨m1, m2, m3, m4, m5, m6, m7⟩, m8, m9⟩ := hM
      refine rt_weak (hmb I J R hW.2 m4) (fun v I2 J2 R2 ⟨x, e, ⟨q1, q2, q3, q4⟩, q5⟩ => ?_)
      rcases q5 with ⟨-, q6, f1, f2, f3⟩ | ⟨q5, -⟩
      · have gg : ∀ a, a ≠ 452 → (a < 454 ∨ (456 < a ∧ a < 460) ∨ 460 < a) → I2 a = I a := fun a h0 ha => f1 a h0 (by omega) (by omega) (by omega) (by omega)
        refine ⟨x, e, q6, by rw [q1]; exact hW, ?_, ⟨⟨?_, ?_, mX_of m3 (gg 470 (by decide) (by decide)) (gg 471 (by decide) (by decide)), ⟨q2, Nat.zero_le _, fun k hk => absurd hk (Nat.not_lt_zero _)⟩, ?_, q3, q4⟩, ?_, mH_of m9 (f2 40 (by decide)) (f2 41 (by decide)) (gg 466 (by decide) (by decide))⟩⟩
        · rw [q1]
          exact CW_hi (fun a ha => gg a (by omega) (by omega)) (fun a ha => by funext k; exact f3 a k (by omega) (by omega)) hC
        · unfold mB
          rw [f2 18 (by decide), f2 19 (by decide), f2 22 (by decide), gg 457 (by decide) (by decide), gg 458 (by decide) (by decide), gg 459 (by decide) (by decide)]
          exact m1
        · intro d hd
          rw [gg 461 (by decide) (by decide), f3 463 d (by omega) (by omega)]
          exact m2 d hd
        · rw [f2 44 (by decide)]; exact m5
        · rw [gg 464 (by decide) (by decide)]; exact m8
      · exact absurd q5 g
theorem pr_orders (hG : GM m M) (hm : m + 200000 < 2 ^ 31) : Pr w l m M yX10_orders dd_X10_orders yX11_orders dd_X11_orders [] := by
  obtain ⟨b, A, ps, n, u, T, t, bx, r, ft, fp⟩ := M
  refine pr_800 hG (fun h800 => ?_)
  have hG0 := hG
  obtain ⟨hR, hA, hps, hbx, hnu⟩ := hG
  have hk := hR.1
  have h11 : ∀ d, d < b 0 2 → b 1 d = 1 → b 2 d = 1 := fun d hd => (hR.2.2.2.1 d hd).2.1
  cases eO : kOrders T t b with
  | mk K NO =>
  obtain ⟨N, O⟩ := NO
  have hmb : ∀ I J R, mj_wM R → MW (b, A, ps, n, u, T, t, bx, r, ft, fp) I J → _ := fun I J R h1 h2 => rt_X11_orders (w := w) (l := l) (I := I) (J := J) (R := R) h1 h2.1.2.2.2.1 h2.1.1 hk hR.2.1 h2.1.2.1 h2.2.1 (oCl_of hk h11) hA.1 h2.2.2
  rw [eO] at hmb
  have hMW : ∀ I I2 J J2 A2 ps2 n2 u2 r2, MW (b, A, ps, n, u, T, t, bx, r, ft, fp) I J → (∀ a, a < 450 ∨ (453 < a ∧ a < 464) ∨ 468 < a → I2 a = I a) → (∀ f, 11 < f → f ≠ 40 → f ≠ 41 → f ≠ 43 → f ≠ 44 → I2 452 f = I 452 f) → (∀ a f, ¬ (a = 452 ∧ f = 12) → J2 a f = J a f) → I2 452 1 = nI 0 → I2 452 10 = nI (K 8) → I2 452 11 = lD (K 9) → I2 452 44 = nI r2 → rR (I2 464) A2 → mH I2 ps2 n2 u2 → MW (b, A2, ps2, n2, u2, T, 0, bx, r2, K 8, K 9) I2 J2 := by
    intro I I2 J J2 A2 ps2 n2 u2 r2 hM g f1 f3 q1 q2 q3 q4 q5 q6
    obtain ⟨⟨m1, m2, m3, m4, m5, m6, m7⟩, m8, m9⟩ := hM
    refine ⟨⟨?_, ?_, mX_of m3 (g 470 (by decide)) (g 471 (by decide)), ⟨q1, Nat.zero_le _, fun k hk => absurd hk (Nat.not_lt_zero _)⟩, q4, q2, q3⟩, q5, q6⟩
    · unfold mB
      rw [f1 18 (by decide) (by decide) (by decide) (by decide) (by decide), f1 19 (by decide) (by decide) (by decide) (by decide) (by decide), f1 22 (by decide) (by decide) (by decide) (by decide) (by decide), g 457 (by decide), g 458 (by decide), g 459 (by decide)]
      exact m1
    · intro d hd
      rw [g 461 (by decide), f3 463 d (by omega)]
      exact m2 d hd
  have hCW : ∀ I I2 J J2 R R2 A2 ps2 n2 u2 r2, CW (b, A, ps, n, u, T, t, bx, r, ft, fp) I J R → oF I J I2 J2 → I2 0 1 = nI 0 → I2 0 12 = nI r2 → I2 10 16 = nI (K 8) → I2 10 17 = lD (K 9) → (∃ c s, cH I2 R2 b ps2 n2 u2 A2 c s) → CW (b, A2, ps2, n2, u2, T, 0, bx, r2, K 8, K 9) I2 J2 R2 := by
    intro I I2 J J2 R R2 A2 ps2 n2 u2 r2 hC f q1 q2 q3 q4 q5
    obtain ⟨⟨h1, h2, h3⟩, ⟨h4, h5⟩, h6, h7, _⟩ := hC
    obtain ⟨f1, f2, f3⟩ := f
    refine ⟨⟨?_, ?_, cKw_F (f3 11 (by decide) (by decide)) h3⟩, ⟨⟨Nat.zero_le _, fun k hk => absurd hk (Nat.not_lt_zero _)⟩, q1⟩, fun j hj => ⟨by rw [f1 3 (by decide) (by decide)]; exact (h6 j hj).1, fun B hB => cR_F (fun e he => f1 _ (by unfold sA; omega) (by unfold sA; omega)) ((h6 j hj).2 B hB)⟩, ⟨q2, q3, q4⟩, q5⟩
    · unfold cB
      rw [f1 4 (by decide) (by decide), f1 7 (by decide) (by decide), f1 8 (by decide) (by decide), f1 9 (by decide) (by decide)]
      exact h1
    · unfold cN
      rw [f1 6 (by decide) (by decide), f3 5 (by decide) (by decide)]
      exact h2
  have oF_hi : ∀ I J I2 J2, oF I J I2 J2 → MW (b, A, ps, n, u, T, t, bx, r, ft, fp) I J → MW (b, A, ps, n, u, T, t, bx, r, ft, fp) I2 J2 := fun I J I2 J2 f hM => MW_lo (fun a ha => f.1 a (by omega) (by omega)) (fun a ha => f.2.2 a (by omega) (by omega)) hM
  by_cases g : K 8 = 0
  · obtain ⟨hN160, hO⟩ := kOrs_ok hk h800 802 0 (fun _ _ => 0) (tk0 T t) kOK_0 tk8 kTk_tk (Nat.zero_le _) (fun i hi => absurd hi (Nat.not_lt_zero _)) K N O eO g
    have hA2 : gA b (m + 200000) (aOrs b O N 0 A).2.2 := gA_mono (by omega) (gA_ors hk h11 hO N 0 m A (by omega) hA)
    refine ⟨nI (aOrs b O N 0 A).1, (b, (aOrs b O N 0 A).2.2, if 0 < (aOrs b O N 0 A).1 then hPush ps n A else ps, if 0 < (aOrs b O N 0 A).1 then hN n else n, if 0 < (aOrs b O N 0 A).1 then 0 else u, T, 0, bx, (aOrs b O N 0 A).2.1, K 8, K 9), ?_, fun I J R hW hC hM => ?_, fun I J R hW hC hM => ?_⟩
    · by_cases e : 0 < (aOrs b O N 0 A).1
      · rw [if_pos e, if_pos e, if_pos e]
        obtain ⟨g1, g2, g3, g4, g5⟩ := GM_push hG0 hA2
        exact ⟨g1, g2, g3, g4, g5⟩
      · rw [if_neg e, if_neg e, if_neg e]
        obtain ⟨g1, g2, g3, g4, g5⟩ := GM_mono (m' := m + 200000) (by omega) hG0
        exact ⟨g1, hA2, g3, g4, g5⟩
    · have hC0 := hC
      obtain ⟨⟨h1, h2, h3⟩, ⟨h4, h5⟩, h6, h7, c, s, h8⟩ := hC
      refine rt_weak (rt_X10_orders eO hW.1 h3 h1 hR h2 h4 h5 h8 hA hm) (fun v I2 J2 R2 ⟨x, e, q1, q2, q3, q4, q5⟩ => ?_)
      rcases q5 with ⟨q5, -⟩ | ⟨-, q6, q7, q8⟩
      · exact absurd g q5
      · exact ⟨x, e, q6, wR_h q4 hW, hCW I I2 J J2 R R2 _ _ _ _ _ hC0 q3 q2 q7 q1.1 q1.2 q8, oF_hi I J I2 J2 q3 hM⟩
    · refine rt_weak (hmb I J R hW.2 hM) (fun v I2 J2 R2 ⟨x, e, ⟨q1, q2, q3, q4⟩, q5⟩ => ?_)
      rcases q5 with ⟨q5, -⟩ | ⟨-, q6, q7, q8, q9, f1, f2, f3⟩
      · exact absurd g q5
      · refine ⟨x, e, q6, by rw [q1]; exact hW, ?_, hMW I I2 J J2 _ _ _ _ _ hM (fun a ha => f1 a (by omega) (by omega) (by omega) (by omega) (by omega) (by omega)) f2 f3 q2 q3 q4 q7 q8 q9⟩
        rw [q1]
        exact CW_hi (fun a ha => f1 a (by omega) (by omega) (by omega) (by omega) (by omega) (by omega)) (fun a ha => by funext k; exact f3 a k (by omega)) hC
  · refine ⟨-1, (b, A, ps, n, u, T, 0, bx, 0, K 8, K 9), GM_t hG0, fun I J R hW hC hM => ?_, fun I J R hW hC hM => ?_⟩
    · have hC0 := hC
      obtain ⟨⟨h1, h2, h3⟩, ⟨h4, h5⟩, h6, h7, c, s, h8⟩ := hC
      refine rt_weak (rt_X10_orders eO hW.1 h3 h1 hR h2 h4 h5 h8 hA hm) (fun v I2 J2 R2 ⟨x, e, q1, q2, q3, q4, q5⟩ => ?_)
      rcases q5 with ⟨-, q6, q7, q8⟩ | ⟨q5, -⟩
      · exact ⟨x, e, q6, wR_h q4 hW, hCW I I2 J J2 R R2 _ _ _ _ _ hC0 q3 q2 q7 q1.1 q1.2 ⟨c, s, q8⟩, oF_hi I J I2 J2 q3 hM⟩
      · exact absurd q5 g
    · refine rt_weak (hmb I J R hW.2 hM) (fun v I2 J2 R2 ⟨x, e, ⟨q1, q2, q3, q4⟩, q5⟩ => ?_)
      rcases q5 with ⟨-, q6, q7, f1, f2, f3⟩ | ⟨q5, -⟩
      · have gg : ∀ a, a < 450 ∨ (452 < a ∧ a ≠ 468) → I2 a = I a := fun a ha => f1 a (by omega) (by omega)
        refine ⟨x, e, q6, by rw [q1]; exact hW, ?_, hMW I I2 J J2 _ _ _ _ _ hM (fun a ha => gg a (by omega)) (fun f q1 _ _ q2 q3 => f2 f q1 q2 q3) f3 q2 q3 q4 q7 (by rw [gg 464 (by decide)]; exact hM.2.1) (mH_of hM.2.2 (f2 40 (by decide) (by decide) (by decide)) (f2 41 (by decide) (by decide) (by decide)) (gg 466 (by decide)))⟩
        rw [q1]
        exact CW_hi (fun a ha => gg a (by omega)) (fun a ha => by funext k; exact f3 a k (by omega)) hC
      · exact absurd q5 g
end PAIRS2
