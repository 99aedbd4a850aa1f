/-! ===== the law from its entry to its loop ===== -/
def M0 : Ms := (bD0, aNew bD0, fun _ => aNew bD0, 0, 0, fun _ => 0, 0, fun _ => none, 0, 0, 0)
section START
variable {Sx : State → Heap → Prop} {w : mj_Wd} {l : Launch} {I I' : mj_M} {J J' : mj_J} {R R' : mj_R} {Y : mj_Y} {Q : Option Value → mj_H → Prop} {Ln : Nat} {xs : Nat → Int32}
theorem wSt_F (f : ∀ a, a < 452 → R' a = R a) (h : wSt R) : wSt R' := by
  refine ⟨?_, ?_, ?_, fun i hi => wS_F (fun e he => f _ (by unfold sA; omega)) (h.2.2.2 i hi)⟩
  · unfold mj_wV
    rw [f 0 (by decide), f 10 (by decide), f 16 (by decide), f 23 (by decide), f 28 (by decide), f 450 (by decide), f 451 (by decide), f 2 (by decide)]
    exact h.1
  · unfold mj_wB
    rw [f 4 (by decide)]
    exact h.2.1
  · unfold mj_wB
    rw [f 17 (by decide)]
    exact h.2.2.1
theorem GM_0 : GM 0 M0 := ⟨bD0_ok.1, gA_new bD0_ok.1 0, fun q hq => absurd hq (Nat.not_lt_zero _), fun j _ B hB => (by cases hB), by decide⟩
theorem CW_0 (h : vdP I J R) : CW M0 I J R := by
  obtain ⟨⟨h1, h2⟩, ⟨h3, h4, h5, h6, h7⟩, h8, ⟨h9, h10, h11⟩, ⟨h12, h13, h14⟩, h15, -⟩ := h
  refine ⟨⟨h1, fun d hd => absurd hd (Nat.not_lt_zero _), h2⟩, ⟨⟨Nat.zero_le _, fun k hk => absurd hk (Nat.not_lt_zero _)⟩, h3⟩, fun j _ => ⟨h7 j, fun B hB => (by cases hB)⟩, ⟨h4, h5, h6⟩, 0, 1, 0, fun t => 2 + t, ⟨⟨by decide, by decide⟩, h9, h10, h11⟩, ⟨⟨h12, h13, h14⟩, ⟨by decide, by decide, fun t ht => by show 2 + t < 18; omega⟩, by decide, fun t _ => ⟨by show 2 + t ≠ 0; omega, by show 2 + t ≠ 1; omega⟩, fun t q _ _ e => by have e : 2 + t = 2 + q := e; omega⟩, (h15 0 (by decide)).1, fun t ht => absurd ht (Nat.not_lt_zero _)⟩
theorem MW_0 (h1 : mNew I J bD0) (h2 : I 452 1 = nI 0 ∧ I 452 10 = nI 0 ∧ I 452 11 = -1) : MW M0 I J := by
  obtain ⟨n1, n2, -, n4, ⟨n5, n6, n7⟩, n8⟩ := h1
  exact ⟨⟨n1, n2, fun j hj => ⟨n8 j hj, fun B hB => (by cases hB)⟩, ⟨h2.1, Nat.zero_le _, fun k hk => absurd hk (Nat.not_lt_zero _)⟩, n7, h2.2.1, h2.2.2⟩, n4, ⟨n5, n6, by decide, fun t ht => absurd ht (Nat.not_lt_zero _)⟩⟩
theorem w_start (hX : mj_Sc (mj_mk w l 472 Y) Ln xs) (hLn : Ln ≤ 3072) (hQ : ∀ h, Q (some (.int 1)) h) (hS : SxX Sx (mj_mk w l 472 Y)) (h9 : ∀ I J R, Z0 11 I J R → RgSV Sx w l yX9_init dd_X9_init [.ref 10, .ref 1] (11, I, J, R) 16 (fun I' J' R' => I' = mj_up I 10 17 (-1) ∧ cKw J' ∧ (∀ a, a ≠ 11 → J' a = J a) ∧ R' = tkR R)) : Wq dd_L_law (mj_mk w l 472 Y) Q 0 [some (.ref mj_scr), none, none, none] [] (0, fun _ _ => 0, fun _ _ => 0, fun _ _ => mj_nul) := by
  have h0 : Z0 0 (fun _ _ => 0) (fun _ _ => 0) (fun _ _ => mj_nul) := fun a _ => ⟨fun _ => rfl, fun _ => rfl, fun _ => rfl⟩
  refine q_new (ci := 10) (z2 := 1) (pc' := 3) dL_law_0 rfl rfl rfl T_cl_RL_7 T_in_RL_7 T_ini_RL_7 rfl (by decide) (by rw [zf_mk]; decide) h0 (q_dup_a (pc' := 4) dL_law_3 rfl (q_gIS (z2 := 452) (pc' := 7) hS dL_law_4 rfl ml_RL_9 yi_X10_init (Nat.le_of_ble_eq_true rfl) (rg_X10_init hS.1 h9 h0) (by decide) rfl rfl (Nat.le_of_ble_eq_true rfl) (by rw [zf_mk]; decide) (fun I1 J1 R1 hv => ?_)))
  have hz := hv.2.2.2.2.2.2
  refine q_ast_1 (pc' := 8) dL_law_7 rfl (by decide) rfl (q_new (ci := 11) (z2 := 453) (pc' := 11) dL_law_8 rfl rfl rfl T_cl_RL_10 T_in_RL_10 T_ini_RL_10 rfl (by decide) (by rw [zf_mk]; decide) hz (q_dup_a (pc' := 12) dL_law_11 rfl (q_gI (z2 := 472) (pc' := 15) dL_law_12 rfl ml_RL_12 yi_X11_init (Nat.le_of_ble_eq_true rfl) (rg_X11_init (Z0_mono hz (by decide)) (hz 452 (by decide)).1) (by decide) rfl rfl (Nat.le_of_ble_eq_true rfl) (by rw [zf_mk]; decide) (fun I2 J2 R2 ⟨q1, q2, q3, q4, q5⟩ => ?_))))
  refine q_ast_2 (pc' := 16) dL_law_15 rfl (by decide) rfl (q_iconst (pc' := 17) _ dL_law_16 rfl kk_iconst_0 (q_ist_3 (pc' := 18) dL_law_17 rfl (by decide) rfl ?_))
  exact w_loop hX hLn hQ 512 0 0 M0 I2 J2 R2 rfl rfl GM_0 ⟨wSt_F q5 hv.2.2.1, q4⟩ (by
    have hc := CW_hi (M := M0) (R := R1) (I := I1) (J := J1) (I' := I2) (J' := J2) (fun a ha => (q3 a (by omega)).1) (fun a ha => (q3 a (by omega)).2) (CW_0 hv)
    obtain ⟨g1, g2, g3, g4, c, s, g5⟩ := hc
    obtain ⟨o, g, e1, e2, e3, e4⟩ := g5
    refine ⟨g1, g2, g3, g4, c, s, o, g, e1, ?_, e3, e4⟩
    unfold cHr
    rw [q5 28 (by decide), q5 29 (by decide)]
    exact e2) (MW_0 q1 q2)
end START
