/-! ===== the reference: board(), with what it leaves of the class ===== -/
section BFR
variable {w : mj_Wd} {l : Launch} {I : mj_M} {J : mj_J} {R : mj_R} {b A D : St} {T : Nat → Nat} {sz t : Nat} {K : Nat → Nat}
theorem rt_X11_boardF (hM : mj_wM R) (hT : mTp I T t) : RtI w l yX11_board dd_X11_board [.ref 452] (472, I, J, R) (fun x I' J' R' => (R' = R ∧ I' 452 1 = nI 0 ∧ I' 452 10 = nI ((kBoard T t).1 8) ∧ I' 452 11 = (if (kBoard T t).1 9 = 0 then -1 else nI ((kBoard T t).1 9 - 1))) ∧ (((kBoard T t).1 8 ≠ 0 ∧ x = -1 ∧ mBf I J I' J') ∨ ((kBoard T t).1 8 = 0 ∧ x = nI ((kBoard T t).2 0 2) ∧ bRd (kBoard T t).2 ∧ mNew I' J' (kBoard T t).2 ∧ ∀ a, a < 452 → I' a = I a ∧ J' a = J a))) := by
  have h800 := hT.2.1
  refine rt_intro2 (L := [some (.ref 452)]) ⟨by decide, rfl, (fun h => by cases h)⟩ (Nat.le_of_ble_eq_true rfl) rfl (fun Y Q hQ => ?_)
  refine q_aload_n (pc' := 1) dX11_board_0 rfl rfl (q_tVv (pc' := 4) dX11_board_1 rfl ml_RX11_271 yv_X11_beginsText (by decide) (rt_X11_beginsText hM hT) ⟨by omega, rfl⟩ rfl rfl (Nat.le_of_ble_eq_true rfl) (Nat.le_refl _) (fun I1 J1 R1 ⟨h1, e1, f1, f2, f3, eR⟩ => ?_))
  rw [eR]
  refine q_aload_n (pc' := 5) dX11_board_4 rfl rfl (q_cVv (pc' := 8) dX11_board_5 rfl ml_RX11_76 yv_X11_begins (by decide) (rn_X11_begins) ⟨by omega, rfl⟩ rfl rfl (Nat.le_of_ble_eq_true rfl) (Nat.le_refl _) ?_)
  have h2 : mRd (mj_up (mj_up (mj_up (mj_up (mj_up (mj_up (mj_up (mj_up I1 452 13 (nI 4)) 452 14 (nI 16)) 452 15 (nI 0)) 452 16 (nI 0)) 452 17 (nI 0)) 452 23 (nI 0)) 452 24 (nI 0)) 452 25 (nI 0)) J1 T t (tk0 T t) := mRd_oth (by decide) (mRd_oth (by decide) (mRd_oth (by decide) (mRd_oth (by decide) (mRd_oth (by decide) (mRd_oth (by decide) (mRd_oth (by decide) (mRd_oth (by decide) h1)))))))
  have hD : mD (mj_up (mj_up (mj_up (mj_up (mj_up (mj_up (mj_up (mj_up I1 452 13 (nI 4)) 452 14 (nI 16)) 452 15 (nI 0)) 452 16 (nI 0)) 452 17 (nI 0)) 452 23 (nI 0)) 452 24 (nI 0)) 452 25 (nI 0)) J1 bD0 := by
    refine ⟨⟨?_, ?_, ?_, ?_, ?_⟩, ⟨?_, ?_, ?_⟩, fun d hd => absurd hd (Nat.not_lt_zero _)⟩
    · rw [mj_up_ne2 (by decide), mj_up_ne2 (by decide), mj_up_ne2 (by decide), mj_up_ne2 (by decide), mj_up_ne2 (by decide), mj_up_ne2 (by decide), mj_up_ne2 (by decide), mj_up_eq]; rfl
    · rw [mj_up_ne2 (by decide), mj_up_ne2 (by decide), mj_up_ne2 (by decide), mj_up_ne2 (by decide), mj_up_ne2 (by decide), mj_up_ne2 (by decide), mj_up_eq]; rfl
    · rw [mj_up_ne2 (by decide), mj_up_ne2 (by decide), mj_up_ne2 (by decide), mj_up_ne2 (by decide), mj_up_ne2 (by decide), mj_up_eq]; rfl
    · rw [mj_up_ne2 (by decide), mj_up_ne2 (by decide), mj_up_ne2 (by decide), mj_up_ne2 (by decide), mj_up_eq]; rfl
    · rw [mj_up_ne2 (by decide), mj_up_ne2 (by decide), mj_up_ne2 (by decide), mj_up_eq]; rfl
    · rw [mj_up_ne2 (by decide), mj_up_ne2 (by decide), mj_up_eq]; rfl
    · rw [mj_up_ne2 (by decide), mj_up_eq]; rfl
    · rw [mj_up_eq]; rfl
  have e2 : mj_up (mj_up (mj_up (mj_up (mj_up (mj_up (mj_up (mj_up I1 452 13 (nI 4)) 452 14 (nI 16)) 452 15 (nI 0)) 452 16 (nI 0)) 452 17 (nI 0)) 452 23 (nI 0)) 452 24 (nI 0)) 452 25 (nI 0) 452 1 = nI 0 := by
    rw [mj_up_ne2 (by decide), mj_up_ne2 (by decide), mj_up_ne2 (by decide), mj_up_ne2 (by decide), mj_up_ne2 (by decide), mj_up_ne2 (by decide), mj_up_ne2 (by decide), mj_up_ne2 (by decide)]; exact e1
  have g2 : mBf I J (mj_up (mj_up (mj_up (mj_up (mj_up (mj_up (mj_up (mj_up I1 452 13 (nI 4)) 452 14 (nI 16)) 452 15 (nI 0)) 452 16 (nI 0)) 452 17 (nI 0)) 452 23 (nI 0)) 452 24 (nI 0)) 452 25 (nI 0)) J1 := by
    refine ⟨fun a h _ _ _ _ => ?_, fun f hf => ?_, fun a f h _ => f3 a f h⟩
    · rw [up_fI h, up_fI h, up_fI h, up_fI h, up_fI h, up_fI h, up_fI h, up_fI h]; exact f1 a h
    · rw [mj_up_ne2 (by omega), mj_up_ne2 (by omega), mj_up_ne2 (by omega), mj_up_ne2 (by omega), mj_up_ne2 (by omega), mj_up_ne2 (by omega), mj_up_ne2 (by omega), mj_up_ne2 (by omega)]; exact f2 f (by omega)
  generalize mj_up (mj_up (mj_up (mj_up (mj_up (mj_up (mj_up (mj_up I1 452 13 (nI 4)) 452 14 (nI 16)) 452 15 (nI 0)) 452 16 (nI 0)) 452 17 (nI 0)) 452 23 (nI 0)) 452 24 (nI 0)) 452 25 (nI 0) = I2 at h2 hD e2 g2 ⊢
  have fin : ∀ I3 J3 K3 D3, kBoard T t = (K3, D3) → mRd I3 J3 T t K3 → kOK t K3 → mD I3 J3 D3 → (K3 8 = 0 → bRd D3) → I3 452 1 = nI 0 → mBf I J I3 J3 → Wq dd_X11_board (mj_mk w l 472 Y) Q 29 [some (.ref 452)] [] (472, I3, J3, R) := by
    intro I3 J3 K3 D3 he h3 hk3 hD3 hR3 e3 g3
    rw [he] at hQ
    refine q_aload_n (pc' := 30) dX11_board_29 rfl rfl (q_sVi (pc' := 33) dX11_board_30 rfl ml_RX11_277 yv_X11_endsText (by decide) (rs_X11_endsText h3 hk3) ⟨by omega, rfl⟩ rfl rfl (Nat.le_of_ble_eq_true rfl) (Nat.le_refl _) (fun x4 I4 ⟨r4, eI⟩ => ?_))
    rw [r4]
    have e1' : I4 452 1 = nI 0 := by rw [eI, mj_up_ne2 (by decide), mj_up_ne2 (by decide)]; exact e3
    have e10 : I4 452 10 = nI (K3 8) := by rw [eI, mj_up_ne2 (by decide), mj_up_eq]
    have e11 : I4 452 11 = (if K3 9 = 0 then -1 else nI (K3 9 - 1)) := by rw [eI, mj_up_eq]
    have g4 : mDf I3 J3 I4 J3 ∨ True := Or.inr trivial
    have g5 : mBf I3 J3 I4 J3 := ⟨fun a h _ _ _ _ => by rw [eI, up_fI h, up_fI h], fun f hf => by rw [eI, mj_up_ne2 (by omega), mj_up_ne2 (by omega)], fun _ _ _ _ => rfl⟩
    by_cases g : K3 8 = 0
    · have hD4 : mD I4 J3 D3 := by
        have n2 : ∀ f, 11 < f → I4 452 f = I3 452 f := fun f hf => by rw [eI, mj_up_ne2 (by omega), mj_up_ne2 (by omega)]
        have n3 : ∀ a, a ≠ 452 → I4 a = I3 a := fun a h => by rw [eI, up_fI h, up_fI h]
        refine ⟨?_, ?_, fun d hd => ?_⟩
        · rw [n2 13 (by decide), n2 14 (by decide), n2 15 (by decide), n2 16 (by decide), n2 17 (by decide)]; exact hD3.1
        · rw [n2 23 (by decide), n2 24 (by decide), n2 25 (by decide)]; exact hD3.2.1
        · rw [n3 454 (by decide), n3 455 (by decide), n3 456 (by decide), n3 460 (by decide)]; exact hD3.2.2 d hd
      refine q_ifb_ne (pc' := 36) (pt := 38) dX11_board_33 rfl rfl (fun _ => (q_aload_n (pc' := 39) dX11_board_38 rfl rfl (q_tVv (pc' := 42) dX11_board_39 rfl ml_RX11_79 yv_X11_takesOver (by decide) (rt_X11_takesOver hM hD4 (hR3 g)) ⟨by omega, rfl⟩ rfl rfl (Nat.le_of_ble_eq_true rfl) (Nat.le_refl _) (fun I5 J5 R5 ⟨n5, f5, eR5⟩ => ?_)))) (fun h9 => Bool.noConfusion (Eq.trans (Eq.symm (beq_iff_eq.mpr g)) h9))
      rw [eR5]
      have e22 : I5 452 22 = nI (D3 0 2) := mB_2 n5.1
      exact q_aload_n (pc' := 43) dX11_board_42 rfl rfl (q_getIe (pc' := 46) dX11_board_43 rfl fr_RX11_252 ⟨by omega, rfl⟩ rfl e22 (q_iret dX11_board_46 rfl (hQ _ _ _ _ ⟨_, rfl, ⟨rfl, (f5.2.1 1 (by decide)).trans e1', (f5.2.1 10 (by decide)).trans e10, (f5.2.1 11 (by decide)).trans e11⟩, Or.inr ⟨g, rfl, hR3 g, n5, fun a ha => ⟨(f5.1 a (by omega) (by omega) (by omega) (by omega) (by omega) (by omega) (by omega)).trans ((g3.tr g5).1 a (by omega) (by omega) (by omega) (by omega) (by omega)), by
        rw [f5.2.2 a (by omega)]
        funext k
        exact (g3.tr g5).2.2 a k (by omega) (by omega)⟩⟩⟩)))
    · exact q_ifb_ne (pc' := 36) (pt := 38) dX11_board_33 rfl rfl (fun h9 => Bool.noConfusion (Eq.trans (Eq.symm (beq_eq_false_iff_ne.mpr g)) h9)) (fun _ => (q_iconst (pc' := 37) _ dX11_board_36 rfl kk_iconst_m1 (q_iret dX11_board_37 rfl (hQ _ _ _ _ ⟨_, rfl, ⟨rfl, e1', e10, e11⟩, Or.inl ⟨g, rfl, g3.tr g5⟩⟩))))
  have loop : ∀ f I3 J3 K3 D3, t + 2 ≤ K3 3 + f → kBd T t f D3 K3 = kBoard T t → mRd I3 J3 T t K3 → kOK t K3 → mD I3 J3 D3 → K3 8 = 0 → bDr D3 → I3 452 1 = nI 0 → mBf I J I3 J3 → Wq dd_X11_board (mj_mk w l 472 Y) Q 8 [some (.ref 452)] [] (472, I3, J3, R) := by
    intro f
    induction f with
    | zero => intro I3 J3 K3 D3 hf _ _ hk3; have := hk3.1; omega
    | succ f ih =>
      intro I3 J3 K3 D3 hf he h3 hk3 hD3 g hR3 e3 g3
      have e5 := h3.2.2.1 5 (by decide) (by decide)
      have b5 := hk3.2.1
      unfold kBd at he
      by_cases g5 : K3 5 = 0
      · rw [if_neg (fun q => q.2 g5)] at he
        refine q_aload_n (pc' := 9) dX11_board_8 rfl rfl (q_cVi (pc' := 12) dX11_board_9 rfl ml_RX11_182 yv_X11_isGood (by decide) (rn_good h3 hk3) ⟨by omega, rfl⟩ rfl rfl (Nat.le_of_ble_eq_true rfl) (Nat.le_refl _) (q_ifb_eq (pc' := 15) (pt := 29) dX11_board_12 rfl rfl (fun h9 => Bool.noConfusion (Eq.trans (Eq.symm (beq_iff_eq.mpr g)) h9)) (fun _ => (q_aload_n (pc' := 16) dX11_board_15 rfl rfl (q_getIe (pc' := 19) dX11_board_16 rfl fr_RX11_116 ⟨by omega, rfl⟩ rfl e5 (q_if_eq (pc' := 22) (pt := 29) dX11_board_19 rfl rfl (fun _ => ?_) (fun h9 => absurd (congrArg nI g5) h9)))))))
        exact fin I3 J3 K3 D3 he.symm h3 hk3 hD3 (fun _ => hR3.1) e3 g3
      · rw [if_pos ⟨g, g5⟩] at he
        refine q_aload_n (pc' := 9) dX11_board_8 rfl rfl (q_cVi (pc' := 12) dX11_board_9 rfl ml_RX11_182 yv_X11_isGood (by decide) (rn_good h3 hk3) ⟨by omega, rfl⟩ rfl rfl (Nat.le_of_ble_eq_true rfl) (Nat.le_refl _) (q_ifb_eq (pc' := 15) (pt := 29) dX11_board_12 rfl rfl (fun h9 => Bool.noConfusion (Eq.trans (Eq.symm (beq_iff_eq.mpr g)) h9)) (fun _ => (q_aload_n (pc' := 16) dX11_board_15 rfl rfl (q_getIe (pc' := 19) dX11_board_16 rfl fr_RX11_116 ⟨by omega, rfl⟩ rfl e5 (q_if_eq (pc' := 22) (pt := 29) dX11_board_19 rfl rfl (fun h9 => absurd h9 (nI_ne (b := 0) g5 (by omega) (by omega))) (fun _ => (q_aload_n (pc' := 23) dX11_board_22 rfl rfl (q_tVv (pc' := 26) dX11_board_23 rfl ml_RX11_274 yv_X11_line (by decide) (rt_X11_line hM h3 hk3 hD3 hR3.1) ⟨by omega, rfl⟩ rfl rfl (Nat.le_of_ble_eq_true rfl) (Nat.le_refl _) (fun I4 J4 R4 ⟨h4, hD4, f4, eR4⟩ => ?_))))))))))
        rw [eR4]
        have hk4 : kOK t (kLine T t D3 K3).1 := kOK_sg (kOK_ln hk3)
        have e4 : I4 452 1 = nI 0 := (f4.2.1 1 (by decide)).trans e3
        refine q_goto (pc' := 8) dX11_board_26 rfl ?_
        by_cases gg : (kLine T t D3 K3).1 8 = 0
        · have ok := line_ok hk3 hR3 gg
          exact ih I4 J4 _ _ (by omega) he h4 hk4 hD4 gg ok.1 e4 (g3.tr f4.bf)
        · rw [kBd_bad gg] at he
          refine q_aload_n (pc' := 9) dX11_board_8 rfl rfl (q_cVi (pc' := 12) dX11_board_9 rfl ml_RX11_182 yv_X11_isGood (by decide) (rn_good h4 hk4) ⟨by omega, rfl⟩ rfl rfl (Nat.le_of_ble_eq_true rfl) (Nat.le_refl _) (q_ifb_eq (pc' := 15) (pt := 29) dX11_board_12 rfl rfl (fun _ => ?_) (fun h9 => Bool.noConfusion (Eq.trans (Eq.symm (beq_eq_false_iff_ne.mpr gg)) h9))))
          exact fin I4 J4 _ _ he.symm h4 hk4 hD4 (fun q => absurd q gg) e4 (g3.tr f4.bf)
  have h08 : tk0 T t 8 = 0 := tk8
  exact loop 802 I2 J1 _ _ (by omega) rfl h2 kOK_0 hD h08 bD0_ok e2 g2
end BFR
