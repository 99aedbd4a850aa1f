/-! ===== the reference: a DEVICE's line ===== -/
def kG (T : Nat → Nat) (sz : Nat) (K : Nat → Nat) : Nat → Nat := if K 8 = 0 then tkK T sz K else K
theorem kOK_g {T : Nat → Nat} {sz : Nat} {K : Nat → Nat} (h : kOK sz K) : kOK sz (kG T sz K) := by
  unfold kG
  split
  · exact kOK_tk h
  · exact h
theorem tkP8 {K : Nat → Nat} {a s v lt wd en : Nat} : tkP K a s v lt wd en 8 = K 8 := rfl
theorem tk8 {T : Nat → Nat} {sz : Nat} {K : Nat → Nat} : tkK T sz K 8 = K 8 := by
  unfold tkK
  split
  · rfl
  · split
    · rfl
    · split <;> rfl
theorem kW8 {K : Nat → Nat} {x : Nat} (hx : x ≠ 0) : kW K x 8 ≠ 0 := fun q => by
  unfold kW at q
  split at q
  · have q' : (if K 5 = 4 then 1 else x) = 0 := q
    split at q'
    · cases q'
    · exact hx q'
  · rename_i h; exact h q
theorem kG8 {T : Nat → Nat} {sz : Nat} {K : Nat → Nat} : kG T sz K 8 = K 8 := by
  unfold kG
  split
  · exact tk8
  · rfl
theorem kNm8 {K : Nat → Nat} (h : kNm K 8 = 0) : kNm K = K ∧ K 8 = 0 ∧ K 5 = 1 ∧ K 7 ≤ 7 := by
  unfold kNm at h ⊢
  split at h
  · exact absurd h (kW8 (by decide))
  · rename_i hc
    rw [if_neg hc]
    have h2 : ¬ ¬ (K 5 = 1 ∧ K 7 ≤ 7 ∧ (ownW (K 12) || (ordN K).isSome) = false) := fun q => hc ⟨h, q⟩
    have h3 := Decidable.of_not_not h2
    exact ⟨rfl, h, h3.1, h3.2.1⟩
/-- a word of small letters -/
def nmL (x n : Nat) : Prop := ∃ f : Nat → Nat, (∀ k, k < n → 97 ≤ f k ∧ f k ≤ 122) ∧ x = wV f 0 n
theorem wV_sh {T : Nat → Nat} {a : Nat} (n : Nat) : wV T a n = wV (fun k => T (a + k)) 0 n := by
  induction n with
  | zero => rfl
  | succ n ih =>
    unfold wV
    rw [ih, Nat.zero_add]
/-- a word has letters -/
theorem tk_wd {T : Nat → Nat} {sz : Nat} {K : Nat → Nat} (h : tkK T sz K 5 = 1) : 1 ≤ tkK T sz K 7 ∧ (tkK T sz K 7 ≤ 8 ∧ tkK T sz K 12 < 256 ^ tkK T sz K 7) ∧ nmL (tkK T sz K 12) (tkK T sz K 7) := by
  unfold tkK at h ⊢
  generalize tkE (tBl T sz) 801 (K 3) = a at h ⊢
  by_cases hs : a < sz
  · rw [if_neg (fun q => q hs)] at h ⊢
    by_cases hl : tLt T sz a = true
    · rw [if_pos hl] at h ⊢
      have h' : (if 8 < tkE (tLt T sz) 801 a - a then 4 else 1) = 1 := h
      have hr := tkE_run (P := tLt T sz) 801 a
      have h1 : tkE (tLt T sz) 801 a = tkE (tLt T sz) 800 (a + 1) := by rw [tkE, if_pos hl]
      have h2 := tkE_ge (tLt T sz) 800 (a + 1)
      rw [← h1] at h2
      generalize tkE (tLt T sz) 801 a = e at h' hr h2
      have h8 : ¬ 8 < e - a := fun q => by rw [if_pos q] at h'; cases h'
      have hw := wV_lt (T := T) (a := a) (n := e - a) (fun k hk => (of_decide_eq_true (hr (a + k) (by omega) (by omega))).2.2)
      rw [Nat.min_eq_left (by omega)] at hw
      show 1 ≤ e - a ∧ (e - a ≤ 8 ∧ wV T a (e - a) < 256 ^ (e - a)) ∧ nmL (wV T a (e - a)) (e - a)
      exact ⟨by omega, ⟨by omega, by omega⟩, fun k => T (a + k), fun k hk => (of_decide_eq_true (hr (a + k) (by omega) (by omega))).2, wV_sh _⟩
    · rw [if_neg hl] at h
      by_cases hd : tDg T sz a = true
      · rw [if_pos hd] at h
        have h' : (if 3 < tkE (tDg T sz) 801 a - a ∨ tLt T sz (tkE (tDg T sz) 801 a) = true then 4 else 2) = 1 := h
        split at h' <;> cases h'
      · rw [if_neg hd] at h
        have h' : (if T a = 59 then 3 else 4) = 1 := h
        split at h' <;> cases h'
  · rw [if_pos hs] at h
    have h' : (0:Nat) = 1 := h
    cases h'
/-- what is read of a board: 0: CPUS, VECTORS, DEVICES, the kept, the off; CPUS told, VECTORS told, another line; 1 to 5: kind, LINES, CPUS, letters, name -/
def mD (I : mj_M) (J : mj_J) (D : St) : Prop := (I 452 13 = nI (D 0 0) ∧ I 452 14 = nI (D 0 1) ∧ I 452 15 = nI (D 0 3) ∧ I 452 16 = nI (D 0 4) ∧ I 452 17 = nI (D 0 2)) ∧ (I 452 23 = bI (D 0 5 == 1) ∧ I 452 24 = bI (D 0 6 == 1) ∧ I 452 25 = bI (D 0 7 == 1)) ∧ ∀ d, d < D 0 2 → I 454 d = nI (D 1 d) ∧ I 455 d = nI (D 2 d) ∧ I 456 d = nI (D 3 d) ∧ I 460 d = nI (D 4 d) ∧ J 462 d = nJ (D 5 d)
def mDf (I : mj_M) (J : mj_J) (I' : mj_M) (J' : mj_J) : Prop := (∀ a, a ≠ 452 → a ≠ 454 → a ≠ 455 → a ≠ 456 → a ≠ 460 → I' a = I a) ∧ (∀ f, (f < 3 ∨ (9 < f ∧ f < 13) ∨ (17 < f ∧ f < 23) ∨ 25 < f) → I' 452 f = I 452 f) ∧ ∀ a f, ¬ (a = 452 ∧ f = 12) → a ≠ 462 → J' a f = J a f
theorem mDf.rf {I : mj_M} {J : mj_J} : mDf I J I J := ⟨fun _ _ _ _ _ _ => rfl, fun _ _ => rfl, fun _ _ _ _ => rfl⟩
theorem mDf.tr {I I' I2 : mj_M} {J J' J2 : mj_J} (h : mDf I J I' J') (h2 : mDf I' J' I2 J2) : mDf I J I2 J2 := ⟨fun a h1 h3 h4 h5 h6 => (h2.1 a h1 h3 h4 h5 h6).trans (h.1 a h1 h3 h4 h5 h6), fun f h1 => (h2.2.1 f h1).trans (h.2.1 f h1), fun a f h1 h3 => (h2.2.2 a f h1 h3).trans (h.2.2 a f h1 h3)⟩
theorem mRf.df {I I' : mj_M} {J J' : mj_J} (h : mRf I J I' J') : mDf I J I' J' := ⟨fun a h1 _ _ _ _ => h.1 a h1, fun f hf => h.2.1 f (by omega), fun a f h1 _ => h.2.2 a f h1⟩
theorem mD_rf {I I' : mj_M} {J J' : mj_J} {D : St} (h : mRf I J I' J') (hD : mD I J D) : mD I' J' D := by
  have f := h.2.1
  refine ⟨⟨?_, ?_, ?_, ?_, ?_⟩, ⟨?_, ?_, ?_⟩, fun d hd => ?_⟩
  · rw [f 13 (by decide)]; exact hD.1.1
  · rw [f 14 (by decide)]; exact hD.1.2.1
  · rw [f 15 (by decide)]; exact hD.1.2.2.1
  · rw [f 16 (by decide)]; exact hD.1.2.2.2.1
  · rw [f 17 (by decide)]; exact hD.1.2.2.2.2
  · rw [f 23 (by decide)]; exact hD.2.1.1
  · rw [f 24 (by decide)]; exact hD.2.1.2.1
  · rw [f 25 (by decide)]; exact hD.2.1.2.2
  · rw [h.1 454 (by decide), h.1 455 (by decide), h.1 456 (by decide), h.1 460 (by decide), h.2.2 462 d (by omega)]; exact hD.2.2 d hd
def dvA (T : Nat → Nat) (sz : Nat) (D : St) (K : Nat → Nat) : Nat → Nat := kG T sz (if D 0 2 = 10 then kW K 2 else K)
def dvB1 (D : St) (K : Nat → Nat) : Nat → Nat := if kNm K 8 = 0 ∧ (dLast D (kWd K) (D 0 2)).isSome = true then kW (kNm K) 3 else kNm K
def dvB (T : Nat → Nat) (sz : Nat) (D : St) (K : Nat → Nat) : Nat → Nat := dvB1 D (dvA T sz D K)
def dvKd (K : Nat → Nat) : Option Nat := if kIs K 126896661032037 = true then some 1 else if kIs K 444301538672 = true then some 2 else if kIs K 30787899169924452 = true then some 3 else none
def dvC (T : Nat → Nat) (sz : Nat) (o : Option Nat) (K : Nat → Nat) : Nat → Nat := kG T sz (if o = none then kW K 2 else K)
def dvLn (o : Option Nat) (K : Nat → Nat) : Nat := if o = some 1 then 1 else if K 8 = 0 then K 6 else 0
def dvE (o : Option Nat) (K : Nat → Nat) : Nat → Nat := if o = some 1 then K else kN K (if o = some 2 then nI 2 else nI 1) (nI 8)
def dvF (o : Option Nat) (ln : Nat) (K : Nat → Nat) : Nat → Nat := if o = some 2 ∧ K 8 = 0 ∧ ln &&& (ln - 1) ≠ 0 then kW K 4 else K
def dvH (T : Nat → Nat) (sz : Nat) (o : Option Nat) (K : Nat → Nat) : Nat → Nat := if o = some 1 then K else kG T sz K
def dvS (T : Nat → Nat) (sz n : Nat) (K : Nat → Nat) : Nat × (Nat → Nat) := if kIs K 28526 = true then kSetOf T sz n 0 (tkK T sz K) else (2 ^ n - 1, K)
def dvR (T : Nat → Nat) (sz n : Nat) (K : Nat → Nat) : Nat × (Nat → Nat) := dvS T sz n (dvH T sz (dvKd K) (dvF (dvKd K) (dvLn (dvKd K) (dvC T sz (dvKd K) K)) (dvE (dvKd K) (dvC T sz (dvKd K) K))))
def dvD (D : St) (o : Option Nat) (ln st lt nm : Nat) : St := mj_up (mj_up (mj_up (mj_up (mj_up (mj_up D 1 (D 0 2) (o.getD 0)) 2 (D 0 2) ln) 3 (D 0 2) st) 4 (D 0 2) lt) 5 (D 0 2) nm) 0 2 (D 0 2 + 1)
/-- after a DEVICE's line -/
def kDv (T : Nat → Nat) (sz : Nat) (D : St) (K : Nat → Nat) : (Nat → Nat) × St :=
  if dvB T sz D K 8 = 0 then ((dvR T sz (D 0 0) (tkK T sz (dvB T sz D K))).2, if (dvR T sz (D 0 0) (tkK T sz (dvB T sz D K))).2 8 = 0 then dvD D (dvKd (tkK T sz (dvB T sz D K))) (dvLn (dvKd (tkK T sz (dvB T sz D K))) (dvC T sz (dvKd (tkK T sz (dvB T sz D K))) (tkK T sz (dvB T sz D K)))) (dvR T sz (D 0 0) (tkK T sz (dvB T sz D K))).1 (dvB T sz D K 7) (dvB T sz D K 12) else D)
  else (dvB T sz D K, D)
theorem kOK_dvA {T : Nat → Nat} {sz : Nat} {D : St} {K : Nat → Nat} (h : kOK sz K) : kOK sz (dvA T sz D K) := by
  unfold dvA
  split
  · exact kOK_g (kOK_w h (by decide))
  · exact kOK_g h
theorem kOK_dvB1 {sz : Nat} {D : St} {K : Nat → Nat} (h : kOK sz K) : kOK sz (dvB1 D K) := by
  unfold dvB1
  split
  · exact kOK_w (kOK_nm h) (by decide)
  · exact kOK_nm h
theorem kOK_dvC {T : Nat → Nat} {sz : Nat} {o : Option Nat} {K : Nat → Nat} (h : kOK sz K) : kOK sz (dvC T sz o K) := by
  unfold dvC
  split
  · exact kOK_g (kOK_w h (by decide))
  · exact kOK_g h
theorem kOK_dvE {sz : Nat} {o : Option Nat} {K : Nat → Nat} (h : kOK sz K) : kOK sz (dvE o K) := by
  unfold dvE
  split
  · exact h
  · exact kOK_n h
theorem kOK_dvF {sz : Nat} {o : Option Nat} {ln : Nat} {K : Nat → Nat} (h : kOK sz K) : kOK sz (dvF o ln K) := by
  unfold dvF
  split
  · exact kOK_w h (by decide)
  · exact h
theorem kOK_dvH {T : Nat → Nat} {sz : Nat} {o : Option Nat} {K : Nat → Nat} (h : kOK sz K) : kOK sz (dvH T sz o K) := by
  unfold dvH
  split
  · exact h
  · exact kOK_g h
section M37
variable {w : mj_Wd} {l : Launch} {I : mj_M} {J : mj_J} {R : mj_R} {b A D : St} {T : Nat → Nat} {sz t : Nat} {K : Nat → Nat}
theorem dvB_good (h : dvB1 D K 8 = 0) : dvB1 D K = K ∧ K 8 = 0 ∧ K 5 = 1 ∧ K 7 ≤ 7 ∧ dLast D (kWd K) (D 0 2) = none := by
  unfold dvB1 at h ⊢
  split at h
  · exact absurd h (kW8 (by decide))
  · rename_i hc
    rw [if_neg hc]
    obtain ⟨e1, e2, e3, e4⟩ := kNm8 h
    refine ⟨e1, e2, e3, e4, ?_⟩
    cases hd : dLast D (kWd K) (D 0 2) with
    | none => rfl
    | some d => exact absurd ⟨h, by rw [hd]; rfl⟩ hc
theorem dvA_good (h : dvA T sz D K 8 = 0) : D 0 2 ≠ 10 ∧ dvA T sz D K = tkK T sz K ∧ K 8 = 0 := by
  unfold dvA at h ⊢
  by_cases e : D 0 2 = 10
  · rw [if_pos e, kG8] at h
    exact absurd h (kW8 (by decide))
  · rw [if_neg e] at h ⊢
    rw [kG8] at h
    exact ⟨e, if_pos h, h⟩
/-- the first part: its name -/
theorem w_dv1 (Q : Option Value → mj_H → Prop) (Y : mj_Y) (hM : mj_wM R) (h : mRd I J T sz K) (hk : kOK sz K) (hD : mD I J D) (hB : bOK D) (hN : bNm D)
    (hbad : ∀ I1 J1, dvB T sz D K 8 ≠ 0 → mRd I1 J1 T sz (dvB T sz D K) → mRf I J I1 J1 → Q none (472, I1, J1, R))
    (hgood : ∀ I1 J1 o4 o5 o6, dvB T sz D K 8 = 0 → mRd I1 J1 T sz (dvB T sz D K) → mRf I J I1 J1 → Wq dd_X11_deviceLine (mj_mk w l 472 Y) Q 79 [some (.ref 452), some (.int (nI (D 0 2))), some (.long (nJ (dvB T sz D K 12))), none, o4, o5, o6] [] (472, I1, J1, R)) :
    Wq dd_X11_deviceLine (mj_mk w l 472 Y) Q 0 [some (.ref 452), none, none, none, none, none, none] [] (472, I, J, R) := by
  have h10 := hB.2.2.1
  have hwd : kWd (dvA T sz D K) < 2 ^ 63 := by
    unfold kWd
    split
    · exact (kOK_dvA hk).2.2.2.2.1
    · decide
  have p71 : ∀ I1 J1 o4 o5 o6, mRd I1 J1 T sz (dvB T sz D K) → mRf I J I1 J1 → Wq dd_X11_deviceLine (mj_mk w l 472 Y) Q 71 [some (.ref 452), some (.int (nI (D 0 2))), some (.long (nJ (kWd (dvA T sz D K)))), none, o4, o5, o6] [] (472, I1, J1, R) := by
    intro I1 J1 o4 o5 o6 h1 f1
    have e8 := h1.2.2.1 8 (by decide) (by decide)
    have b8 := (kOK_dvB1 (D := D) (kOK_dvA (T := T) (D := D) hk)).2.2.2.1
    by_cases g : dvB T sz D K 8 = 0
    · obtain ⟨g1, g2, g3⟩ := dvB_good g
      have ew : kWd (dvA T sz D K) = dvB T sz D K 12 := by
        unfold kWd
        rw [if_pos g2]
        exact (congrFun g1 12).symm
      rw [ew]
      refine q_aload_n (pc' := 72) dX11_deviceLine_71 rfl rfl (q_getIe (pc' := 75) dX11_deviceLine_72 rfl fr_RX11_126 ⟨by omega, rfl⟩ rfl e8 (q_if_le (pc' := 78) (pt := 79) dX11_deviceLine_75 rfl rfl (fun _ => ?_) (fun h9 => absurd (by rw [g]; decide) h9)))
      exact hgood I1 J1 _ _ _ g h1 f1
    · exact q_aload_n (pc' := 72) dX11_deviceLine_71 rfl rfl (q_getIe (pc' := 75) dX11_deviceLine_72 rfl fr_RX11_126 ⟨by omega, rfl⟩ rfl e8 (q_if_le (pc' := 78) (pt := 79) dX11_deviceLine_75 rfl rfl (fun h9 => absurd h9 (Int32.not_le.mpr (nI_lt (a := 0) (by omega) (Nat.lt_trans b8 (by decide))))) (fun _ => (q_vret dX11_deviceLine_78 rfl (hbad I1 J1 g h1 f1)))))
  have p27 : ∀ I1 J1, mRd I1 J1 T sz (dvA T sz D K) → mRf I J I1 J1 → Wq dd_X11_deviceLine (mj_mk w l 472 Y) Q 27 [some (.ref 452), some (.int (nI (D 0 2))), none, none, none, none, none] [] (472, I1, J1, R) := by
    intro I1 J1 h1 f1
    have hk1 := kOK_dvA (T := T) (D := D) hk
    refine q_aload_n (pc' := 28) dX11_deviceLine_27 rfl rfl (q_sVl (pc' := 31) dX11_deviceLine_28 rfl ml_RX11_224 yv_X11_nameHere (by decide) (rs_X11_nameHere h1 hk1) ⟨by omega, rfl⟩ rfl rfl (Nat.le_of_ble_eq_true rfl) (Nat.le_refl _) (fun x2 I2 ⟨r2, h2, f2⟩ => ?_))
    have hkn := kOK_nm hk1
    have rw2 : x2 = nJ (kWd (dvA T sz D K)) := by rw [r2]; unfold kWd; split <;> rfl
    rw [rw2]
    refine q_lst_2 (pc' := 32) dX11_deviceLine_31 rfl (by decide) rfl (q_iconst (pc' := 33) _ dX11_deviceLine_32 rfl kk_iconst_0 (q_ist_4 (pc' := 35) dX11_deviceLine_33 rfl (by decide) rfl ?_))
    by_cases g : kNm (dvA T sz D K) 8 = 0
    · have loop : ∀ m k, k + m = D 0 2 → dLast D (kWd (dvA T sz D K)) k = none → Wq dd_X11_deviceLine (mj_mk w l 472 Y) Q 35 [some (.ref 452), some (.int (nI (D 0 2))), some (.long (nJ (kWd (dvA T sz D K)))), none, some (.int (nI k)), none, none] [] (472, I2, J1, R) := by
        intro m
        induction m with
        | zero =>
          intro k hkm hdl
          have hkz : k = D 0 2 := by omega
          subst hkz
          refine q_iload (pc' := 37) dX11_deviceLine_35 rfl rfl (q_iload_n (pc' := 38) dX11_deviceLine_37 rfl rfl (q_icmp_ge (pc' := 41) (pt := 71) dX11_deviceLine_38 rfl rfl (fun _ => ?_) (fun h9 => absurd (by (first | assumption | exact nI_le (by omega) (by omega) | exact nI_ge (by omega) (by omega) | exact nI_lt (by omega) (by omega) | exact nI_nlt (by omega) (by omega) | exact nI_ne (by omega) (by omega) (by omega) | exact nI_e (by omega) | decide)) h9)))
          refine p71 I2 J1 _ _ _ ?_ (f1.tr f2)
          unfold dvB dvB1
          rw [if_neg (fun q => by rw [hdl] at q; cases q.2)]
          exact h2
        | succ m ih =>
          intro k hkm hdl
          have hs1 := bNm_lt hN (show k < D 0 2 by omega)
          have ej : J1 462 k = nJ (D 5 k) := by rw [f1.2.2 462 k (by omega)]; exact (hD.2.2 k (by omega)).2.2.2.2
          have next := ih (k + 1) (by omega)
          by_cases hc : D 5 k = kWd (dvA T sz D K)
          · refine q_iload (pc' := 37) dX11_deviceLine_35 rfl rfl (q_iload_n (pc' := 38) dX11_deviceLine_37 rfl rfl (q_icmp_ge (pc' := 41) (pt := 71) dX11_deviceLine_38 rfl rfl (fun h9 => absurd h9 (by (first | assumption | exact nI_le (by omega) (by omega) | exact nI_ge (by omega) (by omega) | exact nI_lt (by omega) (by omega) | exact nI_nlt (by omega) (by omega) | exact nI_ne (by omega) (by omega) (by omega) | exact nI_e (by omega) | decide))) (fun _ => (q_aload_n (pc' := 42) dX11_deviceLine_41 rfl rfl (q_cVi (pc' := 45) dX11_deviceLine_42 rfl ml_RX11_182 yv_X11_isGood (by decide) (rn_good h2 hkn) ⟨by omega, rfl⟩ rfl rfl (Nat.le_of_ble_eq_true rfl) (Nat.le_refl _) (q_ifb_eq (pc' := 48) (pt := 71) dX11_deviceLine_45 rfl rfl (fun h9 => Bool.noConfusion (Eq.trans (Eq.symm (beq_iff_eq.mpr g)) h9)) (fun _ => (q_aload_n (pc' := 49) dX11_deviceLine_48 rfl rfl (q_getR (pc' := 52) dX11_deviceLine_49 rfl fr_RX11_44 ⟨by omega, rfl⟩ rfl (wM_34 hM) (by decide) (q_iload (pc' := 54) dX11_deviceLine_52 rfl rfl (q_lalde (pc' := 55) _ dX11_deviceLine_54 rfl (by first | exact ⟨by omega, rfl⟩ | exact okaS hi hz (by decide) rfl | assumption) rfl (by omega) ej (q_lload_n (pc' := 56) dX11_deviceLine_55 rfl rfl (q_lcmp (pc' := 57) dX11_deviceLine_56 rfl (q_if_ne (pc' := 60) (pt := 65) dX11_deviceLine_57 rfl rfl (fun h9 => absurd ((lg_cmp_eq _ _).mpr (by rw [hc])) h9) (fun _ => (q_aload_n (pc' := 61) dX11_deviceLine_60 rfl rfl ?_))))))))))))))))
            refine q_iconst (pc' := 62) _ dX11_deviceLine_61 rfl kk_iconst_3 (q_sVv (pc' := 65) dX11_deviceLine_62 rfl ml_RX11_175 yv_X11_wrong (by decide) (rs_wrong (x := 3) h2 hkn (by decide)) ⟨by omega, rfl⟩ rfl rfl (Nat.le_of_ble_eq_true rfl) (Nat.le_refl _) (fun I3 ⟨h3, f3⟩ => ?_))
            have hsome : (dLast D (kWd (dvA T sz D K)) (D 0 2)).isSome = true := by
              have hm : ∀ n, (dLast D (kWd (dvA T sz D K)) (k + 1 + n)).isSome = true := by
                intro n
                induction n with
                | zero => show (dLast D _ (k + 1)).isSome = true; unfold dLast; rw [if_pos hc]; rfl
                | succ n ih2 =>
                  show (dLast D _ ((k + 1 + n) + 1)).isSome = true
                  unfold dLast
                  split
                  · rfl
                  · exact ih2
              have := hm m
              rw [show k + 1 + m = D 0 2 by omega] at this
              exact this
            have eB : dvB T sz D K = kW (kNm (dvA T sz D K)) 3 := if_pos ⟨g, hsome⟩
            have g3 : kW (kNm (dvA T sz D K)) 3 8 ≠ 0 := kW8 (by decide)
            have hk3 := kOK_w (x := 3) hkn (by decide)
            refine q_inc_4 (pc' := 68) dX11_deviceLine_65 rfl (by decide) rfl (q_goto (pc' := 35) dX11_deviceLine_68 rfl ?_)
            by_cases hz : m = 0
            · refine q_iload (pc' := 37) dX11_deviceLine_35 rfl rfl (q_iload_n (pc' := 38) dX11_deviceLine_37 rfl rfl (q_icmp_ge (pc' := 41) (pt := 71) dX11_deviceLine_38 rfl rfl (fun _ => ?_) (fun h9 => absurd (nI_le (by omega) (by omega)) h9)))
              exact p71 I3 J1 _ _ _ (by rw [eB]; exact h3) ((f1.tr f2).tr f3)
            · refine q_iload (pc' := 37) dX11_deviceLine_35 rfl rfl (q_iload_n (pc' := 38) dX11_deviceLine_37 rfl rfl (q_icmp_ge (pc' := 41) (pt := 71) dX11_deviceLine_38 rfl rfl (fun h9 => absurd h9 (Int32.not_le.mpr (nI_lt (by omega) (by omega)))) (fun _ => (q_aload_n (pc' := 42) dX11_deviceLine_41 rfl rfl (q_cVi (pc' := 45) dX11_deviceLine_42 rfl ml_RX11_182 yv_X11_isGood (by decide) (rn_good h3 hk3) ⟨by omega, rfl⟩ rfl rfl (Nat.le_of_ble_eq_true rfl) (Nat.le_refl _) (q_ifb_eq (pc' := 48) (pt := 71) dX11_deviceLine_45 rfl rfl (fun _ => ?_) (fun h9 => Bool.noConfusion (Eq.trans (Eq.symm (beq_eq_false_iff_ne.mpr g3)) h9))))))))
              exact p71 I3 J1 _ _ _ (by rw [eB]; exact h3) ((f1.tr f2).tr f3)
          · have hdl2 : dLast D (kWd (dvA T sz D K)) (k + 1) = none := by unfold dLast; rw [if_neg hc]; exact hdl
            refine q_iload (pc' := 37) dX11_deviceLine_35 rfl rfl (q_iload_n (pc' := 38) dX11_deviceLine_37 rfl rfl (q_icmp_ge (pc' := 41) (pt := 71) dX11_deviceLine_38 rfl rfl (fun h9 => absurd h9 (by (first | assumption | exact nI_le (by omega) (by omega) | exact nI_ge (by omega) (by omega) | exact nI_lt (by omega) (by omega) | exact nI_nlt (by omega) (by omega) | exact nI_ne (by omega) (by omega) (by omega) | exact nI_e (by omega) | decide))) (fun _ => (q_aload_n (pc' := 42) dX11_deviceLine_41 rfl rfl (q_cVi (pc' := 45) dX11_deviceLine_42 rfl ml_RX11_182 yv_X11_isGood (by decide) (rn_good h2 hkn) ⟨by omega, rfl⟩ rfl rfl (Nat.le_of_ble_eq_true rfl) (Nat.le_refl _) (q_ifb_eq (pc' := 48) (pt := 71) dX11_deviceLine_45 rfl rfl (fun h9 => Bool.noConfusion (Eq.trans (Eq.symm (beq_iff_eq.mpr g)) h9)) (fun _ => (q_aload_n (pc' := 49) dX11_deviceLine_48 rfl rfl (q_getR (pc' := 52) dX11_deviceLine_49 rfl fr_RX11_44 ⟨by omega, rfl⟩ rfl (wM_34 hM) (by decide) (q_iload (pc' := 54) dX11_deviceLine_52 rfl rfl (q_lalde (pc' := 55) _ dX11_deviceLine_54 rfl (by first | exact ⟨by omega, rfl⟩ | exact okaS hi hz (by decide) rfl | assumption) rfl (by omega) ej (q_lload_n (pc' := 56) dX11_deviceLine_55 rfl rfl (q_lcmp (pc' := 57) dX11_deviceLine_56 rfl (q_if_ne (pc' := 60) (pt := 65) dX11_deviceLine_57 rfl rfl (fun _ => (q_inc_4 (pc' := 68) dX11_deviceLine_65 rfl (by decide) rfl ?_)) (fun h9 => absurd h9 (fun q => hc ((nJ_eq (by omega) hwd).mp ((lg_cmp_eq _ _).mp q))))))))))))))))))
            refine q_goto (pc' := 35) dX11_deviceLine_68 rfl ?_
            exact next hdl2
      exact loop (D 0 2) 0 (by omega) rfl
    · have eB : dvB T sz D K = kNm (dvA T sz D K) := if_neg (fun q => g q.1)
      by_cases hz : D 0 2 = 0
      · refine q_iload (pc' := 37) dX11_deviceLine_35 rfl rfl (q_iload_n (pc' := 38) dX11_deviceLine_37 rfl rfl (q_icmp_ge (pc' := 41) (pt := 71) dX11_deviceLine_38 rfl rfl (fun _ => ?_) (fun h9 => absurd (nI_le (by omega) (by omega)) h9)))
        exact p71 I2 J1 _ _ _ (by rw [eB]; exact h2) (f1.tr f2)
      · refine q_iload (pc' := 37) dX11_deviceLine_35 rfl rfl (q_iload_n (pc' := 38) dX11_deviceLine_37 rfl rfl (q_icmp_ge (pc' := 41) (pt := 71) dX11_deviceLine_38 rfl rfl (fun h9 => absurd h9 (Int32.not_le.mpr (nI_lt (by omega) (by omega)))) (fun _ => (q_aload_n (pc' := 42) dX11_deviceLine_41 rfl rfl (q_cVi (pc' := 45) dX11_deviceLine_42 rfl ml_RX11_182 yv_X11_isGood (by decide) (rn_good h2 hkn) ⟨by omega, rfl⟩ rfl rfl (Nat.le_of_ble_eq_true rfl) (Nat.le_refl _) (q_ifb_eq (pc' := 48) (pt := 71) dX11_deviceLine_45 rfl rfl (fun _ => ?_) (fun h9 => Bool.noConfusion (Eq.trans (Eq.symm (beq_eq_false_iff_ne.mpr g)) h9))))))))
        exact p71 I2 J1 _ _ _ (by rw [eB]; exact h2) (f1.tr f2)
  have p16 : ∀ I1, mRd I1 J T sz (if D 0 2 = 10 then kW K 2 else K) → kOK sz (if D 0 2 = 10 then kW K 2 else K) → mRf I J I1 J → Wq dd_X11_deviceLine (mj_mk w l 472 Y) Q 16 [some (.ref 452), some (.int (nI (D 0 2))), none, none, none, none, none] [] (472, I1, J, R) := by
    intro I1 h1 hk1 f1
    by_cases g : (if D 0 2 = 10 then kW K 2 else K) 8 = 0
    · refine q_aload_n (pc' := 17) dX11_deviceLine_16 rfl rfl (q_cVi (pc' := 20) dX11_deviceLine_17 rfl ml_RX11_182 yv_X11_isGood (by decide) (rn_good h1 hk1) ⟨by omega, rfl⟩ rfl rfl (Nat.le_of_ble_eq_true rfl) (Nat.le_refl _) (q_ifb_eq (pc' := 23) (pt := 27) dX11_deviceLine_20 rfl rfl (fun h9 => Bool.noConfusion (Eq.trans (Eq.symm (beq_iff_eq.mpr g)) h9)) (fun _ => (q_aload_n (pc' := 24) dX11_deviceLine_23 rfl rfl (q_tVv (pc' := 27) dX11_deviceLine_24 rfl ml_RX11_186 yv_X11_goOn (by decide) (rt_X11_goOn hM h1 hk1.1) ⟨by omega, rfl⟩ rfl rfl (Nat.le_of_ble_eq_true rfl) (Nat.le_refl _) (fun I2 J2 R2 ⟨h2, f2, eR⟩ => ?_))))))
      rw [eR]
      exact p27 I2 J2 (by unfold dvA kG; rw [if_pos g]; exact h2) (f1.tr f2)
    · refine q_aload_n (pc' := 17) dX11_deviceLine_16 rfl rfl (q_cVi (pc' := 20) dX11_deviceLine_17 rfl ml_RX11_182 yv_X11_isGood (by decide) (rn_good h1 hk1) ⟨by omega, rfl⟩ rfl rfl (Nat.le_of_ble_eq_true rfl) (Nat.le_refl _) (q_ifb_eq (pc' := 23) (pt := 27) dX11_deviceLine_20 rfl rfl (fun _ => ?_) (fun h9 => Bool.noConfusion (Eq.trans (Eq.symm (beq_eq_false_iff_ne.mpr g)) h9))))
      exact p27 I1 J (by unfold dvA kG; rw [if_neg g]; exact h1) f1
  by_cases e10 : D 0 2 = 10
  · rw [if_pos e10] at p16
    refine q_aload_n (pc' := 1) dX11_deviceLine_0 rfl rfl (q_getIe (pc' := 4) dX11_deviceLine_1 rfl fr_RX11_208 ⟨by omega, rfl⟩ rfl hD.1.2.2.2.2 (q_ist_1 (pc' := 5) dX11_deviceLine_4 rfl (by decide) rfl (q_iload_n (pc' := 6) dX11_deviceLine_5 rfl rfl (q_bipush (pc' := 8) _ dX11_deviceLine_6 rfl kk_bipush_10 (q_icmp_ne (pc' := 11) (pt := 16) dX11_deviceLine_8 rfl rfl (fun h9 => absurd (congrArg nI e10) h9) (fun _ => (q_aload_n (pc' := 12) dX11_deviceLine_11 rfl rfl (q_iconst (pc' := 13) _ dX11_deviceLine_12 rfl kk_iconst_2 (q_sVv (pc' := 16) dX11_deviceLine_13 rfl ml_RX11_175 yv_X11_wrong (by decide) (rs_wrong (x := 2) h hk (by decide)) ⟨by omega, rfl⟩ rfl rfl (Nat.le_of_ble_eq_true rfl) (Nat.le_refl _) (fun I2 ⟨h2, f2⟩ => ?_))))))))))
    exact p16 I2 h2 (kOK_w hk (by decide)) f2
  · rw [if_neg e10] at p16
    refine q_aload_n (pc' := 1) dX11_deviceLine_0 rfl rfl (q_getIe (pc' := 4) dX11_deviceLine_1 rfl fr_RX11_208 ⟨by omega, rfl⟩ rfl hD.1.2.2.2.2 (q_ist_1 (pc' := 5) dX11_deviceLine_4 rfl (by decide) rfl (q_iload_n (pc' := 6) dX11_deviceLine_5 rfl rfl (q_bipush (pc' := 8) _ dX11_deviceLine_6 rfl kk_bipush_10 (q_icmp_ne (pc' := 11) (pt := 16) dX11_deviceLine_8 rfl rfl (fun _ => ?_) (fun h9 => absurd h9 (nI_ne e10 (by omega) (by omega))))))))
    exact p16 I h hk mRf.rf
end M37
