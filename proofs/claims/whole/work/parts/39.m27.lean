/-! ===== the reference: what it reads ===== -/
def kU (K : Nat → Nat) (f x : Nat) : Nat → Nat := fun g => if g = f then x else K g
theorem kU_eq {K : Nat → Nat} {f x : Nat} : kU K f x f = x := if_pos rfl
theorem kU_ne {K : Nat → Nat} {f x g : Nat} (h : g ≠ f) : kU K f x g = K g := if_neg h
/-- the reader: 3: where it is; 4: PLACE, 5: what it is, 6: its number, 7: its letters; 8: the FAULT; 9: its PLACE and 1; 12: the word -/
def mRd (I : mj_M) (J : mj_J) (T : Nat → Nat) (sz : Nat) (K : Nat → Nat) : Prop := I 452 2 = nI sz ∧ sz ≤ 800 ∧ (∀ f, 3 ≤ f → f < 9 → I 452 f = nI (K f)) ∧ I 452 9 = (if K 9 = 0 then -1 else nI (K 9 - 1)) ∧ J 452 12 = nJ (K 12) ∧ ∀ k, k < sz → I 453 k = nI (T k) ∧ T k < 256
/-- nothing has changed but the reader -/
def mRf (I : mj_M) (J : mj_J) (I' : mj_M) (J' : mj_J) : Prop := (∀ a, a ≠ 452 → I' a = I a) ∧ (∀ f, f < 3 ∨ 9 < f → I' 452 f = I 452 f) ∧ ∀ a f, ¬ (a = 452 ∧ f = 12) → J' a f = J a f
theorem mRf.rf {I : mj_M} {J : mj_J} : mRf I J I J := ⟨fun _ _ => rfl, fun _ _ => rfl, fun _ _ _ => rfl⟩
theorem mRf.tr {I I' I2 : mj_M} {J J' J2 : mj_J} (h : mRf I J I' J') (h2 : mRf I' J' I2 J2) : mRf I J I2 J2 := ⟨fun a h1 => (h2.1 a h1).trans (h.1 a h1), fun f h1 => (h2.2.1 f h1).trans (h.2.1 f h1), fun a f h1 => (h2.2.2 a f h1).trans (h.2.2 a f h1)⟩
theorem mRd_put {I : mj_M} {J : mj_J} {T : Nat → Nat} {sz : Nat} {K : Nat → Nat} (f x : Nat) (h : mRd I J T sz K) (h3 : 3 ≤ f) (h9 : f < 9) : mRd (mj_up I 452 f (nI x)) J T sz (kU K f x) ∧ mRf I J (mj_up I 452 f (nI x)) J := by
  refine ⟨⟨?_, h.2.1, fun g g3 g9 => ?_, ?_, ?_, fun k hk => ?_⟩, fun a ha => up_fI ha, fun g hg => mj_up_ne2 (by omega), fun _ _ _ => rfl⟩
  · rw [mj_up_ne2 (by omega)]; exact h.1
  · by_cases e : g = f
    · subst e; rw [mj_up_eq, kU_eq]
    · rw [mj_up_ne2 e, kU_ne e]; exact h.2.2.1 g g3 g9
  · rw [mj_up_ne2 (by omega), kU_ne (by omega)]; exact h.2.2.2.1
  · rw [kU_ne (by omega)]; exact h.2.2.2.2.1
  · rw [mj_up_ne (by decide)]; exact h.2.2.2.2.2 k hk
theorem mRd_fp {I : mj_M} {J : mj_J} {T : Nat → Nat} {sz : Nat} {K : Nat → Nat} (x : Nat) (h : mRd I J T sz K) : mRd (mj_up I 452 9 (nI x)) J T sz (kU K 9 (x + 1)) ∧ mRf I J (mj_up I 452 9 (nI x)) J := by
  refine ⟨⟨?_, h.2.1, fun g g3 g9 => ?_, ?_, ?_, fun k hk => ?_⟩, fun a ha => up_fI ha, fun g hg => mj_up_ne2 (by omega), fun _ _ _ => rfl⟩
  · rw [mj_up_ne2 (by decide)]; exact h.1
  · rw [mj_up_ne2 (by omega), kU_ne (by omega)]; exact h.2.2.1 g g3 g9
  · rw [mj_up_eq, kU_eq, if_neg (by omega), Nat.add_sub_cancel]
  · rw [kU_ne (by decide)]; exact h.2.2.2.2.1
  · rw [mj_up_ne (by decide)]; exact h.2.2.2.2.2 k hk
theorem mRd_wd {I : mj_M} {J : mj_J} {T : Nat → Nat} {sz : Nat} {K : Nat → Nat} (x : Nat) (h : mRd I J T sz K) : mRd I (mj_up J 452 12 (nJ x)) T sz (kU K 12 x) ∧ mRf I J I (mj_up J 452 12 (nJ x)) := by
  refine ⟨⟨h.1, h.2.1, fun g g3 g9 => ?_, ?_, ?_, h.2.2.2.2.2⟩, fun _ _ => rfl, fun _ _ => rfl, fun a f hf => ?_⟩
  · rw [kU_ne (by omega)]; exact h.2.2.1 g g3 g9
  · rw [kU_ne (by decide)]; exact h.2.2.2.1
  · rw [mj_up_eq, kU_eq]
  · unfold mj_up; exact if_neg hf
def hv (T : Nat → Nat) (sz i : Nat) : Int32 := if i < sz then nI (T i) else -1
def tLt (T : Nat → Nat) (sz i : Nat) : Bool := decide (i < sz ∧ 97 ≤ T i ∧ T i ≤ 122)
def tDg (T : Nat → Nat) (sz i : Nat) : Bool := decide (i < sz ∧ 48 ≤ T i ∧ T i ≤ 57)
def tBl (T : Nat → Nat) (sz i : Nat) : Bool := decide (i < sz ∧ (T i = 32 ∨ T i = 10))
theorem hv_in {T : Nat → Nat} {sz i x y : Nat} (hT : i < sz → T i < 256) (hy : y < 256) (hx : x ≤ y) : decide (nI x ≤ hv T sz i ∧ hv T sz i ≤ nI y) = decide (i < sz ∧ x ≤ T i ∧ T i ≤ y) := by
  rw [decide_eq_decide]
  unfold hv
  by_cases h : i < sz
  · have := hT h
    rw [if_pos h, nI_leI (by omega) (by omega), nI_leI (by omega) (by omega)]
    exact ⟨fun q => ⟨h, q⟩, fun q => q.2⟩
  · rw [if_neg h]
    refine ⟨fun q => ?_, fun q => absurd q.1 h⟩
    have q1 := q.1
    rw [Int32.le_iff_toInt_le, nI_toInt (by omega)] at q1
    have : ((-1 : Int32)).toInt = -1 := by decide
    omega
theorem hv_eq {T : Nat → Nat} {sz i x : Nat} (hT : i < sz → T i < 256) (hx : x < 256) : hv T sz i = nI x ↔ (i < sz ∧ T i = x) := by
  unfold hv
  by_cases h : i < sz
  · have := hT h
    rw [if_pos h, nI_eq (by omega) (by omega)]
    exact ⟨fun q => ⟨h, q⟩, fun q => q.2⟩
  · rw [if_neg h]
    exact ⟨fun q => absurd q.symm (nI_m1 (by omega)), fun q => absurd q.1 h⟩
section M27
variable {w : mj_Wd} {l : Launch} {I : mj_M} {J : mj_J} {R : mj_R} {b A : St} {T : Nat → Nat} {sz : Nat} {K : Nat → Nat}
theorem rn_X11_here {k : Nat} (hM : mj_wM R) (h : mRd I J T sz K) (hk : K 3 + k < 2 ^ 20) : Rn w l yX11_here dd_X11_here [.ref 452, .int (nI k)] (472, I, J, R) (some (.int (hv T sz (K 3 + k)))) (472, I, J, R) := by
  have h3 := h.2.2.1 3 (by decide) (by decide)
  have h8 := h.2.1
  unfold hv
  refine rn_intro2 (L := [some (.ref 452), some (.int (nI k))]) ⟨by decide, rfl, (fun h => by cases h)⟩ (Nat.le_refl _) (Nat.le_of_ble_eq_true rfl) rfl (fun Y Q hQ => ?_)
  refine q_aload_n (pc' := 1) dX11_here_0 rfl rfl (q_getIe (pc' := 4) dX11_here_1 rfl fr_RX11_93 ⟨by omega, rfl⟩ rfl h3 (q_iload_n (pc' := 5) dX11_here_4 rfl rfl (q_iadd (pc' := 6) dX11_here_5 rfl ?_)))
  refine q_top (nI_add _ _) ?_
  by_cases hc : K 3 + k < sz
  · rw [if_pos hc] at hQ
    exact q_aload_n (pc' := 7) dX11_here_6 rfl rfl (q_getIe (pc' := 10) dX11_here_7 rfl fr_RX11_96 ⟨by omega, rfl⟩ rfl h.1 (q_icmp_ge (pc' := 13) (pt := 27) dX11_here_10 rfl rfl (fun h9 => absurd h9 (Int32.not_le.mpr (nI_lt hc (by omega)))) (fun _ => (q_aload_n (pc' := 14) dX11_here_13 rfl rfl (q_getR (pc' := 17) dX11_here_14 rfl fr_RX11_7 ⟨by omega, rfl⟩ rfl (wM_0 hM) (by decide) (q_aload_n (pc' := 18) dX11_here_17 rfl rfl (q_getIe (pc' := 21) dX11_here_18 rfl fr_RX11_93 ⟨by omega, rfl⟩ rfl h3 (q_iload_n (pc' := 22) dX11_here_21 rfl rfl (q_iadd (pc' := 23) dX11_here_22 rfl (q_ialde (pc' := 24) (K 3 + k) dX11_here_23 rfl (by first | exact ⟨by omega, rfl⟩ | exact okaS hi hz (by decide) rfl | assumption) (by (first | (simp only [nI_add, pk_mul]; done) | (simp only [nI_add, pk_mul]; exact nI_e (by omega)) | exact nI_e (by omega))) (by omega) (h.2.2.2.2.2 _ hc).1 (q_goto (pc' := 28) dX11_here_24 rfl (q_iret dX11_here_28 rfl hQ))))))))))))
  · rw [if_neg hc] at hQ
    exact q_aload_n (pc' := 7) dX11_here_6 rfl rfl (q_getIe (pc' := 10) dX11_here_7 rfl fr_RX11_96 ⟨by omega, rfl⟩ rfl h.1 (q_icmp_ge (pc' := 13) (pt := 27) dX11_here_10 rfl rfl (fun _ => (q_iconst (pc' := 28) _ dX11_here_27 rfl kk_iconst_m1 (q_iret dX11_here_28 rfl hQ))) (fun h9 => absurd (nI_le (by omega) (by omega)) h9)))
theorem rn_X11_isGood (h : mRd I J T sz K) (hf : K 8 < 10) : Rn w l yX11_isGood dd_X11_isGood [.ref 452] (472, I, J, R) (some (.int (bI (K 8 == 0)))) (472, I, J, R) := by
  have h8 := h.2.2.1 8 (by decide) (by decide)
  refine rn_intro2 (L := [some (.ref 452)]) ⟨by decide, rfl, (fun h => by cases h)⟩ (Nat.le_refl _) (Nat.le_of_ble_eq_true rfl) rfl (fun Y Q hQ => ?_)
  exact q_aload_n (pc' := 1) dX11_isGood_0 rfl rfl (q_getIe (pc' := 4) dX11_isGood_1 rfl fr_RX11_126 ⟨by omega, rfl⟩ rfl h8 (q_bl_if_ne (p4 := 12) dX11_isGood_4 dX11_isGood_7 dX11_isGood_8 dX11_isGood_11 rfl rfl rfl rfl rfl (q_zret dX11_isGood_12 rfl (by first | exact Or.inl rfl | exact Or.inr rfl | exact bI_01 _) (by rw [← nI_dec (by omega) (by omega)] at hQ; exact hQ))))
theorem rs_X11_wrong {x : Nat} (h : mRd I J T sz K) (hf : K 8 < 10) (h5 : K 5 < 5) (hx : x < 10) : RsV w l yX11_wrong dd_X11_wrong [.ref 452, .int (nI x)] (472, I, J, R) (fun I' => mRd I' J T sz (if K 8 = 0 then kU (kU K 8 (if K 5 = 4 then 1 else x)) 9 (K 4 + 1) else K) ∧ mRf I J I' J) := by
  have e8 := h.2.2.1 8 (by decide) (by decide)
  have e5 := h.2.2.1 5 (by decide) (by decide)
  have e4 := h.2.2.1 4 (by decide) (by decide)
  refine rt_intro2 (L := [some (.ref 452), some (.int (nI x))]) ⟨by decide, rfl, (fun h => by cases h)⟩ (Nat.le_of_ble_eq_true rfl) rfl (fun Y Q hQ => ?_)
  by_cases h0 : K 8 = 0
  · rw [if_pos h0] at hQ
    have tail : ∀ y, (if K 5 = 4 then 1 else x) = y → Wq dd_X11_wrong (mj_mk w l 472 Y) Q 22 [some (.ref 452), some (.int (nI x))] [.int (nI y), .ref 452] (472, I, J, R) := by
      intro y hy
      rw [hy] at hQ
      have p1 := mRd_put 8 y h (by decide) (by decide)
      have p2 := mRd_fp (K 4) p1.1
      have e := p1.1.2.2.1 4 (by decide) (by decide)
      exact q_putI (pc' := 25) dX11_wrong_22 rfl fl_RX11_126 ⟨by omega, rfl⟩ rfl (q_aload_n (pc' := 26) dX11_wrong_25 rfl rfl (q_aload_n (pc' := 27) dX11_wrong_26 rfl rfl (q_getIe (pc' := 30) dX11_wrong_27 rfl fr_RX11_103 ⟨by omega, rfl⟩ rfl e (q_putI (pc' := 33) dX11_wrong_30 rfl fl_RX11_13 ⟨by omega, rfl⟩ rfl (q_vret dX11_wrong_33 rfl (hQ _ _ _ _ ⟨rfl, ⟨rfl, rfl⟩, p2.1, p1.2.tr p2.2⟩))))))
    by_cases h4 : K 5 = 4
    · refine q_aload_n (pc' := 1) dX11_wrong_0 rfl rfl (q_getIe (pc' := 4) dX11_wrong_1 rfl fr_RX11_126 ⟨by omega, rfl⟩ rfl e8 (q_if_le (pc' := 7) (pt := 8) dX11_wrong_4 rfl rfl (fun _ => (q_aload_n (pc' := 9) dX11_wrong_8 rfl rfl (q_aload_n (pc' := 10) dX11_wrong_9 rfl rfl (q_getIe (pc' := 13) dX11_wrong_10 rfl fr_RX11_116 ⟨by omega, rfl⟩ rfl e5 (q_iconst (pc' := 14) _ dX11_wrong_13 rfl kk_iconst_4 (q_icmp_ne (pc' := 17) (pt := 21) dX11_wrong_14 rfl rfl (fun h9 => absurd (congrArg nI h4) h9) (fun _ => (q_iconst (pc' := 18) _ dX11_wrong_17 rfl kk_iconst_1 (q_goto (pc' := 22) dX11_wrong_18 rfl ?_))))))))) (fun h9 => absurd (by rw [h0]; decide) h9)))
      exact tail 1 (if_pos h4)
    · refine q_aload_n (pc' := 1) dX11_wrong_0 rfl rfl (q_getIe (pc' := 4) dX11_wrong_1 rfl fr_RX11_126 ⟨by omega, rfl⟩ rfl e8 (q_if_le (pc' := 7) (pt := 8) dX11_wrong_4 rfl rfl (fun _ => (q_aload_n (pc' := 9) dX11_wrong_8 rfl rfl (q_aload_n (pc' := 10) dX11_wrong_9 rfl rfl (q_getIe (pc' := 13) dX11_wrong_10 rfl fr_RX11_116 ⟨by omega, rfl⟩ rfl e5 (q_iconst (pc' := 14) _ dX11_wrong_13 rfl kk_iconst_4 (q_icmp_ne (pc' := 17) (pt := 21) dX11_wrong_14 rfl rfl (fun _ => (q_iload_n (pc' := 22) dX11_wrong_21 rfl rfl ?_)) (fun h9 => absurd h9 (nI_ne h4 (by omega) (by omega))))))))) (fun h9 => absurd (by rw [h0]; decide) h9)))
      exact tail x (if_neg h4)
  · rw [if_neg h0] at hQ
    exact q_aload_n (pc' := 1) dX11_wrong_0 rfl rfl (q_getIe (pc' := 4) dX11_wrong_1 rfl fr_RX11_126 ⟨by omega, rfl⟩ rfl e8 (q_if_le (pc' := 7) (pt := 8) dX11_wrong_4 rfl rfl (fun h9 => absurd h9 (Int32.not_le.mpr (nI_lt (a := 0) (by omega) (by omega)))) (fun _ => (q_vret dX11_wrong_7 rfl (hQ _ _ _ _ ⟨rfl, ⟨rfl, rfl⟩, h, mRf.rf⟩)))))
theorem rn_X11_isWord {x : Nat} (h : mRd I J T sz K) (hf : K 8 < 10) (h5 : K 5 < 5) (hw : K 12 < 2 ^ 63) (hx : x < 2 ^ 63) : Rn w l yX11_isWord dd_X11_isWord [.ref 452, .long (nJ x)] (472, I, J, R) (some (.int (bI ((K 8 == 0) && (K 5 == 1) && (K 12 == x))))) (472, I, J, R) := by
  have e8 := h.2.2.1 8 (by decide) (by decide)
  have e5 := h.2.2.1 5 (by decide) (by decide)
  have e12 := h.2.2.2.2.1
  refine rn_intro2 (L := [some (.ref 452), some (.long (nJ x)), none]) ⟨by decide, rfl, (fun h => by cases h)⟩ (Nat.le_refl _) (Nat.le_of_ble_eq_true rfl) rfl (fun Y Q hQ => ?_)
  by_cases h0 : K 8 = 0
  · by_cases h1 : K 5 = 1
    · by_cases h2 : K 12 = x
      · refine q_aload_n (pc' := 1) dX11_isWord_0 rfl rfl (q_getIe (pc' := 4) dX11_isWord_1 rfl fr_RX11_126 ⟨by omega, rfl⟩ rfl e8 (q_if_ne (pc' := 7) (pt := 28) dX11_isWord_4 rfl rfl (fun h9 => absurd (congrArg nI h0) h9) (fun _ => (q_aload_n (pc' := 8) dX11_isWord_7 rfl rfl (q_getIe (pc' := 11) dX11_isWord_8 rfl fr_RX11_116 ⟨by omega, rfl⟩ rfl e5 (q_iconst (pc' := 12) _ dX11_isWord_11 rfl kk_iconst_1 (q_icmp_ne (pc' := 15) (pt := 28) dX11_isWord_12 rfl rfl (fun h9 => absurd (congrArg nI h1) h9) (fun _ => (q_aload_n (pc' := 16) dX11_isWord_15 rfl rfl (q_getJ (pc' := 19) dX11_isWord_16 rfl fr_RX11_106 ⟨by omega, rfl⟩ rfl (q_lload_n (pc' := 20) dX11_isWord_19 rfl rfl (q_lcmp (pc' := 21) dX11_isWord_20 rfl (q_if_ne (pc' := 24) (pt := 28) dX11_isWord_21 rfl rfl (fun h9 => absurd ((lg_cmp_eq _ _).mpr (by rw [e12, h2])) h9) (fun _ => (q_iconst (pc' := 25) _ dX11_isWord_24 rfl kk_iconst_1 (q_goto (pc' := 29) dX11_isWord_25 rfl ?_))))))))))))))))
        exact q_zret dX11_isWord_29 rfl (by first | exact Or.inl rfl | exact Or.inr rfl | exact bI_01 _) (by rw [beq_iff_eq.mpr h0, beq_iff_eq.mpr h1, beq_iff_eq.mpr h2] at hQ; exact hQ)
      · exact q_aload_n (pc' := 1) dX11_isWord_0 rfl rfl (q_getIe (pc' := 4) dX11_isWord_1 rfl fr_RX11_126 ⟨by omega, rfl⟩ rfl e8 (q_if_ne (pc' := 7) (pt := 28) dX11_isWord_4 rfl rfl (fun h9 => absurd (congrArg nI h0) h9) (fun _ => (q_aload_n (pc' := 8) dX11_isWord_7 rfl rfl (q_getIe (pc' := 11) dX11_isWord_8 rfl fr_RX11_116 ⟨by omega, rfl⟩ rfl e5 (q_iconst (pc' := 12) _ dX11_isWord_11 rfl kk_iconst_1 (q_icmp_ne (pc' := 15) (pt := 28) dX11_isWord_12 rfl rfl (fun h9 => absurd (congrArg nI h1) h9) (fun _ => (q_aload_n (pc' := 16) dX11_isWord_15 rfl rfl (q_getJ (pc' := 19) dX11_isWord_16 rfl fr_RX11_106 ⟨by omega, rfl⟩ rfl (q_lload_n (pc' := 20) dX11_isWord_19 rfl rfl (q_lcmp (pc' := 21) dX11_isWord_20 rfl (q_if_ne (pc' := 24) (pt := 28) dX11_isWord_21 rfl rfl (fun _ => (q_iconst (pc' := 29) _ dX11_isWord_28 rfl kk_iconst_0 (q_zret dX11_isWord_29 rfl (by first | exact Or.inl rfl | exact Or.inr rfl | exact bI_01 _) (by rw [beq_eq_false_iff_ne.mpr h2, Bool.and_false] at hQ; exact hQ)))) (fun h9 => absurd h9 (fun q => h2 ((nJ_eq hw hx).mp (e12.symm.trans ((lg_cmp_eq _ _).mp q))))))))))))))))))
    · exact q_aload_n (pc' := 1) dX11_isWord_0 rfl rfl (q_getIe (pc' := 4) dX11_isWord_1 rfl fr_RX11_126 ⟨by omega, rfl⟩ rfl e8 (q_if_ne (pc' := 7) (pt := 28) dX11_isWord_4 rfl rfl (fun h9 => absurd (congrArg nI h0) h9) (fun _ => (q_aload_n (pc' := 8) dX11_isWord_7 rfl rfl (q_getIe (pc' := 11) dX11_isWord_8 rfl fr_RX11_116 ⟨by omega, rfl⟩ rfl e5 (q_iconst (pc' := 12) _ dX11_isWord_11 rfl kk_iconst_1 (q_icmp_ne (pc' := 15) (pt := 28) dX11_isWord_12 rfl rfl (fun _ => (q_iconst (pc' := 29) _ dX11_isWord_28 rfl kk_iconst_0 (q_zret dX11_isWord_29 rfl (by first | exact Or.inl rfl | exact Or.inr rfl | exact bI_01 _) (by rw [beq_eq_false_iff_ne.mpr h1, Bool.and_false, Bool.false_and] at hQ; exact hQ)))) (fun h9 => absurd h9 (nI_ne h1 (by omega) (by omega))))))))))
  · exact q_aload_n (pc' := 1) dX11_isWord_0 rfl rfl (q_getIe (pc' := 4) dX11_isWord_1 rfl fr_RX11_126 ⟨by omega, rfl⟩ rfl e8 (q_if_ne (pc' := 7) (pt := 28) dX11_isWord_4 rfl rfl (fun _ => (q_iconst (pc' := 29) _ dX11_isWord_28 rfl kk_iconst_0 (q_zret dX11_isWord_29 rfl (by first | exact Or.inl rfl | exact Or.inr rfl | exact bI_01 _) (by rw [beq_eq_false_iff_ne.mpr h0, Bool.false_and, Bool.false_and] at hQ; exact hQ)))) (fun h9 => absurd h9 (nI_ne (b := 0) h0 (by omega) (by omega)))))
end M27
