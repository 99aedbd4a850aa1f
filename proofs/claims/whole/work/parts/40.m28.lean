/-! ===== the reference: the next TOKEN ===== -/
theorem mRd_of {I : mj_M} {J : mj_J} {T : Nat → Nat} {sz : Nat} {K K' : Nat → Nat} (h : mRd I J T sz K) (h3 : K' 3 = K 3) (h4 : K' 4 = K 4) (h5 : K' 5 = K 5) (h6 : K' 6 = K 6) (h7 : K' 7 = K 7) (h8 : K' 8 = K 8) (h9 : K' 9 = K 9) (h12 : K' 12 = K 12) : mRd I J T sz K' := by
  refine ⟨h.1, h.2.1, fun f g3 g9 => ?_, by rw [h9]; exact h.2.2.2.1, by rw [h12]; exact h.2.2.2.2.1, h.2.2.2.2.2⟩
  have hc : f = 3 ∨ f = 4 ∨ f = 5 ∨ f = 6 ∨ f = 7 ∨ f = 8 := by omega
  have := h.2.2.1 f g3 g9
  rcases hc with rfl | rfl | rfl | rfl | rfl | rfl
  · rw [h3]; exact this
  · rw [h4]; exact this
  · rw [h5]; exact this
  · rw [h6]; exact this
  · rw [h7]; exact this
  · rw [h8]; exact this
/-- where a stretch ends -/
def tkE (P : Nat → Bool) : Nat → Nat → Nat
  | 0, i => i
  | f + 1, i => if P i = true then tkE P f (i + 1) else i
theorem tkE_ge (P : Nat → Bool) (f i : Nat) : i ≤ tkE P f i := by
  induction f generalizing i with
  | zero => exact Nat.le_refl _
  | succ f ih =>
    unfold tkE
    split
    · exact Nat.le_trans (Nat.le_succ i) (ih (i + 1))
    · exact Nat.le_refl _
theorem tkE_le {P : Nat → Bool} {sz : Nat} (hP : ∀ i, P i = true → i < sz) (f i : Nat) (h : i ≤ sz) : tkE P f i ≤ sz := by
  induction f generalizing i with
  | zero => exact h
  | succ f ih =>
    unfold tkE
    split
    · rename_i hc; exact ih (i + 1) (hP i hc)
    · exact h
def wV (T : Nat → Nat) (a : Nat) : Nat → Nat
  | 0 => 0
  | n + 1 => if n < 8 then wV T a n * 256 + T (a + n) else wV T a n
def nV (T : Nat → Nat) (a : Nat) : Nat → Nat
  | 0 => 0
  | n + 1 => if n < 3 then 10 * nV T a n + T (a + n) - 48 else nV T a n
/-- the reader at a TOKEN: its PLACE, what it is, its number, letters, word, its end -/
def tkP (K : Nat → Nat) (a srt val ltr wd en : Nat) : Nat → Nat := kU (kU (kU (kU (kU (kU K 3 en) 4 a) 5 srt) 6 val) 7 ltr) 12 wd
def tkK (T : Nat → Nat) (sz : Nat) (K : Nat → Nat) : Nat → Nat :=
  if ¬ tkE (tBl T sz) 801 (K 3) < sz then tkP K (tkE (tBl T sz) 801 (K 3)) 0 0 0 0 (tkE (tBl T sz) 801 (K 3)) else
  if tLt T sz (tkE (tBl T sz) 801 (K 3)) = true then
    tkP K (tkE (tBl T sz) 801 (K 3)) (if 8 < tkE (tLt T sz) 801 (tkE (tBl T sz) 801 (K 3)) - tkE (tBl T sz) 801 (K 3) then 4 else 1) 0 (tkE (tLt T sz) 801 (tkE (tBl T sz) 801 (K 3)) - tkE (tBl T sz) 801 (K 3)) (wV T (tkE (tBl T sz) 801 (K 3)) (tkE (tLt T sz) 801 (tkE (tBl T sz) 801 (K 3)) - tkE (tBl T sz) 801 (K 3))) (tkE (tLt T sz) 801 (tkE (tBl T sz) 801 (K 3)))
  else if tDg T sz (tkE (tBl T sz) 801 (K 3)) = true then
    tkP K (tkE (tBl T sz) 801 (K 3)) (if 3 < tkE (tDg T sz) 801 (tkE (tBl T sz) 801 (K 3)) - tkE (tBl T sz) 801 (K 3) ∨ tLt T sz (tkE (tDg T sz) 801 (tkE (tBl T sz) 801 (K 3))) = true then 4 else 2) (nV T (tkE (tBl T sz) 801 (K 3)) (tkE (tDg T sz) 801 (tkE (tBl T sz) 801 (K 3)) - tkE (tBl T sz) 801 (K 3))) 0 0 (tkE (tDg T sz) 801 (tkE (tBl T sz) 801 (K 3)))
  else tkP K (tkE (tBl T sz) 801 (K 3)) (if T (tkE (tBl T sz) 801 (K 3)) = 59 then 3 else 4) 0 0 0 (tkE (tBl T sz) 801 (K 3) + 1)
section M28
variable {w : mj_Wd} {l : Launch} {I : mj_M} {J : mj_J} {R : mj_R} {b A : St} {T : Nat → Nat} {sz : Nat} {K : Nat → Nat}
theorem hv_lt (hT : ∀ k, k < sz → T k < 256) (i : Nat) : decide (nI 97 ≤ hv T sz i ∧ hv T sz i ≤ nI 122) = tLt T sz i := hv_in (hT i) (by decide) (by decide)
theorem hv_dg (hT : ∀ k, k < sz → T k < 256) (i : Nat) : decide (nI 48 ≤ hv T sz i ∧ hv T sz i ≤ nI 57) = tDg T sz i := hv_in (hT i) (by decide) (by decide)
theorem rn_lt {h : mj_H} (hT : ∀ k, k < sz → T k < 256) (i : Nat) : Rn w l yX11_isLetter dd_X11_isLetter [.int (hv T sz i)] h (some (.int (bI (tLt T sz i)))) h := by
  rw [← hv_lt hT]; exact rn_X11_isLetter
theorem rn_dg {h : mj_H} (hT : ∀ k, k < sz → T k < 256) (i : Nat) : Rn w l yX11_isDigit dd_X11_isDigit [.int (hv T sz i)] h (some (.int (bI (tDg T sz i)))) h := by
  rw [← hv_dg hT]; exact rn_X11_isDigit
theorem rt_X11_goOn (hM : mj_wM R) (h : mRd I J T sz K) (hK : K 3 ≤ sz) : RtV w l yX11_goOn dd_X11_goOn [.ref 452] (472, I, J, R) (fun I' J' R' => mRd I' J' T sz (tkK T sz K) ∧ mRf I J I' J' ∧ R' = R) := by
  have h800 := h.2.1
  have hT : ∀ k, k < sz → T k < 256 := fun k hk => (h.2.2.2.2.2 k hk).2
  refine rt_intro2 (L := [some (.ref 452), none]) ⟨by decide, rfl, (fun h => by cases h)⟩ (Nat.le_of_ble_eq_true rfl) rfl (fun Y Q hQ => ?_)
  have rest : ∀ I0 a, a = tkE (tBl T sz) 801 (K 3) → a ≤ sz → mRd I0 J T sz (kU K 3 a) → mRf I J I0 J → Wq dd_X11_goOn (mj_mk w l 472 Y) Q 33 [some (.ref 452), none] [] (472, I0, J, R) := by
    intro I0 a ha has h0 hf0
    unfold tkK at hQ
    rw [← ha] at hQ
    have e3 : I0 452 3 = nI a := h0.2.2.1 3 (by decide) (by decide)
    have p1 := mRd_put 4 a h0 (by decide) (by decide)
    have p2 := mRd_wd 0 p1.1
    have p3 := mRd_put 6 0 p2.1 (by decide) (by decide)
    have p4 := mRd_put 7 0 p3.1 (by decide) (by decide)
    have f4 := ((hf0.tr p1.2).tr p2.2).tr (p3.2.tr p4.2)
    refine q_aload_n (pc' := 34) dX11_goOn_33 rfl rfl (q_aload_n (pc' := 35) dX11_goOn_34 rfl rfl (q_getIe (pc' := 38) dX11_goOn_35 rfl fr_RX11_93 ⟨by omega, rfl⟩ rfl e3 ?_))
    refine q_putI (pc' := 41) dX11_goOn_38 rfl fl_RX11_103 ⟨by omega, rfl⟩ rfl (q_iconst (pc' := 42) _ dX11_goOn_41 rfl kk_iconst_0 (q_ist_1 (pc' := 43) dX11_goOn_42 rfl (by decide) rfl (q_aload_n (pc' := 44) dX11_goOn_43 rfl rfl (q_lconst (pc' := 45) 0 dX11_goOn_44 rfl rfl (q_putJ (pc' := 48) dX11_goOn_45 rfl fl_RX11_106 ⟨by omega, rfl⟩ rfl (q_aload_n (pc' := 49) dX11_goOn_48 rfl rfl (q_iconst (pc' := 50) _ dX11_goOn_49 rfl kk_iconst_0 (q_putI (pc' := 53) dX11_goOn_50 rfl fl_RX11_110 ⟨by omega, rfl⟩ rfl (q_aload_n (pc' := 54) dX11_goOn_53 rfl rfl (q_iconst (pc' := 55) _ dX11_goOn_54 rfl kk_iconst_0 (q_putI (pc' := 58) dX11_goOn_55 rfl fl_RX11_113 ⟨by omega, rfl⟩ rfl ?_)))))))))))
    generalize mj_up (mj_up (mj_up I0 452 4 (nI a)) 452 6 (nI 0)) 452 7 (nI 0) = I1 at p4 f4 ⊢
    have h1 := p4.1
    have J1e : (mj_up J 452 12 (nJ 0)) = mj_up J 452 12 0 := rfl
    generalize mj_up J 452 12 (nJ 0) = J1 at h1 f4 J1e
    rw [← J1e]
    -- 249: on by n
    have fin : ∀ I2 J2 K2 n, mRd I2 J2 T sz K2 → mRf I J I2 J2 → K2 3 = a → a + n ≤ sz + 1 → (∀ I3, mRd I3 J2 T sz (kU K2 3 (a + n)) → mRf I J I3 J2 → Q none (472, I3, J2, R)) → Wq dd_X11_goOn (mj_mk w l 472 Y) Q 249 [some (.ref 452), some (.int (nI n))] [] (472, I2, J2, R) := by
      intro I2 J2 K2 n h2 hf2 hk3 hle hq
      have e := h2.2.2.1 3 (by decide) (by decide)
      rw [hk3] at e
      have p := mRd_put 3 (a + n) h2 (by decide) (by decide)
      refine q_aload_n (pc' := 250) dX11_goOn_249 rfl rfl (q_dup_a (pc' := 251) dX11_goOn_250 rfl (q_getIe (pc' := 254) dX11_goOn_251 rfl fr_RX11_93 ⟨by omega, rfl⟩ rfl e (q_iload_n (pc' := 255) dX11_goOn_254 rfl rfl (q_iadd (pc' := 256) dX11_goOn_255 rfl ?_))))
      refine q_top (nI_add a n) ?_
      exact q_putI (pc' := 259) dX11_goOn_256 rfl fl_RX11_93 ⟨by omega, rfl⟩ rfl (q_vret dX11_goOn_259 rfl (hq _ p.1 (hf2.tr p.2)))
    have hre : ∀ (I2 : mj_M) (J2 : mj_J) K2 n, mRd I2 J2 T sz K2 → K2 3 = a → n ≤ 900 → Rn w l yX11_here dd_X11_here [.ref 452, .int (nI n)] (472, I2, J2, R) (some (.int (hv T sz (a + n)))) (472, I2, J2, R) := fun I2 J2 K2 n h2 hk3 hn => by
      have := rn_X11_here (w := w) (l := l) (k := n) hM h2 (by omega)
      rw [hk3] at this
      exact this
    have hr0 : ∀ (I2 : mj_M) (J2 : mj_J) K2, mRd I2 J2 T sz K2 → K2 3 = a → Rn w l yX11_here dd_X11_here [.ref 452, .int (nI 0)] (472, I2, J2, R) (some (.int (hv T sz a))) (472, I2, J2, R) := fun I2 J2 K2 h2 hk3 => hre I2 J2 K2 0 h2 hk3 (by omega)
    by_cases hs : a < sz
    · rw [if_neg (fun q => q hs)] at hQ
      have hge : nI 0 ≤ hv T sz a := by unfold hv; rw [if_pos hs]; exact nI_le (Nat.zero_le _) (by have := hT a hs; omega)
      refine q_aload_n (pc' := 59) dX11_goOn_58 rfl rfl (q_iconst (pc' := 60) _ dX11_goOn_59 rfl kk_iconst_0 (q_cVi (pc' := 63) dX11_goOn_60 rfl ml_RX11_99 yv_X11_here (by decide) (hr0 _ _ _ h1 rfl) ⟨by omega, rfl⟩ rfl rfl (Nat.le_of_ble_eq_true rfl) (Nat.le_refl _) (q_if_ge (pc' := 66) (pt := 72) dX11_goOn_63 rfl rfl (fun _ => (q_aload_n (pc' := 73) dX11_goOn_72 rfl rfl (q_iconst (pc' := 74) _ dX11_goOn_73 rfl kk_iconst_0 (q_cVi (pc' := 77) dX11_goOn_74 rfl ml_RX11_99 yv_X11_here (by decide) (hr0 _ _ _ h1 rfl) ⟨by omega, rfl⟩ rfl rfl (Nat.le_of_ble_eq_true rfl) (Nat.le_refl _) (q_cSi (pc' := 80) dX11_goOn_77 rfl ml_RX11_119 ys_X11_isLetter (by decide) (rn_lt hT a) rfl rfl (Nat.le_of_ble_eq_true rfl) (Nat.le_refl _) ?_))))) (fun h9 => absurd (hge) h9))))
      by_cases hl : tLt T sz a = true
      · rw [if_pos hl] at hQ
        have loop : ∀ f n J2, 801 ≤ a + n + f → tkE (tLt T sz) f (a + n) = tkE (tLt T sz) 801 a → 2 * wV T a n < 256 ^ min n 8 → a + n ≤ sz → mRd I1 J2 T sz (kU (kU (kU (kU (kU (kU K 3 a) 4 a) 12 0) 6 0) 7 0) 12 (wV T a n)) → mRf I J I1 J2 → Wq dd_X11_goOn (mj_mk w l 472 Y) Q 83 [some (.ref 452), some (.int (nI n))] [] (472, I1, J2, R) := by
          intro f
          induction f with
          | zero => intro n J2 h9; omega
          | succ f ih =>
            intro n J2 h9 he hw hn h2 hf2
            refine q_aload_n (pc' := 84) dX11_goOn_83 rfl rfl (q_iload_n (pc' := 85) dX11_goOn_84 rfl rfl (q_cVi (pc' := 88) dX11_goOn_85 rfl ml_RX11_99 yv_X11_here (by decide) (hre _ _ _ n h2 rfl (by omega)) ⟨by omega, rfl⟩ rfl rfl (Nat.le_of_ble_eq_true rfl) (Nat.le_refl _) (q_cSi (pc' := 91) dX11_goOn_88 rfl ml_RX11_119 ys_X11_isLetter (by decide) (rn_lt hT (a + n)) rfl rfl (Nat.le_of_ble_eq_true rfl) (Nat.le_refl _) ?_)))
            by_cases hc : tLt T sz (a + n) = true
            · have hcs := of_decide_eq_true hc
              have hc8 := hT _ hcs.1
              rw [tkE, if_pos hc] at he
              by_cases h8 : n < 8
              · have hwn : wV T a (n + 1) = wV T a n * 256 + T (a + n) := by rw [wV, if_pos h8]
                rw [Nat.min_eq_left (by omega)] at hw
                have hp7 : 256 ^ n ≤ 256 ^ 7 := Nat.pow_le_pow_right (by decide) (by omega)
                have hp56 : (256:Nat) ^ 7 = 2 ^ 56 := by decide
                have e12 := h2.2.2.2.2.1
                have ehv : hv T sz (a + n) = nI (T (a + n)) := if_pos hcs.1
                have pw := mRd_wd (wV T a (n + 1)) h2
                refine q_ifb_eq (pc' := 94) (pt := 124) dX11_goOn_91 rfl rfl (fun h9 => Bool.noConfusion (Eq.trans (Eq.symm (hc)) h9)) (fun _ => (q_iload_n (pc' := 95) dX11_goOn_94 rfl rfl (q_bipush (pc' := 97) _ dX11_goOn_95 rfl kk_bipush_8 (q_icmp_ge (pc' := 100) (pt := 118) dX11_goOn_97 rfl rfl (fun h9 => absurd h9 (Int32.not_le.mpr (nI_lt h8 (by omega)))) (fun _ => (q_aload_n (pc' := 101) dX11_goOn_100 rfl rfl (q_aload_n (pc' := 102) dX11_goOn_101 rfl rfl (q_getJ (pc' := 105) dX11_goOn_102 rfl fr_RX11_106 ⟨by omega, rfl⟩ rfl (q_bipush (pc' := 107) _ dX11_goOn_105 rfl kk_bipush_8 (q_lshl (pc' := 108) dX11_goOn_107 rfl (q_aload_n (pc' := 109) dX11_goOn_108 rfl rfl (q_iload_n (pc' := 110) dX11_goOn_109 rfl rfl (q_cVi (pc' := 113) dX11_goOn_110 rfl ml_RX11_99 yv_X11_here (by decide) (hre _ _ _ n h2 rfl (by omega)) ⟨by omega, rfl⟩ rfl rfl (Nat.le_of_ble_eq_true rfl) (Nat.le_refl _) (q_i2l (pc' := 114) dX11_goOn_113 rfl (q_lor (pc' := 115) dX11_goOn_114 rfl ?_)))))))))))))))
                rw [show J2 452 12 = nJ (wV T a n) from e12, ehv, nJ_app (by omega) hc8, ← hwn]
                refine q_putJ (pc' := 118) dX11_goOn_115 rfl fl_RX11_106 ⟨by omega, rfl⟩ rfl (q_inc_1 (pc' := 121) dX11_goOn_118 rfl (by decide) rfl (q_goto (pc' := 83) dX11_goOn_121 rfl ?_))
                refine ih (n + 1) _ (by omega) he ?_ hcs.1 (mRd_of pw.1 rfl rfl rfl rfl rfl rfl rfl rfl) (hf2.tr pw.2)
                rw [Nat.min_eq_left (by omega), hwn, Nat.pow_succ]
                omega
              · have hwn : wV T a (n + 1) = wV T a n := by rw [wV, if_neg h8]
                refine q_ifb_eq (pc' := 94) (pt := 124) dX11_goOn_91 rfl rfl (fun h9 => Bool.noConfusion (Eq.trans (Eq.symm (hc)) h9)) (fun _ => (q_iload_n (pc' := 95) dX11_goOn_94 rfl rfl (q_bipush (pc' := 97) _ dX11_goOn_95 rfl kk_bipush_8 (q_icmp_ge (pc' := 100) (pt := 118) dX11_goOn_97 rfl rfl (fun _ => (q_inc_1 (pc' := 121) dX11_goOn_118 rfl (by decide) rfl (q_goto (pc' := 83) dX11_goOn_121 rfl ?_))) (fun h9 => absurd (nI_le (by omega) (by omega)) h9)))))
                refine ih (n + 1) _ (by omega) he ?_ hcs.1 (by rw [hwn]; exact h2) hf2
                rw [hwn, Nat.min_eq_right (by omega)]
                rw [Nat.min_eq_right (by omega)] at hw
                exact hw
            · rw [tkE, if_neg hc] at he
              rw [← he, Nat.add_sub_cancel_left] at hQ
              have q1 := mRd_put 7 n h2 (by decide) (by decide)
              have tail : ∀ y, (if 8 < n then 4 else 1) = y → Wq dd_X11_goOn (mj_mk w l 472 Y) Q 141 [some (.ref 452), some (.int (nI n))] [.int (nI y), .ref 452] (472, mj_up I1 452 7 (nI n), J2, R) := by
                intro y hy
                rw [hy] at hQ
                have q2 := mRd_put 5 y q1.1 (by decide) (by decide)
                refine q_putI (pc' := 144) dX11_goOn_141 rfl fl_RX11_116 ⟨by omega, rfl⟩ rfl (q_goto (pc' := 249) dX11_goOn_144 rfl ?_)
                exact fin _ _ _ n q2.1 ((hf2.tr q1.2).tr q2.2) rfl (by omega) (fun I3 r1 r2 => hQ _ _ _ _ ⟨rfl, mRd_of r1 rfl rfl rfl rfl rfl rfl rfl rfl, r2, rfl⟩)
              by_cases h8 : 8 < n
              · refine q_ifb_eq (pc' := 94) (pt := 124) dX11_goOn_91 rfl rfl (fun _ => (q_aload_n (pc' := 125) dX11_goOn_124 rfl rfl (q_iload_n (pc' := 126) dX11_goOn_125 rfl rfl (q_putI (pc' := 129) dX11_goOn_126 rfl fl_RX11_113 ⟨by omega, rfl⟩ rfl (q_aload_n (pc' := 130) dX11_goOn_129 rfl rfl (q_iload_n (pc' := 131) dX11_goOn_130 rfl rfl (q_bipush (pc' := 133) _ dX11_goOn_131 rfl kk_bipush_8 (q_icmp_le (pc' := 136) (pt := 140) dX11_goOn_133 rfl rfl (fun h9 => absurd h9 (Int32.not_le.mpr (nI_lt h8 (by omega)))) (fun _ => (q_iconst (pc' := 137) _ dX11_goOn_136 rfl kk_iconst_4 (q_goto (pc' := 141) dX11_goOn_137 rfl ?_))))))))))) (fun h9 => Bool.noConfusion (Eq.trans (Eq.symm (Bool.eq_false_iff.mpr hc)) h9))
                exact tail 4 (if_pos h8)
              · refine q_ifb_eq (pc' := 94) (pt := 124) dX11_goOn_91 rfl rfl (fun _ => (q_aload_n (pc' := 125) dX11_goOn_124 rfl rfl (q_iload_n (pc' := 126) dX11_goOn_125 rfl rfl (q_putI (pc' := 129) dX11_goOn_126 rfl fl_RX11_113 ⟨by omega, rfl⟩ rfl (q_aload_n (pc' := 130) dX11_goOn_129 rfl rfl (q_iload_n (pc' := 131) dX11_goOn_130 rfl rfl (q_bipush (pc' := 133) _ dX11_goOn_131 rfl kk_bipush_8 (q_icmp_le (pc' := 136) (pt := 140) dX11_goOn_133 rfl rfl (fun _ => (q_iconst (pc' := 141) _ dX11_goOn_140 rfl kk_iconst_1 ?_)) (fun h9 => absurd (nI_le (by omega) (by omega)) h9))))))))) (fun h9 => Bool.noConfusion (Eq.trans (Eq.symm (Bool.eq_false_iff.mpr hc)) h9))
                exact tail 1 (if_neg h8)
        refine q_ifb_eq (pc' := 83) (pt := 147) dX11_goOn_80 rfl rfl (fun h9 => Bool.noConfusion (Eq.trans (Eq.symm (hl)) h9)) (fun _ => ?_)
        exact loop 801 0 J1 (by omega) rfl (Nat.le_of_ble_eq_true rfl) has (mRd_of h1 rfl rfl rfl rfl rfl rfl rfl rfl) f4
      · rw [if_neg hl] at hQ
        refine q_ifb_eq (pc' := 83) (pt := 147) dX11_goOn_80 rfl rfl (fun _ => (q_aload_n (pc' := 148) dX11_goOn_147 rfl rfl (q_iconst (pc' := 149) _ dX11_goOn_148 rfl kk_iconst_0 (q_cVi (pc' := 152) dX11_goOn_149 rfl ml_RX11_99 yv_X11_here (by decide) (hr0 _ _ _ h1 rfl) ⟨by omega, rfl⟩ rfl rfl (Nat.le_of_ble_eq_true rfl) (Nat.le_refl _) (q_cSi (pc' := 155) dX11_goOn_152 rfl ml_RX11_123 ys_X11_isDigit (by decide) (rn_dg hT a) rfl rfl (Nat.le_of_ble_eq_true rfl) (Nat.le_refl _) ?_))))) (fun h9 => Bool.noConfusion (Eq.trans (Eq.symm (Bool.eq_false_iff.mpr hl)) h9))
        by_cases hd : tDg T sz a = true
        · rw [if_pos hd] at hQ
          have loop : ∀ f n I2, 801 ≤ a + n + f → tkE (tDg T sz) f (a + n) = tkE (tDg T sz) 801 a → nV T a n < 1000 → (n < 3 → nV T a n < 10 ^ n) → a + n ≤ sz → mRd I2 J1 T sz (kU (kU (kU (kU (kU (kU K 3 a) 4 a) 12 0) 6 0) 7 0) 6 (nV T a n)) → mRf I J I2 J1 → Wq dd_X11_goOn (mj_mk w l 472 Y) Q 158 [some (.ref 452), some (.int (nI n))] [] (472, I2, J1, R) := by
            intro f
            induction f with
            | zero => intro n I2 h9; omega
            | succ f ih =>
              intro n I2 h9 he hw hw2 hn h2 hf2
              refine q_aload_n (pc' := 159) dX11_goOn_158 rfl rfl (q_iload_n (pc' := 160) dX11_goOn_159 rfl rfl (q_cVi (pc' := 163) dX11_goOn_160 rfl ml_RX11_99 yv_X11_here (by decide) (hre _ _ _ n h2 rfl (by omega)) ⟨by omega, rfl⟩ rfl rfl (Nat.le_of_ble_eq_true rfl) (Nat.le_refl _) (q_cSi (pc' := 166) dX11_goOn_163 rfl ml_RX11_123 ys_X11_isDigit (by decide) (rn_dg hT (a + n)) rfl rfl (Nat.le_of_ble_eq_true rfl) (Nat.le_refl _) ?_)))
              by_cases hc : tDg T sz (a + n) = true
              · have hcs := of_decide_eq_true hc
                rw [tkE, if_pos hc] at he
                by_cases h8 : n < 3
                · have hwn : nV T a (n + 1) = 10 * nV T a n + T (a + n) - 48 := by rw [nV, if_pos h8]
                  have hw3 := hw2 h8
                  have hp7 : 10 ^ n ≤ 10 ^ 2 := Nat.pow_le_pow_right (by decide) (by omega)
                  have hp2 : (10:Nat) ^ 2 = 100 := by decide
                  have e6 := h2.2.2.1 6 (by decide) (by decide)
                  have ehv : hv T sz (a + n) = nI (T (a + n)) := if_pos hcs.1
                  have pw := mRd_put 6 (nV T a (n + 1)) h2 (by decide) (by decide)
                  refine q_ifb_eq (pc' := 169) (pt := 200) dX11_goOn_166 rfl rfl (fun h9 => Bool.noConfusion (Eq.trans (Eq.symm (hc)) h9)) (fun _ => (q_iload_n (pc' := 170) dX11_goOn_169 rfl rfl (q_iconst (pc' := 171) _ dX11_goOn_170 rfl kk_iconst_3 (q_icmp_ge (pc' := 174) (pt := 194) dX11_goOn_171 rfl rfl (fun h9 => absurd h9 (Int32.not_le.mpr (nI_lt h8 (by omega)))) (fun _ => (q_aload_n (pc' := 175) dX11_goOn_174 rfl rfl (q_bipush (pc' := 177) _ dX11_goOn_175 rfl kk_bipush_10 (q_aload_n (pc' := 178) dX11_goOn_177 rfl rfl (q_getIe (pc' := 181) dX11_goOn_178 rfl fr_RX11_110 ⟨by omega, rfl⟩ rfl e6 (q_imul (pc' := 182) dX11_goOn_181 rfl (q_aload_n (pc' := 183) dX11_goOn_182 rfl rfl (q_iload_n (pc' := 184) dX11_goOn_183 rfl rfl (q_cVi (pc' := 187) dX11_goOn_184 rfl ml_RX11_99 yv_X11_here (by decide) (hre _ _ _ n h2 rfl (by omega)) ⟨by omega, rfl⟩ rfl rfl (Nat.le_of_ble_eq_true rfl) (Nat.le_refl _) (q_iadd (pc' := 188) dX11_goOn_187 rfl (q_bipush (pc' := 190) _ dX11_goOn_188 rfl kk_bipush_48 ?_)))))))))))))))
                  refine q_isub (pc' := 191) dX11_goOn_190 rfl ?_
                  refine q_top (y := nI (nV T a (n + 1))) (by
                    rw [ehv, hwn, ← nI_sb (show 48 ≤ 10 * nV T a n + T (a + n) by omega), ← nI_add, ← pk_mul]; rfl) ?_
                  refine q_putI (pc' := 194) dX11_goOn_191 rfl fl_RX11_110 ⟨by omega, rfl⟩ rfl (q_inc_1 (pc' := 197) dX11_goOn_194 rfl (by decide) rfl (q_goto (pc' := 158) dX11_goOn_197 rfl ?_))
                  refine ih (n + 1) _ (by omega) he (by omega) (fun h3 => ?_) hcs.1 (mRd_of pw.1 rfl rfl rfl rfl rfl rfl rfl rfl) (hf2.tr pw.2)
                  rw [hwn, Nat.pow_succ]
                  omega
                · have hwn : nV T a (n + 1) = nV T a n := by rw [nV, if_neg h8]
                  refine q_ifb_eq (pc' := 169) (pt := 200) dX11_goOn_166 rfl rfl (fun h9 => Bool.noConfusion (Eq.trans (Eq.symm (hc)) h9)) (fun _ => (q_iload_n (pc' := 170) dX11_goOn_169 rfl rfl (q_iconst (pc' := 171) _ dX11_goOn_170 rfl kk_iconst_3 (q_icmp_ge (pc' := 174) (pt := 194) dX11_goOn_171 rfl rfl (fun _ => (q_inc_1 (pc' := 197) dX11_goOn_194 rfl (by decide) rfl (q_goto (pc' := 158) dX11_goOn_197 rfl ?_))) (fun h9 => absurd (nI_le (by omega) (by omega)) h9)))))
                  exact ih (n + 1) _ (by omega) he (by rw [hwn]; exact hw) (fun h3 => by omega) hcs.1 (by rw [hwn]; exact h2) hf2
              · rw [tkE, if_neg hc] at he
                rw [← he, Nat.add_sub_cancel_left] at hQ
                have tail : ∀ y, (if 3 < n ∨ tLt T sz (a + n) = true then 4 else 2) = y → Wq dd_X11_goOn (mj_mk w l 472 Y) Q 222 [some (.ref 452), some (.int (nI n))] [.int (nI y), .ref 452] (472, I2, J1, R) := by
                  intro y hy
                  rw [hy] at hQ
                  have q2 := mRd_put 5 y h2 (by decide) (by decide)
                  refine q_putI (pc' := 225) dX11_goOn_222 rfl fl_RX11_116 ⟨by omega, rfl⟩ rfl (q_goto (pc' := 249) dX11_goOn_225 rfl ?_)
                  exact fin _ _ _ n q2.1 (hf2.tr q2.2) rfl (by omega) (fun I3 r1 r2 => hQ _ _ _ _ ⟨rfl, mRd_of r1 rfl rfl rfl rfl rfl rfl rfl rfl, r2, rfl⟩)
                by_cases h8 : 3 < n
                · refine q_ifb_eq (pc' := 169) (pt := 200) dX11_goOn_166 rfl rfl (fun _ => (q_aload_n (pc' := 201) dX11_goOn_200 rfl rfl (q_iload_n (pc' := 202) dX11_goOn_201 rfl rfl (q_iconst (pc' := 203) _ dX11_goOn_202 rfl kk_iconst_3 (q_icmp_gt (pc' := 206) (pt := 217) dX11_goOn_203 rfl rfl (fun _ => (q_iconst (pc' := 218) _ dX11_goOn_217 rfl kk_iconst_4 (q_goto (pc' := 222) dX11_goOn_218 rfl ?_))) (fun h9 => absurd (nI_lt h8 (by omega)) h9)))))) (fun h9 => Bool.noConfusion (Eq.trans (Eq.symm (Bool.eq_false_iff.mpr hc)) h9))
                  exact tail 4 (if_pos (Or.inl h8))
                · refine q_ifb_eq (pc' := 169) (pt := 200) dX11_goOn_166 rfl rfl (fun _ => (q_aload_n (pc' := 201) dX11_goOn_200 rfl rfl (q_iload_n (pc' := 202) dX11_goOn_201 rfl rfl (q_iconst (pc' := 203) _ dX11_goOn_202 rfl kk_iconst_3 (q_icmp_gt (pc' := 206) (pt := 217) dX11_goOn_203 rfl rfl (fun h9 => absurd h9 (Int32.not_lt.mpr (nI_le (by omega) (by omega)))) (fun _ => (q_aload_n (pc' := 207) dX11_goOn_206 rfl rfl (q_iload_n (pc' := 208) dX11_goOn_207 rfl rfl (q_cVi (pc' := 211) dX11_goOn_208 rfl ml_RX11_99 yv_X11_here (by decide) (hre _ _ _ n h2 rfl (by omega)) ⟨by omega, rfl⟩ rfl rfl (Nat.le_of_ble_eq_true rfl) (Nat.le_refl _) (q_cSi (pc' := 214) dX11_goOn_211 rfl ml_RX11_119 ys_X11_isLetter (by decide) (rn_lt hT (a + n)) rfl rfl (Nat.le_of_ble_eq_true rfl) (Nat.le_refl _) ?_)))))))))) (fun h9 => Bool.noConfusion (Eq.trans (Eq.symm (Bool.eq_false_iff.mpr hc)) h9))
                  by_cases hz : tLt T sz (a + n) = true
                  · refine q_ifb_eq (pc' := 217) (pt := 221) dX11_goOn_214 rfl rfl (fun h9 => Bool.noConfusion (Eq.trans (Eq.symm (hz)) h9)) (fun _ => (q_iconst (pc' := 218) _ dX11_goOn_217 rfl kk_iconst_4 (q_goto (pc' := 222) dX11_goOn_218 rfl ?_)))
                    exact tail 4 (if_pos (Or.inr hz))
                  · refine q_ifb_eq (pc' := 217) (pt := 221) dX11_goOn_214 rfl rfl (fun _ => (q_iconst (pc' := 222) _ dX11_goOn_221 rfl kk_iconst_2 ?_)) (fun h9 => Bool.noConfusion (Eq.trans (Eq.symm (Bool.eq_false_iff.mpr hz)) h9))
                    exact tail 2 (if_neg (fun q => q.elim h8 hz))
          refine q_ifb_eq (pc' := 158) (pt := 228) dX11_goOn_155 rfl rfl (fun h9 => Bool.noConfusion (Eq.trans (Eq.symm (hd)) h9)) (fun _ => ?_)
          exact loop 801 0 I1 (by omega) rfl (Nat.le_of_ble_eq_true rfl) (fun _ => Nat.le_of_ble_eq_true rfl) has (mRd_of h1 rfl rfl rfl rfl rfl rfl rfl rfl) f4
        · rw [if_neg hd] at hQ
          have tail : ∀ y, (if T a = 59 then 3 else 4) = y → Wq dd_X11_goOn (mj_mk w l 472 Y) Q 244 [some (.ref 452), some (.int (nI 0))] [.int (nI y), .ref 452] (472, I1, J1, R) := by
            intro y hy
            rw [hy] at hQ
            have q2 := mRd_put 5 y h1 (by decide) (by decide)
            refine q_putI (pc' := 247) dX11_goOn_244 rfl fl_RX11_116 ⟨by omega, rfl⟩ rfl (q_iconst (pc' := 248) _ dX11_goOn_247 rfl kk_iconst_1 (q_ist_1 (pc' := 249) dX11_goOn_248 rfl (by decide) rfl ?_))
            exact fin _ _ _ 1 q2.1 (f4.tr q2.2) rfl (by omega) (fun I3 r1 r2 => hQ _ _ _ _ ⟨rfl, mRd_of r1 rfl rfl rfl rfl rfl rfl rfl rfl, r2, rfl⟩)
          by_cases h59 : T a = 59
          · refine q_ifb_eq (pc' := 158) (pt := 228) dX11_goOn_155 rfl rfl (fun _ => (q_aload_n (pc' := 229) dX11_goOn_228 rfl rfl (q_aload_n (pc' := 230) dX11_goOn_229 rfl rfl (q_iconst (pc' := 231) _ dX11_goOn_230 rfl kk_iconst_0 (q_cVi (pc' := 234) dX11_goOn_231 rfl ml_RX11_99 yv_X11_here (by decide) (hr0 _ _ _ h1 rfl) ⟨by omega, rfl⟩ rfl rfl (Nat.le_of_ble_eq_true rfl) (Nat.le_refl _) (q_bipush (pc' := 236) _ dX11_goOn_234 rfl kk_bipush_59 (q_icmp_ne (pc' := 239) (pt := 243) dX11_goOn_236 rfl rfl (fun h9 => absurd ((hv_eq (hT a) (by decide)).mpr ⟨hs, h59⟩) h9) (fun _ => (q_iconst (pc' := 240) _ dX11_goOn_239 rfl kk_iconst_3 (q_goto (pc' := 244) dX11_goOn_240 rfl ?_)))))))))) (fun h9 => Bool.noConfusion (Eq.trans (Eq.symm (Bool.eq_false_iff.mpr hd)) h9))
            exact tail 3 (if_pos h59)
          · refine q_ifb_eq (pc' := 158) (pt := 228) dX11_goOn_155 rfl rfl (fun _ => (q_aload_n (pc' := 229) dX11_goOn_228 rfl rfl (q_aload_n (pc' := 230) dX11_goOn_229 rfl rfl (q_iconst (pc' := 231) _ dX11_goOn_230 rfl kk_iconst_0 (q_cVi (pc' := 234) dX11_goOn_231 rfl ml_RX11_99 yv_X11_here (by decide) (hr0 _ _ _ h1 rfl) ⟨by omega, rfl⟩ rfl rfl (Nat.le_of_ble_eq_true rfl) (Nat.le_refl _) (q_bipush (pc' := 236) _ dX11_goOn_234 rfl kk_bipush_59 (q_icmp_ne (pc' := 239) (pt := 243) dX11_goOn_236 rfl rfl (fun _ => (q_iconst (pc' := 244) _ dX11_goOn_243 rfl kk_iconst_4 ?_)) (fun h9 => absurd h9 (fun q => h59 ((hv_eq (hT a) (by decide)).mp q).2))))))))) (fun h9 => Bool.noConfusion (Eq.trans (Eq.symm (Bool.eq_false_iff.mpr hd)) h9))
            exact tail 4 (if_neg h59)
    · rw [if_pos hs] at hQ
      have hlt : ¬ nI 0 ≤ hv T sz a := by unfold hv; rw [if_neg hs]; decide
      have q2 := mRd_put 5 0 h1 (by decide) (by decide)
      exact q_aload_n (pc' := 59) dX11_goOn_58 rfl rfl (q_iconst (pc' := 60) _ dX11_goOn_59 rfl kk_iconst_0 (q_cVi (pc' := 63) dX11_goOn_60 rfl ml_RX11_99 yv_X11_here (by decide) (hr0 _ _ _ h1 rfl) ⟨by omega, rfl⟩ rfl rfl (Nat.le_of_ble_eq_true rfl) (Nat.le_refl _) (q_if_ge (pc' := 66) (pt := 72) dX11_goOn_63 rfl rfl (fun h9 => absurd h9 (hlt)) (fun _ => (q_aload_n (pc' := 67) dX11_goOn_66 rfl rfl (q_iconst (pc' := 68) _ dX11_goOn_67 rfl kk_iconst_0 (q_putI (pc' := 71) dX11_goOn_68 rfl fl_RX11_116 ⟨by omega, rfl⟩ rfl (q_vret dX11_goOn_71 rfl (hQ _ _ _ _ ⟨rfl, mRd_of q2.1 rfl rfl rfl rfl rfl rfl rfl rfl, f4.tr q2.2, rfl⟩)))))))))
  have skip : ∀ f i I0, 801 ≤ i + f → i ≤ sz → tkE (tBl T sz) f i = tkE (tBl T sz) 801 (K 3) → mRd I0 J T sz (kU K 3 i) → mRf I J I0 J → Wq dd_X11_goOn (mj_mk w l 472 Y) Q 0 [some (.ref 452), none] [] (472, I0, J, R) := by
    intro f
    induction f with
    | zero => intro i I0 h9; omega
    | succ f ih =>
      intro i I0 h9 hi he h0 hf0
      have e3 := h0.2.2.1 3 (by decide) (by decide)
      have hr : Rn w l yX11_here dd_X11_here [.ref 452, .int (nI 0)] (472, I0, J, R) (some (.int (hv T sz i))) (472, I0, J, R) := rn_X11_here (k := 0) hM h0 (by show i + 0 < _; omega)
      have more : tBl T sz i = true → Wq dd_X11_goOn (mj_mk w l 472 Y) Q 20 [some (.ref 452), none] [] (472, I0, J, R) := by
        intro hc
        have hcs := of_decide_eq_true hc
        rw [tkE, if_pos hc] at he
        have p := mRd_put 3 (i + 1) h0 (by decide) (by decide)
        refine q_aload_n (pc' := 21) dX11_goOn_20 rfl rfl (q_dup_a (pc' := 22) dX11_goOn_21 rfl (q_getIe (pc' := 25) dX11_goOn_22 rfl fr_RX11_93 ⟨by omega, rfl⟩ rfl e3 (q_iconst (pc' := 26) _ dX11_goOn_25 rfl kk_iconst_1 (q_iadd (pc' := 27) dX11_goOn_26 rfl ?_))))
        refine q_top (nI_add i 1) ?_
        refine q_putI (pc' := 30) dX11_goOn_27 rfl fl_RX11_93 ⟨by omega, rfl⟩ rfl (q_goto (pc' := 0) dX11_goOn_30 rfl ?_)
        exact ih (i + 1) _ (by omega) hcs.1 he (mRd_of p.1 rfl rfl rfl rfl rfl rfl rfl rfl) (hf0.tr p.2)
      by_cases h32 : hv T sz i = nI 32
      · refine q_aload_n (pc' := 1) dX11_goOn_0 rfl rfl (q_iconst (pc' := 2) _ dX11_goOn_1 rfl kk_iconst_0 (q_cVi (pc' := 5) dX11_goOn_2 rfl ml_RX11_99 yv_X11_here (by decide) hr ⟨by omega, rfl⟩ rfl rfl (Nat.le_of_ble_eq_true rfl) (Nat.le_refl _) (q_bipush (pc' := 7) _ dX11_goOn_5 rfl kk_bipush_32 (q_icmp_eq (pc' := 10) (pt := 20) dX11_goOn_7 rfl rfl (fun _ => ?_) (fun h9 => absurd (h32) h9)))))
        have := (hv_eq (hT i) (by decide)).mp h32
        exact more (decide_eq_true ⟨this.1, Or.inl this.2⟩)
      · by_cases h10 : hv T sz i = nI 10
        · refine q_aload_n (pc' := 1) dX11_goOn_0 rfl rfl (q_iconst (pc' := 2) _ dX11_goOn_1 rfl kk_iconst_0 (q_cVi (pc' := 5) dX11_goOn_2 rfl ml_RX11_99 yv_X11_here (by decide) hr ⟨by omega, rfl⟩ rfl rfl (Nat.le_of_ble_eq_true rfl) (Nat.le_refl _) (q_bipush (pc' := 7) _ dX11_goOn_5 rfl kk_bipush_32 (q_icmp_eq (pc' := 10) (pt := 20) dX11_goOn_7 rfl rfl (fun h9 => absurd h9 (h32)) (fun _ => (q_aload_n (pc' := 11) dX11_goOn_10 rfl rfl (q_iconst (pc' := 12) _ dX11_goOn_11 rfl kk_iconst_0 (q_cVi (pc' := 15) dX11_goOn_12 rfl ml_RX11_99 yv_X11_here (by decide) hr ⟨by omega, rfl⟩ rfl rfl (Nat.le_of_ble_eq_true rfl) (Nat.le_refl _) (q_bipush (pc' := 17) _ dX11_goOn_15 rfl kk_bipush_10 (q_icmp_ne (pc' := 20) (pt := 33) dX11_goOn_17 rfl rfl (fun h9 => absurd (h10) h9) (fun _ => ?_)))))))))))
          have := (hv_eq (hT i) (by decide)).mp h10
          exact more (decide_eq_true ⟨this.1, Or.inr this.2⟩)
        · have hc : ¬ tBl T sz i = true := fun q => by
            have hcs := of_decide_eq_true q
            rcases hcs.2 with h | h
            · exact h32 ((hv_eq (hT i) (by decide)).mpr ⟨hcs.1, h⟩)
            · exact h10 ((hv_eq (hT i) (by decide)).mpr ⟨hcs.1, h⟩)
          rw [tkE, if_neg hc] at he
          refine q_aload_n (pc' := 1) dX11_goOn_0 rfl rfl (q_iconst (pc' := 2) _ dX11_goOn_1 rfl kk_iconst_0 (q_cVi (pc' := 5) dX11_goOn_2 rfl ml_RX11_99 yv_X11_here (by decide) hr ⟨by omega, rfl⟩ rfl rfl (Nat.le_of_ble_eq_true rfl) (Nat.le_refl _) (q_bipush (pc' := 7) _ dX11_goOn_5 rfl kk_bipush_32 (q_icmp_eq (pc' := 10) (pt := 20) dX11_goOn_7 rfl rfl (fun h9 => absurd h9 (h32)) (fun _ => (q_aload_n (pc' := 11) dX11_goOn_10 rfl rfl (q_iconst (pc' := 12) _ dX11_goOn_11 rfl kk_iconst_0 (q_cVi (pc' := 15) dX11_goOn_12 rfl ml_RX11_99 yv_X11_here (by decide) hr ⟨by omega, rfl⟩ rfl rfl (Nat.le_of_ble_eq_true rfl) (Nat.le_refl _) (q_bipush (pc' := 17) _ dX11_goOn_15 rfl kk_bipush_10 (q_icmp_ne (pc' := 20) (pt := 33) dX11_goOn_17 rfl rfl (fun _ => ?_) (fun h9 => absurd h9 (h10))))))))))))
          exact rest I0 i he hi h0 hf0
  exact skip 801 (K 3) I (by omega) hK rfl (mRd_of h rfl rfl rfl rfl rfl rfl rfl rfl) mRf.rf
end M28
