/-! ===== the reference: what was, UNDO, REDO ===== -/
/-- nothing but the row, what was put aside, what was kept, and the two counts of it has changed -/
def mG (I I' : mj_M) : Prop := (∀ a, a ≠ 464 → a ≠ 465 → a ≠ 466 → a ≠ 467 → a ≠ 452 → I' a = I a) ∧ ∀ f, f ≠ 40 → f ≠ 41 → I' 452 f = I 452 f
theorem mG.rf {I : mj_M} : mG I I := ⟨fun _ _ _ _ _ _ => rfl, fun _ _ _ => rfl⟩
theorem mG.tr {I I' I2 : mj_M} (h : mG I I') (h2 : mG I' I2) : mG I I2 := ⟨fun a h1 h3 h4 h5 h6 => (h2.1 a h1 h3 h4 h5 h6).trans (h.1 a h1 h3 h4 h5 h6), fun f h1 h3 => (h2.2 f h1 h3).trans (h.2 f h1 h3)⟩
theorem mF2.g {I I' : mj_M} (h : mF2 I I') : mG I I' := ⟨fun a h1 h2 _ _ _ => h a h1 h2, fun f _ _ => congrFun (h 452 (by decide) (by decide)) f⟩
theorem mF.g {I I' : mj_M} (h : mF I I') : mG I I' := h.two.g
theorem mB_G {I I' : mj_M} {b : St} (h : mG I I') (hb : mB I b) : mB I' b := by
  unfold mB at hb ⊢
  rw [h.2 18 (by decide) (by decide), h.2 19 (by decide) (by decide), h.2 22 (by decide) (by decide), h.1 457 (by decide) (by decide) (by decide) (by decide) (by decide), h.1 458 (by decide) (by decide) (by decide) (by decide) (by decide), h.1 459 (by decide) (by decide) (by decide) (by decide) (by decide)]
  exact hb
theorem up_fI {I : mj_M} {a j b : Nat} {x : Int32} (h : b ≠ a) : mj_up I a j x b = I b := by funext k; exact mj_up_ne h
/-- ACTS that are kept: n that can be undone, u that can be done again -/
def mH (I : mj_M) (ps : Nat → St) (n u : Nat) : Prop := I 452 40 = nI n ∧ I 452 41 = nI u ∧ n + u ≤ 16 ∧ ∀ t, t < n + u → rR (fun k => I 466 (1775 * t + k)) (ps t)
theorem mH_of {I I' : mj_M} {ps : Nat → St} {n u : Nat} (h : mH I ps n u) (h1 : I' 452 40 = I 452 40) (h2 : I' 452 41 = I 452 41) (h3 : I' 466 = I 466) : mH I' ps n u := by
  unfold mH at h ⊢
  rw [h1, h2, h3]
  exact h
def hPush (ps : Nat → St) (n : Nat) (W : St) : Nat → St := if n = 16 then (fun t => if t = 15 then W else ps (t + 1)) else fun t => if t = n then W else ps t
def hN (n : Nat) : Nat := if n = 16 then 16 else n + 1
section M15
variable {w : mj_Wd} {l : Launch} {I : mj_M} {J : mj_J} {R : mj_R} {b A W0 : St} {ps : Nat → St} {n u : Nat}
theorem rn_X11_begin (hM : mj_wM R) : Rn w l yX11_begin dd_X11_begin [.ref 452] (472, I, J, R) none (472, mj_cp I 467 1775 (I 464), J, R) := by
  refine rn_intro2 (L := [some (.ref 452), none]) ⟨by decide, rfl, (fun h => by cases h)⟩ (Nat.le_refl _) (Nat.le_of_ble_eq_true rfl) rfl (fun Y Q hQ => ?_)
  refine q_iconst (pc' := 1) _ dX11_begin_0 rfl kk_iconst_0 (q_ist_1 (pc' := 2) dX11_begin_1 rfl (by decide) rfl ?_)
  have loop : ∀ m k, k + m = 1775 → Wq dd_X11_begin (mj_mk w l 472 Y) Q 2 [some (.ref 452), some (.int (nI k))] [] (472, mj_cp I 467 k (I 464), J, R) := by
    intro m
    induction m with
    | zero =>
      intro k hkm
      have hkz : k = 1775 := by omega
      subst hkz
      exact q_iload_n (pc' := 3) dX11_begin_2 rfl rfl (q_sipush (pc' := 6) _ dX11_begin_3 rfl kk_sipush_1775 (q_icmp_ge (pc' := 9) (pt := 27) dX11_begin_6 rfl rfl (fun _ => (q_vret dX11_begin_27 rfl hQ)) (fun h9 => absurd (by (first | assumption | exact nI_le (by omega) (by omega) | exact nI_ge (by omega) (by omega) | exact nI_lt (by omega) (by omega) | exact nI_nlt (by omega) (by omega) | exact nI_ne (by omega) (by omega) (by omega) | exact nI_e (by omega) | decide)) h9)))
    | succ m ih =>
      intro k hkm
      refine q_iload_n (pc' := 3) dX11_begin_2 rfl rfl (q_sipush (pc' := 6) _ dX11_begin_3 rfl kk_sipush_1775 (q_icmp_ge (pc' := 9) (pt := 27) dX11_begin_6 rfl rfl (fun h9 => absurd h9 (by (first | assumption | exact nI_le (by omega) (by omega) | exact nI_ge (by omega) (by omega) | exact nI_lt (by omega) (by omega) | exact nI_nlt (by omega) (by omega) | exact nI_ne (by omega) (by omega) (by omega) | exact nI_e (by omega) | decide))) (fun _ => (q_aload_n (pc' := 10) dX11_begin_9 rfl rfl (q_getR (pc' := 13) dX11_begin_10 rfl fr_RX11_60 ⟨by omega, rfl⟩ rfl (wM_39 hM) (by decide) (q_iload_n (pc' := 14) dX11_begin_13 rfl rfl (q_aload_n (pc' := 15) dX11_begin_14 rfl rfl (q_getR (pc' := 18) dX11_begin_15 rfl fr_RX11_51 ⟨by omega, rfl⟩ rfl (wM_36 hM) (by decide) (q_iload_n (pc' := 19) dX11_begin_18 rfl rfl (q_ialde (pc' := 20) _ dX11_begin_19 rfl (by first | exact ⟨by omega, rfl⟩ | exact okaS hi hz (by decide) rfl | assumption) rfl (by omega) (congrFun (cp_ne (by decide)) k) (q_iast (pc' := 21) _ dX11_begin_20 rfl (by first | exact ⟨by omega, rfl⟩ | exact okaS hi hz (by decide) rfl | assumption) rfl (by omega) ?_)))))))))))
      rw [cp_s]
      refine q_inc_1 (pc' := 24) dX11_begin_21 rfl (by decide) rfl (q_goto (pc' := 2) dX11_begin_24 rfl ?_)
      exact ih (k + 1) (by omega)
  have := loop 1775 0 (by omega)
  rw [cp_0] at this
  exact this
/-- the rows of what is kept, moved to the left by one -/
def mj_sl1 (I : mj_M) (k : Nat) : mj_M := fun a t => if a = 466 ∧ t + 1775 < k then I 466 (t + 1775) else I a t
theorem sl1_0 {I : mj_M} : mj_sl1 I 1775 = I := by
  funext a t
  unfold mj_sl1
  rw [if_neg (fun q => by omega)]
theorem sl1_s {I : mj_M} {k : Nat} (hk : 1775 ≤ k) : mj_up (mj_sl1 I k) 466 (k - 1775) (I 466 k) = mj_sl1 I (k + 1) := by
  funext a t
  unfold mj_up mj_sl1
  by_cases h1 : a = 466
  · subst h1
    by_cases h2 : t = k - 1775
    · rw [if_pos ⟨rfl, h2⟩, if_pos ⟨rfl, by omega⟩, h2]
      congr 1; omega
    · rw [if_neg (fun q => h2 q.2)]
      by_cases h3 : t + 1775 < k
      · rw [if_pos ⟨rfl, h3⟩, if_pos ⟨rfl, by omega⟩]
      · rw [if_neg (fun q => h3 q.2), if_neg (fun q => h3 (by omega))]
  · rw [if_neg (fun q => h1 q.1), if_neg (fun q => h1 q.1), if_neg (fun q => h1 q.1)]
/-- a row of what is kept is new -/
def mj_row (I : mj_M) (t k : Nat) (f : Nat → Int32) : mj_M := fun a x => if a = 466 ∧ 1775 * t ≤ x ∧ x < 1775 * t + k then f (x - 1775 * t) else I a x
theorem row_0 {I : mj_M} {t : Nat} {f : Nat → Int32} : mj_row I t 0 f = I := by
  funext a x
  unfold mj_row
  rw [if_neg (fun q => by omega)]
theorem row_s {I : mj_M} {t k : Nat} {f : Nat → Int32} : mj_up (mj_row I t k f) 466 (1775 * t + k) (f k) = mj_row I t (k + 1) f := by
  funext a x
  unfold mj_up mj_row
  by_cases h1 : a = 466
  · subst h1
    by_cases h2 : x = 1775 * t + k
    · rw [if_pos ⟨rfl, h2⟩, if_pos ⟨rfl, by omega, by omega⟩, h2]
      congr 1; omega
    · rw [if_neg (fun q => h2 q.2)]
      by_cases h3 : 1775 * t ≤ x ∧ x < 1775 * t + k
      · rw [if_pos ⟨rfl, h3⟩, if_pos ⟨rfl, h3.1, by omega⟩]
      · rw [if_neg (fun q => h3 q.2), if_neg (fun q => h3 ⟨q.2.1, by omega⟩)]
  · rw [if_neg (fun q => h1 q.1), if_neg (fun q => h1 q.1), if_neg (fun q => h1 q.1)]
theorem rs_X11_keeps (hM : mj_wM R) (hH : mH I ps n u) (hW : rR (I 467) W0) : RsV w l yX11_keeps dd_X11_keeps [.ref 452] (472, I, J, R) (fun I' => mH I' (hPush ps n W0) (hN n) 0 ∧ mG I I' ∧ I' 464 = I 464 ∧ I' 467 = I 467) := by
  obtain ⟨h40, h41, hnu, hrow⟩ := hH
  refine rt_intro2 (L := [some (.ref 452), none]) ⟨by decide, rfl, (fun h => by cases h)⟩ (Nat.le_of_ble_eq_true rfl) rfl (fun Y Q hQ => ?_)
  -- from 52 on: n0 below 16, the rows are those of qs
  have tail : ∀ I0 n0 (qs : Nat → St) (o1 : Option Value), n0 < 16 → I0 452 40 = nI n0 → (∀ f, f ≠ 40 → I0 452 f = I 452 f) → (∀ a, a ≠ 466 → a ≠ 452 → I0 a = I a) → (∀ t, t < n0 → rR (fun k => I0 466 (1775 * t + k)) (qs t)) → (hPush ps n W0 = fun t => if t = n0 then W0 else qs t) → hN n = n0 + 1 → Wq dd_X11_keeps (mj_mk w l 472 Y) Q 52 [some (.ref 452), o1] [] (472, I0, J, R) := by
    intro I0 n0 qs o1 hn0 e40 e45 eo hqs hps hnn
    have e467 : ∀ k, mj_row I0 n0 k (I 467) 467 = I 467 := fun k => by
      funext x
      unfold mj_row
      rw [if_neg (fun q => absurd q.1 (by decide))]
      exact congrFun (eo 467 (by decide) (by decide)) x
    have e452 : ∀ k, mj_row I0 n0 k (I 467) 452 = I0 452 := fun k => by
      funext x
      unfold mj_row
      rw [if_neg (fun q => absurd q.1 (by decide))]
    refine q_iconst (pc' := 53) _ dX11_keeps_52 rfl kk_iconst_0 (q_ist_1 (pc' := 54) dX11_keeps_53 rfl (by decide) rfl ?_)
    have loop : ∀ m k, k + m = 1775 → Wq dd_X11_keeps (mj_mk w l 472 Y) Q 54 [some (.ref 452), some (.int (nI k))] [] (472, mj_row I0 n0 k (I 467), J, R) := by
      intro m
      induction m with
      | zero =>
        intro k hkm
        have hkz : k = 1775 := by omega
        subst hkz
        have e1 : mj_row I0 n0 1775 (I 467) 452 40 = nI n0 := by rw [e452]; exact e40
        refine q_iload_n (pc' := 55) dX11_keeps_54 rfl rfl (q_sipush (pc' := 58) _ dX11_keeps_55 rfl kk_sipush_1775 (q_icmp_ge (pc' := 61) (pt := 88) dX11_keeps_58 rfl rfl (fun _ => (q_aload_n (pc' := 89) dX11_keeps_88 rfl rfl (q_dup_a (pc' := 90) dX11_keeps_89 rfl (q_getIe (pc' := 93) dX11_keeps_90 rfl fr_RX11_259 ⟨by omega, rfl⟩ rfl e1 (q_iconst (pc' := 94) _ dX11_keeps_93 rfl kk_iconst_1 (q_iadd (pc' := 95) dX11_keeps_94 rfl ?_)))))) (fun h9 => absurd (by (first | assumption | exact nI_le (by omega) (by omega) | exact nI_ge (by omega) (by omega) | exact nI_lt (by omega) (by omega) | exact nI_nlt (by omega) (by omega) | exact nI_ne (by omega) (by omega) (by omega) | exact nI_e (by omega) | decide)) h9)))
        refine q_top (nI_add _ _) ?_
        have hne : ∀ a, a ≠ 466 → mj_row I0 n0 1775 (I 467) a = I0 a := fun a ha => by
          funext x
          unfold mj_row
          rw [if_neg (fun q => ha q.1)]
        have hfin : mH (mj_up (mj_up (mj_row I0 n0 1775 (I 467)) 452 40 (nI (n0 + 1))) 452 41 (nI 0)) (hPush ps n W0) (hN n) 0 := by
          rw [hps, hnn]
          refine ⟨by rw [mj_up_ne2 (by decide), mj_up_eq], mj_up_eq, by omega, fun t ht => ?_⟩
          intro k hk
          show mj_up (mj_up (mj_row I0 n0 1775 (I 467)) 452 40 (nI (n0 + 1))) 452 41 (nI 0) 466 (1775 * t + k) = _
          rw [mj_up_ne (by decide), mj_up_ne (by decide)]
          dsimp only
          by_cases h1 : t = n0
          · subst h1
            rw [if_pos rfl]
            unfold mj_row
            rw [if_pos ⟨rfl, by omega, by omega⟩, Nat.add_sub_cancel_left]
            exact hW k hk
          · rw [if_neg h1]
            have h2 : 1775 * t + 1775 ≤ 1775 * n0 := by
              have := Nat.mul_le_mul_left 1775 (show t + 1 ≤ n0 by omega)
              rw [Nat.mul_add] at this; omega
            unfold mj_row
            rw [if_neg (fun q => by omega)]
            exact hqs t (by omega) k hk
        have hg : mG I (mj_up (mj_up (mj_row I0 n0 1775 (I 467)) 452 40 (nI (n0 + 1))) 452 41 (nI 0)) := by
          refine ⟨fun a h1 h2 h3 h4 h5 => ?_, fun f h1 h2 => ?_⟩
          · rw [up_fI h5, up_fI h5, hne a h3]
            exact eo a h3 h5
          · rw [mj_up_ne2 h2, mj_up_ne2 h1, hne 452 (by decide)]
            exact e45 f h1
        exact q_putI (pc' := 98) dX11_keeps_95 rfl fl_RX11_259 ⟨by omega, rfl⟩ rfl (q_aload_n (pc' := 99) dX11_keeps_98 rfl rfl (q_iconst (pc' := 100) _ dX11_keeps_99 rfl kk_iconst_0 (q_putI (pc' := 103) dX11_keeps_100 rfl fl_RX11_262 ⟨by omega, rfl⟩ rfl (q_vret dX11_keeps_103 rfl (hQ _ _ _ _ ⟨rfl, ⟨rfl, rfl⟩, hfin, hg, (by rw [up_fI (by decide), up_fI (by decide), hne 464 (by decide)]; exact eo 464 (by decide) (by decide)), (by rw [up_fI (by decide), up_fI (by decide)]; exact e467 1775)⟩)))))
      | succ m ih =>
        intro k hkm
        have e1 : mj_row I0 n0 k (I 467) 452 40 = nI n0 := by rw [e452]; exact e40
        have hj : 1775 * n0 ≤ 1775 * 15 := Nat.mul_le_mul_left _ (by omega)
        refine q_iload_n (pc' := 55) dX11_keeps_54 rfl rfl (q_sipush (pc' := 58) _ dX11_keeps_55 rfl kk_sipush_1775 (q_icmp_ge (pc' := 61) (pt := 88) dX11_keeps_58 rfl rfl (fun h9 => absurd h9 (by (first | assumption | exact nI_le (by omega) (by omega) | exact nI_ge (by omega) (by omega) | exact nI_lt (by omega) (by omega) | exact nI_nlt (by omega) (by omega) | exact nI_ne (by omega) (by omega) (by omega) | exact nI_e (by omega) | decide))) (fun _ => (q_aload_n (pc' := 62) dX11_keeps_61 rfl rfl (q_getR (pc' := 65) dX11_keeps_62 rfl fr_RX11_57 ⟨by omega, rfl⟩ rfl (wM_38 hM) (by decide) (q_sipush (pc' := 68) _ dX11_keeps_65 rfl kk_sipush_1775 (q_aload_n (pc' := 69) dX11_keeps_68 rfl rfl (q_getIe (pc' := 72) dX11_keeps_69 rfl fr_RX11_259 ⟨by omega, rfl⟩ rfl e1 (q_imul (pc' := 73) dX11_keeps_72 rfl (q_iload_n (pc' := 74) dX11_keeps_73 rfl rfl (q_iadd (pc' := 75) dX11_keeps_74 rfl (q_aload_n (pc' := 76) dX11_keeps_75 rfl rfl (q_getR (pc' := 79) dX11_keeps_76 rfl fr_RX11_60 ⟨by omega, rfl⟩ rfl (wM_39 hM) (by decide) (q_iload_n (pc' := 80) dX11_keeps_79 rfl rfl ?_))))))))))))))
        refine q_ialde (pc' := 81) _ dX11_keeps_80 rfl (by first | exact ⟨by omega, rfl⟩ | exact okaS hi hz (by decide) rfl | assumption) rfl (by omega) (congrFun (e467 k) k) (q_iast (pc' := 82) (1775 * n0 + k) dX11_keeps_81 rfl (by first | exact ⟨by omega, rfl⟩ | exact okaS hi hz (by decide) rfl | assumption) (by (first | (simp only [nI_add, pk_mul]; done) | (simp only [nI_add, pk_mul]; exact nI_e (by omega)) | exact nI_e (by omega))) (by omega) ?_)
        rw [row_s]
        refine q_inc_1 (pc' := 85) dX11_keeps_82 rfl (by decide) rfl (q_goto (pc' := 54) dX11_keeps_85 rfl ?_)
        exact ih (k + 1) (by omega)
    have := loop 1775 0 (by omega)
    rw [row_0] at this
    exact this
  by_cases h16 : n = 16
  · subst h16
    have hsl452 : ∀ k, mj_sl1 I k 452 = I 452 := fun k => by
      funext x; unfold mj_sl1; rw [if_neg (fun q => absurd q.1 (by decide))]
    refine q_aload_n (pc' := 1) dX11_keeps_0 rfl rfl (q_getIe (pc' := 4) dX11_keeps_1 rfl fr_RX11_259 ⟨by omega, rfl⟩ rfl h40 (q_bipush (pc' := 6) _ dX11_keeps_4 rfl kk_bipush_16 (q_icmp_ne (pc' := 9) (pt := 52) dX11_keeps_6 rfl rfl (fun h9 => absurd (by (first | assumption | exact nI_le (by omega) (by omega) | exact nI_ge (by omega) (by omega) | exact nI_lt (by omega) (by omega) | exact nI_nlt (by omega) (by omega) | exact nI_ne (by omega) (by omega) (by omega) | exact nI_e (by omega) | decide)) h9) (fun _ => (q_sipush (pc' := 12) _ dX11_keeps_9 rfl kk_sipush_1775 (q_ist_1 (pc' := 13) dX11_keeps_12 rfl (by decide) rfl ?_))))))
    have loop : ∀ m k, k + m = 28400 → 1775 ≤ k → Wq dd_X11_keeps (mj_mk w l 472 Y) Q 13 [some (.ref 452), some (.int (nI k))] [] (472, mj_sl1 I k, J, R) := by
      intro m
      induction m with
      | zero =>
        intro k hkm hk9
        have hkz : k = 28400 := by omega
        subst hkz
        have e1 : mj_sl1 I 28400 452 40 = nI 16 := by rw [hsl452]; exact h40
        refine q_iload_n (pc' := 14) dX11_keeps_13 rfl rfl (q_sipush (pc' := 17) _ dX11_keeps_14 rfl kk_sipush_28400 (q_icmp_ge (pc' := 20) (pt := 42) dX11_keeps_17 rfl rfl (fun _ => (q_aload_n (pc' := 43) dX11_keeps_42 rfl rfl (q_dup_a (pc' := 44) dX11_keeps_43 rfl (q_getIe (pc' := 47) dX11_keeps_44 rfl fr_RX11_259 ⟨by omega, rfl⟩ rfl e1 (q_iconst (pc' := 48) _ dX11_keeps_47 rfl kk_iconst_1 (q_isub (pc' := 49) dX11_keeps_48 rfl ?_)))))) (fun h9 => absurd (by (first | assumption | exact nI_le (by omega) (by omega) | exact nI_ge (by omega) (by omega) | exact nI_lt (by omega) (by omega) | exact nI_nlt (by omega) (by omega) | exact nI_ne (by omega) (by omega) (by omega) | exact nI_e (by omega) | decide)) h9)))
        refine q_top (y := nI 15) (pk_sub (by decide)) ?_
        refine q_putI (pc' := 52) dX11_keeps_49 rfl fl_RX11_259 ⟨by omega, rfl⟩ rfl ?_
        refine tail _ 15 (fun t => ps (t + 1)) _ (by decide) mj_up_eq (fun f hf => by rw [mj_up_ne2 hf, hsl452]) (fun a h1 h2 => ?_) (fun t ht k hk => ?_) ?_ rfl
        · rw [up_fI h2]
          funext x; unfold mj_sl1; rw [if_neg (fun q => h1 q.1)]
        · show mj_up (mj_sl1 I 28400) 452 40 (nI 15) 466 (1775 * t + k) = _
          rw [mj_up_ne (by decide)]
          unfold mj_sl1
          rw [if_pos ⟨rfl, by omega⟩]
          have := hrow (t + 1) (by omega) k hk
          rw [show 1775 * t + k + 1775 = 1775 * (t + 1) + k by omega]
          exact this
        · unfold hPush; rw [if_pos rfl]
      | succ m ih =>
        intro k hkm hk9
        have e1 : mj_sl1 I k 466 k = I 466 k := by unfold mj_sl1; rw [if_neg (fun q => by omega)]
        refine q_iload_n (pc' := 14) dX11_keeps_13 rfl rfl (q_sipush (pc' := 17) _ dX11_keeps_14 rfl kk_sipush_28400 (q_icmp_ge (pc' := 20) (pt := 42) dX11_keeps_17 rfl rfl (fun h9 => absurd h9 (by (first | assumption | exact nI_le (by omega) (by omega) | exact nI_ge (by omega) (by omega) | exact nI_lt (by omega) (by omega) | exact nI_nlt (by omega) (by omega) | exact nI_ne (by omega) (by omega) (by omega) | exact nI_e (by omega) | decide))) (fun _ => (q_aload_n (pc' := 21) dX11_keeps_20 rfl rfl (q_getR (pc' := 24) dX11_keeps_21 rfl fr_RX11_57 ⟨by omega, rfl⟩ rfl (wM_38 hM) (by decide) (q_iload_n (pc' := 25) dX11_keeps_24 rfl rfl (q_sipush (pc' := 28) _ dX11_keeps_25 rfl kk_sipush_1775 (q_isub (pc' := 29) dX11_keeps_28 rfl ?_))))))))
        refine q_top (pk_sub hk9) ?_
        refine q_aload_n (pc' := 30) dX11_keeps_29 rfl rfl (q_getR (pc' := 33) dX11_keeps_30 rfl fr_RX11_57 ⟨by omega, rfl⟩ rfl (wM_38 hM) (by decide) (q_iload_n (pc' := 34) dX11_keeps_33 rfl rfl (q_ialde (pc' := 35) _ dX11_keeps_34 rfl (by first | exact ⟨by omega, rfl⟩ | exact okaS hi hz (by decide) rfl | assumption) rfl (by omega) e1 (q_iast (pc' := 36) _ dX11_keeps_35 rfl (by first | exact ⟨by omega, rfl⟩ | exact okaS hi hz (by decide) rfl | assumption) rfl (by omega) ?_))))
        rw [sl1_s hk9]
        refine q_inc_1 (pc' := 39) dX11_keeps_36 rfl (by decide) rfl (q_goto (pc' := 13) dX11_keeps_39 rfl ?_)
        exact ih (k + 1) (by omega) (by omega)
    have := loop 26625 1775 (by omega) (by omega)
    rw [sl1_0] at this
    exact this
  · refine q_aload_n (pc' := 1) dX11_keeps_0 rfl rfl (q_getIe (pc' := 4) dX11_keeps_1 rfl fr_RX11_259 ⟨by omega, rfl⟩ rfl h40 (q_bipush (pc' := 6) _ dX11_keeps_4 rfl kk_bipush_16 (q_icmp_ne (pc' := 9) (pt := 52) dX11_keeps_6 rfl rfl (fun _ => ?_) (fun h9 => absurd h9 (nI_ne h16 (by omega) (by omega))))))
    exact tail I n ps _ (by omega) h40 (fun _ _ => rfl) (fun _ _ _ => rfl) (fun t ht => hrow t (by omega)) (by unfold hPush; rw [if_neg h16]) (by unfold hN; rw [if_neg h16])
theorem rs_X11_kept {r : Nat} (hM : mj_wM R) (hH : mH I ps n u) (hW : rR (I 467) W0) (hr : r < 10) : RsI w l yX11_kept dd_X11_kept [.ref 452, .int (nI r)] (472, I, J, R) (fun x I' => x = nI r ∧ mH I' (if r = 0 then hPush ps n W0 else ps) (if r = 0 then hN n else n) (if r = 0 then 0 else u) ∧ mG I I' ∧ I' 464 = I 464) := by
  refine rt_intro2 (L := [some (.ref 452), some (.int (nI r))]) ⟨by decide, rfl, (fun h => by cases h)⟩ (Nat.le_of_ble_eq_true rfl) rfl (fun Y Q hQ => ?_)
  by_cases h0 : r = 0
  · subst h0
    refine q_iload_n (pc' := 1) dX11_kept_0 rfl rfl (q_if_ne (pc' := 4) (pt := 8) dX11_kept_1 rfl rfl (fun h9 => absurd (by (first | assumption | exact nI_le (by omega) (by omega) | exact nI_ge (by omega) (by omega) | exact nI_lt (by omega) (by omega) | exact nI_nlt (by omega) (by omega) | exact nI_ne (by omega) (by omega) (by omega) | exact nI_e (by omega) | decide)) h9) (fun _ => (q_aload_n (pc' := 5) dX11_kept_4 rfl rfl (q_sVv (pc' := 8) dX11_kept_5 rfl ml_RX11_406 yv_X11_keeps (by decide) (rs_X11_keeps hM hH hW) ⟨by omega, rfl⟩ rfl rfl (Nat.le_of_ble_eq_true rfl) (Nat.le_refl _) (fun I1 ⟨h1, h2, h3, h4⟩ => ?_)))))
    exact q_iload_n (pc' := 9) dX11_kept_8 rfl rfl (q_iret dX11_kept_9 rfl (hQ _ _ _ _ ⟨_, rfl, ⟨rfl, rfl⟩, rfl, h1, h2, h3⟩))
  · rw [if_neg h0, if_neg h0, if_neg h0] at hQ
    exact q_iload_n (pc' := 1) dX11_kept_0 rfl rfl (q_if_ne (pc' := 4) (pt := 8) dX11_kept_1 rfl rfl (fun _ => (q_iload_n (pc' := 9) dX11_kept_8 rfl rfl (q_iret dX11_kept_9 rfl (hQ _ _ _ _ ⟨_, rfl, ⟨rfl, rfl⟩, rfl, hH, mG.rf, rfl⟩)))) (fun h9 => absurd h9 (nI_ne0 (by omega) (by omega))))
/-- the row and a row of what is kept change places -/
def mj_xc (I : mj_M) (t k : Nat) : mj_M := fun a x => if a = 466 ∧ 1775 * t ≤ x ∧ x < 1775 * t + k then I 464 (x - 1775 * t) else if a = 464 ∧ x < k then I 466 (1775 * t + x) else I a x
theorem xc_0 {I : mj_M} {t : Nat} : mj_xc I t 0 = I := by
  funext a x
  unfold mj_xc
  rw [if_neg (fun q => by omega), if_neg (fun q => by omega)]
theorem xc_s {I : mj_M} {t k : Nat} : mj_up (mj_up (mj_xc I t k) 466 (1775 * t + k) (I 464 k)) 464 k (I 466 (1775 * t + k)) = mj_xc I t (k + 1) := by
  funext a x
  unfold mj_up mj_xc
  by_cases h1 : a = 464
  · subst h1
    by_cases h2 : x = k
    · rw [if_pos ⟨rfl, h2⟩, if_neg (fun q => absurd q.1 (by decide)), if_pos ⟨rfl, by omega⟩, h2]
    · rw [if_neg (fun q => h2 q.2)]
      have e : ¬ ((464 : Nat) = 466) := by decide
      simp only [e, false_and, if_false, true_and]
      by_cases h3 : x < k
      · rw [if_pos h3, if_pos (by omega)]
      · rw [if_neg h3, if_neg (by omega)]
  · rw [if_neg (fun q => h1 q.1)]
    by_cases h4 : a = 466
    · subst h4
      by_cases h2 : x = 1775 * t + k
      · rw [if_pos ⟨rfl, h2⟩, if_pos ⟨rfl, by omega, by omega⟩, h2, Nat.add_sub_cancel_left]
      · rw [if_neg (fun q => h2 q.2)]
        by_cases h3 : 1775 * t ≤ x ∧ x < 1775 * t + k
        · rw [if_pos ⟨rfl, h3⟩, if_pos ⟨rfl, h3.1, by omega⟩]
        · rw [if_neg (fun q => h3 q.2), if_neg (fun q => h1 q.1), if_neg (fun q => h3 ⟨q.2.1, by omega⟩), if_neg (fun q => h1 q.1)]
    · rw [if_neg (fun q => h4 q.1), if_neg (fun q => h4 q.1), if_neg (fun q => h1 q.1), if_neg (fun q => h4 q.1), if_neg (fun q => h1 q.1)]
theorem rn_X11_exchanges {t : Nat} (hM : mj_wM R) (ht : t < 16) : Rn w l yX11_exchanges dd_X11_exchanges [.ref 452, .int (nI t)] (472, I, J, R) none (472, mj_xc I t 1775, J, R) := by
  have hj : 1775 * t ≤ 1775 * 15 := Nat.mul_le_mul_left _ (by omega)
  refine rn_intro2 (L := [some (.ref 452), some (.int (nI t)), none, none]) ⟨by decide, rfl, (fun h => by cases h)⟩ (Nat.le_refl _) (Nat.le_of_ble_eq_true rfl) rfl (fun Y Q hQ => ?_)
  have loop : ∀ m k (o3 : Option Value), k + m = 1775 → Wq dd_X11_exchanges (mj_mk w l 472 Y) Q 2 [some (.ref 452), some (.int (nI t)), some (.int (nI k)), o3] [] (472, mj_xc I t k, J, R) := by
    intro m
    induction m with
    | zero =>
      intro k o3 hkm
      have hkz : k = 1775 := by omega
      subst hkz
      exact q_iload_n (pc' := 3) dX11_exchanges_2 rfl rfl (q_sipush (pc' := 6) _ dX11_exchanges_3 rfl kk_sipush_1775 (q_icmp_ge (pc' := 9) (pt := 53) dX11_exchanges_6 rfl rfl (fun _ => (q_vret dX11_exchanges_53 rfl hQ)) (fun h9 => absurd (by (first | assumption | exact nI_le (by omega) (by omega) | exact nI_ge (by omega) (by omega) | exact nI_lt (by omega) (by omega) | exact nI_nlt (by omega) (by omega) | exact nI_ne (by omega) (by omega) (by omega) | exact nI_e (by omega) | decide)) h9)))
    | succ m ih =>
      intro k o3 hkm
      have e1 : mj_xc I t k 466 (1775 * t + k) = I 466 (1775 * t + k) := by
        unfold mj_xc
        rw [if_neg (fun q => by omega), if_neg (fun q => absurd q.1 (by decide))]
      have e2 : mj_xc I t k 464 k = I 464 k := by
        unfold mj_xc
        rw [if_neg (fun q => absurd q.1 (by decide)), if_neg (fun q => by omega)]
      refine q_iload_n (pc' := 3) dX11_exchanges_2 rfl rfl (q_sipush (pc' := 6) _ dX11_exchanges_3 rfl kk_sipush_1775 (q_icmp_ge (pc' := 9) (pt := 53) dX11_exchanges_6 rfl rfl (fun h9 => absurd h9 (by (first | assumption | exact nI_le (by omega) (by omega) | exact nI_ge (by omega) (by omega) | exact nI_lt (by omega) (by omega) | exact nI_nlt (by omega) (by omega) | exact nI_ne (by omega) (by omega) (by omega) | exact nI_e (by omega) | decide))) (fun _ => (q_aload_n (pc' := 10) dX11_exchanges_9 rfl rfl (q_getR (pc' := 13) dX11_exchanges_10 rfl fr_RX11_57 ⟨by omega, rfl⟩ rfl (wM_38 hM) (by decide) (q_sipush (pc' := 16) _ dX11_exchanges_13 rfl kk_sipush_1775 (q_iload_n (pc' := 17) dX11_exchanges_16 rfl rfl (q_imul (pc' := 18) dX11_exchanges_17 rfl (q_iload_n (pc' := 19) dX11_exchanges_18 rfl rfl (q_iadd (pc' := 20) dX11_exchanges_19 rfl (q_ialde (pc' := 21) (1775 * t + k) dX11_exchanges_20 rfl (by first | exact ⟨by omega, rfl⟩ | exact okaS hi hz (by decide) rfl | assumption) (by (first | (simp only [nI_add, pk_mul]; done) | (simp only [nI_add, pk_mul]; exact nI_e (by omega)) | exact nI_e (by omega))) (by omega) e1 (q_ist_3 (pc' := 22) dX11_exchanges_21 rfl (by decide) rfl (q_aload_n (pc' := 23) dX11_exchanges_22 rfl rfl (q_getR (pc' := 26) dX11_exchanges_23 rfl fr_RX11_57 ⟨by omega, rfl⟩ rfl (wM_38 hM) (by decide) ?_))))))))))))))
      refine q_sipush (pc' := 29) _ dX11_exchanges_26 rfl kk_sipush_1775 (q_iload_n (pc' := 30) dX11_exchanges_29 rfl rfl (q_imul (pc' := 31) dX11_exchanges_30 rfl (q_iload_n (pc' := 32) dX11_exchanges_31 rfl rfl (q_iadd (pc' := 33) dX11_exchanges_32 rfl (q_aload_n (pc' := 34) dX11_exchanges_33 rfl rfl (q_getR (pc' := 37) dX11_exchanges_34 rfl fr_RX11_51 ⟨by omega, rfl⟩ rfl (wM_36 hM) (by decide) (q_iload_n (pc' := 38) dX11_exchanges_37 rfl rfl (q_ialde (pc' := 39) _ dX11_exchanges_38 rfl (by first | exact ⟨by omega, rfl⟩ | exact okaS hi hz (by decide) rfl | assumption) rfl (by omega) e2 (q_iast (pc' := 40) (1775 * t + k) dX11_exchanges_39 rfl (by first | exact ⟨by omega, rfl⟩ | exact okaS hi hz (by decide) rfl | assumption) (by (first | (simp only [nI_add, pk_mul]; done) | (simp only [nI_add, pk_mul]; exact nI_e (by omega)) | exact nI_e (by omega))) (by omega) (q_aload_n (pc' := 41) dX11_exchanges_40 rfl rfl (q_getR (pc' := 44) dX11_exchanges_41 rfl fr_RX11_51 ⟨by omega, rfl⟩ rfl (wM_36 hM) (by decide) (q_iload_n (pc' := 45) dX11_exchanges_44 rfl rfl (q_iload_n (pc' := 46) dX11_exchanges_45 rfl rfl ?_)))))))))))))
      refine q_iast (pc' := 47) _ dX11_exchanges_46 rfl (by first | exact ⟨by omega, rfl⟩ | exact okaS hi hz (by decide) rfl | assumption) rfl (by omega) ?_
      rw [xc_s]
      refine q_inc_2 (pc' := 50) dX11_exchanges_47 rfl (by decide) rfl (q_goto (pc' := 2) dX11_exchanges_50 rfl ?_)
      exact ih (k + 1) _ (by omega)
  refine q_iconst (pc' := 1) _ dX11_exchanges_0 rfl kk_iconst_0 (q_ist_2 (pc' := 2) dX11_exchanges_1 rfl (by decide) rfl ?_)
  have := loop 1775 0 none (by omega)
  rw [xc_0] at this
  exact this
/-- UNDO, REDO: the place of the row that changes places -/
theorem mH_xc {I I2 : mj_M} {t n' u' : Nat} (hR : rR (I 464) A) (hrow : ∀ t, t < n + u → rR (fun k => I 466 (1775 * t + k)) (ps t)) (hI : I2 466 = mj_xc I t 1775 466) (ht : t < n + u) (hnu : n' + u' = n + u) (h16 : n + u ≤ 16) (h40 : I2 452 40 = nI n') (h41 : I2 452 41 = nI u') : mH I2 (fun s => if s = t then A else ps s) n' u' := by
  refine ⟨h40, h41, by omega, fun s hs k hk => ?_⟩
  show I2 466 (1775 * s + k) = _
  rw [hI]
  unfold mj_xc
  by_cases h1 : s = t
  · subst h1
    rw [if_pos ⟨rfl, by omega, by omega⟩, Nat.add_sub_cancel_left]
    dsimp only
    rw [if_pos rfl]
    exact hR k hk
  · have h2 : ¬ (1775 * t ≤ 1775 * s + k ∧ 1775 * s + k < 1775 * t + 1775) := by
      intro q
      rcases Nat.lt_or_gt_of_ne h1 with h | h
      · have := Nat.mul_le_mul_left 1775 (show s + 1 ≤ t by omega); rw [Nat.mul_add] at this; omega
      · have := Nat.mul_le_mul_left 1775 (show t + 1 ≤ s by omega); rw [Nat.mul_add] at this; omega
    rw [if_neg (fun q => h2 q.2), if_neg (fun q => absurd q.1 (by decide))]
    dsimp only
    rw [if_neg h1]
    exact hrow s (by omega) k hk
def hSet (ps : Nat → St) (t : Nat) (A : St) : Nat → St := fun s => if s = t then A else ps s
theorem mG_xc {I : mj_M} {t : Nat} : mG I (mj_xc I t 1775) := by
  have hne : ∀ a, a ≠ 464 → a ≠ 466 → mj_xc I t 1775 a = I a := fun a h1 h2 => by
    funext x
    unfold mj_xc
    rw [if_neg (fun q => h2 q.1), if_neg (fun q => h1 q.1)]
  exact ⟨fun a h1 _ h3 _ _ => hne a h1 h3, fun f _ _ => congrFun (hne 452 (by decide) (by decide)) f⟩
theorem rR_xc {I : mj_M} {t : Nat} {B : St} (hB : rR (fun k => I 466 (1775 * t + k)) B) : rR (mj_xc I t 1775 464) B := by
  intro k hk
  unfold mj_xc
  rw [if_neg (fun q => absurd q.1 (by decide)), if_pos ⟨rfl, hk⟩]
  exact hB k hk
theorem xc_452 {I : mj_M} {t : Nat} : mj_xc I t 1775 452 = I 452 := by
  funext x
  unfold mj_xc
  rw [if_neg (fun q => absurd q.1 (by decide)), if_neg (fun q => absurd q.1 (by decide))]
theorem mG_up {I : mj_M} {j : Nat} {x : Int32} (h : j = 40 ∨ j = 41) : mG I (mj_up I 452 j x) := ⟨fun a _ _ _ _ h5 => up_fI h5, fun f h1 h2 => mj_up_ne2 (by omega)⟩
theorem rs_X11_undo (hM : mj_wM R) (hR : rR (I 464) A) (hH : mH I ps n u) : RsI w l yX11_undo dd_X11_undo [.ref 452] (472, I, J, R) (fun x I' => x = bI (n != 0) ∧ rR (I' 464) (if n = 0 then A else ps (n - 1)) ∧ mH I' (if n = 0 then ps else hSet ps (n - 1) A) (n - 1) (if n = 0 then u else u + 1) ∧ mG I I') := by
  obtain ⟨h40, h41, hnu, hrow⟩ := hH
  refine rt_intro2 (L := [some (.ref 452)]) ⟨by decide, rfl, (fun h => by cases h)⟩ (Nat.le_of_ble_eq_true rfl) rfl (fun Y Q hQ => ?_)
  by_cases h0 : n = 0
  · subst h0
    exact q_aload_n (pc' := 1) dX11_undo_0 rfl rfl (q_getIe (pc' := 4) dX11_undo_1 rfl fr_RX11_259 ⟨by omega, rfl⟩ rfl h40 (q_if_ne (pc' := 7) (pt := 9) dX11_undo_4 rfl rfl (fun h9 => absurd (by (first | assumption | exact nI_le (by omega) (by omega) | exact nI_ge (by omega) (by omega) | exact nI_lt (by omega) (by omega) | exact nI_nlt (by omega) (by omega) | exact nI_ne (by omega) (by omega) (by omega) | exact nI_e (by omega) | decide)) h9) (fun _ => (q_iconst (pc' := 8) _ dX11_undo_7 rfl kk_iconst_0 (q_zret dX11_undo_8 rfl (by first | exact Or.inl rfl | exact Or.inr rfl | exact bI_01 _) (hQ _ _ _ _ ⟨_, rfl, ⟨rfl, rfl⟩, rfl, hR, ⟨h40, h41, hnu, hrow⟩, mG.rf⟩))))))
  · rw [if_neg h0, if_neg h0, if_neg h0] at hQ
    refine q_aload_n (pc' := 1) dX11_undo_0 rfl rfl (q_getIe (pc' := 4) dX11_undo_1 rfl fr_RX11_259 ⟨by omega, rfl⟩ rfl h40 (q_if_ne (pc' := 7) (pt := 9) dX11_undo_4 rfl rfl (fun _ => (q_aload_n (pc' := 10) dX11_undo_9 rfl rfl (q_dup_a (pc' := 11) dX11_undo_10 rfl (q_getIe (pc' := 14) dX11_undo_11 rfl fr_RX11_259 ⟨by omega, rfl⟩ rfl h40 (q_iconst (pc' := 15) _ dX11_undo_14 rfl kk_iconst_1 (q_isub (pc' := 16) dX11_undo_15 rfl ?_)))))) (fun h9 => absurd h9 (nI_ne0 (by omega) (by omega)))))
    refine q_top (pk_sub (show 1 ≤ n by omega)) ?_
    have e1 : mj_up I 452 40 (nI (n - 1)) 452 41 = nI u := by rw [mj_up_ne2 (by decide)]; exact h41
    refine q_putI (pc' := 19) dX11_undo_16 rfl fl_RX11_259 ⟨by omega, rfl⟩ rfl (q_aload_n (pc' := 20) dX11_undo_19 rfl rfl (q_dup_a (pc' := 21) dX11_undo_20 rfl (q_getIe (pc' := 24) dX11_undo_21 rfl fr_RX11_262 ⟨by omega, rfl⟩ rfl e1 (q_iconst (pc' := 25) _ dX11_undo_24 rfl kk_iconst_1 (q_iadd (pc' := 26) dX11_undo_25 rfl ?_)))))
    refine q_top (nI_add _ _) ?_
    have e2 : mj_up (mj_up I 452 40 (nI (n - 1))) 452 41 (nI (u + 1)) 452 40 = nI (n - 1) := by rw [mj_up_ne2 (by decide), mj_up_eq]
    have e3 : mj_up (mj_up I 452 40 (nI (n - 1))) 452 41 (nI (u + 1)) 452 41 = nI (u + 1) := mj_up_eq
    have e4 : mG I (mj_up (mj_up I 452 40 (nI (n - 1))) 452 41 (nI (u + 1))) := (mG_up (Or.inl rfl)).tr (mG_up (Or.inr rfl))
    have e5 : mj_up (mj_up I 452 40 (nI (n - 1))) 452 41 (nI (u + 1)) 464 = I 464 := by rw [up_fI (by decide), up_fI (by decide)]
    have e6 : mj_up (mj_up I 452 40 (nI (n - 1))) 452 41 (nI (u + 1)) 466 = I 466 := by rw [up_fI (by decide), up_fI (by decide)]
    refine q_putI (pc' := 29) dX11_undo_26 rfl fl_RX11_262 ⟨by omega, rfl⟩ rfl ?_
    generalize mj_up (mj_up I 452 40 (nI (n - 1))) 452 41 (nI (u + 1)) = I2 at e2 e3 e4 e5 e6 ⊢
    have hrow2 : ∀ t, t < n + u → rR (fun k => I2 466 (1775 * t + k)) (ps t) := by rw [e6]; exact hrow
    exact q_aload_n (pc' := 30) dX11_undo_29 rfl rfl (q_aload_n (pc' := 31) dX11_undo_30 rfl rfl (q_getIe (pc' := 34) dX11_undo_31 rfl fr_RX11_259 ⟨by omega, rfl⟩ rfl e2 (q_cVv (pc' := 37) dX11_undo_34 rfl ml_RX11_403 yv_X11_exchanges (by decide) (rn_X11_exchanges hM (by omega)) ⟨by omega, rfl⟩ rfl rfl (Nat.le_of_ble_eq_true rfl) (Nat.le_refl _) (q_iconst (pc' := 38) _ dX11_undo_37 rfl kk_iconst_1 (q_zret dX11_undo_38 rfl (by first | exact Or.inl rfl | exact Or.inr rfl | exact bI_01 _) (hQ _ _ _ _ ⟨_, rfl, ⟨rfl, rfl⟩, (by rw [bne_iff_ne.mpr h0]; rfl), rR_xc (hrow2 (n - 1) (by omega)), mH_xc (I := I2) (by rw [e5]; exact hR) hrow2 rfl (by omega) (by omega) hnu (by rw [xc_452]; exact e2) (by rw [xc_452]; exact e3), e4.tr mG_xc⟩))))))
theorem rs_X11_redo (hM : mj_wM R) (hR : rR (I 464) A) (hH : mH I ps n u) : RsI w l yX11_redo dd_X11_redo [.ref 452] (472, I, J, R) (fun x I' => x = bI (u != 0) ∧ rR (I' 464) (if u = 0 then A else ps n) ∧ mH I' (if u = 0 then ps else hSet ps n A) (if u = 0 then n else n + 1) (u - 1) ∧ mG I I') := by
  obtain ⟨h40, h41, hnu, hrow⟩ := hH
  refine rt_intro2 (L := [some (.ref 452)]) ⟨by decide, rfl, (fun h => by cases h)⟩ (Nat.le_of_ble_eq_true rfl) rfl (fun Y Q hQ => ?_)
  by_cases h0 : u = 0
  · subst h0
    exact q_aload_n (pc' := 1) dX11_redo_0 rfl rfl (q_getIe (pc' := 4) dX11_redo_1 rfl fr_RX11_262 ⟨by omega, rfl⟩ rfl h41 (q_if_ne (pc' := 7) (pt := 9) dX11_redo_4 rfl rfl (fun h9 => absurd (by (first | assumption | exact nI_le (by omega) (by omega) | exact nI_ge (by omega) (by omega) | exact nI_lt (by omega) (by omega) | exact nI_nlt (by omega) (by omega) | exact nI_ne (by omega) (by omega) (by omega) | exact nI_e (by omega) | decide)) h9) (fun _ => (q_iconst (pc' := 8) _ dX11_redo_7 rfl kk_iconst_0 (q_zret dX11_redo_8 rfl (by first | exact Or.inl rfl | exact Or.inr rfl | exact bI_01 _) (hQ _ _ _ _ ⟨_, rfl, ⟨rfl, rfl⟩, rfl, hR, ⟨h40, h41, hnu, hrow⟩, mG.rf⟩))))))
  · rw [if_neg h0, if_neg h0, if_neg h0] at hQ
    refine q_aload_n (pc' := 1) dX11_redo_0 rfl rfl (q_getIe (pc' := 4) dX11_redo_1 rfl fr_RX11_262 ⟨by omega, rfl⟩ rfl h41 (q_if_ne (pc' := 7) (pt := 9) dX11_redo_4 rfl rfl (fun _ => (q_aload_n (pc' := 10) dX11_redo_9 rfl rfl (q_dup_a (pc' := 11) dX11_redo_10 rfl (q_getIe (pc' := 14) dX11_redo_11 rfl fr_RX11_262 ⟨by omega, rfl⟩ rfl h41 (q_iconst (pc' := 15) _ dX11_redo_14 rfl kk_iconst_1 (q_isub (pc' := 16) dX11_redo_15 rfl ?_)))))) (fun h9 => absurd h9 (nI_ne0 (by omega) (by omega)))))
    refine q_top (pk_sub (show 1 ≤ u by omega)) ?_
    have e2 : mj_up I 452 41 (nI (u - 1)) 452 40 = nI n := by rw [mj_up_ne2 (by decide)]; exact h40
    have e3 : mj_up I 452 41 (nI (u - 1)) 452 41 = nI (u - 1) := mj_up_eq
    have e4 : mG I (mj_up I 452 41 (nI (u - 1))) := mG_up (Or.inr rfl)
    have e5 : mj_up I 452 41 (nI (u - 1)) 464 = I 464 := up_fI (by decide)
    have e6 : mj_up I 452 41 (nI (u - 1)) 466 = I 466 := up_fI (by decide)
    refine q_putI (pc' := 19) dX11_redo_16 rfl fl_RX11_262 ⟨by omega, rfl⟩ rfl ?_
    generalize mj_up I 452 41 (nI (u - 1)) = I2 at e2 e3 e4 e5 e6 ⊢
    have hrow2 : ∀ t, t < n + u → rR (fun k => I2 466 (1775 * t + k)) (ps t) := by rw [e6]; exact hrow
    have e7 : mj_xc I2 n 1775 452 40 = nI n := by rw [xc_452]; exact e2
    refine q_aload_n (pc' := 20) dX11_redo_19 rfl rfl (q_aload_n (pc' := 21) dX11_redo_20 rfl rfl (q_getIe (pc' := 24) dX11_redo_21 rfl fr_RX11_259 ⟨by omega, rfl⟩ rfl e2 (q_cVv (pc' := 27) dX11_redo_24 rfl ml_RX11_403 yv_X11_exchanges (by decide) (rn_X11_exchanges hM (by omega)) ⟨by omega, rfl⟩ rfl rfl (Nat.le_of_ble_eq_true rfl) (Nat.le_refl _) (q_aload_n (pc' := 28) dX11_redo_27 rfl rfl (q_dup_a (pc' := 29) dX11_redo_28 rfl (q_getIe (pc' := 32) dX11_redo_29 rfl fr_RX11_259 ⟨by omega, rfl⟩ rfl e7 (q_iconst (pc' := 33) _ dX11_redo_32 rfl kk_iconst_1 (q_iadd (pc' := 34) dX11_redo_33 rfl ?_))))))))
    refine q_top (nI_add _ _) ?_
    exact q_putI (pc' := 37) dX11_redo_34 rfl fl_RX11_259 ⟨by omega, rfl⟩ rfl (q_iconst (pc' := 38) _ dX11_redo_37 rfl kk_iconst_1 (q_zret dX11_redo_38 rfl (by first | exact Or.inl rfl | exact Or.inr rfl | exact bI_01 _) (hQ _ _ _ _ ⟨_, rfl, ⟨rfl, rfl⟩, (by rw [bne_iff_ne.mpr h0]; rfl), (by rw [up_fI (by decide)]; exact rR_xc (hrow2 n (by omega))), mH_xc (I := I2) (by rw [e5]; exact hR) hrow2 (up_fI (by decide)) (by omega) (by omega) hnu mj_up_eq (by rw [mj_up_ne2 (by decide), xc_452]; exact e3), (e4.tr mG_xc).tr (mG_up (Or.inl rfl))⟩)))
end M15
