/-! ===== the reference: images, about, room ===== -/
/-- a stretch of an array is new -/
def mj_st2 (I : mj_M) (a o n : Nat) (f : Nat → Int32) : mj_M := fun x k => if x = a ∧ o ≤ k ∧ k < o + n then f (k - o) else I x k
theorem st2_0 {I : mj_M} {a o : Nat} {f : Nat → Int32} : mj_st2 I a o 0 f = I := by
  funext x k
  unfold mj_st2
  rw [if_neg (fun q => by omega)]
theorem st2_s {I : mj_M} {a o n : Nat} {f : Nat → Int32} : mj_up (mj_st2 I a o n f) a (o + n) (f n) = mj_st2 I a o (n + 1) f := by
  funext x k
  unfold mj_up mj_st2
  by_cases h1 : x = a
  · subst h1
    by_cases h2 : k = o + n
    · rw [if_pos ⟨rfl, h2⟩, if_pos ⟨rfl, by omega, by omega⟩, h2, Nat.add_sub_cancel_left]
    · rw [if_neg (fun q => h2 q.2)]
      by_cases h3 : o ≤ k ∧ k < o + n
      · rw [if_pos ⟨rfl, h3⟩, if_pos ⟨rfl, h3.1, by omega⟩]
      · rw [if_neg (fun q => h3 q.2), if_neg (fun q => h3 ⟨q.2.1, by omega⟩)]
  · rw [if_neg (fun q => h1 q.1), if_neg (fun q => h1 q.1), if_neg (fun q => h1 q.1)]
theorem st2_ne {I : mj_M} {a o n x : Nat} {f : Nat → Int32} (h : x ≠ a) : mj_st2 I a o n f x = I x := by
  funext k; unfold mj_st2; rw [if_neg (fun q => h q.1)]
theorem st2_in {I : mj_M} {a o n k : Nat} {f : Nat → Int32} (h : k < n) : mj_st2 I a o n f a (o + k) = f k := by
  unfold mj_st2; rw [if_pos ⟨rfl, by omega, by omega⟩, Nat.add_sub_cancel_left]
theorem st2_out {I : mj_M} {a o n k : Nat} {f : Nat → Int32} (h : k < o ∨ o + n ≤ k) : mj_st2 I a o n f a k = I a k := by
  unfold mj_st2; rw [if_neg (fun q => by omega)]
/-- the two IMAGES of the reference -/
def mX (I : mj_M) (bx : Nat → Option St) : Prop := ∀ j, j < 2 → I 471 j = bI (bx j).isSome ∧ ∀ B, bx j = some B → rR (fun k => I 470 (1775 * j + k)) B
theorem mX_of {I I' : mj_M} {bx : Nat → Option St} (h : mX I bx) (h1 : I' 470 = I 470) (h2 : I' 471 = I 471) : mX I' bx := by
  unfold mX at h ⊢
  rw [h1, h2]
  exact h
section M23
variable {w : mj_Wd} {l : Launch} {I : mj_M} {J : mj_J} {R : mj_R} {b A W0 : St} {ps : Nat → St} {n u t : Nat} {h : mj_H} {U : St → Prop} {bx : Nat → Option St}
theorem rn_X11_image0 {x : Int32} (hx : inN x 2 = false) : Rn w l yX11_image dd_X11_image [.ref 452, .int x] (472, I, J, R) (some (.int (-1))) (472, I, J, R) := by
  refine rn_intro2 (L := [some (.ref 452), some (.int x), none]) ⟨by decide, rfl, (fun h => by cases h)⟩ (Nat.le_refl _) (Nat.le_of_ble_eq_true rfl) rfl (fun Y Q hQ => ?_)
  exact q_iload_n (pc' := 1) dX11_image_0 rfl rfl (q_iconst (pc' := 2) _ dX11_image_1 rfl kk_iconst_0 (q_iconst (pc' := 3) _ dX11_image_2 rfl kk_iconst_1 (q_cSi (pc' := 6) dX11_image_3 rfl ml_RX11_89 ys_X11_isIn (by decide) (rn_isInN 1) rfl rfl (Nat.le_of_ble_eq_true rfl) (Nat.le_refl _) (q_ifb_ne (pc' := 9) (pt := 11) dX11_image_6 rfl rfl (fun h9 => Bool.noConfusion (Eq.trans (Eq.symm (hx)) h9)) (fun _ => (q_iconst (pc' := 10) _ dX11_image_9 rfl kk_iconst_m1 (q_iret dX11_image_10 rfl hQ)))))))
theorem rs_X11_image {j : Nat} (hM : mj_wM R) (hb : mB I b) (hk : bOK b) (hR : rR (I 464) A) (hA : aOK A) (hX : mX I bx) (hj : j < 2) : RsI w l yX11_image dd_X11_image [.ref 452, .int (nI j)] (472, I, J, R) (fun x I' => x = nI (aHeld b A) ∧ mX I' (fun i => if i = j then some A else bx i) ∧ ∀ a, a ≠ 470 → a ≠ 471 → I' a = I a) := by
  have hj8 : 1775 * j ≤ 1775 * 1 := Nat.mul_le_mul_left _ (by omega)
  refine rt_intro2 (L := [some (.ref 452), some (.int (nI j)), none]) ⟨by decide, rfl, (fun h => by cases h)⟩ (Nat.le_of_ble_eq_true rfl) rfl (fun Y Q hQ => ?_)
  refine q_iload_n (pc' := 1) dX11_image_0 rfl rfl (q_iconst (pc' := 2) _ dX11_image_1 rfl kk_iconst_0 (q_iconst (pc' := 3) _ dX11_image_2 rfl kk_iconst_1 (q_cSi (pc' := 6) dX11_image_3 rfl ml_RX11_89 ys_X11_isIn (by decide) (rn_isInN 1) rfl rfl (Nat.le_of_ble_eq_true rfl) (Nat.le_refl _) (q_ifb_ne (pc' := 9) (pt := 11) dX11_image_6 rfl rfl (fun _ => (q_aload_n (pc' := 12) dX11_image_11 rfl rfl (q_getR (pc' := 15) dX11_image_12 rfl fr_RX11_72 ⟨by omega, rfl⟩ rfl (wM_50 hM) (by decide) (q_iload_n (pc' := 16) dX11_image_15 rfl rfl (q_iconst (pc' := 17) _ dX11_image_16 rfl kk_iconst_1 (q_zast (pc' := 18) (j) dX11_image_17 rfl (by first | exact ⟨by omega, rfl⟩ | exact okaS hi hz (by decide) rfl | assumption) (by (first | (simp only [nI_add, pk_mul]; done) | (simp only [nI_add, pk_mul]; exact nI_e (by omega)) | exact nI_e (by omega))) (by omega) (by first | exact Or.inl rfl | exact Or.inr rfl | exact bI_01 _) (q_iconst (pc' := 19) _ dX11_image_18 rfl kk_iconst_0 (q_ist_2 (pc' := 20) dX11_image_19 rfl (by decide) rfl ?_)))))))) (fun h9 => Bool.noConfusion (Eq.trans (Eq.symm (inN_t (by decide) hj)) h9))))))
  have e0 : ∀ k a, a ≠ 470 → a ≠ 471 → mj_st2 (mj_up I 471 j (nI 1)) 470 (1775 * j) k (I 464) a = I a := fun k a h1 h2 => by
    rw [st2_ne h1]; funext x; exact mj_up_ne h2
  have fin : mX (mj_st2 (mj_up I 471 j (nI 1)) 470 (1775 * j) 1775 (I 464)) (fun i => if i = j then some A else bx i) := by
    intro i hi
    rw [st2_ne (show 471 ≠ 470 by decide)]
    dsimp only
    by_cases e : i = j
    · subst e
      rw [if_pos rfl, mj_up_eq]
      refine ⟨rfl, fun B hB => ?_⟩
      cases hB
      exact fun k hk9 => (st2_in hk9).trans (hR k hk9)
    · rw [if_neg e, mj_up_ne2 e]
      refine ⟨(hX i hi).1, fun B hB k hk9 => ?_⟩
      show mj_st2 (mj_up I 471 j (nI 1)) 470 (1775 * j) 1775 (I 464) 470 (1775 * i + k) = _
      rw [st2_out (by omega), mj_up_ne (by decide)]
      exact (hX i hi).2 B hB k hk9
  have loop : ∀ m k, k + m = 1775 → Wq dd_X11_image (mj_mk w l 472 Y) Q 20 [some (.ref 452), some (.int (nI j)), some (.int (nI k))] [] (472, mj_st2 (mj_up I 471 j (nI 1)) 470 (1775 * j) k (I 464), J, R) := by
    intro m
    induction m with
    | zero =>
      intro k hkm
      have hkz : k = 1775 := by omega
      subst hkz
      have hb9 : mB (mj_st2 (mj_up I 471 j (nI 1)) 470 (1775 * j) 1775 (I 464)) b := by
        unfold mB at hb ⊢
        rw [e0 _ 452 (by decide) (by decide), e0 _ 457 (by decide) (by decide), e0 _ 458 (by decide) (by decide), e0 _ 459 (by decide) (by decide)]
        exact hb
      have hR9 : rR (mj_st2 (mj_up I 471 j (nI 1)) 470 (1775 * j) 1775 (I 464) 464) A := by rw [e0 _ 464 (by decide) (by decide)]; exact hR
      exact q_iload_n (pc' := 21) dX11_image_20 rfl rfl (q_sipush (pc' := 24) _ dX11_image_21 rfl kk_sipush_1775 (q_icmp_ge (pc' := 27) (pt := 51) dX11_image_24 rfl rfl (fun _ => (q_aload_n (pc' := 52) dX11_image_51 rfl rfl (q_cVi (pc' := 55) dX11_image_52 rfl ml_RX11_502 yv_X11_heldLines (by decide) (rn_X11_heldLines hM hb9 hk hR9 hA) ⟨by omega, rfl⟩ rfl rfl (Nat.le_of_ble_eq_true rfl) (Nat.le_refl _) (q_iret dX11_image_55 rfl (hQ _ _ _ _ ⟨_, rfl, ⟨rfl, rfl⟩, rfl, fin, e0 1775⟩))))) (fun h9 => absurd (by (first | assumption | exact nI_le (by omega) (by omega) | exact nI_ge (by omega) (by omega) | exact nI_lt (by omega) (by omega) | exact nI_nlt (by omega) (by omega) | exact nI_ne (by omega) (by omega) (by omega) | exact nI_e (by omega) | decide)) h9)))
    | succ m ih =>
      intro k hkm
      refine q_iload_n (pc' := 21) dX11_image_20 rfl rfl (q_sipush (pc' := 24) _ dX11_image_21 rfl kk_sipush_1775 (q_icmp_ge (pc' := 27) (pt := 51) dX11_image_24 rfl rfl (fun h9 => absurd h9 (by (first | assumption | exact nI_le (by omega) (by omega) | exact nI_ge (by omega) (by omega) | exact nI_lt (by omega) (by omega) | exact nI_nlt (by omega) (by omega) | exact nI_ne (by omega) (by omega) (by omega) | exact nI_e (by omega) | decide))) (fun _ => (q_aload_n (pc' := 28) dX11_image_27 rfl rfl (q_getR (pc' := 31) dX11_image_28 rfl fr_RX11_69 ⟨by omega, rfl⟩ rfl (wM_49 hM) (by decide) (q_sipush (pc' := 34) _ dX11_image_31 rfl kk_sipush_1775 (q_iload_n (pc' := 35) dX11_image_34 rfl rfl (q_imul (pc' := 36) dX11_image_35 rfl (q_iload_n (pc' := 37) dX11_image_36 rfl rfl (q_iadd (pc' := 38) dX11_image_37 rfl (q_aload_n (pc' := 39) dX11_image_38 rfl rfl (q_getR (pc' := 42) dX11_image_39 rfl fr_RX11_51 ⟨by omega, rfl⟩ rfl (wM_36 hM) (by decide) (q_iload_n (pc' := 43) dX11_image_42 rfl rfl (q_ialde (pc' := 44) _ dX11_image_43 rfl (by first | exact ⟨by omega, rfl⟩ | exact okaS hi hz (by decide) rfl | assumption) rfl (by omega) (congrFun (e0 k 464 (by decide) (by decide)) k) ?_))))))))))))))
      refine q_iast (pc' := 45) (1775 * j + k) dX11_image_44 rfl (by first | exact ⟨by omega, rfl⟩ | exact okaS hi hz (by decide) rfl | assumption) (by (first | (simp only [nI_add, pk_mul]; done) | (simp only [nI_add, pk_mul]; exact nI_e (by omega)) | exact nI_e (by omega))) (by omega) ?_
      rw [st2_s]
      refine q_inc_2 (pc' := 48) dX11_image_45 rfl (by decide) rfl (q_goto (pc' := 20) dX11_image_48 rfl ?_)
      exact ih (k + 1) (by omega)
  have := loop 1775 0 (by omega)
  rw [st2_0] at this
  exact this
theorem rn_X11_back0 {x : Int32} (hM : mj_wM R) (hX : mX I bx) (hx : ∀ j, j < 2 → x = nI j → bx j = none) : Rn w l yX11_back dd_X11_back [.ref 452, .int x] (472, I, J, R) (some (.int (-1))) (472, I, J, R) := by
  refine rn_intro2 (L := [some (.ref 452), some (.int x), none]) ⟨by decide, rfl, (fun h => by cases h)⟩ (Nat.le_refl _) (Nat.le_of_ble_eq_true rfl) rfl (fun Y Q hQ => ?_)
  refine q_iload_n (pc' := 1) dX11_back_0 rfl rfl (q_iconst (pc' := 2) _ dX11_back_1 rfl kk_iconst_0 (q_iconst (pc' := 3) _ dX11_back_2 rfl kk_iconst_1 (q_cSi (pc' := 6) dX11_back_3 rfl ml_RX11_89 ys_X11_isIn (by decide) (rn_isInN 1) rfl rfl (Nat.le_of_ble_eq_true rfl) (Nat.le_refl _) (q_ifb_eq (pc' := 9) (pt := 18) dX11_back_6 rfl rfl (fun h1 => ?_) (fun h1 => ?_)))))
  · exact q_iconst (pc' := 19) _ dX11_back_18 rfl kk_iconst_m1 (q_iret dX11_back_19 rfl hQ)
  · obtain ⟨j, hj, rfl⟩ := (inN_iff (by decide)).mp h1
    have e : I 471 j = bI false := by rw [(hX j hj).1, hx j hj rfl]; rfl
    exact q_aload_n (pc' := 10) dX11_back_9 rfl rfl (q_getR (pc' := 13) dX11_back_10 rfl fr_RX11_72 ⟨by omega, rfl⟩ rfl (wM_50 hM) (by decide) (q_iload_n (pc' := 14) dX11_back_13 rfl rfl (q_zalde (pc' := 15) (j) dX11_back_14 rfl (by first | exact ⟨by omega, rfl⟩ | exact okaS hi hz (by decide) rfl | assumption) (by (first | (simp only [nI_add, pk_mul]; done) | (simp only [nI_add, pk_mul]; exact nI_e (by omega)) | exact nI_e (by omega))) (by omega) e (q_ifb_ne (pc' := 18) (pt := 20) dX11_back_15 rfl rfl (fun h9 => Bool.noConfusion (Eq.trans (Eq.symm (rfl)) h9)) (fun _ => (q_iconst (pc' := 19) _ dX11_back_18 rfl kk_iconst_m1 (q_iret dX11_back_19 rfl hQ)))))))
theorem rs_X11_back {j : Nat} {B : St} (hM : mj_wM R) (hb : mB I b) (hk : bOK b) (hB : aOK B) (hX : mX I bx) (hj : j < 2) (hs : bx j = some B) : RsI w l yX11_back dd_X11_back [.ref 452, .int (nI j)] (472, I, J, R) (fun x I' => x = nI (aHeld b B) ∧ rR (I' 464) B ∧ mH I' ps 0 0 ∧ mG I I') := by
  have hj8 : 1775 * j ≤ 1775 * 1 := Nat.mul_le_mul_left _ (by omega)
  have e : I 471 j = bI true := by rw [(hX j hj).1, hs]; rfl
  refine rt_intro2 (L := [some (.ref 452), some (.int (nI j)), none]) ⟨by decide, rfl, (fun h => by cases h)⟩ (Nat.le_of_ble_eq_true rfl) rfl (fun Y Q hQ => ?_)
  refine q_iload_n (pc' := 1) dX11_back_0 rfl rfl (q_iconst (pc' := 2) _ dX11_back_1 rfl kk_iconst_0 (q_iconst (pc' := 3) _ dX11_back_2 rfl kk_iconst_1 (q_cSi (pc' := 6) dX11_back_3 rfl ml_RX11_89 ys_X11_isIn (by decide) (rn_isInN 1) rfl rfl (Nat.le_of_ble_eq_true rfl) (Nat.le_refl _) (q_ifb_eq (pc' := 9) (pt := 18) dX11_back_6 rfl rfl (fun h9 => Bool.noConfusion (Eq.trans (Eq.symm (inN_t (by decide) hj)) h9)) (fun _ => (q_aload_n (pc' := 10) dX11_back_9 rfl rfl (q_getR (pc' := 13) dX11_back_10 rfl fr_RX11_72 ⟨by omega, rfl⟩ rfl (wM_50 hM) (by decide) (q_iload_n (pc' := 14) dX11_back_13 rfl rfl (q_zalde (pc' := 15) (j) dX11_back_14 rfl (by first | exact ⟨by omega, rfl⟩ | exact okaS hi hz (by decide) rfl | assumption) (by (first | (simp only [nI_add, pk_mul]; done) | (simp only [nI_add, pk_mul]; exact nI_e (by omega)) | exact nI_e (by omega))) (by omega) e (q_ifb_ne (pc' := 18) (pt := 20) dX11_back_15 rfl rfl (fun _ => (q_iconst (pc' := 21) _ dX11_back_20 rfl kk_iconst_0 (q_ist_2 (pc' := 22) dX11_back_21 rfl (by decide) rfl ?_))) (fun h9 => Bool.noConfusion (Eq.trans (Eq.symm (rfl)) h9))))))))))))
  have loop : ∀ m k, k + m = 1775 → Wq dd_X11_back (mj_mk w l 472 Y) Q 22 [some (.ref 452), some (.int (nI j)), some (.int (nI k))] [] (472, mj_cp I 464 k (fun k => I 470 (1775 * j + k)), J, R) := by
    intro m
    induction m with
    | zero =>
      intro k hkm
      have hkz : k = 1775 := by omega
      subst hkz
      refine q_iload_n (pc' := 23) dX11_back_22 rfl rfl (q_sipush (pc' := 26) _ dX11_back_23 rfl kk_sipush_1775 (q_icmp_ge (pc' := 29) (pt := 53) dX11_back_26 rfl rfl (fun _ => (q_aload_n (pc' := 54) dX11_back_53 rfl rfl (q_iconst (pc' := 55) _ dX11_back_54 rfl kk_iconst_0 (q_putI (pc' := 58) dX11_back_55 rfl fl_RX11_259 ⟨by omega, rfl⟩ rfl (q_aload_n (pc' := 59) dX11_back_58 rfl rfl (q_iconst (pc' := 60) _ dX11_back_59 rfl kk_iconst_0 (q_putI (pc' := 63) dX11_back_60 rfl fl_RX11_262 ⟨by omega, rfl⟩ rfl ?_))))))) (fun h9 => absurd (by (first | assumption | exact nI_le (by omega) (by omega) | exact nI_ge (by omega) (by omega) | exact nI_lt (by omega) (by omega) | exact nI_nlt (by omega) (by omega) | exact nI_ne (by omega) (by omega) (by omega) | exact nI_e (by omega) | decide)) h9)))
      have g : mG I (mj_up (mj_up (mj_cp I 464 1775 (fun k => I 470 (1775 * j + k))) 452 40 (nI 0)) 452 41 (nI 0)) := by
        refine ⟨fun a h1 _ _ _ h5 => ?_, fun f h1 h2 => ?_⟩
        · rw [up_fI h5, up_fI h5, cp_ne h1]
        · rw [mj_up_ne2 h2, mj_up_ne2 h1, cp_ne (by decide)]
      have hR9 : rR (mj_up (mj_up (mj_cp I 464 1775 (fun k => I 470 (1775 * j + k))) 452 40 (nI 0)) 452 41 (nI 0) 464) B := by
        rw [up_fI (by decide), up_fI (by decide)]
        exact rR_cong (fun k hk9 => cp_in hk9) ((hX j hj).2 B hs)
      have hH9 : mH (mj_up (mj_up (mj_cp I 464 1775 (fun k => I 470 (1775 * j + k))) 452 40 (nI 0)) 452 41 (nI 0)) ps 0 0 := ⟨by rw [mj_up_ne2 (by decide), mj_up_eq], mj_up_eq, by decide, fun t ht => by omega⟩
      exact q_aload_n (pc' := 64) dX11_back_63 rfl rfl (q_cVi (pc' := 67) dX11_back_64 rfl ml_RX11_502 yv_X11_heldLines (by decide) (rn_X11_heldLines hM (mB_G g hb) hk hR9 hB) ⟨by omega, rfl⟩ rfl rfl (Nat.le_of_ble_eq_true rfl) (Nat.le_refl _) (q_iret dX11_back_67 rfl (hQ _ _ _ _ ⟨_, rfl, ⟨rfl, rfl⟩, rfl, hR9, hH9, g⟩)))
    | succ m ih =>
      intro k hkm
      refine q_iload_n (pc' := 23) dX11_back_22 rfl rfl (q_sipush (pc' := 26) _ dX11_back_23 rfl kk_sipush_1775 (q_icmp_ge (pc' := 29) (pt := 53) dX11_back_26 rfl rfl (fun h9 => absurd h9 (by (first | assumption | exact nI_le (by omega) (by omega) | exact nI_ge (by omega) (by omega) | exact nI_lt (by omega) (by omega) | exact nI_nlt (by omega) (by omega) | exact nI_ne (by omega) (by omega) (by omega) | exact nI_e (by omega) | decide))) (fun _ => (q_aload_n (pc' := 30) dX11_back_29 rfl rfl (q_getR (pc' := 33) dX11_back_30 rfl fr_RX11_51 ⟨by omega, rfl⟩ rfl (wM_36 hM) (by decide) (q_iload_n (pc' := 34) dX11_back_33 rfl rfl (q_aload_n (pc' := 35) dX11_back_34 rfl rfl (q_getR (pc' := 38) dX11_back_35 rfl fr_RX11_69 ⟨by omega, rfl⟩ rfl (wM_49 hM) (by decide) (q_sipush (pc' := 41) _ dX11_back_38 rfl kk_sipush_1775 (q_iload_n (pc' := 42) dX11_back_41 rfl rfl (q_imul (pc' := 43) dX11_back_42 rfl (q_iload_n (pc' := 44) dX11_back_43 rfl rfl (q_iadd (pc' := 45) dX11_back_44 rfl (q_ialde (pc' := 46) (1775 * j + k) dX11_back_45 rfl (by first | exact ⟨by omega, rfl⟩ | exact okaS hi hz (by decide) rfl | assumption) (by (first | (simp only [nI_add, pk_mul]; done) | (simp only [nI_add, pk_mul]; exact nI_e (by omega)) | exact nI_e (by omega))) (by omega) (congrFun (cp_ne (by decide)) (1775 * j + k)) ?_))))))))))))))
      refine q_iast (pc' := 47) (k) dX11_back_46 rfl (by first | exact ⟨by omega, rfl⟩ | exact okaS hi hz (by decide) rfl | assumption) (by (first | (simp only [nI_add, pk_mul]; done) | (simp only [nI_add, pk_mul]; exact nI_e (by omega)) | exact nI_e (by omega))) (by omega) ?_
      rw [cp_s (f := fun k => I 470 (1775 * j + k))]
      refine q_inc_2 (pc' := 50) dX11_back_47 rfl (by decide) rfl (q_goto (pc' := 22) dX11_back_50 rfl ?_)
      exact ih (k + 1) (by omega)
  have := loop 1775 0 (by omega)
  rw [cp_0] at this
  exact this
/-- about(j) -/
def qAbout (b A : St) (n u t : Nat) : Nat → Nat
  | 0 => b 0 0
  | 1 => b 0 1
  | 2 => b 0 2
  | 3 => bitN (fun p => A 9 p == 1) (b 0 0)
  | 4 => aFree b A
  | 5 => aProm b A
  | 6 => A 14 0
  | 7 => A 14 1
  | 8 => A 14 2
  | 9 => A 14 3
  | 10 => n
  | 11 => u
  | 12 => t
  | _ => aUnh b A
theorem rn_X11_about {j : Nat} (hM : mj_wM R) (hb : mB I b) (hk : bOK b) (hR : rR (I 464) A) (hA : aOK A) (hH : mH I ps n u) (ht : I 452 1 = nI t) (hj : j < 14) : Rn w l yX11_about dd_X11_about [.ref 452, .int (nI j)] (472, I, J, R) (some (.int (nI (qAbout b A n u t j)))) (472, I, J, R) := by
  have e : ∀ k, k < 4 → I 464 (1570 + k) = nI (A 14 k) := fun k hk9 => (hR _ (by omega)).trans (cE_sc hk9)
  have hc : j = 0 ∨ j = 1 ∨ j = 2 ∨ j = 3 ∨ j = 4 ∨ j = 5 ∨ j = 6 ∨ j = 7 ∨ j = 8 ∨ j = 9 ∨ j = 10 ∨ j = 11 ∨ j = 12 ∨ j = 13 := by omega
  refine rn_intro2 (L := [some (.ref 452), some (.int (nI j))]) ⟨by decide, rfl, (fun h => by cases h)⟩ (Nat.le_refl _) (Nat.le_of_ble_eq_true rfl) rfl (fun Y Q hQ => ?_)
  rcases hc with rfl | rfl | rfl | rfl | rfl | rfl | rfl | rfl | rfl | rfl | rfl | rfl | rfl | rfl
  · exact q_iload_n (pc' := 1) dX11_about_0 rfl rfl (q_tabIn (pc' := 72) dX11_about_1 (by decide) (by decide) rfl rfl (q_aload_n (pc' := 73) dX11_about_72 rfl rfl (q_getIe (pc' := 76) dX11_about_73 rfl fr_RX11_240 ⟨by omega, rfl⟩ rfl (mB_0 hb) (q_iret dX11_about_76 rfl hQ))))
  · exact q_iload_n (pc' := 1) dX11_about_0 rfl rfl (q_tabIn (pc' := 77) dX11_about_1 (by decide) (by decide) rfl rfl (q_aload_n (pc' := 78) dX11_about_77 rfl rfl (q_getIe (pc' := 81) dX11_about_78 rfl fr_RX11_243 ⟨by omega, rfl⟩ rfl (mB_1 hb) (q_iret dX11_about_81 rfl hQ))))
  · exact q_iload_n (pc' := 1) dX11_about_0 rfl rfl (q_tabIn (pc' := 82) dX11_about_1 (by decide) (by decide) rfl rfl (q_aload_n (pc' := 83) dX11_about_82 rfl rfl (q_getIe (pc' := 86) dX11_about_83 rfl fr_RX11_252 ⟨by omega, rfl⟩ rfl (mB_2 hb) (q_iret dX11_about_86 rfl hQ))))
  · exact q_iload_n (pc' := 1) dX11_about_0 rfl rfl (q_tabIn (pc' := 87) dX11_about_1 (by decide) (by decide) rfl rfl (q_aload_n (pc' := 88) dX11_about_87 rfl rfl (q_cVi (pc' := 91) dX11_about_88 rfl ml_RX11_397 yv_X11_online (by decide) (rn_X11_online hM hb hk hR hA) ⟨by omega, rfl⟩ rfl rfl (Nat.le_of_ble_eq_true rfl) (Nat.le_refl _) (q_iret dX11_about_91 rfl hQ))))
  · exact q_iload_n (pc' := 1) dX11_about_0 rfl rfl (q_tabIn (pc' := 92) dX11_about_1 (by decide) (by decide) rfl rfl (q_aload_n (pc' := 93) dX11_about_92 rfl rfl (q_cVi (pc' := 96) dX11_about_93 rfl ml_RX11_347 yv_X11_freeOnline (by decide) (rn_X11_freeOnline hM hb hk hR hA) ⟨by omega, rfl⟩ rfl rfl (Nat.le_of_ble_eq_true rfl) (Nat.le_refl _) (q_iret dX11_about_96 rfl hQ))))
  · exact q_iload_n (pc' := 1) dX11_about_0 rfl rfl (q_tabIn (pc' := 97) dX11_about_1 (by decide) (by decide) rfl rfl (q_aload_n (pc' := 98) dX11_about_97 rfl rfl (q_cVi (pc' := 101) dX11_about_98 rfl ml_RX11_350 yv_X11_promised (by decide) (rn_X11_promised hM hb hk hR hA) ⟨by omega, rfl⟩ rfl rfl (Nat.le_of_ble_eq_true rfl) (Nat.le_refl _) (q_iret dX11_about_101 rfl hQ))))
  · exact q_iload_n (pc' := 1) dX11_about_0 rfl rfl (q_tabIn (pc' := 102) dX11_about_1 (by decide) (by decide) rfl rfl (q_aload_n (pc' := 103) dX11_about_102 rfl rfl (q_getR (pc' := 106) dX11_about_103 rfl fr_RX11_51 ⟨by omega, rfl⟩ rfl (wM_36 hM) (by decide) (q_sipush (pc' := 109) _ dX11_about_106 rfl kk_sipush_1570 (q_ialde (pc' := 110) _ dX11_about_109 rfl (by first | exact ⟨by omega, rfl⟩ | exact okaS hi hz (by decide) rfl | assumption) rfl (by omega) (e 0 (by decide)) (q_iret dX11_about_110 rfl hQ))))))
  · exact q_iload_n (pc' := 1) dX11_about_0 rfl rfl (q_tabIn (pc' := 111) dX11_about_1 (by decide) (by decide) rfl rfl (q_aload_n (pc' := 112) dX11_about_111 rfl rfl (q_getR (pc' := 115) dX11_about_112 rfl fr_RX11_51 ⟨by omega, rfl⟩ rfl (wM_36 hM) (by decide) (q_sipush (pc' := 118) _ dX11_about_115 rfl kk_sipush_1571 (q_ialde (pc' := 119) _ dX11_about_118 rfl (by first | exact ⟨by omega, rfl⟩ | exact okaS hi hz (by decide) rfl | assumption) rfl (by omega) (e 1 (by decide)) (q_iret dX11_about_119 rfl hQ))))))
  · exact q_iload_n (pc' := 1) dX11_about_0 rfl rfl (q_tabIn (pc' := 120) dX11_about_1 (by decide) (by decide) rfl rfl (q_aload_n (pc' := 121) dX11_about_120 rfl rfl (q_getR (pc' := 124) dX11_about_121 rfl fr_RX11_51 ⟨by omega, rfl⟩ rfl (wM_36 hM) (by decide) (q_sipush (pc' := 127) _ dX11_about_124 rfl kk_sipush_1572 (q_ialde (pc' := 128) _ dX11_about_127 rfl (by first | exact ⟨by omega, rfl⟩ | exact okaS hi hz (by decide) rfl | assumption) rfl (by omega) (e 2 (by decide)) (q_iret dX11_about_128 rfl hQ))))))
  · exact q_iload_n (pc' := 1) dX11_about_0 rfl rfl (q_tabIn (pc' := 129) dX11_about_1 (by decide) (by decide) rfl rfl (q_aload_n (pc' := 130) dX11_about_129 rfl rfl (q_getR (pc' := 133) dX11_about_130 rfl fr_RX11_51 ⟨by omega, rfl⟩ rfl (wM_36 hM) (by decide) (q_sipush (pc' := 136) _ dX11_about_133 rfl kk_sipush_1573 (q_ialde (pc' := 137) _ dX11_about_136 rfl (by first | exact ⟨by omega, rfl⟩ | exact okaS hi hz (by decide) rfl | assumption) rfl (by omega) (e 3 (by decide)) (q_iret dX11_about_137 rfl hQ))))))
  · exact q_iload_n (pc' := 1) dX11_about_0 rfl rfl (q_tabIn (pc' := 138) dX11_about_1 (by decide) (by decide) rfl rfl (q_aload_n (pc' := 139) dX11_about_138 rfl rfl (q_getIe (pc' := 142) dX11_about_139 rfl fr_RX11_259 ⟨by omega, rfl⟩ rfl hH.1 (q_iret dX11_about_142 rfl hQ))))
  · exact q_iload_n (pc' := 1) dX11_about_0 rfl rfl (q_tabIn (pc' := 143) dX11_about_1 (by decide) (by decide) rfl rfl (q_aload_n (pc' := 144) dX11_about_143 rfl rfl (q_getIe (pc' := 147) dX11_about_144 rfl fr_RX11_262 ⟨by omega, rfl⟩ rfl hH.2.1 (q_iret dX11_about_147 rfl hQ))))
  · exact q_iload_n (pc' := 1) dX11_about_0 rfl rfl (q_tabIn (pc' := 148) dX11_about_1 (by decide) (by decide) rfl rfl (q_aload_n (pc' := 149) dX11_about_148 rfl rfl (q_getIe (pc' := 152) dX11_about_149 rfl fr_RX11_82 ⟨by omega, rfl⟩ rfl ht (q_iret dX11_about_152 rfl hQ))))
  · exact q_iload_n (pc' := 1) dX11_about_0 rfl rfl (q_tabIn (pc' := 153) dX11_about_1 (by decide) (by decide) rfl rfl (q_aload_n (pc' := 154) dX11_about_153 rfl rfl (q_cVi (pc' := 157) dX11_about_154 rfl ml_RX11_496 yv_X11_allPending (by decide) (rn_X11_allPending hM hb hk hR) ⟨by omega, rfl⟩ rfl rfl (Nat.le_of_ble_eq_true rfl) (Nat.le_refl _) (q_iret dX11_about_157 rfl hQ))))
theorem rn_X11_about0 {x : Int32} (hx : inN x 14 = false) : Rn w l yX11_about dd_X11_about [.ref 452, .int x] (472, I, J, R) (some (.int (-1))) (472, I, J, R) := by
  refine rn_intro2 (L := [some (.ref 452), some (.int x)]) ⟨by decide, rfl, (fun h => by cases h)⟩ (Nat.le_refl _) (Nat.le_of_ble_eq_true rfl) rfl (fun Y Q hQ => ?_)
  exact q_iload_n (pc' := 1) dX11_about_0 rfl rfl (q_tabOut (pc' := 158) dX11_about_1 (inN_out (m := 13) (by decide) hx) rfl (q_iconst (pc' := 159) _ dX11_about_158 rfl kk_iconst_m1 (q_iret dX11_about_159 rfl hQ)))
end M23
