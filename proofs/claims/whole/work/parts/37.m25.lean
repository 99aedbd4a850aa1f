/-! ===== the reference: its tape, names ===== -/
def nJ (n : Nat) : Int64 := Int64.ofNat n
def by8 (v : Int32) (s : Nat) : Nat := ((v >>> (nI s &&& 31)) &&& nI 255).toBitVec.toNat
theorem nI_self (x : Int32) : nI x.toBitVec.toNat = x := by
  apply Int32.toBitVec_inj.mp
  show BitVec.ofNat 32 _ = _
  exact BitVec.eq_of_toNat_eq (by rw [BitVec.toNat_ofNat, Nat.mod_eq_of_lt (BitVec.isLt _)])
theorem by8_e (v : Int32) (s : Nat) : v >>> (nI s &&& 31) &&& nI 255 = nI (by8 v s) := (nI_self _).symm
theorem by8_lt (v : Int32) (s : Nat) : by8 v s < 256 := by
  unfold by8
  rw [Int32.toBitVec_and, BitVec.toNat_and]
  exact Nat.lt_of_le_of_lt Nat.and_le_right (by decide)
/-- the tape of the reference -/
def mTp (I : mj_M) (T : Nat → Nat) (t : Nat) : Prop := I 452 1 = nI t ∧ t ≤ 800 ∧ ∀ k, k < t → I 453 k = nI (T k) ∧ T k < 256
def tP (T : Nat → Nat) (t x : Nat) : Nat → Nat := fun k => if k = t then x else T k
def tW (T : Nat → Nat) (t : Nat) (v : Int32) : Nat → Nat := tP (tP (tP (tP T t (by8 v 24)) (t + 1) (by8 v 16)) (t + 2) (by8 v 8)) (t + 3) (by8 v 0)
def mTf (I I' : mj_M) : Prop := (∀ a, a ≠ 453 → a ≠ 452 → I' a = I a) ∧ ∀ f, f ≠ 1 → I' 452 f = I 452 f
theorem mTf.rf {I : mj_M} : mTf I I := ⟨fun _ _ _ => rfl, fun _ _ => rfl⟩
theorem mTf.tr {I I' I2 : mj_M} (h : mTf I I') (h2 : mTf I' I2) : mTf I I2 := ⟨fun a h1 h3 => (h2.1 a h1 h3).trans (h.1 a h1 h3), fun f h1 => (h2.2 f h1).trans (h.2 f h1)⟩
theorem mTp_put {I : mj_M} {T : Nat → Nat} {t x : Nat} (h : mTp I T t) (ht : t < 800) (hx : x < 256) : mTp (mj_up (mj_up I 453 t (nI x)) 452 1 (nI (t + 1))) (tP T t x) (t + 1) ∧ mTf I (mj_up (mj_up I 453 t (nI x)) 452 1 (nI (t + 1))) := by
  refine ⟨⟨mj_up_eq, ht, fun k hk => ?_⟩, fun a h1 h2 => ?_, fun f h1 => ?_⟩
  · rw [mj_up_ne (by decide)]
    unfold tP
    by_cases e : k = t
    · subst e; rw [mj_up_eq, if_pos rfl]; exact ⟨rfl, hx⟩
    · rw [mj_up_ne2 e, if_neg e]; exact h.2.2 k (by omega)
  · rw [up_fI h2, up_fI h1]
  · rw [mj_up_ne2 h1, mj_up_ne (by decide)]
section M25
variable {w : mj_Wd} {l : Launch} {I : mj_M} {J : mj_J} {R : mj_R} {b A : St} {T : Nat → Nat} {t : Nat}
theorem four_s {Y : mj_Y} {Q : Option Value → mj_H → Prop} {v : Int32} (s s' : Nat) (y : Int32) (hM : mj_wM R) (hT : mTp I T t) (ht : t < 800) (hs : 0 ≤ nI s) (hy : nI s + Int32.ofInt (-8) = y)
    (hn : ∀ I', mTp I' (tP T t (by8 v s)) (t + 1) → mTf I I' → Wq dd_X11_four (mj_mk w l 472 Y) Q 3 [some (.ref 452), some (.int v), some (.int y)] [] (472, I', J, R)) : Wq dd_X11_four (mj_mk w l 472 Y) Q 3 [some (.ref 452), some (.int v), some (.int (nI s))] [] (472, I, J, R) := by
  have h := mTp_put hT ht (by8_lt v s)
  have e1 : mj_up I 453 t (nI (by8 v s)) 452 1 = nI t := by rw [mj_up_ne (by decide)]; exact hT.1
  refine q_iload_n (pc' := 4) dX11_four_3 rfl rfl (q_if_lt (pc' := 7) (pt := 39) dX11_four_4 rfl rfl (fun h9 => absurd h9 (Int32.not_lt.mpr hs)) (fun _ => (q_aload_n (pc' := 8) dX11_four_7 rfl rfl (q_getR (pc' := 11) dX11_four_8 rfl fr_RX11_7 ⟨by omega, rfl⟩ rfl (wM_0 hM) (by decide) (q_aload_n (pc' := 12) dX11_four_11 rfl rfl (q_getIe (pc' := 15) dX11_four_12 rfl fr_RX11_82 ⟨by omega, rfl⟩ rfl hT.1 (q_iload_n (pc' := 16) dX11_four_15 rfl rfl (q_iload_n (pc' := 17) dX11_four_16 rfl rfl (q_ishr (pc' := 18) dX11_four_17 rfl (q_sipush (pc' := 21) _ dX11_four_18 rfl kk_sipush_255 (q_iand (pc' := 22) dX11_four_21 rfl ?_)))))))))))
  refine q_top (by8_e v s) ?_
  refine q_iast (pc' := 23) (t) dX11_four_22 rfl (by first | exact ⟨by omega, rfl⟩ | exact okaS hi hz (by decide) rfl | assumption) (by (first | (simp only [nI_add, pk_mul]; done) | (simp only [nI_add, pk_mul]; exact nI_e (by omega)) | exact nI_e (by omega))) (by omega) (q_aload_n (pc' := 24) dX11_four_23 rfl rfl (q_dup_a (pc' := 25) dX11_four_24 rfl (q_getIe (pc' := 28) dX11_four_25 rfl fr_RX11_82 ⟨by omega, rfl⟩ rfl e1 (q_iconst (pc' := 29) _ dX11_four_28 rfl kk_iconst_1 (q_iadd (pc' := 30) dX11_four_29 rfl ?_)))))
  refine q_top (nI_add t 1) ?_
  refine q_putI (pc' := 33) dX11_four_30 rfl fl_RX11_82 ⟨by omega, rfl⟩ rfl (q_iinc_2 (pc' := 36) (y) dX11_four_33 rfl (by decide) rfl (hy) (q_goto (pc' := 3) dX11_four_36 rfl ?_))
  exact hn _ h.1 h.2
theorem rs_X11_four {v : Int32} (hM : mj_wM R) (hT : mTp I T t) (ht : t + 4 ≤ 800) : RsV w l yX11_four dd_X11_four [.ref 452, .int v] (472, I, J, R) (fun I' => mTp I' (tW T t v) (t + 4) ∧ mTf I I') := by
  refine rt_intro2 (L := [some (.ref 452), some (.int v), none]) ⟨by decide, rfl, (fun h => by cases h)⟩ (Nat.le_of_ble_eq_true rfl) rfl (fun Y Q hQ => ?_)
  refine q_bipush (pc' := 2) _ dX11_four_0 rfl kk_bipush_24 (q_ist_2 (pc' := 3) dX11_four_2 rfl (by decide) rfl ?_)
  refine four_s 24 16 (nI 16) hM hT (by omega) (by decide) (by decide) (fun I1 h1 f1 => ?_)
  refine four_s 16 8 (nI 8) hM h1 (by omega) (by decide) (by decide) (fun I2 h2 f2 => ?_)
  refine four_s 8 0 (nI 0) hM h2 (by omega) (by decide) (by decide) (fun I3 h3 f3 => ?_)
  refine four_s 0 0 (-8) hM h3 (by omega) (by decide) (by decide) (fun I4 h4 f4 => ?_)
  exact q_iload_n (pc' := 4) dX11_four_3 rfl rfl (q_if_lt (pc' := 7) (pt := 39) dX11_four_4 rfl rfl (fun _ => (q_vret dX11_four_39 rfl (hQ _ _ _ _ ⟨rfl, ⟨rfl, rfl⟩, h4, ((f1.tr f2).tr f3).tr f4⟩))) (fun h9 => absurd (by decide) h9))
def tF (T : Nat → Nat) (t : Nat) (v1 v2 v3 v4 v5 : Int32) : Nat → Nat := tW (tW (tW (tW (tW T t v1) (t + 4) v2) (t + 8) v3) (t + 12) v4) (t + 16) v5
theorem rs_X11_feed {v1 v2 v3 v4 v5 : Int32} (hM : mj_wM R) (hT : mTp I T t) (ht : t + 20 ≤ 800) : RsI w l yX11_feed dd_X11_feed [.ref 452, .int v1, .int v2, .int v3, .int v4, .int v5] (472, I, J, R) (fun x I' => x = nI (t + 20) ∧ mTp I' (tF T t v1 v2 v3 v4 v5) (t + 20) ∧ mTf I I') := by
  refine rt_intro2 (L := [some (.ref 452), some (.int v1), some (.int v2), some (.int v3), some (.int v4), some (.int v5)]) ⟨by decide, rfl, (fun h => by cases h)⟩ (Nat.le_of_ble_eq_true rfl) rfl (fun Y Q hQ => ?_)
  refine q_aload_n (pc' := 1) dX11_feed_0 rfl rfl (q_getIe (pc' := 4) dX11_feed_1 rfl fr_RX11_82 ⟨by omega, rfl⟩ rfl hT.1 (q_bipush (pc' := 6) _ dX11_feed_4 rfl kk_bipush_20 (q_iadd (pc' := 7) dX11_feed_6 rfl ?_)))
  refine q_top (nI_add t 20) ?_
  refine q_sipush (pc' := 10) _ dX11_feed_7 rfl kk_sipush_800 (q_icmp_le (pc' := 13) (pt := 15) dX11_feed_10 rfl rfl (fun _ => (q_aload_n (pc' := 16) dX11_feed_15 rfl rfl (q_iload_n (pc' := 17) dX11_feed_16 rfl rfl (q_sVv (pc' := 20) dX11_feed_17 rfl ml_RX11_85 yv_X11_four (by decide) (rs_X11_four hM hT (by omega)) ⟨by omega, rfl⟩ rfl rfl (Nat.le_of_ble_eq_true rfl) (Nat.le_refl _) (fun I1 ⟨h1, f1⟩ => ?_))))) (fun h9 => absurd (nI_le ht (by decide)) h9))
  refine q_aload_n (pc' := 21) dX11_feed_20 rfl rfl (q_iload_n (pc' := 22) dX11_feed_21 rfl rfl (q_sVv (pc' := 25) dX11_feed_22 rfl ml_RX11_85 yv_X11_four (by decide) (rs_X11_four hM h1 (by omega)) ⟨by omega, rfl⟩ rfl rfl (Nat.le_of_ble_eq_true rfl) (Nat.le_refl _) (fun I2 ⟨h2, f2⟩ => ?_)))
  refine q_aload_n (pc' := 26) dX11_feed_25 rfl rfl (q_iload_n (pc' := 27) dX11_feed_26 rfl rfl (q_sVv (pc' := 30) dX11_feed_27 rfl ml_RX11_85 yv_X11_four (by decide) (rs_X11_four hM h2 (by omega)) ⟨by omega, rfl⟩ rfl rfl (Nat.le_of_ble_eq_true rfl) (Nat.le_refl _) (fun I3 ⟨h3, f3⟩ => ?_)))
  refine q_aload_n (pc' := 31) dX11_feed_30 rfl rfl (q_iload (pc' := 33) dX11_feed_31 rfl rfl (q_sVv (pc' := 36) dX11_feed_33 rfl ml_RX11_85 yv_X11_four (by decide) (rs_X11_four hM h3 (by omega)) ⟨by omega, rfl⟩ rfl rfl (Nat.le_of_ble_eq_true rfl) (Nat.le_refl _) (fun I4 ⟨h4, f4⟩ => ?_)))
  refine q_aload_n (pc' := 37) dX11_feed_36 rfl rfl (q_iload (pc' := 39) dX11_feed_37 rfl rfl (q_sVv (pc' := 42) dX11_feed_39 rfl ml_RX11_85 yv_X11_four (by decide) (rs_X11_four hM h4 (by omega)) ⟨by omega, rfl⟩ rfl rfl (Nat.le_of_ble_eq_true rfl) (Nat.le_refl _) (fun I5 ⟨h5, f5⟩ => ?_)))
  exact q_aload_n (pc' := 43) dX11_feed_42 rfl rfl (q_getIe (pc' := 46) dX11_feed_43 rfl fr_RX11_82 ⟨by omega, rfl⟩ rfl h5.1 (q_iret dX11_feed_46 rfl (hQ _ _ _ _ ⟨_, rfl, ⟨rfl, rfl⟩, rfl, h5, (((f1.tr f2).tr f3).tr f4).tr f5⟩)))
theorem rn_X11_feed0 {v1 v2 v3 v4 v5 : Int32} (hT : mTp I T t) (ht : ¬ t + 20 ≤ 800) : Rn w l yX11_feed dd_X11_feed [.ref 452, .int v1, .int v2, .int v3, .int v4, .int v5] (472, I, J, R) (some (.int (-1))) (472, I, J, R) := by
  have h8 := hT.2.1
  refine rn_intro2 (L := [some (.ref 452), some (.int v1), some (.int v2), some (.int v3), some (.int v4), some (.int v5)]) ⟨by decide, rfl, (fun h => by cases h)⟩ (Nat.le_refl _) (Nat.le_of_ble_eq_true rfl) rfl (fun Y Q hQ => ?_)
  refine q_aload_n (pc' := 1) dX11_feed_0 rfl rfl (q_getIe (pc' := 4) dX11_feed_1 rfl fr_RX11_82 ⟨by omega, rfl⟩ rfl hT.1 (q_bipush (pc' := 6) _ dX11_feed_4 rfl kk_bipush_20 (q_iadd (pc' := 7) dX11_feed_6 rfl ?_)))
  refine q_top (nI_add t 20) ?_
  exact q_sipush (pc' := 10) _ dX11_feed_7 rfl kk_sipush_800 (q_icmp_le (pc' := 13) (pt := 15) dX11_feed_10 rfl rfl (fun h9 => absurd h9 (Int32.not_le.mpr (nI_lt (by omega) (by omega)))) (fun _ => (q_iconst (pc' := 14) _ dX11_feed_13 rfl kk_iconst_m1 (q_iret dX11_feed_14 rfl hQ))))
theorem rn_X11_end0 {x : Int32} (hT : mTp I T t) (hx : inN x (t + 1) = false) : Rn w l yX11_end dd_X11_end [.ref 452, .int x] (472, I, J, R) (some (.int (-1))) (472, I, J, R) := by
  refine rn_intro2 (L := [some (.ref 452), some (.int x)]) ⟨by decide, rfl, (fun h => by cases h)⟩ (Nat.le_refl _) (Nat.le_of_ble_eq_true rfl) rfl (fun Y Q hQ => ?_)
  exact q_iload_n (pc' := 1) dX11_end_0 rfl rfl (q_iconst (pc' := 2) _ dX11_end_1 rfl kk_iconst_0 (q_aload_n (pc' := 3) dX11_end_2 rfl rfl (q_getIe (pc' := 6) dX11_end_3 rfl fr_RX11_82 ⟨by omega, rfl⟩ rfl hT.1 (q_cSi (pc' := 9) dX11_end_6 rfl ml_RX11_89 ys_X11_isIn (by decide) (rn_isInN t) rfl rfl (Nat.le_of_ble_eq_true rfl) (Nat.le_refl _) (q_ifb_ne (pc' := 12) (pt := 14) dX11_end_9 rfl rfl (fun h9 => Bool.noConfusion (Eq.trans (Eq.symm (hx)) h9)) (fun _ => (q_iconst (pc' := 13) _ dX11_end_12 rfl kk_iconst_m1 (q_iret dX11_end_13 rfl hQ))))))))
theorem rs_X11_end {m : Nat} (hT : mTp I T t) (hm : m ≤ t) : RsI w l yX11_end dd_X11_end [.ref 452, .int (nI m)] (472, I, J, R) (fun x I' => x = nI m ∧ mTp I' T m ∧ mTf I I') := by
  have h8 := hT.2.1
  have h1 : mTp (mj_up I 452 1 (nI m)) T m := ⟨mj_up_eq, by omega, fun k hk => by rw [mj_up_ne (by decide)]; exact hT.2.2 k (by omega)⟩
  have h2 : mTf I (mj_up I 452 1 (nI m)) := ⟨fun a _ h2 => up_fI h2, fun f h => mj_up_ne2 h⟩
  refine rt_intro2 (L := [some (.ref 452), some (.int (nI m))]) ⟨by decide, rfl, (fun h => by cases h)⟩ (Nat.le_of_ble_eq_true rfl) rfl (fun Y Q hQ => ?_)
  exact q_iload_n (pc' := 1) dX11_end_0 rfl rfl (q_iconst (pc' := 2) _ dX11_end_1 rfl kk_iconst_0 (q_aload_n (pc' := 3) dX11_end_2 rfl rfl (q_getIe (pc' := 6) dX11_end_3 rfl fr_RX11_82 ⟨by omega, rfl⟩ rfl hT.1 (q_cSi (pc' := 9) dX11_end_6 rfl ml_RX11_89 ys_X11_isIn (by decide) (rn_isInN t) rfl rfl (Nat.le_of_ble_eq_true rfl) (Nat.le_refl _) (q_ifb_ne (pc' := 12) (pt := 14) dX11_end_9 rfl rfl (fun _ => (q_aload_n (pc' := 15) dX11_end_14 rfl rfl (q_iload_n (pc' := 16) dX11_end_15 rfl rfl (q_putI (pc' := 19) dX11_end_16 rfl fl_RX11_82 ⟨by omega, rfl⟩ rfl (q_iload_n (pc' := 20) dX11_end_19 rfl rfl (q_iret dX11_end_20 rfl (hQ _ _ _ _ ⟨_, rfl, ⟨rfl, rfl⟩, rfl, h1, h2⟩))))))) (fun h9 => Bool.noConfusion (Eq.trans (Eq.symm (inN_t (by omega) (by omega))) h9)))))))
theorem rn_X11_fault {x : Int32} : Rn w l yX11_fault dd_X11_fault [.ref 452, .int x] (472, I, J, R) (some (.int (if x = nI 0 then I 452 10 else if x = nI 1 then I 452 11 else -1))) (472, I, J, R) := by
  refine rn_intro2 (L := [some (.ref 452), some (.int x)]) ⟨by decide, rfl, (fun h => by cases h)⟩ (Nat.le_refl _) (Nat.le_of_ble_eq_true rfl) rfl (fun Y Q hQ => ?_)
  by_cases h0 : x = nI 0
  · rw [if_pos h0] at hQ
    exact q_iload_n (pc' := 1) dX11_fault_0 rfl rfl (q_if_ne (pc' := 4) (pt := 11) dX11_fault_1 rfl rfl (fun h9 => absurd (h0) h9) (fun _ => (q_aload_n (pc' := 5) dX11_fault_4 rfl rfl (q_getI (pc' := 8) dX11_fault_5 rfl fr_RX11_268 ⟨by omega, rfl⟩ rfl (q_goto (pc' := 24) dX11_fault_8 rfl (q_iret dX11_fault_24 rfl hQ))))))
  · rw [if_neg h0] at hQ
    by_cases h1 : x = nI 1
    · rw [if_pos h1] at hQ
      exact q_iload_n (pc' := 1) dX11_fault_0 rfl rfl (q_if_ne (pc' := 4) (pt := 11) dX11_fault_1 rfl rfl (fun _ => (q_iload_n (pc' := 12) dX11_fault_11 rfl rfl (q_iconst (pc' := 13) _ dX11_fault_12 rfl kk_iconst_1 (q_icmp_ne (pc' := 16) (pt := 23) dX11_fault_13 rfl rfl (fun h9 => absurd (h1) h9) (fun _ => (q_aload_n (pc' := 17) dX11_fault_16 rfl rfl (q_getI (pc' := 20) dX11_fault_17 rfl fr_RX11_17 ⟨by omega, rfl⟩ rfl (q_goto (pc' := 24) dX11_fault_20 rfl (q_iret dX11_fault_24 rfl hQ))))))))) (fun h9 => absurd h9 (h0)))
    · rw [if_neg h1] at hQ
      exact q_iload_n (pc' := 1) dX11_fault_0 rfl rfl (q_if_ne (pc' := 4) (pt := 11) dX11_fault_1 rfl rfl (fun _ => (q_iload_n (pc' := 12) dX11_fault_11 rfl rfl (q_iconst (pc' := 13) _ dX11_fault_12 rfl kk_iconst_1 (q_icmp_ne (pc' := 16) (pt := 23) dX11_fault_13 rfl rfl (fun _ => (q_iconst (pc' := 24) _ dX11_fault_23 rfl kk_iconst_m1 (q_iret dX11_fault_24 rfl hQ))) (fun h9 => absurd h9 (h1)))))) (fun h9 => absurd h9 (h0)))
theorem rn_X11_refused : Rn w l yX11_refused dd_X11_refused [.ref 452] (472, I, J, R) (some (.int (I 452 44))) (472, I, J, R) := by
  refine rn_intro2 (L := [some (.ref 452)]) ⟨by decide, rfl, (fun h => by cases h)⟩ (Nat.le_refl _) (Nat.le_of_ble_eq_true rfl) rfl (fun Y Q hQ => ?_)
  exact q_aload_n (pc' := 1) dX11_refused_0 rfl rfl (q_getI (pc' := 4) dX11_refused_1 rfl fr_RX11_265 ⟨by omega, rfl⟩ rfl (q_iret dX11_refused_4 rfl hQ))
end M25
