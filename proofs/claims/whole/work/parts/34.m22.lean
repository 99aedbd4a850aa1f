/-! ===== the reference: clear, nearest, images, about ===== -/
section M22
variable {w : mj_Wd} {l : Launch} {I : mj_M} {J : mj_J} {R : mj_R} {b A W0 : St} {ps : Nat → St} {h : mj_H} {U : St → Prop}
/-- clear(n, j) -/
def qClear (b A : St) (n j : Nat) : Int32 := match aClB b A n with
  | none => -1
  | some q => nI (match j with
    | 0 => q.1
    | 1 => q.2.1
    | _ => q.2.2)
theorem rs_X11_clear {n j : Nat} (hM : mj_wM R) (hb : mB I b) (hk : bOK b) (hR : rR (I 464) A) (hA : aOK A) (hV : vOK b A) (hn : n = 2 ∨ n = 4 ∨ n = 8) (hj : j < 3) : RsI w l yX11_clear dd_X11_clear [.ref 452, .int (nI n), .int (nI j)] (472, I, J, R) (fun x I' => x = qClear b A n j ∧ mK I I') := by
  have hn8 : 1 ≤ n ∧ n ≤ 8 := by omega
  have hc : j = 0 ∨ j = 1 ∨ j = 2 := by omega
  refine rt_intro2 (L := [some (.ref 452), some (.int (nI n)), some (.int (nI j))]) ⟨by decide, rfl, (fun h => by cases h)⟩ (Nat.le_of_ble_eq_true rfl) rfl (fun Y Q hQ => ?_)
  have tail : Wq dd_X11_clear (mj_mk w l 472 Y) Q 16 [some (.ref 452), some (.int (nI n)), some (.int (nI j))] [] (472, I, J, R) := by
    refine q_iload_n (pc' := 17) dX11_clear_16 rfl rfl (q_iconst (pc' := 18) _ dX11_clear_17 rfl kk_iconst_0 (q_iconst (pc' := 19) _ dX11_clear_18 rfl kk_iconst_2 (q_cSi (pc' := 22) dX11_clear_19 rfl ml_RX11_89 ys_X11_isIn (by decide) (rn_isInN 2) rfl rfl (Nat.le_of_ble_eq_true rfl) (Nat.le_refl _) (q_ifb_eq (pc' := 25) (pt := 33) dX11_clear_22 rfl rfl (fun h9 => Bool.noConfusion (Eq.trans (Eq.symm (inN_t (by decide) hj)) h9)) (fun _ => (q_aload_n (pc' := 26) dX11_clear_25 rfl rfl (q_iload_n (pc' := 27) dX11_clear_26 rfl rfl (q_sVi (pc' := 30) dX11_clear_27 rfl ml_RX11_481 yv_X11_laysClear (by decide) (rs_X11_laysClear hM hb hk hR hA hV hn8) ⟨by omega, rfl⟩ rfl rfl (Nat.le_of_ble_eq_true rfl) (Nat.le_refl _) (fun x2 I2 ⟨t1, t2, t3⟩ => ?_)))))))))
    rw [t1]
    unfold qClear at hQ
    cases ho : aClB b A n with
    | none =>
      rw [ho] at hQ
      exact q_ifb_ne (pc' := 33) (pt := 35) dX11_clear_30 rfl rfl (fun h9 => Bool.noConfusion (Eq.trans (Eq.symm (rfl)) h9)) (fun _ => (q_iconst (pc' := 34) _ dX11_clear_33 rfl kk_iconst_m1 (q_iret dX11_clear_34 rfl (hQ _ _ _ _ ⟨_, rfl, ⟨rfl, rfl⟩, rfl, t3⟩))))
    | some q =>
      rw [ho] at hQ t2
      rcases hc with rfl | rfl | rfl
      · exact q_ifb_ne (pc' := 33) (pt := 35) dX11_clear_30 rfl rfl (fun _ => (q_iload_n (pc' := 36) dX11_clear_35 rfl rfl (q_if_ne (pc' := 39) (pt := 46) dX11_clear_36 rfl rfl (fun h9 => absurd (by decide) h9) (fun _ => (q_aload_n (pc' := 40) dX11_clear_39 rfl rfl (q_getIe (pc' := 43) dX11_clear_40 rfl fr_RX11_469 ⟨by omega, rfl⟩ rfl t2.1 (q_goto (pc' := 62) dX11_clear_43 rfl (q_iret dX11_clear_62 rfl (hQ _ _ _ _ ⟨_, rfl, ⟨rfl, rfl⟩, rfl, t3⟩))))))))) (fun h9 => Bool.noConfusion (Eq.trans (Eq.symm (rfl)) h9))
      · exact q_ifb_ne (pc' := 33) (pt := 35) dX11_clear_30 rfl rfl (fun _ => (q_iload_n (pc' := 36) dX11_clear_35 rfl rfl (q_if_ne (pc' := 39) (pt := 46) dX11_clear_36 rfl rfl (fun _ => (q_iload_n (pc' := 47) dX11_clear_46 rfl rfl (q_iconst (pc' := 48) _ dX11_clear_47 rfl kk_iconst_1 (q_icmp_ne (pc' := 51) (pt := 58) dX11_clear_48 rfl rfl (fun h9 => absurd (by decide) h9) (fun _ => (q_aload_n (pc' := 52) dX11_clear_51 rfl rfl (q_getIe (pc' := 55) dX11_clear_52 rfl fr_RX11_475 ⟨by omega, rfl⟩ rfl t2.2.1 (q_goto (pc' := 62) dX11_clear_55 rfl (q_iret dX11_clear_62 rfl (hQ _ _ _ _ ⟨_, rfl, ⟨rfl, rfl⟩, rfl, t3⟩)))))))))) (fun h9 => absurd h9 (by decide))))) (fun h9 => Bool.noConfusion (Eq.trans (Eq.symm (rfl)) h9))
      · exact q_ifb_ne (pc' := 33) (pt := 35) dX11_clear_30 rfl rfl (fun _ => (q_iload_n (pc' := 36) dX11_clear_35 rfl rfl (q_if_ne (pc' := 39) (pt := 46) dX11_clear_36 rfl rfl (fun _ => (q_iload_n (pc' := 47) dX11_clear_46 rfl rfl (q_iconst (pc' := 48) _ dX11_clear_47 rfl kk_iconst_1 (q_icmp_ne (pc' := 51) (pt := 58) dX11_clear_48 rfl rfl (fun _ => (q_aload_n (pc' := 59) dX11_clear_58 rfl rfl (q_getIe (pc' := 62) dX11_clear_59 rfl fr_RX11_478 ⟨by omega, rfl⟩ rfl t2.2.2.1 (q_iret dX11_clear_62 rfl (hQ _ _ _ _ ⟨_, rfl, ⟨rfl, rfl⟩, rfl, t3⟩))))) (fun h9 => absurd h9 (by decide)))))) (fun h9 => absurd h9 (by decide))))) (fun h9 => Bool.noConfusion (Eq.trans (Eq.symm (rfl)) h9))
  rcases hn with rfl | rfl | rfl
  · refine q_iload_n (pc' := 1) dX11_clear_0 rfl rfl (q_iconst (pc' := 2) _ dX11_clear_1 rfl kk_iconst_2 (q_icmp_eq (pc' := 5) (pt := 16) dX11_clear_2 rfl rfl (fun _ => ?_) (fun h9 => absurd (rfl) h9)))
    exact tail
  · refine q_iload_n (pc' := 1) dX11_clear_0 rfl rfl (q_iconst (pc' := 2) _ dX11_clear_1 rfl kk_iconst_2 (q_icmp_eq (pc' := 5) (pt := 16) dX11_clear_2 rfl rfl (fun h9 => absurd h9 (by decide)) (fun _ => (q_iload_n (pc' := 6) dX11_clear_5 rfl rfl (q_iconst (pc' := 7) _ dX11_clear_6 rfl kk_iconst_4 (q_icmp_eq (pc' := 10) (pt := 16) dX11_clear_7 rfl rfl (fun _ => ?_) (fun h9 => absurd (rfl) h9)))))))
    exact tail
  · refine q_iload_n (pc' := 1) dX11_clear_0 rfl rfl (q_iconst (pc' := 2) _ dX11_clear_1 rfl kk_iconst_2 (q_icmp_eq (pc' := 5) (pt := 16) dX11_clear_2 rfl rfl (fun h9 => absurd h9 (by decide)) (fun _ => (q_iload_n (pc' := 6) dX11_clear_5 rfl rfl (q_iconst (pc' := 7) _ dX11_clear_6 rfl kk_iconst_4 (q_icmp_eq (pc' := 10) (pt := 16) dX11_clear_7 rfl rfl (fun h9 => absurd h9 (by decide)) (fun _ => (q_iload_n (pc' := 11) dX11_clear_10 rfl rfl (q_bipush (pc' := 13) _ dX11_clear_11 rfl kk_bipush_8 (q_icmp_ne (pc' := 16) (pt := 33) dX11_clear_13 rfl rfl (fun h9 => absurd (rfl) h9) (fun _ => ?_)))))))))))
    exact tail
theorem rn_X11_clear0 {x y : Int32} (hx : ((decide (x = nI 2) || decide (x = nI 4) || decide (x = nI 8)) && inN y 3) = false) : Rn w l yX11_clear dd_X11_clear [.ref 452, .int x, .int y] (472, I, J, R) (some (.int (-1))) (472, I, J, R) := by
  refine rn_intro2 (L := [some (.ref 452), some (.int x), some (.int y)]) ⟨by decide, rfl, (fun h => by cases h)⟩ (Nat.le_refl _) (Nat.le_of_ble_eq_true rfl) rfl (fun Y Q hQ => ?_)
  have tail : inN y 3 = false → Wq dd_X11_clear (mj_mk w l 472 Y) Q 16 [some (.ref 452), some (.int x), some (.int y)] [] (472, I, J, R) := by
    intro h1
    exact q_iload_n (pc' := 17) dX11_clear_16 rfl rfl (q_iconst (pc' := 18) _ dX11_clear_17 rfl kk_iconst_0 (q_iconst (pc' := 19) _ dX11_clear_18 rfl kk_iconst_2 (q_cSi (pc' := 22) dX11_clear_19 rfl ml_RX11_89 ys_X11_isIn (by decide) (rn_isInN 2) rfl rfl (Nat.le_of_ble_eq_true rfl) (Nat.le_refl _) (q_ifb_eq (pc' := 25) (pt := 33) dX11_clear_22 rfl rfl (fun _ => (q_iconst (pc' := 34) _ dX11_clear_33 rfl kk_iconst_m1 (q_iret dX11_clear_34 rfl hQ))) (fun h9 => Bool.noConfusion (Eq.trans (Eq.symm (h1)) h9))))))
  by_cases h2 : x = nI 2
  · rw [decide_eq_true h2] at hx
    refine q_iload_n (pc' := 1) dX11_clear_0 rfl rfl (q_iconst (pc' := 2) _ dX11_clear_1 rfl kk_iconst_2 (q_icmp_eq (pc' := 5) (pt := 16) dX11_clear_2 rfl rfl (fun _ => ?_) (fun h9 => absurd (h2) h9)))
    exact tail hx
  · by_cases h4 : x = nI 4
    · rw [decide_eq_false h2, decide_eq_true h4] at hx
      refine q_iload_n (pc' := 1) dX11_clear_0 rfl rfl (q_iconst (pc' := 2) _ dX11_clear_1 rfl kk_iconst_2 (q_icmp_eq (pc' := 5) (pt := 16) dX11_clear_2 rfl rfl (fun h9 => absurd h9 (h2)) (fun _ => (q_iload_n (pc' := 6) dX11_clear_5 rfl rfl (q_iconst (pc' := 7) _ dX11_clear_6 rfl kk_iconst_4 (q_icmp_eq (pc' := 10) (pt := 16) dX11_clear_7 rfl rfl (fun _ => ?_) (fun h9 => absurd (h4) h9)))))))
      exact tail hx
    · by_cases h8 : x = nI 8
      · rw [decide_eq_false h2, decide_eq_false h4, decide_eq_true h8] at hx
        refine q_iload_n (pc' := 1) dX11_clear_0 rfl rfl (q_iconst (pc' := 2) _ dX11_clear_1 rfl kk_iconst_2 (q_icmp_eq (pc' := 5) (pt := 16) dX11_clear_2 rfl rfl (fun h9 => absurd h9 (h2)) (fun _ => (q_iload_n (pc' := 6) dX11_clear_5 rfl rfl (q_iconst (pc' := 7) _ dX11_clear_6 rfl kk_iconst_4 (q_icmp_eq (pc' := 10) (pt := 16) dX11_clear_7 rfl rfl (fun h9 => absurd h9 (h4)) (fun _ => (q_iload_n (pc' := 11) dX11_clear_10 rfl rfl (q_bipush (pc' := 13) _ dX11_clear_11 rfl kk_bipush_8 (q_icmp_ne (pc' := 16) (pt := 33) dX11_clear_13 rfl rfl (fun h9 => absurd (h8) h9) (fun _ => ?_)))))))))))
        exact tail hx
      · exact q_iload_n (pc' := 1) dX11_clear_0 rfl rfl (q_iconst (pc' := 2) _ dX11_clear_1 rfl kk_iconst_2 (q_icmp_eq (pc' := 5) (pt := 16) dX11_clear_2 rfl rfl (fun h9 => absurd h9 (h2)) (fun _ => (q_iload_n (pc' := 6) dX11_clear_5 rfl rfl (q_iconst (pc' := 7) _ dX11_clear_6 rfl kk_iconst_4 (q_icmp_eq (pc' := 10) (pt := 16) dX11_clear_7 rfl rfl (fun h9 => absurd h9 (h4)) (fun _ => (q_iload_n (pc' := 11) dX11_clear_10 rfl rfl (q_bipush (pc' := 13) _ dX11_clear_11 rfl kk_bipush_8 (q_icmp_ne (pc' := 16) (pt := 33) dX11_clear_13 rfl rfl (fun _ => (q_iconst (pc' := 34) _ dX11_clear_33 rfl kk_iconst_m1 (q_iret dX11_clear_34 rfl hQ))) (fun h9 => absurd h9 (h8))))))))))))
/-- the GROUP not STARTED that is nearest to room, and how many must go -/
def nS (b A : St) : Nat → Option (Nat × Nat)
  | 0 => none
  | d + 1 => if b 1 d = 2 ∧ A 7 d ≠ 1 then
      match aClB b A (b 2 d) with
      | none => nS b A d
      | some q => match nS b A d with
        | none => some (d, q.1)
        | some r => if q.1 < r.2 then some (d, q.1) else some r
    else nS b A d
def nsL (o : Option (Nat × Nat)) : Nat := match o with
  | none => 0
  | some r => r.2
theorem nS_lt {b A : St} {k : Nat} {r : Nat × Nat} (h : nS b A k = some r) : r.1 < k := by
  induction k with
  | zero => cases h
  | succ d ih =>
    unfold nS at h
    split at h
    · split at h
      · exact Nat.lt_succ_of_lt (ih h)
      · split at h
        · cases h; exact Nat.lt_succ_self _
        · rename_i r2 hr2
          split at h
          · cases h; exact Nat.lt_succ_self _
          · cases h; exact Nat.lt_succ_of_lt (ih hr2)
    · exact Nat.lt_succ_of_lt (ih h)
theorem rs_X11_nearest (hM : mj_wM R) (hb : mB I b) (hk : bOK b) (hR : rR (I 464) A) (hA : aOK A) (hV : vOK b A) : RsI w l yX11_nearest dd_X11_nearest [.ref 452] (472, I, J, R) (fun x I' => x = oI ((nS b A (b 0 2)).map (fun r => r.1)) ∧ mK I I') := by
  have h10 := hk.2.2.1
  refine rt_intro2 (L := [some (.ref 452), none, none, none]) ⟨by decide, rfl, (fun h => by cases h)⟩ (Nat.le_of_ble_eq_true rfl) rfl (fun Y Q hQ => ?_)
  have loop : ∀ m k I0, k + m = b 0 2 → mK I I0 → (∀ r, nS b A k = some r → r.2 ≤ 32) → Wq dd_X11_nearest (mj_mk w l 472 Y) Q 6 [some (.ref 452), some (.int (oI ((nS b A k).map (fun r => r.1)))), some (.int (nI (nsL (nS b A k)))), some (.int (nI k))] [] (472, I0, J, R) := by
    intro m
    induction m with
    | zero =>
      intro k I0 hkm hK h32
      have hkz : k = b 0 2 := by omega
      subst hkz
      have hb0 := mB_K hK hb
      exact q_iload_n (pc' := 7) dX11_nearest_6 rfl rfl (q_aload_n (pc' := 8) dX11_nearest_7 rfl rfl (q_getIe (pc' := 11) dX11_nearest_8 rfl fr_RX11_252 ⟨by omega, rfl⟩ rfl (mB_2 hb0) (q_icmp_ge (pc' := 14) (pt := 77) dX11_nearest_11 rfl rfl (fun _ => (q_iload_n (pc' := 78) dX11_nearest_77 rfl rfl (q_iret dX11_nearest_78 rfl (hQ _ _ _ _ ⟨_, rfl, ⟨rfl, rfl⟩, rfl, hK⟩)))) (fun h9 => absurd (by (first | assumption | exact nI_le (by omega) (by omega) | exact nI_ge (by omega) (by omega) | exact nI_lt (by omega) (by omega) | exact nI_nlt (by omega) (by omega) | exact nI_ne (by omega) (by omega) (by omega) | exact nI_e (by omega) | decide)) h9))))
    | succ m ih =>
      intro k I0 hkm hK h32
      have hb0 := mB_K hK hb
      have hR0 : rR (I0 464) A := by rw [hK.1 464 (by decide)]; exact hR
      have hbd := hb0.2.2.2 k (by omega)
      have hkd := hk.2.2.2 k (by omega)
      have skip : ∀ I1, nS b A (k + 1) = nS b A k → mK I I1 → Wq dd_X11_nearest (mj_mk w l 472 Y) Q 71 [some (.ref 452), some (.int (oI ((nS b A k).map (fun r => r.1)))), some (.int (nI (nsL (nS b A k)))), some (.int (nI k))] [] (472, I1, J, R) := by
        intro I1 he hK1
        rw [← he]
        refine q_inc_3 (pc' := 74) dX11_nearest_71 rfl (by decide) rfl (q_goto (pc' := 6) dX11_nearest_74 rfl ?_)
        exact ih (k + 1) I1 (by omega) hK1 (by rw [he]; exact h32)
      by_cases h2 : b 1 k = 2
      · by_cases h7 : A 7 k = 1
        · refine q_iload_n (pc' := 7) dX11_nearest_6 rfl rfl (q_aload_n (pc' := 8) dX11_nearest_7 rfl rfl (q_getIe (pc' := 11) dX11_nearest_8 rfl fr_RX11_252 ⟨by omega, rfl⟩ rfl (mB_2 hb0) (q_icmp_ge (pc' := 14) (pt := 77) dX11_nearest_11 rfl rfl (fun h9 => absurd h9 (by (first | assumption | exact nI_le (by omega) (by omega) | exact nI_ge (by omega) (by omega) | exact nI_lt (by omega) (by omega) | exact nI_nlt (by omega) (by omega) | exact nI_ne (by omega) (by omega) (by omega) | exact nI_e (by omega) | decide))) (fun _ => (q_aload_n (pc' := 15) dX11_nearest_14 rfl rfl (q_getR (pc' := 18) dX11_nearest_15 rfl fr_RX11_29 ⟨by omega, rfl⟩ rfl (wM_29 hM) (by decide) (q_iload_n (pc' := 19) dX11_nearest_18 rfl rfl (q_ialde (pc' := 20) _ dX11_nearest_19 rfl (by first | exact ⟨by omega, rfl⟩ | exact okaS hi hz (by decide) rfl | assumption) rfl (by omega) hbd.1 (q_iconst (pc' := 21) _ dX11_nearest_20 rfl kk_iconst_2 (q_icmp_ne (pc' := 24) (pt := 71) dX11_nearest_21 rfl rfl (fun h9 => absurd (congrArg nI h2) h9) (fun _ => (q_aload_n (pc' := 25) dX11_nearest_24 rfl rfl (q_iload_n (pc' := 26) dX11_nearest_25 rfl rfl (q_cVi (pc' := 29) dX11_nearest_26 rfl ml_RX11_283 yv_X11_isStarted (by decide) (rn_X11_isStarted hM hR0 hA (by omega)) ⟨by omega, rfl⟩ rfl rfl (Nat.le_of_ble_eq_true rfl) (Nat.le_refl _) (q_ifb_ne (pc' := 32) (pt := 71) dX11_nearest_29 rfl rfl (fun _ => ?_) (fun h9 => Bool.noConfusion (Eq.trans (Eq.symm (beq_iff_eq.mpr h7)) h9)))))))))))))))))
          exact skip I0 (by rw [nS, if_neg (fun q => q.2 h7)]) hK
        · refine q_iload_n (pc' := 7) dX11_nearest_6 rfl rfl (q_aload_n (pc' := 8) dX11_nearest_7 rfl rfl (q_getIe (pc' := 11) dX11_nearest_8 rfl fr_RX11_252 ⟨by omega, rfl⟩ rfl (mB_2 hb0) (q_icmp_ge (pc' := 14) (pt := 77) dX11_nearest_11 rfl rfl (fun h9 => absurd h9 (by (first | assumption | exact nI_le (by omega) (by omega) | exact nI_ge (by omega) (by omega) | exact nI_lt (by omega) (by omega) | exact nI_nlt (by omega) (by omega) | exact nI_ne (by omega) (by omega) (by omega) | exact nI_e (by omega) | decide))) (fun _ => (q_aload_n (pc' := 15) dX11_nearest_14 rfl rfl (q_getR (pc' := 18) dX11_nearest_15 rfl fr_RX11_29 ⟨by omega, rfl⟩ rfl (wM_29 hM) (by decide) (q_iload_n (pc' := 19) dX11_nearest_18 rfl rfl (q_ialde (pc' := 20) _ dX11_nearest_19 rfl (by first | exact ⟨by omega, rfl⟩ | exact okaS hi hz (by decide) rfl | assumption) rfl (by omega) hbd.1 (q_iconst (pc' := 21) _ dX11_nearest_20 rfl kk_iconst_2 (q_icmp_ne (pc' := 24) (pt := 71) dX11_nearest_21 rfl rfl (fun h9 => absurd (congrArg nI h2) h9) (fun _ => (q_aload_n (pc' := 25) dX11_nearest_24 rfl rfl (q_iload_n (pc' := 26) dX11_nearest_25 rfl rfl (q_cVi (pc' := 29) dX11_nearest_26 rfl ml_RX11_283 yv_X11_isStarted (by decide) (rn_X11_isStarted hM hR0 hA (by omega)) ⟨by omega, rfl⟩ rfl rfl (Nat.le_of_ble_eq_true rfl) (Nat.le_refl _) (q_ifb_ne (pc' := 32) (pt := 71) dX11_nearest_29 rfl rfl (fun h9 => Bool.noConfusion (Eq.trans (Eq.symm (beq_eq_false_iff_ne.mpr h7)) h9)) (fun _ => ?_))))))))))))))))
          refine q_aload_n (pc' := 33) dX11_nearest_32 rfl rfl (q_aload_n (pc' := 34) dX11_nearest_33 rfl rfl (q_getR (pc' := 37) dX11_nearest_34 rfl fr_RX11_32 ⟨by omega, rfl⟩ rfl (wM_30 hM) (by decide) (q_iload_n (pc' := 38) dX11_nearest_37 rfl rfl (q_ialde (pc' := 39) _ dX11_nearest_38 rfl (by first | exact ⟨by omega, rfl⟩ | exact okaS hi hz (by decide) rfl | assumption) rfl (by omega) hbd.2.1 (q_sVi (pc' := 42) dX11_nearest_39 rfl ml_RX11_481 yv_X11_laysClear (by decide) (rs_X11_laysClear hM hb0 hk hR0 hA hV hkd.2.1) ⟨by omega, rfl⟩ rfl rfl (Nat.le_of_ble_eq_true rfl) (Nat.le_refl _) (fun x2 I2 ⟨t1, t2, t3⟩ => ?_))))))
          rw [t1]
          have e := (show nS b A (k + 1) = _ by rw [nS, if_pos ⟨h2, h7⟩])
          cases ho : aClB b A (b 2 k) with
          | none =>
            rw [ho] at e
            refine q_ifb_ne (pc' := 45) (pt := 48) dX11_nearest_42 rfl rfl (fun h9 => Bool.noConfusion (Eq.trans (Eq.symm (rfl)) h9)) (fun _ => (q_goto (pc' := 71) dX11_nearest_45 rfl ?_))
            exact skip I2 e (hK.tr t3)
          | some q =>
            rw [ho] at e t2
            have hq := t2.2.2.2
            have put : nS b A (k + 1) = some (k, q.1) → Wq dd_X11_nearest (mj_mk w l 472 Y) Q 64 [some (.ref 452), some (.int (oI ((nS b A k).map (fun r => r.1)))), some (.int (nI (nsL (nS b A k)))), some (.int (nI k))] [] (472, I2, J, R) := by
              intro he
              have next := ih (k + 1) I2 (by omega) (hK.tr t3) (by rw [he]; intro r hr; cases hr; exact hq)
              rw [he] at next
              refine q_iload_n (pc' := 65) dX11_nearest_64 rfl rfl (q_ist_1 (pc' := 66) dX11_nearest_65 rfl (by decide) rfl (q_aload_n (pc' := 67) dX11_nearest_66 rfl rfl (q_getIe (pc' := 70) dX11_nearest_67 rfl fr_RX11_469 ⟨by omega, rfl⟩ rfl t2.1 (q_ist_2 (pc' := 71) dX11_nearest_70 rfl (by decide) rfl (q_inc_3 (pc' := 74) dX11_nearest_71 rfl (by decide) rfl (q_goto (pc' := 6) dX11_nearest_74 rfl ?_))))))
              exact next
            cases hs : nS b A k with
            | none =>
              rw [hs] at e put
              refine q_ifb_ne (pc' := 45) (pt := 48) dX11_nearest_42 rfl rfl (fun _ => (q_iload_n (pc' := 49) dX11_nearest_48 rfl rfl (q_iconst (pc' := 50) _ dX11_nearest_49 rfl kk_iconst_m1 (q_icmp_eq (pc' := 53) (pt := 64) dX11_nearest_50 rfl rfl (fun _ => ?_) (fun h9 => absurd (rfl) h9))))) (fun h9 => Bool.noConfusion (Eq.trans (Eq.symm (rfl)) h9))
              exact put e
            | some r =>
              have hr := nS_lt hs
              have hr2 := h32 r hs
              rw [hs] at e put skip
              dsimp only at e
              by_cases hlt : q.1 < r.2
              · rw [if_pos hlt] at e
                refine q_ifb_ne (pc' := 45) (pt := 48) dX11_nearest_42 rfl rfl (fun _ => (q_iload_n (pc' := 49) dX11_nearest_48 rfl rfl (q_iconst (pc' := 50) _ dX11_nearest_49 rfl kk_iconst_m1 (q_icmp_eq (pc' := 53) (pt := 64) dX11_nearest_50 rfl rfl (fun h9 => absurd h9 (nI_m1 (a := r.1) (by omega))) (fun _ => (q_aload_n (pc' := 54) dX11_nearest_53 rfl rfl (q_getIe (pc' := 57) dX11_nearest_54 rfl fr_RX11_469 ⟨by omega, rfl⟩ rfl t2.1 (q_iload_n (pc' := 58) dX11_nearest_57 rfl rfl (q_icmp_lt (pc' := 61) (pt := 64) dX11_nearest_58 rfl rfl (fun _ => ?_) (fun h9 => absurd (nI_lt (b := r.2) hlt (by omega)) h9)))))))))) (fun h9 => Bool.noConfusion (Eq.trans (Eq.symm (rfl)) h9))
                exact put e
              · rw [if_neg hlt] at e
                refine q_ifb_ne (pc' := 45) (pt := 48) dX11_nearest_42 rfl rfl (fun _ => (q_iload_n (pc' := 49) dX11_nearest_48 rfl rfl (q_iconst (pc' := 50) _ dX11_nearest_49 rfl kk_iconst_m1 (q_icmp_eq (pc' := 53) (pt := 64) dX11_nearest_50 rfl rfl (fun h9 => absurd h9 (nI_m1 (a := r.1) (by omega))) (fun _ => (q_aload_n (pc' := 54) dX11_nearest_53 rfl rfl (q_getIe (pc' := 57) dX11_nearest_54 rfl fr_RX11_469 ⟨by omega, rfl⟩ rfl t2.1 (q_iload_n (pc' := 58) dX11_nearest_57 rfl rfl (q_icmp_lt (pc' := 61) (pt := 64) dX11_nearest_58 rfl rfl (fun h9 => absurd h9 (Int32.not_lt.mpr (nI_le (a := r.2) (by omega) (by omega)))) (fun _ => (q_goto (pc' := 71) dX11_nearest_61 rfl ?_))))))))))) (fun h9 => Bool.noConfusion (Eq.trans (Eq.symm (rfl)) h9))
                exact skip I2 e (hK.tr t3)
      · refine q_iload_n (pc' := 7) dX11_nearest_6 rfl rfl (q_aload_n (pc' := 8) dX11_nearest_7 rfl rfl (q_getIe (pc' := 11) dX11_nearest_8 rfl fr_RX11_252 ⟨by omega, rfl⟩ rfl (mB_2 hb0) (q_icmp_ge (pc' := 14) (pt := 77) dX11_nearest_11 rfl rfl (fun h9 => absurd h9 (by (first | assumption | exact nI_le (by omega) (by omega) | exact nI_ge (by omega) (by omega) | exact nI_lt (by omega) (by omega) | exact nI_nlt (by omega) (by omega) | exact nI_ne (by omega) (by omega) (by omega) | exact nI_e (by omega) | decide))) (fun _ => (q_aload_n (pc' := 15) dX11_nearest_14 rfl rfl (q_getR (pc' := 18) dX11_nearest_15 rfl fr_RX11_29 ⟨by omega, rfl⟩ rfl (wM_29 hM) (by decide) (q_iload_n (pc' := 19) dX11_nearest_18 rfl rfl (q_ialde (pc' := 20) _ dX11_nearest_19 rfl (by first | exact ⟨by omega, rfl⟩ | exact okaS hi hz (by decide) rfl | assumption) rfl (by omega) hbd.1 (q_iconst (pc' := 21) _ dX11_nearest_20 rfl kk_iconst_2 (q_icmp_ne (pc' := 24) (pt := 71) dX11_nearest_21 rfl rfl (fun _ => ?_) (fun h9 => absurd h9 (nI_ne h2 (by omega) (by omega)))))))))))))
        exact skip I0 (by rw [nS, if_neg (fun q => h2 q.1)]) hK
  refine q_iconst (pc' := 1) _ dX11_nearest_0 rfl kk_iconst_m1 (q_ist_1 (pc' := 2) dX11_nearest_1 rfl (by decide) rfl (q_iconst (pc' := 3) _ dX11_nearest_2 rfl kk_iconst_0 (q_ist_2 (pc' := 4) dX11_nearest_3 rfl (by decide) rfl (q_iconst (pc' := 5) _ dX11_nearest_4 rfl kk_iconst_0 (q_ist_3 (pc' := 6) dX11_nearest_5 rfl (by decide) rfl ?_)))))
  exact loop (b 0 2) 0 I (by omega) mK.rf (fun r hr => by cases hr)
end M22
