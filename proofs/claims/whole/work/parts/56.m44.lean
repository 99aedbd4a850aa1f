/-! ===== the reference: orders are done ===== -/
/-- an order done: how it is REFUSED, the state behind it -/
def aOrd (b A : St) (r : Nat → Nat) : Nat × St := match r 0 with
  | 0 => aStart b A (r 1 - 1)
  | 1 => (if A 7 (r 1 - 1) = 1 then 0 else 4, if A 7 (r 1 - 1) = 1 then aStop b A (r 1 - 1) else A)
  | 2 => aClaim b A (r 1 - 1)
  | 3 => (if A 7 (r 1 - 1) = 1 ∧ r 2 - 1 < b 2 (r 1 - 1) then 0 else 4, if A 7 (r 1 - 1) = 1 ∧ r 2 - 1 < b 2 (r 1 - 1) then (aRaise A (r 1 - 1) (r 2 - 1) false).2 else A)
  | 4 => (if A 7 (r 1 - 1) = 1 ∧ r 2 - 1 < b 2 (r 1 - 1) then 0 else 4, if A 7 (r 1 - 1) = 1 ∧ r 2 - 1 < b 2 (r 1 - 1) then (aRaise A (r 1 - 1) (r 2 - 1) true).2 else A)
  | 5 => if r 2 - 1 < b 2 (r 1 - 1) then aMove b A (r 1 - 1) (r 2 - 1) (r 3) else (4, A)
  | 6 => (0, aTicks b (r 2 - 1) A)
  | 7 => aPlug b A (r 2 - 1)
  | _ => aUnplug b A (r 2 - 1)
/-- what an act needs of the state that it begins with -/
def aCan (b A : St) : Prop := aOK A ∧ pOK A ∧ (∀ d, d < b 0 2 → b 1 d = 3 → aHoOK b (aSt0 A d) d)
  ∧ (∀ d k set, d < b 0 2 → k < b 2 d → (b 1 d ≠ 3 → A 7 d = 1 → ∀ j, j < b 2 d → A 3 (8 * d + j) ≠ 0) ∧ (b 1 d = 3 → A 7 d = 1 → A 3 (8 * d + k) ≠ 0 → A 4 (8 * d + k) = 0 → ∀ p, aLeast b A (aOth b set ((A 3 (8 * d + k) - 1) / 32) &&& aSpread b d k) = some p → ∃ v, aResv b A (8 * d + k) p = some v))
  ∧ (∀ p, p < b 0 0 → ∃ U : St → Prop, gCl b p U ∧ (A 9 p ≠ 1 → U (mj_up A 9 p 1)))
  ∧ (∀ p, p < b 0 0 → ∃ U : St → Prop, uCl b p U ∧ (A 9 p = 1 → U (mj_up A 9 p 0)))
section M44
variable {w : mj_Wd} {l : Launch} {I : mj_M} {J : mj_J} {R : mj_R} {b A D O : St} {T : Nat → Nat} {sz t : Nat} {K : Nat → Nat} {ps : Nat → St} {n u : Nat}
theorem lD_p {m : Nat} (h : 1 ≤ m) : lD m = nI (m - 1) := if_neg (by omega)
theorem rs_X11_does {i m : Nat} (hM : mj_wM R) (hb : mB I b) (hk : bOK b) (hR : rR (I 464) A) (hC : aCan b A) (hO : mO I O m) (hi : i < m) (hm : m ≤ 160) (ho : oOK b (O i)) : RsI w l yX11_does dd_X11_does [.ref 452, .int (nI (4 * i))] (472, I, J, R) (fun x I' => x = nI (aOrd b A (O i)).1 ∧ rR (I' 464) (aOrd b A (O i)).2 ∧ mF2 I I') := by
  have h10 := hk.2.2.1
  have hA := hC.1
  have hP := hC.2.1
  obtain ⟨e0, e1, e2, e3⟩ := hO i hi
  obtain ⟨o0, o1, o2, o3, o4, o5⟩ := ho
  refine rt_intro2 (L := [some (.ref 452), some (.int (nI (4 * i))), none, none]) ⟨by decide, rfl, (fun h => by cases h)⟩ (Nat.le_of_ble_eq_true rfl) rfl (fun Y Q hQ => ?_)
  unfold aOrd at hQ
  generalize O i = r at e0 e1 e2 e3 o0 o1 o2 o3 o4 o5 hQ
  refine q_aload_n (pc' := 1) dX11_does_0 rfl rfl (q_getR (pc' := 4) dX11_does_1 rfl fr_RX11_63 ⟨by omega, rfl⟩ rfl (wM_42 hM) (by decide) (q_iload_n (pc' := 5) dX11_does_4 rfl rfl (q_iconst (pc' := 6) _ dX11_does_5 rfl kk_iconst_1 (q_iadd (pc' := 7) dX11_does_6 rfl (q_ialde (pc' := 8) (4 * i + 1) dX11_does_7 rfl (by first | exact ⟨by omega, rfl⟩ | exact okaS hi hz (by decide) rfl | assumption) (by (first | (simp only [nI_add, pk_mul]; done) | (simp only [nI_add, pk_mul]; exact nI_e (by omega)) | exact nI_e (by omega))) (by omega) e1 (q_ist_2 (pc' := 9) dX11_does_8 rfl (by decide) rfl (q_aload_n (pc' := 10) dX11_does_9 rfl rfl (q_getR (pc' := 13) dX11_does_10 rfl fr_RX11_63 ⟨by omega, rfl⟩ rfl (wM_42 hM) (by decide) (q_iload_n (pc' := 14) dX11_does_13 rfl rfl (q_iconst (pc' := 15) _ dX11_does_14 rfl kk_iconst_2 (q_iadd (pc' := 16) dX11_does_15 rfl (q_ialde (pc' := 17) (4 * i + 2) dX11_does_16 rfl (by first | exact ⟨by omega, rfl⟩ | exact okaS hi hz (by decide) rfl | assumption) (by (first | (simp only [nI_add, pk_mul]; done) | (simp only [nI_add, pk_mul]; exact nI_e (by omega)) | exact nI_e (by omega))) (by omega) e2 (q_ist_3 (pc' := 18) dX11_does_17 rfl (by decide) rfl ?_)))))))))))))
  have hc : r 0 = 0 ∨ r 0 = 1 ∨ r 0 = 2 ∨ r 0 = 3 ∨ r 0 = 4 ∨ r 0 = 5 ∨ r 0 = 6 ∨ r 0 = 7 ∨ r 0 = 8 := by omega
  rcases hc with h0 | h0 | h0 | h0 | h0 | h0 | h0 | h0 | h0
  · have od := o1 (by omega)
    rw [h0] at e0 hQ
    rw [lD_p od.1]
    refine q_aload_n (pc' := 19) dX11_does_18 rfl rfl (q_getR (pc' := 22) dX11_does_19 rfl fr_RX11_63 ⟨by omega, rfl⟩ rfl (wM_42 hM) (by decide) (q_iload_n (pc' := 23) dX11_does_22 rfl rfl (q_ialde (pc' := 24) (4 * i) dX11_does_23 rfl (by first | exact ⟨by omega, rfl⟩ | exact okaS hi hz (by decide) rfl | assumption) (by (first | (simp only [nI_add, pk_mul]; done) | (simp only [nI_add, pk_mul]; exact nI_e (by omega)) | exact nI_e (by omega))) (by omega) e0 (q_tabIn (pc' := 72) dX11_does_24 (by decide) (by decide) rfl rfl (q_aload_n (pc' := 73) dX11_does_72 rfl rfl (q_iload_n (pc' := 74) dX11_does_73 rfl rfl (q_sVi (pc' := 77) dX11_does_74 rfl ml_RX11_412 yv_X11_starts (by decide) (rs_X11_starts hM hb hk hR hA od.2 (hC.2.2.1 _ od.2)) ⟨by omega, rfl⟩ rfl rfl (Nat.le_of_ble_eq_true rfl) (Nat.le_refl _) (fun x2 I2 ⟨t1, t2, t3⟩ => ?_))))))))
    exact q_iret dX11_does_77 rfl (hQ _ _ _ _ ⟨_, rfl, ⟨rfl, rfl⟩, t1, t2, t3⟩)
  · have od := o1 (by omega)
    rw [h0] at e0 hQ
    rw [lD_p od.1]
    refine q_aload_n (pc' := 19) dX11_does_18 rfl rfl (q_getR (pc' := 22) dX11_does_19 rfl fr_RX11_63 ⟨by omega, rfl⟩ rfl (wM_42 hM) (by decide) (q_iload_n (pc' := 23) dX11_does_22 rfl rfl (q_ialde (pc' := 24) (4 * i) dX11_does_23 rfl (by first | exact ⟨by omega, rfl⟩ | exact okaS hi hz (by decide) rfl | assumption) (by (first | (simp only [nI_add, pk_mul]; done) | (simp only [nI_add, pk_mul]; exact nI_e (by omega)) | exact nI_e (by omega))) (by omega) e0 (q_tabIn (pc' := 78) dX11_does_24 (by decide) (by decide) rfl rfl (q_aload_n (pc' := 79) dX11_does_78 rfl rfl (q_iload_n (pc' := 80) dX11_does_79 rfl rfl (q_sVi (pc' := 83) dX11_does_80 rfl ml_RX11_448 yv_X11_stopsOr (by decide) (rs_X11_stopsOr hM hb hk hR hA (by omega)) ⟨by omega, rfl⟩ rfl rfl (Nat.le_of_ble_eq_true rfl) (Nat.le_refl _) (fun x2 I2 ⟨t1, t2, t3⟩ => ?_))))))))
    exact q_iret dX11_does_83 rfl (hQ _ _ _ _ ⟨_, rfl, ⟨rfl, rfl⟩, t1, t2, t3.two⟩)
  · have od := o1 (by omega)
    rw [h0] at e0 hQ
    rw [lD_p od.1]
    refine q_aload_n (pc' := 19) dX11_does_18 rfl rfl (q_getR (pc' := 22) dX11_does_19 rfl fr_RX11_63 ⟨by omega, rfl⟩ rfl (wM_42 hM) (by decide) (q_iload_n (pc' := 23) dX11_does_22 rfl rfl (q_ialde (pc' := 24) (4 * i) dX11_does_23 rfl (by first | exact ⟨by omega, rfl⟩ | exact okaS hi hz (by decide) rfl | assumption) (by (first | (simp only [nI_add, pk_mul]; done) | (simp only [nI_add, pk_mul]; exact nI_e (by omega)) | exact nI_e (by omega))) (by omega) e0 (q_tabIn (pc' := 84) dX11_does_24 (by decide) (by decide) rfl rfl (q_aload_n (pc' := 85) dX11_does_84 rfl rfl (q_iload_n (pc' := 86) dX11_does_85 rfl rfl (q_sVi (pc' := 89) dX11_does_86 rfl ml_RX11_420 yv_X11_claims (by decide) (rs_X11_claims hM hb hk hR hA od.2) ⟨by omega, rfl⟩ rfl rfl (Nat.le_of_ble_eq_true rfl) (Nat.le_refl _) (fun x2 I2 ⟨t1, t2, t3⟩ => ?_))))))))
    exact q_iret dX11_does_89 rfl (hQ _ _ _ _ ⟨_, rfl, ⟨rfl, rfl⟩, t1, t2, t3.two⟩)
  · have od := o1 (by omega)
    have on := o2 (by omega) (by omega)
    rw [h0] at e0 hQ
    rw [lD_p od.1, lD_p on.1]
    refine q_aload_n (pc' := 19) dX11_does_18 rfl rfl (q_getR (pc' := 22) dX11_does_19 rfl fr_RX11_63 ⟨by omega, rfl⟩ rfl (wM_42 hM) (by decide) (q_iload_n (pc' := 23) dX11_does_22 rfl rfl (q_ialde (pc' := 24) (4 * i) dX11_does_23 rfl (by first | exact ⟨by omega, rfl⟩ | exact okaS hi hz (by decide) rfl | assumption) (by (first | (simp only [nI_add, pk_mul]; done) | (simp only [nI_add, pk_mul]; exact nI_e (by omega)) | exact nI_e (by omega))) (by omega) e0 (q_tabIn (pc' := 90) dX11_does_24 (by decide) (by decide) rfl rfl (q_aload_n (pc' := 91) dX11_does_90 rfl rfl (q_iload_n (pc' := 92) dX11_does_91 rfl rfl (q_iload_n (pc' := 93) dX11_does_92 rfl rfl (q_iconst (pc' := 94) _ dX11_does_93 rfl kk_iconst_0 (q_sVi (pc' := 97) dX11_does_94 rfl ml_RX11_451 yv_X11_raisesOr (by decide) (rs_X11_raisesOr (late := false) hM hb hk hR hA od.2 on.2) ⟨by omega, rfl⟩ rfl rfl (Nat.le_of_ble_eq_true rfl) (Nat.le_refl _) (fun x2 I2 ⟨t1, t2, t3⟩ => ?_))))))))))
    exact q_iret dX11_does_97 rfl (hQ _ _ _ _ ⟨_, rfl, ⟨rfl, rfl⟩, t1, t2, t3.two⟩)
  · have od := o1 (by omega)
    have on := o2 (by omega) (by omega)
    rw [h0] at e0 hQ
    rw [lD_p od.1, lD_p on.1]
    refine q_aload_n (pc' := 19) dX11_does_18 rfl rfl (q_getR (pc' := 22) dX11_does_19 rfl fr_RX11_63 ⟨by omega, rfl⟩ rfl (wM_42 hM) (by decide) (q_iload_n (pc' := 23) dX11_does_22 rfl rfl (q_ialde (pc' := 24) (4 * i) dX11_does_23 rfl (by first | exact ⟨by omega, rfl⟩ | exact okaS hi hz (by decide) rfl | assumption) (by (first | (simp only [nI_add, pk_mul]; done) | (simp only [nI_add, pk_mul]; exact nI_e (by omega)) | exact nI_e (by omega))) (by omega) e0 (q_tabIn (pc' := 98) dX11_does_24 (by decide) (by decide) rfl rfl (q_aload_n (pc' := 99) dX11_does_98 rfl rfl (q_iload_n (pc' := 100) dX11_does_99 rfl rfl (q_iload_n (pc' := 101) dX11_does_100 rfl rfl (q_iconst (pc' := 102) _ dX11_does_101 rfl kk_iconst_1 (q_sVi (pc' := 105) dX11_does_102 rfl ml_RX11_451 yv_X11_raisesOr (by decide) (rs_X11_raisesOr (late := true) hM hb hk hR hA od.2 on.2) ⟨by omega, rfl⟩ rfl rfl (Nat.le_of_ble_eq_true rfl) (Nat.le_refl _) (fun x2 I2 ⟨t1, t2, t3⟩ => ?_))))))))))
    exact q_iret dX11_does_105 rfl (hQ _ _ _ _ ⟨_, rfl, ⟨rfl, rfl⟩, t1, t2, t3.two⟩)
  · have od := o1 (by omega)
    have on := o2 (by omega) (by omega)
    have hbs := hk.2.2.2 _ od.2
    rw [h0] at e0 hQ
    rw [lD_p od.1, lD_p on.1]
    by_cases hl : r 2 - 1 < b 2 (r 1 - 1)
    · have hcc := hC.2.2.2.1 (r 1 - 1) (r 2 - 1) (r 3) od.2 hl
      rw [show (match 5 with | 0 => aStart b A (r 1 - 1) | 1 => (if A 7 (r 1 - 1) = 1 then 0 else 4, if A 7 (r 1 - 1) = 1 then aStop b A (r 1 - 1) else A) | 2 => aClaim b A (r 1 - 1) | 3 => (if A 7 (r 1 - 1) = 1 ∧ r 2 - 1 < b 2 (r 1 - 1) then 0 else 4, if A 7 (r 1 - 1) = 1 ∧ r 2 - 1 < b 2 (r 1 - 1) then (aRaise A (r 1 - 1) (r 2 - 1) false).2 else A) | 4 => (if A 7 (r 1 - 1) = 1 ∧ r 2 - 1 < b 2 (r 1 - 1) then 0 else 4, if A 7 (r 1 - 1) = 1 ∧ r 2 - 1 < b 2 (r 1 - 1) then (aRaise A (r 1 - 1) (r 2 - 1) true).2 else A) | 5 => if r 2 - 1 < b 2 (r 1 - 1) then aMove b A (r 1 - 1) (r 2 - 1) (r 3) else (4, A) | 6 => (0, aTicks b (r 2 - 1) A) | 7 => aPlug b A (r 2 - 1) | _ => aUnplug b A (r 2 - 1) : Nat × St) = aMove b A (r 1 - 1) (r 2 - 1) (r 3) from if_pos hl] at hQ
      refine q_aload_n (pc' := 19) dX11_does_18 rfl rfl (q_getR (pc' := 22) dX11_does_19 rfl fr_RX11_63 ⟨by omega, rfl⟩ rfl (wM_42 hM) (by decide) (q_iload_n (pc' := 23) dX11_does_22 rfl rfl (q_ialde (pc' := 24) (4 * i) dX11_does_23 rfl (by first | exact ⟨by omega, rfl⟩ | exact okaS hi hz (by decide) rfl | assumption) (by (first | (simp only [nI_add, pk_mul]; done) | (simp only [nI_add, pk_mul]; exact nI_e (by omega)) | exact nI_e (by omega))) (by omega) e0 (q_tabIn (pc' := 106) dX11_does_24 (by decide) (by decide) rfl rfl (q_aload_n (pc' := 107) dX11_does_106 rfl rfl (q_iload_n (pc' := 108) dX11_does_107 rfl rfl (q_iload_n (pc' := 109) dX11_does_108 rfl rfl (q_aload_n (pc' := 110) dX11_does_109 rfl rfl (q_getR (pc' := 113) dX11_does_110 rfl fr_RX11_63 ⟨by omega, rfl⟩ rfl (wM_42 hM) (by decide) (q_iload_n (pc' := 114) dX11_does_113 rfl rfl (q_iconst (pc' := 115) _ dX11_does_114 rfl kk_iconst_3 (q_iadd (pc' := 116) dX11_does_115 rfl (q_ialde (pc' := 117) (4 * i + 3) dX11_does_116 rfl (by first | exact ⟨by omega, rfl⟩ | exact okaS hi hz (by decide) rfl | assumption) (by (first | (simp only [nI_add, pk_mul]; done) | (simp only [nI_add, pk_mul]; exact nI_e (by omega)) | exact nI_e (by omega))) (by omega) e3 ?_)))))))))))))
      refine q_sVi (pc' := 120) dX11_does_117 rfl ml_RX11_430 yv_X11_movesTo (by decide) (rs_X11_movesTo hM hb hk hR hA od.2 hl hcc.1 hcc.2) ⟨by omega, rfl⟩ rfl rfl (Nat.le_of_ble_eq_true rfl) (Nat.le_refl _) (fun x2 I2 ⟨t1, t2, t3⟩ => ?_)
      exact q_iret dX11_does_120 rfl (hQ _ _ _ _ ⟨_, rfl, ⟨rfl, rfl⟩, t1, t2, t3.two⟩)
    · have hin : inN (nI (r 2 - 1)) (b 2 (r 1 - 1)) = false := by
        apply Bool.eq_false_iff.mpr
        intro q
        rw [inN_iff (by omega)] at q
        obtain ⟨j, q2, q3⟩ := q
        exact hl (by rw [(nI_eq (by omega) (by omega)).mp q3]; exact q2)
      refine q_aload_n (pc' := 19) dX11_does_18 rfl rfl (q_getR (pc' := 22) dX11_does_19 rfl fr_RX11_63 ⟨by omega, rfl⟩ rfl (wM_42 hM) (by decide) (q_iload_n (pc' := 23) dX11_does_22 rfl rfl (q_ialde (pc' := 24) (4 * i) dX11_does_23 rfl (by first | exact ⟨by omega, rfl⟩ | exact okaS hi hz (by decide) rfl | assumption) (by (first | (simp only [nI_add, pk_mul]; done) | (simp only [nI_add, pk_mul]; exact nI_e (by omega)) | exact nI_e (by omega))) (by omega) e0 (q_tabIn (pc' := 106) dX11_does_24 (by decide) (by decide) rfl rfl (q_aload_n (pc' := 107) dX11_does_106 rfl rfl (q_iload_n (pc' := 108) dX11_does_107 rfl rfl (q_iload_n (pc' := 109) dX11_does_108 rfl rfl (q_aload_n (pc' := 110) dX11_does_109 rfl rfl (q_getR (pc' := 113) dX11_does_110 rfl fr_RX11_63 ⟨by omega, rfl⟩ rfl (wM_42 hM) (by decide) (q_iload_n (pc' := 114) dX11_does_113 rfl rfl (q_iconst (pc' := 115) _ dX11_does_114 rfl kk_iconst_3 (q_iadd (pc' := 116) dX11_does_115 rfl (q_ialde (pc' := 117) (4 * i + 3) dX11_does_116 rfl (by first | exact ⟨by omega, rfl⟩ | exact okaS hi hz (by decide) rfl | assumption) (by (first | (simp only [nI_add, pk_mul]; done) | (simp only [nI_add, pk_mul]; exact nI_e (by omega)) | exact nI_e (by omega))) (by omega) e3 ?_)))))))))))))
      exact q_cVi (pc' := 120) dX11_does_117 rfl ml_RX11_430 yv_X11_movesTo (by decide) (rs_X11_movesTo0 hM hb hk hR hA od.2 hin) ⟨by omega, rfl⟩ rfl rfl (Nat.le_of_ble_eq_true rfl) (Nat.le_refl _) (q_iret dX11_does_120 rfl (hQ _ _ _ _ ⟨_, rfl, ⟨rfl, rfl⟩, (by show nI 4 = nI (if r 2 - 1 < b 2 (r 1 - 1) then aMove b A (r 1 - 1) (r 2 - 1) (r 3) else (4, A)).1; rw [if_neg hl]), (by show rR (I 464) (if r 2 - 1 < b 2 (r 1 - 1) then aMove b A (r 1 - 1) (r 2 - 1) (r 3) else (4, A)).2; rw [if_neg hl]; exact hR), mF2.rf⟩))
  · have on := o3 h0
    rw [h0] at e0 hQ
    rw [lD_p (show 1 ≤ r 2 by omega)]
    refine q_aload_n (pc' := 19) dX11_does_18 rfl rfl (q_getR (pc' := 22) dX11_does_19 rfl fr_RX11_63 ⟨by omega, rfl⟩ rfl (wM_42 hM) (by decide) (q_iload_n (pc' := 23) dX11_does_22 rfl rfl (q_ialde (pc' := 24) (4 * i) dX11_does_23 rfl (by first | exact ⟨by omega, rfl⟩ | exact okaS hi hz (by decide) rfl | assumption) (by (first | (simp only [nI_add, pk_mul]; done) | (simp only [nI_add, pk_mul]; exact nI_e (by omega)) | exact nI_e (by omega))) (by omega) e0 (q_tabIn (pc' := 121) dX11_does_24 (by decide) (by decide) rfl rfl (q_aload_n (pc' := 122) dX11_does_121 rfl rfl (q_iload_n (pc' := 123) dX11_does_122 rfl rfl (q_sVi (pc' := 126) dX11_does_123 rfl ml_RX11_454 yv_X11_doesTicks (by decide) (rs_X11_doesTicks hM hb hk hR hA hP on.2) ⟨by omega, rfl⟩ rfl rfl (Nat.le_of_ble_eq_true rfl) (Nat.le_refl _) (fun x2 I2 ⟨t1, t2, t3⟩ => ?_))))))))
    exact q_iret dX11_does_126 rfl (hQ _ _ _ _ ⟨_, rfl, ⟨rfl, rfl⟩, t1, t2, t3.two⟩)
  · have on := o4 (by omega)
    obtain ⟨U, u1, u2⟩ := hC.2.2.2.2.1 _ on.2
    rw [h0] at e0 hQ
    rw [lD_p on.1]
    refine q_aload_n (pc' := 19) dX11_does_18 rfl rfl (q_getR (pc' := 22) dX11_does_19 rfl fr_RX11_63 ⟨by omega, rfl⟩ rfl (wM_42 hM) (by decide) (q_iload_n (pc' := 23) dX11_does_22 rfl rfl (q_ialde (pc' := 24) (4 * i) dX11_does_23 rfl (by first | exact ⟨by omega, rfl⟩ | exact okaS hi hz (by decide) rfl | assumption) (by (first | (simp only [nI_add, pk_mul]; done) | (simp only [nI_add, pk_mul]; exact nI_e (by omega)) | exact nI_e (by omega))) (by omega) e0 (q_tabIn (pc' := 127) dX11_does_24 (by decide) (by decide) rfl rfl (q_aload_n (pc' := 128) dX11_does_127 rfl rfl (q_iload_n (pc' := 129) dX11_does_128 rfl rfl (q_sVi (pc' := 132) dX11_does_129 rfl ml_RX11_439 yv_X11_plugs (by decide) (rs_X11_plugs hM hb hk hR hA u1 u2 on.2) ⟨by omega, rfl⟩ rfl rfl (Nat.le_of_ble_eq_true rfl) (Nat.le_refl _) (fun x2 I2 ⟨t1, t2, t3⟩ => ?_))))))))
    exact q_iret dX11_does_132 rfl (hQ _ _ _ _ ⟨_, rfl, ⟨rfl, rfl⟩, t1, t2, t3.two⟩)
  · have on := o4 (by omega)
    obtain ⟨U, u1, u2⟩ := hC.2.2.2.2.2 _ on.2
    rw [h0] at e0 hQ
    rw [lD_p on.1]
    refine q_aload_n (pc' := 19) dX11_does_18 rfl rfl (q_getR (pc' := 22) dX11_does_19 rfl fr_RX11_63 ⟨by omega, rfl⟩ rfl (wM_42 hM) (by decide) (q_iload_n (pc' := 23) dX11_does_22 rfl rfl (q_ialde (pc' := 24) (4 * i) dX11_does_23 rfl (by first | exact ⟨by omega, rfl⟩ | exact okaS hi hz (by decide) rfl | assumption) (by (first | (simp only [nI_add, pk_mul]; done) | (simp only [nI_add, pk_mul]; exact nI_e (by omega)) | exact nI_e (by omega))) (by omega) e0 (q_tabOut (pc' := 133) dX11_does_24 (by decide) rfl (q_aload_n (pc' := 134) dX11_does_133 rfl rfl (q_iload_n (pc' := 135) dX11_does_134 rfl rfl (q_sVi (pc' := 138) dX11_does_135 rfl ml_RX11_436 yv_X11_unplugs (by decide) (rs_X11_unplugs hM hb hk hR hA u1 u2 on.2) ⟨by omega, rfl⟩ rfl rfl (Nat.le_of_ble_eq_true rfl) (Nat.le_refl _) (fun x2 I2 ⟨t1, t2, t3⟩ => ?_))))))))
    exact q_iret dX11_does_138 rfl (hQ _ _ _ _ ⟨_, rfl, ⟨rfl, rfl⟩, t1, t2, t3⟩)
/-- orders done, until one is REFUSED: how many, how it was REFUSED, the state -/
def aOrs (b O : St) : Nat → Nat → St → Nat × Nat × St
  | 0, i, A => (i, 0, A)
  | f + 1, i, A => if (aOrd b A (O i)).1 = 0 then aOrs b O f (i + 1) (aOrd b A (O i)).2 else (i, (aOrd b A (O i)).1, (aOrd b A (O i)).2)
/-- an invariant that orders keep -/
def oCl (b : St) (V : St → Prop) : Prop := ∀ B, V B → aCan b B ∧ ∀ r, oOK b r → (aOrd b B r).1 < 10 ∧ V (aOrd b B r).2
theorem w_ors2 {V : St → Prop} {m : Nat} (Q : Option Value → mj_H → Prop) (Y : mj_Y) (hM : mj_wM R) (hb : mB I b) (hk : bOK b) (hR : rR (I 464) A) (hV : oCl b V) (hA : V A) (hO : mO I O m) (hm : m ≤ 160) (ho : ∀ i, i < m → oOK b (O i)) (e43 : I 452 43 = nI m) (e44 : I 452 44 = nI 0) (hH : mH I ps n u)
    (hq : ∀ I1, rR (I1 464) (aOrs b O m 0 A).2.2 → I1 452 44 = nI (aOrs b O m 0 A).2.1 → mH I1 (if 0 < (aOrs b O m 0 A).1 then hPush ps n A else ps) (if 0 < (aOrs b O m 0 A).1 then hN n else n) (if 0 < (aOrs b O m 0 A).1 then 0 else u) → mG (mj_up I 452 44 (nI (aOrs b O m 0 A).2.1)) I1 → Q (some (.int (nI (aOrs b O m 0 A).1))) (472, I1, J, R)) :
    Wq dd_X11_orders (mj_mk w l 472 Y) Q 44 [some (.ref 452), none] [] (472, I, J, R) := by
  obtain ⟨g1, g2, g3, g4⟩ := beg_f hR hH
  refine q_aload_n (pc' := 45) dX11_orders_44 rfl rfl (q_cVv (pc' := 48) dX11_orders_45 rfl ml_RX11_409 yv_X11_begin (by decide) (rn_X11_begin hM) ⟨by omega, rfl⟩ rfl rfl (Nat.le_of_ble_eq_true rfl) (Nat.le_refl _) ?_)
  have c43 : mj_cp I 467 1775 (I 464) 452 43 = nI m := by rw [cp_ne (by decide)]; exact e43
  have c44 : mj_cp I 467 1775 (I 464) 452 44 = nI 0 := by rw [cp_ne (by decide)]; exact e44
  have hO1 : mO (mj_cp I 467 1775 (I 464)) O m := fun i hi => by rw [cp_ne (by decide)]; exact hO i hi
  generalize mj_cp I 467 1775 (I 464) = I0 at g1 g2 g3 g4 c43 c44 hO1 ⊢
  have fin : ∀ I1 i c B, aOrs b O m 0 A = (i, c, B) → i ≤ 160 → rR (I1 464) B → I1 452 44 = nI c → mF2 (mj_up I0 452 44 (nI c)) I1 → Wq dd_X11_orders (mj_mk w l 472 Y) Q 97 [some (.ref 452), some (.int (nI i))] [] (472, I1, J, R) := by
    intro I1 i c B he hi hB1 h44 hF1
    rw [he] at hq
    have gI : mG (mj_up I 452 44 (nI c)) (mj_up I0 452 44 (nI c)) := ⟨fun a h1 h2 h3 h4 h5 => by rw [up_fI h5, up_fI h5]; exact g1.1 a h1 h2 h3 h4 h5, fun f h1 h2 => by
      by_cases e : f = 44
      · rw [e, mj_up_eq, mj_up_eq]
      · rw [mj_up_ne2 e, mj_up_ne2 e]; exact g1.2 f h1 h2⟩
    have hH0 : mH (mj_up I0 452 44 (nI c)) ps n u := mH_of g2 (mj_up_ne2 (by decide)) (mj_up_ne2 (by decide)) (up_fI (by decide))
    have hH1 := mH_F2 hF1 hH0
    by_cases h0 : 0 < i
    · have hW : rR (I1 467) A := by rw [hF1 467 (by decide) (by decide), up_fI (by decide)]; exact g4
      refine q_iload_n (pc' := 98) dX11_orders_97 rfl rfl (q_if_le (pc' := 101) (pt := 105) dX11_orders_98 rfl rfl (fun h9 => absurd h9 (Int32.not_le.mpr (nI_lt (a := 0) h0 (by omega)))) (fun _ => (q_aload_n (pc' := 102) dX11_orders_101 rfl rfl (q_sVv (pc' := 105) dX11_orders_102 rfl ml_RX11_406 yv_X11_keeps (by decide) (rs_X11_keeps (W0 := A) hM hH1 hW) ⟨by omega, rfl⟩ rfl rfl (Nat.le_of_ble_eq_true rfl) (Nat.le_refl _) (fun I2 ⟨v1, v2, v3, v4⟩ => ?_)))))
      refine q_iload_n (pc' := 106) dX11_orders_105 rfl rfl ?_
      have h44' : I2 452 44 = nI c := (v2.2 44 (by decide) (by decide)).trans h44
      exact q_iret dX11_orders_106 rfl (hq I2 (by rw [v3]; exact hB1) h44' (by rw [if_pos h0, if_pos h0, if_pos h0]; exact v1) ((gI.tr hF1.g).tr v2))
    · exact q_iload_n (pc' := 98) dX11_orders_97 rfl rfl (q_if_le (pc' := 101) (pt := 105) dX11_orders_98 rfl rfl (fun _ => (q_iload_n (pc' := 106) dX11_orders_105 rfl rfl (q_iret dX11_orders_106 rfl (hq I1 hB1 h44 (by rw [if_neg h0, if_neg h0, if_neg h0]; exact hH1) (gI.tr hF1.g))))) (fun h9 => absurd (nI_le (b := 0) (by omega) (by omega)) h9))
  have loop : ∀ f i B I1, i + f = m → aOrs b O f i B = aOrs b O m 0 A → V B → rR (I1 464) B → I1 452 44 = nI 0 → mF2 (mj_up I0 452 44 (nI 0)) I1 → Wq dd_X11_orders (mj_mk w l 472 Y) Q 50 [some (.ref 452), some (.int (nI i))] [] (472, I1, J, R) := by
    intro f
    induction f with
    | zero =>
      intro i B I1 hi he hVB hB1 h44 hF1
      have him : i = m := by omega
      subst him
      have e43' : I1 452 43 = nI i := by rw [hF1 452 (by decide) (by decide), mj_up_ne2 (by decide)]; exact c43
      refine q_iload_n (pc' := 51) dX11_orders_50 rfl rfl (q_aload_n (pc' := 52) dX11_orders_51 rfl rfl (q_getIe (pc' := 55) dX11_orders_52 rfl fr_RX11_442 ⟨by omega, rfl⟩ rfl e43' (q_icmp_ge (pc' := 58) (pt := 97) dX11_orders_55 rfl rfl (fun _ => ?_) (fun h9 => absurd (by (first | assumption | exact nI_le (by omega) (by omega) | exact nI_ge (by omega) (by omega) | exact nI_lt (by omega) (by omega) | exact nI_nlt (by omega) (by omega) | exact nI_ne (by omega) (by omega) (by omega) | exact nI_e (by omega) | decide)) h9))))
      exact fin I1 i 0 B he.symm hm hB1 h44 hF1
    | succ f ih =>
      intro i B I1 hi he hVB hB1 h44 hF1
      have e43' : I1 452 43 = nI m := by rw [hF1 452 (by decide) (by decide), mj_up_ne2 (by decide)]; exact c43
      have hb1 : mB I1 b := mB_F2 hF1 (by
        have hb0 := mB_G g1 hb
        exact ⟨by rw [mj_up_ne2 (by decide)]; exact hb0.1, by rw [mj_up_ne2 (by decide)]; exact hb0.2.1, by rw [mj_up_ne2 (by decide)]; exact hb0.2.2.1, fun d hd => by rw [mj_up_ne (by decide), mj_up_ne (by decide), mj_up_ne (by decide)]; exact hb0.2.2.2 d hd⟩)
      have hO2 : mO I1 O m := fun i hi => by rw [hF1 468 (by decide) (by decide), up_fI (by decide)]; exact hO1 i hi
      obtain ⟨hcan, hcl⟩ := hV B hVB
      obtain ⟨hr10, hVn⟩ := hcl (O i) (ho i (by omega))
      refine q_iload_n (pc' := 51) dX11_orders_50 rfl rfl (q_aload_n (pc' := 52) dX11_orders_51 rfl rfl (q_getIe (pc' := 55) dX11_orders_52 rfl fr_RX11_442 ⟨by omega, rfl⟩ rfl e43' (q_icmp_ge (pc' := 58) (pt := 97) dX11_orders_55 rfl rfl (fun h9 => absurd h9 (by (first | assumption | exact nI_le (by omega) (by omega) | exact nI_ge (by omega) (by omega) | exact nI_lt (by omega) (by omega) | exact nI_nlt (by omega) (by omega) | exact nI_ne (by omega) (by omega) (by omega) | exact nI_e (by omega) | decide))) (fun _ => (q_aload_n (pc' := 59) dX11_orders_58 rfl rfl (q_getIe (pc' := 62) dX11_orders_59 rfl fr_RX11_265 ⟨by omega, rfl⟩ rfl h44 (q_if_ne (pc' := 65) (pt := 97) dX11_orders_62 rfl rfl (fun h9 => absurd (rfl) h9) (fun _ => (q_aload_n (pc' := 66) dX11_orders_65 rfl rfl (q_aload_n (pc' := 67) dX11_orders_66 rfl rfl (q_iconst (pc' := 68) _ dX11_orders_67 rfl kk_iconst_4 (q_iload_n (pc' := 69) dX11_orders_68 rfl rfl ?_))))))))))))
      refine q_imul dX11_orders_69 rfl ?_
      refine q_top (y := nI (4 * i)) (pk_mul 4 i) ?_
      refine q_sVi (pc' := 73) dX11_orders_70 rfl ml_RX11_460 yv_X11_does (by decide) (rs_X11_does hM hb1 hk hB1 hcan hO2 (show i < m by omega) hm (ho i (by omega))) ⟨by omega, rfl⟩ rfl rfl (Nat.le_of_ble_eq_true rfl) (Nat.le_refl _) (fun x2 I2 ⟨t1, t2, t3⟩ => ?_)
      rw [t1]
      have ue : aOrs b O (f + 1) i B = (if (aOrd b B (O i)).1 = 0 then aOrs b O f (i + 1) (aOrd b B (O i)).2 else (i, (aOrd b B (O i)).1, (aOrd b B (O i)).2)) := rfl
      rw [ue] at he
      generalize (aOrd b B (O i)).1 = c at he t1 hr10
      have hF3 : mF2 (mj_up I0 452 44 (nI c)) (mj_up I2 452 44 (nI c)) := fun a q1 q2 => by
        by_cases e : a = 452
        · subst e
          funext f
          by_cases e2 : f = 44
          · rw [e2, mj_up_eq, mj_up_eq]
          · rw [mj_up_ne2 e2, mj_up_ne2 e2, t3 452 (by decide) (by decide), hF1 452 (by decide) (by decide), mj_up_ne2 e2]
        · rw [up_fI e, up_fI e, t3 a q1 q2, hF1 a q1 q2, up_fI e]
      have hR3 : rR (mj_up I2 452 44 (nI c) 464) (aOrd b B (O i)).2 := by rw [up_fI (by decide)]; exact t2
      have h44' : mj_up I2 452 44 (nI c) 452 44 = nI c := mj_up_eq
      refine q_putI (pc' := 76) dX11_orders_73 rfl fl_RX11_265 ⟨by omega, rfl⟩ rfl ?_
      generalize mj_up I2 452 44 (nI c) = I3 at hF3 hR3 h44' ⊢
      by_cases hc0 : c = 0
      · rw [if_pos hc0] at he
        have h440 : I3 452 44 = nI 0 := by rw [h44', hc0]
        rw [hc0] at hF3
        refine q_iload_n (pc' := 77) dX11_orders_76 rfl rfl (q_aload_n (pc' := 78) dX11_orders_77 rfl rfl (q_getIe (pc' := 81) dX11_orders_78 rfl fr_RX11_265 ⟨by omega, rfl⟩ rfl h440 (q_if_ne (pc' := 84) (pt := 88) dX11_orders_81 rfl rfl (fun h9 => absurd (rfl) h9) (fun _ => (q_iconst (pc' := 85) _ dX11_orders_84 rfl kk_iconst_1 (q_goto (pc' := 89) dX11_orders_85 rfl (q_cSi (pc' := 92) dX11_orders_89 rfl ml_RX11_255 ys_X11_truth (by decide) (rn_X11_truth (b := true)) rfl rfl (Nat.le_of_ble_eq_true rfl) (Nat.le_refl _) ?_)))))))
        refine q_iadd dX11_orders_92 rfl ?_
        refine q_top (y := nI (i + 1)) (nI_add i 1) ?_
        refine q_ist_1 (pc' := 94) dX11_orders_93 rfl (by decide) rfl (q_goto (pc' := 50) dX11_orders_94 rfl ?_)
        exact ih (i + 1) _ I3 (by omega) he hVn hR3 h440 hF3
      · rw [if_neg hc0] at he
        have hne : ¬ nI c = 0 := nI_ne (b := 0) hc0 (by omega) (by omega)
        refine q_iload_n (pc' := 77) dX11_orders_76 rfl rfl (q_aload_n (pc' := 78) dX11_orders_77 rfl rfl (q_getIe (pc' := 81) dX11_orders_78 rfl fr_RX11_265 ⟨by omega, rfl⟩ rfl h44' (q_if_ne (pc' := 84) (pt := 88) dX11_orders_81 rfl rfl (fun _ => (q_iconst (pc' := 89) _ dX11_orders_88 rfl kk_iconst_0 (q_cSi (pc' := 92) dX11_orders_89 rfl ml_RX11_255 ys_X11_truth (by decide) (rn_X11_truth (b := false)) rfl rfl (Nat.le_of_ble_eq_true rfl) (Nat.le_refl _) ?_))) (fun h9 => absurd h9 (hne)))))
        refine q_iadd dX11_orders_92 rfl ?_
        refine q_top (y := nI i) (nI_add i 0) ?_
        have e43'' : I3 452 43 = nI m := by rw [hF3 452 (by decide) (by decide), mj_up_ne2 (by decide)]; exact c43
        refine q_ist_1 (pc' := 94) dX11_orders_93 rfl (by decide) rfl (q_goto (pc' := 50) dX11_orders_94 rfl (q_iload_n (pc' := 51) dX11_orders_50 rfl rfl (q_aload_n (pc' := 52) dX11_orders_51 rfl rfl (q_getIe (pc' := 55) dX11_orders_52 rfl fr_RX11_442 ⟨by omega, rfl⟩ rfl e43'' (q_icmp_ge (pc' := 58) (pt := 97) dX11_orders_55 rfl rfl (fun h9 => absurd h9 (by (first | assumption | exact nI_le (by omega) (by omega) | exact nI_ge (by omega) (by omega) | exact nI_lt (by omega) (by omega) | exact nI_nlt (by omega) (by omega) | exact nI_ne (by omega) (by omega) (by omega) | exact nI_e (by omega) | decide))) (fun _ => (q_aload_n (pc' := 59) dX11_orders_58 rfl rfl (q_getIe (pc' := 62) dX11_orders_59 rfl fr_RX11_265 ⟨by omega, rfl⟩ rfl h44' (q_if_ne (pc' := 65) (pt := 97) dX11_orders_62 rfl rfl (fun _ => ?_) (fun h9 => absurd h9 (hne)))))))))))
        exact fin I3 i c _ he.symm (by omega) hR3 h44' hF3
  refine q_iconst (pc' := 49) _ dX11_orders_48 rfl kk_iconst_0 (q_ist_1 (pc' := 50) dX11_orders_49 rfl (by decide) rfl ?_)
  exact loop m 0 A I0 (by omega) rfl hA g3 c44 (fun a q1 q2 => by
    by_cases e : a = 452
    · subst e
      funext f
      by_cases e2 : f = 44
      · rw [e2, mj_up_eq]; exact c44
      · rw [mj_up_ne2 e2]
    · rw [up_fI e])
end M44
