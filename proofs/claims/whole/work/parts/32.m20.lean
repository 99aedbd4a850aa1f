/-! ===== the reference: storm, without ===== -/
theorem mT.rf {I : mj_M} : mT I I := fun _ _ _ _ => rfl
theorem mT.tr {I I' I2 : mj_M} (h : mT I I') (h2 : mT I' I2) : mT I I2 := fun a h1 h3 h4 => (h2 a h1 h3 h4).trans (h a h1 h3 h4)
theorem mF.t {I I' : mj_M} (h : mF I I') : mT I I' := fun a h1 _ _ => h a h1
theorem mF2.t {I I' : mj_M} (h : mF2 I I') : mT I I' := fun a h1 h2 _ => h a h1 h2
theorem mB_T {I I' : mj_M} {b : St} (h : mT I I') (hb : mB I b) : mB I' b := by
  unfold mB at hb ⊢
  rw [h 452 (by decide) (by decide) (by decide), h 457 (by decide) (by decide) (by decide), h 458 (by decide) (by decide) (by decide), h 459 (by decide) (by decide) (by decide)]
  exact hb
/-- storm(seed, n, j) -/
def qStorm (b A : St) (seed n : Nat) : Nat → Int32
  | 0 => nI ((aSto b A seed n).2.2 14 1) - nI (A 14 1)
  | 1 => nI ((aSto b A seed n).2.2 14 2) - nI (A 14 2)
  | 2 => nI (aSto b A seed n).2.1
  | _ => nI (aUnh b (aSto b A seed n).2.2)
section M20
variable {w : mj_Wd} {l : Launch} {I : mj_M} {J : mj_J} {R : mj_R} {b A W0 : St} {ps : Nat → St} {n u : Nat} {h : mj_H} {U : St → Prop}
theorem rn_X11_storm0 {x y z : Int32} (hx : (inN x 10000 && (inN y 501 && inN z 4)) = false) : Rn w l yX11_storm dd_X11_storm [.ref 452, .int x, .int y, .int z] (472, I, J, R) (some (.int (-1))) (472, I, J, R) := by
  refine rn_intro2 (L := [some (.ref 452), some (.int x), some (.int y), some (.int z), none, none, none, none, none, none]) ⟨by decide, rfl, (fun h => by cases h)⟩ (Nat.le_refl _) (Nat.le_of_ble_eq_true rfl) rfl (fun Y Q hQ => ?_)
  refine q_iload_n (pc' := 1) dX11_storm_0 rfl rfl (q_iconst (pc' := 2) _ dX11_storm_1 rfl kk_iconst_0 (q_sipush (pc' := 5) _ dX11_storm_2 rfl kk_sipush_9999 (q_cSi (pc' := 8) dX11_storm_5 rfl ml_RX11_89 ys_X11_isIn (by decide) (rn_isInN 9999) rfl rfl (Nat.le_of_ble_eq_true rfl) (Nat.le_refl _) (q_ifb_eq (pc' := 11) (pt := 31) dX11_storm_8 rfl rfl (fun h1 => ?_) (fun h1 => ?_)))))
  · exact q_iconst (pc' := 32) _ dX11_storm_31 rfl kk_iconst_m1 (q_iret dX11_storm_32 rfl hQ)
  · rw [show inN x 10000 = true from h1, Bool.true_and] at hx
    refine q_iload_n (pc' := 12) dX11_storm_11 rfl rfl (q_iconst (pc' := 13) _ dX11_storm_12 rfl kk_iconst_0 (q_sipush (pc' := 16) _ dX11_storm_13 rfl kk_sipush_500 (q_cSi (pc' := 19) dX11_storm_16 rfl ml_RX11_89 ys_X11_isIn (by decide) (rn_isInN 500) rfl rfl (Nat.le_of_ble_eq_true rfl) (Nat.le_refl _) (q_ifb_eq (pc' := 22) (pt := 31) dX11_storm_19 rfl rfl (fun h2 => ?_) (fun h2 => ?_)))))
    · exact q_iconst (pc' := 32) _ dX11_storm_31 rfl kk_iconst_m1 (q_iret dX11_storm_32 rfl hQ)
    · rw [show inN y 501 = true from h2, Bool.true_and] at hx
      exact q_iload_n (pc' := 23) dX11_storm_22 rfl rfl (q_iconst (pc' := 24) _ dX11_storm_23 rfl kk_iconst_0 (q_iconst (pc' := 25) _ dX11_storm_24 rfl kk_iconst_3 (q_cSi (pc' := 28) dX11_storm_25 rfl ml_RX11_89 ys_X11_isIn (by decide) (rn_isInN 3) rfl rfl (Nat.le_of_ble_eq_true rfl) (Nat.le_refl _) (q_ifb_ne (pc' := 31) (pt := 33) dX11_storm_28 rfl rfl (fun h9 => Bool.noConfusion (Eq.trans (Eq.symm (hx)) h9)) (fun _ => (q_iconst (pc' := 32) _ dX11_storm_31 rfl kk_iconst_m1 (q_iret dX11_storm_32 rfl hQ)))))))
theorem stS_e {s : Nat} (hs : s < 10007) : nI (137 * s + 71) - nI (137 * s + 71) / nI 10007 * nI 10007 = nI (stS s) := pk_rem (a := 137 * s + 71) (d := 10007) (by omega) (by decide) (by decide)
theorem rs_X11_storm {seed m j : Nat} (hM : mj_wM R) (hb : mB I b) (hk : bOK b) (hU : sCl b U) (hA : U A) (hR : rR (I 464) A) (hs : seed < 10000) (hm : m < 501) (hj : j < 4) : RsI w l yX11_storm dd_X11_storm [.ref 452, .int (nI seed), .int (nI m), .int (nI j)] (472, I, J, R) (fun x I' => x = qStorm b A seed m j ∧ rR (I' 464) A ∧ mT I I') := by
  have h10 := hk.2.2.1
  have hs7 : seed < 10007 := by omega
  have hao := (hU _ hA).1.1
  have hmany := aStL_le (A := A) hk (b 0 2) (Nat.le_refl _)
  refine rt_intro2 (L := [some (.ref 452), some (.int (nI seed)), some (.int (nI m)), some (.int (nI j)), none, none, none, none, none, none]) ⟨by decide, rfl, (fun h => by cases h)⟩ (Nat.le_of_ble_eq_true rfl) rfl (fun Y Q hQ => ?_)
  have g1 : mT I (mj_cp I 469 1775 (I 464)) := fun a _ _ h4 => cp_ne h4
  have g3 : rR ((mj_cp I 469 1775 (I 464)) 464) A := by rw [cp_ne (by decide)]; exact hR
  have g4 : rR ((mj_cp I 469 1775 (I 464)) 469) A := rR_cong (fun k hk9 => cp_in hk9) hR
  refine q_iload_n (pc' := 1) dX11_storm_0 rfl rfl (q_iconst (pc' := 2) _ dX11_storm_1 rfl kk_iconst_0 (q_sipush (pc' := 5) _ dX11_storm_2 rfl kk_sipush_9999 (q_cSi (pc' := 8) dX11_storm_5 rfl ml_RX11_89 ys_X11_isIn (by decide) (rn_isInN 9999) rfl rfl (Nat.le_of_ble_eq_true rfl) (Nat.le_refl _) (q_ifb_eq (pc' := 11) (pt := 31) dX11_storm_8 rfl rfl (fun h9 => Bool.noConfusion (Eq.trans (Eq.symm (inN_t (by decide) hs)) h9)) (fun _ => (q_iload_n (pc' := 12) dX11_storm_11 rfl rfl (q_iconst (pc' := 13) _ dX11_storm_12 rfl kk_iconst_0 (q_sipush (pc' := 16) _ dX11_storm_13 rfl kk_sipush_500 (q_cSi (pc' := 19) dX11_storm_16 rfl ml_RX11_89 ys_X11_isIn (by decide) (rn_isInN 500) rfl rfl (Nat.le_of_ble_eq_true rfl) (Nat.le_refl _) (q_ifb_eq (pc' := 22) (pt := 31) dX11_storm_19 rfl rfl (fun h9 => Bool.noConfusion (Eq.trans (Eq.symm (inN_t (by decide) hm)) h9)) (fun _ => (q_iload_n (pc' := 23) dX11_storm_22 rfl rfl (q_iconst (pc' := 24) _ dX11_storm_23 rfl kk_iconst_0 (q_iconst (pc' := 25) _ dX11_storm_24 rfl kk_iconst_3 (q_cSi (pc' := 28) dX11_storm_25 rfl ml_RX11_89 ys_X11_isIn (by decide) (rn_isInN 3) rfl rfl (Nat.le_of_ble_eq_true rfl) (Nat.le_refl _) ?_)))))))))))))))
  refine q_ifb_ne (pc' := 31) (pt := 33) dX11_storm_28 rfl rfl (fun _ => (q_aload_n (pc' := 34) dX11_storm_33 rfl rfl (q_cVv (pc' := 37) dX11_storm_34 rfl ml_RX11_484 yv_X11_triesNow (by decide) (rn_X11_triesNow hM) ⟨by omega, rfl⟩ rfl rfl (Nat.le_of_ble_eq_true rfl) (Nat.le_refl _) ?_))) (fun h9 => Bool.noConfusion (Eq.trans (Eq.symm (inN_t (by decide) hj)) h9))
  generalize mj_cp I 469 1775 (I 464) = I1 at g1 g3 g4 ⊢
  have hb1 := mB_T g1 hb
  refine q_iload_n (pc' := 38) dX11_storm_37 rfl rfl (q_ist_4 (pc' := 40) dX11_storm_38 rfl (by decide) rfl (q_iconst (pc' := 41) _ dX11_storm_40 rfl kk_iconst_0 (q_ist_5 (pc' := 43) dX11_storm_41 rfl (by decide) rfl (q_aload_n (pc' := 44) dX11_storm_43 rfl rfl (q_cVi (pc' := 47) dX11_storm_44 rfl ml_RX11_490 yv_X11_startedLines (by decide) (rn_X11_startedLines hM hb1 hk g3 hao) ⟨by omega, rfl⟩ rfl rfl (Nat.le_of_ble_eq_true rfl) (Nat.le_refl _) (q_ist_6 (pc' := 49) dX11_storm_47 rfl (by decide) rfl (q_iconst (pc' := 50) _ dX11_storm_49 rfl kk_iconst_0 (q_ist_7 (pc' := 52) dX11_storm_50 rfl (by decide) rfl ?_))))))))
  have loop : ∀ x k I0, k + x = m → mF I1 I0 → rR (I0 464) (aSto b A seed k).2.2 → Wq dd_X11_storm (mj_mk w l 472 Y) Q 52 [some (.ref 452), some (.int (nI seed)), some (.int (nI m)), some (.int (nI j)), some (.int (nI (aSto b A seed k).1)), some (.int (nI (aSto b A seed k).2.1)), some (.int (nI (aStL b A (b 0 2)))), some (.int (nI k)), none, none] [] (472, I0, J, R) := by
    intro x
    induction x with
    | zero =>
      intro k I0 hkm hF0 hR0
      have hkz : k = m := by omega
      subst hkz
      have hb0 := mB_F hF0 hb1
      have hok := aSto_ok hk hU hA hs7 k
      have e1 : I0 464 1571 = nI ((aSto b A seed k).2.2 14 1) := (hR0 1571 (by decide)).trans (cE_sc (k := 1) (by decide))
      have e2 : I0 469 1571 = nI (A 14 1) := by rw [hF0 469 (by decide)]; exact (g4 1571 (by decide)).trans (cE_sc (k := 1) (by decide))
      have e3 : I0 464 1572 = nI ((aSto b A seed k).2.2 14 2) := (hR0 1572 (by decide)).trans (cE_sc (k := 2) (by decide))
      have e4 : I0 469 1572 = nI (A 14 2) := by rw [hF0 469 (by decide)]; exact (g4 1572 (by decide)).trans (cE_sc (k := 2) (by decide))
      have r1 : rR ((mj_cp I0 464 1775 (I0 469)) 464) A := rR_cong (fun k hk9 => cp_in hk9) (by rw [hF0 469 (by decide)]; exact g4)
      have r2 : mT I (mj_cp I0 464 1775 (I0 469)) := (g1.tr hF0.t).tr (fun a h1 _ _ => cp_ne h1)
      refine q_iload (pc' := 54) dX11_storm_52 rfl rfl (q_iload_n (pc' := 55) dX11_storm_54 rfl rfl (q_icmp_ge (pc' := 58) (pt := 133) dX11_storm_55 rfl rfl (fun _ => (q_aload_n (pc' := 134) dX11_storm_133 rfl rfl (q_getR (pc' := 137) dX11_storm_134 rfl fr_RX11_51 ⟨by omega, rfl⟩ rfl (wM_36 hM) (by decide) (q_sipush (pc' := 140) _ dX11_storm_137 rfl kk_sipush_1571 (q_ialde (pc' := 141) _ dX11_storm_140 rfl (by first | exact ⟨by omega, rfl⟩ | exact okaS hi hz (by decide) rfl | assumption) rfl (by omega) e1 (q_aload_n (pc' := 142) dX11_storm_141 rfl rfl (q_getR (pc' := 145) dX11_storm_142 rfl fr_RX11_66 ⟨by omega, rfl⟩ rfl (wM_48 hM) (by decide) (q_sipush (pc' := 148) _ dX11_storm_145 rfl kk_sipush_1571 (q_ialde (pc' := 149) _ dX11_storm_148 rfl (by first | exact ⟨by omega, rfl⟩ | exact okaS hi hz (by decide) rfl | assumption) rfl (by omega) e2 (q_isub (pc' := 150) dX11_storm_149 rfl (q_ist_7 (pc' := 152) dX11_storm_150 rfl (by decide) rfl (q_aload_n (pc' := 153) dX11_storm_152 rfl rfl ?_)))))))))))) (fun h9 => absurd (by (first | assumption | exact nI_le (by omega) (by omega) | exact nI_ge (by omega) (by omega) | exact nI_lt (by omega) (by omega) | exact nI_nlt (by omega) (by omega) | exact nI_ne (by omega) (by omega) (by omega) | exact nI_e (by omega) | decide)) h9)))
      refine q_getR (pc' := 156) dX11_storm_153 rfl fr_RX11_51 ⟨by omega, rfl⟩ rfl (wM_36 hM) (by decide) (q_sipush (pc' := 159) _ dX11_storm_156 rfl kk_sipush_1572 (q_ialde (pc' := 160) _ dX11_storm_159 rfl (by first | exact ⟨by omega, rfl⟩ | exact okaS hi hz (by decide) rfl | assumption) rfl (by omega) e3 (q_aload_n (pc' := 161) dX11_storm_160 rfl rfl (q_getR (pc' := 164) dX11_storm_161 rfl fr_RX11_66 ⟨by omega, rfl⟩ rfl (wM_48 hM) (by decide) (q_sipush (pc' := 167) _ dX11_storm_164 rfl kk_sipush_1572 (q_ialde (pc' := 168) _ dX11_storm_167 rfl (by first | exact ⟨by omega, rfl⟩ | exact okaS hi hz (by decide) rfl | assumption) rfl (by omega) e4 (q_isub (pc' := 169) dX11_storm_168 rfl (q_ist_8 (pc' := 171) dX11_storm_169 rfl (by decide) rfl (q_aload_n (pc' := 172) dX11_storm_171 rfl rfl (q_cVi (pc' := 175) dX11_storm_172 rfl ml_RX11_496 yv_X11_allPending (by decide) (rn_X11_allPending hM hb0 hk hR0) ⟨by omega, rfl⟩ rfl rfl (Nat.le_of_ble_eq_true rfl) (Nat.le_refl _) (q_ist_9 (pc' := 177) dX11_storm_175 rfl (by decide) rfl (q_aload_n (pc' := 178) dX11_storm_177 rfl rfl (q_cVv (pc' := 181) dX11_storm_178 rfl ml_RX11_487 yv_X11_endsTry (by decide) (rn_X11_endsTry hM) ⟨by omega, rfl⟩ rfl rfl (Nat.le_of_ble_eq_true rfl) (Nat.le_refl _) ?_)))))))))))))
      have hc : j = 0 ∨ j = 1 ∨ j = 2 ∨ j = 3 := by omega
      rcases hc with rfl | rfl | rfl | rfl
      · exact q_iload_n (pc' := 182) dX11_storm_181 rfl rfl (q_if_ne (pc' := 185) (pt := 190) dX11_storm_182 rfl rfl (fun h9 => absurd (by decide) h9) (fun _ => (q_iload (pc' := 187) dX11_storm_185 rfl rfl (q_goto (pc' := 212) dX11_storm_187 rfl (q_iret dX11_storm_212 rfl (hQ _ _ _ _ ⟨_, rfl, ⟨rfl, rfl⟩, rfl, r1, r2⟩))))))
      · exact q_iload_n (pc' := 182) dX11_storm_181 rfl rfl (q_if_ne (pc' := 185) (pt := 190) dX11_storm_182 rfl rfl (fun _ => (q_iload_n (pc' := 191) dX11_storm_190 rfl rfl (q_iconst (pc' := 192) _ dX11_storm_191 rfl kk_iconst_1 (q_icmp_ne (pc' := 195) (pt := 200) dX11_storm_192 rfl rfl (fun h9 => absurd (by decide) h9) (fun _ => (q_iload (pc' := 197) dX11_storm_195 rfl rfl (q_goto (pc' := 212) dX11_storm_197 rfl (q_iret dX11_storm_212 rfl (hQ _ _ _ _ ⟨_, rfl, ⟨rfl, rfl⟩, rfl, r1, r2⟩))))))))) (fun h9 => absurd h9 (by decide)))
      · exact q_iload_n (pc' := 182) dX11_storm_181 rfl rfl (q_if_ne (pc' := 185) (pt := 190) dX11_storm_182 rfl rfl (fun _ => (q_iload_n (pc' := 191) dX11_storm_190 rfl rfl (q_iconst (pc' := 192) _ dX11_storm_191 rfl kk_iconst_1 (q_icmp_ne (pc' := 195) (pt := 200) dX11_storm_192 rfl rfl (fun _ => (q_iload_n (pc' := 201) dX11_storm_200 rfl rfl (q_iconst (pc' := 202) _ dX11_storm_201 rfl kk_iconst_2 (q_icmp_ne (pc' := 205) (pt := 210) dX11_storm_202 rfl rfl (fun h9 => absurd (by decide) h9) (fun _ => (q_iload (pc' := 207) dX11_storm_205 rfl rfl (q_goto (pc' := 212) dX11_storm_207 rfl (q_iret dX11_storm_212 rfl (hQ _ _ _ _ ⟨_, rfl, ⟨rfl, rfl⟩, rfl, r1, r2⟩))))))))) (fun h9 => absurd h9 (by decide)))))) (fun h9 => absurd h9 (by decide)))
      · exact q_iload_n (pc' := 182) dX11_storm_181 rfl rfl (q_if_ne (pc' := 185) (pt := 190) dX11_storm_182 rfl rfl (fun _ => (q_iload_n (pc' := 191) dX11_storm_190 rfl rfl (q_iconst (pc' := 192) _ dX11_storm_191 rfl kk_iconst_1 (q_icmp_ne (pc' := 195) (pt := 200) dX11_storm_192 rfl rfl (fun _ => (q_iload_n (pc' := 201) dX11_storm_200 rfl rfl (q_iconst (pc' := 202) _ dX11_storm_201 rfl kk_iconst_2 (q_icmp_ne (pc' := 205) (pt := 210) dX11_storm_202 rfl rfl (fun _ => (q_iload (pc' := 212) dX11_storm_210 rfl rfl (q_iret dX11_storm_212 rfl (hQ _ _ _ _ ⟨_, rfl, ⟨rfl, rfl⟩, rfl, r1, r2⟩)))) (fun h9 => absurd h9 (by decide)))))) (fun h9 => absurd h9 (by decide)))))) (fun h9 => absurd h9 (by decide)))
    | succ x ih =>
      intro k I0 hkm hF0 hR0
      have hb0 := mB_F hF0 hb1
      have hok := aSto_ok hk hU hA hs7 k
      have hs9 := hok.2.1
      have hok0 := (hU _ hok.1).1
      have tail : ∀ I2 s B, aSto b A seed (k + 1) = (s, max (aSto b A seed k).2.1 (aUnh b B), B) → U B → mF I1 I2 → rR (I2 464) B → Wq dd_X11_storm (mj_mk w l 472 Y) Q 116 [some (.ref 452), some (.int (nI seed)), some (.int (nI m)), some (.int (nI j)), some (.int (nI s)), some (.int (nI (aSto b A seed k).2.1)), some (.int (nI (aStL b A (b 0 2)))), some (.int (nI k)), none, none] [] (472, I2, J, R) := by
        intro I2 s B he hB hF2 hR2
        have hu := aUnh_le hk (hU _ hB).1.1
        have next := ih (k + 1) I2 (by omega) hF2 (by rw [he]; exact hR2)
        rw [he] at next
        have h336 := hok.2.2
        refine q_iload (pc' := 118) dX11_storm_116 rfl rfl (q_aload_n (pc' := 119) dX11_storm_118 rfl rfl (q_cVi (pc' := 122) dX11_storm_119 rfl ml_RX11_496 yv_X11_allPending (by decide) (rn_X11_allPending hM (mB_F hF2 hb1) hk hR2) ⟨by omega, rfl⟩ rfl rfl (Nat.le_of_ble_eq_true rfl) (Nat.le_refl _) (q_cSi (pc' := 125) dX11_storm_122 rfl ml_RX11_466 ys_X11_greater (by decide) (rn_X11_greater) rfl rfl (Nat.le_of_ble_eq_true rfl) (Nat.le_refl _) ?_)))
        refine q_top (nI_max (by omega) (by omega)) ?_
        refine q_ist_5 (pc' := 127) dX11_storm_125 rfl (by decide) rfl (q_inc_7 (pc' := 130) dX11_storm_127 rfl (by decide) rfl (q_goto (pc' := 52) dX11_storm_130 rfl ?_))
        exact next
      refine q_iload (pc' := 54) dX11_storm_52 rfl rfl (q_iload_n (pc' := 55) dX11_storm_54 rfl rfl (q_icmp_ge (pc' := 58) (pt := 133) dX11_storm_55 rfl rfl (fun h9 => absurd h9 (by (first | assumption | exact nI_le (by omega) (by omega) | exact nI_ge (by omega) (by omega) | exact nI_lt (by omega) (by omega) | exact nI_nlt (by omega) (by omega) | exact nI_ne (by omega) (by omega) (by omega) | exact nI_e (by omega) | decide))) (fun _ => (q_sipush (pc' := 61) _ dX11_storm_58 rfl kk_sipush_137 (q_iload (pc' := 63) dX11_storm_61 rfl rfl (q_imul (pc' := 64) dX11_storm_63 rfl (q_bipush (pc' := 66) _ dX11_storm_64 rfl kk_bipush_71 (q_iadd (pc' := 67) dX11_storm_66 rfl ?_))))))))
      refine q_top (y := nI (137 * (aSto b A seed k).1 + 71)) (by rw [pk_mul, nI_add]) ?_
      refine q_sipush (pc' := 70) _ dX11_storm_67 rfl kk_sipush_10007 (q_irem (pc' := 71) dX11_storm_70 rfl (by decide) ?_)
      refine q_top (stS_e hs9) ?_
      refine q_ist_4 (pc' := 73) dX11_storm_71 rfl (by decide) rfl (q_iload (pc' := 75) dX11_storm_73 rfl rfl (q_iconst (pc' := 76) _ dX11_storm_75 rfl kk_iconst_4 (q_irem (pc' := 77) dX11_storm_76 rfl (by decide) ?_)))
      refine q_top (pk_rem (a := stS (aSto b A seed k).1) (d := 4) (by have := stS_lt (aSto b A seed k).1; omega) (by decide) (by decide)) ?_
      by_cases h4 : stS (aSto b A seed k).1 % 4 = 0
      · rw [h4]
        refine q_if_ne (pc' := 80) (pt := 87) dX11_storm_77 rfl rfl (fun h9 => absurd (rfl) h9) (fun _ => (q_aload_n (pc' := 81) dX11_storm_80 rfl rfl (q_sVv (pc' := 84) dX11_storm_81 rfl ml_RX11_427 yv_X11_ticks (by decide) (rs_X11_ticks hM hb0 hk hR0 hok0.1 hok0.2) ⟨by omega, rfl⟩ rfl rfl (Nat.le_of_ble_eq_true rfl) (Nat.le_refl _) (fun I4 ⟨hF4, hR4⟩ => ?_))))
        refine q_goto (pc' := 116) dX11_storm_84 rfl ?_
        exact tail I4 _ _ (by rw [aSto, if_pos h4]) (hU _ hok.1).2.1 (hF0.tr hF4) hR4
      · have hs2 := stS_lt (aSto b A seed k).1
        refine q_if_ne (pc' := 80) (pt := 87) dX11_storm_77 rfl rfl (fun _ => (q_sipush (pc' := 90) _ dX11_storm_87 rfl kk_sipush_137 (q_iload (pc' := 92) dX11_storm_90 rfl rfl (q_imul (pc' := 93) dX11_storm_92 rfl (q_bipush (pc' := 95) _ dX11_storm_93 rfl kk_bipush_71 (q_iadd (pc' := 96) dX11_storm_95 rfl ?_)))))) (fun h9 => absurd h9 (nI_ne (b := 0) h4 (by omega) (by omega)))
        refine q_top (y := nI (137 * stS (aSto b A seed k).1 + 71)) (by rw [pk_mul, nI_add]) ?_
        refine q_sipush (pc' := 99) _ dX11_storm_96 rfl kk_sipush_10007 (q_irem (pc' := 100) dX11_storm_99 rfl (by decide) ?_)
        refine q_top (stS_e hs2) ?_
        by_cases h5 : 0 < aStL b A (b 0 2)
        · have hs3 := stS_lt (stS (aSto b A seed k).1)
          have hs4 := Nat.mod_le (stS (stS (aSto b A seed k).1)) (aStL b A (b 0 2))
          refine q_ist_4 (pc' := 102) dX11_storm_100 rfl (by decide) rfl (q_iload (pc' := 104) dX11_storm_102 rfl rfl (q_if_le (pc' := 107) (pt := 116) dX11_storm_104 rfl rfl (fun h9 => absurd h9 (Int32.not_le.mpr (nI_lt (a := 0) h5 (by omega)))) (fun _ => (q_aload_n (pc' := 108) dX11_storm_107 rfl rfl (q_iload (pc' := 110) dX11_storm_108 rfl rfl (q_iload (pc' := 112) dX11_storm_110 rfl rfl (q_irem (pc' := 113) dX11_storm_112 rfl (nI_ne0 (by omega) (by omega)) ?_)))))))
          refine q_top (pk_rem (a := stS (stS (aSto b A seed k).1)) (d := aStL b A (b 0 2)) (by omega) (by omega) (by omega)) ?_
          refine q_sVv (pc' := 116) dX11_storm_113 rfl ml_RX11_493 yv_X11_raisesAt (by decide) (rs_X11_raisesAt hM hb0 hk hU hok.1 hR0 (by omega)) ⟨by omega, rfl⟩ rfl rfl (Nat.le_of_ble_eq_true rfl) (Nat.le_refl _) (fun I4 ⟨hR4, hF4⟩ => ?_)
          exact tail I4 _ _ (by rw [aSto, if_neg h4, if_pos h5]; rfl) (aRa_ok hU hok.1 _ (Nat.le_refl _)).1 (hF0.tr hF4) hR4
        · have h6 : aStL b A (b 0 2) = 0 := by omega
          refine q_ist_4 (pc' := 102) dX11_storm_100 rfl (by decide) rfl (q_iload (pc' := 104) dX11_storm_102 rfl rfl (q_if_le (pc' := 107) (pt := 116) dX11_storm_104 rfl rfl (fun _ => ?_) (fun h9 => absurd (by rw [h6]; decide) h9)))
          exact tail I0 _ _ (by rw [aSto, if_neg h4, if_neg h5]) hok.1 hF0 hR0
  exact loop m 0 I1 (by omega) mF.rf g3
theorem rn_X11_without0 {x y : Int32} (hb : mB I b) (hx : (inN x (b 0 0) && inN y 2) = false) : Rn w l yX11_without dd_X11_without [.ref 452, .int x, .int y] (472, I, J, R) (some (.int (-1))) (472, I, J, R) := by
  refine rn_intro2 (L := [some (.ref 452), some (.int x), some (.int y), none, none, none]) ⟨by decide, rfl, (fun h => by cases h)⟩ (Nat.le_refl _) (Nat.le_of_ble_eq_true rfl) rfl (fun Y Q hQ => ?_)
  refine q_aload_n (pc' := 1) dX11_without_0 rfl rfl (q_iload_n (pc' := 2) dX11_without_1 rfl rfl (q_cVi (pc' := 5) dX11_without_2 rfl ml_RX11_433 yv_X11_isCpu (by decide) (rn_X11_isCpu hb) ⟨by omega, rfl⟩ rfl rfl (Nat.le_of_ble_eq_true rfl) (Nat.le_refl _) (q_ifb_eq (pc' := 8) (pt := 17) dX11_without_5 rfl rfl (fun h1 => ?_) (fun h1 => ?_))))
  · exact q_iconst (pc' := 18) _ dX11_without_17 rfl kk_iconst_m1 (q_iret dX11_without_18 rfl hQ)
  · rw [h1, Bool.true_and] at hx
    exact q_iload_n (pc' := 9) dX11_without_8 rfl rfl (q_iconst (pc' := 10) _ dX11_without_9 rfl kk_iconst_0 (q_iconst (pc' := 11) _ dX11_without_10 rfl kk_iconst_1 (q_cSi (pc' := 14) dX11_without_11 rfl ml_RX11_89 ys_X11_isIn (by decide) (rn_isInN 1) rfl rfl (Nat.le_of_ble_eq_true rfl) (Nat.le_refl _) (q_ifb_ne (pc' := 17) (pt := 19) dX11_without_14 rfl rfl (fun h9 => Bool.noConfusion (Eq.trans (Eq.symm (hx)) h9)) (fun _ => (q_iconst (pc' := 18) _ dX11_without_17 rfl kk_iconst_m1 (q_iret dX11_without_18 rfl hQ)))))))
/-- without(CPU, j) -/
def qWithout (b A : St) (p : Nat) : Nat → Nat
  | 0 => (aUnplug b A p).1
  | _ => cntN (fun k => decide (¬ eC ((aUnplug b A p).2 3 k) = eC (A 3 k))) 80
theorem rs_X11_without {p j : Nat} (hM : mj_wM R) (hb : mB I b) (hk : bOK b) (hR : rR (I 464) A) (hA : aOK A) (hU : uCl b p U) (hA0 : A 9 p = 1 → U (mj_up A 9 p 0)) (hp : p < b 0 0) (hj : j < 2) : RsI w l yX11_without dd_X11_without [.ref 452, .int (nI p), .int (nI j)] (472, I, J, R) (fun x I' => x = nI (qWithout b A p j) ∧ rR (I' 464) A ∧ mT I I') := by
  have hc8 := hk.1.2
  refine rt_intro2 (L := [some (.ref 452), some (.int (nI p)), some (.int (nI j)), none, none, none]) ⟨by decide, rfl, (fun h => by cases h)⟩ (Nat.le_of_ble_eq_true rfl) rfl (fun Y Q hQ => ?_)
  have g1 : mT I (mj_cp I 469 1775 (I 464)) := fun a _ _ h4 => cp_ne h4
  have g3 : rR ((mj_cp I 469 1775 (I 464)) 464) A := by rw [cp_ne (by decide)]; exact hR
  have g4 : rR ((mj_cp I 469 1775 (I 464)) 469) A := rR_cong (fun k hk9 => cp_in hk9) hR
  refine q_aload_n (pc' := 1) dX11_without_0 rfl rfl (q_iload_n (pc' := 2) dX11_without_1 rfl rfl (q_cVi (pc' := 5) dX11_without_2 rfl ml_RX11_433 yv_X11_isCpu (by decide) (rn_X11_isCpu hb) ⟨by omega, rfl⟩ rfl rfl (Nat.le_of_ble_eq_true rfl) (Nat.le_refl _) (q_ifb_eq (pc' := 8) (pt := 17) dX11_without_5 rfl rfl (fun h9 => Bool.noConfusion (Eq.trans (Eq.symm (inN_t (by omega) hp)) h9)) (fun _ => (q_iload_n (pc' := 9) dX11_without_8 rfl rfl (q_iconst (pc' := 10) _ dX11_without_9 rfl kk_iconst_0 (q_iconst (pc' := 11) _ dX11_without_10 rfl kk_iconst_1 (q_cSi (pc' := 14) dX11_without_11 rfl ml_RX11_89 ys_X11_isIn (by decide) (rn_isInN 1) rfl rfl (Nat.le_of_ble_eq_true rfl) (Nat.le_refl _) (q_ifb_ne (pc' := 17) (pt := 19) dX11_without_14 rfl rfl (fun _ => (q_aload_n (pc' := 20) dX11_without_19 rfl rfl (q_cVv (pc' := 23) dX11_without_20 rfl ml_RX11_484 yv_X11_triesNow (by decide) (rn_X11_triesNow hM) ⟨by omega, rfl⟩ rfl rfl (Nat.le_of_ble_eq_true rfl) (Nat.le_refl _) ?_))) (fun h9 => Bool.noConfusion (Eq.trans (Eq.symm (inN_t (by decide) hj)) h9)))))))))))
  generalize mj_cp I 469 1775 (I 464) = I1 at g1 g3 g4 ⊢
  refine q_aload_n (pc' := 24) dX11_without_23 rfl rfl (q_iload_n (pc' := 25) dX11_without_24 rfl rfl (q_sVi (pc' := 28) dX11_without_25 rfl ml_RX11_436 yv_X11_unplugs (by decide) (rs_X11_unplugs hM (mB_T g1 hb) hk g3 hA hU hA0 hp) ⟨by omega, rfl⟩ rfl rfl (Nat.le_of_ble_eq_true rfl) (Nat.le_refl _) (fun x2 I2 ⟨t1, t2, t3⟩ => ?_)))
  rw [t1]
  have g5 : rR (I2 469) A := by rw [t3 469 (by decide) (by decide)]; exact g4
  have r1 : rR ((mj_cp I2 464 1775 (I2 469)) 464) A := rR_cong (fun k hk9 => cp_in hk9) g5
  have r2 : mT I (mj_cp I2 464 1775 (I2 469)) := (g1.tr t3.t).tr (fun a h1 _ _ => cp_ne h1)
  refine q_ist_3 (pc' := 29) dX11_without_28 rfl (by decide) rfl (q_iconst (pc' := 30) _ dX11_without_29 rfl kk_iconst_0 (q_ist_4 (pc' := 32) dX11_without_30 rfl (by decide) rfl (q_iconst (pc' := 33) _ dX11_without_32 rfl kk_iconst_0 (q_ist_5 (pc' := 35) dX11_without_33 rfl (by decide) rfl ?_))))
  have loop : ∀ m k, k + m = 80 → Wq dd_X11_without (mj_mk w l 472 Y) Q 35 [some (.ref 452), some (.int (nI p)), some (.int (nI j)), some (.int (nI (aUnplug b A p).1)), some (.int (nI (cntN (fun k => decide (¬ eC ((aUnplug b A p).2 3 k) = eC (A 3 k))) k))), some (.int (nI k))] [] (472, I2, J, R) := by
    intro m
    induction m with
    | zero =>
      intro k hkm
      have hkz : k = 80 := by omega
      subst hkz
      have hc : j = 0 ∨ j = 1 := by omega
      rcases hc with rfl | rfl
      · exact q_iload (pc' := 37) dX11_without_35 rfl rfl (q_bipush (pc' := 39) _ dX11_without_37 rfl kk_bipush_80 (q_icmp_ge (pc' := 42) (pt := 86) dX11_without_39 rfl rfl (fun _ => (q_aload_n (pc' := 87) dX11_without_86 rfl rfl (q_cVv (pc' := 90) dX11_without_87 rfl ml_RX11_487 yv_X11_endsTry (by decide) (rn_X11_endsTry hM) ⟨by omega, rfl⟩ rfl rfl (Nat.le_of_ble_eq_true rfl) (Nat.le_refl _) (q_iload_n (pc' := 91) dX11_without_90 rfl rfl (q_if_ne (pc' := 94) (pt := 98) dX11_without_91 rfl rfl (fun h9 => absurd (by decide) h9) (fun _ => (q_iload_n (pc' := 95) dX11_without_94 rfl rfl (q_goto (pc' := 100) dX11_without_95 rfl (q_iret dX11_without_100 rfl (hQ _ _ _ _ ⟨_, rfl, ⟨rfl, rfl⟩, rfl, r1, r2⟩)))))))))) (fun h9 => absurd (by (first | assumption | exact nI_le (by omega) (by omega) | exact nI_ge (by omega) (by omega) | exact nI_lt (by omega) (by omega) | exact nI_nlt (by omega) (by omega) | exact nI_ne (by omega) (by omega) (by omega) | exact nI_e (by omega) | decide)) h9)))
      · exact q_iload (pc' := 37) dX11_without_35 rfl rfl (q_bipush (pc' := 39) _ dX11_without_37 rfl kk_bipush_80 (q_icmp_ge (pc' := 42) (pt := 86) dX11_without_39 rfl rfl (fun _ => (q_aload_n (pc' := 87) dX11_without_86 rfl rfl (q_cVv (pc' := 90) dX11_without_87 rfl ml_RX11_487 yv_X11_endsTry (by decide) (rn_X11_endsTry hM) ⟨by omega, rfl⟩ rfl rfl (Nat.le_of_ble_eq_true rfl) (Nat.le_refl _) (q_iload_n (pc' := 91) dX11_without_90 rfl rfl (q_if_ne (pc' := 94) (pt := 98) dX11_without_91 rfl rfl (fun _ => (q_iload (pc' := 100) dX11_without_98 rfl rfl (q_iret dX11_without_100 rfl (hQ _ _ _ _ ⟨_, rfl, ⟨rfl, rfl⟩, rfl, r1, r2⟩)))) (fun h9 => absurd h9 (by decide))))))) (fun h9 => absurd (by (first | assumption | exact nI_le (by omega) (by omega) | exact nI_ge (by omega) (by omega) | exact nI_lt (by omega) (by omega) | exact nI_nlt (by omega) (by omega) | exact nI_ne (by omega) (by omega) (by omega) | exact nI_e (by omega) | decide)) h9)))
    | succ m ih =>
      intro k hkm
      have e1 : I2 464 (1024 + k) = eC ((aUnplug b A p).2 3 k) := (t2 _ (by omega)).trans (cE_hc (by omega))
      have e2 : I2 469 (1024 + k) = eC (A 3 k) := (g5 _ (by omega)).trans (cE_hc (by omega))
      refine q_iload (pc' := 37) dX11_without_35 rfl rfl (q_bipush (pc' := 39) _ dX11_without_37 rfl kk_bipush_80 (q_icmp_ge (pc' := 42) (pt := 86) dX11_without_39 rfl rfl (fun h9 => absurd h9 (by (first | assumption | exact nI_le (by omega) (by omega) | exact nI_ge (by omega) (by omega) | exact nI_lt (by omega) (by omega) | exact nI_nlt (by omega) (by omega) | exact nI_ne (by omega) (by omega) (by omega) | exact nI_e (by omega) | decide))) (fun _ => (q_iload (pc' := 44) dX11_without_42 rfl rfl (q_aload_n (pc' := 45) dX11_without_44 rfl rfl (q_getR (pc' := 48) dX11_without_45 rfl fr_RX11_51 ⟨by omega, rfl⟩ rfl (wM_36 hM) (by decide) (q_sipush (pc' := 51) _ dX11_without_48 rfl kk_sipush_1024 (q_iload (pc' := 53) dX11_without_51 rfl rfl (q_iadd (pc' := 54) dX11_without_53 rfl (q_ialde (pc' := 55) (1024 + k) dX11_without_54 rfl (by first | exact ⟨by omega, rfl⟩ | exact okaS hi hz (by decide) rfl | assumption) (by (first | (simp only [nI_add, pk_mul]; done) | (simp only [nI_add, pk_mul]; exact nI_e (by omega)) | exact nI_e (by omega))) (by omega) e1 (q_aload_n (pc' := 56) dX11_without_55 rfl rfl (q_getR (pc' := 59) dX11_without_56 rfl fr_RX11_66 ⟨by omega, rfl⟩ rfl (wM_48 hM) (by decide) (q_sipush (pc' := 62) _ dX11_without_59 rfl kk_sipush_1024 (q_iload (pc' := 64) dX11_without_62 rfl rfl ?_))))))))))))))
      refine q_iadd (pc' := 65) dX11_without_64 rfl (q_ialde (pc' := 66) (1024 + k) dX11_without_65 rfl (by first | exact ⟨by omega, rfl⟩ | exact okaS hi hz (by decide) rfl | assumption) (by (first | (simp only [nI_add, pk_mul]; done) | (simp only [nI_add, pk_mul]; exact nI_e (by omega)) | exact nI_e (by omega))) (by omega) e2 (q_bl_icmp_eq (p4 := 74) dX11_without_66 dX11_without_69 dX11_without_70 dX11_without_73 rfl rfl rfl rfl rfl (q_cSi (pc' := 77) dX11_without_74 rfl ml_RX11_255 ys_X11_truth (by decide) (rn_X11_truth) rfl rfl (Nat.le_of_ble_eq_true rfl) (Nat.le_refl _) (q_iadd (pc' := 78) dX11_without_77 rfl ?_))))
      refine q_top (nI_cnt (fun k => decide (¬ eC ((aUnplug b A p).2 3 k) = eC (A 3 k))) k) ?_
      refine q_ist_4 (pc' := 80) dX11_without_78 rfl (by decide) rfl (q_inc_5 (pc' := 83) dX11_without_80 rfl (by decide) rfl (q_goto (pc' := 35) dX11_without_83 rfl ?_))
      exact ih (k + 1) (by omega)
  exact loop 80 0 (by omega)
end M20
