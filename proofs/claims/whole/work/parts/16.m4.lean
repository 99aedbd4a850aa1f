/-! ===== the reference: what is written ===== -/
abbrev RsV (w : mj_Wd) (l : Launch) (y : MethodName) (d : mj_D) (As : List Value) (h : mj_H) (P : mj_M → Prop) : Prop := RtV w l y d As h (fun I' J' R' => (J' = h.2.2.1 ∧ R' = h.2.2.2) ∧ P I')
abbrev RsI (w : mj_Wd) (l : Launch) (y : MethodName) (d : mj_D) (As : List Value) (h : mj_H) (P : Int32 → mj_M → Prop) : Prop := RtI w l y d As h (fun x I' J' R' => (J' = h.2.2.1 ∧ R' = h.2.2.2) ∧ P x I')
section QS
variable {d : mj_D} {X : mj_X} {Q : Option Value → mj_H → Prop} {pc pc' : Nat} {L : List (Option Value)} {st st0 : List Value} {z : Nat} {I : mj_M} {J : mj_J} {R : mj_R}
theorem q_sVi {y : MethodName} {d' : mj_D} {idx a ci n : Nat} {As : List Value} {P : Int32 → mj_M → Prop} (hd : decode d.1 pc = .ok (.invokevirtual idx, 3)) (hp : pc + 3 = pc') (hm : Cond.methodLink d.2.1 idx y ∈ mj_T) (hy : mj_yV y d' ci n) (hlv : d'.2.2.2.2.1 < d.2.2.2.2.1) (hr : RsI X.1 X.2.2.1 y d' (.ref a :: As) (z, I, J, R) P) (ha : mj_ok z a ci) (hst : st0 = As.reverse ++ .ref a :: st) (hlen : As.length = n) (hw : (st.map fun v => v.category).sum ≤ 8) (hzf : z ≤ mj_zf X) (hn : ∀ x I', P x I' → Wq d X Q pc' L (.int x :: st) (z, I', J, R)) : Wq d X Q pc L st0 (z, I, J, R) :=
  q_tVi hd hp hm hy hlv hr ha hst hlen hw hzf (fun x I' J' R' ⟨⟨hJ, hR⟩, hP⟩ => by
    have hJ : J' = J := hJ
    have hR : R' = R := hR
    subst hJ; subst hR; exact hn x I' hP)
theorem q_sVv {y : MethodName} {d' : mj_D} {idx a ci n : Nat} {As : List Value} {P : mj_M → Prop} (hd : decode d.1 pc = .ok (.invokevirtual idx, 3)) (hp : pc + 3 = pc') (hm : Cond.methodLink d.2.1 idx y ∈ mj_T) (hy : mj_yV y d' ci n) (hlv : d'.2.2.2.2.1 < d.2.2.2.2.1) (hr : RsV X.1 X.2.2.1 y d' (.ref a :: As) (z, I, J, R) P) (ha : mj_ok z a ci) (hst : st0 = As.reverse ++ .ref a :: st) (hlen : As.length = n) (hw : (st.map fun v => v.category).sum ≤ 8) (hzf : z ≤ mj_zf X) (hn : ∀ I', P I' → Wq d X Q pc' L st (z, I', J, R)) : Wq d X Q pc L st0 (z, I, J, R) :=
  q_tVv hd hp hm hy hlv hr ha hst hlen hw hzf (fun I' J' R' ⟨⟨hJ, hR⟩, hP⟩ => by
    have hJ : J' = J := hJ
    have hR : R' = R := hR
    subst hJ; subst hR; exact hn I' hP)
end QS
/-- nothing but the row has changed -/
def mF (I I' : mj_M) : Prop := ∀ a, a ≠ 464 → I' a = I a
theorem mF.rf {I : mj_M} : mF I I := fun _ _ => rfl
theorem mF.tr {I I' I2 : mj_M} (h : mF I I') (h2 : mF I' I2) : mF I I2 := fun a ha => (h2 a ha).trans (h a ha)
theorem mF_up {I : mj_M} {j : Nat} {x : Int32} : mF I (mj_up I 464 j x) := fun a ha => by funext k; exact mj_up_ne ha
theorem mB_F {I I' : mj_M} {b : St} (h : mF I I') (hb : mB I b) : mB I' b := by
  unfold mB at hb ⊢
  rw [h 452 (by decide), h 457 (by decide), h 458 (by decide), h 459 (by decide)]
  exact hb
theorem up464 {I : mj_M} {j k : Nat} {x : Int32} : mj_up I 464 j x 464 k = if k = j then x else I 464 k := by
  unfold mj_up
  by_cases h : k = j
  · rw [if_pos ⟨rfl, h⟩, if_pos h]
  · rw [if_neg (fun q => h q.2), if_neg h]
/-- what a VECTOR is, and whose -/
def aSets (A : St) (p s o : Nat) : St := mj_up (mj_up A 0 p s) 1 p o
theorem rR_sets {I : mj_M} {A : St} {p s o : Nat} (hR : rR (I 464) A) (hp : p < 256) : rR ((mj_up (mj_up (mj_up I 464 p (nI s)) 464 (256 + p) (eD o)) 464 (512 + p) (eL o)) 464) (aSets A p s o) := by
  intro k hk
  have h1 := hR k hk
  unfold aSets
  rw [up464, up464, up464, cE_up1 hp, cE_up0 hp]
  repeat' split
  all_goals first | rfl | omega | exact h1
def aHolds (A : St) (id p : Nat) : St := mj_up (aSets A p 2 (id + 1)) 3 id (p + 1)
def aNoOld (A : St) (id : Nat) : St := mj_up (mj_up A 4 id 0) 5 id 0
def aLeaves (b A : St) (id p : Nat) : St := mj_up (aSets A p (if b 1 (id / 8) = 3 then 4 else 0) (if b 1 (id / 8) = 3 then id + 1 else 0)) 2 p 0
def aMerge (A : St) (d : Nat) : St := mj_up (mj_up A 11 d (A 11 d + 1)) 14 2 (A 14 2 + 1)
section M4
variable {w : mj_Wd} {l : Launch} {I : mj_M} {J : mj_J} {R : mj_R} {b A : St}
theorem rs_X11_sets {p v s d k : Nat} (hM : mj_wM R) (hR : rR (I 464) A) (hp : p < 8) (hv : v < 32) (hs : s < 5) (hd : d < 10) (hk : k < 8) : RsV w l yX11_sets dd_X11_sets [.ref 452, .int (nI p), .int (nI v), .int (nI s), .int (nI d), .int (nI k)] (472, I, J, R) (fun I' => mF I I' ∧ rR (I' 464) (aSets A (32 * p + v) s (if s = 0 then 0 else 8 * d + k + 1))) := by
  refine rt_intro2 (L := [some (.ref 452), some (.int (nI p)), some (.int (nI v)), some (.int (nI s)), some (.int (nI d)), some (.int (nI k)), none]) ⟨by decide, rfl, (fun h => by cases h)⟩ (Nat.le_of_ble_eq_true rfl) rfl (fun Y Q hQ => ?_)
  refine q_iload_n (pc' := 1) dX11_sets_0 rfl rfl (q_iload_n (pc' := 2) dX11_sets_1 rfl rfl (q_cSi (pc' := 5) dX11_sets_2 rfl ml_RX11_286 ys_X11_spot (by decide) (rn_X11_spot) rfl rfl (Nat.le_of_ble_eq_true rfl) (Nat.le_refl _) ?_))
  refine q_top (y := nI (32 * p + v)) (by (first | (simp only [nI_add, pk_mul]; done) | (simp only [nI_add, pk_mul]; exact nI_e (by omega)) | exact nI_e (by omega))) ?_
  have fin : ∀ o, rR ((mj_up (mj_up (mj_up I 464 (32 * p + v) (nI s)) 464 (256 + (32 * p + v)) (eD o)) 464 (512 + (32 * p + v)) (eL o)) 464) (aSets A (32 * p + v) s o) := fun o => rR_sets hR (by omega)
  refine q_ist_6 (pc' := 7) dX11_sets_5 rfl (by decide) rfl (q_aload_n (pc' := 8) dX11_sets_7 rfl rfl (q_getR (pc' := 11) dX11_sets_8 rfl fr_RX11_51 ⟨by omega, rfl⟩ rfl (wM_36 hM) (by decide) (q_iconst (pc' := 12) _ dX11_sets_11 rfl kk_iconst_0 (q_iload (pc' := 14) dX11_sets_12 rfl rfl (q_iadd (pc' := 15) dX11_sets_14 rfl (q_iload_n (pc' := 16) dX11_sets_15 rfl rfl (q_iast (pc' := 17) (32 * p + v) dX11_sets_16 rfl (by first | exact ⟨by omega, rfl⟩ | exact okaS hi hz (by decide) rfl | assumption) (by (first | (simp only [nI_add, pk_mul]; done) | (simp only [nI_add, pk_mul]; exact nI_e (by omega)) | exact nI_e (by omega))) (by omega) (q_aload_n (pc' := 18) dX11_sets_17 rfl rfl (q_getR (pc' := 21) dX11_sets_18 rfl fr_RX11_51 ⟨by omega, rfl⟩ rfl (wM_36 hM) (by decide) (q_sipush (pc' := 24) _ dX11_sets_21 rfl kk_sipush_256 (q_iload (pc' := 26) dX11_sets_24 rfl rfl (q_iadd (pc' := 27) dX11_sets_26 rfl (q_iload_n (pc' := 28) dX11_sets_27 rfl rfl ?_)))))))))))))
  refine q_if_ne (pc' := 31) (pt := 35) dX11_sets_28 rfl rfl (fun h1 => ?_) (fun h1 => ?_)
  · have h2 : s ≠ 0 := fun z => h1 (by rw [z]; rfl)
    rw [if_neg h2] at hQ
    exact q_iload (pc' := 37) dX11_sets_35 rfl rfl (q_iast (pc' := 38) (256 + (32 * p + v)) dX11_sets_37 rfl (by first | exact ⟨by omega, rfl⟩ | exact okaS hi hz (by decide) rfl | assumption) (by (first | (simp only [nI_add, pk_mul]; done) | (simp only [nI_add, pk_mul]; exact nI_e (by omega)) | exact nI_e (by omega))) (by omega) (q_aload_n (pc' := 39) dX11_sets_38 rfl rfl (q_getR (pc' := 42) dX11_sets_39 rfl fr_RX11_51 ⟨by omega, rfl⟩ rfl (wM_36 hM) (by decide) (q_sipush (pc' := 45) _ dX11_sets_42 rfl kk_sipush_512 (q_iload (pc' := 47) dX11_sets_45 rfl rfl (q_iadd (pc' := 48) dX11_sets_47 rfl (q_iload_n (pc' := 49) dX11_sets_48 rfl rfl (q_if_ne (pc' := 52) (pt := 56) dX11_sets_49 rfl rfl (fun _ => (q_iload (pc' := 58) dX11_sets_56 rfl rfl (q_iast (pc' := 59) (512 + (32 * p + v)) dX11_sets_58 rfl (by first | exact ⟨by omega, rfl⟩ | exact okaS hi hz (by decide) rfl | assumption) (by (first | (simp only [nI_add, pk_mul]; done) | (simp only [nI_add, pk_mul]; exact nI_e (by omega)) | exact nI_e (by omega))) (by omega) (q_vret dX11_sets_59 rfl (hQ _ _ _ _ ⟨rfl, ⟨rfl, rfl⟩, (mF_up.tr mF_up).tr mF_up, (by
      have := fin (8 * d + k + 1)
      rw [(eD_eq (x := 8 * d + k + 1) (by omega) hd).mpr (by omega), (eL_eq (x := 8 * d + k + 1) hk).mpr (by omega)] at this
      exact this)⟩))))) (fun h9 => absurd h9 (by (first | assumption | exact nI_le (by omega) (by omega) | exact nI_ge (by omega) (by omega) | exact nI_lt (by omega) (by omega) | exact nI_nlt (by omega) (by omega) | exact nI_ne (by omega) (by omega) (by omega) | exact nI_e (by omega) | decide)))))))))))
  · have h2 : s = 0 := (nI_eq (a := s) (b := 0) (by omega) (by omega)).mp h1
    rw [if_pos h2] at hQ
    exact q_iconst (pc' := 32) _ dX11_sets_31 rfl kk_iconst_m1 (q_goto (pc' := 37) dX11_sets_32 rfl (q_iast (pc' := 38) (256 + (32 * p + v)) dX11_sets_37 rfl (by first | exact ⟨by omega, rfl⟩ | exact okaS hi hz (by decide) rfl | assumption) (by (first | (simp only [nI_add, pk_mul]; done) | (simp only [nI_add, pk_mul]; exact nI_e (by omega)) | exact nI_e (by omega))) (by omega) (q_aload_n (pc' := 39) dX11_sets_38 rfl rfl (q_getR (pc' := 42) dX11_sets_39 rfl fr_RX11_51 ⟨by omega, rfl⟩ rfl (wM_36 hM) (by decide) (q_sipush (pc' := 45) _ dX11_sets_42 rfl kk_sipush_512 (q_iload (pc' := 47) dX11_sets_45 rfl rfl (q_iadd (pc' := 48) dX11_sets_47 rfl (q_iload_n (pc' := 49) dX11_sets_48 rfl rfl (q_if_ne (pc' := 52) (pt := 56) dX11_sets_49 rfl rfl (fun h9 => absurd (by (first | assumption | exact nI_le (by omega) (by omega) | exact nI_ge (by omega) (by omega) | exact nI_lt (by omega) (by omega) | exact nI_nlt (by omega) (by omega) | exact nI_ne (by omega) (by omega) (by omega) | exact nI_e (by omega) | decide)) h9) (fun _ => (q_iconst (pc' := 53) _ dX11_sets_52 rfl kk_iconst_m1 (q_goto (pc' := 58) dX11_sets_53 rfl (q_iast (pc' := 59) (512 + (32 * p + v)) dX11_sets_58 rfl (by first | exact ⟨by omega, rfl⟩ | exact okaS hi hz (by decide) rfl | assumption) (by (first | (simp only [nI_add, pk_mul]; done) | (simp only [nI_add, pk_mul]; exact nI_e (by omega)) | exact nI_e (by omega))) (by omega) (q_vret dX11_sets_59 rfl (hQ _ _ _ _ ⟨rfl, ⟨rfl, rfl⟩, (mF_up.tr mF_up).tr mF_up, fin 0⟩)))))))))))))))
theorem cEC {x : Nat} (h : x < 256) : eC (x + 1) = nI (x / 32) := by unfold eC; rw [if_neg (by omega)]; rfl
theorem cEV {x : Nat} (h : x < 256) : eV (x + 1) = nI (x % 32) := by unfold eV; rw [if_neg (by omega)]; rfl
theorem rR_held {I : mj_M} {A : St} {id x : Nat} (hR : rR (I 464) A) (hi : id < 80) : rR ((mj_up (mj_up I 464 (1024 + id) (eC x)) 464 (1104 + id) (eV x)) 464) (mj_up A 3 id x) := by
  intro k hk
  have h1 := hR k hk
  rw [up464, up464, cE_up3 hi]
  repeat' split
  all_goals first | rfl | omega | exact h1
theorem rR_noOld {I : mj_M} {A : St} {id : Nat} (hR : rR (I 464) A) (hi : id < 80) : rR ((mj_up (mj_up (mj_up I 464 (1184 + id) (-1)) 464 (1264 + id) (-1)) 464 (1344 + id) (nI 0)) 464) (aNoOld A id) := by
  intro k hk
  have h1 := hR k hk
  unfold aNoOld
  rw [up464, up464, up464, cE_up5 hi, cE_up4 hi]
  repeat' split
  all_goals first | rfl | omega | exact h1
theorem rs_X11_holds {p v d k : Nat} (hM : mj_wM R) (hR : rR (I 464) A) (hp : p < 8) (hv : v < 32) (hd : d < 10) (hk : k < 8) : RsV w l yX11_holds dd_X11_holds [.ref 452, .int (nI d), .int (nI k), .int (nI p), .int (nI v)] (472, I, J, R) (fun I' => mF I I' ∧ rR (I' 464) (aHolds A (8 * d + k) (32 * p + v))) := by
  refine rt_intro2 (L := [some (.ref 452), some (.int (nI d)), some (.int (nI k)), some (.int (nI p)), some (.int (nI v))]) ⟨by decide, rfl, (fun h => by cases h)⟩ (Nat.le_of_ble_eq_true rfl) rfl (fun Y Q hQ => ?_)
  refine q_aload_n (pc' := 1) dX11_holds_0 rfl rfl (q_iload_n (pc' := 2) dX11_holds_1 rfl rfl (q_iload (pc' := 4) dX11_holds_2 rfl rfl (q_iconst (pc' := 5) _ dX11_holds_4 rfl kk_iconst_2 (q_iload_n (pc' := 6) dX11_holds_5 rfl rfl (q_iload_n (pc' := 7) dX11_holds_6 rfl rfl (q_sVv (pc' := 10) dX11_holds_7 rfl ml_RX11_304 yv_X11_sets (by decide) (rs_X11_sets hM hR hp hv (by decide) hd hk) ⟨by omega, rfl⟩ rfl rfl (Nat.le_of_ble_eq_true rfl) (Nat.le_refl _) (fun I1 ⟨hF1, hR1⟩ => ?_)))))))
  have h2 := rR_held (x := 32 * p + v + 1) (id := 8 * d + k) hR1 (by omega)
  rw [cEC (by omega), cEV (by omega), show (32 * p + v) / 32 = p by omega, show (32 * p + v) % 32 = v by omega] at h2
  refine q_aload_n (pc' := 11) dX11_holds_10 rfl rfl (q_getR (pc' := 14) dX11_holds_11 rfl fr_RX11_51 ⟨by omega, rfl⟩ rfl (wM_36 hM) (by decide) (q_sipush (pc' := 17) _ dX11_holds_14 rfl kk_sipush_1024 (q_iload_n (pc' := 18) dX11_holds_17 rfl rfl (q_iload_n (pc' := 19) dX11_holds_18 rfl rfl (q_cSi (pc' := 22) dX11_holds_19 rfl ml_RX11_308 ys_X11_lineAt (by decide) (rn_X11_lineAt) rfl rfl (Nat.le_of_ble_eq_true rfl) (Nat.le_refl _) (q_iadd (pc' := 23) dX11_holds_22 rfl (q_iload_n (pc' := 24) dX11_holds_23 rfl rfl (q_iast (pc' := 25) (1024 + (8 * d + k)) dX11_holds_24 rfl (by first | exact ⟨by omega, rfl⟩ | exact okaS hi hz (by decide) rfl | assumption) (by (first | (simp only [nI_add, pk_mul]; done) | (simp only [nI_add, pk_mul]; exact nI_e (by omega)) | exact nI_e (by omega))) (by omega) (q_aload_n (pc' := 26) dX11_holds_25 rfl rfl (q_getR (pc' := 29) dX11_holds_26 rfl fr_RX11_51 ⟨by omega, rfl⟩ rfl (wM_36 hM) (by decide) (q_sipush (pc' := 32) _ dX11_holds_29 rfl kk_sipush_1104 (q_iload_n (pc' := 33) dX11_holds_32 rfl rfl (q_iload_n (pc' := 34) dX11_holds_33 rfl rfl ?_)))))))))))))
  exact q_cSi (pc' := 37) dX11_holds_34 rfl ml_RX11_308 ys_X11_lineAt (by decide) (rn_X11_lineAt) rfl rfl (Nat.le_of_ble_eq_true rfl) (Nat.le_refl _) (q_iadd (pc' := 38) dX11_holds_37 rfl (q_iload (pc' := 40) dX11_holds_38 rfl rfl (q_iast (pc' := 41) (1104 + (8 * d + k)) dX11_holds_40 rfl (by first | exact ⟨by omega, rfl⟩ | exact okaS hi hz (by decide) rfl | assumption) (by (first | (simp only [nI_add, pk_mul]; done) | (simp only [nI_add, pk_mul]; exact nI_e (by omega)) | exact nI_e (by omega))) (by omega) (q_vret dX11_holds_41 rfl (hQ _ _ _ _ ⟨rfl, ⟨rfl, rfl⟩, (hF1.tr mF_up).tr mF_up, h2⟩)))))
theorem rs_X11_noOld {d k : Nat} (hM : mj_wM R) (hR : rR (I 464) A) (hd : d < 10) (hk : k < 8) : RsV w l yX11_noOld dd_X11_noOld [.ref 452, .int (nI d), .int (nI k)] (472, I, J, R) (fun I' => mF I I' ∧ rR (I' 464) (aNoOld A (8 * d + k))) := by
  refine rt_intro2 (L := [some (.ref 452), some (.int (nI d)), some (.int (nI k))]) ⟨by decide, rfl, (fun h => by cases h)⟩ (Nat.le_of_ble_eq_true rfl) rfl (fun Y Q hQ => ?_)
  refine q_aload_n (pc' := 1) dX11_noOld_0 rfl rfl (q_getR (pc' := 4) dX11_noOld_1 rfl fr_RX11_51 ⟨by omega, rfl⟩ rfl (wM_36 hM) (by decide) (q_sipush (pc' := 7) _ dX11_noOld_4 rfl kk_sipush_1184 (q_iload_n (pc' := 8) dX11_noOld_7 rfl rfl (q_iload_n (pc' := 9) dX11_noOld_8 rfl rfl (q_cSi (pc' := 12) dX11_noOld_9 rfl ml_RX11_308 ys_X11_lineAt (by decide) (rn_X11_lineAt) rfl rfl (Nat.le_of_ble_eq_true rfl) (Nat.le_refl _) (q_iadd (pc' := 13) dX11_noOld_12 rfl (q_iconst (pc' := 14) _ dX11_noOld_13 rfl kk_iconst_m1 (q_iast (pc' := 15) (1184 + (8 * d + k)) dX11_noOld_14 rfl (by first | exact ⟨by omega, rfl⟩ | exact okaS hi hz (by decide) rfl | assumption) (by (first | (simp only [nI_add, pk_mul]; done) | (simp only [nI_add, pk_mul]; exact nI_e (by omega)) | exact nI_e (by omega))) (by omega) (q_aload_n (pc' := 16) dX11_noOld_15 rfl rfl (q_getR (pc' := 19) dX11_noOld_16 rfl fr_RX11_51 ⟨by omega, rfl⟩ rfl (wM_36 hM) (by decide) (q_sipush (pc' := 22) _ dX11_noOld_19 rfl kk_sipush_1264 (q_iload_n (pc' := 23) dX11_noOld_22 rfl rfl (q_iload_n (pc' := 24) dX11_noOld_23 rfl rfl ?_)))))))))))))
  exact q_cSi (pc' := 27) dX11_noOld_24 rfl ml_RX11_308 ys_X11_lineAt (by decide) (rn_X11_lineAt) rfl rfl (Nat.le_of_ble_eq_true rfl) (Nat.le_refl _) (q_iadd (pc' := 28) dX11_noOld_27 rfl (q_iconst (pc' := 29) _ dX11_noOld_28 rfl kk_iconst_m1 (q_iast (pc' := 30) (1264 + (8 * d + k)) dX11_noOld_29 rfl (by first | exact ⟨by omega, rfl⟩ | exact okaS hi hz (by decide) rfl | assumption) (by (first | (simp only [nI_add, pk_mul]; done) | (simp only [nI_add, pk_mul]; exact nI_e (by omega)) | exact nI_e (by omega))) (by omega) (q_aload_n (pc' := 31) dX11_noOld_30 rfl rfl (q_getR (pc' := 34) dX11_noOld_31 rfl fr_RX11_51 ⟨by omega, rfl⟩ rfl (wM_36 hM) (by decide) (q_sipush (pc' := 37) _ dX11_noOld_34 rfl kk_sipush_1344 (q_iload_n (pc' := 38) dX11_noOld_37 rfl rfl (q_iload_n (pc' := 39) dX11_noOld_38 rfl rfl (q_cSi (pc' := 42) dX11_noOld_39 rfl ml_RX11_308 ys_X11_lineAt (by decide) (rn_X11_lineAt) rfl rfl (Nat.le_of_ble_eq_true rfl) (Nat.le_refl _) (q_iadd (pc' := 43) dX11_noOld_42 rfl (q_iconst (pc' := 44) _ dX11_noOld_43 rfl kk_iconst_0 (q_iast (pc' := 45) (1344 + (8 * d + k)) dX11_noOld_44 rfl (by first | exact ⟨by omega, rfl⟩ | exact okaS hi hz (by decide) rfl | assumption) (by (first | (simp only [nI_add, pk_mul]; done) | (simp only [nI_add, pk_mul]; exact nI_e (by omega)) | exact nI_e (by omega))) (by omega) (q_vret dX11_noOld_45 rfl (hQ _ _ _ _ ⟨rfl, ⟨rfl, rfl⟩, (mF_up.tr mF_up).tr mF_up, rR_noOld hR (by omega)⟩))))))))))))))
theorem rR_pd {I : mj_M} {A : St} {p x : Nat} (hR : rR (I 464) A) (hi : p < 256) : rR ((mj_up I 464 (768 + p) (nI x)) 464) (mj_up A 2 p x) := by
  intro k hk
  have h1 := hR k hk
  rw [up464, cE_up2 hi]
  repeat' split
  all_goals first | rfl | omega | exact h1
theorem rs_X11_leaves {p v d k : Nat} (hM : mj_wM R) (hb : mB I b) (hk : bOK b) (hR : rR (I 464) A) (hp : p < 8) (hv : v < 32) (hd : d < b 0 2) (hl : k < 8) : RsV w l yX11_leaves dd_X11_leaves [.ref 452, .int (nI d), .int (nI k), .int (nI p), .int (nI v)] (472, I, J, R) (fun I' => mF I I' ∧ rR (I' 464) (aLeaves b A (8 * d + k) (32 * p + v))) := by
  have h10 : d < 10 := by have := hk.2.2.1; omega
  have h6 := (hk.2.2.2 d hd).1
  refine rt_intro2 (L := [some (.ref 452), some (.int (nI d)), some (.int (nI k)), some (.int (nI p)), some (.int (nI v))]) ⟨by decide, rfl, (fun h => by cases h)⟩ (Nat.le_of_ble_eq_true rfl) rfl (fun Y Q hQ => ?_)
  have e8 : (8 * d + k) / 8 = d := by omega
  refine q_aload_n (pc' := 1) dX11_leaves_0 rfl rfl (q_iload_n (pc' := 2) dX11_leaves_1 rfl rfl (q_iload (pc' := 4) dX11_leaves_2 rfl rfl (q_aload_n (pc' := 5) dX11_leaves_4 rfl rfl (q_getR (pc' := 8) dX11_leaves_5 rfl fr_RX11_29 ⟨by omega, rfl⟩ rfl (wM_29 hM) (by decide) (q_iload_n (pc' := 9) dX11_leaves_8 rfl rfl (q_ialde (pc' := 10) _ dX11_leaves_9 rfl (by first | exact ⟨by omega, rfl⟩ | exact okaS hi hz (by decide) rfl | assumption) rfl (by omega) (hb.2.2.2 d hd).1 (q_iconst (pc' := 11) _ dX11_leaves_10 rfl kk_iconst_3 (q_icmp_ne (pc' := 14) (pt := 18) dX11_leaves_11 rfl rfl (fun h1 => ?_) (fun h1 => ?_)))))))))
  · have h2 : ¬ b 1 d = 3 := fun z => h1 (nI_e z)
    unfold aLeaves at hQ
    rw [e8, if_neg h2, if_neg h2] at hQ
    refine q_iconst (pc' := 19) _ dX11_leaves_18 rfl kk_iconst_0 (q_iload_n (pc' := 20) dX11_leaves_19 rfl rfl (q_iload_n (pc' := 21) dX11_leaves_20 rfl rfl (q_sVv (pc' := 24) dX11_leaves_21 rfl ml_RX11_304 yv_X11_sets (by decide) (rs_X11_sets hM hR hp hv (by decide) h10 hl) ⟨by omega, rfl⟩ rfl rfl (Nat.le_of_ble_eq_true rfl) (Nat.le_refl _) (fun I1 ⟨hF1, hR1⟩ => ?_))))
    exact q_aload_n (pc' := 25) dX11_leaves_24 rfl rfl (q_getR (pc' := 28) dX11_leaves_25 rfl fr_RX11_51 ⟨by omega, rfl⟩ rfl (wM_36 hM) (by decide) (q_sipush (pc' := 31) _ dX11_leaves_28 rfl kk_sipush_768 (q_iload_n (pc' := 32) dX11_leaves_31 rfl rfl (q_iload (pc' := 34) dX11_leaves_32 rfl rfl (q_cSi (pc' := 37) dX11_leaves_34 rfl ml_RX11_286 ys_X11_spot (by decide) (rn_X11_spot) rfl rfl (Nat.le_of_ble_eq_true rfl) (Nat.le_refl _) (q_iadd (pc' := 38) dX11_leaves_37 rfl (q_iconst (pc' := 39) _ dX11_leaves_38 rfl kk_iconst_0 (q_iast (pc' := 40) (768 + (32 * p + v)) dX11_leaves_39 rfl (by first | exact ⟨by omega, rfl⟩ | exact okaS hi hz (by decide) rfl | assumption) (by (first | (simp only [nI_add, pk_mul]; done) | (simp only [nI_add, pk_mul]; exact nI_e (by omega)) | exact nI_e (by omega))) (by omega) (q_vret dX11_leaves_40 rfl (hQ _ _ _ _ ⟨rfl, ⟨rfl, rfl⟩, hF1.tr mF_up, rR_pd hR1 (by omega)⟩))))))))))
  · have h2 : b 1 d = 3 := (nI_eq (by omega) (by omega)).mp h1
    unfold aLeaves at hQ
    rw [e8, if_pos h2, if_pos h2] at hQ
    refine q_iconst (pc' := 15) _ dX11_leaves_14 rfl kk_iconst_4 (q_goto (pc' := 19) dX11_leaves_15 rfl (q_iload_n (pc' := 20) dX11_leaves_19 rfl rfl (q_iload_n (pc' := 21) dX11_leaves_20 rfl rfl (q_sVv (pc' := 24) dX11_leaves_21 rfl ml_RX11_304 yv_X11_sets (by decide) (rs_X11_sets hM hR hp hv (by decide) h10 hl) ⟨by omega, rfl⟩ rfl rfl (Nat.le_of_ble_eq_true rfl) (Nat.le_refl _) (fun I1 ⟨hF1, hR1⟩ => ?_)))))
    exact q_aload_n (pc' := 25) dX11_leaves_24 rfl rfl (q_getR (pc' := 28) dX11_leaves_25 rfl fr_RX11_51 ⟨by omega, rfl⟩ rfl (wM_36 hM) (by decide) (q_sipush (pc' := 31) _ dX11_leaves_28 rfl kk_sipush_768 (q_iload_n (pc' := 32) dX11_leaves_31 rfl rfl (q_iload (pc' := 34) dX11_leaves_32 rfl rfl (q_cSi (pc' := 37) dX11_leaves_34 rfl ml_RX11_286 ys_X11_spot (by decide) (rn_X11_spot) rfl rfl (Nat.le_of_ble_eq_true rfl) (Nat.le_refl _) (q_iadd (pc' := 38) dX11_leaves_37 rfl (q_iconst (pc' := 39) _ dX11_leaves_38 rfl kk_iconst_0 (q_iast (pc' := 40) (768 + (32 * p + v)) dX11_leaves_39 rfl (by first | exact ⟨by omega, rfl⟩ | exact okaS hi hz (by decide) rfl | assumption) (by (first | (simp only [nI_add, pk_mul]; done) | (simp only [nI_add, pk_mul]; exact nI_e (by omega)) | exact nI_e (by omega))) (by omega) (q_vret dX11_leaves_40 rfl (hQ _ _ _ _ ⟨rfl, ⟨rfl, rfl⟩, hF1.tr mF_up, rR_pd hR1 (by omega)⟩))))))))))
theorem rR_merge {I : mj_M} {A : St} {d : Nat} (hR : rR (I 464) A) (hd : d < 10) : rR ((mj_up (mj_up I 464 (1534 + d) (nI (A 11 d + 1))) 464 1572 (nI (A 14 2 + 1))) 464) (aMerge A d) := by
  intro k hk
  have h1 := hR k hk
  unfold aMerge
  rw [up464, up464, cE_up14 (by decide), cE_up11 hd]
  repeat' split
  all_goals first | rfl | omega | exact h1
theorem rs_X11_merges {d : Nat} (hM : mj_wM R) (hR : rR (I 464) A) (hd : d < 10) : RsV w l yX11_merges dd_X11_merges [.ref 452, .int (nI d)] (472, I, J, R) (fun I' => mF I I' ∧ rR (I' 464) (aMerge A d)) := by
  refine rt_intro2 (L := [some (.ref 452), some (.int (nI d))]) ⟨by decide, rfl, (fun h => by cases h)⟩ (Nat.le_of_ble_eq_true rfl) rfl (fun Y Q hQ => ?_)
  have e1 : I 464 (1534 + d) = nI (A 11 d) := (hR _ (by omega)).trans (cE_me hd)
  have e2 : mj_up I 464 (1534 + d) (nI (A 11 d + 1)) 464 1572 = nI (A 14 2) := by
    rw [up464, if_neg (by omega)]
    exact (hR 1572 (by omega)).trans (cE_sc (k := 2) (by omega))
  refine q_aload_n (pc' := 1) dX11_merges_0 rfl rfl (q_getR (pc' := 4) dX11_merges_1 rfl fr_RX11_51 ⟨by omega, rfl⟩ rfl (wM_36 hM) (by decide) (q_sipush (pc' := 7) _ dX11_merges_4 rfl kk_sipush_1534 (q_iload_n (pc' := 8) dX11_merges_7 rfl rfl (q_iadd (pc' := 9) dX11_merges_8 rfl (q_dup2 (pc' := 10) dX11_merges_9 rfl (q_ialde (pc' := 11) (1534 + d) dX11_merges_10 rfl (by first | exact ⟨by omega, rfl⟩ | exact okaS hi hz (by decide) rfl | assumption) (by (first | (simp only [nI_add, pk_mul]; done) | (simp only [nI_add, pk_mul]; exact nI_e (by omega)) | exact nI_e (by omega))) (by omega) e1 (q_iconst (pc' := 12) _ dX11_merges_11 rfl kk_iconst_1 (q_iadd (pc' := 13) dX11_merges_12 rfl ?_))))))))
  refine q_top (nI_add _ _) ?_
  refine q_iast (pc' := 14) (1534 + d) dX11_merges_13 rfl (by first | exact ⟨by omega, rfl⟩ | exact okaS hi hz (by decide) rfl | assumption) (by (first | (simp only [nI_add, pk_mul]; done) | (simp only [nI_add, pk_mul]; exact nI_e (by omega)) | exact nI_e (by omega))) (by omega) (q_aload_n (pc' := 15) dX11_merges_14 rfl rfl (q_getR (pc' := 18) dX11_merges_15 rfl fr_RX11_51 ⟨by omega, rfl⟩ rfl (wM_36 hM) (by decide) (q_sipush (pc' := 21) _ dX11_merges_18 rfl kk_sipush_1572 (q_dup2 (pc' := 22) dX11_merges_21 rfl (q_ialde (pc' := 23) _ dX11_merges_22 rfl (by first | exact ⟨by omega, rfl⟩ | exact okaS hi hz (by decide) rfl | assumption) rfl (by omega) e2 (q_iconst (pc' := 24) _ dX11_merges_23 rfl kk_iconst_1 (q_iadd (pc' := 25) dX11_merges_24 rfl ?_)))))))
  refine q_top (nI_add _ _) ?_
  exact q_iast (pc' := 26) _ dX11_merges_25 rfl (by first | exact ⟨by omega, rfl⟩ | exact okaS hi hz (by decide) rfl | assumption) rfl (by omega) (q_vret dX11_merges_26 rfl (hQ _ _ _ _ ⟨rfl, ⟨rfl, rfl⟩, mF_up.tr mF_up, rR_merge hR hd⟩))
/-- a message at a VECTOR -/
def aPends (A : St) (d p : Nat) : St := if A 2 p = 1 then aMerge A d else mj_up A 2 p 1
theorem rs_X11_pends {d p v : Nat} (hM : mj_wM R) (hR : rR (I 464) A) (hA : aOK A) (hd : d < 10) (hp : p < 8) (hv : v < 32) : RsI w l yX11_pends dd_X11_pends [.ref 452, .int (nI d), .int (nI p), .int (nI v)] (472, I, J, R) (fun x I' => x = nI (1 - A 2 (32 * p + v)) ∧ mF I I' ∧ rR (I' 464) (aPends A d (32 * p + v))) := by
  have h6 := (hA.1 (32 * p + v) (by omega)).2.2
  refine rt_intro2 (L := [some (.ref 452), some (.int (nI d)), some (.int (nI p)), some (.int (nI v)), none]) ⟨by decide, rfl, (fun h => by cases h)⟩ (Nat.le_of_ble_eq_true rfl) rfl (fun Y Q hQ => ?_)
  unfold aPends at hQ
  refine q_sipush (pc' := 3) _ dX11_pends_0 rfl kk_sipush_768 (q_iload_n (pc' := 4) dX11_pends_3 rfl rfl (q_iload_n (pc' := 5) dX11_pends_4 rfl rfl (q_cSi (pc' := 8) dX11_pends_5 rfl ml_RX11_286 ys_X11_spot (by decide) (rn_X11_spot) rfl rfl (Nat.le_of_ble_eq_true rfl) (Nat.le_refl _) (q_iadd (pc' := 9) dX11_pends_8 rfl ?_))))
  refine q_top (y := nI (768 + (32 * p + v))) (by (first | (simp only [nI_add, pk_mul]; done) | (simp only [nI_add, pk_mul]; exact nI_e (by omega)) | exact nI_e (by omega))) ?_
  refine q_ist_4 (pc' := 11) dX11_pends_9 rfl (by decide) rfl (q_aload_n (pc' := 12) dX11_pends_11 rfl rfl (q_getR (pc' := 15) dX11_pends_12 rfl fr_RX11_51 ⟨by omega, rfl⟩ rfl (wM_36 hM) (by decide) (q_iload (pc' := 17) dX11_pends_15 rfl rfl (q_ialde (pc' := 18) _ dX11_pends_17 rfl (by first | exact ⟨by omega, rfl⟩ | exact okaS hi hz (by decide) rfl | assumption) rfl (by omega) ((hR _ (by omega)).trans (cE_pd (by omega))) (q_iconst (pc' := 19) _ dX11_pends_18 rfl kk_iconst_1 (q_icmp_ne (pc' := 22) (pt := 29) dX11_pends_19 rfl rfl (fun h1 => ?_) (fun h1 => ?_)))))))
  · have h2 : A 2 (32 * p + v) = 0 := by
      have : A 2 (32 * p + v) ≠ 1 := fun z => h1 (nI_e z)
      omega
    rw [h2, if_neg (by decide)] at hQ
    exact q_aload_n (pc' := 30) dX11_pends_29 rfl rfl (q_getR (pc' := 33) dX11_pends_30 rfl fr_RX11_51 ⟨by omega, rfl⟩ rfl (wM_36 hM) (by decide) (q_iload (pc' := 35) dX11_pends_33 rfl rfl (q_iconst (pc' := 36) _ dX11_pends_35 rfl kk_iconst_1 (q_iast (pc' := 37) _ dX11_pends_36 rfl (by first | exact ⟨by omega, rfl⟩ | exact okaS hi hz (by decide) rfl | assumption) rfl (by omega) (q_iconst (pc' := 38) _ dX11_pends_37 rfl kk_iconst_1 (q_iret dX11_pends_38 rfl (hQ _ _ _ _ ⟨_, rfl, ⟨rfl, rfl⟩, rfl, mF_up, rR_pd hR (by omega)⟩)))))))
  · have h2 : A 2 (32 * p + v) = 1 := (nI_eq (by omega) (by omega)).mp h1
    rw [h2, if_pos rfl] at hQ
    refine q_aload_n (pc' := 23) dX11_pends_22 rfl rfl (q_iload_n (pc' := 24) dX11_pends_23 rfl rfl (q_sVv (pc' := 27) dX11_pends_24 rfl ml_RX11_311 yv_X11_merges (by decide) (rs_X11_merges hM hR hd) ⟨by omega, rfl⟩ rfl rfl (Nat.le_of_ble_eq_true rfl) (Nat.le_refl _) (fun I1 ⟨hF1, hR1⟩ => ?_)))
    exact q_iconst (pc' := 28) _ dX11_pends_27 rfl kk_iconst_0 (q_iret dX11_pends_28 rfl (hQ _ _ _ _ ⟨_, rfl, ⟨rfl, rfl⟩, rfl, hF1, hR1⟩))
end M4
