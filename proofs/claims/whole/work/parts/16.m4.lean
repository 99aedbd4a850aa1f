/-! ===== the reference: what is written ===== -/
abbrev RsV (w : mj_Wd) (l : Launch) (y : MethodName) (d : mj_D) (As : List Value) (h : mj_H) (P : mj_M → Prop) : Prop := RtV w l y d As h (fun I' J' R' => (J' = h.2.2.1 ∧ R' = h.2.2.2) ∧ P I')
abbrev RsI (w : mj_Wd) (l : Launch) (y : MethodName) (d : mj_D) (As : List Value) (h : mj_H) (P : Int32 → mj_M → Prop) : Prop := RtI w l y d As h (fun x I' J' R' => (J' = h.2.2.1 ∧ R' = h.2.2.2) ∧ P x I')
section QS
variable {d : mj_D} {X : mj_X} {Q : Option Value → mj_H → Prop} {pc pc' : Nat} {L : List (Option Value)} {st st0 : List Value} {z : Nat} {I : mj_M} {J : mj_J} {R : mj_R}
theorem q_sVi {y : MethodName} {d' : mj_D} {idx a ci n : Nat} {As : List Value} {P : Int32 → mj_M → Prop} (hd : decode d.1 pc = .ok (.invokevirtual idx, 3)) (hp : pc + 3 = pc') (hm : Cond.methodLink d.2.1 idx y ∈ mj_T) (hy : mj_yV y d' ci n) (hlv : d'.2.2.2.2.1 < d.2.2.2.2.1) (hr : RsI X.1 X.2.2.1 y d' (.ref a :: As) (z, I, J, R) P) (ha : mj_ok z a ci) (hst : st0 = As.reverse ++ .ref a :: st) (hlen : As.length = n) (hw : (st.map fun v => v.category).sum ≤ 8) (hzf : z ≤ mj_zf X) (hn : ∀ x I', P x I' → Wq d X Q pc' L (.int x :: st) (z, I', J, R)) : Wq d X Q pc L st0 (z, I, J, R) :=
  q_tVi hd hp hm hy hlv hr ha hst hlen hw hzf (fun x I' J' R' ⟨⟨hJ, hR⟩, hP⟩ => by
    have hJ : J' = J := hJ
    have hR : R' = R := hR
    subst hJ; subst hR; exact hn x I' hP)
theorem q_sVv {y : MethodName} {d' : mj_D} {idx a ci n : Nat} {As : List Value} {P : mj_M → Prop} (hd : decode d.1 pc = .ok (.invokevirtual idx, 3)) (hp : pc + 3 = pc') (hm : Cond.methodLink d.2.1 idx y ∈ mj_T) (hy : mj_yV y d' ci n) (hlv : d'.2.2.2.2.1 < d.2.2.2.2.1) (hr : RsV X.1 X.2.2.1 y d' (.ref a :: As) (z, I, J, R) P) (ha : mj_ok z a ci) (hst : st0 = As.reverse ++ .ref a :: st) (hlen : As.length = n) (hw : (st.map fun v => v.category).sum ≤ 8) (hzf : z ≤ mj_zf X) (hn : ∀ I', P I' → Wq d X Q pc' L st (z, I', J, R)) : Wq d X Q pc L st0 (z, I, J, R) :=
  q_tVv hd hp hm hy hlv hr ha hst hlen hw hzf (fun I' J' R' ⟨⟨hJ, hR⟩, hP⟩ => by
    have hJ : J' = J := hJ
    have hR : R' = R := hR
    subst hJ; subst hR; exact hn I' hP)
end QS
/-- nothing but the row has changed -/
def mF (I I' : mj_M) : Prop := ∀ a, a ≠ 464 → I' a = I a
theorem mF.rf {I : mj_M} : mF I I := fun _ _ => rfl
theorem mF.tr {I I' I2 : mj_M} (h : mF I I') (h2 : mF I' I2) : mF I I2 := fun a ha => (h2 a ha).trans (h a ha)
theorem mF_up {I : mj_M} {j : Nat} {x : Int32} : mF I (mj_up I 464 j x) := fun a ha => by funext k; exact mj_up_ne ha
theorem mB_F {I I' : mj_M} {b : St} (h : mF I I') (hb : mB I b) : mB I' b := by
  unfold mB at hb ⊢
  rw [h 452 (by decide), h 457 (by decide), h 458 (by decide), h 459 (by decide)]
  exact hb
theorem up464 {I : mj_M} {j k : Nat} {x : Int32} : mj_up I 464 j x 464 k = if k = j then x else I 464 k := by
  unfold mj_up
  by_cases h : k = j
  · rw [if_pos ⟨rfl, h⟩, if_pos h]
  · rw [if_neg (fun q => h q.2), if_neg h]
/-- what a VECTOR is, and whose -/
def aSets (A : St) (p s o : Nat) : St := mj_up (mj_up A 0 p s) 1 p o
theorem rR_sets {I : mj_M} {A : St} {p s o : Nat} (hR : rR (I 464) A) (hp : p < 256) : rR ((mj_up (mj_up (mj_up I 464 p (nI s)) 464 (256 + p) (eD o)) 464 (512 + p) (eL o)) 464) (aSets A p s o) := by
  intro k hk
  have h1 := hR k hk
  unfold aSets
  rw [up464, up464, up464, cE_up1 hp, cE_up0 hp]
  repeat' split
  all_goals first | rfl | omega | exact h1
def aHolds (A : St) (id p : Nat) : St := mj_up (aSets A p 2 (id + 1)) 3 id (p + 1)
def aNoOld (A : St) (id : Nat) : St := mj_up (mj_up A 4 id 0) 5 id 0
def aLeaves (b A : St) (id p : Nat) : St := mj_up (aSets A p (if b 1 (id / 8) = 3 then 4 else 0) (if b 1 (id / 8) = 3 then id + 1 else 0)) 2 p 0
def aMerge (A : St) (d : Nat) : St := mj_up (mj_up A 11 d (A 11 d + 1)) 14 2 (A 14 2 + 1)
section M4
variable {w : mj_Wd} {l : Launch} {I : mj_M} {J : mj_J} {R : mj_R} {b A : St}
theorem rs_X11_sets {p v s d k : Nat} (hM : mj_wM R) (hR : rR (I 464) A) (hp : p < 8) (hv : v < 32) (hs : s < 5) (hd : d < 10) (hk : k < 8) : RsV w l yX11_sets dd_X11_sets [.ref 452, .int (nI p), .int (nI v), .int (nI s), .int (nI d), .int (nI k)] (472, I, J, R) (fun I' => mF I I' ∧ rR (I' 464) (aSets A (32 * p + v) s (if s = 0 then 0 else 8 * d + k + 1))) := by
  refine rt_intro2 (L := [some (.ref 452), some (.int (nI p)), some (.int (nI v)), some (.int (nI s)), some (.int (nI d)), some (.int (nI k)), none]) ⟨by decide, rfl, (fun h => by cases h)⟩ (Nat.le_of_ble_eq_true rfl) rfl (fun Y Q hQ => ?_)
  refine q_iload_n (pc' := 1) dX11_sets_0 rfl rfl (q_iload_n (pc' := 2) dX11_sets_1 rfl rfl (q_cSi (pc' := 5) dX11_sets_2 rfl ml_RX11_286 ys_X11_spot (by decide) (rn_X11_spot) rfl rfl (Nat.le_of_ble_eq_true rfl) (Nat.le_refl _) ?_))
  refine q_top (y := nI (32 * p + v)) (by (first | (simp only [nI_add, pk_mul]; done) | (simp only [nI_add, pk_mul]; exact nI_e (by omega)) | exact nI_e (by omega))) ?_
  have fin : ∀ o, rR ((mj_up (mj_up (mj_up I 464 (32 * p + v) (nI s)) 464 (256 + (32 * p + v)) (eD o)) 464 (512 + (32 * p + v)) (eL o)) 464) (aSets A (32 * p + v) s o) := fun o => rR_sets hR (by omega)
  refine q_ist_6 (pc' := 7) dX11_sets_5 rfl (by decide) rfl (q_aload_n (pc' := 8) dX11_sets_7 rfl rfl (q_getR (pc' := 11) dX11_sets_8 rfl fr_RX11_51 ⟨by omega, rfl⟩ rfl (wM_36 hM) (by decide) (q_iconst (pc' := 12) _ dX11_sets_11 rfl kk_iconst_0 (q_iload (pc' := 14) dX11_sets_12 rfl rfl (q_iadd (pc' := 15) dX11_sets_14 rfl (q_iload_n (pc' := 16) dX11_sets_15 rfl rfl (q_iast (pc' := 17) (32 * p + v) dX11_sets_16 rfl (by first | exact ⟨by omega, rfl⟩ | exact okaS hi hz (by decide) rfl | assumption) (by (first | (simp only [nI_add, pk_mul]; done) | (simp only [nI_add, pk_mul]; exact nI_e (by omega)) | exact nI_e (by omega))) (by omega) (q_aload_n (pc' := 18) dX11_sets_17 rfl rfl (q_getR (pc' := 21) dX11_sets_18 rfl fr_RX11_51 ⟨by omega, rfl⟩ rfl (wM_36 hM) (by decide) (q_sipush (pc' := 24) _ dX11_sets_21 rfl kk_sipush_256 (q_iload (pc' := 26) dX11_sets_24 rfl rfl (q_iadd (pc' := 27) dX11_sets_26 rfl (q_iload_n (pc' := 28) dX11_sets_27 rfl rfl ?_)))))))))))))
  refine q_if_ne (pc' := 31) (pt := 35) dX11_sets_28 rfl rfl (fun h1 => ?_) (fun h1 => ?_)
  · have h2 : s ≠ 0 := fun z => h1 (by rw [z]; rfl)
    rw [if_neg h2] at hQ
    exact q_iload (pc' := 37) dX11_sets_35 rfl rfl (q_iast (pc' := 38) (256 + (32 * p + v)) dX11_sets_37 rfl (by first | exact ⟨by omega, rfl⟩ | exact okaS hi hz (by decide) rfl | assumption) (by (first | (simp only [nI_add, pk_mul]; done) | (simp only [nI_add, pk_mul]; exact nI_e (by omega)) | exact nI_e (by omega))) (by omega) (q_aload_n (pc' := 39) dX11_sets_38 rfl rfl (q_getR (pc' := 42) dX11_sets_39 rfl fr_RX11_51 ⟨by omega, rfl⟩ rfl (wM_36 hM) (by decide) (q_sipush (pc' := 45) _ dX11_sets_42 rfl kk_sipush_512 (q_iload (pc' := 47) dX11_sets_45 rfl rfl (q_iadd (pc' := 48) dX11_sets_47 rfl (q_iload_n (pc' := 49) dX11_sets_48 rfl rfl (q_if_ne (pc' := 52) (pt := 56) dX11_sets_49 rfl rfl (fun _ => (q_iload (pc' := 58) dX11_sets_56 rfl rfl (q_iast (pc' := 59) (512 + (32 * p + v)) dX11_sets_58 rfl (by first | exact ⟨by omega, rfl⟩ | exact okaS hi hz (by decide) rfl | assumption) (by (first | (simp only [nI_add, pk_mul]; done) | (simp only [nI_add, pk_mul]; exact nI_e (by omega)) | exact nI_e (by omega))) (by omega) (q_vret dX11_sets_59 rfl (hQ _ _ _ _ ⟨rfl, ⟨rfl, rfl⟩, (mF_up.tr mF_up).tr mF_up, (by
      have := fin (8 * d + k + 1)
      rw [(eD_eq (x := 8 * d + k + 1) (by omega) hd).mpr (by omega), (eL_eq (x := 8 * d + k + 1) hk).mpr (by omega)] at this
      exact this)⟩))))) (fun h9 => absurd h9 (by (first | assumption | exact nI_le (by omega) (by omega) | exact nI_ge (by omega) (by omega) | exact nI_lt (by omega) (by omega) | exact nI_nlt (by omega) (by omega) | exact nI_ne (by omega) (by omega) (by omega) | exact nI_e (by omega) | decide)))))))))))
  · have h2 : s = 0 := (nI_eq (a := s) (b := 0) (by omega) (by omega)).mp h1
    rw [if_pos h2] at hQ
    exact q_iconst (pc' := 32) _ dX11_sets_31 rfl kk_iconst_m1 (q_goto (pc' := 37) dX11_sets_32 rfl (q_iast (pc' := 38) (256 + (32 * p + v)) dX11_sets_37 rfl (by first | exact ⟨by omega, rfl⟩ | exact okaS hi hz (by decide) rfl | assumption) (by (first | (simp only [nI_add, pk_mul]; done) | (simp only [nI_add, pk_mul]; exact nI_e (by omega)) | exact nI_e (by omega))) (by omega) (q_aload_n (pc' := 39) dX11_sets_38 rfl rfl (q_getR (pc' := 42) dX11_sets_39 rfl fr_RX11_51 ⟨by omega, rfl⟩ rfl (wM_36 hM) (by decide) (q_sipush (pc' := 45) _ dX11_sets_42 rfl kk_sipush_512 (q_iload (pc' := 47) dX11_sets_45 rfl rfl (q_iadd (pc' := 48) dX11_sets_47 rfl (q_iload_n (pc' := 49) dX11_sets_48 rfl rfl (q_if_ne (pc' := 52) (pt := 56) dX11_sets_49 rfl rfl (fun h9 => absurd (by (first | assumption | exact nI_le (by omega) (by omega) | exact nI_ge (by omega) (by omega) | exact nI_lt (by omega) (by omega) | exact nI_nlt (by omega) (by omega) | exact nI_ne (by omega) (by omega) (by omega) | exact nI_e (by omega) | decide)) h9) (fun _ => (q_iconst (pc' := 53) _ dX11_sets_52 rfl kk_iconst_m1 (q_goto (pc' := 58) dX11_sets_53 rfl (q_iast (pc' := 59) (512 + (32 * p + v)) dX11_sets_58 rfl (by first | exact ⟨by omega, rfl⟩ | exact okaS hi hz (by decide) rfl | assumption) (by (first | (simp only [nI_add, pk_mul]; done) | (simp only [nI_add, pk_mul]; exact nI_e (by omega)) | exact nI_e (by omega))) (by omega) (q_vret dX11_sets_59 rfl (hQ _ _ _ _ ⟨rfl, ⟨rfl, rfl⟩, (mF_up.tr mF_up).tr mF_up, fin 0⟩)))))))))))))))
end M4
