/-! ===== the reference: what must go, clear, nearest ===== -/
/-- each VECTOR that is HELD is so by a DEVICE -/
def vOK (b A : St) : Prop := ∀ k, k < 256 → A 0 k = 2 → A 1 k ≠ 0 ∧ (A 1 k - 1) / 8 < b 0 2
/-- what must go from a place: nothing, one, or it can't be -/
def aMG (b A : St) (k : Nat) : Option Nat := if A 0 k = 0 then some 0 else if A 0 k = 2 ∧ b 1 ((A 1 k - 1) / 8) = 1 ∧ A 4 (8 * ((A 1 k - 1) / 8)) = 0 then some 1 else none
def aMu (b A : St) (p v : Nat) : Nat → Option Nat
  | 0 => some 0
  | n + 1 => match aMu b A p v n, aMG b A (32 * p + (v + n)) with
    | some x, some y => some (x + y)
    | _, _ => none
theorem aMG_le {b A : St} {k x : Nat} (h : aMG b A k = some x) : x ≤ 1 := by
  unfold aMG at h
  split at h
  · cases h; omega
  · split at h
    · cases h; omega
    · cases h
theorem aMu_le {b A : St} {p v n x : Nat} (h : aMu b A p v n = some x) : x ≤ n := by
  induction n generalizing x with
  | zero => cases h; exact Nat.le_refl _
  | succ n ih =>
    unfold aMu at h
    cases h1 : aMu b A p v n with
    | none => rw [h1] at h; cases h
    | some y =>
      cases h2 : aMG b A (32 * p + (v + n)) with
      | none => rw [h1, h2] at h; cases h
      | some z =>
        rw [h1, h2] at h
        cases h
        have := ih h1
        have := aMG_le h2
        omega
theorem aMu_0 {b A : St} {p v n k : Nat} (h : aMu b A p v k = none) (hk : k ≤ n) : aMu b A p v n = none := by
  induction n with
  | zero => rw [show k = 0 by omega] at h; exact h
  | succ n ih =>
    by_cases e : k = n + 1
    · rw [← e]; exact h
    · unfold aMu; rw [ih (by omega)]
section M21
variable {w : mj_Wd} {l : Launch} {I : mj_M} {J : mj_J} {R : mj_R} {b A W0 : St} {ps : Nat → St} {u : Nat} {h : mj_H} {U : St → Prop}
theorem rn_X11_mustGo {p v n : Nat} (hM : mj_wM R) (hb : mB I b) (hk : bOK b) (hR : rR (I 464) A) (hA : aOK A) (hV : vOK b A) (hp : p < 8) (hv : v + n ≤ 32) : Rn w l yX11_mustGo dd_X11_mustGo [.ref 452, .int (nI p), .int (nI v), .int (nI n)] (472, I, J, R) (some (.int (oI (aMu b A p v n)))) (472, I, J, R) := by
  have h10 := hk.2.2.1
  refine rn_intro2 (L := [some (.ref 452), some (.int (nI p)), some (.int (nI v)), some (.int (nI n)), none, none, none]) ⟨by decide, rfl, (fun h => by cases h)⟩ (Nat.le_refl _) (Nat.le_of_ble_eq_true rfl) rfl (fun Y Q hQ => ?_)
  have loop : ∀ m k x o6, k + m = n → aMu b A p v k = some x → Wq dd_X11_mustGo (mj_mk w l 472 Y) Q 6 [some (.ref 452), some (.int (nI p)), some (.int (nI v)), some (.int (nI n)), some (.int (nI x)), some (.int (nI (v + k))), o6] [] (472, I, J, R) := by
    intro m
    induction m with
    | zero =>
      intro k x o6 hkm hx
      have hkz : k = n := by omega
      subst hkz
      rw [hx] at hQ
      exact q_iload (pc' := 8) dX11_mustGo_6 rfl rfl (q_iload_n (pc' := 9) dX11_mustGo_8 rfl rfl (q_iload_n (pc' := 10) dX11_mustGo_9 rfl rfl (q_iadd (pc' := 11) dX11_mustGo_10 rfl (q_icmp_ge (pc' := 14) (pt := 100) dX11_mustGo_11 rfl rfl (fun _ => (q_iload (pc' := 102) dX11_mustGo_100 rfl rfl (q_iret dX11_mustGo_102 rfl hQ))) (fun h9 => absurd (by rw [nI_add]; exact Int32.le_refl _) h9)))))
    | succ m ih =>
      intro k x o6 hkm hx
      have hx8 := aMu_le hx
      have hao := hA.1 (32 * p + (v + k)) (by omega)
      have e0 : I 464 (32 * p + (v + k)) = nI (A 0 (32 * p + (v + k))) := (hR _ (by omega)).trans (cE_vs (by omega))
      have hs : aMu b A p v (k + 1) = match aMG b A (32 * p + (v + k)) with
        | some y => some (x + y)
        | none => none := by
        rw [aMu, hx]
        cases aMG b A (32 * p + (v + k)) <;> rfl
      refine q_iload (pc' := 8) dX11_mustGo_6 rfl rfl (q_iload_n (pc' := 9) dX11_mustGo_8 rfl rfl (q_iload_n (pc' := 10) dX11_mustGo_9 rfl rfl (q_iadd (pc' := 11) dX11_mustGo_10 rfl (q_icmp_ge (pc' := 14) (pt := 100) dX11_mustGo_11 rfl rfl (fun h9 => absurd h9 (by rw [nI_add]; exact Int32.not_le.mpr (nI_lt (by omega) (by omega)))) (fun _ => (q_iload_n (pc' := 15) dX11_mustGo_14 rfl rfl (q_iload (pc' := 17) dX11_mustGo_15 rfl rfl (q_cSi (pc' := 20) dX11_mustGo_17 rfl ml_RX11_286 ys_X11_spot (by decide) (rn_X11_spot) rfl rfl (Nat.le_of_ble_eq_true rfl) (Nat.le_refl _) ?_))))))))
      refine q_top (y := nI (32 * p + (v + k))) (by rw [pk_mul, nI_add]) ?_
      refine q_ist_6 (pc' := 22) dX11_mustGo_20 rfl (by decide) rfl (q_aload_n (pc' := 23) dX11_mustGo_22 rfl rfl (q_getR (pc' := 26) dX11_mustGo_23 rfl fr_RX11_51 ⟨by omega, rfl⟩ rfl (wM_36 hM) (by decide) (q_iconst (pc' := 27) _ dX11_mustGo_26 rfl kk_iconst_0 (q_iload (pc' := 29) dX11_mustGo_27 rfl rfl (q_iadd (pc' := 30) dX11_mustGo_29 rfl (q_ialde (pc' := 31) (32 * p + (v + k)) dX11_mustGo_30 rfl (by first | exact ⟨by omega, rfl⟩ | exact okaS hi hz (by decide) rfl | assumption) (by (first | (simp only [nI_add, pk_mul]; done) | (simp only [nI_add, pk_mul]; exact nI_e (by omega)) | exact nI_e (by omega))) (by omega) e0 ?_))))))
      by_cases h0 : A 0 (32 * p + (v + k)) = 0
      · have hg : aMG b A (32 * p + (v + k)) = some 0 := if_pos h0
        rw [hg] at hs
        rw [h0]
        refine q_if_ne (pc' := 34) (pt := 37) dX11_mustGo_31 rfl rfl (fun h9 => absurd (rfl) h9) (fun _ => (q_goto (pc' := 94) dX11_mustGo_34 rfl (q_inc_5 (pc' := 97) dX11_mustGo_94 rfl (by decide) rfl (q_goto (pc' := 6) dX11_mustGo_97 rfl ?_))))
        exact ih (k + 1) x _ (by omega) hs
      · have bad : aMG b A (32 * p + (v + k)) = none → Wq dd_X11_mustGo (mj_mk w l 472 Y) Q 89 [some (.ref 452), some (.int (nI p)), some (.int (nI v)), some (.int (nI n)), some (.int (nI x)), some (.int (nI (v + k))), some (.int (nI (32 * p + (v + k))))] [] (472, I, J, R) := by
          intro hg
          rw [hg] at hs
          rw [aMu_0 hs (by omega)] at hQ
          exact q_iconst (pc' := 90) _ dX11_mustGo_89 rfl kk_iconst_m1 (q_iret dX11_mustGo_90 rfl hQ)
        by_cases h2 : A 0 (32 * p + (v + k)) = 2
        · have hw := hV _ (by omega) h2
          have hbd := hb.2.2.2 _ hw.2
          have hkd := hk.2.2.2 _ hw.2
          have e1 : I 464 (256 + (32 * p + (v + k))) = nI ((A 1 (32 * p + (v + k)) - 1) / 8) := ((hR _ (by omega)).trans (cE_d (by omega))).trans (if_neg hw.1)
          by_cases h3 : b 1 ((A 1 (32 * p + (v + k)) - 1) / 8) = 1
          · refine q_if_ne (pc' := 34) (pt := 37) dX11_mustGo_31 rfl rfl (fun _ => (q_aload_n (pc' := 38) dX11_mustGo_37 rfl rfl (q_getR (pc' := 41) dX11_mustGo_38 rfl fr_RX11_51 ⟨by omega, rfl⟩ rfl (wM_36 hM) (by decide) (q_iconst (pc' := 42) _ dX11_mustGo_41 rfl kk_iconst_0 (q_iload (pc' := 44) dX11_mustGo_42 rfl rfl (q_iadd (pc' := 45) dX11_mustGo_44 rfl (q_ialde (pc' := 46) (32 * p + (v + k)) dX11_mustGo_45 rfl (by first | exact ⟨by omega, rfl⟩ | exact okaS hi hz (by decide) rfl | assumption) (by (first | (simp only [nI_add, pk_mul]; done) | (simp only [nI_add, pk_mul]; exact nI_e (by omega)) | exact nI_e (by omega))) (by omega) e0 (q_iconst (pc' := 47) _ dX11_mustGo_46 rfl kk_iconst_2 (q_icmp_ne (pc' := 50) (pt := 89) dX11_mustGo_47 rfl rfl (fun h9 => absurd (congrArg nI h2) h9) (fun _ => (q_aload_n (pc' := 51) dX11_mustGo_50 rfl rfl (q_getR (pc' := 54) dX11_mustGo_51 rfl fr_RX11_29 ⟨by omega, rfl⟩ rfl (wM_29 hM) (by decide) (q_aload_n (pc' := 55) dX11_mustGo_54 rfl rfl (q_getR (pc' := 58) dX11_mustGo_55 rfl fr_RX11_51 ⟨by omega, rfl⟩ rfl (wM_36 hM) (by decide) (q_sipush (pc' := 61) _ dX11_mustGo_58 rfl kk_sipush_256 ?_))))))))))))))) (fun h9 => absurd h9 (nI_ne (b := 0) h0 (by omega) (by omega)))
            refine q_iload (pc' := 63) dX11_mustGo_61 rfl rfl (q_iadd (pc' := 64) dX11_mustGo_63 rfl (q_ialde (pc' := 65) (256 + (32 * p + (v + k))) dX11_mustGo_64 rfl (by first | exact ⟨by omega, rfl⟩ | exact okaS hi hz (by decide) rfl | assumption) (by (first | (simp only [nI_add, pk_mul]; done) | (simp only [nI_add, pk_mul]; exact nI_e (by omega)) | exact nI_e (by omega))) (by omega) e1 (q_ialde (pc' := 66) ((A 1 (32 * p + (v + k)) - 1) / 8) dX11_mustGo_65 rfl (by first | exact ⟨by omega, rfl⟩ | exact okaS hi hz (by decide) rfl | assumption) (by (first | (simp only [nI_add, pk_mul]; done) | (simp only [nI_add, pk_mul]; exact nI_e (by omega)) | exact nI_e (by omega))) (by omega) hbd.1 (q_iconst (pc' := 67) _ dX11_mustGo_66 rfl kk_iconst_1 (q_icmp_ne (pc' := 70) (pt := 89) dX11_mustGo_67 rfl rfl (fun h9 => absurd (congrArg nI h3) h9) (fun _ => (q_aload_n (pc' := 71) dX11_mustGo_70 rfl rfl (q_aload_n (pc' := 72) dX11_mustGo_71 rfl rfl (q_getR (pc' := 75) dX11_mustGo_72 rfl fr_RX11_51 ⟨by omega, rfl⟩ rfl (wM_36 hM) (by decide) (q_sipush (pc' := 78) _ dX11_mustGo_75 rfl kk_sipush_256 (q_iload (pc' := 80) dX11_mustGo_78 rfl rfl (q_iadd (pc' := 81) dX11_mustGo_80 rfl (q_ialde (pc' := 82) (256 + (32 * p + (v + k))) dX11_mustGo_81 rfl (by first | exact ⟨by omega, rfl⟩ | exact okaS hi hz (by decide) rfl | assumption) (by (first | (simp only [nI_add, pk_mul]; done) | (simp only [nI_add, pk_mul]; exact nI_e (by omega)) | exact nI_e (by omega))) (by omega) e1 (q_iconst (pc' := 83) _ dX11_mustGo_82 rfl kk_iconst_0 ?_))))))))))))))
            by_cases h4 : A 4 (8 * ((A 1 (32 * p + (v + k)) - 1) / 8)) = 0
            · have hg : aMG b A (32 * p + (v + k)) = some 1 := by unfold aMG; rw [if_neg h0, if_pos ⟨h2, h3, h4⟩]
              rw [hg] at hs
              refine q_cVi (pc' := 86) dX11_mustGo_83 rfl ml_RX11_356 yv_X11_hasOld (by decide) (rn_X11_hasOld hM hR hA (by omega) (by decide)) ⟨by omega, rfl⟩ rfl rfl (Nat.le_of_ble_eq_true rfl) (Nat.le_refl _) (q_ifb_eq (pc' := 89) (pt := 91) dX11_mustGo_86 rfl rfl (fun _ => ?_) (fun h9 => Bool.noConfusion (Eq.trans (Eq.symm (by rw [Nat.add_zero, h4])) h9)))
              refine q_inc_4 (pc' := 94) dX11_mustGo_91 rfl (by decide) rfl (q_inc_5 (pc' := 97) dX11_mustGo_94 rfl (by decide) rfl (q_goto (pc' := 6) dX11_mustGo_97 rfl ?_))
              exact ih (k + 1) (x + 1) _ (by omega) hs
            · refine q_cVi (pc' := 86) dX11_mustGo_83 rfl ml_RX11_356 yv_X11_hasOld (by decide) (rn_X11_hasOld hM hR hA (by omega) (by decide)) ⟨by omega, rfl⟩ rfl rfl (Nat.le_of_ble_eq_true rfl) (Nat.le_refl _) (q_ifb_eq (pc' := 89) (pt := 91) dX11_mustGo_86 rfl rfl (fun h9 => Bool.noConfusion (Eq.trans (Eq.symm (by rw [Nat.add_zero, bne_iff_ne]; exact h4)) h9)) (fun _ => ?_))
              exact bad (by unfold aMG; rw [if_neg h0, if_neg (fun q => h4 q.2.2)])
          · refine q_if_ne (pc' := 34) (pt := 37) dX11_mustGo_31 rfl rfl (fun _ => (q_aload_n (pc' := 38) dX11_mustGo_37 rfl rfl (q_getR (pc' := 41) dX11_mustGo_38 rfl fr_RX11_51 ⟨by omega, rfl⟩ rfl (wM_36 hM) (by decide) (q_iconst (pc' := 42) _ dX11_mustGo_41 rfl kk_iconst_0 (q_iload (pc' := 44) dX11_mustGo_42 rfl rfl (q_iadd (pc' := 45) dX11_mustGo_44 rfl (q_ialde (pc' := 46) (32 * p + (v + k)) dX11_mustGo_45 rfl (by first | exact ⟨by omega, rfl⟩ | exact okaS hi hz (by decide) rfl | assumption) (by (first | (simp only [nI_add, pk_mul]; done) | (simp only [nI_add, pk_mul]; exact nI_e (by omega)) | exact nI_e (by omega))) (by omega) e0 (q_iconst (pc' := 47) _ dX11_mustGo_46 rfl kk_iconst_2 (q_icmp_ne (pc' := 50) (pt := 89) dX11_mustGo_47 rfl rfl (fun h9 => absurd (congrArg nI h2) h9) (fun _ => (q_aload_n (pc' := 51) dX11_mustGo_50 rfl rfl (q_getR (pc' := 54) dX11_mustGo_51 rfl fr_RX11_29 ⟨by omega, rfl⟩ rfl (wM_29 hM) (by decide) (q_aload_n (pc' := 55) dX11_mustGo_54 rfl rfl (q_getR (pc' := 58) dX11_mustGo_55 rfl fr_RX11_51 ⟨by omega, rfl⟩ rfl (wM_36 hM) (by decide) (q_sipush (pc' := 61) _ dX11_mustGo_58 rfl kk_sipush_256 ?_))))))))))))))) (fun h9 => absurd h9 (nI_ne (b := 0) h0 (by omega) (by omega)))
            refine q_iload (pc' := 63) dX11_mustGo_61 rfl rfl (q_iadd (pc' := 64) dX11_mustGo_63 rfl (q_ialde (pc' := 65) (256 + (32 * p + (v + k))) dX11_mustGo_64 rfl (by first | exact ⟨by omega, rfl⟩ | exact okaS hi hz (by decide) rfl | assumption) (by (first | (simp only [nI_add, pk_mul]; done) | (simp only [nI_add, pk_mul]; exact nI_e (by omega)) | exact nI_e (by omega))) (by omega) e1 (q_ialde (pc' := 66) ((A 1 (32 * p + (v + k)) - 1) / 8) dX11_mustGo_65 rfl (by first | exact ⟨by omega, rfl⟩ | exact okaS hi hz (by decide) rfl | assumption) (by (first | (simp only [nI_add, pk_mul]; done) | (simp only [nI_add, pk_mul]; exact nI_e (by omega)) | exact nI_e (by omega))) (by omega) hbd.1 (q_iconst (pc' := 67) _ dX11_mustGo_66 rfl kk_iconst_1 (q_icmp_ne (pc' := 70) (pt := 89) dX11_mustGo_67 rfl rfl (fun _ => ?_) (fun h9 => absurd h9 (nI_ne h3 (by omega) (by omega))))))))
            exact bad (by unfold aMG; rw [if_neg h0, if_neg (fun q => h3 q.2.1)])
        · refine q_if_ne (pc' := 34) (pt := 37) dX11_mustGo_31 rfl rfl (fun _ => (q_aload_n (pc' := 38) dX11_mustGo_37 rfl rfl (q_getR (pc' := 41) dX11_mustGo_38 rfl fr_RX11_51 ⟨by omega, rfl⟩ rfl (wM_36 hM) (by decide) (q_iconst (pc' := 42) _ dX11_mustGo_41 rfl kk_iconst_0 (q_iload (pc' := 44) dX11_mustGo_42 rfl rfl (q_iadd (pc' := 45) dX11_mustGo_44 rfl (q_ialde (pc' := 46) (32 * p + (v + k)) dX11_mustGo_45 rfl (by first | exact ⟨by omega, rfl⟩ | exact okaS hi hz (by decide) rfl | assumption) (by (first | (simp only [nI_add, pk_mul]; done) | (simp only [nI_add, pk_mul]; exact nI_e (by omega)) | exact nI_e (by omega))) (by omega) e0 (q_iconst (pc' := 47) _ dX11_mustGo_46 rfl kk_iconst_2 (q_icmp_ne (pc' := 50) (pt := 89) dX11_mustGo_47 rfl rfl (fun _ => ?_) (fun h9 => absurd h9 (nI_ne h2 (by omega) (by omega)))))))))))) (fun h9 => absurd h9 (nI_ne (b := 0) h0 (by omega) (by omega)))
          exact bad (by unfold aMG; rw [if_neg h0, if_neg (fun q => h2 q.1)])
  refine q_iconst (pc' := 1) _ dX11_mustGo_0 rfl kk_iconst_0 (q_ist_4 (pc' := 3) dX11_mustGo_1 rfl (by decide) rfl (q_iload_n (pc' := 4) dX11_mustGo_3 rfl rfl (q_ist_5 (pc' := 6) dX11_mustGo_4 rfl (by decide) rfl ?_)))
  exact loop n 0 0 none (by omega) rfl
/-- the BLOCK that the fewest must leave: how many, CPU, VECTOR -/
def cS (b A : St) (n p i : Nat) (o : Option (Nat × Nat × Nat)) : Option (Nat × Nat × Nat) := match aMu b A p (n * i) n with
  | none => o
  | some m => match o with
    | none => some (m, p, n * i)
    | some q => if m < q.1 then some (m, p, n * i) else o
def cI (b A : St) (n p : Nat) : Nat → Option (Nat × Nat × Nat) → Option (Nat × Nat × Nat)
  | 0, o => o
  | i + 1, o => cS b A n p i (cI b A n p i o)
def cP (b A : St) (n : Nat) : Nat → Option (Nat × Nat × Nat)
  | 0 => none
  | p + 1 => if A 9 p = 1 then cI b A n p (b 0 1 / n) (cP b A n p) else cP b A n p
def aClB (b A : St) (n : Nat) : Option (Nat × Nat × Nat) := cP b A n (b 0 0)
/-- what the reference keeps of it -/
def mC (I : mj_M) (o : Option (Nat × Nat × Nat)) : Prop := match o with
  | none => I 452 45 = -1
  | some q => I 452 45 = nI q.1 ∧ I 452 46 = nI q.2.1 ∧ I 452 47 = nI q.2.2 ∧ q.1 ≤ 32
def mK (I I' : mj_M) : Prop := (∀ a, a ≠ 452 → I' a = I a) ∧ ∀ f, f ≠ 45 → f ≠ 46 → f ≠ 47 → I' 452 f = I 452 f
theorem mK.rf {I : mj_M} : mK I I := ⟨fun _ _ => rfl, fun _ _ _ _ => rfl⟩
theorem mK.tr {I I' I2 : mj_M} (h : mK I I') (h2 : mK I' I2) : mK I I2 := ⟨fun a h1 => (h2.1 a h1).trans (h.1 a h1), fun f h1 h3 h4 => (h2.2 f h1 h3 h4).trans (h.2 f h1 h3 h4)⟩
theorem mB_K {I I' : mj_M} {b : St} (h : mK I I') (hb : mB I b) : mB I' b := by
  unfold mB at hb ⊢
  rw [h.2 18 (by decide) (by decide) (by decide), h.2 19 (by decide) (by decide) (by decide), h.2 22 (by decide) (by decide) (by decide), h.1 457 (by decide), h.1 458 (by decide), h.1 459 (by decide)]
  exact hb
theorem mK_up {I : mj_M} {f : Nat} {x : Int32} (h : f = 45 ∨ f = 46 ∨ f = 47) : mK I (mj_up I 452 f x) := ⟨fun a ha => (by funext k; exact mj_up_ne ha), fun g h1 h2 h3 => mj_up_ne2 (by omega)⟩
theorem rs_X11_laysClear {n : Nat} (hM : mj_wM R) (hb : mB I b) (hk : bOK b) (hR : rR (I 464) A) (hA : aOK A) (hV : vOK b A) (hn : 1 ≤ n ∧ n ≤ 8) : RsI w l yX11_laysClear dd_X11_laysClear [.ref 452, .int (nI n)] (472, I, J, R) (fun x I' => x = bI (aClB b A n).isSome ∧ mC I' (aClB b A n) ∧ mK I I') := by
  have h8 := hk.1
  have h32 := hk.2.1
  refine rt_intro2 (L := [some (.ref 452), some (.int (nI n)), none, none, none]) ⟨by decide, rfl, (fun h => by cases h)⟩ (Nat.le_of_ble_eq_true rfl) rfl (fun Y Q hQ => ?_)
  have outer : ∀ m p I0 o3 o4, p + m = b 0 0 → mC I0 (cP b A n p) → mK I I0 → Wq dd_X11_laysClear (mj_mk w l 472 Y) Q 7 [some (.ref 452), some (.int (nI n)), some (.int (nI p)), o3, o4] [] (472, I0, J, R) := by
    intro m
    induction m with
    | zero =>
      intro p I0 o3 o4 hkm hC hK
      have hkz : p = b 0 0 := by omega
      subst hkz
      have hb0 := mB_K hK hb
      cases hc : cP b A n (b 0 0) with
      | none =>
        rw [hc] at hC
        have e : aClB b A n = none := hc
        rw [e] at hQ
        exact q_iload_n (pc' := 8) dX11_laysClear_7 rfl rfl (q_aload_n (pc' := 9) dX11_laysClear_8 rfl rfl (q_getIe (pc' := 12) dX11_laysClear_9 rfl fr_RX11_240 ⟨by omega, rfl⟩ rfl (mB_0 hb0) (q_icmp_ge (pc' := 15) (pt := 99) dX11_laysClear_12 rfl rfl (fun _ => (q_aload_n (pc' := 100) dX11_laysClear_99 rfl rfl (q_getIe (pc' := 103) dX11_laysClear_100 rfl fr_RX11_469 ⟨by omega, rfl⟩ rfl hC (q_iconst (pc' := 104) _ dX11_laysClear_103 rfl kk_iconst_m1 (q_icmp_eq (pc' := 107) (pt := 111) dX11_laysClear_104 rfl rfl (fun _ => (q_iconst (pc' := 112) _ dX11_laysClear_111 rfl kk_iconst_0 (q_zret dX11_laysClear_112 rfl (by first | exact Or.inl rfl | exact Or.inr rfl | exact bI_01 _) (hQ _ _ _ _ ⟨_, rfl, ⟨rfl, rfl⟩, rfl, hC, hK⟩)))) (fun h9 => absurd (rfl) h9)))))) (fun h9 => absurd (by (first | assumption | exact nI_le (by omega) (by omega) | exact nI_ge (by omega) (by omega) | exact nI_lt (by omega) (by omega) | exact nI_nlt (by omega) (by omega) | exact nI_ne (by omega) (by omega) (by omega) | exact nI_e (by omega) | decide)) h9))))
      | some q =>
        rw [hc] at hC
        have e : aClB b A n = some q := hc
        rw [e] at hQ
        have h31 := hC.2.2.2
        exact q_iload_n (pc' := 8) dX11_laysClear_7 rfl rfl (q_aload_n (pc' := 9) dX11_laysClear_8 rfl rfl (q_getIe (pc' := 12) dX11_laysClear_9 rfl fr_RX11_240 ⟨by omega, rfl⟩ rfl (mB_0 hb0) (q_icmp_ge (pc' := 15) (pt := 99) dX11_laysClear_12 rfl rfl (fun _ => (q_aload_n (pc' := 100) dX11_laysClear_99 rfl rfl (q_getIe (pc' := 103) dX11_laysClear_100 rfl fr_RX11_469 ⟨by omega, rfl⟩ rfl hC.1 (q_iconst (pc' := 104) _ dX11_laysClear_103 rfl kk_iconst_m1 (q_icmp_eq (pc' := 107) (pt := 111) dX11_laysClear_104 rfl rfl (fun h9 => absurd h9 (nI_m1 (by omega))) (fun _ => (q_iconst (pc' := 108) _ dX11_laysClear_107 rfl kk_iconst_1 (q_goto (pc' := 112) dX11_laysClear_108 rfl (q_zret dX11_laysClear_112 rfl (by first | exact Or.inl rfl | exact Or.inr rfl | exact bI_01 _) (hQ _ _ _ _ ⟨_, rfl, ⟨rfl, rfl⟩, rfl, hC, hK⟩)))))))))) (fun h9 => absurd (by (first | assumption | exact nI_le (by omega) (by omega) | exact nI_ge (by omega) (by omega) | exact nI_lt (by omega) (by omega) | exact nI_nlt (by omega) (by omega) | exact nI_ne (by omega) (by omega) (by omega) | exact nI_e (by omega) | decide)) h9))))
    | succ m ih =>
      intro p I0 o3 o4 hkm hC hK
      have hb0 := mB_K hK hb
      have hR0 : rR (I0 464) A := by rw [hK.1 464 (by decide)]; exact hR
      have hdm := Nat.mul_div_le (b 0 1) n
      by_cases hon : A 9 p = 1
      · have eP : cP b A n (p + 1) = cI b A n p (b 0 1 / n) (cP b A n p) := by rw [cP, if_pos hon]
        have inner : ∀ m2 i I1 o4, i + m2 = b 0 1 / n → mC I1 (cI b A n p i (cP b A n p)) → mK I I1 → Wq dd_X11_laysClear (mj_mk w l 472 Y) Q 17 [some (.ref 452), some (.int (nI n)), some (.int (nI p)), some (.int (nI (n * i))), o4] [] (472, I1, J, R) := by
          intro m2
          induction m2 with
          | zero =>
            intro i I1 o4 him hC1 hK1
            have hiz : i = b 0 1 / n := by omega
            have hb1 := mB_K hK1 hb
            have hgt : b 0 1 < n * i + n := by
              rw [hiz, ← Nat.mul_succ]
              exact Nat.lt_mul_div_succ _ (by omega)
            have hle : n * i ≤ 32 := by rw [hiz]; omega
            subst hiz
            refine q_iload_n (pc' := 18) dX11_laysClear_17 rfl rfl (q_iload_n (pc' := 19) dX11_laysClear_18 rfl rfl (q_iadd (pc' := 20) dX11_laysClear_19 rfl (q_aload_n (pc' := 21) dX11_laysClear_20 rfl rfl (q_getIe (pc' := 24) dX11_laysClear_21 rfl fr_RX11_243 ⟨by omega, rfl⟩ rfl (mB_1 hb1) (q_icmp_gt (pc' := 27) (pt := 93) dX11_laysClear_24 rfl rfl (fun _ => ?_) (fun h9 => absurd (by rw [nI_add]; exact nI_lt hgt (by omega)) h9))))))
            refine q_inc_2 (pc' := 96) dX11_laysClear_93 rfl (by decide) rfl (q_goto (pc' := 7) dX11_laysClear_96 rfl ?_)
            exact ih (p + 1) I1 _ _ (by omega) (by rw [eP]; exact hC1) hK1
          | succ m2 ih2 =>
            intro i I1 o4 him hC1 hK1
            have hb1 := mB_K hK1 hb
            have hR1 : rR (I1 464) A := by rw [hK1.1 464 (by decide)]; exact hR
            have hfit : n * i + n ≤ b 0 1 := by
              rw [← Nat.mul_succ]
              exact Nat.le_trans (Nat.mul_le_mul_left n (by omega)) hdm
            have next : ∀ I2 o4, mC I2 (cI b A n p (i + 1) (cP b A n p)) → mK I I2 → Wq dd_X11_laysClear (mj_mk w l 472 Y) Q 86 [some (.ref 452), some (.int (nI n)), some (.int (nI p)), some (.int (nI (n * i))), o4] [] (472, I2, J, R) := by
              intro I2 o4 hC2 hK2
              refine q_iload_n (pc' := 87) dX11_laysClear_86 rfl rfl (q_iload_n (pc' := 88) dX11_laysClear_87 rfl rfl (q_iadd (pc' := 89) dX11_laysClear_88 rfl ?_))
              refine q_top (y := nI (n * (i + 1))) (by rw [nI_add]; rfl) ?_
              refine q_ist_3 (pc' := 90) dX11_laysClear_89 rfl (by decide) rfl (q_goto (pc' := 17) dX11_laysClear_90 rfl ?_)
              exact ih2 (i + 1) I2 o4 (by omega) hC2 hK2
            refine q_iload_n (pc' := 18) dX11_laysClear_17 rfl rfl (q_iload_n (pc' := 19) dX11_laysClear_18 rfl rfl (q_iadd (pc' := 20) dX11_laysClear_19 rfl (q_aload_n (pc' := 21) dX11_laysClear_20 rfl rfl (q_getIe (pc' := 24) dX11_laysClear_21 rfl fr_RX11_243 ⟨by omega, rfl⟩ rfl (mB_1 hb1) (q_icmp_gt (pc' := 27) (pt := 93) dX11_laysClear_24 rfl rfl (fun h9 => absurd h9 (by rw [nI_add]; exact Int32.not_lt.mpr (nI_le hfit (by omega)))) (fun _ => (q_aload_n (pc' := 28) dX11_laysClear_27 rfl rfl (q_iload_n (pc' := 29) dX11_laysClear_28 rfl rfl (q_cVi (pc' := 32) dX11_laysClear_29 rfl ml_RX11_292 yv_X11_isOnline (by decide) (rn_X11_isOnline hM hR1 hA (by omega)) ⟨by omega, rfl⟩ rfl rfl (Nat.le_of_ble_eq_true rfl) (Nat.le_refl _) (q_ifb_eq (pc' := 35) (pt := 93) dX11_laysClear_32 rfl rfl (fun h9 => Bool.noConfusion (Eq.trans (Eq.symm (beq_iff_eq.mpr hon)) h9)) (fun _ => (q_aload_n (pc' := 36) dX11_laysClear_35 rfl rfl (q_iload_n (pc' := 37) dX11_laysClear_36 rfl rfl (q_iload_n (pc' := 38) dX11_laysClear_37 rfl rfl (q_iload_n (pc' := 39) dX11_laysClear_38 rfl rfl ?_)))))))))))))))
            refine q_cVi (pc' := 42) dX11_laysClear_39 rfl ml_RX11_472 yv_X11_mustGo (by decide) (rn_X11_mustGo hM hb1 hk hR1 hA hV (by omega) (by omega)) ⟨by omega, rfl⟩ rfl rfl (Nat.le_of_ble_eq_true rfl) (Nat.le_refl _) ?_
            have eS : cI b A n p (i + 1) (cP b A n p) = cS b A n p i (cI b A n p i (cP b A n p)) := rfl
            cases hm : aMu b A p (n * i) n with
            | none =>
              refine q_ist_4 (pc' := 44) dX11_laysClear_42 rfl (by decide) rfl (q_iload (pc' := 46) dX11_laysClear_44 rfl rfl (q_iconst (pc' := 47) _ dX11_laysClear_46 rfl kk_iconst_m1 (q_icmp_eq (pc' := 50) (pt := 86) dX11_laysClear_47 rfl rfl (fun _ => ?_) (fun h9 => absurd (rfl) h9))))
              exact next I1 _ (by rw [eS]; unfold cS; rw [hm]; exact hC1) hK1
            | some x =>
              have hx := aMu_le hm
              have put : cI b A n p (i + 1) (cP b A n p) = some (x, p, n * i) → Wq dd_X11_laysClear (mj_mk w l 472 Y) Q 70 [some (.ref 452), some (.int (nI n)), some (.int (nI p)), some (.int (nI (n * i))), some (.int (nI x))] [] (472, I1, J, R) := by
                intro he
                refine q_aload_n (pc' := 71) dX11_laysClear_70 rfl rfl (q_iload (pc' := 73) dX11_laysClear_71 rfl rfl (q_putI (pc' := 76) dX11_laysClear_73 rfl fl_RX11_469 ⟨by omega, rfl⟩ rfl (q_aload_n (pc' := 77) dX11_laysClear_76 rfl rfl (q_iload_n (pc' := 78) dX11_laysClear_77 rfl rfl (q_putI (pc' := 81) dX11_laysClear_78 rfl fl_RX11_475 ⟨by omega, rfl⟩ rfl (q_aload_n (pc' := 82) dX11_laysClear_81 rfl rfl (q_iload_n (pc' := 83) dX11_laysClear_82 rfl rfl (q_putI (pc' := 86) dX11_laysClear_83 rfl fl_RX11_478 ⟨by omega, rfl⟩ rfl ?_))))))))
                refine next _ _ (by rw [he]; exact ⟨rfl, rfl, rfl, by dsimp only; omega⟩) (((hK1.tr (mK_up (Or.inl rfl))).tr (mK_up (Or.inr (Or.inl rfl)))).tr (mK_up (Or.inr (Or.inr rfl))))
              cases ho : cI b A n p i (cP b A n p) with
              | none =>
                rw [ho] at hC1
                refine q_ist_4 (pc' := 44) dX11_laysClear_42 rfl (by decide) rfl (q_iload (pc' := 46) dX11_laysClear_44 rfl rfl (q_iconst (pc' := 47) _ dX11_laysClear_46 rfl kk_iconst_m1 (q_icmp_eq (pc' := 50) (pt := 86) dX11_laysClear_47 rfl rfl (fun h9 => absurd h9 (nI_m1 (by omega))) (fun _ => (q_aload_n (pc' := 51) dX11_laysClear_50 rfl rfl (q_getIe (pc' := 54) dX11_laysClear_51 rfl fr_RX11_469 ⟨by omega, rfl⟩ rfl hC1 (q_iconst (pc' := 55) _ dX11_laysClear_54 rfl kk_iconst_m1 (q_icmp_eq (pc' := 58) (pt := 70) dX11_laysClear_55 rfl rfl (fun _ => ?_) (fun h9 => absurd (rfl) h9)))))))))
                exact put (by rw [eS, ho]; unfold cS; rw [hm])
              | some q =>
                rw [ho] at hC1
                have h31 := hC1.2.2.2
                by_cases hlt : x < q.1
                · refine q_ist_4 (pc' := 44) dX11_laysClear_42 rfl (by decide) rfl (q_iload (pc' := 46) dX11_laysClear_44 rfl rfl (q_iconst (pc' := 47) _ dX11_laysClear_46 rfl kk_iconst_m1 (q_icmp_eq (pc' := 50) (pt := 86) dX11_laysClear_47 rfl rfl (fun h9 => absurd h9 (nI_m1 (by omega))) (fun _ => (q_aload_n (pc' := 51) dX11_laysClear_50 rfl rfl (q_getIe (pc' := 54) dX11_laysClear_51 rfl fr_RX11_469 ⟨by omega, rfl⟩ rfl hC1.1 (q_iconst (pc' := 55) _ dX11_laysClear_54 rfl kk_iconst_m1 (q_icmp_eq (pc' := 58) (pt := 70) dX11_laysClear_55 rfl rfl (fun h9 => absurd h9 (nI_m1 (by omega))) (fun _ => (q_iload (pc' := 60) dX11_laysClear_58 rfl rfl (q_aload_n (pc' := 61) dX11_laysClear_60 rfl rfl (q_getIe (pc' := 64) dX11_laysClear_61 rfl fr_RX11_469 ⟨by omega, rfl⟩ rfl hC1.1 (q_icmp_lt (pc' := 67) (pt := 70) dX11_laysClear_64 rfl rfl (fun _ => ?_) (fun h9 => absurd (nI_lt hlt (by omega)) h9))))))))))))))
                  exact put (by rw [eS, ho]; unfold cS; rw [hm]; exact if_pos hlt)
                · refine q_ist_4 (pc' := 44) dX11_laysClear_42 rfl (by decide) rfl (q_iload (pc' := 46) dX11_laysClear_44 rfl rfl (q_iconst (pc' := 47) _ dX11_laysClear_46 rfl kk_iconst_m1 (q_icmp_eq (pc' := 50) (pt := 86) dX11_laysClear_47 rfl rfl (fun h9 => absurd h9 (nI_m1 (by omega))) (fun _ => (q_aload_n (pc' := 51) dX11_laysClear_50 rfl rfl (q_getIe (pc' := 54) dX11_laysClear_51 rfl fr_RX11_469 ⟨by omega, rfl⟩ rfl hC1.1 (q_iconst (pc' := 55) _ dX11_laysClear_54 rfl kk_iconst_m1 (q_icmp_eq (pc' := 58) (pt := 70) dX11_laysClear_55 rfl rfl (fun h9 => absurd h9 (nI_m1 (by omega))) (fun _ => (q_iload (pc' := 60) dX11_laysClear_58 rfl rfl (q_aload_n (pc' := 61) dX11_laysClear_60 rfl rfl (q_getIe (pc' := 64) dX11_laysClear_61 rfl fr_RX11_469 ⟨by omega, rfl⟩ rfl hC1.1 (q_icmp_lt (pc' := 67) (pt := 70) dX11_laysClear_64 rfl rfl (fun h9 => absurd h9 (Int32.not_lt.mpr (nI_le (by omega) (by omega)))) (fun _ => (q_goto (pc' := 86) dX11_laysClear_67 rfl ?_)))))))))))))))
                  exact next I1 _ (by rw [eS, ho]; unfold cS; rw [hm]; dsimp only; rw [if_neg hlt]; exact hC1) hK1
        refine q_iload_n (pc' := 8) dX11_laysClear_7 rfl rfl (q_aload_n (pc' := 9) dX11_laysClear_8 rfl rfl (q_getIe (pc' := 12) dX11_laysClear_9 rfl fr_RX11_240 ⟨by omega, rfl⟩ rfl (mB_0 hb0) (q_icmp_ge (pc' := 15) (pt := 99) dX11_laysClear_12 rfl rfl (fun h9 => absurd h9 (by (first | assumption | exact nI_le (by omega) (by omega) | exact nI_ge (by omega) (by omega) | exact nI_lt (by omega) (by omega) | exact nI_nlt (by omega) (by omega) | exact nI_ne (by omega) (by omega) (by omega) | exact nI_e (by omega) | decide))) (fun _ => (q_iconst (pc' := 16) _ dX11_laysClear_15 rfl kk_iconst_0 (q_ist_3 (pc' := 17) dX11_laysClear_16 rfl (by decide) rfl ?_))))))
        exact inner (b 0 1 / n) 0 I0 _ (by omega) hC hK
      · have eP : cP b A n (p + 1) = cP b A n p := by rw [cP, if_neg hon]
        by_cases hfit : n ≤ b 0 1
        · refine q_iload_n (pc' := 8) dX11_laysClear_7 rfl rfl (q_aload_n (pc' := 9) dX11_laysClear_8 rfl rfl (q_getIe (pc' := 12) dX11_laysClear_9 rfl fr_RX11_240 ⟨by omega, rfl⟩ rfl (mB_0 hb0) (q_icmp_ge (pc' := 15) (pt := 99) dX11_laysClear_12 rfl rfl (fun h9 => absurd h9 (by (first | assumption | exact nI_le (by omega) (by omega) | exact nI_ge (by omega) (by omega) | exact nI_lt (by omega) (by omega) | exact nI_nlt (by omega) (by omega) | exact nI_ne (by omega) (by omega) (by omega) | exact nI_e (by omega) | decide))) (fun _ => (q_iconst (pc' := 16) _ dX11_laysClear_15 rfl kk_iconst_0 (q_ist_3 (pc' := 17) dX11_laysClear_16 rfl (by decide) rfl (q_iload_n (pc' := 18) dX11_laysClear_17 rfl rfl (q_iload_n (pc' := 19) dX11_laysClear_18 rfl rfl (q_iadd (pc' := 20) dX11_laysClear_19 rfl (q_aload_n (pc' := 21) dX11_laysClear_20 rfl rfl (q_getIe (pc' := 24) dX11_laysClear_21 rfl fr_RX11_243 ⟨by omega, rfl⟩ rfl (mB_1 hb0) (q_icmp_gt (pc' := 27) (pt := 93) dX11_laysClear_24 rfl rfl (fun h9 => absurd h9 (by rw [nI_add]; exact Int32.not_lt.mpr (nI_le (by omega) (by omega)))) (fun _ => (q_aload_n (pc' := 28) dX11_laysClear_27 rfl rfl (q_iload_n (pc' := 29) dX11_laysClear_28 rfl rfl ?_)))))))))))))))
          refine q_cVi (pc' := 32) dX11_laysClear_29 rfl ml_RX11_292 yv_X11_isOnline (by decide) (rn_X11_isOnline hM hR0 hA (by omega)) ⟨by omega, rfl⟩ rfl rfl (Nat.le_of_ble_eq_true rfl) (Nat.le_refl _) (q_ifb_eq (pc' := 35) (pt := 93) dX11_laysClear_32 rfl rfl (fun _ => ?_) (fun h9 => Bool.noConfusion (Eq.trans (Eq.symm (beq_eq_false_iff_ne.mpr hon)) h9)))
          refine q_inc_2 (pc' := 96) dX11_laysClear_93 rfl (by decide) rfl (q_goto (pc' := 7) dX11_laysClear_96 rfl ?_)
          exact ih (p + 1) I0 _ _ (by omega) (by rw [eP]; exact hC) hK
        · omega
  refine q_aload_n (pc' := 1) dX11_laysClear_0 rfl rfl (q_iconst (pc' := 2) _ dX11_laysClear_1 rfl kk_iconst_m1 (q_putI (pc' := 5) dX11_laysClear_2 rfl fl_RX11_469 ⟨by omega, rfl⟩ rfl (q_iconst (pc' := 6) _ dX11_laysClear_5 rfl kk_iconst_0 (q_ist_2 (pc' := 7) dX11_laysClear_6 rfl (by decide) rfl ?_))))
  exact outer (b 0 0) 0 _ none none (by omega) (show mj_up I 452 45 (-1) 452 45 = -1 from mj_up_eq) (mK_up (Or.inl rfl))
end M21
