/-! ===== the reference: what was handled, TICKS ===== -/
def aLog (A : St) (e : Nat) : St := mj_up (mj_up A 15 (A 14 4) e) 14 4 (A 14 4 + 1)
theorem cE_lo {A : St} {e k : Nat} (hk : k < 1574) : cE (aLog A e) k = cE A k := by
  unfold cE
  rw [if_pos hk, if_pos hk]
  have h1 := cL_f k hk
  have h2 : ∀ k, k < 1574 → (cL k).2.1 = 14 → (cL k).2.2 < 4 := by decide +kernel
  unfold aLog mj_up
  rw [if_neg (fun q => by have := h2 k hk q.1; omega), if_neg (fun q => by omega)]
theorem aLog_n {A : St} {e : Nat} : aLog A e 14 4 = A 14 4 + 1 := mj_up_eq
theorem aLog_e {A : St} {e t : Nat} : aLog A e 15 t = if t = A 14 4 then e else A 15 t := by
  unfold aLog
  rw [mj_up_ne (show (15 : Nat) ≠ 14 by decide)]
  unfold mj_up
  by_cases h : t = A 14 4
  · rw [if_pos ⟨rfl, h⟩, if_pos h]
  · rw [if_neg (fun q => h q.2), if_neg h]
/-- the rows of what was logged from k on are shifted by one -/
def mj_sf (I : mj_M) (k : Nat) : mj_M := fun a t => if a = 464 ∧ 1575 + k < t ∧ t < 1775 then I 464 (t - 5) else I a t
theorem sf_0 {I : mj_M} : mj_sf I 199 = I := by
  funext a t
  unfold mj_sf
  rw [if_neg (fun q => by omega)]
theorem sf_s {I : mj_M} {k : Nat} (hk : 5 ≤ k) (h2 : k < 200) : mj_up (mj_sf I k) 464 (1575 + k) (I 464 (1570 + k)) = mj_sf I (k - 1) := by
  funext a t
  unfold mj_up mj_sf
  by_cases h1 : a = 464
  · subst h1
    by_cases h3 : t = 1575 + k
    · subst h3
      rw [if_pos ⟨rfl, rfl⟩, if_pos ⟨rfl, by omega, by omega⟩]
      congr 1; omega
    · rw [if_neg (fun q => h3 q.2)]
      by_cases h4 : 1575 + k < t ∧ t < 1775
      · rw [if_pos ⟨rfl, h4⟩, if_pos ⟨rfl, by omega, h4.2⟩]
      · rw [if_neg (fun q => h4 q.2), if_neg (fun q => h4 ⟨by omega, q.2.2⟩)]
  · rw [if_neg (fun q => h1 q.1), if_neg (fun q => h1 q.1), if_neg (fun q => h1 q.1)]
theorem mF_sf {I : mj_M} {k : Nat} : mF I (mj_sf I k) := fun a ha => by
  funext t
  unfold mj_sf
  rw [if_neg (fun q => ha q.1)]
/-- LINE * 512 + place * 2 + by an OLD one -/
def eLog (id p o : Nat) : Nat := id * 512 + p * 2 + o
theorem rR_log {I : mj_M} {A : St} {d k p v o : Nat} (hR : rR (I 464) A) (hk : k < 8) (hp : p < 8) (hv : v < 32) (ho : o < 2) : rR ((mj_up (mj_up (mj_up (mj_up (mj_up (mj_up (mj_sf I 4) 464 1575 (nI d)) 464 1576 (nI k)) 464 1577 (nI p)) 464 1578 (nI v)) 464 1579 (nI o)) 464 1574 (nI (min (A 14 4 + 1) 40))) 464) (aLog A (eLog (8 * d + k) (32 * p + v) o)) := by
  intro t ht
  have e0 : eG (eLog (8 * d + k) (32 * p + v) o) 0 = d := by show (eLog _ _ _) / 512 / 8 = d; unfold eLog; omega
  have e1 : eG (eLog (8 * d + k) (32 * p + v) o) 1 = k := by show (eLog _ _ _) / 512 % 8 = k; unfold eLog; omega
  have e2 : eG (eLog (8 * d + k) (32 * p + v) o) 2 = p := by show (eLog _ _ _) / 2 % 256 / 32 = p; unfold eLog; omega
  have e3 : eG (eLog (8 * d + k) (32 * p + v) o) 3 = v := by show (eLog _ _ _) / 2 % 256 % 32 = v; unfold eLog; omega
  have e4 : eG (eLog (8 * d + k) (32 * p + v) o) 4 = o := by show (eLog _ _ _) % 2 = o; unfold eLog; omega
  rw [up464, up464, up464, up464, up464, up464]
  by_cases h1 : t < 1574
  · rw [if_neg (by omega), if_neg (by omega), if_neg (by omega), if_neg (by omega), if_neg (by omega), if_neg (by omega), cE_lo h1]
    unfold mj_sf
    rw [if_neg (by omega)]
    exact hR t ht
  · by_cases h2 : t = 1574
    · subst h2
      rw [if_pos rfl, cE_lg, aLog_n]
    · have h3 : t = 1575 + (5 * ((t - 1575) / 5) + (t - 1575) % 5) := by omega
      rw [if_neg h2]
      have h5 : (t - 1575) % 5 < 5 := by omega
      generalize hx : (t - 1575) / 5 = x at h3
      generalize hy : (t - 1575) % 5 = y at h3 h5
      subst h3
      rw [cE_log h5, aLog_n, aLog_e]
      by_cases h6 : x = 0
      · subst h6
        rw [if_pos (show 0 < A 14 4 + 1 by omega), show A 14 4 + 1 - 1 - 0 = A 14 4 by omega, if_pos (show A 14 4 = A 14 4 from rfl)]
        have h7 : y = 0 ∨ y = 1 ∨ y = 2 ∨ y = 3 ∨ y = 4 := by omega
        rcases h7 with rfl | rfl | rfl | rfl | rfl
        · rw [e0]; rfl
        · rw [e1]; rfl
        · rw [e2]; rfl
        · rw [e3]; rfl
        · rw [e4]; rfl
      · rw [if_neg (by omega), if_neg (by omega), if_neg (by omega), if_neg (by omega), if_neg (by omega)]
        unfold mj_sf
        rw [if_pos ⟨rfl, by omega, by omega⟩]
        have h8 := hR (1575 + (5 * (x - 1) + y)) (by omega)
        rw [show 1575 + (5 * x + y) - 5 = 1575 + (5 * (x - 1) + y) by omega, h8, cE_log h5]
        by_cases h9 : x < A 14 4 + 1
        · rw [if_pos (by omega), if_pos h9, if_neg (by omega), show A 14 4 + 1 - 1 - x = A 14 4 - 1 - (x - 1) by omega]
        · rw [if_neg (by omega), if_neg h9]
section M9
variable {w : mj_Wd} {l : Launch} {I : mj_M} {J : mj_J} {R : mj_R} {b A : St}
theorem rs_X11_logs {d k p v : Nat} {o : Bool} (hM : mj_wM R) (hR : rR (I 464) A) (hd : d < 10) (hk : k < 8) (hp : p < 8) (hv : v < 32) : RsV w l yX11_logs dd_X11_logs [.ref 452, .int (nI d), .int (nI k), .int (nI p), .int (nI v), .int (bI o)] (472, I, J, R) (fun I' => mF I I' ∧ rR (I' 464) (aLog A (eLog (8 * d + k) (32 * p + v) (if o = true then 1 else 0)))) := by
  refine rt_intro2 (L := [some (.ref 452), some (.int (nI d)), some (.int (nI k)), some (.int (nI p)), some (.int (nI v)), some (.int (bI o)), none]) ⟨by decide, rfl, (fun h => by cases h)⟩ (Nat.le_of_ble_eq_true rfl) rfl (fun Y Q hQ => ?_)
  refine q_sipush (pc' := 3) _ dX11_logs_0 rfl kk_sipush_199 (q_ist_6 (pc' := 5) dX11_logs_3 rfl (by decide) rfl ?_)
  have loop : ∀ m x, x = m + 4 → x < 200 → Wq dd_X11_logs (mj_mk w l 472 Y) Q 5 [some (.ref 452), some (.int (nI d)), some (.int (nI k)), some (.int (nI p)), some (.int (nI v)), some (.int (bI o)), some (.int (nI x))] [] (472, mj_sf I x, J, R) := by
    intro m
    induction m with
    | zero =>
      intro x hx hx2
      subst hx
      have h1 := rR_log (A := A) (d := d) (k := k) (p := p) (v := v) (o := if o = true then 1 else 0) hR hk hp hv (by split <;> decide)
      have eo : nI (if o = true then 1 else 0) = bI o := by cases o <;> rfl
      rw [eo] at h1
      have e1 : mj_up (mj_up (mj_up (mj_up (mj_up (mj_sf I 4) 464 1575 (nI d)) 464 1576 (nI k)) 464 1577 (nI p)) 464 1578 (nI v)) 464 1579 (bI o) 464 1574 = nI (min (A 14 4) 40) := by
        rw [up464, up464, up464, up464, up464, if_neg (by decide), if_neg (by decide), if_neg (by decide), if_neg (by decide), if_neg (by decide)]
        unfold mj_sf
        rw [if_neg (by omega)]
        exact (hR 1574 (by decide)).trans cE_lg
      refine q_iload (pc' := 7) dX11_logs_5 rfl rfl (q_iconst (pc' := 8) _ dX11_logs_7 rfl kk_iconst_5 (q_icmp_lt (pc' := 11) (pt := 41) dX11_logs_8 rfl rfl (fun _ => (q_aload_n (pc' := 42) dX11_logs_41 rfl rfl (q_getR (pc' := 45) dX11_logs_42 rfl fr_RX11_51 ⟨by omega, rfl⟩ rfl (wM_36 hM) (by decide) (q_sipush (pc' := 48) _ dX11_logs_45 rfl kk_sipush_1575 (q_iload_n (pc' := 49) dX11_logs_48 rfl rfl (q_iast (pc' := 50) _ dX11_logs_49 rfl (by first | exact ⟨by omega, rfl⟩ | exact okaS hi hz (by decide) rfl | assumption) rfl (by omega) (q_aload_n (pc' := 51) dX11_logs_50 rfl rfl (q_getR (pc' := 54) dX11_logs_51 rfl fr_RX11_51 ⟨by omega, rfl⟩ rfl (wM_36 hM) (by decide) (q_sipush (pc' := 57) _ dX11_logs_54 rfl kk_sipush_1576 (q_iload_n (pc' := 58) dX11_logs_57 rfl rfl (q_iast (pc' := 59) _ dX11_logs_58 rfl (by first | exact ⟨by omega, rfl⟩ | exact okaS hi hz (by decide) rfl | assumption) rfl (by omega) (q_aload_n (pc' := 60) dX11_logs_59 rfl rfl ?_)))))))))))) (fun h9 => absurd (by (first | assumption | exact nI_le (by omega) (by omega) | exact nI_ge (by omega) (by omega) | exact nI_lt (by omega) (by omega) | exact nI_nlt (by omega) (by omega) | exact nI_ne (by omega) (by omega) (by omega) | exact nI_e (by omega) | decide)) h9)))
      refine q_getR (pc' := 63) dX11_logs_60 rfl fr_RX11_51 ⟨by omega, rfl⟩ rfl (wM_36 hM) (by decide) (q_sipush (pc' := 66) _ dX11_logs_63 rfl kk_sipush_1577 (q_iload_n (pc' := 67) dX11_logs_66 rfl rfl (q_iast (pc' := 68) _ dX11_logs_67 rfl (by first | exact ⟨by omega, rfl⟩ | exact okaS hi hz (by decide) rfl | assumption) rfl (by omega) (q_aload_n (pc' := 69) dX11_logs_68 rfl rfl (q_getR (pc' := 72) dX11_logs_69 rfl fr_RX11_51 ⟨by omega, rfl⟩ rfl (wM_36 hM) (by decide) (q_sipush (pc' := 75) _ dX11_logs_72 rfl kk_sipush_1578 (q_iload (pc' := 77) dX11_logs_75 rfl rfl (q_iast (pc' := 78) _ dX11_logs_77 rfl (by first | exact ⟨by omega, rfl⟩ | exact okaS hi hz (by decide) rfl | assumption) rfl (by omega) (q_aload_n (pc' := 79) dX11_logs_78 rfl rfl (q_getR (pc' := 82) dX11_logs_79 rfl fr_RX11_51 ⟨by omega, rfl⟩ rfl (wM_36 hM) (by decide) (q_sipush (pc' := 85) _ dX11_logs_82 rfl kk_sipush_1579 (q_iload (pc' := 87) dX11_logs_85 rfl rfl (q_cSi (pc' := 90) dX11_logs_87 rfl ml_RX11_255 ys_X11_truth (by decide) (rn_X11_truth) rfl rfl (Nat.le_of_ble_eq_true rfl) (Nat.le_refl _) ?_)))))))))))))
      refine q_iast (pc' := 91) _ dX11_logs_90 rfl (by first | exact ⟨by omega, rfl⟩ | exact okaS hi hz (by decide) rfl | assumption) rfl (by omega) (q_aload_n (pc' := 92) dX11_logs_91 rfl rfl (q_getR (pc' := 95) dX11_logs_92 rfl fr_RX11_51 ⟨by omega, rfl⟩ rfl (wM_36 hM) (by decide) (q_sipush (pc' := 98) _ dX11_logs_95 rfl kk_sipush_1574 (q_bipush (pc' := 100) _ dX11_logs_98 rfl kk_bipush_40 (q_aload_n (pc' := 101) dX11_logs_100 rfl rfl (q_getR (pc' := 104) dX11_logs_101 rfl fr_RX11_51 ⟨by omega, rfl⟩ rfl (wM_36 hM) (by decide) (q_sipush (pc' := 107) _ dX11_logs_104 rfl kk_sipush_1574 (q_ialde (pc' := 108) _ dX11_logs_107 rfl (by first | exact ⟨by omega, rfl⟩ | exact okaS hi hz (by decide) rfl | assumption) rfl (by omega) e1 (q_iconst (pc' := 109) _ dX11_logs_108 rfl kk_iconst_1 (q_iadd (pc' := 110) dX11_logs_109 rfl ?_))))))))))
      refine q_top (nI_add _ _) ?_
      refine q_cSi (pc' := 113) dX11_logs_110 rfl ml_RX11_362 ys_X11_lesser (by decide) (rn_X11_lesser) rfl rfl (Nat.le_of_ble_eq_true rfl) (Nat.le_refl _) ?_
      refine q_top (y := nI (min (A 14 4 + 1) 40)) ?_ ?_
      · have h3 : min (A 14 4) 40 + 1 < 2 ^ 31 := by omega
        by_cases h2 : min (A 14 4) 40 + 1 ≤ 40
        · rw [if_pos ((nI_leI h3 (by decide)).mpr h2)]; exact nI_e (by omega)
        · rw [if_neg (fun z => h2 ((nI_leI h3 (by decide)).mp z))]; exact nI_e (by omega)
      exact q_iast (pc' := 114) _ dX11_logs_113 rfl (by first | exact ⟨by omega, rfl⟩ | exact okaS hi hz (by decide) rfl | assumption) rfl (by omega) (q_vret dX11_logs_114 rfl (hQ _ _ _ _ ⟨rfl, ⟨rfl, rfl⟩, mF_sf.tr (((((mF_up.tr mF_up).tr mF_up).tr mF_up).tr mF_up).tr mF_up), h1⟩))
    | succ m ih =>
      intro x hx hx2
      have e1 : mj_sf I x 464 (1570 + x) = I 464 (1570 + x) := by
        unfold mj_sf
        rw [if_neg (by omega)]
      have e2 : nI 1575 + nI x - nI 5 = nI (1570 + x) := by rw [nI_add, pk_sub (by omega)]; exact nI_e (by omega)
      refine q_iload (pc' := 7) dX11_logs_5 rfl rfl (q_iconst (pc' := 8) _ dX11_logs_7 rfl kk_iconst_5 (q_icmp_lt (pc' := 11) (pt := 41) dX11_logs_8 rfl rfl (fun h9 => absurd h9 (by (first | assumption | exact nI_le (by omega) (by omega) | exact nI_ge (by omega) (by omega) | exact nI_lt (by omega) (by omega) | exact nI_nlt (by omega) (by omega) | exact nI_ne (by omega) (by omega) (by omega) | exact nI_e (by omega) | decide))) (fun _ => (q_aload_n (pc' := 12) dX11_logs_11 rfl rfl (q_getR (pc' := 15) dX11_logs_12 rfl fr_RX11_51 ⟨by omega, rfl⟩ rfl (wM_36 hM) (by decide) (q_sipush (pc' := 18) _ dX11_logs_15 rfl kk_sipush_1575 (q_iload (pc' := 20) dX11_logs_18 rfl rfl (q_iadd (pc' := 21) dX11_logs_20 rfl (q_aload_n (pc' := 22) dX11_logs_21 rfl rfl (q_getR (pc' := 25) dX11_logs_22 rfl fr_RX11_51 ⟨by omega, rfl⟩ rfl (wM_36 hM) (by decide) (q_sipush (pc' := 28) _ dX11_logs_25 rfl kk_sipush_1575 (q_iload (pc' := 30) dX11_logs_28 rfl rfl (q_iadd (pc' := 31) dX11_logs_30 rfl (q_iconst (pc' := 32) _ dX11_logs_31 rfl kk_iconst_5 ?_))))))))))))))
      refine q_isub (pc' := 33) dX11_logs_32 rfl ?_
      refine q_top e2 ?_
      refine q_ialde (pc' := 34) _ dX11_logs_33 rfl (by first | exact ⟨by omega, rfl⟩ | exact okaS hi hz (by decide) rfl | assumption) rfl (by omega) e1 (q_iast (pc' := 35) (1575 + x) dX11_logs_34 rfl (by first | exact ⟨by omega, rfl⟩ | exact okaS hi hz (by decide) rfl | assumption) (by (first | (simp only [nI_add, pk_mul]; done) | (simp only [nI_add, pk_mul]; exact nI_e (by omega)) | exact nI_e (by omega))) (by omega) ?_)
      rw [sf_s (by omega) hx2]
      refine q_iinc_6 (pc' := 38) (nI (x - 1)) dX11_logs_35 rfl (by decide) rfl (by have := sb_m1 (p := x) (by omega); exact this) ?_
      refine q_goto (pc' := 5) dX11_logs_38 rfl ?_
      exact ih (x - 1) (by omega) (by omega)
  have := loop 195 199 (by omega) (by omega)
  rw [sf_0] at this
  exact this
/-- the greatest below n that P takes -/
def topN (P : Nat → Bool) : Nat → Option Nat
  | 0 => none
  | n + 1 => if P n = true then some n else topN P n
theorem topN_some {P : Nat → Bool} {n k : Nat} (h : topN P n = some k) : k < n ∧ P k = true := by
  induction n with
  | zero => cases h
  | succ n ih =>
    unfold topN at h
    split at h
    · cases h; exact ⟨Nat.lt_succ_self _, by assumption⟩
    · have := ih h; exact ⟨Nat.lt_succ_of_lt this.1, this.2⟩
def aTop (b A : St) (p : Nat) : Option Nat := topN (fun v => A 2 (32 * p + v) == 1) (b 0 1)
/-- a VECTOR is handled -/
def aHand1 (A : St) (p pl id : Nat) : St := aLog (mj_up (mj_up (mj_up (mj_up A 2 pl 0) 13 p (A 13 p + 1)) 10 (id / 8) (A 10 (id / 8) + 1)) 14 1 (A 14 1 + 1)) (eLog id pl (if A 0 pl = 3 then 1 else 0))
def aHand (A : St) (p pl : Nat) : St := if A 0 pl ≠ 3 ∧ A 4 (A 1 pl - 1) ≠ 0 then mj_up (aHand1 A p pl (A 1 pl - 1)) 5 (A 1 pl - 1) 1 else aHand1 A p pl (A 1 pl - 1)
def aHandle (b A : St) (p : Nat) : St := match aTop b A p with
  | none => A
  | some v => aHand A p (32 * p + v)
/-- what is PENDING is so for a LINE; what DRAINS is there -/
def pOK (A : St) : Prop := (∀ k, k < 256 → A 2 k = 1 → A 1 k ≠ 0) ∧ ∀ k, k < 80 → A 5 k = 1 → A 4 k ≠ 0
def lD (m : Nat) : Int32 := if m = 0 then -1 else nI (m - 1)
theorem rs_X11_handles {p : Nat} (hM : mj_wM R) (hb : mB I b) (hk : bOK b) (hR : rR (I 464) A) (hA : aOK A) (hP : pOK A) (hp : p < 8) : RsV w l yX11_handles dd_X11_handles [.ref 452, .int (nI p)] (472, I, J, R) (fun I' => mF I I' ∧ rR (I' 464) (aHandle b A p)) := by
  have hv32 := hk.2.1
  refine rt_intro2 (L := [some (.ref 452), some (.int (nI p)), none, none, none, none, none]) ⟨by decide, rfl, (fun h => by cases h)⟩ (Nat.le_of_ble_eq_true rfl) rfl (fun Y Q hQ => ?_)
  refine q_aload_n (pc' := 1) dX11_handles_0 rfl rfl (q_getIe (pc' := 4) dX11_handles_1 rfl fr_RX11_243 ⟨by omega, rfl⟩ rfl (mB_1 hb) (q_iconst (pc' := 5) _ dX11_handles_4 rfl kk_iconst_1 (q_isub (pc' := 6) dX11_handles_5 rfl ?_)))
  refine q_top (y := lD (b 0 1)) (by unfold lD; rw [if_neg (by omega)]; exact pk_sub (by omega)) ?_
  refine q_ist_2 (pc' := 7) dX11_handles_6 rfl (by decide) rfl ?_
  have loop : ∀ m, m ≤ b 0 1 → topN (fun v => A 2 (32 * p + v) == 1) m = aTop b A p → Wq dd_X11_handles (mj_mk w l 472 Y) Q 7 [some (.ref 452), some (.int (nI p)), some (.int (lD m)), none, none, none, none] [] (472, I, J, R) := by
    intro m
    induction m with
    | zero =>
      intro hm ht
      have ht : aTop b A p = none := ht.symm
      exact q_iload_n (pc' := 8) dX11_handles_7 rfl rfl (q_if_lt (pc' := 11) (pt := 34) dX11_handles_8 rfl rfl (fun _ => (q_iload_n (pc' := 35) dX11_handles_34 rfl rfl (q_if_ge (pc' := 38) (pt := 39) dX11_handles_35 rfl rfl (fun h9 => absurd h9 (by decide)) (fun _ => (q_vret dX11_handles_38 rfl (hQ _ _ _ _ ⟨rfl, ⟨rfl, rfl⟩, mF.rf, (by unfold aHandle; rw [ht]; exact hR)⟩)))))) (fun h9 => absurd (by decide) h9))
    | succ m ih =>
      intro hm ht
      have e0 : lD (m + 1) = nI m := by unfold lD; rw [if_neg (by omega)]; rfl
      have h6 := hA.1 (32 * p + m) (by omega)
      have e1 : I 464 (768 + (32 * p + m)) = nI (A 2 (32 * p + m)) := (hR _ (by omega)).trans (cE_pd (by omega))
      rw [e0]
      unfold topN at ht
      refine q_iload_n (pc' := 8) dX11_handles_7 rfl rfl (q_if_lt (pc' := 11) (pt := 34) dX11_handles_8 rfl rfl (fun h9 => absurd h9 (nI_pos (by omega))) (fun _ => (q_aload_n (pc' := 12) dX11_handles_11 rfl rfl (q_getR (pc' := 15) dX11_handles_12 rfl fr_RX11_51 ⟨by omega, rfl⟩ rfl (wM_36 hM) (by decide) (q_sipush (pc' := 18) _ dX11_handles_15 rfl kk_sipush_768 (q_iload_n (pc' := 19) dX11_handles_18 rfl rfl (q_iload_n (pc' := 20) dX11_handles_19 rfl rfl (q_cSi (pc' := 23) dX11_handles_20 rfl ml_RX11_286 ys_X11_spot (by decide) (rn_X11_spot) rfl rfl (Nat.le_of_ble_eq_true rfl) (Nat.le_refl _) (q_iadd (pc' := 24) dX11_handles_23 rfl (q_ialde (pc' := 25) (768 + (32 * p + m)) dX11_handles_24 rfl (by first | exact ⟨by omega, rfl⟩ | exact okaS hi hz (by decide) rfl | assumption) (by (first | (simp only [nI_add, pk_mul]; done) | (simp only [nI_add, pk_mul]; exact nI_e (by omega)) | exact nI_e (by omega))) (by omega) e1 (q_if_ne (pc' := 28) (pt := 34) dX11_handles_25 rfl rfl (fun h1 => ?_) (fun h1 => ?_))))))))))))
      · have h2 : A 2 (32 * p + m) = 1 := by
          have : A 2 (32 * p + m) ≠ 0 := fun z => h1 (by rw [z]; rfl)
          omega
        rw [if_pos (by rw [h2]; rfl)] at ht
        have ht := ht.symm
        have hid := hP.1 (32 * p + m) (by omega) h2
        generalize hidn : A 1 (32 * p + m) - 1 = id at *
        have hid8 : id < 80 := by omega
        have hde : id = 8 * (id / 8) + id % 8 := by omega
        have e2 : I 464 (256 + (32 * p + m)) = nI (id / 8) := by
          rw [(hR _ (by omega)).trans (cE_d (by omega))]; unfold eD; rw [if_neg hid, hidn]
        have e3 : I 464 (512 + (32 * p + m)) = nI (id % 8) := by
          rw [(hR _ (by omega)).trans (cE_l (by omega))]; unfold eL; rw [if_neg hid, hidn]
        have e4 : I 464 (32 * p + m) = nI (A 0 (32 * p + m)) := (hR _ (by omega)).trans (cE_vs (by omega))
        have r1 := rR_pd (x := 0) hR (show 32 * p + m < 256 by omega)
        have r2 := rR_ha (x := A 13 p + 1) r1 hp
        have r3 := rR_de (d := id / 8) (x := A 10 (id / 8) + 1) r2 (by omega)
        have r4 := rR_sc (j := 1) (x := A 14 1 + 1) r3 (by decide)
        have e5 : mj_up I 464 (768 + (32 * p + m)) (nI 0) 464 (1562 + p) = nI (A 13 p) := by
          rw [up464, if_neg (by omega)]; exact (hR _ (by omega)).trans (cE_ha hp)
        have e6 : mj_up (mj_up I 464 (768 + (32 * p + m)) (nI 0)) 464 (1562 + p) (nI (A 13 p + 1)) 464 (1524 + id / 8) = nI (A 10 (id / 8)) := by
          rw [up464, if_neg (by omega), up464, if_neg (by omega)]; exact (hR _ (by omega)).trans (cE_de (by omega))
        have e7 : mj_up (mj_up (mj_up I 464 (768 + (32 * p + m)) (nI 0)) 464 (1562 + p) (nI (A 13 p + 1))) 464 (1524 + id / 8) (nI (A 10 (id / 8) + 1)) 464 1571 = nI (A 14 1) := by
          rw [up464, if_neg (by omega), up464, if_neg (by omega), up464, if_neg (by omega)]; exact (hR 1571 (by omega)).trans (cE_sc (k := 1) (by omega))
        refine q_iload_n (pc' := 35) dX11_handles_34 rfl rfl (q_if_ge (pc' := 38) (pt := 39) dX11_handles_35 rfl rfl (fun _ => (q_iload_n (pc' := 40) dX11_handles_39 rfl rfl (q_iload_n (pc' := 41) dX11_handles_40 rfl rfl (q_cSi (pc' := 44) dX11_handles_41 rfl ml_RX11_286 ys_X11_spot (by decide) (rn_X11_spot) rfl rfl (Nat.le_of_ble_eq_true rfl) (Nat.le_refl _) ?_)))) (fun h9 => absurd (nI_pos' (by omega)) h9))
        refine q_top (y := nI (32 * p + m)) (by (first | (simp only [nI_add, pk_mul]; done) | (simp only [nI_add, pk_mul]; exact nI_e (by omega)) | exact nI_e (by omega))) ?_
        refine q_ist_3 (pc' := 45) dX11_handles_44 rfl (by decide) rfl (q_aload_n (pc' := 46) dX11_handles_45 rfl rfl (q_getR (pc' := 49) dX11_handles_46 rfl fr_RX11_51 ⟨by omega, rfl⟩ rfl (wM_36 hM) (by decide) (q_sipush (pc' := 52) _ dX11_handles_49 rfl kk_sipush_256 (q_iload_n (pc' := 53) dX11_handles_52 rfl rfl (q_iadd (pc' := 54) dX11_handles_53 rfl (q_ialde (pc' := 55) (256 + (32 * p + m)) dX11_handles_54 rfl (by first | exact ⟨by omega, rfl⟩ | exact okaS hi hz (by decide) rfl | assumption) (by (first | (simp only [nI_add, pk_mul]; done) | (simp only [nI_add, pk_mul]; exact nI_e (by omega)) | exact nI_e (by omega))) (by omega) e2 (q_ist_4 (pc' := 57) dX11_handles_55 rfl (by decide) rfl (q_aload_n (pc' := 58) dX11_handles_57 rfl rfl (q_getR (pc' := 61) dX11_handles_58 rfl fr_RX11_51 ⟨by omega, rfl⟩ rfl (wM_36 hM) (by decide) (q_sipush (pc' := 64) _ dX11_handles_61 rfl kk_sipush_512 (q_iload_n (pc' := 65) dX11_handles_64 rfl rfl (q_iadd (pc' := 66) dX11_handles_65 rfl (q_ialde (pc' := 67) (512 + (32 * p + m)) dX11_handles_66 rfl (by first | exact ⟨by omega, rfl⟩ | exact okaS hi hz (by decide) rfl | assumption) (by (first | (simp only [nI_add, pk_mul]; done) | (simp only [nI_add, pk_mul]; exact nI_e (by omega)) | exact nI_e (by omega))) (by omega) e3 ?_)))))))))))))
        refine q_ist_5 (pc' := 69) dX11_handles_67 rfl (by decide) rfl (q_aload_n (pc' := 70) dX11_handles_69 rfl rfl (q_getR (pc' := 73) dX11_handles_70 rfl fr_RX11_51 ⟨by omega, rfl⟩ rfl (wM_36 hM) (by decide) (q_iconst (pc' := 74) _ dX11_handles_73 rfl kk_iconst_0 (q_iload_n (pc' := 75) dX11_handles_74 rfl rfl (q_iadd (pc' := 76) dX11_handles_75 rfl (q_ialde (pc' := 77) (32 * p + m) dX11_handles_76 rfl (by first | exact ⟨by omega, rfl⟩ | exact okaS hi hz (by decide) rfl | assumption) (by (first | (simp only [nI_add, pk_mul]; done) | (simp only [nI_add, pk_mul]; exact nI_e (by omega)) | exact nI_e (by omega))) (by omega) e4 (q_iconst (pc' := 78) _ dX11_handles_77 rfl kk_iconst_3 (q_bl_icmp_ne (p4 := 86) dX11_handles_78 dX11_handles_81 dX11_handles_82 dX11_handles_85 rfl rfl rfl rfl rfl ?_))))))))
        rw [nI_dec (by omega) (by omega)]
        refine q_ist_6 (pc' := 88) dX11_handles_86 rfl (by decide) rfl (q_aload_n (pc' := 89) dX11_handles_88 rfl rfl (q_getR (pc' := 92) dX11_handles_89 rfl fr_RX11_51 ⟨by omega, rfl⟩ rfl (wM_36 hM) (by decide) (q_sipush (pc' := 95) _ dX11_handles_92 rfl kk_sipush_768 (q_iload_n (pc' := 96) dX11_handles_95 rfl rfl (q_iadd (pc' := 97) dX11_handles_96 rfl (q_iconst (pc' := 98) _ dX11_handles_97 rfl kk_iconst_0 (q_iast (pc' := 99) (768 + (32 * p + m)) dX11_handles_98 rfl (by first | exact ⟨by omega, rfl⟩ | exact okaS hi hz (by decide) rfl | assumption) (by (first | (simp only [nI_add, pk_mul]; done) | (simp only [nI_add, pk_mul]; exact nI_e (by omega)) | exact nI_e (by omega))) (by omega) (q_aload_n (pc' := 100) dX11_handles_99 rfl rfl (q_getR (pc' := 103) dX11_handles_100 rfl fr_RX11_51 ⟨by omega, rfl⟩ rfl (wM_36 hM) (by decide) (q_sipush (pc' := 106) _ dX11_handles_103 rfl kk_sipush_1562 (q_iload_n (pc' := 107) dX11_handles_106 rfl rfl (q_iadd (pc' := 108) dX11_handles_107 rfl (q_dup2 (pc' := 109) dX11_handles_108 rfl ?_)))))))))))))
        refine q_ialde (pc' := 110) (1562 + p) dX11_handles_109 rfl (by first | exact ⟨by omega, rfl⟩ | exact okaS hi hz (by decide) rfl | assumption) (by (first | (simp only [nI_add, pk_mul]; done) | (simp only [nI_add, pk_mul]; exact nI_e (by omega)) | exact nI_e (by omega))) (by omega) e5 (q_iconst (pc' := 111) _ dX11_handles_110 rfl kk_iconst_1 (q_iadd (pc' := 112) dX11_handles_111 rfl ?_))
        refine q_top (nI_add _ _) ?_
        refine q_iast (pc' := 113) (1562 + p) dX11_handles_112 rfl (by first | exact ⟨by omega, rfl⟩ | exact okaS hi hz (by decide) rfl | assumption) (by (first | (simp only [nI_add, pk_mul]; done) | (simp only [nI_add, pk_mul]; exact nI_e (by omega)) | exact nI_e (by omega))) (by omega) (q_aload_n (pc' := 114) dX11_handles_113 rfl rfl (q_getR (pc' := 117) dX11_handles_114 rfl fr_RX11_51 ⟨by omega, rfl⟩ rfl (wM_36 hM) (by decide) (q_sipush (pc' := 120) _ dX11_handles_117 rfl kk_sipush_1524 (q_iload (pc' := 122) dX11_handles_120 rfl rfl (q_iadd (pc' := 123) dX11_handles_122 rfl (q_dup2 (pc' := 124) dX11_handles_123 rfl (q_ialde (pc' := 125) (1524 + id / 8) dX11_handles_124 rfl (by first | exact ⟨by omega, rfl⟩ | exact okaS hi hz (by decide) rfl | assumption) (by (first | (simp only [nI_add, pk_mul]; done) | (simp only [nI_add, pk_mul]; exact nI_e (by omega)) | exact nI_e (by omega))) (by omega) e6 (q_iconst (pc' := 126) _ dX11_handles_125 rfl kk_iconst_1 (q_iadd (pc' := 127) dX11_handles_126 rfl ?_)))))))))
        refine q_top (nI_add _ _) ?_
        refine q_iast (pc' := 128) (1524 + id / 8) dX11_handles_127 rfl (by first | exact ⟨by omega, rfl⟩ | exact okaS hi hz (by decide) rfl | assumption) (by (first | (simp only [nI_add, pk_mul]; done) | (simp only [nI_add, pk_mul]; exact nI_e (by omega)) | exact nI_e (by omega))) (by omega) (q_aload_n (pc' := 129) dX11_handles_128 rfl rfl (q_getR (pc' := 132) dX11_handles_129 rfl fr_RX11_51 ⟨by omega, rfl⟩ rfl (wM_36 hM) (by decide) (q_sipush (pc' := 135) _ dX11_handles_132 rfl kk_sipush_1571 (q_dup2 (pc' := 136) dX11_handles_135 rfl (q_ialde (pc' := 137) _ dX11_handles_136 rfl (by first | exact ⟨by omega, rfl⟩ | exact okaS hi hz (by decide) rfl | assumption) rfl (by omega) e7 (q_iconst (pc' := 138) _ dX11_handles_137 rfl kk_iconst_1 (q_iadd (pc' := 139) dX11_handles_138 rfl ?_)))))))
        refine q_top (nI_add _ _) ?_
        refine q_iast (pc' := 140) _ dX11_handles_139 rfl (by first | exact ⟨by omega, rfl⟩ | exact okaS hi hz (by decide) rfl | assumption) rfl (by omega) (q_aload_n (pc' := 141) dX11_handles_140 rfl rfl (q_iload (pc' := 143) dX11_handles_141 rfl rfl (q_iload (pc' := 145) dX11_handles_143 rfl rfl (q_iload_n (pc' := 146) dX11_handles_145 rfl rfl (q_iload_n (pc' := 147) dX11_handles_146 rfl rfl (q_iload (pc' := 149) dX11_handles_147 rfl rfl (q_sVv (pc' := 152) dX11_handles_149 rfl ml_RX11_365 yv_X11_logs (by decide) (rs_X11_logs (k := id % 8) hM r4 (by omega) (by omega) hp (by omega)) ⟨by omega, rfl⟩ rfl rfl (Nat.le_of_ble_eq_true rfl) (Nat.le_refl _) (fun I5 ⟨hF5, hR5⟩ => ?_))))))))
        have hF6 : mF I I5 := ((((mF_up.tr mF_up).tr mF_up).tr mF_up)).tr hF5
        have hR6 : rR (I5 464) (aHand1 A p (32 * p + m) id) := by
          unfold aHand1
          rw [← hde] at hR5
          have eo : (if (A 0 (32 * p + m) == 3) = true then 1 else 0) = (if A 0 (32 * p + m) = 3 then 1 else 0) := by
            by_cases z : A 0 (32 * p + m) = 3
            · rw [z]; rfl
            · rw [if_neg z, if_neg (by rw [beq_iff_eq]; exact z)]
          rw [eo] at hR5
          exact hR5
        have hok6 : aOK (aHand1 A p (32 * p + m) id) := aOK_hi (aOK_hi (aOK_hi (aOK_hi (aOK_hi (aOK_up hA (fun _ => by decide)) (by decide)) (by decide)) (by decide)) (by decide)) (by decide)
        have h46 : aHand1 A p (32 * p + m) id 4 (8 * (id / 8) + id % 8) = A 4 id := by
          rw [← hde]; rfl
        have fin : ∀ I', mF I I' ∧ rR (I' 464) (aHand A p (32 * p + m)) → Q none (472, I', J, R) := by
          intro I' h9
          refine hQ _ _ _ _ ⟨rfl, ⟨rfl, rfl⟩, h9.1, ?_⟩
          unfold aHandle
          rw [ht]
          exact h9.2
        unfold aHand at fin
        rw [hidn] at fin
        refine q_iload (pc' := 154) dX11_handles_152 rfl rfl (q_ifb_ne (pc' := 157) (pt := 185) dX11_handles_154 rfl rfl (fun h7 => ?_) (fun h7 => ?_))
        · rw [beq_iff_eq] at h7
          rw [if_neg (fun z => z.1 h7)] at fin
          exact q_vret dX11_handles_185 rfl (fin _ ⟨hF6, hR6⟩)
        · rw [beq_eq_false_iff_ne] at h7
          refine q_aload_n (pc' := 158) dX11_handles_157 rfl rfl (q_iload (pc' := 160) dX11_handles_158 rfl rfl (q_iload (pc' := 162) dX11_handles_160 rfl rfl (q_cVi (pc' := 165) dX11_handles_162 rfl ml_RX11_356 yv_X11_hasOld (by decide) (rn_X11_hasOld (d := id / 8) (k := id % 8) hM hR6 hok6 (by omega) (by omega)) ⟨by omega, rfl⟩ rfl rfl (Nat.le_of_ble_eq_true rfl) (Nat.le_refl _) (q_ifb_eq (pc' := 168) (pt := 185) dX11_handles_165 rfl rfl (fun h8 => ?_) (fun h8 => ?_)))))
          · rw [h46] at h8
            rw [if_neg (fun z => by have := bne_iff_ne.mpr z.2; rw [h8] at this; cases this)] at fin
            exact q_vret dX11_handles_185 rfl (fin _ ⟨hF6, hR6⟩)
          · rw [h46] at h8
            rw [if_pos ⟨h7, bne_iff_ne.mp h8⟩] at fin
            exact q_aload_n (pc' := 169) dX11_handles_168 rfl rfl (q_getR (pc' := 172) dX11_handles_169 rfl fr_RX11_51 ⟨by omega, rfl⟩ rfl (wM_36 hM) (by decide) (q_sipush (pc' := 175) _ dX11_handles_172 rfl kk_sipush_1344 (q_iload (pc' := 177) dX11_handles_175 rfl rfl (q_iload (pc' := 179) dX11_handles_177 rfl rfl (q_cSi (pc' := 182) dX11_handles_179 rfl ml_RX11_308 ys_X11_lineAt (by decide) (rn_X11_lineAt) rfl rfl (Nat.le_of_ble_eq_true rfl) (Nat.le_refl _) (q_iadd (pc' := 183) dX11_handles_182 rfl (q_iconst (pc' := 184) _ dX11_handles_183 rfl kk_iconst_1 (q_iast (pc' := 185) (1344 + id) dX11_handles_184 rfl (by first | exact ⟨by omega, rfl⟩ | exact okaS hi hz (by decide) rfl | assumption) (by rw [pk_mul, nI_add, nI_add]; exact nI_e (by omega)) (by omega) (q_vret dX11_handles_185 rfl (fin _ ⟨hF6.tr mF_up, rR_dr hR6 hid8⟩))))))))))
      · have h2 : A 2 (32 * p + m) = 0 := (nI_eq (a := A 2 (32 * p + m)) (b := 0) (by omega) (by omega)).mp h1
        rw [if_neg (by rw [h2]; decide)] at ht
        refine q_iinc_2 (pc' := 31) (lD m) dX11_handles_28 rfl (by decide) rfl (by
          unfold lD
          by_cases z : m = 0
          · subst z; decide
          · rw [if_neg z]; exact sb_m1 (by omega)) ?_
        refine q_goto (pc' := 7) dX11_handles_31 rfl ?_
        exact ih (by omega) ht
  exact loop (b 0 1) (Nat.le_refl _) rfl
end M9
