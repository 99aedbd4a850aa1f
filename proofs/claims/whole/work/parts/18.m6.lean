/-! ===== the reference: copies, START, claim, RAISE ===== -/
def bdF (f : Nat) : Nat := match f with
  | 0 => 5 | 1 => 81 | 2 => 2 | 3 => 257 | 4 => 257 | 5 => 2 | 6 => 2 | 7 => 2 | 8 => 2 | 9 => 2
  | _ => 0
theorem up_lt {A : St} {f j x g k m : Nat} (h : A g k < m) (hx : g = f → x < m) : mj_up A f j x g k < m := by
  unfold mj_up
  split
  · rename_i q; exact hx q.1
  · exact h
theorem aOK_up {A : St} {f j x : Nat} (h : aOK A) (hx : f < 10 → x < bdF f) : aOK (mj_up A f j x) := by
  refine ⟨fun k hk => ⟨?_, ?_, ?_⟩, fun k hk => ⟨?_, ?_, ?_, ?_⟩, fun k hk => ⟨?_, ?_⟩, fun k hk => ?_⟩
  · exact up_lt (h.1 k hk).1 (fun e => by subst e; exact hx (by decide))
  · exact Nat.le_of_lt_succ (up_lt (Nat.lt_succ_of_le (h.1 k hk).2.1) (fun e => by subst e; exact hx (by decide)))
  · exact up_lt (h.1 k hk).2.2 (fun e => by subst e; exact hx (by decide))
  · exact Nat.le_of_lt_succ (up_lt (Nat.lt_succ_of_le (h.2.1 k hk).1) (fun e => by subst e; exact hx (by decide)))
  · exact Nat.le_of_lt_succ (up_lt (Nat.lt_succ_of_le (h.2.1 k hk).2.1) (fun e => by subst e; exact hx (by decide)))
  · exact up_lt (h.2.1 k hk).2.2.1 (fun e => by subst e; exact hx (by decide))
  · exact up_lt (h.2.1 k hk).2.2.2 (fun e => by subst e; exact hx (by decide))
  · exact up_lt (h.2.2.1 k hk).1 (fun e => by subst e; exact hx (by decide))
  · exact up_lt (h.2.2.1 k hk).2 (fun e => by subst e; exact hx (by decide))
  · exact up_lt (h.2.2.2 k hk) (fun e => by subst e; exact hx (by decide))
theorem aOK_sets {A : St} {p s o : Nat} (h : aOK A) (hs : s < 5) (ho : o ≤ 80) : aOK (aSets A p s o) := aOK_up (aOK_up h (fun _ => hs)) (fun _ => Nat.lt_succ_of_le ho)
theorem aOK_holds {A : St} {id p : Nat} (h : aOK A) (hi : id < 80) (hp : p < 256) : aOK (aHolds A id p) := aOK_up (aOK_sets h (by decide) hi) (fun _ => by show p + 1 < 257; omega)
theorem aOK_noOld {A : St} {id : Nat} (h : aOK A) : aOK (aNoOld A id) := aOK_up (aOK_up h (fun _ => by decide)) (fun _ => by decide)
theorem aOK_leaves {b A : St} {id p : Nat} (h : aOK A) (hi : id < 80) : aOK (aLeaves b A id p) := by
  unfold aLeaves
  refine aOK_up (aOK_sets h ?_ ?_) (fun _ => by decide)
  · split <;> decide
  · split <;> omega
theorem aOK_merge {A : St} {d : Nat} (h : aOK A) : aOK (aMerge A d) := aOK_up (aOK_up h (fun z => absurd z (by decide))) (fun z => absurd z (by decide))
theorem aOK_pends {A : St} {d p : Nat} (h : aOK A) : aOK (aPends A d p) := by
  unfold aPends
  split
  · exact aOK_merge h
  · exact aOK_up h (fun _ => by decide)
/-- done for each below n, one behind another -/
def itN (f : Nat → St → St) : Nat → St → St
  | 0, A => A
  | n + 1, A => f n (itN f n A)
theorem itN_P {P : St → Prop} {f : Nat → St → St} {n : Nat} {A : St} (h0 : P A) (hs : ∀ k B, k < n → P B → P (f k B)) : ∀ m, m ≤ n → P (itN f m A)
  | 0, _ => h0
  | m + 1, hm => hs m _ (by omega) (itN_P h0 hs m (by omega))
def itO (f : Nat → St → Option St) : Nat → St → Option St
  | 0, A => some A
  | n + 1, A => (itO f n A).bind (f n)
theorem itO_none {f : Nat → St → Option St} {k n : Nat} {A : St} (h : itO f k A = none) (hk : k ≤ n) : itO f n A = none := by
  induction n with
  | zero => rw [show k = 0 by omega] at h; exact h
  | succ n ih =>
    by_cases e : k = n + 1
    · subst e; exact h
    · show (itO f n A).bind (f n) = none
      rw [ih (by omega)]; rfl
theorem itO_P {P : St → Prop} {f : Nat → St → Option St} {n : Nat} {A : St} (h0 : P A) (hs : ∀ k B C, k < n → P B → f k B = some C → P C) : ∀ m B, m ≤ n → itO f m A = some B → P B
  | 0, B, _, h => by cases h; exact h0
  | m + 1, B, hm, h => by
    cases hq : itO f m A with
    | none =>
      have h' : (itO f m A).bind (f m) = some B := h
      rw [hq] at h'; cases h'
    | some C =>
      have h' : (itO f m A).bind (f m) = some B := h
      rw [hq] at h'
      exact hs m C B (by omega) (itO_P h0 hs m C (by omega) hq) h'
def mj_cp (I : mj_M) (a n : Nat) (f : Nat → Int32) : mj_M := fun x k => if x = a ∧ k < n then f k else I x k
theorem cp_0 {I : mj_M} {a : Nat} {f : Nat → Int32} : mj_cp I a 0 f = I := by
  funext x k
  unfold mj_cp
  rw [if_neg (fun q => Nat.not_lt_zero _ q.2)]
theorem cp_s {I : mj_M} {a n : Nat} {f : Nat → Int32} : mj_up (mj_cp I a n f) a n (f n) = mj_cp I a (n + 1) f := by
  funext x k
  unfold mj_up mj_cp
  by_cases h1 : x = a
  · by_cases h2 : k = n
    · rw [if_pos ⟨h1, h2⟩, if_pos ⟨h1, by omega⟩, h2]
    · rw [if_neg (fun q => h2 q.2)]
      by_cases h3 : k < n
      · rw [if_pos ⟨h1, h3⟩, if_pos ⟨h1, by omega⟩]
      · rw [if_neg (fun q => h3 q.2), if_neg (fun q => h3 (by omega))]
  · rw [if_neg (fun q => h1 q.1), if_neg (fun q => h1 q.1), if_neg (fun q => h1 q.1)]
theorem cp_ne {I : mj_M} {a n x : Nat} {f : Nat → Int32} (h : x ≠ a) : mj_cp I a n f x = I x := by
  funext k; unfold mj_cp; rw [if_neg (fun q => h q.1)]
theorem cp_in {I : mj_M} {a n k : Nat} {f : Nat → Int32} (h : k < n) : mj_cp I a n f a k = f k := if_pos ⟨rfl, h⟩
/-- nothing but the row and what was put aside has changed -/
def mF2 (I I' : mj_M) : Prop := ∀ a, a ≠ 464 → a ≠ 465 → I' a = I a
theorem mF2.rf {I : mj_M} : mF2 I I := fun _ _ _ => rfl
theorem mF.two {I I' : mj_M} (h : mF I I') : mF2 I I' := fun a h1 _ => h a h1
theorem mF2.tr {I I' I2 : mj_M} (h : mF2 I I') (h2 : mF2 I' I2) : mF2 I I2 := fun a ha hb => (h2 a ha hb).trans (h a ha hb)
theorem mB_F2 {I I' : mj_M} {b : St} (h : mF2 I I') (hb : mB I b) : mB I' b := by
  unfold mB at hb ⊢
  rw [h 452 (by decide) (by decide), h 457 (by decide) (by decide), h 458 (by decide) (by decide), h 459 (by decide) (by decide)]
  exact hb
section M6
variable {w : mj_Wd} {l : Launch} {I : mj_M} {J : mj_J} {R : mj_R} {b A : St}
theorem rn_X11_putsAside (hM : mj_wM R) : Rn w l yX11_putsAside dd_X11_putsAside [.ref 452] (472, I, J, R) none (472, mj_cp I 465 1775 (I 464), J, R) := by
  refine rn_intro2 (L := [some (.ref 452), none]) ⟨by decide, rfl, (fun h => by cases h)⟩ (Nat.le_refl _) (Nat.le_of_ble_eq_true rfl) rfl (fun Y Q hQ => ?_)
  refine q_iconst (pc' := 1) _ dX11_putsAside_0 rfl kk_iconst_0 (q_ist_1 (pc' := 2) dX11_putsAside_1 rfl (by decide) rfl ?_)
  rw [← cp_0 (I := I) (a := 465) (f := I 464)] at ⊢
  have loop : ∀ m k, k + m = 1775 → Wq dd_X11_putsAside (mj_mk w l 472 Y) Q 2 [some (.ref 452), some (.int (nI k))] [] (472, mj_cp I 465 k (I 464), J, R) := by
    intro m
    induction m with
    | zero =>
      intro k hkm
      have hkz : k = 1775 := by omega
      subst hkz
      exact q_iload_n (pc' := 3) dX11_putsAside_2 rfl rfl (q_sipush (pc' := 6) _ dX11_putsAside_3 rfl kk_sipush_1775 (q_icmp_ge (pc' := 9) (pt := 27) dX11_putsAside_6 rfl rfl (fun _ => (q_vret dX11_putsAside_27 rfl hQ)) (fun h9 => absurd (by (first | assumption | exact nI_le (by omega) (by omega) | exact nI_ge (by omega) (by omega) | exact nI_lt (by omega) (by omega) | exact nI_nlt (by omega) (by omega) | exact nI_ne (by omega) (by omega) (by omega) | exact nI_e (by omega) | decide)) h9)))
    | succ m ih =>
      intro k hkm
      refine q_iload_n (pc' := 3) dX11_putsAside_2 rfl rfl (q_sipush (pc' := 6) _ dX11_putsAside_3 rfl kk_sipush_1775 (q_icmp_ge (pc' := 9) (pt := 27) dX11_putsAside_6 rfl rfl (fun h9 => absurd h9 (by (first | assumption | exact nI_le (by omega) (by omega) | exact nI_ge (by omega) (by omega) | exact nI_lt (by omega) (by omega) | exact nI_nlt (by omega) (by omega) | exact nI_ne (by omega) (by omega) (by omega) | exact nI_e (by omega) | decide))) (fun _ => (q_aload_n (pc' := 10) dX11_putsAside_9 rfl rfl (q_getR (pc' := 13) dX11_putsAside_10 rfl fr_RX11_54 ⟨by omega, rfl⟩ rfl (wM_37 hM) (by decide) (q_iload_n (pc' := 14) dX11_putsAside_13 rfl rfl (q_aload_n (pc' := 15) dX11_putsAside_14 rfl rfl (q_getR (pc' := 18) dX11_putsAside_15 rfl fr_RX11_51 ⟨by omega, rfl⟩ rfl (wM_36 hM) (by decide) (q_iload_n (pc' := 19) dX11_putsAside_18 rfl rfl (q_ialde (pc' := 20) _ dX11_putsAside_19 rfl (by first | exact ⟨by omega, rfl⟩ | exact okaS hi hz (by decide) rfl | assumption) rfl (by omega) (congrFun (cp_ne (by decide)) k) (q_iast (pc' := 21) _ dX11_putsAside_20 rfl (by first | exact ⟨by omega, rfl⟩ | exact okaS hi hz (by decide) rfl | assumption) rfl (by omega) ?_)))))))))))
      rw [cp_s]
      refine q_inc_1 (pc' := 24) dX11_putsAside_21 rfl (by decide) rfl (q_goto (pc' := 2) dX11_putsAside_24 rfl ?_)
      exact ih (k + 1) (by omega)
  have := loop 1775 0 (by omega)
  rw [cp_0] at this ⊢
  exact this
theorem rn_X11_comesBack (hM : mj_wM R) : Rn w l yX11_comesBack dd_X11_comesBack [.ref 452] (472, I, J, R) none (472, mj_cp I 464 1775 (I 465), J, R) := by
  refine rn_intro2 (L := [some (.ref 452), none]) ⟨by decide, rfl, (fun h => by cases h)⟩ (Nat.le_refl _) (Nat.le_of_ble_eq_true rfl) rfl (fun Y Q hQ => ?_)
  refine q_iconst (pc' := 1) _ dX11_comesBack_0 rfl kk_iconst_0 (q_ist_1 (pc' := 2) dX11_comesBack_1 rfl (by decide) rfl ?_)
  have loop : ∀ m k, k + m = 1775 → Wq dd_X11_comesBack (mj_mk w l 472 Y) Q 2 [some (.ref 452), some (.int (nI k))] [] (472, mj_cp I 464 k (I 465), J, R) := by
    intro m
    induction m with
    | zero =>
      intro k hkm
      have hkz : k = 1775 := by omega
      subst hkz
      exact q_iload_n (pc' := 3) dX11_comesBack_2 rfl rfl (q_sipush (pc' := 6) _ dX11_comesBack_3 rfl kk_sipush_1775 (q_icmp_ge (pc' := 9) (pt := 27) dX11_comesBack_6 rfl rfl (fun _ => (q_vret dX11_comesBack_27 rfl hQ)) (fun h9 => absurd (by (first | assumption | exact nI_le (by omega) (by omega) | exact nI_ge (by omega) (by omega) | exact nI_lt (by omega) (by omega) | exact nI_nlt (by omega) (by omega) | exact nI_ne (by omega) (by omega) (by omega) | exact nI_e (by omega) | decide)) h9)))
    | succ m ih =>
      intro k hkm
      refine q_iload_n (pc' := 3) dX11_comesBack_2 rfl rfl (q_sipush (pc' := 6) _ dX11_comesBack_3 rfl kk_sipush_1775 (q_icmp_ge (pc' := 9) (pt := 27) dX11_comesBack_6 rfl rfl (fun h9 => absurd h9 (by (first | assumption | exact nI_le (by omega) (by omega) | exact nI_ge (by omega) (by omega) | exact nI_lt (by omega) (by omega) | exact nI_nlt (by omega) (by omega) | exact nI_ne (by omega) (by omega) (by omega) | exact nI_e (by omega) | decide))) (fun _ => (q_aload_n (pc' := 10) dX11_comesBack_9 rfl rfl (q_getR (pc' := 13) dX11_comesBack_10 rfl fr_RX11_51 ⟨by omega, rfl⟩ rfl (wM_36 hM) (by decide) (q_iload_n (pc' := 14) dX11_comesBack_13 rfl rfl (q_aload_n (pc' := 15) dX11_comesBack_14 rfl rfl (q_getR (pc' := 18) dX11_comesBack_15 rfl fr_RX11_54 ⟨by omega, rfl⟩ rfl (wM_37 hM) (by decide) (q_iload_n (pc' := 19) dX11_comesBack_18 rfl rfl (q_ialde (pc' := 20) _ dX11_comesBack_19 rfl (by first | exact ⟨by omega, rfl⟩ | exact okaS hi hz (by decide) rfl | assumption) rfl (by omega) (congrFun (cp_ne (by decide)) k) (q_iast (pc' := 21) _ dX11_comesBack_20 rfl (by first | exact ⟨by omega, rfl⟩ | exact okaS hi hz (by decide) rfl | assumption) rfl (by omega) ?_)))))))))))
      rw [cp_s]
      refine q_inc_1 (pc' := 24) dX11_comesBack_21 rfl (by decide) rfl (q_goto (pc' := 2) dX11_comesBack_24 rfl ?_)
      exact ih (k + 1) (by omega)
  have := loop 1775 0 (by omega)
  rw [cp_0] at this
  exact this
/-- START of one, of a group: none, if there is no room -/
def aPutD (d p : Nat) : Nat → St → St := fun k A => aHolds A (8 * d + k) (p + k)
def aStD (b A : St) (d : Nat) : Option St := (aDealt b A (b 2 d) (b 3 d)).map (fun p => itN (aPutD d (32 * p + b 2 d * (aBlk b A p (b 2 d)).getD 0)) (b 2 d) A)
theorem rs_X11_startsDealt {d : Nat} (hM : mj_wM R) (hb : mB I b) (hk : bOK b) (hR : rR (I 464) A) (hA : aOK A) (hd : d < b 0 2) : RsI w l yX11_startsDealt dd_X11_startsDealt [.ref 452, .int (nI d)] (472, I, J, R) (fun x I' => (aStD b A d = none → x = nI 1) ∧ (∀ A', aStD b A d = some A' → x = nI 0 ∧ rR (I' 464) A') ∧ mF I I') := by
  have h10 : d < 10 := by have := hk.2.2.1; omega
  have hs := hk.2.2.2 d hd
  have hbd := hb.2.2.2 d hd
  have hc8 := hk.1.2
  have hv32 := hk.2.1.2
  refine rt_intro2 (L := [some (.ref 452), some (.int (nI d)), none, none, none]) ⟨by decide, rfl, (fun h => by cases h)⟩ (Nat.le_of_ble_eq_true rfl) rfl (fun Y Q hQ => ?_)
  refine q_aload_n (pc' := 1) dX11_startsDealt_0 rfl rfl (q_aload_n (pc' := 2) dX11_startsDealt_1 rfl rfl (q_getR (pc' := 5) dX11_startsDealt_2 rfl fr_RX11_32 ⟨by omega, rfl⟩ rfl (wM_30 hM) (by decide) (q_iload_n (pc' := 6) dX11_startsDealt_5 rfl rfl (q_ialde (pc' := 7) _ dX11_startsDealt_6 rfl (by first | exact ⟨by omega, rfl⟩ | exact okaS hi hz (by decide) rfl | assumption) rfl (by omega) hbd.2.1 (q_aload_n (pc' := 8) dX11_startsDealt_7 rfl rfl (q_getR (pc' := 11) dX11_startsDealt_8 rfl fr_RX11_35 ⟨by omega, rfl⟩ rfl (wM_31 hM) (by decide) (q_iload_n (pc' := 12) dX11_startsDealt_11 rfl rfl (q_ialde (pc' := 13) _ dX11_startsDealt_12 rfl (by first | exact ⟨by omega, rfl⟩ | exact okaS hi hz (by decide) rfl | assumption) rfl (by omega) hbd.2.2 (q_cVi (pc' := 16) dX11_startsDealt_13 rfl ml_RX11_317 yv_X11_dealt (by decide) (rn_X11_dealt hM hb hk hR hA hs.2.1 (by omega)) ⟨by omega, rfl⟩ rfl rfl (Nat.le_of_ble_eq_true rfl) (Nat.le_refl _) ?_)))))))))
  unfold aStD at hQ
  cases hq : aDealt b A (b 2 d) (b 3 d) with
  | none =>
    rw [hq] at hQ
    exact q_ist_2 (pc' := 17) dX11_startsDealt_16 rfl (by decide) rfl (q_iload_n (pc' := 18) dX11_startsDealt_17 rfl rfl (q_iconst (pc' := 19) _ dX11_startsDealt_18 rfl kk_iconst_m1 (q_icmp_ne (pc' := 22) (pt := 24) dX11_startsDealt_19 rfl rfl (fun h9 => absurd (by rfl) h9) (fun _ => (q_iconst (pc' := 23) _ dX11_startsDealt_22 rfl kk_iconst_1 (q_iret dX11_startsDealt_23 rfl (hQ _ _ _ _ ⟨_, rfl, ⟨rfl, rfl⟩, fun _ => rfl, fun A' h => (by cases h), mF.rf⟩)))))))
  | some p =>
    rw [hq] at hQ
    have hp := lstN_lt hq
    have hblk : ∃ i, aBlk b A p (b 2 d) = some i := by
      have h9 := hp.2
      unfold aDP at h9
      cases hz : aBlk b A p (b 2 d) with
      | none => rw [hz] at h9; simp at h9
      | some i => exact ⟨i, rfl⟩
    obtain ⟨i, hi⟩ := hblk
    have hiv := aBlk_lt hs.2.1.1 hi
    rw [Option.map_some, hi] at hQ
    refine q_ist_2 (pc' := 17) dX11_startsDealt_16 rfl (by decide) rfl (q_iload_n (pc' := 18) dX11_startsDealt_17 rfl rfl (q_iconst (pc' := 19) _ dX11_startsDealt_18 rfl kk_iconst_m1 (q_icmp_ne (pc' := 22) (pt := 24) dX11_startsDealt_19 rfl rfl (fun _ => (q_aload_n (pc' := 25) dX11_startsDealt_24 rfl rfl (q_iload_n (pc' := 26) dX11_startsDealt_25 rfl rfl (q_aload_n (pc' := 27) dX11_startsDealt_26 rfl rfl (q_getR (pc' := 30) dX11_startsDealt_27 rfl fr_RX11_32 ⟨by omega, rfl⟩ rfl (wM_30 hM) (by decide) (q_iload_n (pc' := 31) dX11_startsDealt_30 rfl rfl (q_ialde (pc' := 32) _ dX11_startsDealt_31 rfl (by first | exact ⟨by omega, rfl⟩ | exact okaS hi hz (by decide) rfl | assumption) rfl (by omega) hbd.2.1 (q_cVi (pc' := 35) dX11_startsDealt_32 rfl ml_RX11_298 yv_X11_blockOf (by decide) (rn_X11_blockOf (p := p) hM hb hk hR hA (by omega) hs.2.1) ⟨by omega, rfl⟩ rfl rfl (Nat.le_of_ble_eq_true rfl) (Nat.le_refl _) ?_)))))))) (fun h9 => absurd h9 (nI_m1 (by omega))))))
    rw [hi]
    refine q_ist_3 (pc' := 36) dX11_startsDealt_35 rfl (by decide) rfl (q_iconst (pc' := 37) _ dX11_startsDealt_36 rfl kk_iconst_0 (q_ist_4 (pc' := 39) dX11_startsDealt_37 rfl (by decide) rfl ?_))
    have loop : ∀ m k I0, k + m = b 2 d → mF I I0 → rR (I0 464) (itN (aPutD d (32 * p + b 2 d * i)) k A) → Wq dd_X11_startsDealt (mj_mk w l 472 Y) Q 39 [some (.ref 452), some (.int (nI d)), some (.int (nI p)), some (.int (nI (b 2 d * i))), some (.int (nI k))] [] (472, I0, J, R) := by
      intro m
      induction m with
      | zero =>
        intro k I0 hkm hF0 hR0
        have hkz : k = b 2 d := by omega
        subst hkz
        exact q_iload (pc' := 41) dX11_startsDealt_39 rfl rfl (q_aload_n (pc' := 42) dX11_startsDealt_41 rfl rfl (q_getR (pc' := 45) dX11_startsDealt_42 rfl fr_RX11_32 ⟨by omega, rfl⟩ rfl (wM_30 hM) (by decide) (q_iload_n (pc' := 46) dX11_startsDealt_45 rfl rfl (q_ialde (pc' := 47) _ dX11_startsDealt_46 rfl (by first | exact ⟨by omega, rfl⟩ | exact okaS hi hz (by decide) rfl | assumption) rfl (by omega) ((congrFun (hF0 458 (by decide)) d).trans hbd.2.1) (q_icmp_ge (pc' := 50) (pt := 68) dX11_startsDealt_47 rfl rfl (fun _ => (q_iconst (pc' := 69) _ dX11_startsDealt_68 rfl kk_iconst_0 (q_iret dX11_startsDealt_69 rfl (hQ _ _ _ _ ⟨_, rfl, ⟨rfl, rfl⟩, fun h => (by cases h), fun A' h => (by cases h; exact ⟨rfl, hR0⟩), hF0⟩)))) (fun h9 => absurd (by (first | assumption | exact nI_le (by omega) (by omega) | exact nI_ge (by omega) (by omega) | exact nI_lt (by omega) (by omega) | exact nI_nlt (by omega) (by omega) | exact nI_ne (by omega) (by omega) (by omega) | exact nI_e (by omega) | decide)) h9))))))
      | succ m ih =>
        intro k I0 hkm hF0 hR0
        refine q_iload (pc' := 41) dX11_startsDealt_39 rfl rfl (q_aload_n (pc' := 42) dX11_startsDealt_41 rfl rfl (q_getR (pc' := 45) dX11_startsDealt_42 rfl fr_RX11_32 ⟨by omega, rfl⟩ rfl (wM_30 hM) (by decide) (q_iload_n (pc' := 46) dX11_startsDealt_45 rfl rfl (q_ialde (pc' := 47) _ dX11_startsDealt_46 rfl (by first | exact ⟨by omega, rfl⟩ | exact okaS hi hz (by decide) rfl | assumption) rfl (by omega) ((congrFun (hF0 458 (by decide)) d).trans hbd.2.1) (q_icmp_ge (pc' := 50) (pt := 68) dX11_startsDealt_47 rfl rfl (fun h9 => absurd h9 (by (first | assumption | exact nI_le (by omega) (by omega) | exact nI_ge (by omega) (by omega) | exact nI_lt (by omega) (by omega) | exact nI_nlt (by omega) (by omega) | exact nI_ne (by omega) (by omega) (by omega) | exact nI_e (by omega) | decide))) (fun _ => (q_aload_n (pc' := 51) dX11_startsDealt_50 rfl rfl (q_iload_n (pc' := 52) dX11_startsDealt_51 rfl rfl (q_iload (pc' := 54) dX11_startsDealt_52 rfl rfl (q_iload_n (pc' := 55) dX11_startsDealt_54 rfl rfl (q_iload_n (pc' := 56) dX11_startsDealt_55 rfl rfl (q_iload (pc' := 58) dX11_startsDealt_56 rfl rfl (q_iadd (pc' := 59) dX11_startsDealt_58 rfl ?_)))))))))))))
        refine q_top (nI_add _ _) ?_
        refine q_sVv (pc' := 62) dX11_startsDealt_59 rfl ml_RX11_320 yv_X11_holds (by decide) (rs_X11_holds (p := p) (v := b 2 d * i + k) hM hR0 (by omega) (by omega) h10 (by omega)) ⟨by omega, rfl⟩ rfl rfl (Nat.le_of_ble_eq_true rfl) (Nat.le_refl _) (fun I1 ⟨hF1, hR1⟩ => ?_)
        refine q_inc_4 (pc' := 65) dX11_startsDealt_62 rfl (by decide) rfl (q_goto (pc' := 39) dX11_startsDealt_65 rfl ?_)
        refine ih (k + 1) I1 (by omega) (hF0.tr hF1) ?_
        show rR (I1 464) (aHolds (itN (aPutD d (32 * p + b 2 d * i)) k A) (8 * d + k) (32 * p + b 2 d * i + k))
        rw [Nat.add_assoc]
        exact hR1
    exact loop (b 2 d) 0 I (by omega) mF.rf hR
/-- START of QUEUES: what is RESERVED; what they HOLD -/
def aRsv (b : St) (d q : Nat) : Nat → St → Option St := fun p A => if (aSpread b d q).testBit p = true then (aBlk b A p 1).map (fun v => aSets A (32 * p + v) 4 (8 * d + q + 1)) else some A
def aRsvA (b : St) (d : Nat) (A : St) : Option St := itO (fun q A => itO (aRsv b d q) (b 0 0) A) (b 2 d) A
def aHoQ (b : St) (d : Nat) : Nat → St → St := fun q A => match aLeast b A (aSpread b d q) with
  | none => A
  | some p => aHolds A (8 * d + q) (32 * p + (aResv b A (8 * d + q) p).getD 0)
def aStQ (b A : St) (d : Nat) : Option St := (aRsvA b d A).map (itN (aHoQ b d) (b 2 d))
/-- what is told of the CPU to which a QUEUE goes: something is RESERVED there -/
def aHoOK (b A : St) (d : Nat) : Prop := ∀ A1, aRsvA b d A = some A1 → ∀ q, q < b 2 d → ∀ p, aLeast b (itN (aHoQ b d) q A1) (aSpread b d q) = some p → ∃ v, aResv b (itN (aHoQ b d) q A1) (8 * d + q) p = some v
theorem aOK_rsv {b A B : St} {d q p : Nat} (hA : aOK A) (hd : d < 10) (hq : q < 8) (h : aRsv b d q p A = some B) : aOK B := by
  unfold aRsv at h
  split at h
  · cases hz : aBlk b A p 1 with
    | none => rw [hz] at h; cases h
    | some v => rw [hz] at h; cases h; exact aOK_sets hA (by decide) (by omega)
  · cases h; exact hA
theorem aOK_hoQ {b A : St} {d q : Nat} (hk : bOK b) (hA : aOK A) (hd : d < 10) (hq : q < 8) : aOK (aHoQ b d q A) := by
  unfold aHoQ
  cases hz : aLeast b A (aSpread b d q) with
  | none => exact hA
  | some p =>
    have h1 := (lstN_lt hz).1
    have h2 := hk.1.2
    have h4 := hk.2.1
    have h3 : (aResv b A (8 * d + q) p).getD 0 < 32 := by
      cases hy : aResv b A (8 * d + q) p with
      | none => exact Nat.lt_of_lt_of_le (by decide) (Nat.le_refl _)
      | some v => have := ffi_some hy; show v < 32; omega
    exact aOK_holds hA (by omega) (by omega)
theorem rs_X11_startsQueues {d : Nat} (hM : mj_wM R) (hb : mB I b) (hk : bOK b) (hR : rR (I 464) A) (hA : aOK A) (hd : d < b 0 2) (hH : aHoOK b A d) : RsI w l yX11_startsQueues dd_X11_startsQueues [.ref 452, .int (nI d)] (472, I, J, R) (fun x I' => (aStQ b A d = none → x = nI 1) ∧ (∀ A', aStQ b A d = some A' → x = nI 0 ∧ rR (I' 464) A') ∧ mF I I') := by
  have h10 : d < 10 := by have := hk.2.2.1; omega
  have hs := hk.2.2.2 d hd
  have hbd := hb.2.2.2 d hd
  have hc8 := hk.1.2
  have hv32 := hk.2.1.2
  refine rt_intro2 (L := [some (.ref 452), some (.int (nI d)), none, none, none]) ⟨by decide, rfl, (fun h => by cases h)⟩ (Nat.le_of_ble_eq_true rfl) rfl (fun Y Q hQ => ?_)
  unfold aStQ at hQ
  -- the second loop
  have loop2 : ∀ A1, aRsvA b d A = some A1 → aOK A1 → ∀ m k I0 (o3 o4 : Option Value), k + m = b 2 d → mF I I0 → rR (I0 464) (itN (aHoQ b d) k A1) → Wq dd_X11_startsQueues (mj_mk w l 472 Y) Q 78 [some (.ref 452), some (.int (nI d)), some (.int (nI k)), o3, o4] [] (472, I0, J, R) := by
    intro A1 hA1 hok m
    rw [hA1, Option.map_some] at hQ
    induction m with
    | zero =>
      intro k I0 o3 o4 hkm hF0 hR0
      have hkz : k = b 2 d := by omega
      subst hkz
      exact q_iload_n (pc' := 79) dX11_startsQueues_78 rfl rfl (q_aload_n (pc' := 80) dX11_startsQueues_79 rfl rfl (q_getR (pc' := 83) dX11_startsQueues_80 rfl fr_RX11_32 ⟨by omega, rfl⟩ rfl (wM_30 hM) (by decide) (q_iload_n (pc' := 84) dX11_startsQueues_83 rfl rfl (q_ialde (pc' := 85) _ dX11_startsQueues_84 rfl (by first | exact ⟨by omega, rfl⟩ | exact okaS hi hz (by decide) rfl | assumption) rfl (by omega) ((congrFun (hF0 458 (by decide)) d).trans hbd.2.1) (q_icmp_ge (pc' := 88) (pt := 124) dX11_startsQueues_85 rfl rfl (fun _ => (q_iconst (pc' := 125) _ dX11_startsQueues_124 rfl kk_iconst_0 (q_iret dX11_startsQueues_125 rfl (hQ _ _ _ _ ⟨_, rfl, ⟨rfl, rfl⟩, fun h => (by cases h), fun A' h => (by cases h; exact ⟨rfl, hR0⟩), hF0⟩)))) (fun h9 => absurd (by (first | assumption | exact nI_le (by omega) (by omega) | exact nI_ge (by omega) (by omega) | exact nI_lt (by omega) (by omega) | exact nI_nlt (by omega) (by omega) | exact nI_ne (by omega) (by omega) (by omega) | exact nI_e (by omega) | decide)) h9))))))
    | succ m ih =>
      intro k I0 o3 o4 hkm hF0 hR0
      have hok0 : aOK (itN (aHoQ b d) k A1) := itN_P (n := b 2 d) hok (fun k B hk9 hB => aOK_hoQ hk hB h10 (by omega)) k (by omega)
      have hb := mB_F hF0 hb
      have hsp := aSpread_lt b hk d k
      refine q_iload_n (pc' := 79) dX11_startsQueues_78 rfl rfl (q_aload_n (pc' := 80) dX11_startsQueues_79 rfl rfl (q_getR (pc' := 83) dX11_startsQueues_80 rfl fr_RX11_32 ⟨by omega, rfl⟩ rfl (wM_30 hM) (by decide) (q_iload_n (pc' := 84) dX11_startsQueues_83 rfl rfl (q_ialde (pc' := 85) _ dX11_startsQueues_84 rfl (by first | exact ⟨by omega, rfl⟩ | exact okaS hi hz (by decide) rfl | assumption) rfl (by omega) ((congrFun (hF0 458 (by decide)) d).trans hbd.2.1) (q_icmp_ge (pc' := 88) (pt := 124) dX11_startsQueues_85 rfl rfl (fun h9 => absurd h9 (by (first | assumption | exact nI_le (by omega) (by omega) | exact nI_ge (by omega) (by omega) | exact nI_lt (by omega) (by omega) | exact nI_nlt (by omega) (by omega) | exact nI_ne (by omega) (by omega) (by omega) | exact nI_e (by omega) | decide))) (fun _ => (q_aload_n (pc' := 89) dX11_startsQueues_88 rfl rfl (q_aload_n (pc' := 90) dX11_startsQueues_89 rfl rfl (q_iload_n (pc' := 91) dX11_startsQueues_90 rfl rfl (q_iload_n (pc' := 92) dX11_startsQueues_91 rfl rfl (q_cVi (pc' := 95) dX11_startsQueues_92 rfl ml_RX11_324 yv_X11_spreadOf (by decide) (rn_X11_spreadOf hM hb hk hd (by omega)) ⟨by omega, rfl⟩ rfl rfl (Nat.le_of_ble_eq_true rfl) (Nat.le_refl _) (q_cVi (pc' := 98) dX11_startsQueues_95 rfl ml_RX11_327 yv_X11_leastOf (by decide) (rn_X11_leastOf hM hb hk hR0 hok0 (by omega)) ⟨by omega, rfl⟩ rfl rfl (Nat.le_of_ble_eq_true rfl) (Nat.le_refl _) ?_))))))))))))
      cases hq : aLeast b (itN (aHoQ b d) k A1) (aSpread b d k) with
      | none =>
        refine q_ist_3 (pc' := 99) dX11_startsQueues_98 rfl (by decide) rfl (q_iload_n (pc' := 100) dX11_startsQueues_99 rfl rfl (q_iconst (pc' := 101) _ dX11_startsQueues_100 rfl kk_iconst_m1 (q_icmp_eq (pc' := 104) (pt := 118) dX11_startsQueues_101 rfl rfl (fun _ => ?_) (fun h9 => absurd (by rfl) h9))))
        refine q_inc_2 (pc' := 121) dX11_startsQueues_118 rfl (by decide) rfl (q_goto (pc' := 78) dX11_startsQueues_121 rfl ?_)
        refine ih (k + 1) I0 _ _ (by omega) hF0 ?_
        show rR (I0 464) (aHoQ b d k (itN (aHoQ b d) k A1))
        unfold aHoQ at hq ⊢
        rw [hq]
        exact hR0
      | some p =>
        have hp := (lstN_lt hq).1
        obtain ⟨v, hv⟩ := hH A1 hA1 k (by omega) p hq
        have hv2 := ffi_some hv
        refine q_ist_3 (pc' := 99) dX11_startsQueues_98 rfl (by decide) rfl (q_iload_n (pc' := 100) dX11_startsQueues_99 rfl rfl (q_iconst (pc' := 101) _ dX11_startsQueues_100 rfl kk_iconst_m1 (q_icmp_eq (pc' := 104) (pt := 118) dX11_startsQueues_101 rfl rfl (fun h9 => absurd h9 (nI_m1 (by omega))) (fun _ => (q_aload_n (pc' := 105) dX11_startsQueues_104 rfl rfl (q_iload_n (pc' := 106) dX11_startsQueues_105 rfl rfl (q_iload_n (pc' := 107) dX11_startsQueues_106 rfl rfl (q_iload_n (pc' := 108) dX11_startsQueues_107 rfl rfl (q_aload_n (pc' := 109) dX11_startsQueues_108 rfl rfl (q_iload_n (pc' := 110) dX11_startsQueues_109 rfl rfl (q_iload_n (pc' := 111) dX11_startsQueues_110 rfl rfl (q_iload_n (pc' := 112) dX11_startsQueues_111 rfl rfl (q_cVi (pc' := 115) dX11_startsQueues_112 rfl ml_RX11_330 yv_X11_reservedAt (by decide) (rn_X11_reservedAt (p := p) hM hb hk hR0 hok0 h10 (by omega) (by omega)) ⟨by omega, rfl⟩ rfl rfl (Nat.le_of_ble_eq_true rfl) (Nat.le_refl _) ?_)))))))))))))
        rw [hv]
        refine q_sVv (pc' := 118) dX11_startsQueues_115 rfl ml_RX11_320 yv_X11_holds (by decide) (rs_X11_holds (p := p) (v := v) hM hR0 (by omega) (by omega) h10 (by omega)) ⟨by omega, rfl⟩ rfl rfl (Nat.le_of_ble_eq_true rfl) (Nat.le_refl _) (fun I1 ⟨hF1, hR1⟩ => ?_)
        refine q_inc_2 (pc' := 121) dX11_startsQueues_118 rfl (by decide) rfl (q_goto (pc' := 78) dX11_startsQueues_121 rfl ?_)
        refine ih (k + 1) I1 _ _ (by omega) (hF0.tr hF1) ?_
        show rR (I1 464) (aHoQ b d k (itN (aHoQ b d) k A1))
        have e : aHoQ b d k (itN (aHoQ b d) k A1) = aHolds (itN (aHoQ b d) k A1) (8 * d + k) (32 * p + v) := by
          rw [aHoQ]
          rw [hq]
          dsimp only
          rw [hv]
          rfl
        rw [e]
        exact hR1
  -- the first loop, over the CPUS of a QUEUE
  have inner : ∀ q, q < b 2 d → ∀ A0, aOK A0 → (∀ A1 I1 o4, itO (aRsv b d q) (b 0 0) A0 = some A1 → mF I I1 → rR (I1 464) A1 → Wq dd_X11_startsQueues (mj_mk w l 472 Y) Q 70 [some (.ref 452), some (.int (nI d)), some (.int (nI q)), some (.int (nI (b 0 0))), o4] [] (472, I1, J, R)) → (∀ I1, itO (aRsv b d q) (b 0 0) A0 = none → mF I I1 → Q (some (.int (nI 1))) (472, I1, J, R)) → ∀ m k Ak I0 (o4 : Option Value), k + m = b 0 0 → itO (aRsv b d q) k A0 = some Ak → mF I I0 → rR (I0 464) Ak → Wq dd_X11_startsQueues (mj_mk w l 472 Y) Q 14 [some (.ref 452), some (.int (nI d)), some (.int (nI q)), some (.int (nI k)), o4] [] (472, I0, J, R) := by
    intro q hq A0 hok0 hnext hfail m
    have hsp := aSpread_lt b hk d q
    induction m with
    | zero =>
      intro k Ak I0 o4 hkm hAk hF0 hR0
      have hkz : k = b 0 0 := by omega
      subst hkz
      have hb := mB_F hF0 hb
      refine q_iload_n (pc' := 15) dX11_startsQueues_14 rfl rfl (q_aload_n (pc' := 16) dX11_startsQueues_15 rfl rfl (q_getIe (pc' := 19) dX11_startsQueues_16 rfl fr_RX11_240 ⟨by omega, rfl⟩ rfl (mB_0 hb) (q_icmp_ge (pc' := 22) (pt := 70) dX11_startsQueues_19 rfl rfl (fun _ => ?_) (fun h9 => absurd (by (first | assumption | exact nI_le (by omega) (by omega) | exact nI_ge (by omega) (by omega) | exact nI_lt (by omega) (by omega) | exact nI_nlt (by omega) (by omega) | exact nI_ne (by omega) (by omega) (by omega) | exact nI_e (by omega) | decide)) h9))))
      exact hnext Ak I0 o4 hAk hF0 hR0
    | succ m ih =>
      intro k Ak I0 o4 hkm hAk hF0 hR0
      have hb := mB_F hF0 hb
      have hokk : aOK Ak := itO_P (P := aOK) (n := b 0 0) hok0 (fun k B C hk9 hB hC => aOK_rsv hB h10 (by omega) hC) k Ak (by omega) hAk
      have hstep : itO (aRsv b d q) (k + 1) A0 = aRsv b d q k Ak := by
        show (itO (aRsv b d q) k A0).bind _ = _
        rw [hAk]; rfl
      refine q_iload_n (pc' := 15) dX11_startsQueues_14 rfl rfl (q_aload_n (pc' := 16) dX11_startsQueues_15 rfl rfl (q_getIe (pc' := 19) dX11_startsQueues_16 rfl fr_RX11_240 ⟨by omega, rfl⟩ rfl (mB_0 hb) (q_icmp_ge (pc' := 22) (pt := 70) dX11_startsQueues_19 rfl rfl (fun h9 => absurd h9 (by (first | assumption | exact nI_le (by omega) (by omega) | exact nI_ge (by omega) (by omega) | exact nI_lt (by omega) (by omega) | exact nI_nlt (by omega) (by omega) | exact nI_ne (by omega) (by omega) (by omega) | exact nI_e (by omega) | decide))) (fun _ => (q_aload_n (pc' := 23) dX11_startsQueues_22 rfl rfl (q_iload_n (pc' := 24) dX11_startsQueues_23 rfl rfl (q_iload_n (pc' := 25) dX11_startsQueues_24 rfl rfl (q_cVi (pc' := 28) dX11_startsQueues_25 rfl ml_RX11_324 yv_X11_spreadOf (by decide) (rn_X11_spreadOf hM hb hk hd (by omega)) ⟨by omega, rfl⟩ rfl rfl (Nat.le_of_ble_eq_true rfl) (Nat.le_refl _) (q_iload_n (pc' := 29) dX11_startsQueues_28 rfl rfl (q_cSi (pc' := 32) dX11_startsQueues_29 rfl ml_RX11_192 ys_X11_isOf (by decide) (rn_X11_isOf) rfl rfl (Nat.le_of_ble_eq_true rfl) (Nat.le_refl _) (q_ifb_ne (pc' := 35) (pt := 38) dX11_startsQueues_32 rfl rfl (fun h1 => ?_) (fun h1 => ?_))))))))))))
      · rw [bitS_nI (by omega) (by omega)] at h1
        refine q_aload_n (pc' := 39) dX11_startsQueues_38 rfl rfl (q_iload_n (pc' := 40) dX11_startsQueues_39 rfl rfl (q_iconst (pc' := 41) _ dX11_startsQueues_40 rfl kk_iconst_1 (q_cVi (pc' := 44) dX11_startsQueues_41 rfl ml_RX11_298 yv_X11_blockOf (by decide) (rn_X11_blockOf (p := k) (n := 1) hM hb hk hR0 hokk (by omega) (by decide)) ⟨by omega, rfl⟩ rfl rfl (Nat.le_of_ble_eq_true rfl) (Nat.le_refl _) ?_)))
        cases hz : aBlk b Ak k 1 with
        | none =>
          have hno : itO (aRsv b d q) (b 0 0) A0 = none := by
            refine itO_none (k := k + 1) ?_ (by omega)
            rw [hstep]; unfold aRsv; rw [if_pos h1, hz]; rfl
          exact q_ist_4 (pc' := 46) dX11_startsQueues_44 rfl (by decide) rfl (q_iload (pc' := 48) dX11_startsQueues_46 rfl rfl (q_iconst (pc' := 49) _ dX11_startsQueues_48 rfl kk_iconst_m1 (q_icmp_ne (pc' := 52) (pt := 54) dX11_startsQueues_49 rfl rfl (fun h9 => absurd (by rfl) h9) (fun _ => (q_iconst (pc' := 53) _ dX11_startsQueues_52 rfl kk_iconst_1 (q_iret dX11_startsQueues_53 rfl (hfail I0 hno hF0)))))))
        | some v =>
          have hv := aBlk_lt (by decide) hz
          refine q_ist_4 (pc' := 46) dX11_startsQueues_44 rfl (by decide) rfl (q_iload (pc' := 48) dX11_startsQueues_46 rfl rfl (q_iconst (pc' := 49) _ dX11_startsQueues_48 rfl kk_iconst_m1 (q_icmp_ne (pc' := 52) (pt := 54) dX11_startsQueues_49 rfl rfl (fun _ => (q_aload_n (pc' := 55) dX11_startsQueues_54 rfl rfl (q_iload_n (pc' := 56) dX11_startsQueues_55 rfl rfl (q_iload (pc' := 58) dX11_startsQueues_56 rfl rfl (q_iconst (pc' := 59) _ dX11_startsQueues_58 rfl kk_iconst_4 (q_iload_n (pc' := 60) dX11_startsQueues_59 rfl rfl (q_iload_n (pc' := 61) dX11_startsQueues_60 rfl rfl (q_sVv (pc' := 64) dX11_startsQueues_61 rfl ml_RX11_304 yv_X11_sets (by decide) (rs_X11_sets (p := k) (v := 1 * v) (s := 4) hM hR0 (by omega) (by omega) (by decide) h10 (by omega)) ⟨by omega, rfl⟩ rfl rfl (Nat.le_of_ble_eq_true rfl) (Nat.le_refl _) (fun I1 ⟨hF1, hR1⟩ => ?_))))))))) (fun h9 => absurd h9 (nI_m1 (by omega))))))
          refine q_inc_3 (pc' := 67) dX11_startsQueues_64 rfl (by decide) rfl (q_goto (pc' := 14) dX11_startsQueues_67 rfl ?_)
          refine ih (k + 1) _ I1 _ (by omega) ?_ (hF0.tr hF1) hR1
          rw [hstep]; unfold aRsv; rw [if_pos h1, hz, Nat.one_mul]; rfl
      · rw [bitS_nI (by omega) (by omega)] at h1
        refine q_goto (pc' := 64) dX11_startsQueues_35 rfl (q_inc_3 (pc' := 67) dX11_startsQueues_64 rfl (by decide) rfl (q_goto (pc' := 14) dX11_startsQueues_67 rfl ?_))
        refine ih (k + 1) Ak I0 _ (by omega) ?_ hF0 hR0
        rw [hstep]; unfold aRsv; rw [if_neg (by rw [h1]; decide)]
  have loop1 : ∀ m k Ak I0 (o3 o4 : Option Value), k + m = b 2 d → itO (fun q A => itO (aRsv b d q) (b 0 0) A) k A = some Ak → mF I I0 → rR (I0 464) Ak → Wq dd_X11_startsQueues (mj_mk w l 472 Y) Q 2 [some (.ref 452), some (.int (nI d)), some (.int (nI k)), o3, o4] [] (472, I0, J, R) := by
    intro m
    have hokI : ∀ k Ak, k ≤ b 2 d → itO (fun q A => itO (aRsv b d q) (b 0 0) A) k A = some Ak → aOK Ak := fun k Ak hk9 hAk =>
      itO_P (P := aOK) (n := b 2 d) hA (fun k B C hk9 hB hC => itO_P (P := aOK) (n := b 0 0) hB (fun k2 B2 C2 hk2 hB2 hC2 => aOK_rsv hB2 h10 (by omega) hC2) (b 0 0) C (Nat.le_refl _) hC) k Ak hk9 hAk
    induction m with
    | zero =>
      intro k Ak I0 o3 o4 hkm hAk hF0 hR0
      have hkz : k = b 2 d := by omega
      subst hkz
      refine q_iload_n (pc' := 3) dX11_startsQueues_2 rfl rfl (q_aload_n (pc' := 4) dX11_startsQueues_3 rfl rfl (q_getR (pc' := 7) dX11_startsQueues_4 rfl fr_RX11_32 ⟨by omega, rfl⟩ rfl (wM_30 hM) (by decide) (q_iload_n (pc' := 8) dX11_startsQueues_7 rfl rfl (q_ialde (pc' := 9) _ dX11_startsQueues_8 rfl (by first | exact ⟨by omega, rfl⟩ | exact okaS hi hz (by decide) rfl | assumption) rfl (by omega) ((congrFun (hF0 458 (by decide)) d).trans hbd.2.1) (q_icmp_ge (pc' := 12) (pt := 76) dX11_startsQueues_9 rfl rfl (fun _ => (q_iconst (pc' := 77) _ dX11_startsQueues_76 rfl kk_iconst_0 (q_ist_2 (pc' := 78) dX11_startsQueues_77 rfl (by decide) rfl ?_))) (fun h9 => absurd (by (first | assumption | exact nI_le (by omega) (by omega) | exact nI_ge (by omega) (by omega) | exact nI_lt (by omega) (by omega) | exact nI_nlt (by omega) (by omega) | exact nI_ne (by omega) (by omega) (by omega) | exact nI_e (by omega) | decide)) h9))))))
      exact loop2 Ak hAk (hokI _ Ak (Nat.le_refl _) hAk) (b 2 d) 0 I0 _ _ (by omega) hF0 hR0
    | succ m ih =>
      intro k Ak I0 o3 o4 hkm hAk hF0 hR0
      have hstep : itO (fun q A => itO (aRsv b d q) (b 0 0) A) (k + 1) A = itO (aRsv b d k) (b 0 0) Ak := by
        show (itO (fun q A => itO (aRsv b d q) (b 0 0) A) k A).bind _ = _
        rw [hAk]; rfl
      refine q_iload_n (pc' := 3) dX11_startsQueues_2 rfl rfl (q_aload_n (pc' := 4) dX11_startsQueues_3 rfl rfl (q_getR (pc' := 7) dX11_startsQueues_4 rfl fr_RX11_32 ⟨by omega, rfl⟩ rfl (wM_30 hM) (by decide) (q_iload_n (pc' := 8) dX11_startsQueues_7 rfl rfl (q_ialde (pc' := 9) _ dX11_startsQueues_8 rfl (by first | exact ⟨by omega, rfl⟩ | exact okaS hi hz (by decide) rfl | assumption) rfl (by omega) ((congrFun (hF0 458 (by decide)) d).trans hbd.2.1) (q_icmp_ge (pc' := 12) (pt := 76) dX11_startsQueues_9 rfl rfl (fun h9 => absurd h9 (by (first | assumption | exact nI_le (by omega) (by omega) | exact nI_ge (by omega) (by omega) | exact nI_lt (by omega) (by omega) | exact nI_nlt (by omega) (by omega) | exact nI_ne (by omega) (by omega) (by omega) | exact nI_e (by omega) | decide))) (fun _ => (q_iconst (pc' := 13) _ dX11_startsQueues_12 rfl kk_iconst_0 (q_ist_3 (pc' := 14) dX11_startsQueues_13 rfl (by decide) rfl ?_))))))))
      refine inner k (by omega) Ak (hokI k Ak (by omega) hAk) (fun A1 I1 o4 h1 hF1 hR1 => ?_) (fun I1 h1 hF1 => ?_) (b 0 0) 0 Ak I0 _ (by omega) rfl hF0 hR0
      · refine q_inc_2 (pc' := 73) dX11_startsQueues_70 rfl (by decide) rfl (q_goto (pc' := 2) dX11_startsQueues_73 rfl ?_)
        exact ih (k + 1) A1 I1 _ _ (by omega) (hstep.trans h1) hF1 hR1
      · have hno : aRsvA b d A = none := itO_none (k := k + 1) (hstep.trans h1) (by omega)
        rw [hno] at hQ
        exact hQ _ _ _ _ ⟨_, rfl, ⟨rfl, rfl⟩, fun _ => rfl, fun A' h => (by cases h), hF1⟩
  refine q_iconst (pc' := 1) _ dX11_startsQueues_0 rfl kk_iconst_0 (q_ist_2 (pc' := 2) dX11_startsQueues_1 rfl (by decide) rfl ?_)
  exact loop1 (b 2 d) 0 A I _ _ (by omega) rfl mF.rf hR
end M6
