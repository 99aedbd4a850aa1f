/-! ===== the class itself: ACTS ===== -/
section QA
variable {d : mj_D} {X : mj_X} {Q : Option Value → mj_H → Prop} {pc pc' : Nat} {L : List (Option Value)} {st st0 : List Value} {z : Nat} {I : mj_M} {J : mj_J} {R : mj_R}
theorem q_sVa {y : MethodName} {d' : mj_D} {idx a ci n x : Nat} {As : List Value} {P : mj_M → Prop} (hd : decode d.1 pc = .ok (.invokevirtual idx, 3)) (hp : pc + 3 = pc') (hm : Cond.methodLink d.2.1 idx y ∈ mj_T) (hy : mj_yV y d' ci n) (hlv : d'.2.2.2.2.1 < d.2.2.2.2.1) (hr : RsA X.1 X.2.2.1 y d' (.ref a :: As) (z, I, J, R) x P) (ha : mj_ok z a ci) (hst : st0 = As.reverse ++ .ref a :: st) (hlen : As.length = n) (hw : (st.map fun v => v.category).sum ≤ 8) (hzf : z ≤ mj_zf X) (hn : ∀ I', P I' → Wq d X Q pc' L (.ref x :: st) (z, I', J, R)) : Wq d X Q pc L st0 (z, I, J, R) :=
  q_tV hd hp hm hy hlv hr ha hst hlen hw hzf (fun v I' J' R' ⟨hv, ⟨hj, hr2⟩, hP⟩ => by
    have hj : J' = J := hj
    have hr2 : R' = R := hr2
    subst hv; subst hj; subst hr2
    exact hn I' hP)
end QA
/-- the references that never change -/
def wSt (R : mj_R) : Prop := mj_wV R ∧ mj_wB R 4 ∧ mj_wB R 17 ∧ ∀ i, i < 21 → mj_wS R i
/-- only the history's own cells change -/
def hF (I I' : mj_M) : Prop := ∀ a, (a < 28 ∨ 390 ≤ a) → I' a = I a
/-- an ACT: its answer; what the class keeps then -/
def aP (I : mj_M) (J : mj_J) (R : mj_R) (b A : St) (ps : Nat → St) (n u r : Nat) (A' : St) (x : Int32) (I' : mj_M) (J' : mj_J) (R' : mj_R) : Prop := x = nI r ∧ J' = J ∧ hF I I' ∧ mRh R R' ∧ ∃ c' s', cH I' R' b (if r = 0 then hPush ps n A else ps) (if r = 0 then hN n else n) (if r = 0 then 0 else u) A' c' s'
/-- an ACT that is kept always -/
def dP (I : mj_M) (J : mj_J) (R : mj_R) (b A : St) (ps : Nat → St) (n : Nat) (y : Int32) (A' : St) (x : Int32) (I' : mj_M) (J' : mj_J) (R' : mj_R) : Prop := x = y ∧ J' = J ∧ hF I I' ∧ mRh R R' ∧ ∃ c' s', cH I' R' b (hPush ps n A) (hN n) 0 A' c' s'
section VD1
variable {w : mj_Wd} {l : Launch} {I : mj_M} {J : mj_J} {R : mj_R} {b A B : St} {ps : Nat → St} {n u c s : Nat}
theorem cH_lt (h : cH I R b ps n u A c s) : c < 18 ∧ s < 18 := by
  obtain ⟨o, g, h1, h2, h3, h4⟩ := h
  exact ⟨h2.2.1.1, h2.2.1.2.1⟩
theorem hF.rf : hF I I := fun _ _ => rfl
theorem hF.tr {I1 I2 : mj_M} (h : hF I I1) (h2 : hF I1 I2) : hF I I2 := fun a ha => (h2 a ha).trans (h a ha)
theorem mS.hF {I' : mj_M} (hs : s < 18) (h : mS s I I') : hF I I' := fun a ha => h a (fun c hc => by unfold sA; omega)
theorem hF_28 {I' : mj_M} (h : ∀ a, a ≠ 28 → I' a = I a) : hF I I' := fun a ha => h a (by omega)
theorem aP_of {I2 I3 : mj_M} {J3 : mj_J} {R3 : mj_R} {r : Nat} {A' : St} {x : Int32} (hs : s < 18) (f : mS s I I2) (k1 : x = nI r) (k2 : J3 = J) (k3 : ∀ a, a ≠ 28 → I3 a = I2 a) (k4 : mRh R R3) (k5 : ∃ c' s', cH I3 R3 b (if r = 0 then hPush ps n A else ps) (if r = 0 then hN n else n) (if r = 0 then 0 else u) A' c' s') : aP I J R b A ps n u r A' x I3 J3 R3 := ⟨k1, k2, (f.hF hs).tr (hF_28 k3), k4, k5⟩
theorem dP_of {I2 I3 : mj_M} {J3 : mj_J} {R3 : mj_R} {A' : St} {x y : Int32} (hs : s < 18) (f : mS s I I2) (k1 : x = y) (k2 : J3 = J) (k3 : ∀ a, a ≠ 28 → I3 a = I2 a) (k4 : mRh R R3) (k5 : ∃ c' s', cH I3 R3 b (hPush ps n A) (hN n) 0 A' c' s') : dP I J R b A ps n y A' x I3 J3 R3 := ⟨k1, k2, (f.hF hs).tr (hF_28 k3), k4, k5⟩
theorem rt_X10_keepIfDone {r : Nat} (hV : mj_wV R) (h : cH I R b ps n u A c s) (hr : r < 10) (hB : r = 0 → cR I s b B) (h0 : r ≠ 0 → B = A) : RtI w l yX10_keepIfDone dd_X10_keepIfDone [.ref 0, .int (nI r)] (472, I, J, R) (fun x I' J' R' => x = nI r ∧ J' = J ∧ (∀ a, a ≠ 28 → I' a = I a) ∧ mRh R R' ∧ ∃ c' s', cH I' R' b (if r = 0 then hPush ps n A else ps) (if r = 0 then hN n else n) (if r = 0 then 0 else u) B c' s') := by
  refine rt_intro2 (L := [some (.ref 0), some (.int (nI r))]) ⟨by decide, rfl, (fun h => by cases h)⟩ (Nat.le_of_ble_eq_true rfl) rfl (fun Y Q hQ => ?_)
  by_cases e : r = 0
  · subst e
    refine q_iload_n (pc' := 1) dX10_keepIfDone_0 rfl rfl (q_if_ne (pc' := 4) (pt := 11) dX10_keepIfDone_1 rfl rfl (fun h9 => absurd (rfl) h9) (fun _ => (q_aload_n (pc' := 5) dX10_keepIfDone_4 rfl rfl (q_getR (pc' := 8) dX10_keepIfDone_5 rfl fr_RX10_62 ⟨by omega, rfl⟩ rfl (wV_10_6 hV) (by decide) (q_tVv (pc' := 11) dX10_keepIfDone_8 rfl ml_RX10_139 yv_X2_keep (by decide) (rt_X2_keep hV h (hB rfl)) ⟨by omega, rfl⟩ rfl rfl (Nat.le_of_ble_eq_true rfl) (Nat.le_refl _) (fun I1 J1 R1 ⟨k1, k2, k3, s', k4⟩ => ?_))))))
    subst k1
    exact q_iload_n (pc' := 12) dX10_keepIfDone_11 rfl rfl (q_iret dX10_keepIfDone_12 rfl (hQ _ _ _ _ ⟨_, rfl, rfl, rfl, k2, k3, s, s', by rw [if_pos rfl, if_pos rfl, if_pos rfl]; exact k4⟩))
  · exact q_iload_n (pc' := 1) dX10_keepIfDone_0 rfl rfl (q_if_ne (pc' := 4) (pt := 11) dX10_keepIfDone_1 rfl rfl (fun _ => (q_iload_n (pc' := 12) dX10_keepIfDone_11 rfl rfl (q_iret dX10_keepIfDone_12 rfl (hQ _ _ _ _ ⟨_, rfl, rfl, rfl, fun _ _ => rfl, mRh.rf, c, s, by rw [if_neg e, if_neg e, if_neg e, h0 e]; exact h⟩)))) (fun h9 => absurd h9 (nI_ne (b := 0) e (by omega) (by decide))))
theorem rt_X10_keepIfAny {x : Int32} (hV : mj_wV R) (h : cH I R b ps n u A c s) (hx : x ≠ -1) (hB : cR I s b B) : RtI w l yX10_keepIfAny dd_X10_keepIfAny [.ref 0, .int x] (472, I, J, R) (fun y I' J' R' => y = x ∧ J' = J ∧ (∀ a, a ≠ 28 → I' a = I a) ∧ mRh R R' ∧ ∃ c' s', cH I' R' b (hPush ps n A) (hN n) 0 B c' s') := by
  refine rt_intro2 (L := [some (.ref 0), some (.int x)]) ⟨by decide, rfl, (fun h => by cases h)⟩ (Nat.le_of_ble_eq_true rfl) rfl (fun Y Q hQ => ?_)
  refine q_iload_n (pc' := 1) dX10_keepIfAny_0 rfl rfl (q_iconst (pc' := 2) _ dX10_keepIfAny_1 rfl kk_iconst_m1 (q_icmp_eq (pc' := 5) (pt := 12) dX10_keepIfAny_2 rfl rfl (fun h9 => absurd h9 (hx)) (fun _ => (q_aload_n (pc' := 6) dX10_keepIfAny_5 rfl rfl (q_getR (pc' := 9) dX10_keepIfAny_6 rfl fr_RX10_62 ⟨by omega, rfl⟩ rfl (wV_10_6 hV) (by decide) (q_tVv (pc' := 12) dX10_keepIfAny_9 rfl ml_RX10_139 yv_X2_keep (by decide) (rt_X2_keep hV h hB) ⟨by omega, rfl⟩ rfl rfl (Nat.le_of_ble_eq_true rfl) (Nat.le_refl _) (fun I1 J1 R1 ⟨k1, k2, k3, s', k4⟩ => ?_)))))))
  subst k1
  exact q_iload_n (pc' := 13) dX10_keepIfAny_12 rfl rfl (q_iret dX10_keepIfAny_13 rfl (hQ _ _ _ _ ⟨_, rfl, rfl, rfl, k2, k3, s, s', k4⟩))
theorem rn_X10_keepIfAny0 {h : mj_H} : Rn w l yX10_keepIfAny dd_X10_keepIfAny [.ref 0, .int (-1)] h (some (.int (-1))) h := by
  refine rn_intro2 (L := [some (.ref 0), some (.int (-1))]) ⟨by decide, rfl, (fun h => by cases h)⟩ (Nat.le_refl _) (Nat.le_of_ble_eq_true rfl) rfl (fun Y Q hQ => ?_)
  exact q_iload_n (pc' := 1) dX10_keepIfAny_0 rfl rfl (q_iconst (pc' := 2) _ dX10_keepIfAny_1 rfl kk_iconst_m1 (q_icmp_eq (pc' := 5) (pt := 12) dX10_keepIfAny_2 rfl rfl (fun _ => (q_iload_n (pc' := 13) dX10_keepIfAny_12 rfl rfl (q_iret dX10_keepIfAny_13 rfl hQ))) (fun h9 => absurd (rfl) h9)))
theorem start_eq {d : Nat} (h : (aStart b A d).1 ≠ 0) : (aStart b A d).2 = A := by
  unfold aStart at h ⊢
  split
  · rfl
  · rename_i h7
    rw [if_neg h7] at h
    revert h
    split
    · intro _; rfl
    · split
      · intro _; rfl
      · intro h; exact absurd rfl h
theorem claim_eq {d : Nat} (h : (aClaim b A d).1 ≠ 0) : (aClaim b A d).2 = A := by
  unfold aClaim at h ⊢
  split
  · rfl
  · rename_i h7
    rw [if_neg h7] at h
    revert h
    split
    · intro _; rfl
    · intro h; exact absurd rfl h
theorem move_eq {d k set : Nat} (h : (aMove b A d k set).1 ≠ 0) : (aMove b A d k set).2 = A := by
  unfold aMove at h ⊢
  split
  · rename_i h7
    rw [if_pos h7] at h
    revert h
    split
    · intro _; rfl
    · split
      · intro _; rfl
      · intro h; exact absurd rfl h
  · rfl
theorem plug_eq {p : Nat} (h : (aPlug b A p).1 ≠ 0) : (aPlug b A p).2 = A := by
  unfold aPlug at h ⊢
  split
  · rfl
  · rename_i h7
    rw [if_neg h7] at h
    exact absurd rfl h
theorem unplug_eq {p : Nat} (h : (aUnplug b A p).1 ≠ 0) : (aUnplug b A p).2 = A := by
  rcases un_cases (b := b) (A := A) (p := p) with ⟨_, h2⟩ | ⟨h1, _⟩
  · exact h2
  · exact absurd h1 h
theorem rs_begin {i d : Nat} (hi : i < 21) (hS : mj_wS R i) (hB : mj_wB R 4) (hb : cB I b) (hR : bRd b) (h : cR I i b A) (hA : gI b 8 A) (hd : d < b 0 2) : RsI w l yX5_begin dd_X5_begin [.ref (sA i 0), .int (nI d)] (472, I, J, R) (fun x I' => x = nI (aStart b A d).1 ∧ cR I' i b (aStart b A d).2 ∧ mS i I I') := by
  have hk := hR.1
  have hcl : A 7 d ≠ 1 → clrD A d := fun h7 => clrD_of hk hA.1 hd h7
  by_cases h3 : b 1 d = 3
  · have h8 := (hA.1.2.2.1 d (by have := hk.2.2.1; omega)).2.2.1 hd h3
    exact rs_X5_begin_q hi hS hB hb hk h (gC_aOK hk hA.1) hd h3 (hR.2.2.2.1 d hd).1 (by omega) hcl aHoOK_all
  · exact rs_X5_begin_d hi hS hB hb hk h hd h3 hcl
theorem rn_X10_start0 {x : Int32} (hW : wSt R) (hb : cB I b) (hk : bOK b) (hx : inN x (b 0 2) = false) : Rn w l yX10_start dd_X10_start [.ref 0, .int x] (472, I, J, R) (some (.int (-1))) (472, I, J, R) := by
  have hV := hW.1
  refine rn_intro2 (L := [some (.ref 0), some (.int x)]) ⟨by decide, rfl, (fun h => by cases h)⟩ (Nat.le_refl _) (Nat.le_of_ble_eq_true rfl) rfl (fun Y Q hQ => ?_)
  exact q_aload_n (pc' := 1) dX10_start_0 rfl rfl (q_getR (pc' := 4) dX10_start_1 rfl fr_RX10_26 ⟨by omega, rfl⟩ rfl (wV_10_3 hV) (by decide) (q_iload_n (pc' := 5) dX10_start_4 rfl rfl (q_cVi (pc' := 8) dX10_start_5 rfl ml_RX10_184 yv_X0_hasDevice (by decide) (rn_X0_hasDevice hb hk) (by first | assumption | exact ⟨by omega, rfl⟩) rfl rfl (Nat.le_of_ble_eq_true rfl) (Nat.le_refl _) (q_ifb_ne (pc' := 11) (pt := 13) dX10_start_8 rfl rfl (fun h9 => Bool.noConfusion (Eq.trans (Eq.symm (hx)) h9)) (fun _ => (q_iconst (pc' := 12) _ dX10_start_11 rfl kk_iconst_m1 (q_iret dX10_start_12 rfl hQ)))))))
theorem rt_X10_start {d : Nat} (hW : wSt R) (hb : cB I b) (hR : bRd b) (h : cH I R b ps n u A c s) (hA : gI b 8 A) (hd : d < b 0 2) : RtI w l yX10_start dd_X10_start [.ref 0, .int (nI d)] (472, I, J, R) (aP I J R b A ps n u (aStart b A d).1 (aStart b A d).2) := by
  have hk := hR.1
  have hV := hW.1
  have hin : inN (nI d) (b 0 2) = true := inN_t (by have := hk.2.2.1; omega) hd
  obtain ⟨hc18, hs18⟩ := cH_lt h
  have hi : s < 21 := by omega
  have hz : 50 + 20 * s ≤ 472 := by omega
  refine rt_intro2 (L := [some (.ref 0), some (.int (nI d))]) ⟨by decide, rfl, (fun h => by cases h)⟩ (Nat.le_of_ble_eq_true rfl) rfl (fun Y Q hQ => ?_)
  refine q_aload_n (pc' := 1) dX10_start_0 rfl rfl (q_getR (pc' := 4) dX10_start_1 rfl fr_RX10_26 ⟨by omega, rfl⟩ rfl (wV_10_3 hV) (by decide) (q_iload_n (pc' := 5) dX10_start_4 rfl rfl (q_cVi (pc' := 8) dX10_start_5 rfl ml_RX10_184 yv_X0_hasDevice (by decide) (rn_X0_hasDevice hb hk) (by first | assumption | exact ⟨by omega, rfl⟩) rfl rfl (Nat.le_of_ble_eq_true rfl) (Nat.le_refl _) (q_ifb_ne (pc' := 11) (pt := 13) dX10_start_8 rfl rfl (fun _ => (q_aload_n (pc' := 14) dX10_start_13 rfl rfl (q_aload_n (pc' := 15) dX10_start_14 rfl rfl (q_getR (pc' := 18) dX10_start_15 rfl fr_RX10_62 ⟨by omega, rfl⟩ rfl (wV_10_6 hV) (by decide) (q_sVa (pc' := 21) dX10_start_18 rfl ml_RX10_122 yv_X2_draft (by decide) (rs_X2_draft hW.2.2.2 h (h01_of hk hA.1)) ⟨by omega, rfl⟩ rfl rfl (Nat.le_of_ble_eq_true rfl) (Nat.le_refl _) (fun I1 ⟨r1, f1⟩ => (q_iload_n (pc' := 22) dX10_start_21 rfl rfl (q_sVi (pc' := 25) dX10_start_22 rfl ml_RX10_148 yv_X5_begin (by decide) (rs_begin hi (hW.2.2.2 s hi) hW.2.1 (cB_S f1 hb) hR r1 hA hd) (okS hi hz (by decide) rfl) rfl rfl (Nat.le_of_ble_eq_true rfl) (Nat.le_refl _) (fun x2 I2 ⟨t1, r2, f2⟩ => ?_))))))))) (fun h9 => Bool.noConfusion (Eq.trans (Eq.symm (hin)) h9))))))
  subst t1
  refine q_tVi (pc' := 28) dX10_start_25 rfl ml_RX10_188 yv_X10_keepIfDone (by decide) (rt_X10_keepIfDone (B := (aStart b A d).2) hV (cH_S h (f1.tr f2)) start_lt (fun _ => r2) start_eq) ⟨by omega, rfl⟩ rfl rfl (Nat.le_of_ble_eq_true rfl) (Nat.le_refl _) (fun x3 I3 J3 R3 ⟨k1, k2, k3, k4, k5⟩ => ?_)
  exact q_iret dX10_start_28 rfl (hQ _ _ _ _ ⟨_, rfl, aP_of hs18 (f1.tr f2) k1 k2 k3 k4 k5⟩)
theorem rn_X10_claim0 {x : Int32} (hW : wSt R) (hb : cB I b) (hk : bOK b) (hx : inN x (b 0 2) = false) : Rn w l yX10_claim dd_X10_claim [.ref 0, .int x] (472, I, J, R) (some (.int (-1))) (472, I, J, R) := by
  have hV := hW.1
  refine rn_intro2 (L := [some (.ref 0), some (.int x)]) ⟨by decide, rfl, (fun h => by cases h)⟩ (Nat.le_refl _) (Nat.le_of_ble_eq_true rfl) rfl (fun Y Q hQ => ?_)
  exact q_aload_n (pc' := 1) dX10_claim_0 rfl rfl (q_getR (pc' := 4) dX10_claim_1 rfl fr_RX10_26 ⟨by omega, rfl⟩ rfl (wV_10_3 hV) (by decide) (q_iload_n (pc' := 5) dX10_claim_4 rfl rfl (q_cVi (pc' := 8) dX10_claim_5 rfl ml_RX10_184 yv_X0_hasDevice (by decide) (rn_X0_hasDevice hb hk) (by first | assumption | exact ⟨by omega, rfl⟩) rfl rfl (Nat.le_of_ble_eq_true rfl) (Nat.le_refl _) (q_ifb_ne (pc' := 11) (pt := 13) dX10_claim_8 rfl rfl (fun h9 => Bool.noConfusion (Eq.trans (Eq.symm (hx)) h9)) (fun _ => (q_iconst (pc' := 12) _ dX10_claim_11 rfl kk_iconst_m1 (q_iret dX10_claim_12 rfl hQ)))))))
theorem rt_X10_claim {d : Nat} (hW : wSt R) (hb : cB I b) (hR : bRd b) (h : cH I R b ps n u A c s) (hA : gI b 8 A) (hd : d < b 0 2) : RtI w l yX10_claim dd_X10_claim [.ref 0, .int (nI d)] (472, I, J, R) (aP I J R b A ps n u (aClaim b A d).1 (aClaim b A d).2) := by
  have hk := hR.1
  have hV := hW.1
  have hin : inN (nI d) (b 0 2) = true := inN_t (by have := hk.2.2.1; omega) hd
  obtain ⟨hc18, hs18⟩ := cH_lt h
  have hi : s < 21 := by omega
  have hz : 50 + 20 * s ≤ 472 := by omega
  refine rt_intro2 (L := [some (.ref 0), some (.int (nI d))]) ⟨by decide, rfl, (fun h => by cases h)⟩ (Nat.le_of_ble_eq_true rfl) rfl (fun Y Q hQ => ?_)
  refine q_aload_n (pc' := 1) dX10_claim_0 rfl rfl (q_getR (pc' := 4) dX10_claim_1 rfl fr_RX10_26 ⟨by omega, rfl⟩ rfl (wV_10_3 hV) (by decide) (q_iload_n (pc' := 5) dX10_claim_4 rfl rfl (q_cVi (pc' := 8) dX10_claim_5 rfl ml_RX10_184 yv_X0_hasDevice (by decide) (rn_X0_hasDevice hb hk) (by first | assumption | exact ⟨by omega, rfl⟩) rfl rfl (Nat.le_of_ble_eq_true rfl) (Nat.le_refl _) (q_ifb_ne (pc' := 11) (pt := 13) dX10_claim_8 rfl rfl (fun _ => (q_aload_n (pc' := 14) dX10_claim_13 rfl rfl (q_aload_n (pc' := 15) dX10_claim_14 rfl rfl (q_getR (pc' := 18) dX10_claim_15 rfl fr_RX10_62 ⟨by omega, rfl⟩ rfl (wV_10_6 hV) (by decide) (q_sVa (pc' := 21) dX10_claim_18 rfl ml_RX10_122 yv_X2_draft (by decide) (rs_X2_draft hW.2.2.2 h (h01_of hk hA.1)) ⟨by omega, rfl⟩ rfl rfl (Nat.le_of_ble_eq_true rfl) (Nat.le_refl _) (fun I1 ⟨r1, f1⟩ => (q_iload_n (pc' := 22) dX10_claim_21 rfl rfl (q_sVi (pc' := 25) dX10_claim_22 rfl ml_RX10_155 yv_X5_promise (by decide) (rs_X5_promise hi (hW.2.2.2 s hi) hW.2.1 (cB_S f1 hb) hk r1 hd) (okS hi hz (by decide) rfl) rfl rfl (Nat.le_of_ble_eq_true rfl) (Nat.le_refl _) (fun x2 I2 ⟨t1, r2, f2⟩ => ?_))))))))) (fun h9 => Bool.noConfusion (Eq.trans (Eq.symm (hin)) h9))))))
  subst t1
  refine q_tVi (pc' := 28) dX10_claim_25 rfl ml_RX10_188 yv_X10_keepIfDone (by decide) (rt_X10_keepIfDone (B := (aClaim b A d).2) hV (cH_S h (f1.tr f2)) claim_lt (fun _ => r2) claim_eq) ⟨by omega, rfl⟩ rfl rfl (Nat.le_of_ble_eq_true rfl) (Nat.le_refl _) (fun x3 I3 J3 R3 ⟨k1, k2, k3, k4, k5⟩ => ?_)
  exact q_iret dX10_claim_28 rfl (hQ _ _ _ _ ⟨_, rfl, aP_of hs18 (f1.tr f2) k1 k2 k3 k4 k5⟩)
theorem rn_X10_plug0 {x : Int32} (hW : wSt R) (hb : cB I b) (hk : bOK b) (hx : inN x (b 0 0) = false) : Rn w l yX10_plug dd_X10_plug [.ref 0, .int x] (472, I, J, R) (some (.int (-1))) (472, I, J, R) := by
  have hV := hW.1
  refine rn_intro2 (L := [some (.ref 0), some (.int x)]) ⟨by decide, rfl, (fun h => by cases h)⟩ (Nat.le_refl _) (Nat.le_of_ble_eq_true rfl) rfl (fun Y Q hQ => ?_)
  exact q_aload_n (pc' := 1) dX10_plug_0 rfl rfl (q_getR (pc' := 4) dX10_plug_1 rfl fr_RX10_26 ⟨by omega, rfl⟩ rfl (wV_10_3 hV) (by decide) (q_iload_n (pc' := 5) dX10_plug_4 rfl rfl (q_cVi (pc' := 8) dX10_plug_5 rfl ml_RX10_198 yv_X0_hasCpu (by decide) (rn_X0_hasCpu hb hk) (by first | assumption | exact ⟨by omega, rfl⟩) rfl rfl (Nat.le_of_ble_eq_true rfl) (Nat.le_refl _) (q_ifb_ne (pc' := 11) (pt := 13) dX10_plug_8 rfl rfl (fun h9 => Bool.noConfusion (Eq.trans (Eq.symm (hx)) h9)) (fun _ => (q_iconst (pc' := 12) _ dX10_plug_11 rfl kk_iconst_m1 (q_iret dX10_plug_12 rfl hQ)))))))
theorem rt_X10_plug {p : Nat} (hW : wSt R) (hb : cB I b) (hR : bRd b) (h : cH I R b ps n u A c s) (hA : gI b 8 A) (hp : p < b 0 0) : RtI w l yX10_plug dd_X10_plug [.ref 0, .int (nI p)] (472, I, J, R) (aP I J R b A ps n u (aPlug b A p).1 (aPlug b A p).2) := by
  have hk := hR.1
  have hV := hW.1
  have hin : inN (nI p) (b 0 0) = true := inN_t (by have := hk.1.2; omega) hp
  obtain ⟨hc18, hs18⟩ := cH_lt h
  have hi : s < 21 := by omega
  have hz : 50 + 20 * s ≤ 472 := by omega
  refine rt_intro2 (L := [some (.ref 0), some (.int (nI p))]) ⟨by decide, rfl, (fun h => by cases h)⟩ (Nat.le_of_ble_eq_true rfl) rfl (fun Y Q hQ => ?_)
  refine q_aload_n (pc' := 1) dX10_plug_0 rfl rfl (q_getR (pc' := 4) dX10_plug_1 rfl fr_RX10_26 ⟨by omega, rfl⟩ rfl (wV_10_3 hV) (by decide) (q_iload_n (pc' := 5) dX10_plug_4 rfl rfl (q_cVi (pc' := 8) dX10_plug_5 rfl ml_RX10_198 yv_X0_hasCpu (by decide) (rn_X0_hasCpu hb hk) (by first | assumption | exact ⟨by omega, rfl⟩) rfl rfl (Nat.le_of_ble_eq_true rfl) (Nat.le_refl _) (q_ifb_ne (pc' := 11) (pt := 13) dX10_plug_8 rfl rfl (fun _ => (q_aload_n (pc' := 14) dX10_plug_13 rfl rfl (q_aload_n (pc' := 15) dX10_plug_14 rfl rfl (q_getR (pc' := 18) dX10_plug_15 rfl fr_RX10_62 ⟨by omega, rfl⟩ rfl (wV_10_6 hV) (by decide) (q_sVa (pc' := 21) dX10_plug_18 rfl ml_RX10_122 yv_X2_draft (by decide) (rs_X2_draft hW.2.2.2 h (h01_of hk hA.1)) ⟨by omega, rfl⟩ rfl rfl (Nat.le_of_ble_eq_true rfl) (Nat.le_refl _) (fun I1 ⟨r1, f1⟩ => (q_iload_n (pc' := 22) dX10_plug_21 rfl rfl (q_sVi (pc' := 25) dX10_plug_22 rfl ml_RX10_172 yv_X5_comeBack (by decide) (rs_X5_comeBack hi (hW.2.2.2 s hi) hW.2.1 (cB_S f1 hb) hk r1 (gCl_of (p0 := 8) hk hp) (gC2_of hk hp) (fun _ => ⟨gI_on hA, mj_up_eq⟩) hp) (okS hi hz (by decide) rfl) rfl rfl (Nat.le_of_ble_eq_true rfl) (Nat.le_refl _) (fun x2 I2 ⟨t1, r2, f2⟩ => ?_))))))))) (fun h9 => Bool.noConfusion (Eq.trans (Eq.symm (hin)) h9))))))
  subst t1
  refine q_tVi (pc' := 28) dX10_plug_25 rfl ml_RX10_188 yv_X10_keepIfDone (by decide) (rt_X10_keepIfDone (B := (aPlug b A p).2) hV (cH_S h (f1.tr f2)) plug_lt (fun _ => r2) plug_eq) ⟨by omega, rfl⟩ rfl rfl (Nat.le_of_ble_eq_true rfl) (Nat.le_refl _) (fun x3 I3 J3 R3 ⟨k1, k2, k3, k4, k5⟩ => ?_)
  exact q_iret dX10_plug_28 rfl (hQ _ _ _ _ ⟨_, rfl, aP_of hs18 (f1.tr f2) k1 k2 k3 k4 k5⟩)
theorem rn_X10_unplug0 {x : Int32} (hW : wSt R) (hb : cB I b) (hk : bOK b) (hx : inN x (b 0 0) = false) : Rn w l yX10_unplug dd_X10_unplug [.ref 0, .int x] (472, I, J, R) (some (.int (-1))) (472, I, J, R) := by
  have hV := hW.1
  refine rn_intro2 (L := [some (.ref 0), some (.int x)]) ⟨by decide, rfl, (fun h => by cases h)⟩ (Nat.le_refl _) (Nat.le_of_ble_eq_true rfl) rfl (fun Y Q hQ => ?_)
  exact q_aload_n (pc' := 1) dX10_unplug_0 rfl rfl (q_getR (pc' := 4) dX10_unplug_1 rfl fr_RX10_26 ⟨by omega, rfl⟩ rfl (wV_10_3 hV) (by decide) (q_iload_n (pc' := 5) dX10_unplug_4 rfl rfl (q_cVi (pc' := 8) dX10_unplug_5 rfl ml_RX10_198 yv_X0_hasCpu (by decide) (rn_X0_hasCpu hb hk) (by first | assumption | exact ⟨by omega, rfl⟩) rfl rfl (Nat.le_of_ble_eq_true rfl) (Nat.le_refl _) (q_ifb_ne (pc' := 11) (pt := 13) dX10_unplug_8 rfl rfl (fun h9 => Bool.noConfusion (Eq.trans (Eq.symm (hx)) h9)) (fun _ => (q_iconst (pc' := 12) _ dX10_unplug_11 rfl kk_iconst_m1 (q_iret dX10_unplug_12 rfl hQ)))))))
theorem rs_leave {i p : Nat} (hi : i < 21) (hS : mj_wS R i) (hB : mj_wB R 4) (hb : cB I b) (hR : bRd b) (h : cR I i b A) (hA : gI b 8 A) (hp : p < b 0 0) : RsI w l yX5_leave dd_X5_leave [.ref (sA i 0), .int (nI p)] (472, I, J, R) (fun x I' => x = nI (aUnplug b A p).1 ∧ ((aUnplug b A p).1 = 0 → cR I' i b (aUnplug b A p).2) ∧ mS i I I') := rs_X5_leave hi hS hB hb hR.1 h (uCl_of hR.1 hp) (uC2_of hR.1) (fun _ => ⟨gI_off hA, by rw [mj_up_eq]; decide⟩) (fun d hd => (hR.2.2.2.1 d hd).1) hp
theorem rt_X10_unplug {p : Nat} (hW : wSt R) (hb : cB I b) (hR : bRd b) (h : cH I R b ps n u A c s) (hA : gI b 8 A) (hp : p < b 0 0) : RtI w l yX10_unplug dd_X10_unplug [.ref 0, .int (nI p)] (472, I, J, R) (aP I J R b A ps n u (aUnplug b A p).1 (aUnplug b A p).2) := by
  have hk := hR.1
  have hV := hW.1
  have hin : inN (nI p) (b 0 0) = true := inN_t (by have := hk.1.2; omega) hp
  obtain ⟨hc18, hs18⟩ := cH_lt h
  have hi : s < 21 := by omega
  have hz : 50 + 20 * s ≤ 472 := by omega
  refine rt_intro2 (L := [some (.ref 0), some (.int (nI p))]) ⟨by decide, rfl, (fun h => by cases h)⟩ (Nat.le_of_ble_eq_true rfl) rfl (fun Y Q hQ => ?_)
  refine q_aload_n (pc' := 1) dX10_unplug_0 rfl rfl (q_getR (pc' := 4) dX10_unplug_1 rfl fr_RX10_26 ⟨by omega, rfl⟩ rfl (wV_10_3 hV) (by decide) (q_iload_n (pc' := 5) dX10_unplug_4 rfl rfl (q_cVi (pc' := 8) dX10_unplug_5 rfl ml_RX10_198 yv_X0_hasCpu (by decide) (rn_X0_hasCpu hb hk) (by first | assumption | exact ⟨by omega, rfl⟩) rfl rfl (Nat.le_of_ble_eq_true rfl) (Nat.le_refl _) (q_ifb_ne (pc' := 11) (pt := 13) dX10_unplug_8 rfl rfl (fun _ => (q_aload_n (pc' := 14) dX10_unplug_13 rfl rfl (q_aload_n (pc' := 15) dX10_unplug_14 rfl rfl (q_getR (pc' := 18) dX10_unplug_15 rfl fr_RX10_62 ⟨by omega, rfl⟩ rfl (wV_10_6 hV) (by decide) (q_sVa (pc' := 21) dX10_unplug_18 rfl ml_RX10_122 yv_X2_draft (by decide) (rs_X2_draft hW.2.2.2 h (h01_of hk hA.1)) ⟨by omega, rfl⟩ rfl rfl (Nat.le_of_ble_eq_true rfl) (Nat.le_refl _) (fun I1 ⟨r1, f1⟩ => (q_iload_n (pc' := 22) dX10_unplug_21 rfl rfl (q_sVi (pc' := 25) dX10_unplug_22 rfl ml_RX10_175 yv_X5_leave (by decide) (rs_leave hi (hW.2.2.2 s hi) hW.2.1 (cB_S f1 hb) hR r1 hA hp) (okS hi hz (by decide) rfl) rfl rfl (Nat.le_of_ble_eq_true rfl) (Nat.le_refl _) (fun x2 I2 ⟨t1, r2, f2⟩ => ?_))))))))) (fun h9 => Bool.noConfusion (Eq.trans (Eq.symm (hin)) h9))))))
  subst t1
  refine q_tVi (pc' := 28) dX10_unplug_25 rfl ml_RX10_188 yv_X10_keepIfDone (by decide) (rt_X10_keepIfDone (B := (aUnplug b A p).2) hV (cH_S h (f1.tr f2)) aUnplug_lt r2 unplug_eq) ⟨by omega, rfl⟩ rfl rfl (Nat.le_of_ble_eq_true rfl) (Nat.le_refl _) (fun x3 I3 J3 R3 ⟨k1, k2, k3, k4, k5⟩ => ?_)
  exact q_iret dX10_unplug_28 rfl (hQ _ _ _ _ ⟨_, rfl, aP_of hs18 (f1.tr f2) k1 k2 k3 k4 k5⟩)
theorem rn_X10_stop0 {x : Int32} (hW : wSt R) (hb : cB I b) (hk : bOK b) (hx : inN x (b 0 2) = false) : Rn w l yX10_stop dd_X10_stop [.ref 0, .int x] (472, I, J, R) (some (.int (-1))) (472, I, J, R) := by
  have hV := hW.1
  refine rn_intro2 (L := [some (.ref 0), some (.int x)]) ⟨by decide, rfl, (fun h => by cases h)⟩ (Nat.le_refl _) (Nat.le_of_ble_eq_true rfl) rfl (fun Y Q hQ => ?_)
  exact q_aload_n (pc' := 1) dX10_stop_0 rfl rfl (q_getR (pc' := 4) dX10_stop_1 rfl fr_RX10_26 ⟨by omega, rfl⟩ rfl (wV_10_3 hV) (by decide) (q_iload_n (pc' := 5) dX10_stop_4 rfl rfl (q_cVi (pc' := 8) dX10_stop_5 rfl ml_RX10_184 yv_X0_hasDevice (by decide) (rn_X0_hasDevice hb hk) (by first | assumption | exact ⟨by omega, rfl⟩) rfl rfl (Nat.le_of_ble_eq_true rfl) (Nat.le_refl _) (q_ifb_ne (pc' := 11) (pt := 13) dX10_stop_8 rfl rfl (fun h9 => Bool.noConfusion (Eq.trans (Eq.symm (hx)) h9)) (fun _ => (q_iconst (pc' := 12) _ dX10_stop_11 rfl kk_iconst_m1 (q_iret dX10_stop_12 rfl hQ)))))))
theorem rs_X10_stop1 {d : Nat} (hW : wSt R) (hb : cB I b) (hR : bRd b) (h : cH I R b ps n u A c s) (hA : gI b 8 A) (hd : d < b 0 2) (h7 : A 7 d ≠ 1) : RsI w l yX10_stop dd_X10_stop [.ref 0, .int (nI d)] (472, I, J, R) (fun x I' => x = -1 ∧ mS s I I') := by
  have hk := hR.1
  have hV := hW.1
  have h10 := hk.2.2.1
  have hin : inN (nI d) (b 0 2) = true := inN_t (by omega) hd
  obtain ⟨hc18, hs18⟩ := cH_lt h
  have hi : s < 21 := by omega
  have hz : 50 + 20 * s ≤ 472 := by omega
  refine rt_intro2 (L := [some (.ref 0), some (.int (nI d))]) ⟨by decide, rfl, (fun h => by cases h)⟩ (Nat.le_of_ble_eq_true rfl) rfl (fun Y Q hQ => ?_)
  exact q_aload_n (pc' := 1) dX10_stop_0 rfl rfl (q_getR (pc' := 4) dX10_stop_1 rfl fr_RX10_26 ⟨by omega, rfl⟩ rfl (wV_10_3 hV) (by decide) (q_iload_n (pc' := 5) dX10_stop_4 rfl rfl (q_cVi (pc' := 8) dX10_stop_5 rfl ml_RX10_184 yv_X0_hasDevice (by decide) (rn_X0_hasDevice hb hk) (by first | assumption | exact ⟨by omega, rfl⟩) rfl rfl (Nat.le_of_ble_eq_true rfl) (Nat.le_refl _) (q_ifb_ne (pc' := 11) (pt := 13) dX10_stop_8 rfl rfl (fun _ => (q_aload_n (pc' := 14) dX10_stop_13 rfl rfl (q_aload_n (pc' := 15) dX10_stop_14 rfl rfl (q_getR (pc' := 18) dX10_stop_15 rfl fr_RX10_62 ⟨by omega, rfl⟩ rfl (wV_10_6 hV) (by decide) (q_sVa (pc' := 21) dX10_stop_18 rfl ml_RX10_122 yv_X2_draft (by decide) (rs_X2_draft hW.2.2.2 h (h01_of hk hA.1)) ⟨by omega, rfl⟩ rfl rfl (Nat.le_of_ble_eq_true rfl) (Nat.le_refl _) (fun I1 ⟨r1, f1⟩ => (q_iload_n (pc' := 22) dX10_stop_21 rfl rfl (q_cVi (pc' := 25) dX10_stop_22 rfl ml_RX10_152 yv_X5_halt (by decide) (rn_X5_halt0 hi r1 (by omega) h7) (okS hi hz (by decide) rfl) rfl rfl (Nat.le_of_ble_eq_true rfl) (Nat.le_refl _) (q_cVi (pc' := 28) dX10_stop_25 rfl ml_RX10_191 yv_X10_keepIfAny (by decide) (rn_X10_keepIfAny0) ⟨by omega, rfl⟩ rfl rfl (Nat.le_of_ble_eq_true rfl) (Nat.le_refl _) (q_iret dX10_stop_28 rfl (hQ _ _ _ _ ⟨_, rfl, ⟨rfl, rfl⟩, rfl, f1⟩))))))))))) (fun h9 => Bool.noConfusion (Eq.trans (Eq.symm (hin)) h9))))))
theorem rt_X10_stop {d : Nat} (hW : wSt R) (hb : cB I b) (hR : bRd b) (h : cH I R b ps n u A c s) (hA : gI b 8 A) (hd : d < b 0 2) (h7 : A 7 d = 1) (hx : nI (aStop b A d 16 0) ≠ -1) : RtI w l yX10_stop dd_X10_stop [.ref 0, .int (nI d)] (472, I, J, R) (dP I J R b A ps n (nI (aStop b A d 16 0)) (aStop b A d)) := by
  have hk := hR.1
  have hV := hW.1
  have hin : inN (nI d) (b 0 2) = true := inN_t (by have := hk.2.2.1; omega) hd
  obtain ⟨hc18, hs18⟩ := cH_lt h
  have hi : s < 21 := by omega
  have hz : 50 + 20 * s ≤ 472 := by omega
  refine rt_intro2 (L := [some (.ref 0), some (.int (nI d))]) ⟨by decide, rfl, (fun h => by cases h)⟩ (Nat.le_of_ble_eq_true rfl) rfl (fun Y Q hQ => ?_)
  refine q_aload_n (pc' := 1) dX10_stop_0 rfl rfl (q_getR (pc' := 4) dX10_stop_1 rfl fr_RX10_26 ⟨by omega, rfl⟩ rfl (wV_10_3 hV) (by decide) (q_iload_n (pc' := 5) dX10_stop_4 rfl rfl (q_cVi (pc' := 8) dX10_stop_5 rfl ml_RX10_184 yv_X0_hasDevice (by decide) (rn_X0_hasDevice hb hk) (by first | assumption | exact ⟨by omega, rfl⟩) rfl rfl (Nat.le_of_ble_eq_true rfl) (Nat.le_refl _) (q_ifb_ne (pc' := 11) (pt := 13) dX10_stop_8 rfl rfl (fun _ => (q_aload_n (pc' := 14) dX10_stop_13 rfl rfl (q_aload_n (pc' := 15) dX10_stop_14 rfl rfl (q_getR (pc' := 18) dX10_stop_15 rfl fr_RX10_62 ⟨by omega, rfl⟩ rfl (wV_10_6 hV) (by decide) (q_sVa (pc' := 21) dX10_stop_18 rfl ml_RX10_122 yv_X2_draft (by decide) (rs_X2_draft hW.2.2.2 h (h01_of hk hA.1)) ⟨by omega, rfl⟩ rfl rfl (Nat.le_of_ble_eq_true rfl) (Nat.le_refl _) (fun I1 ⟨r1, f1⟩ => (q_iload_n (pc' := 22) dX10_stop_21 rfl rfl (q_sVi (pc' := 25) dX10_stop_22 rfl ml_RX10_152 yv_X5_halt (by decide) (rs_X5_halt hi (hW.2.2.2 s hi) hW.2.1 (cB_S f1 hb) hk r1 (gC_aOK hk hA.1) hd h7 (clrL_of hk hA.1 hd)) (okS hi hz (by decide) rfl) rfl rfl (Nat.le_of_ble_eq_true rfl) (Nat.le_refl _) (fun x2 I2 ⟨t1, r2, f2⟩ => ?_))))))))) (fun h9 => Bool.noConfusion (Eq.trans (Eq.symm (hin)) h9))))))
  subst t1
  refine q_tVi (pc' := 28) dX10_stop_25 rfl ml_RX10_191 yv_X10_keepIfAny (by decide) (rt_X10_keepIfAny hV (cH_S h (f1.tr f2)) hx r2) ⟨by omega, rfl⟩ rfl rfl (Nat.le_of_ble_eq_true rfl) (Nat.le_refl _) (fun x3 I3 J3 R3 ⟨k1, k2, k3, k4, k5⟩ => ?_)
  exact q_iret dX10_stop_28 rfl (hQ _ _ _ _ ⟨_, rfl, dP_of hs18 (f1.tr f2) k1 k2 k3 k4 k5⟩)
theorem rn_X10_raise0 {x y : Int32} {late : Bool} (hW : wSt R) (hb : cB I b) (hk : bOK b) (hx : inN x (b 0 2) = false ∨ ∃ d, d < b 0 2 ∧ x = nI d ∧ inN y (b 2 d) = false) : Rn w l yX10_raise dd_X10_raise [.ref 0, .int x, .int y, .int (bI late)] (472, I, J, R) (some (.int (-1))) (472, I, J, R) := by
  have hV := hW.1
  have hB := hW.2.1
  refine rn_intro2 (L := [some (.ref 0), some (.int x), some (.int y), some (.int (bI late))]) ⟨by decide, rfl, (fun h => by cases h)⟩ (Nat.le_refl _) (Nat.le_of_ble_eq_true rfl) rfl (fun Y Q hQ => ?_)
  rcases hx with hx | ⟨d, hd, e, hy⟩
  · exact q_aload_n (pc' := 1) dX10_raise_0 rfl rfl (q_getR (pc' := 4) dX10_raise_1 rfl fr_RX10_26 ⟨by omega, rfl⟩ rfl (wV_10_3 hV) (by decide) (q_iload_n (pc' := 5) dX10_raise_4 rfl rfl (q_iload_n (pc' := 6) dX10_raise_5 rfl rfl (q_cVi (pc' := 9) dX10_raise_6 rfl ml_RX10_194 yv_X0_hasLine (by decide) (rn_X0_hasLine0 hb hk hx) (by first | assumption | exact ⟨by omega, rfl⟩) rfl rfl (Nat.le_of_ble_eq_true rfl) (Nat.le_refl _) (q_ifb_ne (pc' := 12) (pt := 14) dX10_raise_9 rfl rfl (fun h9 => Bool.noConfusion (Eq.trans (Eq.symm (rfl)) h9)) (fun _ => (q_iconst (pc' := 13) _ dX10_raise_12 rfl kk_iconst_m1 (q_iret dX10_raise_13 rfl hQ))))))))
  · subst e
    exact q_aload_n (pc' := 1) dX10_raise_0 rfl rfl (q_getR (pc' := 4) dX10_raise_1 rfl fr_RX10_26 ⟨by omega, rfl⟩ rfl (wV_10_3 hV) (by decide) (q_iload_n (pc' := 5) dX10_raise_4 rfl rfl (q_iload_n (pc' := 6) dX10_raise_5 rfl rfl (q_cVi (pc' := 9) dX10_raise_6 rfl ml_RX10_194 yv_X0_hasLine (by decide) (rn_X0_hasLine hB hb hk hd) (by first | assumption | exact ⟨by omega, rfl⟩) rfl rfl (Nat.le_of_ble_eq_true rfl) (Nat.le_refl _) (q_ifb_ne (pc' := 12) (pt := 14) dX10_raise_9 rfl rfl (fun h9 => Bool.noConfusion (Eq.trans (Eq.symm (hy)) h9)) (fun _ => (q_iconst (pc' := 13) _ dX10_raise_12 rfl kk_iconst_m1 (q_iret dX10_raise_13 rfl hQ))))))))
theorem rs_X10_raise1 {d : Nat} {y : Int32} {late : Bool} (hW : wSt R) (hb : cB I b) (hR : bRd b) (h : cH I R b ps n u A c s) (hA : gI b 8 A) (hd : d < b 0 2) (hy : inN y (b 2 d) = true) (h7 : A 7 d ≠ 1) : RsI w l yX10_raise dd_X10_raise [.ref 0, .int (nI d), .int y, .int (bI late)] (472, I, J, R) (fun x I' => x = -1 ∧ mS s I I') := by
  have hk := hR.1
  have hV := hW.1
  have hB := hW.2.1
  obtain ⟨hc18, hs18⟩ := cH_lt h
  have hi : s < 21 := by omega
  have hz : 50 + 20 * s ≤ 472 := by omega
  refine rt_intro2 (L := [some (.ref 0), some (.int (nI d)), some (.int y), some (.int (bI late))]) ⟨by decide, rfl, (fun h => by cases h)⟩ (Nat.le_of_ble_eq_true rfl) rfl (fun Y Q hQ => ?_)
  refine q_aload_n (pc' := 1) dX10_raise_0 rfl rfl (q_getR (pc' := 4) dX10_raise_1 rfl fr_RX10_26 ⟨by omega, rfl⟩ rfl (wV_10_3 hV) (by decide) (q_iload_n (pc' := 5) dX10_raise_4 rfl rfl (q_iload_n (pc' := 6) dX10_raise_5 rfl rfl (q_cVi (pc' := 9) dX10_raise_6 rfl ml_RX10_194 yv_X0_hasLine (by decide) (rn_X0_hasLine hB hb hk hd) (by first | assumption | exact ⟨by omega, rfl⟩) rfl rfl (Nat.le_of_ble_eq_true rfl) (Nat.le_refl _) (q_ifb_ne (pc' := 12) (pt := 14) dX10_raise_9 rfl rfl (fun _ => (q_aload_n (pc' := 15) dX10_raise_14 rfl rfl (q_aload_n (pc' := 16) dX10_raise_15 rfl rfl (q_getR (pc' := 19) dX10_raise_16 rfl fr_RX10_62 ⟨by omega, rfl⟩ rfl (wV_10_6 hV) (by decide) (q_sVa (pc' := 22) dX10_raise_19 rfl ml_RX10_122 yv_X2_draft (by decide) (rs_X2_draft hW.2.2.2 h (h01_of hk hA.1)) ⟨by omega, rfl⟩ rfl rfl (Nat.le_of_ble_eq_true rfl) (Nat.le_refl _) (fun I1 ⟨r1, f1⟩ => (q_iload_n (pc' := 23) dX10_raise_22 rfl rfl (q_iload_n (pc' := 24) dX10_raise_23 rfl rfl (q_iload_n (pc' := 25) dX10_raise_24 rfl rfl (q_cVi (pc' := 28) dX10_raise_25 rfl ml_RX10_158 yv_X5_signal (by decide) (rn_X5_signal1 hi (hW.2.2.2 s hi) hB (cB_S f1 hb) hk r1 hd (Or.inr h7)) (okS hi hz (by decide) rfl) rfl rfl (Nat.le_of_ble_eq_true rfl) (Nat.le_refl _) ?_)))))))))) (fun h9 => Bool.noConfusion (Eq.trans (Eq.symm (hy)) h9)))))))
  exact q_cVi (pc' := 31) dX10_raise_28 rfl ml_RX10_191 yv_X10_keepIfAny (by decide) (rn_X10_keepIfAny0) ⟨by omega, rfl⟩ rfl rfl (Nat.le_of_ble_eq_true rfl) (Nat.le_refl _) (q_iret dX10_raise_31 rfl (hQ _ _ _ _ ⟨_, rfl, ⟨rfl, rfl⟩, rfl, f1⟩))
theorem raise_le {d k : Nat} {late : Bool} : (aRaise A d k late).1 ≤ 1 := by
  unfold aRaise
  split
  · exact Nat.sub_le _ _
  · split
    · exact Nat.sub_le _ _
    · split
      · exact Nat.le_of_ble_eq_true rfl
      · exact Nat.le_of_ble_eq_true rfl
theorem rt_X10_raise {d k : Nat} {late : Bool} (hW : wSt R) (hb : cB I b) (hR : bRd b) (h : cH I R b ps n u A c s) (hA : gI b 8 A) (hd : d < b 0 2) (hl : k < b 2 d) (h7 : A 7 d = 1) : RtI w l yX10_raise dd_X10_raise [.ref 0, .int (nI d), .int (nI k), .int (bI late)] (472, I, J, R) (dP I J R b A ps n (nI (aRaise A d k late).1) (aRaise A d k late).2) := by
  have hk := hR.1
  have hV := hW.1
  have hB := hW.2.1
  have h10 := hk.2.2.1
  have hs8 := (hk.2.2.2 d hd).2.1
  have hy : inN (nI k) (b 2 d) = true := inN_t (by omega) hl
  obtain ⟨hc18, hs18⟩ := cH_lt h
  have hi : s < 21 := by omega
  have hz : 50 + 20 * s ≤ 472 := by omega
  have hpv := pv_3 hA.1 (show 8 * d + k < 80 by omega)
  have hle := raise_le (A := A) (d := d) (k := k) (late := late)
  refine rt_intro2 (L := [some (.ref 0), some (.int (nI d)), some (.int (nI k)), some (.int (bI late))]) ⟨by decide, rfl, (fun h => by cases h)⟩ (Nat.le_of_ble_eq_true rfl) rfl (fun Y Q hQ => ?_)
  refine q_aload_n (pc' := 1) dX10_raise_0 rfl rfl (q_getR (pc' := 4) dX10_raise_1 rfl fr_RX10_26 ⟨by omega, rfl⟩ rfl (wV_10_3 hV) (by decide) (q_iload_n (pc' := 5) dX10_raise_4 rfl rfl (q_iload_n (pc' := 6) dX10_raise_5 rfl rfl (q_cVi (pc' := 9) dX10_raise_6 rfl ml_RX10_194 yv_X0_hasLine (by decide) (rn_X0_hasLine hB hb hk hd) (by first | assumption | exact ⟨by omega, rfl⟩) rfl rfl (Nat.le_of_ble_eq_true rfl) (Nat.le_refl _) (q_ifb_ne (pc' := 12) (pt := 14) dX10_raise_9 rfl rfl (fun _ => (q_aload_n (pc' := 15) dX10_raise_14 rfl rfl (q_aload_n (pc' := 16) dX10_raise_15 rfl rfl (q_getR (pc' := 19) dX10_raise_16 rfl fr_RX10_62 ⟨by omega, rfl⟩ rfl (wV_10_6 hV) (by decide) (q_sVa (pc' := 22) dX10_raise_19 rfl ml_RX10_122 yv_X2_draft (by decide) (rs_X2_draft hW.2.2.2 h (h01_of hk hA.1)) ⟨by omega, rfl⟩ rfl rfl (Nat.le_of_ble_eq_true rfl) (Nat.le_refl _) (fun I1 ⟨r1, f1⟩ => (q_iload_n (pc' := 23) dX10_raise_22 rfl rfl (q_iload_n (pc' := 24) dX10_raise_23 rfl rfl (q_iload_n (pc' := 25) dX10_raise_24 rfl rfl (q_sVi (pc' := 28) dX10_raise_25 rfl ml_RX10_158 yv_X5_signal (by decide) (rs_X5_signal hi (hW.2.2.2 s hi) hB (cB_S f1 hb) hk r1 (gC_aOK hk hA.1) hd hl h7 hpv.1 hpv.2) (okS hi hz (by decide) rfl) rfl rfl (Nat.le_of_ble_eq_true rfl) (Nat.le_refl _) (fun x2 I2 ⟨t1, r2, f2⟩ => ?_))))))))))) (fun h9 => Bool.noConfusion (Eq.trans (Eq.symm (hy)) h9)))))))
  subst t1
  refine q_tVi (pc' := 31) dX10_raise_28 rfl ml_RX10_191 yv_X10_keepIfAny (by decide) (rt_X10_keepIfAny hV (cH_S h (f1.tr f2)) (nI_m1 (by omega)) r2) ⟨by omega, rfl⟩ rfl rfl (Nat.le_of_ble_eq_true rfl) (Nat.le_refl _) (fun x3 I3 J3 R3 ⟨k1, k2, k3, k4, k5⟩ => ?_)
  exact q_iret dX10_raise_31 rfl (hQ _ _ _ _ ⟨_, rfl, dP_of hs18 (f1.tr f2) k1 k2 k3 k4 k5⟩)
theorem rn_X10_tick0 {x : Int32} (hx : ¬ (nI 1 ≤ x ∧ x ≤ nI 100)) : Rn w l yX10_tick dd_X10_tick [.ref 0, .int x] (472, I, J, R) (some (.int (-1))) (472, I, J, R) := by
  refine rn_intro2 (L := [some (.ref 0), some (.int x)]) ⟨by decide, rfl, (fun h => by cases h)⟩ (Nat.le_refl _) (Nat.le_of_ble_eq_true rfl) rfl (fun Y Q hQ => ?_)
  by_cases h1 : x < nI 1
  · exact q_iload_n (pc' := 1) dX10_tick_0 rfl rfl (q_iconst (pc' := 2) _ dX10_tick_1 rfl kk_iconst_1 (q_icmp_lt (pc' := 5) (pt := 11) dX10_tick_2 rfl rfl (fun _ => (q_iconst (pc' := 12) _ dX10_tick_11 rfl kk_iconst_m1 (q_iret dX10_tick_12 rfl hQ))) (fun h9 => absurd (h1) h9)))
  · exact q_iload_n (pc' := 1) dX10_tick_0 rfl rfl (q_iconst (pc' := 2) _ dX10_tick_1 rfl kk_iconst_1 (q_icmp_lt (pc' := 5) (pt := 11) dX10_tick_2 rfl rfl (fun h9 => absurd h9 (h1)) (fun _ => (q_iload_n (pc' := 6) dX10_tick_5 rfl rfl (q_bipush (pc' := 8) _ dX10_tick_6 rfl kk_bipush_100 (q_icmp_le (pc' := 11) (pt := 13) dX10_tick_8 rfl rfl (fun h9 => absurd h9 (fun q => hx ⟨Int32.not_lt.mp h1, q⟩)) (fun _ => (q_iconst (pc' := 12) _ dX10_tick_11 rfl kk_iconst_m1 (q_iret dX10_tick_12 rfl hQ)))))))))
theorem rt_X10_tick {m : Nat} (hW : wSt R) (hb : cB I b) (hR : bRd b) (h : cH I R b ps n u A c s) (hA : gI b 8 A) (h1 : 1 ≤ m) (h2 : m ≤ 100) (hL : A 14 4 + 8 * m < 2 ^ 31) : RtI w l yX10_tick dd_X10_tick [.ref 0, .int (nI m)] (472, I, J, R) (dP I J R b A ps n (nI (aTicks b m A 14 1) - nI (A 14 1)) (aTicks b m A)) := by
  have hk := hR.1
  have hV := hW.1
  obtain ⟨hc18, hs18⟩ := cH_lt h
  have hi : s < 21 := by omega
  have hz : 50 + 20 * s ≤ 472 := by omega
  refine rt_intro2 (L := [some (.ref 0), some (.int (nI m))]) ⟨by decide, rfl, (fun h => by cases h)⟩ (Nat.le_of_ble_eq_true rfl) rfl (fun Y Q hQ => ?_)
  refine q_iload_n (pc' := 1) dX10_tick_0 rfl rfl (q_iconst (pc' := 2) _ dX10_tick_1 rfl kk_iconst_1 (q_icmp_lt (pc' := 5) (pt := 11) dX10_tick_2 rfl rfl (fun h9 => absurd h9 (nI_nlt (by omega) (by omega))) (fun _ => (q_iload_n (pc' := 6) dX10_tick_5 rfl rfl (q_bipush (pc' := 8) _ dX10_tick_6 rfl kk_bipush_100 (q_icmp_le (pc' := 11) (pt := 13) dX10_tick_8 rfl rfl (fun _ => (q_aload_n (pc' := 14) dX10_tick_13 rfl rfl (q_aload_n (pc' := 15) dX10_tick_14 rfl rfl (q_getR (pc' := 18) dX10_tick_15 rfl fr_RX10_62 ⟨by omega, rfl⟩ rfl (wV_10_6 hV) (by decide) (q_sVa (pc' := 21) dX10_tick_18 rfl ml_RX10_122 yv_X2_draft (by decide) (rs_X2_draft hW.2.2.2 h (h01_of hk hA.1)) ⟨by omega, rfl⟩ rfl rfl (Nat.le_of_ble_eq_true rfl) (Nat.le_refl _) (fun I1 ⟨r1, f1⟩ => (q_iload_n (pc' := 22) dX10_tick_21 rfl rfl (q_sVi (pc' := 25) dX10_tick_22 rfl ml_RX10_169 yv_X5_pass (by decide) (rs_X5_pass hi (hW.2.2.2 s hi) hW.2.1 (cB_S f1 hb) hk r1 (gC_tI hk hA.1) (gI_dI hA.1) h2 hL) (okS hi hz (by decide) rfl) rfl rfl (Nat.le_of_ble_eq_true rfl) (Nat.le_refl _) (fun x2 I2 ⟨⟨q, t1, t2, t3, t4⟩, r2, f2⟩ => ?_))))))))) (fun h9 => absurd (nI_le (by omega) (by omega)) h9)))))))
  subst t1
  refine q_tVi (pc' := 28) dX10_tick_25 rfl ml_RX10_191 yv_X10_keepIfAny (by decide) (rt_X10_keepIfAny hV (cH_S h (f1.tr f2)) (nI_m1 (by omega)) r2) ⟨by omega, rfl⟩ rfl rfl (Nat.le_of_ble_eq_true rfl) (Nat.le_refl _) (fun x3 I3 J3 R3 ⟨k1, k2, k3, k4, k5⟩ => ?_)
  exact q_iret dX10_tick_28 rfl (hQ _ _ _ _ ⟨_, rfl, dP_of hs18 (f1.tr f2) (by rw [k1, t3, nI_sb (by omega), Nat.add_sub_cancel_left]) k2 k3 k4 k5⟩)
theorem rn_X10_move0 {x y z : Int32} (hW : wSt R) (hb : cB I b) (hk : bOK b) (hx : inN x (b 0 2) = false ∨ z < 0) : Rn w l yX10_move dd_X10_move [.ref 0, .int x, .int y, .int z] (472, I, J, R) (some (.int (-1))) (472, I, J, R) := by
  have hV := hW.1
  refine rn_intro2 (L := [some (.ref 0), some (.int x), some (.int y), some (.int z)]) ⟨by decide, rfl, (fun h => by cases h)⟩ (Nat.le_refl _) (Nat.le_of_ble_eq_true rfl) rfl (fun Y Q hQ => ?_)
  by_cases h1 : inN x (b 0 2) = false
  · exact q_aload_n (pc' := 1) dX10_move_0 rfl rfl (q_getR (pc' := 4) dX10_move_1 rfl fr_RX10_26 ⟨by omega, rfl⟩ rfl (wV_10_3 hV) (by decide) (q_iload_n (pc' := 5) dX10_move_4 rfl rfl (q_cVi (pc' := 8) dX10_move_5 rfl ml_RX10_184 yv_X0_hasDevice (by decide) (rn_X0_hasDevice hb hk) (by first | assumption | exact ⟨by omega, rfl⟩) rfl rfl (Nat.le_of_ble_eq_true rfl) (Nat.le_refl _) (q_ifb_eq (pc' := 11) (pt := 15) dX10_move_8 rfl rfl (fun _ => (q_iconst (pc' := 16) _ dX10_move_15 rfl kk_iconst_m1 (q_iret dX10_move_16 rfl hQ))) (fun h9 => Bool.noConfusion (Eq.trans (Eq.symm (h1)) h9))))))
  · have h2 : z < 0 := by rcases hx with q | q; exact absurd q h1; exact q
    have h3 : inN x (b 0 2) = true := by
      cases hh : inN x (b 0 2) with
      | false => exact absurd hh h1
      | true => rfl
    exact q_aload_n (pc' := 1) dX10_move_0 rfl rfl (q_getR (pc' := 4) dX10_move_1 rfl fr_RX10_26 ⟨by omega, rfl⟩ rfl (wV_10_3 hV) (by decide) (q_iload_n (pc' := 5) dX10_move_4 rfl rfl (q_cVi (pc' := 8) dX10_move_5 rfl ml_RX10_184 yv_X0_hasDevice (by decide) (rn_X0_hasDevice hb hk) (by first | assumption | exact ⟨by omega, rfl⟩) rfl rfl (Nat.le_of_ble_eq_true rfl) (Nat.le_refl _) (q_ifb_eq (pc' := 11) (pt := 15) dX10_move_8 rfl rfl (fun h9 => Bool.noConfusion (Eq.trans (Eq.symm (h3)) h9)) (fun _ => (q_iload_n (pc' := 12) dX10_move_11 rfl rfl (q_if_ge (pc' := 15) (pt := 17) dX10_move_12 rfl rfl (fun h9 => absurd h9 (Int32.not_le.mpr h2)) (fun _ => (q_iconst (pc' := 16) _ dX10_move_15 rfl kk_iconst_m1 (q_iret dX10_move_16 rfl hQ))))))))))
theorem rt_X10_move1 {d set : Nat} {y : Int32} (hW : wSt R) (hb : cB I b) (hR : bRd b) (h : cH I R b ps n u A c s) (hA : gI b 8 A) (hd : d < b 0 2) (hset : set < 2 ^ 31) (hy : inN y (b 2 d) = false) : RtI w l yX10_move dd_X10_move [.ref 0, .int (nI d), .int y, .int (nI set)] (472, I, J, R) (aP I J R b A ps n u 4 A) := by
  have hk := hR.1
  have hV := hW.1
  have hin : inN (nI d) (b 0 2) = true := inN_t (by have := hk.2.2.1; omega) hd
  obtain ⟨hc18, hs18⟩ := cH_lt h
  have hi : s < 21 := by omega
  have hz : 50 + 20 * s ≤ 472 := by omega
  refine rt_intro2 (L := [some (.ref 0), some (.int (nI d)), some (.int y), some (.int (nI set))]) ⟨by decide, rfl, (fun h => by cases h)⟩ (Nat.le_of_ble_eq_true rfl) rfl (fun Y Q hQ => ?_)
  refine q_aload_n (pc' := 1) dX10_move_0 rfl rfl (q_getR (pc' := 4) dX10_move_1 rfl fr_RX10_26 ⟨by omega, rfl⟩ rfl (wV_10_3 hV) (by decide) (q_iload_n (pc' := 5) dX10_move_4 rfl rfl (q_cVi (pc' := 8) dX10_move_5 rfl ml_RX10_184 yv_X0_hasDevice (by decide) (rn_X0_hasDevice hb hk) (by first | assumption | exact ⟨by omega, rfl⟩) rfl rfl (Nat.le_of_ble_eq_true rfl) (Nat.le_refl _) (q_ifb_eq (pc' := 11) (pt := 15) dX10_move_8 rfl rfl (fun h9 => Bool.noConfusion (Eq.trans (Eq.symm (hin)) h9)) (fun _ => (q_iload_n (pc' := 12) dX10_move_11 rfl rfl (q_if_ge (pc' := 15) (pt := 17) dX10_move_12 rfl rfl (fun _ => (q_aload_n (pc' := 18) dX10_move_17 rfl rfl (q_aload_n (pc' := 19) dX10_move_18 rfl rfl (q_getR (pc' := 22) dX10_move_19 rfl fr_RX10_62 ⟨by omega, rfl⟩ rfl (wV_10_6 hV) (by decide) (q_sVa (pc' := 25) dX10_move_22 rfl ml_RX10_122 yv_X2_draft (by decide) (rs_X2_draft hW.2.2.2 h (h01_of hk hA.1)) ⟨by omega, rfl⟩ rfl rfl (Nat.le_of_ble_eq_true rfl) (Nat.le_refl _) (fun I1 ⟨r1, f1⟩ => (q_iload_n (pc' := 26) dX10_move_25 rfl rfl (q_iload_n (pc' := 27) dX10_move_26 rfl rfl (q_iload_n (pc' := 28) dX10_move_27 rfl rfl ?_))))))))) (fun h9 => absurd (nI_le (a := 0) (by omega) (by omega)) h9))))))))
  refine q_cVi (pc' := 31) dX10_move_28 rfl ml_RX10_165 yv_X5_shift (by decide) (rn_X5_shift1 hi (hW.2.2.2 s hi) hW.2.1 (cB_S f1 hb) hk r1 hd hy) (okS hi hz (by decide) rfl) rfl rfl (Nat.le_of_ble_eq_true rfl) (Nat.le_refl _) ?_
  refine q_tVi (pc' := 34) dX10_move_31 rfl ml_RX10_188 yv_X10_keepIfDone (by decide) (rt_X10_keepIfDone (B := A) (r := 4) hV (cH_S h f1) (by decide) (fun q => absurd q (by decide)) (fun _ => rfl)) ⟨by omega, rfl⟩ rfl rfl (Nat.le_of_ble_eq_true rfl) (Nat.le_refl _) (fun x3 I3 J3 R3 ⟨k1, k2, k3, k4, k5⟩ => ?_)
  exact q_iret dX10_move_34 rfl (hQ _ _ _ _ ⟨_, rfl, aP_of hs18 f1 k1 k2 k3 k4 k5⟩)
theorem rt_X10_move {d k set : Nat} (hW : wSt R) (hb : cB I b) (hR : bRd b) (h : cH I R b ps n u A c s) (hA : gI b 8 A) (hd : d < b 0 2) (hl : k < b 2 d) (hset : set < 2 ^ 31) : RtI w l yX10_move dd_X10_move [.ref 0, .int (nI d), .int (nI k), .int (nI set)] (472, I, J, R) (aP I J R b A ps n u (aMove b A d k set).1 (aMove b A d k set).2) := by
  have hk := hR.1
  have hV := hW.1
  have h10 := hk.2.2.1
  have hs8 := (hk.2.2.2 d hd).2.1
  have hin : inN (nI d) (b 0 2) = true := inN_t (by have := hk.2.2.1; omega) hd
  obtain ⟨hc18, hs18⟩ := cH_lt h
  have hi : s < 21 := by omega
  have hz : 50 + 20 * s ≤ 472 := by omega
  refine rt_intro2 (L := [some (.ref 0), some (.int (nI d)), some (.int (nI k)), some (.int (nI set))]) ⟨by decide, rfl, (fun h => by cases h)⟩ (Nat.le_of_ble_eq_true rfl) rfl (fun Y Q hQ => ?_)
  refine q_aload_n (pc' := 1) dX10_move_0 rfl rfl (q_getR (pc' := 4) dX10_move_1 rfl fr_RX10_26 ⟨by omega, rfl⟩ rfl (wV_10_3 hV) (by decide) (q_iload_n (pc' := 5) dX10_move_4 rfl rfl (q_cVi (pc' := 8) dX10_move_5 rfl ml_RX10_184 yv_X0_hasDevice (by decide) (rn_X0_hasDevice hb hk) (by first | assumption | exact ⟨by omega, rfl⟩) rfl rfl (Nat.le_of_ble_eq_true rfl) (Nat.le_refl _) (q_ifb_eq (pc' := 11) (pt := 15) dX10_move_8 rfl rfl (fun h9 => Bool.noConfusion (Eq.trans (Eq.symm (hin)) h9)) (fun _ => (q_iload_n (pc' := 12) dX10_move_11 rfl rfl (q_if_ge (pc' := 15) (pt := 17) dX10_move_12 rfl rfl (fun _ => (q_aload_n (pc' := 18) dX10_move_17 rfl rfl (q_aload_n (pc' := 19) dX10_move_18 rfl rfl (q_getR (pc' := 22) dX10_move_19 rfl fr_RX10_62 ⟨by omega, rfl⟩ rfl (wV_10_6 hV) (by decide) (q_sVa (pc' := 25) dX10_move_22 rfl ml_RX10_122 yv_X2_draft (by decide) (rs_X2_draft hW.2.2.2 h (h01_of hk hA.1)) ⟨by omega, rfl⟩ rfl rfl (Nat.le_of_ble_eq_true rfl) (Nat.le_refl _) (fun I1 ⟨r1, f1⟩ => (q_iload_n (pc' := 26) dX10_move_25 rfl rfl (q_iload_n (pc' := 27) dX10_move_26 rfl rfl (q_iload_n (pc' := 28) dX10_move_27 rfl rfl ?_))))))))) (fun h9 => absurd (nI_le (a := 0) (by omega) (by omega)) h9))))))))
  refine q_sVi (pc' := 31) dX10_move_28 rfl ml_RX10_165 yv_X5_shift (by decide) (rs_X5_shift hi (hW.2.2.2 s hi) hW.2.1 (cB_S f1 hb) hk r1 (gC_aOK hk hA.1) hd hl (hR.2.2.2.1 d hd).1 (by omega) (hR.2.2.2.1 d hd).2.1 (fun i hi2 h5 => d5_4 hA.1 hi2 h5) (fun _ j hj => hld_of hA.1 (by omega)) (fun h3 h7 => gG_3 hA hd h7 h3) (fun h3 h7 h0 h4 q hq => (move_resv hk hA hd hl h3 h7 h0 h4 q hq).2)) (okS hi hz (by decide) rfl) rfl rfl (Nat.le_of_ble_eq_true rfl) (Nat.le_refl _) (fun x2 I2 ⟨t1, r2, f2⟩ => ?_)
  subst t1
  refine q_tVi (pc' := 34) dX10_move_31 rfl ml_RX10_188 yv_X10_keepIfDone (by decide) (rt_X10_keepIfDone (B := (aMove b A d k set).2) hV (cH_S h (f1.tr f2)) move_lt (fun _ => r2) move_eq) ⟨by omega, rfl⟩ rfl rfl (Nat.le_of_ble_eq_true rfl) (Nat.le_refl _) (fun x3 I3 J3 R3 ⟨k1, k2, k3, k4, k5⟩ => ?_)
  exact q_iret dX10_move_34 rfl (hQ _ _ _ _ ⟨_, rfl, aP_of hs18 (f1.tr f2) k1 k2 k3 k4 k5⟩)
end VD1
