/-! ===== the reference: its acts, as they are called ===== -/
theorem pOK_dr1 {b A : St} {id : Nat} (hP : pOK A) : pOK (aDr1 b id A) := by
  refine ⟨fun k hk h => ?_, dOK_dr1 hP.2⟩
  unfold aDr1 at h ⊢
  split at h
  · rename_i hc; rw [if_pos hc]; exact hP.1 k hk h
  · rename_i hc
    rw [if_neg hc]
    have e2 : aNoOld (aLeaves b A id (A 4 id - 1)) id 2 k = mj_up (aSets A (A 4 id - 1) (if b 1 (id / 8) = 3 then 4 else 0) (if b 1 (id / 8) = 3 then id + 1 else 0)) 2 (A 4 id - 1) 0 2 k := rfl
    have e1 : aNoOld (aLeaves b A id (A 4 id - 1)) id 1 k = mj_up (mj_up A 0 (A 4 id - 1) (if b 1 (id / 8) = 3 then 4 else 0)) 1 (A 4 id - 1) (if b 1 (id / 8) = 3 then id + 1 else 0) 1 k := rfl
    rw [e2] at h
    rw [e1]
    by_cases e : k = A 4 id - 1
    · subst e; rw [mj_up_eq] at h; cases h
    · rw [mj_up_ne2 e] at h
      rw [mj_up_ne2 e]
      exact hP.1 k hk h
theorem pOK_tick {b A : St} (hk : bOK b) (hA : aOK A) (hP : pOK A) : pOK (aTick b A) := by
  have h1 := (aTick1_ok hk hA hP (b 0 0) (Nat.le_refl _)).2
  have h2 : pOK (aDrain b (aTick1 b A)) := itN_P (n := b 0 2) h1 (fun d B hd hB => itN_P (n := b 2 d) hB (fun k C hk9 hC => pOK_dr1 hC) (b 2 d) (Nat.le_refl _)) (b 0 2) (Nat.le_refl _)
  exact h2
/-- so many TICKS -/
def aTicks (b : St) (m : Nat) (A : St) : St := itN (fun _ A => aTick b A) m A
theorem aTicks_ok {b A : St} (hk : bOK b) (hA : aOK A) (hP : pOK A) (m : Nat) : aOK (aTicks b m A) ∧ pOK (aTicks b m A) := itN_P (P := fun B => aOK B ∧ pOK B) (n := m) ⟨hA, hP⟩ (fun k B _ hB => ⟨aOK_tick hk hB.1 hB.2, pOK_tick hk hB.1 hB.2⟩) m (Nat.le_refl _)
section M16
variable {w : mj_Wd} {l : Launch} {I : mj_M} {J : mj_J} {R : mj_R} {b A W0 : St} {ps : Nat → St} {n u : Nat}
theorem mH_F2 {I I' : mj_M} (h : mF2 I I') (hH : mH I ps n u) : mH I' ps n u := mH_of hH (congrFun (h 452 (by decide) (by decide)) 40) (congrFun (h 452 (by decide) (by decide)) 41) (h 466 (by decide) (by decide))
theorem beg_f (hR : rR (I 464) A) (hH : mH I ps n u) : mG I (mj_cp I 467 1775 (I 464)) ∧ mH (mj_cp I 467 1775 (I 464)) ps n u ∧ rR ((mj_cp I 467 1775 (I 464)) 464) A ∧ rR ((mj_cp I 467 1775 (I 464)) 467) A := by
  refine ⟨⟨fun a _ _ _ h4 _ => cp_ne h4, fun f _ _ => congrFun (cp_ne (by decide)) f⟩, mH_of hH (congrFun (cp_ne (by decide)) 40) (congrFun (cp_ne (by decide)) 41) (cp_ne (by decide)), ?_, ?_⟩
  · rw [cp_ne (by decide)]; exact hR
  · exact rR_cong (fun k hk9 => cp_in hk9) hR
/-- an act that is kept if it was not REFUSED -/
def mAct (I : mj_M) (ps : Nat → St) (n u : Nat) (A : St) (r : Nat) (A' : St) (x : Int32) (I' : mj_M) : Prop := x = nI r ∧ rR (I' 464) A' ∧ mH I' (if r = 0 then hPush ps n A else ps) (if r = 0 then hN n else n) (if r = 0 then 0 else u) ∧ mG I I'
theorem rn_X11_start0 {x : Int32} (hb : mB I b) (hx : inN x (b 0 2) = false) : Rn w l yX11_start dd_X11_start [.ref 452, .int x] (472, I, J, R) (some (.int (-1))) (472, I, J, R) := by
  refine rn_intro2 (L := [some (.ref 452), some (.int x)]) ⟨by decide, rfl, (fun h => by cases h)⟩ (Nat.le_refl _) (Nat.le_of_ble_eq_true rfl) rfl (fun Y Q hQ => ?_)
  exact q_aload_n (pc' := 1) dX11_start_0 rfl rfl (q_iload_n (pc' := 2) dX11_start_1 rfl rfl (q_cVi (pc' := 5) dX11_start_2 rfl ml_RX11_280 yv_X11_isDevice (by decide) (rn_X11_isDevice hb) ⟨by omega, rfl⟩ rfl rfl (Nat.le_of_ble_eq_true rfl) (Nat.le_refl _) (q_ifb_ne (pc' := 8) (pt := 10) dX11_start_5 rfl rfl (fun h9 => Bool.noConfusion (Eq.trans (Eq.symm (hx)) h9)) (fun _ => (q_iconst (pc' := 9) _ dX11_start_8 rfl kk_iconst_m1 (q_iret dX11_start_9 rfl hQ))))))
theorem rs_X11_start {d : Nat} (hM : mj_wM R) (hb : mB I b) (hk : bOK b) (hR : rR (I 464) A) (hA : aOK A) (hd : d < b 0 2) (hHo : b 1 d = 3 → aHoOK b (aSt0 A d) d) (hH : mH I ps n u) : RsI w l yX11_start dd_X11_start [.ref 452, .int (nI d)] (472, I, J, R) (mAct I ps n u A (aStart b A d).1 (aStart b A d).2) := by
  have hin : inN (nI d) (b 0 2) = true := (inN_iff (by have := hk.2.2.1; omega)).mpr ⟨d, hd, rfl⟩
  have hr : (aStart b A d).1 < 10 := by
    unfold aStart
    split
    · exact Nat.le_of_ble_eq_true rfl
    · split
      · exact Nat.le_of_ble_eq_true rfl
      · split <;> exact Nat.le_of_ble_eq_true rfl
  refine rt_intro2 (L := [some (.ref 452), some (.int (nI d))]) ⟨by decide, rfl, (fun h => by cases h)⟩ (Nat.le_of_ble_eq_true rfl) rfl (fun Y Q hQ => ?_)
  obtain ⟨g1, g2, g3, g4⟩ := beg_f hR hH
  refine q_aload_n (pc' := 1) dX11_start_0 rfl rfl (q_iload_n (pc' := 2) dX11_start_1 rfl rfl (q_cVi (pc' := 5) dX11_start_2 rfl ml_RX11_280 yv_X11_isDevice (by decide) (rn_X11_isDevice hb) ⟨by omega, rfl⟩ rfl rfl (Nat.le_of_ble_eq_true rfl) (Nat.le_refl _) (q_ifb_ne (pc' := 8) (pt := 10) dX11_start_5 rfl rfl (fun _ => (q_aload_n (pc' := 11) dX11_start_10 rfl rfl (q_cVv (pc' := 14) dX11_start_11 rfl ml_RX11_409 yv_X11_begin (by decide) (rn_X11_begin hM) ⟨by omega, rfl⟩ rfl rfl (Nat.le_of_ble_eq_true rfl) (Nat.le_refl _) ?_))) (fun h9 => Bool.noConfusion (Eq.trans (Eq.symm (hin)) h9)))))
  generalize mj_cp I 467 1775 (I 464) = I1 at g1 g2 g3 g4 ⊢
  refine q_aload_n (pc' := 15) dX11_start_14 rfl rfl (q_aload_n (pc' := 16) dX11_start_15 rfl rfl (q_iload_n (pc' := 17) dX11_start_16 rfl rfl (q_sVi (pc' := 20) dX11_start_17 rfl ml_RX11_412 yv_X11_starts (by decide) (rs_X11_starts hM (mB_G g1 hb) hk g3 hA hd hHo) ⟨by omega, rfl⟩ rfl rfl (Nat.le_of_ble_eq_true rfl) (Nat.le_refl _) (fun x2 I2 ⟨t1, t2, t3⟩ => ?_))))
  rw [t1]
  refine q_sVi (pc' := 23) dX11_start_20 rfl ml_RX11_415 yv_X11_kept (by decide) (rs_X11_kept (W0 := A) hM (mH_F2 t3 g2) (by rw [t3 467 (by decide) (by decide)]; exact g4) hr) ⟨by omega, rfl⟩ rfl rfl (Nat.le_of_ble_eq_true rfl) (Nat.le_refl _) (fun x3 I3 ⟨v1, v2, v3, v4⟩ => ?_)
  exact q_iret dX11_start_23 rfl (hQ _ _ _ _ ⟨_, rfl, ⟨rfl, rfl⟩, v1, (by rw [v4]; exact t2), v2, (g1.tr t3.g).tr v3⟩)
theorem rn_X11_claim0 {x : Int32} (hb : mB I b) (hx : inN x (b 0 2) = false) : Rn w l yX11_claim dd_X11_claim [.ref 452, .int x] (472, I, J, R) (some (.int (-1))) (472, I, J, R) := by
  refine rn_intro2 (L := [some (.ref 452), some (.int x)]) ⟨by decide, rfl, (fun h => by cases h)⟩ (Nat.le_refl _) (Nat.le_of_ble_eq_true rfl) rfl (fun Y Q hQ => ?_)
  exact q_aload_n (pc' := 1) dX11_claim_0 rfl rfl (q_iload_n (pc' := 2) dX11_claim_1 rfl rfl (q_cVi (pc' := 5) dX11_claim_2 rfl ml_RX11_280 yv_X11_isDevice (by decide) (rn_X11_isDevice hb) ⟨by omega, rfl⟩ rfl rfl (Nat.le_of_ble_eq_true rfl) (Nat.le_refl _) (q_ifb_ne (pc' := 8) (pt := 10) dX11_claim_5 rfl rfl (fun h9 => Bool.noConfusion (Eq.trans (Eq.symm (hx)) h9)) (fun _ => (q_iconst (pc' := 9) _ dX11_claim_8 rfl kk_iconst_m1 (q_iret dX11_claim_9 rfl hQ))))))
theorem rs_X11_claim {d : Nat} (hM : mj_wM R) (hb : mB I b) (hk : bOK b) (hR : rR (I 464) A) (hA : aOK A) (hd : d < b 0 2) (hH : mH I ps n u) : RsI w l yX11_claim dd_X11_claim [.ref 452, .int (nI d)] (472, I, J, R) (mAct I ps n u A (aClaim b A d).1 (aClaim b A d).2) := by
  have hin : inN (nI d) (b 0 2) = true := (inN_iff (by have := hk.2.2.1; omega)).mpr ⟨d, hd, rfl⟩
  have hr : (aClaim b A d).1 < 10 := by
    unfold aClaim
    split
    · exact Nat.le_of_ble_eq_true rfl
    · split <;> exact Nat.le_of_ble_eq_true rfl
  refine rt_intro2 (L := [some (.ref 452), some (.int (nI d))]) ⟨by decide, rfl, (fun h => by cases h)⟩ (Nat.le_of_ble_eq_true rfl) rfl (fun Y Q hQ => ?_)
  obtain ⟨g1, g2, g3, g4⟩ := beg_f hR hH
  refine q_aload_n (pc' := 1) dX11_claim_0 rfl rfl (q_iload_n (pc' := 2) dX11_claim_1 rfl rfl (q_cVi (pc' := 5) dX11_claim_2 rfl ml_RX11_280 yv_X11_isDevice (by decide) (rn_X11_isDevice hb) ⟨by omega, rfl⟩ rfl rfl (Nat.le_of_ble_eq_true rfl) (Nat.le_refl _) (q_ifb_ne (pc' := 8) (pt := 10) dX11_claim_5 rfl rfl (fun _ => (q_aload_n (pc' := 11) dX11_claim_10 rfl rfl (q_cVv (pc' := 14) dX11_claim_11 rfl ml_RX11_409 yv_X11_begin (by decide) (rn_X11_begin hM) ⟨by omega, rfl⟩ rfl rfl (Nat.le_of_ble_eq_true rfl) (Nat.le_refl _) ?_))) (fun h9 => Bool.noConfusion (Eq.trans (Eq.symm (hin)) h9)))))
  generalize mj_cp I 467 1775 (I 464) = I1 at g1 g2 g3 g4 ⊢
  refine q_aload_n (pc' := 15) dX11_claim_14 rfl rfl (q_aload_n (pc' := 16) dX11_claim_15 rfl rfl (q_iload_n (pc' := 17) dX11_claim_16 rfl rfl (q_sVi (pc' := 20) dX11_claim_17 rfl ml_RX11_420 yv_X11_claims (by decide) (rs_X11_claims hM (mB_G g1 hb) hk g3 hA hd) ⟨by omega, rfl⟩ rfl rfl (Nat.le_of_ble_eq_true rfl) (Nat.le_refl _) (fun x2 I2 ⟨t1, t2, t3⟩ => ?_))))
  rw [t1]
  refine q_sVi (pc' := 23) dX11_claim_20 rfl ml_RX11_415 yv_X11_kept (by decide) (rs_X11_kept (W0 := A) hM (mH_F2 t3.two g2) (by rw [t3 467 (by decide)]; exact g4) hr) ⟨by omega, rfl⟩ rfl rfl (Nat.le_of_ble_eq_true rfl) (Nat.le_refl _) (fun x3 I3 ⟨v1, v2, v3, v4⟩ => ?_)
  exact q_iret dX11_claim_23 rfl (hQ _ _ _ _ ⟨_, rfl, ⟨rfl, rfl⟩, v1, (by rw [v4]; exact t2), v2, (g1.tr t3.g).tr v3⟩)
theorem rn_X11_plug0 {x : Int32} (hb : mB I b) (hx : inN x (b 0 0) = false) : Rn w l yX11_plug dd_X11_plug [.ref 452, .int x] (472, I, J, R) (some (.int (-1))) (472, I, J, R) := by
  refine rn_intro2 (L := [some (.ref 452), some (.int x)]) ⟨by decide, rfl, (fun h => by cases h)⟩ (Nat.le_refl _) (Nat.le_of_ble_eq_true rfl) rfl (fun Y Q hQ => ?_)
  exact q_aload_n (pc' := 1) dX11_plug_0 rfl rfl (q_iload_n (pc' := 2) dX11_plug_1 rfl rfl (q_cVi (pc' := 5) dX11_plug_2 rfl ml_RX11_433 yv_X11_isCpu (by decide) (rn_X11_isCpu hb) ⟨by omega, rfl⟩ rfl rfl (Nat.le_of_ble_eq_true rfl) (Nat.le_refl _) (q_ifb_ne (pc' := 8) (pt := 10) dX11_plug_5 rfl rfl (fun h9 => Bool.noConfusion (Eq.trans (Eq.symm (hx)) h9)) (fun _ => (q_iconst (pc' := 9) _ dX11_plug_8 rfl kk_iconst_m1 (q_iret dX11_plug_9 rfl hQ))))))
theorem rs_X11_plug {U : St → Prop} {p : Nat} (hM : mj_wM R) (hb : mB I b) (hk : bOK b) (hR : rR (I 464) A) (hA : aOK A) (hU : gCl b p U) (hA0 : A 9 p ≠ 1 → U (mj_up A 9 p 1)) (hp : p < b 0 0) (hH : mH I ps n u) : RsI w l yX11_plug dd_X11_plug [.ref 452, .int (nI p)] (472, I, J, R) (mAct I ps n u A (aPlug b A p).1 (aPlug b A p).2) := by
  have hin : inN (nI p) (b 0 0) = true := (inN_iff (by have := hk.1.2; omega)).mpr ⟨p, hp, rfl⟩
  have hr : (aPlug b A p).1 < 10 := by
    unfold aPlug
    split <;> exact Nat.le_of_ble_eq_true rfl
  refine rt_intro2 (L := [some (.ref 452), some (.int (nI p))]) ⟨by decide, rfl, (fun h => by cases h)⟩ (Nat.le_of_ble_eq_true rfl) rfl (fun Y Q hQ => ?_)
  obtain ⟨g1, g2, g3, g4⟩ := beg_f hR hH
  refine q_aload_n (pc' := 1) dX11_plug_0 rfl rfl (q_iload_n (pc' := 2) dX11_plug_1 rfl rfl (q_cVi (pc' := 5) dX11_plug_2 rfl ml_RX11_433 yv_X11_isCpu (by decide) (rn_X11_isCpu hb) ⟨by omega, rfl⟩ rfl rfl (Nat.le_of_ble_eq_true rfl) (Nat.le_refl _) (q_ifb_ne (pc' := 8) (pt := 10) dX11_plug_5 rfl rfl (fun _ => (q_aload_n (pc' := 11) dX11_plug_10 rfl rfl (q_cVv (pc' := 14) dX11_plug_11 rfl ml_RX11_409 yv_X11_begin (by decide) (rn_X11_begin hM) ⟨by omega, rfl⟩ rfl rfl (Nat.le_of_ble_eq_true rfl) (Nat.le_refl _) ?_))) (fun h9 => Bool.noConfusion (Eq.trans (Eq.symm (hin)) h9)))))
  generalize mj_cp I 467 1775 (I 464) = I1 at g1 g2 g3 g4 ⊢
  refine q_aload_n (pc' := 15) dX11_plug_14 rfl rfl (q_aload_n (pc' := 16) dX11_plug_15 rfl rfl (q_iload_n (pc' := 17) dX11_plug_16 rfl rfl (q_sVi (pc' := 20) dX11_plug_17 rfl ml_RX11_439 yv_X11_plugs (by decide) (rs_X11_plugs hM (mB_G g1 hb) hk g3 hA hU hA0 hp) ⟨by omega, rfl⟩ rfl rfl (Nat.le_of_ble_eq_true rfl) (Nat.le_refl _) (fun x2 I2 ⟨t1, t2, t3⟩ => ?_))))
  rw [t1]
  refine q_sVi (pc' := 23) dX11_plug_20 rfl ml_RX11_415 yv_X11_kept (by decide) (rs_X11_kept (W0 := A) hM (mH_F2 t3.two g2) (by rw [t3 467 (by decide)]; exact g4) hr) ⟨by omega, rfl⟩ rfl rfl (Nat.le_of_ble_eq_true rfl) (Nat.le_refl _) (fun x3 I3 ⟨v1, v2, v3, v4⟩ => ?_)
  exact q_iret dX11_plug_23 rfl (hQ _ _ _ _ ⟨_, rfl, ⟨rfl, rfl⟩, v1, (by rw [v4]; exact t2), v2, (g1.tr t3.g).tr v3⟩)
theorem rn_X11_unplug0 {x : Int32} (hb : mB I b) (hx : inN x (b 0 0) = false) : Rn w l yX11_unplug dd_X11_unplug [.ref 452, .int x] (472, I, J, R) (some (.int (-1))) (472, I, J, R) := by
  refine rn_intro2 (L := [some (.ref 452), some (.int x)]) ⟨by decide, rfl, (fun h => by cases h)⟩ (Nat.le_refl _) (Nat.le_of_ble_eq_true rfl) rfl (fun Y Q hQ => ?_)
  exact q_aload_n (pc' := 1) dX11_unplug_0 rfl rfl (q_iload_n (pc' := 2) dX11_unplug_1 rfl rfl (q_cVi (pc' := 5) dX11_unplug_2 rfl ml_RX11_433 yv_X11_isCpu (by decide) (rn_X11_isCpu hb) ⟨by omega, rfl⟩ rfl rfl (Nat.le_of_ble_eq_true rfl) (Nat.le_refl _) (q_ifb_ne (pc' := 8) (pt := 10) dX11_unplug_5 rfl rfl (fun h9 => Bool.noConfusion (Eq.trans (Eq.symm (hx)) h9)) (fun _ => (q_iconst (pc' := 9) _ dX11_unplug_8 rfl kk_iconst_m1 (q_iret dX11_unplug_9 rfl hQ))))))
theorem aUnplug_lt {b A : St} {p : Nat} : (aUnplug b A p).1 < 10 := by
  unfold aUnplug
  split
  · exact Nat.le_of_ble_eq_true rfl
  · split
    · exact Nat.le_of_ble_eq_true rfl
    · cases itO (aUn1 b p) (b 0 2) (mj_up A 9 p 0) with
      | none => exact Nat.le_of_ble_eq_true rfl
      | some A' =>
        dsimp only
        split <;> exact Nat.le_of_ble_eq_true rfl
theorem rs_X11_unplug {U : St → Prop} {p : Nat} (hM : mj_wM R) (hb : mB I b) (hk : bOK b) (hR : rR (I 464) A) (hA : aOK A) (hU : uCl b p U) (hA0 : A 9 p = 1 → U (mj_up A 9 p 0)) (hp : p < b 0 0) (hH : mH I ps n u) : RsI w l yX11_unplug dd_X11_unplug [.ref 452, .int (nI p)] (472, I, J, R) (mAct I ps n u A (aUnplug b A p).1 (aUnplug b A p).2) := by
  have hin : inN (nI p) (b 0 0) = true := (inN_iff (by have := hk.1.2; omega)).mpr ⟨p, hp, rfl⟩
  refine rt_intro2 (L := [some (.ref 452), some (.int (nI p))]) ⟨by decide, rfl, (fun h => by cases h)⟩ (Nat.le_of_ble_eq_true rfl) rfl (fun Y Q hQ => ?_)
  obtain ⟨g1, g2, g3, g4⟩ := beg_f hR hH
  refine q_aload_n (pc' := 1) dX11_unplug_0 rfl rfl (q_iload_n (pc' := 2) dX11_unplug_1 rfl rfl (q_cVi (pc' := 5) dX11_unplug_2 rfl ml_RX11_433 yv_X11_isCpu (by decide) (rn_X11_isCpu hb) ⟨by omega, rfl⟩ rfl rfl (Nat.le_of_ble_eq_true rfl) (Nat.le_refl _) (q_ifb_ne (pc' := 8) (pt := 10) dX11_unplug_5 rfl rfl (fun _ => (q_aload_n (pc' := 11) dX11_unplug_10 rfl rfl (q_cVv (pc' := 14) dX11_unplug_11 rfl ml_RX11_409 yv_X11_begin (by decide) (rn_X11_begin hM) ⟨by omega, rfl⟩ rfl rfl (Nat.le_of_ble_eq_true rfl) (Nat.le_refl _) ?_))) (fun h9 => Bool.noConfusion (Eq.trans (Eq.symm (hin)) h9)))))
  generalize mj_cp I 467 1775 (I 464) = I1 at g1 g2 g3 g4 ⊢
  refine q_aload_n (pc' := 15) dX11_unplug_14 rfl rfl (q_aload_n (pc' := 16) dX11_unplug_15 rfl rfl (q_iload_n (pc' := 17) dX11_unplug_16 rfl rfl (q_sVi (pc' := 20) dX11_unplug_17 rfl ml_RX11_436 yv_X11_unplugs (by decide) (rs_X11_unplugs hM (mB_G g1 hb) hk g3 hA hU hA0 hp) ⟨by omega, rfl⟩ rfl rfl (Nat.le_of_ble_eq_true rfl) (Nat.le_refl _) (fun x2 I2 ⟨t1, t2, t3⟩ => ?_))))
  rw [t1]
  refine q_sVi (pc' := 23) dX11_unplug_20 rfl ml_RX11_415 yv_X11_kept (by decide) (rs_X11_kept (W0 := A) hM (mH_F2 t3 g2) (by rw [t3 467 (by decide) (by decide)]; exact g4) aUnplug_lt) ⟨by omega, rfl⟩ rfl rfl (Nat.le_of_ble_eq_true rfl) (Nat.le_refl _) (fun x3 I3 ⟨v1, v2, v3, v4⟩ => ?_)
  exact q_iret dX11_unplug_23 rfl (hQ _ _ _ _ ⟨_, rfl, ⟨rfl, rfl⟩, v1, (by rw [v4]; exact t2), v2, (g1.tr t3.g).tr v3⟩)
theorem rn_X11_move0 {x y z : Int32} (hb : mB I b) (hx : inN x (b 0 2) = false ∨ z < 0) : Rn w l yX11_move dd_X11_move [.ref 452, .int x, .int y, .int z] (472, I, J, R) (some (.int (-1))) (472, I, J, R) := by
  refine rn_intro2 (L := [some (.ref 452), some (.int x), some (.int y), some (.int z)]) ⟨by decide, rfl, (fun h => by cases h)⟩ (Nat.le_refl _) (Nat.le_of_ble_eq_true rfl) rfl (fun Y Q hQ => ?_)
  refine q_aload_n (pc' := 1) dX11_move_0 rfl rfl (q_iload_n (pc' := 2) dX11_move_1 rfl rfl (q_cVi (pc' := 5) dX11_move_2 rfl ml_RX11_280 yv_X11_isDevice (by decide) (rn_X11_isDevice hb) ⟨by omega, rfl⟩ rfl rfl (Nat.le_of_ble_eq_true rfl) (Nat.le_refl _) (q_ifb_eq (pc' := 8) (pt := 12) dX11_move_5 rfl rfl (fun h1 => ?_) (fun h1 => ?_))))
  · exact q_iconst (pc' := 13) _ dX11_move_12 rfl kk_iconst_m1 (q_iret dX11_move_13 rfl hQ)
  · have h2 : z < 0 := hx.elim (fun h => by have h9 : inN x (b 0 2) = true := h1; rw [h] at h9; cases h9) id
    exact q_iload_n (pc' := 9) dX11_move_8 rfl rfl (q_if_ge (pc' := 12) (pt := 14) dX11_move_9 rfl rfl (fun h9 => absurd h9 (Int32.not_le.mpr h2)) (fun _ => (q_iconst (pc' := 13) _ dX11_move_12 rfl kk_iconst_m1 (q_iret dX11_move_13 rfl hQ))))
theorem rs_X11_move {d set : Nat} {y : Int32} (hM : mj_wM R) (hb : mB I b) (hk : bOK b) (hR : rR (I 464) A) (hA : aOK A) (hd : d < b 0 2) (hset : set < 2 ^ 31) (hH : mH I ps n u) (r : Nat) (A' : St) (hr : r < 10)
    (hc : ∀ I1 : mj_M, mB I1 b → rR (I1 464) A → RsI w l yX11_movesTo dd_X11_movesTo [.ref 452, .int (nI d), .int y, .int (nI set)] (472, I1, J, R) (fun x I' => x = nI r ∧ rR (I' 464) A' ∧ mF I1 I')) : RsI w l yX11_move dd_X11_move [.ref 452, .int (nI d), .int y, .int (nI set)] (472, I, J, R) (mAct I ps n u A r A') := by
  have hin : inN (nI d) (b 0 2) = true := (inN_iff (by have := hk.2.2.1; omega)).mpr ⟨d, hd, rfl⟩
  refine rt_intro2 (L := [some (.ref 452), some (.int (nI d)), some (.int y), some (.int (nI set))]) ⟨by decide, rfl, (fun h => by cases h)⟩ (Nat.le_of_ble_eq_true rfl) rfl (fun Y Q hQ => ?_)
  obtain ⟨g1, g2, g3, g4⟩ := beg_f hR hH
  refine q_aload_n (pc' := 1) dX11_move_0 rfl rfl (q_iload_n (pc' := 2) dX11_move_1 rfl rfl (q_cVi (pc' := 5) dX11_move_2 rfl ml_RX11_280 yv_X11_isDevice (by decide) (rn_X11_isDevice hb) ⟨by omega, rfl⟩ rfl rfl (Nat.le_of_ble_eq_true rfl) (Nat.le_refl _) (q_ifb_eq (pc' := 8) (pt := 12) dX11_move_5 rfl rfl (fun h9 => Bool.noConfusion (Eq.trans (Eq.symm (hin)) h9)) (fun _ => (q_iload_n (pc' := 9) dX11_move_8 rfl rfl (q_if_ge (pc' := 12) (pt := 14) dX11_move_9 rfl rfl (fun _ => (q_aload_n (pc' := 15) dX11_move_14 rfl rfl (q_cVv (pc' := 18) dX11_move_15 rfl ml_RX11_409 yv_X11_begin (by decide) (rn_X11_begin hM) ⟨by omega, rfl⟩ rfl rfl (Nat.le_of_ble_eq_true rfl) (Nat.le_refl _) ?_))) (fun h9 => absurd (nI_pos' hset) h9)))))))
  generalize mj_cp I 467 1775 (I 464) = I1 at g1 g2 g3 g4 ⊢
  refine q_aload_n (pc' := 19) dX11_move_18 rfl rfl (q_aload_n (pc' := 20) dX11_move_19 rfl rfl (q_iload_n (pc' := 21) dX11_move_20 rfl rfl (q_iload_n (pc' := 22) dX11_move_21 rfl rfl (q_iload_n (pc' := 23) dX11_move_22 rfl rfl (q_sVi (pc' := 26) dX11_move_23 rfl ml_RX11_430 yv_X11_movesTo (by decide) (hc I1 (mB_G g1 hb) g3) ⟨by omega, rfl⟩ rfl rfl (Nat.le_of_ble_eq_true rfl) (Nat.le_refl _) (fun x2 I2 ⟨t1, t2, t3⟩ => ?_))))))
  rw [t1]
  refine q_sVi (pc' := 29) dX11_move_26 rfl ml_RX11_415 yv_X11_kept (by decide) (rs_X11_kept (W0 := A) hM (mH_F2 t3.two g2) (by rw [t3 467 (by decide)]; exact g4) hr) ⟨by omega, rfl⟩ rfl rfl (Nat.le_of_ble_eq_true rfl) (Nat.le_refl _) (fun x3 I3 ⟨v1, v2, v3, v4⟩ => ?_)
  exact q_iret dX11_move_29 rfl (hQ _ _ _ _ ⟨_, rfl, ⟨rfl, rfl⟩, v1, (by rw [v4]; exact t2), v2, (g1.tr t3.g).tr v3⟩)
/-- an act that is kept always -/
def mDone (I : mj_M) (ps : Nat → St) (n : Nat) (A : St) (y : Int32) (A' : St) (x : Int32) (I' : mj_M) : Prop := x = y ∧ rR (I' 464) A' ∧ mH I' (hPush ps n A) (hN n) 0 ∧ mG I I'
theorem rn_X11_stop0 {x : Int32} (hM : mj_wM R) (hb : mB I b) (hk : bOK b) (hR : rR (I 464) A) (hA : aOK A) (hx : ∀ d, d < b 0 2 → x = nI d → A 7 d ≠ 1) : Rn w l yX11_stop dd_X11_stop [.ref 452, .int x] (472, I, J, R) (some (.int (-1))) (472, I, J, R) := by
  refine rn_intro2 (L := [some (.ref 452), some (.int x), none]) ⟨by decide, rfl, (fun h => by cases h)⟩ (Nat.le_refl _) (Nat.le_of_ble_eq_true rfl) rfl (fun Y Q hQ => ?_)
  refine q_aload_n (pc' := 1) dX11_stop_0 rfl rfl (q_iload_n (pc' := 2) dX11_stop_1 rfl rfl (q_cVi (pc' := 5) dX11_stop_2 rfl ml_RX11_280 yv_X11_isDevice (by decide) (rn_X11_isDevice hb) ⟨by omega, rfl⟩ rfl rfl (Nat.le_of_ble_eq_true rfl) (Nat.le_refl _) (q_ifb_eq (pc' := 8) (pt := 16) dX11_stop_5 rfl rfl (fun h1 => ?_) (fun h1 => ?_))))
  · exact q_iconst (pc' := 17) _ dX11_stop_16 rfl kk_iconst_m1 (q_iret dX11_stop_17 rfl hQ)
  · obtain ⟨d, hd, rfl⟩ := (inN_iff (by have := hk.2.2.1; omega)).mp h1
    exact q_aload_n (pc' := 9) dX11_stop_8 rfl rfl (q_iload_n (pc' := 10) dX11_stop_9 rfl rfl (q_cVi (pc' := 13) dX11_stop_10 rfl ml_RX11_283 yv_X11_isStarted (by decide) (rn_X11_isStarted hM hR hA (by have := hk.2.2.1; omega)) ⟨by omega, rfl⟩ rfl rfl (Nat.le_of_ble_eq_true rfl) (Nat.le_refl _) (q_ifb_ne (pc' := 16) (pt := 18) dX11_stop_13 rfl rfl (fun h9 => Bool.noConfusion (Eq.trans (Eq.symm (beq_eq_false_iff_ne.mpr (hx d hd rfl))) h9)) (fun _ => (q_iconst (pc' := 17) _ dX11_stop_16 rfl kk_iconst_m1 (q_iret dX11_stop_17 rfl hQ))))))
theorem rs_X11_stop {d : Nat} (hM : mj_wM R) (hb : mB I b) (hk : bOK b) (hR : rR (I 464) A) (hA : aOK A) (hd : d < b 0 2) (hs : A 7 d = 1) (hH : mH I ps n u) : RsI w l yX11_stop dd_X11_stop [.ref 452, .int (nI d)] (472, I, J, R) (mDone I ps n A (nI (aStop b A d 16 0)) (aStop b A d)) := by
  have h10 : d < 10 := by have := hk.2.2.1; omega
  have hin : inN (nI d) (b 0 2) = true := (inN_iff (by have := hk.2.2.1; omega)).mpr ⟨d, hd, rfl⟩
  refine rt_intro2 (L := [some (.ref 452), some (.int (nI d)), none]) ⟨by decide, rfl, (fun h => by cases h)⟩ (Nat.le_of_ble_eq_true rfl) rfl (fun Y Q hQ => ?_)
  obtain ⟨g1, g2, g3, g4⟩ := beg_f hR hH
  refine q_aload_n (pc' := 1) dX11_stop_0 rfl rfl (q_iload_n (pc' := 2) dX11_stop_1 rfl rfl (q_cVi (pc' := 5) dX11_stop_2 rfl ml_RX11_280 yv_X11_isDevice (by decide) (rn_X11_isDevice hb) ⟨by omega, rfl⟩ rfl rfl (Nat.le_of_ble_eq_true rfl) (Nat.le_refl _) (q_ifb_eq (pc' := 8) (pt := 16) dX11_stop_5 rfl rfl (fun h9 => Bool.noConfusion (Eq.trans (Eq.symm (hin)) h9)) (fun _ => (q_aload_n (pc' := 9) dX11_stop_8 rfl rfl (q_iload_n (pc' := 10) dX11_stop_9 rfl rfl (q_cVi (pc' := 13) dX11_stop_10 rfl ml_RX11_283 yv_X11_isStarted (by decide) (rn_X11_isStarted hM hR hA h10) ⟨by omega, rfl⟩ rfl rfl (Nat.le_of_ble_eq_true rfl) (Nat.le_refl _) (q_ifb_ne (pc' := 16) (pt := 18) dX11_stop_13 rfl rfl (fun _ => (q_aload_n (pc' := 19) dX11_stop_18 rfl rfl (q_cVv (pc' := 22) dX11_stop_19 rfl ml_RX11_409 yv_X11_begin (by decide) (rn_X11_begin hM) ⟨by omega, rfl⟩ rfl rfl (Nat.le_of_ble_eq_true rfl) (Nat.le_refl _) ?_))) (fun h9 => Bool.noConfusion (Eq.trans (Eq.symm (beq_iff_eq.mpr hs)) h9))))))))))
  generalize mj_cp I 467 1775 (I 464) = I1 at g1 g2 g3 g4 ⊢
  refine q_aload_n (pc' := 23) dX11_stop_22 rfl rfl (q_iload_n (pc' := 24) dX11_stop_23 rfl rfl (q_sVi (pc' := 27) dX11_stop_24 rfl ml_RX11_417 yv_X11_stops (by decide) (rs_X11_stops hM (mB_G g1 hb) hk g3 hA h10) ⟨by omega, rfl⟩ rfl rfl (Nat.le_of_ble_eq_true rfl) (Nat.le_refl _) (fun x2 I2 ⟨t1, t2, t3⟩ => ?_)))
  refine q_ist_2 (pc' := 28) dX11_stop_27 rfl (by decide) rfl (q_aload_n (pc' := 29) dX11_stop_28 rfl rfl (q_sVv (pc' := 32) dX11_stop_29 rfl ml_RX11_406 yv_X11_keeps (by decide) (rs_X11_keeps (W0 := A) hM (mH_F2 t3.two g2) (by rw [t3 467 (by decide)]; exact g4)) ⟨by omega, rfl⟩ rfl rfl (Nat.le_of_ble_eq_true rfl) (Nat.le_refl _) (fun I3 ⟨v1, v2, v3, v4⟩ => ?_)))
  exact q_iload_n (pc' := 33) dX11_stop_32 rfl rfl (q_iret dX11_stop_33 rfl (hQ _ _ _ _ ⟨_, rfl, ⟨rfl, rfl⟩, t1, (by rw [v3]; exact t2), v1, (g1.tr t3.g).tr v2⟩))
theorem rn_X11_raise0 {x y : Int32} {late : Bool} (hM : mj_wM R) (hb : mB I b) (hk : bOK b) (hR : rR (I 464) A) (hA : aOK A) (hx : ∀ d, d < b 0 2 → x = nI d → ((A 7 d == 1) && inN y (b 2 d)) = false) : Rn w l yX11_raise dd_X11_raise [.ref 452, .int x, .int y, .int (bI late)] (472, I, J, R) (some (.int (-1))) (472, I, J, R) := by
  refine rn_intro2 (L := [some (.ref 452), some (.int x), some (.int y), some (.int (bI late)), none]) ⟨by decide, rfl, (fun h => by cases h)⟩ (Nat.le_refl _) (Nat.le_of_ble_eq_true rfl) rfl (fun Y Q hQ => ?_)
  cases h1 : inN x (b 0 2) with
  | false =>
    exact q_aload_n (pc' := 1) dX11_raise_0 rfl rfl (q_iload_n (pc' := 2) dX11_raise_1 rfl rfl (q_iload_n (pc' := 3) dX11_raise_2 rfl rfl (q_cVi (pc' := 6) dX11_raise_3 rfl ml_RX11_378 yv_X11_isLine (by decide) (rn_X11_isLine0 hM hb h1) ⟨by omega, rfl⟩ rfl rfl (Nat.le_of_ble_eq_true rfl) (Nat.le_refl _) (q_ifb_ne (pc' := 9) (pt := 11) dX11_raise_6 rfl rfl (fun h9 => Bool.noConfusion (Eq.trans (Eq.symm (rfl)) h9)) (fun _ => (q_iconst (pc' := 10) _ dX11_raise_9 rfl kk_iconst_m1 (q_iret dX11_raise_10 rfl hQ)))))))
  | true =>
    obtain ⟨d, hd, rfl⟩ := (inN_iff (by have := hk.2.2.1; omega)).mp h1
    exact q_aload_n (pc' := 1) dX11_raise_0 rfl rfl (q_iload_n (pc' := 2) dX11_raise_1 rfl rfl (q_iload_n (pc' := 3) dX11_raise_2 rfl rfl (q_cVi (pc' := 6) dX11_raise_3 rfl ml_RX11_378 yv_X11_isLine (by decide) (rn_X11_isLine hM hb hk hR hA hd) ⟨by omega, rfl⟩ rfl rfl (Nat.le_of_ble_eq_true rfl) (Nat.le_refl _) (q_ifb_ne (pc' := 9) (pt := 11) dX11_raise_6 rfl rfl (fun h9 => Bool.noConfusion (Eq.trans (Eq.symm (hx d hd rfl)) h9)) (fun _ => (q_iconst (pc' := 10) _ dX11_raise_9 rfl kk_iconst_m1 (q_iret dX11_raise_10 rfl hQ)))))))
theorem rs_X11_raise {d k : Nat} {late : Bool} (hM : mj_wM R) (hb : mB I b) (hk : bOK b) (hR : rR (I 464) A) (hA : aOK A) (hd : d < b 0 2) (hs : A 7 d = 1) (hl : k < b 2 d) (hH : mH I ps n u) : RsI w l yX11_raise dd_X11_raise [.ref 452, .int (nI d), .int (nI k), .int (bI late)] (472, I, J, R) (mDone I ps n A (nI (aRaise A d k late).1) (aRaise A d k late).2) := by
  have h10 : d < 10 := by have := hk.2.2.1; omega
  have hbs := hk.2.2.2 d hd
  have hin : inN (nI k) (b 2 d) = true := (inN_iff (by omega)).mpr ⟨k, hl, rfl⟩
  refine rt_intro2 (L := [some (.ref 452), some (.int (nI d)), some (.int (nI k)), some (.int (bI late)), none]) ⟨by decide, rfl, (fun h => by cases h)⟩ (Nat.le_of_ble_eq_true rfl) rfl (fun Y Q hQ => ?_)
  obtain ⟨g1, g2, g3, g4⟩ := beg_f hR hH
  refine q_aload_n (pc' := 1) dX11_raise_0 rfl rfl (q_iload_n (pc' := 2) dX11_raise_1 rfl rfl (q_iload_n (pc' := 3) dX11_raise_2 rfl rfl (q_cVi (pc' := 6) dX11_raise_3 rfl ml_RX11_378 yv_X11_isLine (by decide) (rn_X11_isLine hM hb hk hR hA hd) ⟨by omega, rfl⟩ rfl rfl (Nat.le_of_ble_eq_true rfl) (Nat.le_refl _) (q_ifb_ne (pc' := 9) (pt := 11) dX11_raise_6 rfl rfl (fun _ => (q_aload_n (pc' := 12) dX11_raise_11 rfl rfl (q_cVv (pc' := 15) dX11_raise_12 rfl ml_RX11_409 yv_X11_begin (by decide) (rn_X11_begin hM) ⟨by omega, rfl⟩ rfl rfl (Nat.le_of_ble_eq_true rfl) (Nat.le_refl _) ?_))) (fun h9 => Bool.noConfusion (Eq.trans (Eq.symm (by rw [hin, hs])) h9))))))
  generalize mj_cp I 467 1775 (I 464) = I1 at g1 g2 g3 g4 ⊢
  refine q_aload_n (pc' := 16) dX11_raise_15 rfl rfl (q_iload_n (pc' := 17) dX11_raise_16 rfl rfl (q_iload_n (pc' := 18) dX11_raise_17 rfl rfl (q_iload_n (pc' := 19) dX11_raise_18 rfl rfl (q_sVi (pc' := 22) dX11_raise_19 rfl ml_RX11_423 yv_X11_raises (by decide) (rs_X11_raises hM g3 hA h10 (by omega)) ⟨by omega, rfl⟩ rfl rfl (Nat.le_of_ble_eq_true rfl) (Nat.le_refl _) (fun x2 I2 ⟨t1, t2, t3⟩ => ?_)))))
  refine q_ist_4 (pc' := 24) dX11_raise_22 rfl (by decide) rfl (q_aload_n (pc' := 25) dX11_raise_24 rfl rfl (q_sVv (pc' := 28) dX11_raise_25 rfl ml_RX11_406 yv_X11_keeps (by decide) (rs_X11_keeps (W0 := A) hM (mH_F2 t3.two g2) (by rw [t3 467 (by decide)]; exact g4)) ⟨by omega, rfl⟩ rfl rfl (Nat.le_of_ble_eq_true rfl) (Nat.le_refl _) (fun I3 ⟨v1, v2, v3, v4⟩ => ?_)))
  exact q_iload (pc' := 30) dX11_raise_28 rfl rfl (q_iret dX11_raise_30 rfl (hQ _ _ _ _ ⟨_, rfl, ⟨rfl, rfl⟩, t1, (by rw [v3]; exact t2), v1, (g1.tr t3.g).tr v2⟩))
theorem rn_X11_tick0 {x : Int32} (hx : ¬ (nI 1 ≤ x ∧ x ≤ nI 100)) : Rn w l yX11_tick dd_X11_tick [.ref 452, .int x] (472, I, J, R) (some (.int (-1))) (472, I, J, R) := by
  refine rn_intro2 (L := [some (.ref 452), some (.int x), none]) ⟨by decide, rfl, (fun h => by cases h)⟩ (Nat.le_refl _) (Nat.le_of_ble_eq_true rfl) rfl (fun Y Q hQ => ?_)
  exact q_iload_n (pc' := 1) dX11_tick_0 rfl rfl (q_iconst (pc' := 2) _ dX11_tick_1 rfl kk_iconst_1 (q_bipush (pc' := 4) _ dX11_tick_2 rfl kk_bipush_100 (q_cSi (pc' := 7) dX11_tick_4 rfl ml_RX11_89 ys_X11_isIn (by decide) (rn_X11_isIn) rfl rfl (Nat.le_of_ble_eq_true rfl) (Nat.le_refl _) (q_ifb_ne (pc' := 10) (pt := 12) dX11_tick_7 rfl rfl (fun h9 => Bool.noConfusion (Eq.trans (Eq.symm (decide_eq_false hx)) h9)) (fun _ => (q_iconst (pc' := 11) _ dX11_tick_10 rfl kk_iconst_m1 (q_iret dX11_tick_11 rfl hQ)))))))
theorem rs_X11_tick {m : Nat} (hM : mj_wM R) (hb : mB I b) (hk : bOK b) (hR : rR (I 464) A) (hA : aOK A) (hP : pOK A) (h1 : 1 ≤ m) (h2 : m ≤ 100) (hH : mH I ps n u) : RsI w l yX11_tick dd_X11_tick [.ref 452, .int (nI m)] (472, I, J, R) (mDone I ps n A (nI (aTicks b m A 14 1) - nI (A 14 1)) (aTicks b m A)) := by
  refine rt_intro2 (L := [some (.ref 452), some (.int (nI m)), none]) ⟨by decide, rfl, (fun h => by cases h)⟩ (Nat.le_of_ble_eq_true rfl) rfl (fun Y Q hQ => ?_)
  obtain ⟨g1, g2, g3, g4⟩ := beg_f hR hH
  refine q_iload_n (pc' := 1) dX11_tick_0 rfl rfl (q_iconst (pc' := 2) _ dX11_tick_1 rfl kk_iconst_1 (q_bipush (pc' := 4) _ dX11_tick_2 rfl kk_bipush_100 (q_cSi (pc' := 7) dX11_tick_4 rfl ml_RX11_89 ys_X11_isIn (by decide) (rn_X11_isIn) rfl rfl (Nat.le_of_ble_eq_true rfl) (Nat.le_refl _) (q_ifb_ne (pc' := 10) (pt := 12) dX11_tick_7 rfl rfl (fun _ => (q_aload_n (pc' := 13) dX11_tick_12 rfl rfl (q_cVv (pc' := 16) dX11_tick_13 rfl ml_RX11_409 yv_X11_begin (by decide) (rn_X11_begin hM) ⟨by omega, rfl⟩ rfl rfl (Nat.le_of_ble_eq_true rfl) (Nat.le_refl _) ?_))) (fun h9 => Bool.noConfusion (Eq.trans (Eq.symm (decide_eq_true ⟨nI_le h1 (by omega), nI_le h2 (by decide)⟩)) h9))))))
  generalize mj_cp I 467 1775 (I 464) = I1 at g1 g2 g3 g4 ⊢
  have loop : ∀ x k I0, k + x = m → mF I1 I0 → rR (I0 464) (aTicks b k A) → Wq dd_X11_tick (mj_mk w l 472 Y) Q 18 [some (.ref 452), some (.int (nI m)), some (.int (nI k))] [] (472, I0, J, R) := by
    intro x
    induction x with
    | zero =>
      intro k I0 hkm hF0 hR0
      have hkz : k = m := by omega
      subst hkz
      refine q_iload_n (pc' := 19) dX11_tick_18 rfl rfl (q_iload_n (pc' := 20) dX11_tick_19 rfl rfl (q_icmp_ge (pc' := 23) (pt := 33) dX11_tick_20 rfl rfl (fun _ => (q_aload_n (pc' := 34) dX11_tick_33 rfl rfl (q_sVv (pc' := 37) dX11_tick_34 rfl ml_RX11_406 yv_X11_keeps (by decide) (rs_X11_keeps (W0 := A) hM (mH_F2 hF0.two g2) (by rw [hF0 467 (by decide)]; exact g4)) ⟨by omega, rfl⟩ rfl rfl (Nat.le_of_ble_eq_true rfl) (Nat.le_refl _) (fun I3 ⟨v1, v2, v3, v4⟩ => ?_)))) (fun h9 => absurd (by (first | assumption | exact nI_le (by omega) (by omega) | exact nI_ge (by omega) (by omega) | exact nI_lt (by omega) (by omega) | exact nI_nlt (by omega) (by omega) | exact nI_ne (by omega) (by omega) (by omega) | exact nI_e (by omega) | decide)) h9)))
      have e1 : I3 464 1571 = nI (aTicks b k A 14 1) := by rw [v3]; exact (hR0 1571 (by decide)).trans (cE_sc (k := 1) (by decide))
      have e2 : I3 467 1571 = nI (A 14 1) := by rw [v4, hF0 467 (by decide)]; exact (g4 1571 (by decide)).trans (cE_sc (k := 1) (by decide))
      exact q_aload_n (pc' := 38) dX11_tick_37 rfl rfl (q_getR (pc' := 41) dX11_tick_38 rfl fr_RX11_51 ⟨by omega, rfl⟩ rfl (wM_36 hM) (by decide) (q_sipush (pc' := 44) _ dX11_tick_41 rfl kk_sipush_1571 (q_ialde (pc' := 45) _ dX11_tick_44 rfl (by first | exact ⟨by omega, rfl⟩ | exact okaS hi hz (by decide) rfl | assumption) rfl (by omega) e1 (q_aload_n (pc' := 46) dX11_tick_45 rfl rfl (q_getR (pc' := 49) dX11_tick_46 rfl fr_RX11_60 ⟨by omega, rfl⟩ rfl (wM_39 hM) (by decide) (q_sipush (pc' := 52) _ dX11_tick_49 rfl kk_sipush_1571 (q_ialde (pc' := 53) _ dX11_tick_52 rfl (by first | exact ⟨by omega, rfl⟩ | exact okaS hi hz (by decide) rfl | assumption) rfl (by omega) e2 (q_isub (pc' := 54) dX11_tick_53 rfl (q_iret dX11_tick_54 rfl (hQ _ _ _ _ ⟨_, rfl, ⟨rfl, rfl⟩, rfl, (by rw [v3]; exact hR0), v1, (g1.tr hF0.g).tr v2⟩))))))))))
    | succ x ih =>
      intro k I0 hkm hF0 hR0
      have hok := aTicks_ok hk hA hP k
      refine q_iload_n (pc' := 19) dX11_tick_18 rfl rfl (q_iload_n (pc' := 20) dX11_tick_19 rfl rfl (q_icmp_ge (pc' := 23) (pt := 33) dX11_tick_20 rfl rfl (fun h9 => absurd h9 (by (first | assumption | exact nI_le (by omega) (by omega) | exact nI_ge (by omega) (by omega) | exact nI_lt (by omega) (by omega) | exact nI_nlt (by omega) (by omega) | exact nI_ne (by omega) (by omega) (by omega) | exact nI_e (by omega) | decide))) (fun _ => (q_aload_n (pc' := 24) dX11_tick_23 rfl rfl (q_sVv (pc' := 27) dX11_tick_24 rfl ml_RX11_427 yv_X11_ticks (by decide) (rs_X11_ticks hM (mB_G (g1.tr hF0.g) hb) hk hR0 hok.1 hok.2) ⟨by omega, rfl⟩ rfl rfl (Nat.le_of_ble_eq_true rfl) (Nat.le_refl _) (fun I4 ⟨hF4, hR4⟩ => ?_))))))
      refine q_inc_2 (pc' := 30) dX11_tick_27 rfl (by decide) rfl (q_goto (pc' := 18) dX11_tick_30 rfl ?_)
      exact ih (k + 1) I4 (by omega) (hF0.tr hF4) hR4
  refine q_iconst (pc' := 17) _ dX11_tick_16 rfl kk_iconst_0 (q_ist_2 (pc' := 18) dX11_tick_17 rfl (by decide) rfl ?_)
  exact loop m 0 I1 (by omega) mF.rf g3
end M16
