/-! ===== the class itself: more questions; the tape ===== -/
theorem by8_b {v : Int32} {s : Nat} (hs : s < 25) : ((v.toUInt32 >>> ((nI s).toUInt32 &&& Int32.toUInt32 31)).toInt32).toInt8.toInt32 = sB (by8 v s) := by
  unfold sB
  rw [← by8_e]
  have e1 : ∀ k, k < 32 → ((nI k).toUInt32 &&& Int32.toUInt32 31).toBitVec % 32 = BitVec.ofNat 32 k := by decide +kernel
  have e2 : ∀ k, k < 32 → ((nI k &&& 31).toBitVec.smod 32) = BitVec.ofNat 32 k := by decide +kernel
  congr 1
  apply Int8.toBitVec_inj.mp
  show BitVec.signExtend 8 (v.toUInt32 >>> ((nI s).toUInt32 &&& Int32.toUInt32 31)).toBitVec = BitVec.signExtend 8 (v >>> (nI s &&& 31) &&& nI 255).toBitVec
  rw [BitVec.signExtend_eq_setWidth_of_le _ (by decide), BitVec.signExtend_eq_setWidth_of_le _ (by decide), UInt32.toBitVec_shiftRight, e1 s (by omega), Int32.toBitVec_and, Int32.toBitVec_shiftRight, e2 s (by omega)]
  show BitVec.setWidth 8 (v.toBitVec >>> BitVec.ofNat 32 s) = BitVec.setWidth 8 (v.toBitVec.sshiftRight' (BitVec.ofNat 32 s) &&& BitVec.ofNat 32 255)
  rw [BitVec.ushiftRight_eq', BitVec.sshiftRight_eq', BitVec.toNat_ofNat, Nat.mod_eq_of_lt (by omega)]
  apply BitVec.eq_of_getLsbD_eq
  intro i hi
  have h255 : ∀ i, i < 8 → (BitVec.ofNat 32 255).getLsbD i = true := by decide
  rw [BitVec.getLsbD_setWidth, BitVec.getLsbD_setWidth, BitVec.getLsbD_ushiftRight, BitVec.getLsbD_and, BitVec.getLsbD_sshiftRight, h255 i hi, Bool.and_true, if_pos (by omega), decide_eq_false (show ¬ 32 ≤ i by omega)]
  rfl
section VD3
variable {w : mj_Wd} {l : Launch} {I : mj_M} {J : mj_J} {R : mj_R} {b A B : St} {ps : Nat → St} {n u c s t : Nat} {T : Nat → Nat}
theorem cI_cpu {m p : Nat} : ∀ i o q, cI b A m p i o = some q → q.2.1 = p ∨ o = some q := by
  intro i
  induction i with
  | zero => intro o q h; exact Or.inr h
  | succ i ih =>
    intro o q h
    have h : cS b A m p i (cI b A m p i o) = some q := h
    unfold cS at h
    split at h
    · exact ih o q h
    · split at h
      · cases h; exact Or.inl rfl
      · rename_i q2 hq2
        split at h
        · cases h; exact Or.inl rfl
        · exact ih o q h
theorem clB_lt {m : Nat} : ∀ p q, cP b A m p = some q → q.2.1 < p := by
  intro p
  induction p with
  | zero => intro q h; cases h
  | succ p ih =>
    intro q h
    have h : (if A 9 p = 1 then cI b A m p (b 0 1 / m) (cP b A m p) else cP b A m p) = some q := h
    split at h
    · rcases cI_cpu _ _ _ h with e | e
      · omega
      · have := ih q e; omega
    · have := ih q h; omega
theorem rn_X10_clear0 {x y : Int32} (h2 : x ≠ nI 2) (h4 : x ≠ nI 4) (h8 : x ≠ nI 8) : Rn w l yX10_clear dd_X10_clear [.ref 0, .int x, .int y] (472, I, J, R) (some (.int (-1))) (472, I, J, R) := by
  refine rn_intro2 (L := [some (.ref 0), some (.int x), some (.int y)]) ⟨by decide, rfl, (fun h => by cases h)⟩ (Nat.le_refl _) (Nat.le_of_ble_eq_true rfl) rfl (fun Y Q hQ => ?_)
  exact q_iload_n (pc' := 1) dX10_clear_0 rfl rfl (q_cSi (pc' := 4) dX10_clear_1 rfl ml_RX10_300 ys_X10_isGroupSize (by decide) (rn_X10_groupS) rfl rfl (Nat.le_of_ble_eq_true rfl) (Nat.le_refl _) (q_ifb_ne (pc' := 7) (pt := 9) dX10_clear_4 rfl rfl (fun h9 => Bool.noConfusion (Eq.trans (Eq.symm (decide_eq_false (fun q => q.elim h2 (fun q => q.elim h4 h8)))) h9)) (fun _ => (q_iconst (pc' := 8) _ dX10_clear_7 rfl kk_iconst_m1 (q_iret dX10_clear_8 rfl hQ)))))
theorem grp_t {m : Nat} (hm : m = 2 ∨ m = 4 ∨ m = 8) : decide (nI m = nI 2 ∨ nI m = nI 4 ∨ nI m = nI 8) = true := by
  rcases hm with q | q | q <;> rw [q] <;> decide
theorem rs_X10_clear1 {m : Nat} {y : Int32} (hW : wSt R) (hb : cB I b) (hk : bOK b) (hc : c < 18) (hn0 : R 28 0 = sA c 0) (h : cR I c b A) (hA : aOK A) (hO : oOw b A) (hm : m = 2 ∨ m = 4 ∨ m = 8) (hy : inN y 3 = false) : RsI w l yX10_clear dd_X10_clear [.ref 0, .int (nI m), .int y] (472, I, J, R) (fun x I' => x = -1 ∧ mVy I I') := by
  have hV := hW.1
  have hB := hW.2.1
  have hi : c < 21 := by omega
  have hz : 50 + 20 * c ≤ 472 := by omega
  have hS := hW.2.2.2 c hi
  have hs := inN_out (m := 2) (by decide) hy
  refine rt_intro2 (L := [some (.ref 0), some (.int (nI m)), some (.int y)]) ⟨by decide, rfl, (fun h => by cases h)⟩ (Nat.le_of_ble_eq_true rfl) rfl (fun Y Q hQ => ?_)
  exact q_iload_n (pc' := 1) dX10_clear_0 rfl rfl (q_cSi (pc' := 4) dX10_clear_1 rfl ml_RX10_300 ys_X10_isGroupSize (by decide) (rn_X10_groupS) rfl rfl (Nat.le_of_ble_eq_true rfl) (Nat.le_refl _) (q_ifb_ne (pc' := 7) (pt := 9) dX10_clear_4 rfl rfl (fun _ => (q_aload_n (pc' := 10) dX10_clear_9 rfl rfl (q_getR (pc' := 13) dX10_clear_10 rfl fr_RX10_74 ⟨by omega, rfl⟩ rfl (wV_10_10 hV) (by decide) (q_aload_n (pc' := 14) dX10_clear_13 rfl rfl (q_getR (pc' := 17) dX10_clear_14 rfl fr_RX10_62 ⟨by omega, rfl⟩ rfl (wV_10_6 hV) (by decide) (q_getR (pc' := 20) dX10_clear_17 rfl fr_RX10_109 ⟨by omega, rfl⟩ rfl (hn0) (sA_lt hi (by decide)) (q_iload_n (pc' := 21) dX10_clear_20 rfl rfl (q_sVv (pc' := 24) dX10_clear_21 rfl ml_RX10_310 yv_X7_seekBlock (by decide) (rs_X7_seekBlock hi hS hV hB hb hk h hA hO (by omega)) ⟨by omega, rfl⟩ rfl rfl (Nat.le_of_ble_eq_true rfl) (Nat.le_refl _) (fun I2 ⟨t1, t2⟩ => (q_iload_n (pc' := 25) dX10_clear_24 rfl rfl (q_tabOut (pc' := 82) dX10_clear_25 (hs) rfl (q_iconst (pc' := 83) _ dX10_clear_82 rfl kk_iconst_m1 (q_iret dX10_clear_83 rfl (hQ _ _ _ _ ⟨_, rfl, ⟨rfl, rfl⟩, rfl, t2⟩)))))))))))))) (fun h9 => Bool.noConfusion (Eq.trans (Eq.symm (grp_t hm)) h9))))
theorem rs_X10_clear {m j : Nat} (hW : wSt R) (hb : cB I b) (hk : bOK b) (hc : c < 18) (hn0 : R 28 0 = sA c 0) (h : cR I c b A) (hA : aOK A) (hO : oOw b A) (hm : m = 2 ∨ m = 4 ∨ m = 8) (hj : j < 3) : RsI w l yX10_clear dd_X10_clear [.ref 0, .int (nI m), .int (nI j)] (472, I, J, R) (fun x I' => x = qClear b A m j ∧ mVy I I') := by
  have hV := hW.1
  have hB := hW.2.1
  have hi : c < 21 := by omega
  have hz : 50 + 20 * c ≤ 472 := by omega
  have hS := hW.2.2.2 c hi
  have hc8 := hk.1.2
  refine rt_intro2 (L := [some (.ref 0), some (.int (nI m)), some (.int (nI j))]) ⟨by decide, rfl, (fun h => by cases h)⟩ (Nat.le_of_ble_eq_true rfl) rfl (fun Y Q hQ => ?_)
  refine q_iload_n (pc' := 1) dX10_clear_0 rfl rfl (q_cSi (pc' := 4) dX10_clear_1 rfl ml_RX10_300 ys_X10_isGroupSize (by decide) (rn_X10_groupS) rfl rfl (Nat.le_of_ble_eq_true rfl) (Nat.le_refl _) (q_ifb_ne (pc' := 7) (pt := 9) dX10_clear_4 rfl rfl (fun _ => (q_aload_n (pc' := 10) dX10_clear_9 rfl rfl (q_getR (pc' := 13) dX10_clear_10 rfl fr_RX10_74 ⟨by omega, rfl⟩ rfl (wV_10_10 hV) (by decide) (q_aload_n (pc' := 14) dX10_clear_13 rfl rfl (q_getR (pc' := 17) dX10_clear_14 rfl fr_RX10_62 ⟨by omega, rfl⟩ rfl (wV_10_6 hV) (by decide) (q_getR (pc' := 20) dX10_clear_17 rfl fr_RX10_109 ⟨by omega, rfl⟩ rfl (hn0) (sA_lt hi (by decide)) (q_iload_n (pc' := 21) dX10_clear_20 rfl rfl (q_sVv (pc' := 24) dX10_clear_21 rfl ml_RX10_310 yv_X7_seekBlock (by decide) (rs_X7_seekBlock hi hS hV hB hb hk h hA hO (by omega)) ⟨by omega, rfl⟩ rfl rfl (Nat.le_of_ble_eq_true rfl) (Nat.le_refl _) (fun I2 ⟨t1, t2⟩ => ?_))))))))) (fun h9 => Bool.noConfusion (Eq.trans (Eq.symm (grp_t hm)) h9))))
  have hc3 : j = 0 ∨ j = 1 ∨ j = 2 := by omega
  unfold mCl at t1
  unfold qClear at hQ
  cases hq : aClB b A m with
  | none =>
    rw [hq] at t1 hQ
    rcases hc3 with rfl | rfl | rfl
    · exact q_iload_n (pc' := 25) dX10_clear_24 rfl rfl (q_tabIn (pc' := 52) dX10_clear_25 (by decide) (by decide) rfl rfl (q_aload_n (pc' := 53) dX10_clear_52 rfl rfl (q_getR (pc' := 56) dX10_clear_53 rfl fr_RX10_74 ⟨by omega, rfl⟩ rfl (wV_10_10 hV) (by decide) (q_getIe (pc' := 59) dX10_clear_56 rfl fr_RX10_314 ⟨by omega, rfl⟩ rfl (t1.1) (q_iret dX10_clear_59 rfl (hQ _ _ _ _ ⟨_, rfl, ⟨rfl, rfl⟩, rfl, t2⟩))))))
    · exact q_iload_n (pc' := 25) dX10_clear_24 rfl rfl (q_tabIn (pc' := 60) dX10_clear_25 (by decide) (by decide) rfl rfl (q_aload_n (pc' := 61) dX10_clear_60 rfl rfl (q_getR (pc' := 64) dX10_clear_61 rfl fr_RX10_74 ⟨by omega, rfl⟩ rfl (wV_10_10 hV) (by decide) (q_getIe (pc' := 67) dX10_clear_64 rfl fr_RX10_317 ⟨by omega, rfl⟩ rfl (t1.2) (q_cSi (pc' := 70) dX10_clear_67 rfl ml_RX10_282 ys_X10_cpuOf (by decide) (rn_X10_cpuOf (x := 0) (by decide)) rfl rfl (Nat.le_of_ble_eq_true rfl) (Nat.le_refl _) (q_iret dX10_clear_70 rfl (hQ _ _ _ _ ⟨_, rfl, ⟨rfl, rfl⟩, rfl, t2⟩)))))))
    · exact q_iload_n (pc' := 25) dX10_clear_24 rfl rfl (q_tabIn (pc' := 71) dX10_clear_25 (by decide) (by decide) rfl rfl (q_aload_n (pc' := 72) dX10_clear_71 rfl rfl (q_getR (pc' := 75) dX10_clear_72 rfl fr_RX10_74 ⟨by omega, rfl⟩ rfl (wV_10_10 hV) (by decide) (q_getIe (pc' := 78) dX10_clear_75 rfl fr_RX10_317 ⟨by omega, rfl⟩ rfl (t1.2) (q_cSi (pc' := 81) dX10_clear_78 rfl ml_RX10_285 ys_X10_vectorOf (by decide) (rn_X10_vectorOf (x := 0) (by decide)) rfl rfl (Nat.le_of_ble_eq_true rfl) (Nat.le_refl _) (q_iret dX10_clear_81 rfl (hQ _ _ _ _ ⟨_, rfl, ⟨rfl, rfl⟩, rfl, t2⟩)))))))
  | some q =>
    have hq1 := clB_lt _ q hq
    rw [hq] at t1 hQ
    dsimp only at t1
    have e2 : I2 450 2 = lD (32 * q.2.1 + q.2.2 + 1) := t1.2.1.trans lD_s.symm
    have ec : eC (32 * q.2.1 + q.2.2 + 1) = nI q.2.1 := by rw [cEC (by omega)]; exact nI_e (by omega)
    have ev : eV (32 * q.2.1 + q.2.2 + 1) = nI q.2.2 := by rw [cEV (by omega)]; exact nI_e (by omega)
    rcases hc3 with rfl | rfl | rfl
    · exact q_iload_n (pc' := 25) dX10_clear_24 rfl rfl (q_tabIn (pc' := 52) dX10_clear_25 (by decide) (by decide) rfl rfl (q_aload_n (pc' := 53) dX10_clear_52 rfl rfl (q_getR (pc' := 56) dX10_clear_53 rfl fr_RX10_74 ⟨by omega, rfl⟩ rfl (wV_10_10 hV) (by decide) (q_getIe (pc' := 59) dX10_clear_56 rfl fr_RX10_314 ⟨by omega, rfl⟩ rfl (t1.1) (q_iret dX10_clear_59 rfl (hQ _ _ _ _ ⟨_, rfl, ⟨rfl, rfl⟩, rfl, t2⟩))))))
    · exact q_iload_n (pc' := 25) dX10_clear_24 rfl rfl (q_tabIn (pc' := 60) dX10_clear_25 (by decide) (by decide) rfl rfl (q_aload_n (pc' := 61) dX10_clear_60 rfl rfl (q_getR (pc' := 64) dX10_clear_61 rfl fr_RX10_74 ⟨by omega, rfl⟩ rfl (wV_10_10 hV) (by decide) (q_getIe (pc' := 67) dX10_clear_64 rfl fr_RX10_317 ⟨by omega, rfl⟩ rfl e2 (q_cSi (pc' := 70) dX10_clear_67 rfl ml_RX10_282 ys_X10_cpuOf (by decide) (rn_X10_cpuOf (by omega)) rfl rfl (Nat.le_of_ble_eq_true rfl) (Nat.le_refl _) (q_iret dX10_clear_70 rfl (hQ _ _ _ _ ⟨_, rfl, ⟨rfl, rfl⟩, ec, t2⟩)))))))
    · exact q_iload_n (pc' := 25) dX10_clear_24 rfl rfl (q_tabIn (pc' := 71) dX10_clear_25 (by decide) (by decide) rfl rfl (q_aload_n (pc' := 72) dX10_clear_71 rfl rfl (q_getR (pc' := 75) dX10_clear_72 rfl fr_RX10_74 ⟨by omega, rfl⟩ rfl (wV_10_10 hV) (by decide) (q_getIe (pc' := 78) dX10_clear_75 rfl fr_RX10_317 ⟨by omega, rfl⟩ rfl e2 (q_cSi (pc' := 81) dX10_clear_78 rfl ml_RX10_285 ys_X10_vectorOf (by decide) (rn_X10_vectorOf (by omega)) rfl rfl (Nat.le_of_ble_eq_true rfl) (Nat.le_refl _) (q_iret dX10_clear_81 rfl (hQ _ _ _ _ ⟨_, rfl, ⟨rfl, rfl⟩, ev, t2⟩)))))))
theorem rn_X10_without0 {x y : Int32} (hW : wSt R) (hb : cB I b) (hk : bOK b) (hx : (inN x (b 0 0) && inN y 2) = false) : Rn w l yX10_without dd_X10_without [.ref 0, .int x, .int y] (472, I, J, R) (some (.int (-1))) (472, I, J, R) := by
  have hV := hW.1
  refine rn_intro2 (L := [some (.ref 0), some (.int x), some (.int y), none]) ⟨by decide, rfl, (fun h => by cases h)⟩ (Nat.le_refl _) (Nat.le_of_ble_eq_true rfl) rfl (fun Y Q hQ => ?_)
  by_cases h1 : inN x (b 0 0) = true
  · rw [h1, Bool.true_and] at hx
    by_cases h2 : y < 0
    · exact q_aload_n (pc' := 1) dX10_without_0 rfl rfl (q_getR (pc' := 4) dX10_without_1 rfl fr_RX10_26 ⟨by omega, rfl⟩ rfl (wV_10_3 hV) (by decide) (q_iload_n (pc' := 5) dX10_without_4 rfl rfl (q_cVi (pc' := 8) dX10_without_5 rfl ml_RX10_198 yv_X0_hasCpu (by decide) (rn_X0_hasCpu hb hk) (by first | assumption | exact ⟨by omega, rfl⟩) rfl rfl (Nat.le_of_ble_eq_true rfl) (Nat.le_refl _) (q_ifb_eq (pc' := 11) (pt := 20) dX10_without_8 rfl rfl (fun h9 => Bool.noConfusion (Eq.trans (Eq.symm (h1)) h9)) (fun _ => (q_iload_n (pc' := 12) dX10_without_11 rfl rfl (q_if_lt (pc' := 15) (pt := 20) dX10_without_12 rfl rfl (fun _ => (q_iconst (pc' := 21) _ dX10_without_20 rfl kk_iconst_m1 (q_iret dX10_without_21 rfl hQ))) (fun h9 => absurd (h2) h9))))))))
    · have h3 : ¬ y ≤ nI 1 := fun q => by
        rw [← inN_e, decide_eq_false_iff_not] at hx
        exact hx ⟨Int32.not_lt.mp h2, q⟩
      exact q_aload_n (pc' := 1) dX10_without_0 rfl rfl (q_getR (pc' := 4) dX10_without_1 rfl fr_RX10_26 ⟨by omega, rfl⟩ rfl (wV_10_3 hV) (by decide) (q_iload_n (pc' := 5) dX10_without_4 rfl rfl (q_cVi (pc' := 8) dX10_without_5 rfl ml_RX10_198 yv_X0_hasCpu (by decide) (rn_X0_hasCpu hb hk) (by first | assumption | exact ⟨by omega, rfl⟩) rfl rfl (Nat.le_of_ble_eq_true rfl) (Nat.le_refl _) (q_ifb_eq (pc' := 11) (pt := 20) dX10_without_8 rfl rfl (fun h9 => Bool.noConfusion (Eq.trans (Eq.symm (h1)) h9)) (fun _ => (q_iload_n (pc' := 12) dX10_without_11 rfl rfl (q_if_lt (pc' := 15) (pt := 20) dX10_without_12 rfl rfl (fun h9 => absurd h9 (h2)) (fun _ => (q_iload_n (pc' := 16) dX10_without_15 rfl rfl (q_iconst (pc' := 17) _ dX10_without_16 rfl kk_iconst_1 (q_icmp_le (pc' := 20) (pt := 22) dX10_without_17 rfl rfl (fun h9 => absurd h9 (h3)) (fun _ => (q_iconst (pc' := 21) _ dX10_without_20 rfl kk_iconst_m1 (q_iret dX10_without_21 rfl hQ))))))))))))))
  · have h1 := Bool.eq_false_iff.mpr h1
    exact q_aload_n (pc' := 1) dX10_without_0 rfl rfl (q_getR (pc' := 4) dX10_without_1 rfl fr_RX10_26 ⟨by omega, rfl⟩ rfl (wV_10_3 hV) (by decide) (q_iload_n (pc' := 5) dX10_without_4 rfl rfl (q_cVi (pc' := 8) dX10_without_5 rfl ml_RX10_198 yv_X0_hasCpu (by decide) (rn_X0_hasCpu hb hk) (by first | assumption | exact ⟨by omega, rfl⟩) rfl rfl (Nat.le_of_ble_eq_true rfl) (Nat.le_refl _) (q_ifb_eq (pc' := 11) (pt := 20) dX10_without_8 rfl rfl (fun _ => (q_iconst (pc' := 21) _ dX10_without_20 rfl kk_iconst_m1 (q_iret dX10_without_21 rfl hQ))) (fun h9 => Bool.noConfusion (Eq.trans (Eq.symm (h1)) h9))))))
theorem rs_X10_without {p j : Nat} (hW : wSt R) (hb : cB I b) (hR : bRd b) (hc : c < 18) (hn0 : R 28 0 = sA c 0) (h : cR I c b A) (hA : gI b 8 A) (hp : p < b 0 0) (hj : j < 2) : RsI w l yX10_without dd_X10_without [.ref 0, .int (nI p), .int (nI j)] (472, I, J, R) (fun x I' => x = nI (qWithout b A p j) ∧ mS 18 I I') := by
  have hk := hR.1
  have hV := hW.1
  have hB := hW.2.1
  have hc8 := hk.1.2
  have hi : 18 < 21 := by decide
  have hz : 50 + 20 * 18 ≤ 472 := by decide
  have hS := hW.2.2.2 18 hi
  have hi2 : c < 21 := by omega
  have hz2 : 50 + 20 * c ≤ 472 := by omega
  have hS2 := hW.2.2.2 c hi2
  have h1 : inN (nI p) (b 0 0) = true := inN_t (by omega) hp
  have hu := aUnplug_lt (b := b) (A := A) (p := p)
  refine rt_intro2 (L := [some (.ref 0), some (.int (nI p)), some (.int (nI j)), none]) ⟨by decide, rfl, (fun h => by cases h)⟩ (Nat.le_of_ble_eq_true rfl) rfl (fun Y Q hQ => ?_)
  refine q_aload_n (pc' := 1) dX10_without_0 rfl rfl (q_getR (pc' := 4) dX10_without_1 rfl fr_RX10_26 ⟨by omega, rfl⟩ rfl (wV_10_3 hV) (by decide) (q_iload_n (pc' := 5) dX10_without_4 rfl rfl (q_cVi (pc' := 8) dX10_without_5 rfl ml_RX10_198 yv_X0_hasCpu (by decide) (rn_X0_hasCpu hb hk) (by first | assumption | exact ⟨by omega, rfl⟩) rfl rfl (Nat.le_of_ble_eq_true rfl) (Nat.le_refl _) (q_ifb_eq (pc' := 11) (pt := 20) dX10_without_8 rfl rfl (fun h9 => Bool.noConfusion (Eq.trans (Eq.symm (h1)) h9)) (fun _ => (q_iload_n (pc' := 12) dX10_without_11 rfl rfl (q_if_lt (pc' := 15) (pt := 20) dX10_without_12 rfl rfl (fun h9 => absurd h9 (Int32.not_lt.mpr (nI_le (a := 0) (by omega) (by omega)))) (fun _ => (q_iload_n (pc' := 16) dX10_without_15 rfl rfl (q_iconst (pc' := 17) _ dX10_without_16 rfl kk_iconst_1 (q_icmp_le (pc' := 20) (pt := 22) dX10_without_17 rfl rfl (fun _ => (q_aload_n (pc' := 23) dX10_without_22 rfl rfl (q_getR (pc' := 26) dX10_without_23 rfl fr_RX10_67 ⟨by omega, rfl⟩ rfl (wV_10_7 hV) (by decide) (q_aload_n (pc' := 27) dX10_without_26 rfl rfl (q_getR (pc' := 30) dX10_without_27 rfl fr_RX10_62 ⟨by omega, rfl⟩ rfl (wV_10_6 hV) (by decide) ?_))))) (fun h9 => absurd (nI_le (by omega) (by omega)) h9))))))))))))
  refine q_getR (pc' := 33) dX10_without_30 rfl fr_RX10_109 ⟨by omega, rfl⟩ rfl (hn0) (sA_lt hi2 (by decide)) (q_sVv (pc' := 36) dX10_without_33 rfl ml_RX10_132 yv_X5_copyFrom (by decide) (rs_X5_copyFrom hi hi2 (by omega) hS hS2 h (h01_of hk hA.1)) (okS hi hz (by decide) rfl) rfl rfl (Nat.le_of_ble_eq_true rfl) (Nat.le_refl _) (fun I1 ⟨r1, f1⟩ => (q_aload_n (pc' := 37) dX10_without_36 rfl rfl (q_getR (pc' := 40) dX10_without_37 rfl fr_RX10_67 ⟨by omega, rfl⟩ rfl (wV_10_7 hV) (by decide) (q_iload_n (pc' := 41) dX10_without_40 rfl rfl (q_sVi (pc' := 44) dX10_without_41 rfl ml_RX10_175 yv_X5_leave (by decide) (rs_leave hi hS hB (cB_S f1 hb) hR r1 hA hp) (okS hi hz (by decide) rfl) rfl rfl (Nat.le_of_ble_eq_true rfl) (Nat.le_refl _) (fun x2 I2 ⟨t1, r2, f2⟩ => ?_)))))))
  subst t1
  have f3 := f1.tr f2
  have hc2 : j = 0 ∨ j = 1 := by omega
  rcases hc2 with rfl | rfl
  · exact q_ist_3 (pc' := 45) dX10_without_44 rfl (by decide) rfl (q_iload_n (pc' := 46) dX10_without_45 rfl rfl (q_if_ne (pc' := 49) (pt := 51) dX10_without_46 rfl rfl (fun h9 => absurd (rfl) h9) (fun _ => (q_iload_n (pc' := 50) dX10_without_49 rfl rfl (q_iret dX10_without_50 rfl (hQ _ _ _ _ ⟨_, rfl, ⟨rfl, rfl⟩, rfl, f3⟩))))))
  · have hr : cR I2 c b A := cR_F (fun e he => mS_o f3 (by omega) he) h
    rw [without_e hk hA hp] at hQ
    by_cases e : (aUnplug b A p).1 = 0
    · rw [if_pos e] at hQ
      have hi := hi2
      have hz := hz2
      have hS := hS2
      exact q_ist_3 (pc' := 45) dX10_without_44 rfl (by decide) rfl (q_iload_n (pc' := 46) dX10_without_45 rfl rfl (q_if_ne (pc' := 49) (pt := 51) dX10_without_46 rfl rfl (fun _ => (q_iload_n (pc' := 52) dX10_without_51 rfl rfl (q_if_ne (pc' := 55) (pt := 73) dX10_without_52 rfl rfl (fun h9 => absurd (nI_e e) h9) (fun _ => (q_aload_n (pc' := 56) dX10_without_55 rfl rfl (q_getR (pc' := 59) dX10_without_56 rfl fr_RX10_62 ⟨by omega, rfl⟩ rfl (wV_10_6 hV) (by decide) (q_getR (pc' := 62) dX10_without_59 rfl fr_RX10_109 ⟨by omega, rfl⟩ rfl (hn0) (sA_lt hi (by decide)) (q_getR (pc' := 65) dX10_without_62 rfl fr_RX10_207 (okS hi hz (by decide) rfl) rfl (wS_5_1 hS) (sA_lt hi (by decide)) (q_iconst (pc' := 66) _ dX10_without_65 rfl kk_iconst_2 (q_iload_n (pc' := 67) dX10_without_66 rfl rfl (q_cVi (pc' := 70) dX10_without_67 rfl ml_RX10_216 yv_X4_howMany (by decide) (rn_X4_howMany (s := 2) hi hS hk hr.1 (by omega) (by decide)) (okS hi hz (by decide) rfl) rfl rfl (Nat.le_of_ble_eq_true rfl) (Nat.le_refl _) (q_goto (pc' := 74) dX10_without_70 rfl (q_iret dX10_without_74 rfl (hQ _ _ _ _ ⟨_, rfl, ⟨rfl, rfl⟩, rfl, f3⟩)))))))))))))) (fun h9 => absurd h9 (by decide))))
    · rw [if_neg e] at hQ
      exact q_ist_3 (pc' := 45) dX10_without_44 rfl (by decide) rfl (q_iload_n (pc' := 46) dX10_without_45 rfl rfl (q_if_ne (pc' := 49) (pt := 51) dX10_without_46 rfl rfl (fun _ => (q_iload_n (pc' := 52) dX10_without_51 rfl rfl (q_if_ne (pc' := 55) (pt := 73) dX10_without_52 rfl rfl (fun _ => (q_iconst (pc' := 74) _ dX10_without_73 rfl kk_iconst_0 (q_iret dX10_without_74 rfl (hQ _ _ _ _ ⟨_, rfl, ⟨rfl, rfl⟩, rfl, f3⟩)))) (fun h9 => absurd h9 (nI_ne (b := 0) e (by omega) (by decide)))))) (fun h9 => absurd h9 (by decide))))
theorem rn_X10_storm0 {x y z : Int32} (hx : (inN x 10000 && (inN y 501 && inN z 4)) = false) : Rn w l yX10_storm dd_X10_storm [.ref 0, .int x, .int y, .int z] (472, I, J, R) (some (.int (-1))) (472, I, J, R) := by
  refine rn_intro2 (L := [some (.ref 0), some (.int x), some (.int y), some (.int z)]) ⟨by decide, rfl, (fun h => by cases h)⟩ (Nat.le_refl _) (Nat.le_of_ble_eq_true rfl) rfl (fun Y Q hQ => ?_)
  by_cases a1 : x < 0
  · exact q_iload_n (pc' := 1) dX10_storm_0 rfl rfl (q_if_lt (pc' := 4) (pt := 31) dX10_storm_1 rfl rfl (fun _ => (q_iconst (pc' := 32) _ dX10_storm_31 rfl kk_iconst_m1 (q_iret dX10_storm_32 rfl hQ))) (fun h9 => absurd (a1) h9))
  by_cases a2 : nI 9999 < x
  · exact q_iload_n (pc' := 1) dX10_storm_0 rfl rfl (q_if_lt (pc' := 4) (pt := 31) dX10_storm_1 rfl rfl (fun h9 => absurd h9 (a1)) (fun _ => (q_iload_n (pc' := 5) dX10_storm_4 rfl rfl (q_sipush (pc' := 8) _ dX10_storm_5 rfl kk_sipush_9999 (q_icmp_gt (pc' := 11) (pt := 31) dX10_storm_8 rfl rfl (fun _ => (q_iconst (pc' := 32) _ dX10_storm_31 rfl kk_iconst_m1 (q_iret dX10_storm_32 rfl hQ))) (fun h9 => absurd (a2) h9))))))
  have a3 : inN x 10000 = true := by rw [← inN_e]; exact decide_eq_true ⟨Int32.not_lt.mp a1, Int32.not_lt.mp a2⟩
  rw [a3, Bool.true_and] at hx
  by_cases b1 : y < 0
  · exact q_iload_n (pc' := 1) dX10_storm_0 rfl rfl (q_if_lt (pc' := 4) (pt := 31) dX10_storm_1 rfl rfl (fun h9 => absurd h9 (a1)) (fun _ => (q_iload_n (pc' := 5) dX10_storm_4 rfl rfl (q_sipush (pc' := 8) _ dX10_storm_5 rfl kk_sipush_9999 (q_icmp_gt (pc' := 11) (pt := 31) dX10_storm_8 rfl rfl (fun h9 => absurd h9 (a2)) (fun _ => (q_iload_n (pc' := 12) dX10_storm_11 rfl rfl (q_if_lt (pc' := 15) (pt := 31) dX10_storm_12 rfl rfl (fun _ => (q_iconst (pc' := 32) _ dX10_storm_31 rfl kk_iconst_m1 (q_iret dX10_storm_32 rfl hQ))) (fun h9 => absurd (b1) h9)))))))))
  by_cases b2 : nI 500 < y
  · exact q_iload_n (pc' := 1) dX10_storm_0 rfl rfl (q_if_lt (pc' := 4) (pt := 31) dX10_storm_1 rfl rfl (fun h9 => absurd h9 (a1)) (fun _ => (q_iload_n (pc' := 5) dX10_storm_4 rfl rfl (q_sipush (pc' := 8) _ dX10_storm_5 rfl kk_sipush_9999 (q_icmp_gt (pc' := 11) (pt := 31) dX10_storm_8 rfl rfl (fun h9 => absurd h9 (a2)) (fun _ => (q_iload_n (pc' := 12) dX10_storm_11 rfl rfl (q_if_lt (pc' := 15) (pt := 31) dX10_storm_12 rfl rfl (fun h9 => absurd h9 (b1)) (fun _ => (q_iload_n (pc' := 16) dX10_storm_15 rfl rfl (q_sipush (pc' := 19) _ dX10_storm_16 rfl kk_sipush_500 (q_icmp_gt (pc' := 22) (pt := 31) dX10_storm_19 rfl rfl (fun _ => (q_iconst (pc' := 32) _ dX10_storm_31 rfl kk_iconst_m1 (q_iret dX10_storm_32 rfl hQ))) (fun h9 => absurd (b2) h9)))))))))))))
  have b3 : inN y 501 = true := by rw [← inN_e]; exact decide_eq_true ⟨Int32.not_lt.mp b1, Int32.not_lt.mp b2⟩
  rw [b3, Bool.true_and] at hx
  by_cases c1 : z < 0
  · exact q_iload_n (pc' := 1) dX10_storm_0 rfl rfl (q_if_lt (pc' := 4) (pt := 31) dX10_storm_1 rfl rfl (fun h9 => absurd h9 (a1)) (fun _ => (q_iload_n (pc' := 5) dX10_storm_4 rfl rfl (q_sipush (pc' := 8) _ dX10_storm_5 rfl kk_sipush_9999 (q_icmp_gt (pc' := 11) (pt := 31) dX10_storm_8 rfl rfl (fun h9 => absurd h9 (a2)) (fun _ => (q_iload_n (pc' := 12) dX10_storm_11 rfl rfl (q_if_lt (pc' := 15) (pt := 31) dX10_storm_12 rfl rfl (fun h9 => absurd h9 (b1)) (fun _ => (q_iload_n (pc' := 16) dX10_storm_15 rfl rfl (q_sipush (pc' := 19) _ dX10_storm_16 rfl kk_sipush_500 (q_icmp_gt (pc' := 22) (pt := 31) dX10_storm_19 rfl rfl (fun h9 => absurd h9 (b2)) (fun _ => (q_iload_n (pc' := 23) dX10_storm_22 rfl rfl (q_if_lt (pc' := 26) (pt := 31) dX10_storm_23 rfl rfl (fun _ => (q_iconst (pc' := 32) _ dX10_storm_31 rfl kk_iconst_m1 (q_iret dX10_storm_32 rfl hQ))) (fun h9 => absurd (c1) h9))))))))))))))))
  · have c2 : ¬ z ≤ nI 3 := fun q => by
      rw [← inN_e, decide_eq_false_iff_not] at hx
      exact hx ⟨Int32.not_lt.mp c1, q⟩
    refine q_iload_n (pc' := 1) dX10_storm_0 rfl rfl (q_if_lt (pc' := 4) (pt := 31) dX10_storm_1 rfl rfl (fun h9 => absurd h9 (a1)) (fun _ => (q_iload_n (pc' := 5) dX10_storm_4 rfl rfl (q_sipush (pc' := 8) _ dX10_storm_5 rfl kk_sipush_9999 (q_icmp_gt (pc' := 11) (pt := 31) dX10_storm_8 rfl rfl (fun h9 => absurd h9 (a2)) (fun _ => (q_iload_n (pc' := 12) dX10_storm_11 rfl rfl (q_if_lt (pc' := 15) (pt := 31) dX10_storm_12 rfl rfl (fun h9 => absurd h9 (b1)) (fun _ => (q_iload_n (pc' := 16) dX10_storm_15 rfl rfl (q_sipush (pc' := 19) _ dX10_storm_16 rfl kk_sipush_500 (q_icmp_gt (pc' := 22) (pt := 31) dX10_storm_19 rfl rfl (fun h9 => absurd h9 (b2)) (fun _ => (q_iload_n (pc' := 23) dX10_storm_22 rfl rfl (q_if_lt (pc' := 26) (pt := 31) dX10_storm_23 rfl rfl (fun h9 => absurd h9 (c1)) (fun _ => (q_iload_n (pc' := 27) dX10_storm_26 rfl rfl (q_iconst (pc' := 28) _ dX10_storm_27 rfl kk_iconst_3 ?_))))))))))))))))))
    exact q_icmp_le (pc' := 31) (pt := 33) dX10_storm_28 rfl rfl (fun h9 => absurd h9 (c2)) (fun _ => (q_iconst (pc' := 32) _ dX10_storm_31 rfl kk_iconst_m1 (q_iret dX10_storm_32 rfl hQ)))
theorem rs_X10_storm {seed m j : Nat} (hW : wSt R) (hb : cB I b) (hR : bRd b) (hc : c < 18) (hn0 : R 28 0 = sA c 0) (h : cR I c b A) (hA : gI b 8 A) (hs : seed < 10000) (hm : m < 501) (hj : j < 4) (hL : A 14 4 + 8 * 501 < 2 ^ 31) : RsI w l yX10_storm dd_X10_storm [.ref 0, .int (nI seed), .int (nI m), .int (nI j)] (472, I, J, R) (fun x I' => x = qStorm b A seed m j ∧ mSw 18 I I') := by
  have hk := hR.1
  have hV := hW.1
  have hB := hW.2.1
  have hi : 18 < 21 := by decide
  have hz : 50 + 20 * 18 ≤ 472 := by decide
  have hS := hW.2.2.2 18 hi
  have hi2 : c < 21 := by omega
  have hz2 : 50 + 20 * c ≤ 472 := by omega
  have hS2 := hW.2.2.2 c hi2
  have hU := (aSto_ok (seed := seed) hk (sCl_of hk) hA (by omega) m).1
  refine rt_intro2 (L := [some (.ref 0), some (.int (nI seed)), some (.int (nI m)), some (.int (nI j))]) ⟨by decide, rfl, (fun h => by cases h)⟩ (Nat.le_of_ble_eq_true rfl) rfl (fun Y Q hQ => ?_)
  refine q_iload_n (pc' := 1) dX10_storm_0 rfl rfl (q_if_lt (pc' := 4) (pt := 31) dX10_storm_1 rfl rfl (fun h9 => absurd h9 (Int32.not_lt.mpr (nI_le (a := 0) (by omega) (by omega)))) (fun _ => (q_iload_n (pc' := 5) dX10_storm_4 rfl rfl (q_sipush (pc' := 8) _ dX10_storm_5 rfl kk_sipush_9999 (q_icmp_gt (pc' := 11) (pt := 31) dX10_storm_8 rfl rfl (fun h9 => absurd h9 (Int32.not_lt.mpr (nI_le (by omega) (by omega)))) (fun _ => (q_iload_n (pc' := 12) dX10_storm_11 rfl rfl (q_if_lt (pc' := 15) (pt := 31) dX10_storm_12 rfl rfl (fun h9 => absurd h9 (Int32.not_lt.mpr (nI_le (a := 0) (by omega) (by omega)))) (fun _ => (q_iload_n (pc' := 16) dX10_storm_15 rfl rfl (q_sipush (pc' := 19) _ dX10_storm_16 rfl kk_sipush_500 (q_icmp_gt (pc' := 22) (pt := 31) dX10_storm_19 rfl rfl (fun h9 => absurd h9 (Int32.not_lt.mpr (nI_le (by omega) (by omega)))) (fun _ => (q_iload_n (pc' := 23) dX10_storm_22 rfl rfl (q_if_lt (pc' := 26) (pt := 31) dX10_storm_23 rfl rfl (fun h9 => absurd h9 (Int32.not_lt.mpr (nI_le (a := 0) (by omega) (by omega)))) (fun _ => (q_iload_n (pc' := 27) dX10_storm_26 rfl rfl (q_iconst (pc' := 28) _ dX10_storm_27 rfl kk_iconst_3 ?_))))))))))))))))))
  refine q_icmp_le (pc' := 31) (pt := 33) dX10_storm_28 rfl rfl (fun _ => (q_aload_n (pc' := 34) dX10_storm_33 rfl rfl (q_getR (pc' := 37) dX10_storm_34 rfl fr_RX10_67 ⟨by omega, rfl⟩ rfl (wV_10_7 hV) (by decide) (q_aload_n (pc' := 38) dX10_storm_37 rfl rfl (q_getR (pc' := 41) dX10_storm_38 rfl fr_RX10_62 ⟨by omega, rfl⟩ rfl (wV_10_6 hV) (by decide) (q_getR (pc' := 44) dX10_storm_41 rfl fr_RX10_109 ⟨by omega, rfl⟩ rfl (hn0) (sA_lt hi2 (by decide)) (q_sVv (pc' := 47) dX10_storm_44 rfl ml_RX10_132 yv_X5_copyFrom (by decide) (rs_X5_copyFrom hi hi2 (by omega) hS hS2 h (h01_of hk hA.1)) (okS hi hz (by decide) rfl) rfl rfl (Nat.le_of_ble_eq_true rfl) (Nat.le_refl _) (fun I1 ⟨r1, f1⟩ => (q_aload_n (pc' := 48) dX10_storm_47 rfl rfl (q_getR (pc' := 51) dX10_storm_48 rfl fr_RX10_81 ⟨by omega, rfl⟩ rfl (wV_10_11 hV) (by decide) (q_aload_n (pc' := 52) dX10_storm_51 rfl rfl (q_getR (pc' := 55) dX10_storm_52 rfl fr_RX10_67 ⟨by omega, rfl⟩ rfl (wV_10_7 hV) (by decide) (q_iload_n (pc' := 56) dX10_storm_55 rfl rfl (q_iload_n (pc' := 57) dX10_storm_56 rfl rfl (q_sVv (pc' := 60) dX10_storm_57 rfl ml_RX10_320 yv_X6_blow (by decide) (rs_X6_blow hi hS hV hB (cB_S f1 hb) hk (sCl_of hk) (sC2_of hk) hA r1 (by omega) hm hL) ⟨by omega, rfl⟩ rfl rfl (Nat.le_of_ble_eq_true rfl) (Nat.le_refl _) (fun I2 ⟨t1, t2, t3, r2, f2⟩ => ?_)))))))))))))))) (fun h9 => absurd (nI_le (by omega) (by omega)) h9)
  have f3 : mSw 18 I I2 := f1.sw.tr f2
  have hc4 : j = 0 ∨ j = 1 ∨ j = 2 ∨ j = 3 := by omega
  rcases hc4 with rfl | rfl | rfl | rfl
  · exact q_iload_n (pc' := 61) dX10_storm_60 rfl rfl (q_tabIn (pc' := 88) dX10_storm_61 (by decide) (by decide) rfl rfl (q_aload_n (pc' := 89) dX10_storm_88 rfl rfl (q_getR (pc' := 92) dX10_storm_89 rfl fr_RX10_81 ⟨by omega, rfl⟩ rfl (wV_10_11 hV) (by decide) (q_getIe (pc' := 95) dX10_storm_92 rfl fr_RX10_324 ⟨by omega, rfl⟩ rfl t1 (q_iret dX10_storm_95 rfl (hQ _ _ _ _ ⟨_, rfl, ⟨rfl, rfl⟩, rfl, f3⟩))))))
  · exact q_iload_n (pc' := 61) dX10_storm_60 rfl rfl (q_tabIn (pc' := 96) dX10_storm_61 (by decide) (by decide) rfl rfl (q_aload_n (pc' := 97) dX10_storm_96 rfl rfl (q_getR (pc' := 100) dX10_storm_97 rfl fr_RX10_81 ⟨by omega, rfl⟩ rfl (wV_10_11 hV) (by decide) (q_getIe (pc' := 103) dX10_storm_100 rfl fr_RX10_326 ⟨by omega, rfl⟩ rfl t2 (q_iret dX10_storm_103 rfl (hQ _ _ _ _ ⟨_, rfl, ⟨rfl, rfl⟩, rfl, f3⟩))))))
  · exact q_iload_n (pc' := 61) dX10_storm_60 rfl rfl (q_tabIn (pc' := 104) dX10_storm_61 (by decide) (by decide) rfl rfl (q_aload_n (pc' := 105) dX10_storm_104 rfl rfl (q_getR (pc' := 108) dX10_storm_105 rfl fr_RX10_81 ⟨by omega, rfl⟩ rfl (wV_10_11 hV) (by decide) (q_getIe (pc' := 111) dX10_storm_108 rfl fr_RX10_328 ⟨by omega, rfl⟩ rfl t3 (q_iret dX10_storm_111 rfl (hQ _ _ _ _ ⟨_, rfl, ⟨rfl, rfl⟩, rfl, f3⟩))))))
  · exact q_iload_n (pc' := 61) dX10_storm_60 rfl rfl (q_tabOut (pc' := 112) dX10_storm_61 (Or.inr (by decide)) rfl (q_aload_n (pc' := 113) dX10_storm_112 rfl rfl (q_getR (pc' := 116) dX10_storm_113 rfl fr_RX10_67 ⟨by omega, rfl⟩ rfl (wV_10_7 hV) (by decide) (q_cVi (pc' := 119) dX10_storm_116 rfl ml_RX10_331 yv_X5_unheard (by decide) (rn_X5_unheard hi hS hB (cB_W f2 (cB_S f1 hb)) hk r2 (gC_aOK hk hU.1) (w6_of hU.1)) (okS hi hz (by decide) rfl) rfl rfl (Nat.le_of_ble_eq_true rfl) (Nat.le_refl _) (q_iret dX10_storm_119 rfl (hQ _ _ _ _ ⟨_, rfl, ⟨rfl, rfl⟩, rfl, f3⟩))))))
theorem rn_X10_log0 {x y : Int32} (hW : wSt R) (hc : c < 18) (hn0 : R 28 0 = sA c 0) (h : cR I c b A) (hN : gN b A) (hL : A 14 4 < 2 ^ 31) (hx : (inN x (min (A 14 4) 40) && inN y 5) = false) : Rn w l yX10_log dd_X10_log [.ref 0, .int x, .int y] (472, I, J, R) (some (.int (-1))) (472, I, J, R) := by
  have hV := hW.1
  have hi : c < 21 := by omega
  have hz : 50 + 20 * c ≤ 472 := by omega
  have hS := hW.2.2.2 c hi
  refine rn_intro2 (L := [some (.ref 0), some (.int x), some (.int y), none, none, none]) ⟨by decide, rfl, (fun h => by cases h)⟩ (Nat.le_refl _) (Nat.le_of_ble_eq_true rfl) rfl (fun Y Q hQ => ?_)
  by_cases h1 : inN x (min (A 14 4) 40) = true
  · rw [h1, Bool.true_and] at hx
    have hs := inN_out (m := 4) (by decide) hx
    obtain ⟨k, hk2, rfl⟩ := (inN_iff (by omega)).mp h1
    have hE := (hN.2.2.2 (A 14 4 - 1 - k) (by omega)).1
    refine q_aload_n (pc' := 1) dX10_log_0 rfl rfl (q_getR (pc' := 4) dX10_log_1 rfl fr_RX10_62 ⟨by omega, rfl⟩ rfl (wV_10_6 hV) (by decide) (q_getR (pc' := 7) dX10_log_4 rfl fr_RX10_109 ⟨by omega, rfl⟩ rfl (hn0) (sA_lt hi (by decide)) (q_getR (pc' := 10) dX10_log_7 rfl fr_RX10_234 (okS hi hz (by decide) rfl) rfl (wS_5_2 hS) (sA_lt hi (by decide)) (q_ast_3 (pc' := 11) dX10_log_10 rfl (by decide) rfl (q_iload_n (pc' := 12) dX10_log_11 rfl rfl (q_if_lt (pc' := 15) (pt := 23) dX10_log_12 rfl rfl (fun h9 => absurd h9 (Int32.not_lt.mpr (nI_le (a := 0) (by omega) (by omega)))) (fun _ => (q_iload_n (pc' := 16) dX10_log_15 rfl rfl (q_aload_n (pc' := 17) dX10_log_16 rfl rfl (q_cVi (pc' := 20) dX10_log_17 rfl ml_RX10_342 yv_X8_kept (by decide) (rn_X8_kept hi h.2.1 hL) (okS hi hz (by decide) rfl) rfl rfl (Nat.le_of_ble_eq_true rfl) (Nat.le_refl _) (q_icmp_lt (pc' := 23) (pt := 25) dX10_log_20 rfl rfl (fun _ => (q_aload_n (pc' := 26) dX10_log_25 rfl rfl (q_iload_n (pc' := 27) dX10_log_26 rfl rfl (q_cVi (pc' := 30) dX10_log_27 rfl ml_RX10_345 yv_X8_latestId (by decide) (rn_X8_latestId hi hS h.2.1 hL hk2 (by omega)) (okS hi hz (by decide) rfl) rfl rfl (Nat.le_of_ble_eq_true rfl) (Nat.le_refl _) ?_)))) (fun h9 => absurd (nI_lt (by omega) (by omega)) h9))))))))))))
    exact q_ist_4 (pc' := 32) dX10_log_30 rfl (by decide) rfl (q_aload_n (pc' := 33) dX10_log_32 rfl rfl (q_iload_n (pc' := 34) dX10_log_33 rfl rfl (q_cVi (pc' := 37) dX10_log_34 rfl ml_RX10_348 yv_X8_latestPlace (by decide) (rn_X8_latestPlace hi hS h.2.1 hL hk2 (by omega)) (okS hi hz (by decide) rfl) rfl rfl (Nat.le_of_ble_eq_true rfl) (Nat.le_refl _) (q_ist_5 (pc' := 39) dX10_log_37 rfl (by decide) rfl (q_iload_n (pc' := 40) dX10_log_39 rfl rfl (q_tabOut (pc' := 106) dX10_log_40 (hs) rfl (q_iconst (pc' := 107) _ dX10_log_106 rfl kk_iconst_m1 (q_iret dX10_log_107 rfl hQ))))))))
  · have h1 := Bool.eq_false_iff.mpr h1
    by_cases h2 : x < 0
    · exact q_aload_n (pc' := 1) dX10_log_0 rfl rfl (q_getR (pc' := 4) dX10_log_1 rfl fr_RX10_62 ⟨by omega, rfl⟩ rfl (wV_10_6 hV) (by decide) (q_getR (pc' := 7) dX10_log_4 rfl fr_RX10_109 ⟨by omega, rfl⟩ rfl (hn0) (sA_lt hi (by decide)) (q_getR (pc' := 10) dX10_log_7 rfl fr_RX10_234 (okS hi hz (by decide) rfl) rfl (wS_5_2 hS) (sA_lt hi (by decide)) (q_ast_3 (pc' := 11) dX10_log_10 rfl (by decide) rfl (q_iload_n (pc' := 12) dX10_log_11 rfl rfl (q_if_lt (pc' := 15) (pt := 23) dX10_log_12 rfl rfl (fun _ => (q_iconst (pc' := 24) _ dX10_log_23 rfl kk_iconst_m1 (q_iret dX10_log_24 rfl hQ))) (fun h9 => absurd (h2) h9)))))))
    · have h3 : ¬ x < nI (min (A 14 4) 40) := fun q => by
        rw [(inN_cmp (by omega)).mpr ⟨h2, Int32.not_le.mpr q⟩] at h1
        cases h1
      exact q_aload_n (pc' := 1) dX10_log_0 rfl rfl (q_getR (pc' := 4) dX10_log_1 rfl fr_RX10_62 ⟨by omega, rfl⟩ rfl (wV_10_6 hV) (by decide) (q_getR (pc' := 7) dX10_log_4 rfl fr_RX10_109 ⟨by omega, rfl⟩ rfl (hn0) (sA_lt hi (by decide)) (q_getR (pc' := 10) dX10_log_7 rfl fr_RX10_234 (okS hi hz (by decide) rfl) rfl (wS_5_2 hS) (sA_lt hi (by decide)) (q_ast_3 (pc' := 11) dX10_log_10 rfl (by decide) rfl (q_iload_n (pc' := 12) dX10_log_11 rfl rfl (q_if_lt (pc' := 15) (pt := 23) dX10_log_12 rfl rfl (fun h9 => absurd h9 (h2)) (fun _ => (q_iload_n (pc' := 16) dX10_log_15 rfl rfl (q_aload_n (pc' := 17) dX10_log_16 rfl rfl (q_cVi (pc' := 20) dX10_log_17 rfl ml_RX10_342 yv_X8_kept (by decide) (rn_X8_kept hi h.2.1 hL) (okS hi hz (by decide) rfl) rfl rfl (Nat.le_of_ble_eq_true rfl) (Nat.le_refl _) (q_icmp_lt (pc' := 23) (pt := 25) dX10_log_20 rfl rfl (fun h9 => absurd h9 (h3)) (fun _ => (q_iconst (pc' := 24) _ dX10_log_23 rfl kk_iconst_m1 (q_iret dX10_log_24 rfl hQ))))))))))))))
theorem rn_X10_log {k j : Nat} (hW : wSt R) (hc : c < 18) (hn0 : R 28 0 = sA c 0) (h : cR I c b A) (hN : gN b A) (hL : A 14 4 < 2 ^ 31) (hk2 : k < min (A 14 4) 40) (hj : j < 5) : Rn w l yX10_log dd_X10_log [.ref 0, .int (nI k), .int (nI j)] (472, I, J, R) (some (.int (nI (eG (A 15 (A 14 4 - 1 - k)) j)))) (472, I, J, R) := by
  have hV := hW.1
  have hi : c < 21 := by omega
  have hz : 50 + 20 * c ≤ 472 := by omega
  have hS := hW.2.2.2 c hi
  have hE := (hN.2.2.2 (A 14 4 - 1 - k) (by omega)).1
  refine rn_intro2 (L := [some (.ref 0), some (.int (nI k)), some (.int (nI j)), none, none, none]) ⟨by decide, rfl, (fun h => by cases h)⟩ (Nat.le_refl _) (Nat.le_of_ble_eq_true rfl) rfl (fun Y Q hQ => ?_)
  refine q_aload_n (pc' := 1) dX10_log_0 rfl rfl (q_getR (pc' := 4) dX10_log_1 rfl fr_RX10_62 ⟨by omega, rfl⟩ rfl (wV_10_6 hV) (by decide) (q_getR (pc' := 7) dX10_log_4 rfl fr_RX10_109 ⟨by omega, rfl⟩ rfl (hn0) (sA_lt hi (by decide)) (q_getR (pc' := 10) dX10_log_7 rfl fr_RX10_234 (okS hi hz (by decide) rfl) rfl (wS_5_2 hS) (sA_lt hi (by decide)) (q_ast_3 (pc' := 11) dX10_log_10 rfl (by decide) rfl (q_iload_n (pc' := 12) dX10_log_11 rfl rfl (q_if_lt (pc' := 15) (pt := 23) dX10_log_12 rfl rfl (fun h9 => absurd h9 (Int32.not_lt.mpr (nI_le (a := 0) (by omega) (by omega)))) (fun _ => (q_iload_n (pc' := 16) dX10_log_15 rfl rfl (q_aload_n (pc' := 17) dX10_log_16 rfl rfl (q_cVi (pc' := 20) dX10_log_17 rfl ml_RX10_342 yv_X8_kept (by decide) (rn_X8_kept hi h.2.1 hL) (okS hi hz (by decide) rfl) rfl rfl (Nat.le_of_ble_eq_true rfl) (Nat.le_refl _) (q_icmp_lt (pc' := 23) (pt := 25) dX10_log_20 rfl rfl (fun _ => (q_aload_n (pc' := 26) dX10_log_25 rfl rfl (q_iload_n (pc' := 27) dX10_log_26 rfl rfl (q_cVi (pc' := 30) dX10_log_27 rfl ml_RX10_345 yv_X8_latestId (by decide) (rn_X8_latestId hi hS h.2.1 hL hk2 (by omega)) (okS hi hz (by decide) rfl) rfl rfl (Nat.le_of_ble_eq_true rfl) (Nat.le_refl _) ?_)))) (fun h9 => absurd (nI_lt (by omega) (by omega)) h9))))))))))))
  refine q_ist_4 (pc' := 32) dX10_log_30 rfl (by decide) rfl (q_aload_n (pc' := 33) dX10_log_32 rfl rfl (q_iload_n (pc' := 34) dX10_log_33 rfl rfl (q_cVi (pc' := 37) dX10_log_34 rfl ml_RX10_348 yv_X8_latestPlace (by decide) (rn_X8_latestPlace hi hS h.2.1 hL hk2 (by omega)) (okS hi hz (by decide) rfl) rfl rfl (Nat.le_of_ble_eq_true rfl) (Nat.le_refl _) (q_ist_5 (pc' := 39) dX10_log_37 rfl (by decide) rfl ?_))))
  have hc4 : j = 0 ∨ j = 1 ∨ j = 2 ∨ j = 3 ∨ j = 4 := by omega
  rcases hc4 with rfl | rfl | rfl | rfl | rfl
  · refine q_iload_n (pc' := 40) dX10_log_39 rfl rfl (q_tabIn (pc' := 76) dX10_log_40 (by decide) (by decide) rfl rfl (q_iload (pc' := 78) dX10_log_76 rfl rfl (q_bipush (pc' := 80) _ dX10_log_78 rfl kk_bipush_8 (q_idiv (pc' := 81) dX10_log_80 rfl (by decide) ?_))))
    refine q_top (d8I _ (by omega)) ?_
    exact q_iret dX10_log_81 rfl hQ
  · refine q_iload_n (pc' := 40) dX10_log_39 rfl rfl (q_tabIn (pc' := 82) dX10_log_40 (by decide) (by decide) rfl rfl (q_iload (pc' := 84) dX10_log_82 rfl rfl (q_bipush (pc' := 86) _ dX10_log_84 rfl kk_bipush_8 (q_irem (pc' := 87) dX10_log_86 rfl (by decide) ?_))))
    refine q_top (m8I _ (by omega)) ?_
    exact q_iret dX10_log_87 rfl hQ
  · refine q_iload_n (pc' := 40) dX10_log_39 rfl rfl (q_tabIn (pc' := 88) dX10_log_40 (by decide) (by decide) rfl rfl (q_iload (pc' := 90) dX10_log_88 rfl rfl ?_))
    refine q_top (y := lD (A 15 (A 14 4 - 1 - k) / 2 % 256 + 1)) lD_s.symm ?_
    have hQ2 : Q (some (.int (eC (A 15 (A 14 4 - 1 - k) / 2 % 256 + 1)))) (472, I, J, R) := by rw [cEC (by omega)]; exact hQ
    exact q_cSi (pc' := 93) dX10_log_90 rfl ml_RX10_282 ys_X10_cpuOf (by decide) (rn_X10_cpuOf (by omega)) rfl rfl (Nat.le_of_ble_eq_true rfl) (Nat.le_refl _) (q_iret dX10_log_93 rfl hQ2)
  · refine q_iload_n (pc' := 40) dX10_log_39 rfl rfl (q_tabIn (pc' := 94) dX10_log_40 (by decide) (by decide) rfl rfl (q_iload (pc' := 96) dX10_log_94 rfl rfl ?_))
    refine q_top (y := lD (A 15 (A 14 4 - 1 - k) / 2 % 256 + 1)) lD_s.symm ?_
    have hQ2 : Q (some (.int (eV (A 15 (A 14 4 - 1 - k) / 2 % 256 + 1)))) (472, I, J, R) := by rw [cEV (by omega)]; exact hQ
    exact q_cSi (pc' := 99) dX10_log_96 rfl ml_RX10_285 ys_X10_vectorOf (by decide) (rn_X10_vectorOf (by omega)) rfl rfl (Nat.le_of_ble_eq_true rfl) (Nat.le_refl _) (q_iret dX10_log_99 rfl hQ2)
  · exact q_iload_n (pc' := 40) dX10_log_39 rfl rfl (q_tabIn (pc' := 100) dX10_log_40 (by decide) (by decide) rfl rfl (q_aload_n (pc' := 101) dX10_log_100 rfl rfl (q_iload_n (pc' := 102) dX10_log_101 rfl rfl (q_cVi (pc' := 105) dX10_log_102 rfl ml_RX10_351 yv_X8_latestByOld (by decide) (rn_X8_latestByOld hi hS h.2.1 hL hk2 (by omega)) (okS hi hz (by decide) rfl) rfl rfl (Nat.le_of_ble_eq_true rfl) (Nat.le_refl _) (q_iret dX10_log_105 rfl hQ)))))
theorem rt_X10_undo (hW : wSt R) (h : cH I R b ps n u A c s) : RtI w l yX10_undo dd_X10_undo [.ref 0] (472, I, J, R) (fun x I' J' R' => x = bI (n != 0) ∧ J' = J ∧ (∀ a, a ≠ 28 → I' a = I a) ∧ mRh R R' ∧ ∃ c', cH I' R' b (if n = 0 then ps else hSet ps (n - 1) A) (n - 1) (if n = 0 then u else u + 1) (if n = 0 then A else ps (n - 1)) c' s) := by
  have hV := hW.1
  refine rt_intro2 (L := [some (.ref 0)]) ⟨by decide, rfl, (fun h => by cases h)⟩ (Nat.le_of_ble_eq_true rfl) rfl (fun Y Q hQ => ?_)
  refine q_aload_n (pc' := 1) dX10_undo_0 rfl rfl (q_getR (pc' := 4) dX10_undo_1 rfl fr_RX10_62 ⟨by omega, rfl⟩ rfl (wV_10_6 hV) (by decide) (q_tVi (pc' := 7) dX10_undo_4 rfl ml_RX10_201 yv_X2_takeBack (by decide) (rt_X2_takeBack hV h) ⟨by omega, rfl⟩ rfl rfl (Nat.le_of_ble_eq_true rfl) (Nat.le_refl _) (fun x2 I2 J2 R2 ⟨t1, t2⟩ => ?_)))
  subst t1
  exact q_zret dX10_undo_7 rfl (bI_01 _) (hQ _ _ _ _ ⟨_, rfl, rfl, t2⟩)
theorem rt_X10_redo (hW : wSt R) (h : cH I R b ps n u A c s) : RtI w l yX10_redo dd_X10_redo [.ref 0] (472, I, J, R) (fun x I' J' R' => x = bI (u != 0) ∧ J' = J ∧ (∀ a, a ≠ 28 → I' a = I a) ∧ mRh R R' ∧ ∃ c', cH I' R' b (if u = 0 then ps else hSet ps n A) (if u = 0 then n else n + 1) (u - 1) (if u = 0 then A else ps n) c' s) := by
  have hV := hW.1
  refine rt_intro2 (L := [some (.ref 0)]) ⟨by decide, rfl, (fun h => by cases h)⟩ (Nat.le_of_ble_eq_true rfl) rfl (fun Y Q hQ => ?_)
  refine q_aload_n (pc' := 1) dX10_redo_0 rfl rfl (q_getR (pc' := 4) dX10_redo_1 rfl fr_RX10_62 ⟨by omega, rfl⟩ rfl (wV_10_6 hV) (by decide) (q_tVi (pc' := 7) dX10_redo_4 rfl ml_RX10_204 yv_X2_doAgain (by decide) (rt_X2_doAgain hV h) ⟨by omega, rfl⟩ rfl rfl (Nat.le_of_ble_eq_true rfl) (Nat.le_refl _) (fun x2 I2 J2 R2 ⟨t1, t2⟩ => ?_)))
  subst t1
  exact q_zret dX10_redo_7 rfl (bI_01 _) (hQ _ _ _ _ ⟨_, rfl, rfl, t2⟩)
theorem rn_X10_refused : Rn w l yX10_refused dd_X10_refused [.ref 0] (472, I, J, R) (some (.int (I 0 12))) (472, I, J, R) := by
  refine rn_intro2 (L := [some (.ref 0)]) ⟨by decide, rfl, (fun h => by cases h)⟩ (Nat.le_refl _) (Nat.le_of_ble_eq_true rfl) rfl (fun Y Q hQ => ?_)
  exact q_aload_n (pc' := 1) dX10_refused_0 rfl rfl (q_getI (pc' := 4) dX10_refused_1 rfl fr_RX10_100 ⟨by omega, rfl⟩ rfl (q_iret dX10_refused_4 rfl hQ))
theorem rn_X10_fault {x : Int32} (hV : mj_wV R) : Rn w l yX10_fault dd_X10_fault [.ref 0, .int x] (472, I, J, R) (some (.int (if x = nI 0 then I 10 16 else if x = nI 1 then I 10 17 else -1))) (472, I, J, R) := by
  refine rn_intro2 (L := [some (.ref 0), some (.int x)]) ⟨by decide, rfl, (fun h => by cases h)⟩ (Nat.le_refl _) (Nat.le_of_ble_eq_true rfl) rfl (fun Y Q hQ => ?_)
  by_cases h0 : x = nI 0
  · subst h0
    rw [if_pos rfl] at hQ
    exact q_iload_n (pc' := 1) dX10_fault_0 rfl rfl (q_lookup (pc' := 28) dX10_fault_1 (by decide) (by rfl) rfl (q_aload_n (pc' := 29) dX10_fault_28 rfl rfl (q_getR (pc' := 32) dX10_fault_29 rfl fr_RX10_35 ⟨by omega, rfl⟩ rfl (wV_10_2 hV) (by decide) (q_getI (pc' := 35) dX10_fault_32 rfl fr_RX10_178 ⟨by omega, rfl⟩ rfl (q_iret dX10_fault_35 rfl hQ)))))
  · rw [if_neg h0] at hQ
    by_cases h1 : x = nI 1
    · subst h1
      rw [if_pos rfl] at hQ
      exact q_iload_n (pc' := 1) dX10_fault_0 rfl rfl (q_lookup (pc' := 36) dX10_fault_1 (by decide) (by rfl) rfl (q_aload_n (pc' := 37) dX10_fault_36 rfl rfl (q_getR (pc' := 40) dX10_fault_37 rfl fr_RX10_35 ⟨by omega, rfl⟩ rfl (wV_10_2 hV) (by decide) (q_getI (pc' := 43) dX10_fault_40 rfl fr_RX10_181 ⟨by omega, rfl⟩ rfl (q_iret dX10_fault_43 rfl hQ)))))
    · rw [if_neg h1] at hQ
      have n0 : ¬ (0:Int) = x.toInt := fun q => h0 (Int32.toInt_inj.mp (by rw [← q]; decide))
      have n1 : ¬ (1:Int) = x.toInt := fun q => h1 (Int32.toInt_inj.mp (by rw [← q]; decide))
      have ho : Op.lookupswitch.offset (#[((0:Int), (27:Int)), (1, 35)] : Array (Int × Int)).toList 43 x.toInt = 43 := by
        show (if (0:Int) = x.toInt then (27:Int) else if (1:Int) = x.toInt then (35:Int) else 43) = 43
        rw [if_neg n0, if_neg n1]
      exact q_iload_n (pc' := 1) dX10_fault_0 rfl rfl (q_lookup (pc' := 44) dX10_fault_1 (by decide) (ho) rfl (q_iconst (pc' := 45) _ dX10_fault_44 rfl kk_iconst_m1 (q_iret dX10_fault_45 rfl hQ)))
theorem rn_X10_end0 {x : Int32} (ht : I 0 1 = nI t) (h8 : t ≤ 800) (hx : inN x (t + 1) = false) : Rn w l yX10_end dd_X10_end [.ref 0, .int x] (472, I, J, R) (some (.int (-1))) (472, I, J, R) := by
  refine rn_intro2 (L := [some (.ref 0), some (.int x)]) ⟨by decide, rfl, (fun h => by cases h)⟩ (Nat.le_refl _) (Nat.le_of_ble_eq_true rfl) rfl (fun Y Q hQ => ?_)
  by_cases h2 : x < 0
  · exact q_iload_n (pc' := 1) dX10_end_0 rfl rfl (q_if_lt (pc' := 4) (pt := 12) dX10_end_1 rfl rfl (fun _ => (q_iconst (pc' := 13) _ dX10_end_12 rfl kk_iconst_m1 (q_iret dX10_end_13 rfl hQ))) (fun h9 => absurd (h2) h9))
  · have h3 : ¬ x ≤ nI t := fun q => by
      rw [← inN_e, decide_eq_false_iff_not] at hx
      exact hx ⟨Int32.not_lt.mp h2, q⟩
    exact q_iload_n (pc' := 1) dX10_end_0 rfl rfl (q_if_lt (pc' := 4) (pt := 12) dX10_end_1 rfl rfl (fun h9 => absurd h9 (h2)) (fun _ => (q_iload_n (pc' := 5) dX10_end_4 rfl rfl (q_aload_n (pc' := 6) dX10_end_5 rfl rfl (q_getIe (pc' := 9) dX10_end_6 rfl fr_RX10_85 ⟨by omega, rfl⟩ rfl ht (q_icmp_le (pc' := 12) (pt := 14) dX10_end_9 rfl rfl (fun h9 => absurd h9 (h3)) (fun _ => (q_iconst (pc' := 13) _ dX10_end_12 rfl kk_iconst_m1 (q_iret dX10_end_13 rfl hQ)))))))))
theorem rn_X10_end {m : Nat} (ht : I 0 1 = nI t) (h8 : t ≤ 800) (hm : m ≤ t) : Rn w l yX10_end dd_X10_end [.ref 0, .int (nI m)] (472, I, J, R) (some (.int (nI m))) (472, mj_up I 0 1 (nI m), J, R) := by
  refine rn_intro2 (L := [some (.ref 0), some (.int (nI m))]) ⟨by decide, rfl, (fun h => by cases h)⟩ (Nat.le_refl _) (Nat.le_of_ble_eq_true rfl) rfl (fun Y Q hQ => ?_)
  exact q_iload_n (pc' := 1) dX10_end_0 rfl rfl (q_if_lt (pc' := 4) (pt := 12) dX10_end_1 rfl rfl (fun h9 => absurd h9 (Int32.not_lt.mpr (nI_le (a := 0) (by omega) (by omega)))) (fun _ => (q_iload_n (pc' := 5) dX10_end_4 rfl rfl (q_aload_n (pc' := 6) dX10_end_5 rfl rfl (q_getIe (pc' := 9) dX10_end_6 rfl fr_RX10_85 ⟨by omega, rfl⟩ rfl ht (q_icmp_le (pc' := 12) (pt := 14) dX10_end_9 rfl rfl (fun _ => (q_aload_n (pc' := 15) dX10_end_14 rfl rfl (q_iload_n (pc' := 16) dX10_end_15 rfl rfl (q_putI (pc' := 19) dX10_end_16 rfl fl_RX10_85 ⟨by omega, rfl⟩ rfl (q_iload_n (pc' := 20) dX10_end_19 rfl rfl (q_iret dX10_end_20 rfl hQ)))))) (fun h9 => absurd (nI_le (by omega) (by omega)) h9)))))))
/-- nothing but the tape changes -/
def tF0 (I I' : mj_M) : Prop := (∀ a, a ≠ 0 → a ≠ 1 → I' a = I a) ∧ ∀ f, f ≠ 1 → I' 0 f = I 0 f
theorem tF0.rf : tF0 I I := ⟨fun _ _ _ => rfl, fun _ _ => rfl⟩
theorem tF0.tr {I1 I2 : mj_M} (h : tF0 I I1) (h2 : tF0 I1 I2) : tF0 I I2 := ⟨fun a h1 h3 => (h2.1 a h1 h3).trans (h.1 a h1 h3), fun f h1 => (h2.2 f h1).trans (h.2 f h1)⟩
def cTt (I : mj_M) (T : Nat → Nat) (t : Nat) : Prop := cTp I T t ∧ I 0 1 = nI t
theorem cTt_put {x : Nat} (h : cTt I T t) (ht : t < 800) (hx : x < 256) : cTt (mj_up (mj_up I 1 t (sB x)) 0 1 (nI (t + 1))) (tP T t x) (t + 1) ∧ tF0 I (mj_up (mj_up I 1 t (sB x)) 0 1 (nI (t + 1))) := by
  refine ⟨⟨⟨ht, fun k hk => ?_⟩, mj_up_eq⟩, fun a h1 h2 => by rw [up_fI h1, up_fI h2], fun f h1 => by rw [mj_up_ne2 h1, mj_up_ne (by decide)]⟩
  rw [mj_up_ne (by decide)]
  unfold tP
  by_cases e : k = t
  · subst e; rw [mj_up_eq, if_pos rfl]; exact ⟨rfl, hx⟩
  · rw [mj_up_ne2 e, if_neg e]; exact h.1.2 k (by omega)
theorem app_s {Y : mj_Y} {Q : Option Value → mj_H → Prop} {v : Int32} (sh : Nat) (y : Int32) (hV : mj_wV R) (hT : cTt I T t) (ht : t < 800) (hs : sh < 25) (hy : nI sh + Int32.ofInt (-8) = y)
    (hn : ∀ I', cTt I' (tP T t (by8 v sh)) (t + 1) → tF0 I I' → Wq dd_X10_appendBytes (mj_mk w l 472 Y) Q 3 [some (.ref 0), some (.int v), some (.int y)] [] (472, I', J, R)) : Wq dd_X10_appendBytes (mj_mk w l 472 Y) Q 3 [some (.ref 0), some (.int v), some (.int (nI sh))] [] (472, I, J, R) := by
  have h := cTt_put hT ht (by8_lt v sh)
  have e1 : mj_up I 1 t (sB (by8 v sh)) 0 1 = nI t := by rw [mj_up_ne (by decide)]; exact hT.2
  refine q_iload_n (pc' := 4) dX10_appendBytes_3 rfl rfl (q_if_lt (pc' := 7) (pt := 46) dX10_appendBytes_4 rfl rfl (fun h9 => absurd h9 (Int32.not_lt.mpr (nI_le (a := 0) (by omega) (by omega)))) (fun _ => (q_aload_n (pc' := 8) dX10_appendBytes_7 rfl rfl (q_getIe (pc' := 11) dX10_appendBytes_8 rfl fr_RX10_85 ⟨by omega, rfl⟩ rfl (hT.2) (q_sipush (pc' := 14) _ dX10_appendBytes_11 rfl kk_sipush_800 (q_icmp_ge (pc' := 17) (pt := 46) dX10_appendBytes_14 rfl rfl (fun h9 => absurd h9 (Int32.not_le.mpr (nI_lt (by omega) (by decide)))) (fun _ => (q_aload_n (pc' := 18) dX10_appendBytes_17 rfl rfl (q_getR (pc' := 21) dX10_appendBytes_18 rfl fr_RX10_9 ⟨by omega, rfl⟩ rfl (wV_10_0 hV) (by decide) (q_aload_n (pc' := 22) dX10_appendBytes_21 rfl rfl (q_getIe (pc' := 25) dX10_appendBytes_22 rfl fr_RX10_85 ⟨by omega, rfl⟩ rfl (hT.2) (q_iload_n (pc' := 26) dX10_appendBytes_25 rfl rfl (q_iload_n (pc' := 27) dX10_appendBytes_26 rfl rfl (q_iushr (pc' := 28) dX10_appendBytes_27 rfl (q_i2b (pc' := 29) dX10_appendBytes_28 rfl ?_)))))))))))))))
  refine q_top (by8_b hs) ?_
  refine q_bast (pc' := 30) (t) dX10_appendBytes_29 rfl (by first | exact ⟨by omega, rfl⟩ | exact okaS hi hz (by decide) rfl | assumption) (by (first | (simp only [nI_add, pk_mul]; done) | (simp only [nI_add, pk_mul]; exact nI_e (by omega)) | exact nI_e (by omega))) (by omega) (pk_bb _) (q_aload_n (pc' := 31) dX10_appendBytes_30 rfl rfl (q_dup_a (pc' := 32) dX10_appendBytes_31 rfl (q_getIe (pc' := 35) dX10_appendBytes_32 rfl fr_RX10_85 ⟨by omega, rfl⟩ rfl e1 (q_iconst (pc' := 36) _ dX10_appendBytes_35 rfl kk_iconst_1 (q_iadd (pc' := 37) dX10_appendBytes_36 rfl ?_)))))
  refine q_top (nI_add t 1) ?_
  refine q_putI (pc' := 40) dX10_appendBytes_37 rfl fl_RX10_85 ⟨by omega, rfl⟩ rfl (q_iinc_2 (pc' := 43) (y) dX10_appendBytes_40 rfl (by decide) rfl (hy) (q_goto (pc' := 3) dX10_appendBytes_43 rfl ?_))
  exact hn _ h.1 h.2
theorem rs_X10_append {v : Int32} (hV : mj_wV R) (hT : cTt I T t) (ht : t + 4 ≤ 800) : RsV w l yX10_appendBytes dd_X10_appendBytes [.ref 0, .int v] (472, I, J, R) (fun I' => cTt I' (tW T t v) (t + 4) ∧ tF0 I I') := by
  refine rt_intro2 (L := [some (.ref 0), some (.int v), none]) ⟨by decide, rfl, (fun h => by cases h)⟩ (Nat.le_of_ble_eq_true rfl) rfl (fun Y Q hQ => ?_)
  refine q_bipush (pc' := 2) _ dX10_appendBytes_0 rfl kk_bipush_24 (q_ist_2 (pc' := 3) dX10_appendBytes_2 rfl (by decide) rfl ?_)
  refine app_s 24 (nI 16) hV hT (by omega) (by decide) (by decide) (fun I1 t1 f1 => ?_)
  refine app_s 16 (nI 8) hV t1 (by omega) (by decide) (by decide) (fun I2 t2 f2 => ?_)
  refine app_s 8 (nI 0) hV t2 (by omega) (by decide) (by decide) (fun I3 t3 f3 => ?_)
  refine app_s 0 (-8) hV t3 (by omega) (by decide) (by decide) (fun I4 t4 f4 => ?_)
  exact q_iload_n (pc' := 4) dX10_appendBytes_3 rfl rfl (q_if_lt (pc' := 7) (pt := 46) dX10_appendBytes_4 rfl rfl (fun _ => (q_vret dX10_appendBytes_46 rfl (hQ _ _ _ _ ⟨rfl, ⟨rfl, rfl⟩, t4, f1.tr (f2.tr (f3.tr f4))⟩))) (fun h9 => absurd (by decide) h9))
theorem rn_X10_feed0 {v1 v2 v3 v4 v5 : Int32} (hT : cTt I T t) (ht : ¬ t + 20 ≤ 800) : Rn w l yX10_feed dd_X10_feed [.ref 0, .int v1, .int v2, .int v3, .int v4, .int v5] (472, I, J, R) (some (.int (-1))) (472, I, J, R) := by
  have h8 := hT.1.1
  refine rn_intro2 (L := [some (.ref 0), some (.int v1), some (.int v2), some (.int v3), some (.int v4), some (.int v5)]) ⟨by decide, rfl, (fun h => by cases h)⟩ (Nat.le_refl _) (Nat.le_of_ble_eq_true rfl) rfl (fun Y Q hQ => ?_)
  exact q_aload_n (pc' := 1) dX10_feed_0 rfl rfl (q_getIe (pc' := 4) dX10_feed_1 rfl fr_RX10_85 ⟨by omega, rfl⟩ rfl (hT.2) (q_sipush (pc' := 7) _ dX10_feed_4 rfl kk_sipush_780 (q_icmp_le (pc' := 10) (pt := 12) dX10_feed_7 rfl rfl (fun h9 => absurd h9 (Int32.not_le.mpr (nI_lt (by omega) (by omega)))) (fun _ => (q_iconst (pc' := 11) _ dX10_feed_10 rfl kk_iconst_m1 (q_iret dX10_feed_11 rfl hQ))))))
theorem rs_X10_feed {v1 v2 v3 v4 v5 : Int32} (hV : mj_wV R) (hT : cTt I T t) (ht : t + 20 ≤ 800) : RsI w l yX10_feed dd_X10_feed [.ref 0, .int v1, .int v2, .int v3, .int v4, .int v5] (472, I, J, R) (fun x I' => x = nI (t + 20) ∧ cTt I' (tF T t v1 v2 v3 v4 v5) (t + 20) ∧ tF0 I I') := by
  refine rt_intro2 (L := [some (.ref 0), some (.int v1), some (.int v2), some (.int v3), some (.int v4), some (.int v5)]) ⟨by decide, rfl, (fun h => by cases h)⟩ (Nat.le_of_ble_eq_true rfl) rfl (fun Y Q hQ => ?_)
  refine q_aload_n (pc' := 1) dX10_feed_0 rfl rfl (q_getIe (pc' := 4) dX10_feed_1 rfl fr_RX10_85 ⟨by omega, rfl⟩ rfl (hT.2) (q_sipush (pc' := 7) _ dX10_feed_4 rfl kk_sipush_780 (q_icmp_le (pc' := 10) (pt := 12) dX10_feed_7 rfl rfl (fun _ => (q_aload_n (pc' := 13) dX10_feed_12 rfl rfl (q_iload_n (pc' := 14) dX10_feed_13 rfl rfl (q_sVv (pc' := 17) dX10_feed_14 rfl ml_RX10_89 yv_X10_appendBytes (by decide) (rs_X10_append hV hT (by omega)) ⟨by omega, rfl⟩ rfl rfl (Nat.le_of_ble_eq_true rfl) (Nat.le_refl _) (fun I1 ⟨t1, f1⟩ => (q_aload_n (pc' := 18) dX10_feed_17 rfl rfl (q_iload_n (pc' := 19) dX10_feed_18 rfl rfl (q_sVv (pc' := 22) dX10_feed_19 rfl ml_RX10_89 yv_X10_appendBytes (by decide) (rs_X10_append hV t1 (by omega)) ⟨by omega, rfl⟩ rfl rfl (Nat.le_of_ble_eq_true rfl) (Nat.le_refl _) (fun I2 ⟨t2, f2⟩ => (q_aload_n (pc' := 23) dX10_feed_22 rfl rfl (q_iload_n (pc' := 24) dX10_feed_23 rfl rfl (q_sVv (pc' := 27) dX10_feed_24 rfl ml_RX10_89 yv_X10_appendBytes (by decide) (rs_X10_append hV t2 (by omega)) ⟨by omega, rfl⟩ rfl rfl (Nat.le_of_ble_eq_true rfl) (Nat.le_refl _) (fun I3 ⟨t3, f3⟩ => (q_aload_n (pc' := 28) dX10_feed_27 rfl rfl ?_)))))))))))))) (fun h9 => absurd (nI_le (by omega) (by decide)) h9))))
  refine q_iload (pc' := 30) dX10_feed_28 rfl rfl (q_sVv (pc' := 33) dX10_feed_30 rfl ml_RX10_89 yv_X10_appendBytes (by decide) (rs_X10_append hV t3 (by omega)) ⟨by omega, rfl⟩ rfl rfl (Nat.le_of_ble_eq_true rfl) (Nat.le_refl _) (fun I4 ⟨t4, f4⟩ => (q_aload_n (pc' := 34) dX10_feed_33 rfl rfl (q_iload (pc' := 36) dX10_feed_34 rfl rfl (q_sVv (pc' := 39) dX10_feed_36 rfl ml_RX10_89 yv_X10_appendBytes (by decide) (rs_X10_append hV t4 (by omega)) ⟨by omega, rfl⟩ rfl rfl (Nat.le_of_ble_eq_true rfl) (Nat.le_refl _) (fun I5 ⟨t5, f5⟩ => ?_))))))
  exact q_aload_n (pc' := 40) dX10_feed_39 rfl rfl (q_getIe (pc' := 43) dX10_feed_40 rfl fr_RX10_85 ⟨by omega, rfl⟩ rfl (t5.2) (q_iret dX10_feed_43 rfl (hQ _ _ _ _ ⟨_, rfl, ⟨rfl, rfl⟩, rfl, t5, f1.tr (f2.tr (f3.tr (f4.tr f5)))⟩)))
end VD3
