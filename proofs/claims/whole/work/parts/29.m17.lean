/-! ===== the reference: what it is asked ===== -/
section M17
variable {w : mj_Wd} {l : Launch} {I : mj_M} {J : mj_J} {R : mj_R} {b A W0 : St} {ps : Nat → St} {n u : Nat} {h : mj_H}
theorem inN_e {x : Int32} {m : Nat} : decide (nI 0 ≤ x ∧ x ≤ nI m) = inN x (m + 1) := by
  unfold inN
  rw [← nI_add, Int32.add_sub_cancel]
theorem rn_isInN {x : Int32} (m : Nat) : Rn w l yX11_isIn dd_X11_isIn [.int x, .int (nI 0), .int (nI m)] h (some (.int (bI (inN x (m + 1))))) h := by
  rw [← inN_e]; exact rn_X11_isIn
theorem rn_isInS {x : Int32} {m : Nat} : Rn w l yX11_isIn dd_X11_isIn [.int x, .int (nI 0), .int (nI m - nI 1)] h (some (.int (bI (inN x m)))) h := rn_X11_isIn
theorem inN_t {d m : Nat} (hm : m < 2 ^ 30) (h : d < m) : inN (nI d) m = true := (inN_iff hm).mpr ⟨d, h, rfl⟩
def aGreat (b A : St) (p : Nat) : Nat := if (aBlk b A p 8).isSome = true then 8 else if (aBlk b A p 4).isSome = true then 4 else if (aBlk b A p 2).isSome = true then 2 else if (aBlk b A p 1).isSome = true then 1 else 0
theorem rn_X11_greatestBlock {p : Nat} (hM : mj_wM R) (hb : mB I b) (hk : bOK b) (hR : rR (I 464) A) (hA : aOK A) (hp : p < 8) : Rn w l yX11_greatestBlock dd_X11_greatestBlock [.ref 452, .int (nI p)] (472, I, J, R) (some (.int (nI (aGreat b A p)))) (472, I, J, R) := by
  have hv2 := hk.2.1
  have nn : ∀ n, 1 ≤ n → oB n (aBlk b A p n) = -1 → (aBlk b A p n).isSome = false := fun n hn h => by
    rw [(oB_none (fun i hi => by have := aBlk_lt hn hi; omega)).mp h]; rfl
  have ss : ∀ n, oB n (aBlk b A p n) ≠ -1 → (aBlk b A p n).isSome = true := fun n h => by
    cases hz : aBlk b A p n with
    | none => rw [hz] at h; exact absurd rfl h
    | some i => rfl
  unfold aGreat
  refine rn_intro2 (L := [some (.ref 452), some (.int (nI p))]) ⟨by decide, rfl, (fun h => by cases h)⟩ (Nat.le_refl _) (Nat.le_of_ble_eq_true rfl) rfl (fun Y Q hQ => ?_)
  refine q_aload_n (pc' := 1) dX11_greatestBlock_0 rfl rfl (q_iload_n (pc' := 2) dX11_greatestBlock_1 rfl rfl (q_bipush (pc' := 4) _ dX11_greatestBlock_2 rfl kk_bipush_8 (q_cVi (pc' := 7) dX11_greatestBlock_4 rfl ml_RX11_298 yv_X11_blockOf (by decide) (rn_X11_blockOf hM hb hk hR hA hp ⟨by decide, by decide⟩) ⟨by omega, rfl⟩ rfl rfl (Nat.le_of_ble_eq_true rfl) (Nat.le_refl _) (q_iconst (pc' := 8) _ dX11_greatestBlock_7 rfl kk_iconst_m1 (q_icmp_eq (pc' := 11) (pt := 16) dX11_greatestBlock_8 rfl rfl (fun h1 => ?_) (fun h1 => ?_))))))
  · rw [if_neg (by rw [nn 8 (by decide) h1]; decide)] at hQ
    refine q_aload_n (pc' := 17) dX11_greatestBlock_16 rfl rfl (q_iload_n (pc' := 18) dX11_greatestBlock_17 rfl rfl (q_iconst (pc' := 19) _ dX11_greatestBlock_18 rfl kk_iconst_4 (q_cVi (pc' := 22) dX11_greatestBlock_19 rfl ml_RX11_298 yv_X11_blockOf (by decide) (rn_X11_blockOf hM hb hk hR hA hp ⟨by decide, by decide⟩) ⟨by omega, rfl⟩ rfl rfl (Nat.le_of_ble_eq_true rfl) (Nat.le_refl _) (q_iconst (pc' := 23) _ dX11_greatestBlock_22 rfl kk_iconst_m1 (q_icmp_eq (pc' := 26) (pt := 30) dX11_greatestBlock_23 rfl rfl (fun h2 => ?_) (fun h2 => ?_))))))
    · rw [if_neg (by rw [nn 4 (by decide) h2]; decide)] at hQ
      refine q_aload_n (pc' := 31) dX11_greatestBlock_30 rfl rfl (q_iload_n (pc' := 32) dX11_greatestBlock_31 rfl rfl (q_iconst (pc' := 33) _ dX11_greatestBlock_32 rfl kk_iconst_2 (q_cVi (pc' := 36) dX11_greatestBlock_33 rfl ml_RX11_298 yv_X11_blockOf (by decide) (rn_X11_blockOf hM hb hk hR hA hp ⟨by decide, by decide⟩) ⟨by omega, rfl⟩ rfl rfl (Nat.le_of_ble_eq_true rfl) (Nat.le_refl _) (q_iconst (pc' := 37) _ dX11_greatestBlock_36 rfl kk_iconst_m1 (q_icmp_eq (pc' := 40) (pt := 44) dX11_greatestBlock_37 rfl rfl (fun h3 => ?_) (fun h3 => ?_))))))
      · rw [if_neg (by rw [nn 2 (by decide) h3]; decide)] at hQ
        refine q_aload_n (pc' := 45) dX11_greatestBlock_44 rfl rfl (q_iload_n (pc' := 46) dX11_greatestBlock_45 rfl rfl (q_iconst (pc' := 47) _ dX11_greatestBlock_46 rfl kk_iconst_1 (q_cVi (pc' := 50) dX11_greatestBlock_47 rfl ml_RX11_298 yv_X11_blockOf (by decide) (rn_X11_blockOf hM hb hk hR hA hp ⟨by decide, by decide⟩) ⟨by omega, rfl⟩ rfl rfl (Nat.le_of_ble_eq_true rfl) (Nat.le_refl _) (q_iconst (pc' := 51) _ dX11_greatestBlock_50 rfl kk_iconst_m1 (q_icmp_eq (pc' := 54) (pt := 58) dX11_greatestBlock_51 rfl rfl (fun h4 => ?_) (fun h4 => ?_))))))
        · exact q_iconst (pc' := 59) _ dX11_greatestBlock_58 rfl kk_iconst_0 (q_iret dX11_greatestBlock_59 rfl (by rw [if_neg (by rw [nn 1 (by decide) h4]; decide)] at hQ; exact hQ))
        · exact q_iconst (pc' := 55) _ dX11_greatestBlock_54 rfl kk_iconst_1 (q_goto (pc' := 59) dX11_greatestBlock_55 rfl (q_iret dX11_greatestBlock_59 rfl (by rw [if_pos (ss 1 h4)] at hQ; exact hQ)))
      · exact q_iconst (pc' := 41) _ dX11_greatestBlock_40 rfl kk_iconst_2 (q_goto (pc' := 59) dX11_greatestBlock_41 rfl (q_iret dX11_greatestBlock_59 rfl (by rw [if_pos (ss 2 h3)] at hQ; exact hQ)))
    · exact q_iconst (pc' := 27) _ dX11_greatestBlock_26 rfl kk_iconst_4 (q_goto (pc' := 59) dX11_greatestBlock_27 rfl (q_iret dX11_greatestBlock_59 rfl (by rw [if_pos (ss 4 h2)] at hQ; exact hQ)))
  · exact q_bipush (pc' := 13) _ dX11_greatestBlock_11 rfl kk_bipush_8 (q_goto (pc' := 59) dX11_greatestBlock_13 rfl (q_iret dX11_greatestBlock_59 rfl (by rw [if_pos (ss 8 h1)] at hQ; exact hQ)))
/-- cpu(p, j) -/
def qCpu (b A : St) (p : Nat) : Nat → Nat
  | 0 => aLoad b A p
  | 1 => aCnt b A p 0
  | 2 => aCnt b A p 4
  | 3 => aPend b A p
  | 4 => A 9 p
  | 5 => aGreat b A p
  | _ => A 13 p
theorem rn_X11_cpu {p j : Nat} (hM : mj_wM R) (hb : mB I b) (hk : bOK b) (hR : rR (I 464) A) (hA : aOK A) (hp : p < b 0 0) (hj : j < 7) : Rn w l yX11_cpu dd_X11_cpu [.ref 452, .int (nI p), .int (nI j)] (472, I, J, R) (some (.int (nI (qCpu b A p j)))) (472, I, J, R) := by
  have h8 := hk.1.2
  have hin := inN_t (by omega) hp
  have hc : j = 0 ∨ j = 1 ∨ j = 2 ∨ j = 3 ∨ j = 4 ∨ j = 5 ∨ j = 6 := by omega
  refine rn_intro2 (L := [some (.ref 452), some (.int (nI p)), some (.int (nI j))]) ⟨by decide, rfl, (fun h => by cases h)⟩ (Nat.le_refl _) (Nat.le_of_ble_eq_true rfl) rfl (fun Y Q hQ => ?_)
  rcases hc with rfl | rfl | rfl | rfl | rfl | rfl | rfl
  · exact q_aload_n (pc' := 1) dX11_cpu_0 rfl rfl (q_iload_n (pc' := 2) dX11_cpu_1 rfl rfl (q_cVi (pc' := 5) dX11_cpu_2 rfl ml_RX11_433 yv_X11_isCpu (by decide) (rn_X11_isCpu hb) ⟨by omega, rfl⟩ rfl rfl (Nat.le_of_ble_eq_true rfl) (Nat.le_refl _) (q_ifb_ne (pc' := 8) (pt := 10) dX11_cpu_5 rfl rfl (fun _ => (q_iload_n (pc' := 11) dX11_cpu_10 rfl rfl (q_tabIn (pc' := 52) dX11_cpu_11 (by decide) (by decide) rfl rfl (q_aload_n (pc' := 53) dX11_cpu_52 rfl rfl (q_iload_n (pc' := 54) dX11_cpu_53 rfl rfl (q_cVi (pc' := 57) dX11_cpu_54 rfl ml_RX11_301 yv_X11_loadOf (by decide) (rn_X11_loadOf hM hb hk hR hA (by omega)) ⟨by omega, rfl⟩ rfl rfl (Nat.le_of_ble_eq_true rfl) (Nat.le_refl _) (q_iret dX11_cpu_57 rfl hQ))))))) (fun h9 => Bool.noConfusion (Eq.trans (Eq.symm (hin)) h9)))))
  · exact q_aload_n (pc' := 1) dX11_cpu_0 rfl rfl (q_iload_n (pc' := 2) dX11_cpu_1 rfl rfl (q_cVi (pc' := 5) dX11_cpu_2 rfl ml_RX11_433 yv_X11_isCpu (by decide) (rn_X11_isCpu hb) ⟨by omega, rfl⟩ rfl rfl (Nat.le_of_ble_eq_true rfl) (Nat.le_refl _) (q_ifb_ne (pc' := 8) (pt := 10) dX11_cpu_5 rfl rfl (fun _ => (q_iload_n (pc' := 11) dX11_cpu_10 rfl rfl (q_tabIn (pc' := 58) dX11_cpu_11 (by decide) (by decide) rfl rfl (q_aload_n (pc' := 59) dX11_cpu_58 rfl rfl (q_iload_n (pc' := 60) dX11_cpu_59 rfl rfl (q_iconst (pc' := 61) _ dX11_cpu_60 rfl kk_iconst_0 (q_cVi (pc' := 64) dX11_cpu_61 rfl ml_RX11_289 yv_X11_manyOf (by decide) (rn_X11_manyOf hM hb hk hR hA (by omega) (by decide)) ⟨by omega, rfl⟩ rfl rfl (Nat.le_of_ble_eq_true rfl) (Nat.le_refl _) (q_iret dX11_cpu_64 rfl hQ)))))))) (fun h9 => Bool.noConfusion (Eq.trans (Eq.symm (hin)) h9)))))
  · exact q_aload_n (pc' := 1) dX11_cpu_0 rfl rfl (q_iload_n (pc' := 2) dX11_cpu_1 rfl rfl (q_cVi (pc' := 5) dX11_cpu_2 rfl ml_RX11_433 yv_X11_isCpu (by decide) (rn_X11_isCpu hb) ⟨by omega, rfl⟩ rfl rfl (Nat.le_of_ble_eq_true rfl) (Nat.le_refl _) (q_ifb_ne (pc' := 8) (pt := 10) dX11_cpu_5 rfl rfl (fun _ => (q_iload_n (pc' := 11) dX11_cpu_10 rfl rfl (q_tabIn (pc' := 65) dX11_cpu_11 (by decide) (by decide) rfl rfl (q_aload_n (pc' := 66) dX11_cpu_65 rfl rfl (q_iload_n (pc' := 67) dX11_cpu_66 rfl rfl (q_iconst (pc' := 68) _ dX11_cpu_67 rfl kk_iconst_4 (q_cVi (pc' := 71) dX11_cpu_68 rfl ml_RX11_289 yv_X11_manyOf (by decide) (rn_X11_manyOf hM hb hk hR hA (by omega) (by decide)) ⟨by omega, rfl⟩ rfl rfl (Nat.le_of_ble_eq_true rfl) (Nat.le_refl _) (q_iret dX11_cpu_71 rfl hQ)))))))) (fun h9 => Bool.noConfusion (Eq.trans (Eq.symm (hin)) h9)))))
  · exact q_aload_n (pc' := 1) dX11_cpu_0 rfl rfl (q_iload_n (pc' := 2) dX11_cpu_1 rfl rfl (q_cVi (pc' := 5) dX11_cpu_2 rfl ml_RX11_433 yv_X11_isCpu (by decide) (rn_X11_isCpu hb) ⟨by omega, rfl⟩ rfl rfl (Nat.le_of_ble_eq_true rfl) (Nat.le_refl _) (q_ifb_ne (pc' := 8) (pt := 10) dX11_cpu_5 rfl rfl (fun _ => (q_iload_n (pc' := 11) dX11_cpu_10 rfl rfl (q_tabIn (pc' := 72) dX11_cpu_11 (by decide) (by decide) rfl rfl (q_aload_n (pc' := 73) dX11_cpu_72 rfl rfl (q_iload_n (pc' := 74) dX11_cpu_73 rfl rfl (q_cVi (pc' := 77) dX11_cpu_74 rfl ml_RX11_295 yv_X11_pendingOf (by decide) (rn_X11_pendingOf hM hb hk hR (by omega)) ⟨by omega, rfl⟩ rfl rfl (Nat.le_of_ble_eq_true rfl) (Nat.le_refl _) (q_iret dX11_cpu_77 rfl hQ))))))) (fun h9 => Bool.noConfusion (Eq.trans (Eq.symm (hin)) h9)))))
  · exact q_aload_n (pc' := 1) dX11_cpu_0 rfl rfl (q_iload_n (pc' := 2) dX11_cpu_1 rfl rfl (q_cVi (pc' := 5) dX11_cpu_2 rfl ml_RX11_433 yv_X11_isCpu (by decide) (rn_X11_isCpu hb) ⟨by omega, rfl⟩ rfl rfl (Nat.le_of_ble_eq_true rfl) (Nat.le_refl _) (q_ifb_ne (pc' := 8) (pt := 10) dX11_cpu_5 rfl rfl (fun _ => (q_iload_n (pc' := 11) dX11_cpu_10 rfl rfl (q_tabIn (pc' := 78) dX11_cpu_11 (by decide) (by decide) rfl rfl (q_aload_n (pc' := 79) dX11_cpu_78 rfl rfl (q_getR (pc' := 82) dX11_cpu_79 rfl fr_RX11_51 ⟨by omega, rfl⟩ rfl (wM_36 hM) (by decide) (q_sipush (pc' := 85) _ dX11_cpu_82 rfl kk_sipush_1554 (q_iload_n (pc' := 86) dX11_cpu_85 rfl rfl (q_iadd (pc' := 87) dX11_cpu_86 rfl (q_ialde (pc' := 88) (1554 + p) dX11_cpu_87 rfl (by first | exact ⟨by omega, rfl⟩ | exact okaS hi hz (by decide) rfl | assumption) (by (first | (simp only [nI_add, pk_mul]; done) | (simp only [nI_add, pk_mul]; exact nI_e (by omega)) | exact nI_e (by omega))) (by omega) ((hR _ (by omega)).trans (cE_on (by omega))) (q_iret dX11_cpu_88 rfl hQ)))))))))) (fun h9 => Bool.noConfusion (Eq.trans (Eq.symm (hin)) h9)))))
  · exact q_aload_n (pc' := 1) dX11_cpu_0 rfl rfl (q_iload_n (pc' := 2) dX11_cpu_1 rfl rfl (q_cVi (pc' := 5) dX11_cpu_2 rfl ml_RX11_433 yv_X11_isCpu (by decide) (rn_X11_isCpu hb) ⟨by omega, rfl⟩ rfl rfl (Nat.le_of_ble_eq_true rfl) (Nat.le_refl _) (q_ifb_ne (pc' := 8) (pt := 10) dX11_cpu_5 rfl rfl (fun _ => (q_iload_n (pc' := 11) dX11_cpu_10 rfl rfl (q_tabIn (pc' := 89) dX11_cpu_11 (by decide) (by decide) rfl rfl (q_aload_n (pc' := 90) dX11_cpu_89 rfl rfl (q_iload_n (pc' := 91) dX11_cpu_90 rfl rfl (q_cVi (pc' := 94) dX11_cpu_91 rfl ml_RX11_463 yv_X11_greatestBlock (by decide) (rn_X11_greatestBlock hM hb hk hR hA (by omega)) ⟨by omega, rfl⟩ rfl rfl (Nat.le_of_ble_eq_true rfl) (Nat.le_refl _) (q_iret dX11_cpu_94 rfl hQ))))))) (fun h9 => Bool.noConfusion (Eq.trans (Eq.symm (hin)) h9)))))
  · exact q_aload_n (pc' := 1) dX11_cpu_0 rfl rfl (q_iload_n (pc' := 2) dX11_cpu_1 rfl rfl (q_cVi (pc' := 5) dX11_cpu_2 rfl ml_RX11_433 yv_X11_isCpu (by decide) (rn_X11_isCpu hb) ⟨by omega, rfl⟩ rfl rfl (Nat.le_of_ble_eq_true rfl) (Nat.le_refl _) (q_ifb_ne (pc' := 8) (pt := 10) dX11_cpu_5 rfl rfl (fun _ => (q_iload_n (pc' := 11) dX11_cpu_10 rfl rfl (q_tabIn (pc' := 95) dX11_cpu_11 (by decide) (by decide) rfl rfl (q_aload_n (pc' := 96) dX11_cpu_95 rfl rfl (q_getR (pc' := 99) dX11_cpu_96 rfl fr_RX11_51 ⟨by omega, rfl⟩ rfl (wM_36 hM) (by decide) (q_sipush (pc' := 102) _ dX11_cpu_99 rfl kk_sipush_1562 (q_iload_n (pc' := 103) dX11_cpu_102 rfl rfl (q_iadd (pc' := 104) dX11_cpu_103 rfl (q_ialde (pc' := 105) (1562 + p) dX11_cpu_104 rfl (by first | exact ⟨by omega, rfl⟩ | exact okaS hi hz (by decide) rfl | assumption) (by (first | (simp only [nI_add, pk_mul]; done) | (simp only [nI_add, pk_mul]; exact nI_e (by omega)) | exact nI_e (by omega))) (by omega) ((hR _ (by omega)).trans (cE_ha (by omega))) (q_iret dX11_cpu_105 rfl hQ)))))))))) (fun h9 => Bool.noConfusion (Eq.trans (Eq.symm (hin)) h9)))))
theorem inN_out {x : Int32} {m : Nat} (hm : m + 1 < 2 ^ 30) (h : inN x (m + 1) = false) : x.toInt < 0 ∨ (m : Int) < x.toInt := by
  by_cases h1 : x.toInt < 0
  · exact Or.inl h1
  · refine Or.inr (Int.not_le.mp (fun h2 => ?_))
    rw [← inN_e, decide_eq_false_iff_not, Int32.le_iff_toInt_le, Int32.le_iff_toInt_le, nI_toInt (by omega), nI_toInt (by omega)] at h
    exact h ⟨by omega, h2⟩
theorem rn_X11_cpu0 {x y : Int32} (hb : mB I b) (hx : (inN x (b 0 0) && inN y 7) = false) : Rn w l yX11_cpu dd_X11_cpu [.ref 452, .int x, .int y] (472, I, J, R) (some (.int (-1))) (472, I, J, R) := by
  refine rn_intro2 (L := [some (.ref 452), some (.int x), some (.int y)]) ⟨by decide, rfl, (fun h => by cases h)⟩ (Nat.le_refl _) (Nat.le_of_ble_eq_true rfl) rfl (fun Y Q hQ => ?_)
  refine q_aload_n (pc' := 1) dX11_cpu_0 rfl rfl (q_iload_n (pc' := 2) dX11_cpu_1 rfl rfl (q_cVi (pc' := 5) dX11_cpu_2 rfl ml_RX11_433 yv_X11_isCpu (by decide) (rn_X11_isCpu hb) ⟨by omega, rfl⟩ rfl rfl (Nat.le_of_ble_eq_true rfl) (Nat.le_refl _) (q_ifb_ne (pc' := 8) (pt := 10) dX11_cpu_5 rfl rfl (fun h1 => ?_) (fun h1 => ?_))))
  · have h2 : inN y 7 = false := by rw [show inN x (b 0 0) = true from h1] at hx; exact hx
    exact q_iload_n (pc' := 11) dX11_cpu_10 rfl rfl (q_tabOut (pc' := 106) dX11_cpu_11 (inN_out (m := 6) (by decide) h2) rfl (q_iconst (pc' := 107) _ dX11_cpu_106 rfl kk_iconst_m1 (q_iret dX11_cpu_107 rfl hQ)))
  · exact q_iconst (pc' := 9) _ dX11_cpu_8 rfl kk_iconst_m1 (q_iret dX11_cpu_9 rfl hQ)
/-- vector(CPU, VECTOR, j), the place being k -/
def qVec (A : St) (k : Nat) : Nat → Int32
  | 0 => nI (A 0 k)
  | 1 => eD (A 1 k)
  | 2 => eL (A 1 k)
  | _ => nI (A 2 k)
theorem rn_X11_vector {p v j : Nat} (hM : mj_wM R) (hb : mB I b) (hk : bOK b) (hR : rR (I 464) A) (hp : p < b 0 0) (hv : v < b 0 1) (hj : j < 4) : Rn w l yX11_vector dd_X11_vector [.ref 452, .int (nI p), .int (nI v), .int (nI j)] (472, I, J, R) (some (.int (qVec A (32 * p + v) j))) (472, I, J, R) := by
  have h8 := hk.1.2
  have h9 := hk.2.1
  have e : cE A (256 * j + (32 * p + v)) = qVec A (32 * p + v) j := by
    have hc : j = 0 ∨ j = 1 ∨ j = 2 ∨ j = 3 := by omega
    rcases hc with rfl | rfl | rfl | rfl
    · rw [show 256 * 0 + (32 * p + v) = 32 * p + v by omega]; exact cE_vs (by omega)
    · exact cE_d (by omega)
    · exact cE_l (by omega)
    · exact cE_pd (by omega)
  refine rn_intro2 (L := [some (.ref 452), some (.int (nI p)), some (.int (nI v)), some (.int (nI j))]) ⟨by decide, rfl, (fun h => by cases h)⟩ (Nat.le_refl _) (Nat.le_of_ble_eq_true rfl) rfl (fun Y Q hQ => ?_)
  refine q_aload_n (pc' := 1) dX11_vector_0 rfl rfl (q_iload_n (pc' := 2) dX11_vector_1 rfl rfl (q_cVi (pc' := 5) dX11_vector_2 rfl ml_RX11_433 yv_X11_isCpu (by decide) (rn_X11_isCpu hb) ⟨by omega, rfl⟩ rfl rfl (Nat.le_of_ble_eq_true rfl) (Nat.le_refl _) (q_ifb_eq (pc' := 8) (pt := 31) dX11_vector_5 rfl rfl (fun h9 => Bool.noConfusion (Eq.trans (Eq.symm (inN_t (by omega) hp)) h9)) (fun _ => (q_iload_n (pc' := 9) dX11_vector_8 rfl rfl (q_iconst (pc' := 10) _ dX11_vector_9 rfl kk_iconst_0 (q_aload_n (pc' := 11) dX11_vector_10 rfl rfl (q_getIe (pc' := 14) dX11_vector_11 rfl fr_RX11_243 ⟨by omega, rfl⟩ rfl (mB_1 hb) (q_iconst (pc' := 15) _ dX11_vector_14 rfl kk_iconst_1 (q_isub (pc' := 16) dX11_vector_15 rfl (q_cSi (pc' := 19) dX11_vector_16 rfl ml_RX11_89 ys_X11_isIn (by decide) (rn_isInS) rfl rfl (Nat.le_of_ble_eq_true rfl) (Nat.le_refl _) (q_ifb_eq (pc' := 22) (pt := 31) dX11_vector_19 rfl rfl (fun h9 => Bool.noConfusion (Eq.trans (Eq.symm (inN_t (by omega) hv)) h9)) (fun _ => (q_iload_n (pc' := 23) dX11_vector_22 rfl rfl (q_iconst (pc' := 24) _ dX11_vector_23 rfl kk_iconst_0 ?_)))))))))))))))
  exact q_iconst (pc' := 25) _ dX11_vector_24 rfl kk_iconst_3 (q_cSi (pc' := 28) dX11_vector_25 rfl ml_RX11_89 ys_X11_isIn (by decide) (rn_isInN 3) rfl rfl (Nat.le_of_ble_eq_true rfl) (Nat.le_refl _) (q_ifb_ne (pc' := 31) (pt := 33) dX11_vector_28 rfl rfl (fun _ => (q_aload_n (pc' := 34) dX11_vector_33 rfl rfl (q_getR (pc' := 37) dX11_vector_34 rfl fr_RX11_51 ⟨by omega, rfl⟩ rfl (wM_36 hM) (by decide) (q_sipush (pc' := 40) _ dX11_vector_37 rfl kk_sipush_256 (q_iload_n (pc' := 41) dX11_vector_40 rfl rfl (q_imul (pc' := 42) dX11_vector_41 rfl (q_iload_n (pc' := 43) dX11_vector_42 rfl rfl (q_iload_n (pc' := 44) dX11_vector_43 rfl rfl (q_cSi (pc' := 47) dX11_vector_44 rfl ml_RX11_286 ys_X11_spot (by decide) (rn_X11_spot) rfl rfl (Nat.le_of_ble_eq_true rfl) (Nat.le_refl _) (q_iadd (pc' := 48) dX11_vector_47 rfl (q_ialde (pc' := 49) (256 * j + (32 * p + v)) dX11_vector_48 rfl (by first | exact ⟨by omega, rfl⟩ | exact okaS hi hz (by decide) rfl | assumption) (by (first | (simp only [nI_add, pk_mul]; done) | (simp only [nI_add, pk_mul]; exact nI_e (by omega)) | exact nI_e (by omega))) (by omega) ((hR _ (by omega)).trans e) (q_iret dX11_vector_49 rfl hQ)))))))))))) (fun h9 => Bool.noConfusion (Eq.trans (Eq.symm (inN_t (by decide) hj)) h9))))
theorem rn_X11_vector0 {x y z : Int32} (hb : mB I b) (hx : (inN x (b 0 0) && (inN y (b 0 1) && inN z 4)) = false) : Rn w l yX11_vector dd_X11_vector [.ref 452, .int x, .int y, .int z] (472, I, J, R) (some (.int (-1))) (472, I, J, R) := by
  refine rn_intro2 (L := [some (.ref 452), some (.int x), some (.int y), some (.int z)]) ⟨by decide, rfl, (fun h => by cases h)⟩ (Nat.le_refl _) (Nat.le_of_ble_eq_true rfl) rfl (fun Y Q hQ => ?_)
  refine q_aload_n (pc' := 1) dX11_vector_0 rfl rfl (q_iload_n (pc' := 2) dX11_vector_1 rfl rfl (q_cVi (pc' := 5) dX11_vector_2 rfl ml_RX11_433 yv_X11_isCpu (by decide) (rn_X11_isCpu hb) ⟨by omega, rfl⟩ rfl rfl (Nat.le_of_ble_eq_true rfl) (Nat.le_refl _) (q_ifb_eq (pc' := 8) (pt := 31) dX11_vector_5 rfl rfl (fun h1 => ?_) (fun h1 => ?_))))
  · exact q_iconst (pc' := 32) _ dX11_vector_31 rfl kk_iconst_m1 (q_iret dX11_vector_32 rfl hQ)
  · rw [show inN x (b 0 0) = true from h1, Bool.true_and] at hx
    refine q_iload_n (pc' := 9) dX11_vector_8 rfl rfl (q_iconst (pc' := 10) _ dX11_vector_9 rfl kk_iconst_0 (q_aload_n (pc' := 11) dX11_vector_10 rfl rfl (q_getIe (pc' := 14) dX11_vector_11 rfl fr_RX11_243 ⟨by omega, rfl⟩ rfl (mB_1 hb) (q_iconst (pc' := 15) _ dX11_vector_14 rfl kk_iconst_1 (q_isub (pc' := 16) dX11_vector_15 rfl (q_cSi (pc' := 19) dX11_vector_16 rfl ml_RX11_89 ys_X11_isIn (by decide) (rn_isInS) rfl rfl (Nat.le_of_ble_eq_true rfl) (Nat.le_refl _) (q_ifb_eq (pc' := 22) (pt := 31) dX11_vector_19 rfl rfl (fun h2 => ?_) (fun h2 => ?_))))))))
    · exact q_iconst (pc' := 32) _ dX11_vector_31 rfl kk_iconst_m1 (q_iret dX11_vector_32 rfl hQ)
    · rw [show inN y (b 0 1) = true from h2, Bool.true_and] at hx
      exact q_iload_n (pc' := 23) dX11_vector_22 rfl rfl (q_iconst (pc' := 24) _ dX11_vector_23 rfl kk_iconst_0 (q_iconst (pc' := 25) _ dX11_vector_24 rfl kk_iconst_3 (q_cSi (pc' := 28) dX11_vector_25 rfl ml_RX11_89 ys_X11_isIn (by decide) (rn_isInN 3) rfl rfl (Nat.le_of_ble_eq_true rfl) (Nat.le_refl _) (q_ifb_ne (pc' := 31) (pt := 33) dX11_vector_28 rfl rfl (fun h9 => Bool.noConfusion (Eq.trans (Eq.symm (hx)) h9)) (fun _ => (q_iconst (pc' := 32) _ dX11_vector_31 rfl kk_iconst_m1 (q_iret dX11_vector_32 rfl hQ)))))))
/-- device(d, j) -/
def qDev (b A : St) (d : Nat) : Nat → Nat
  | 0 => b 1 d
  | 1 => b 2 d
  | 2 => b 3 d
  | 3 => A 7 d
  | 4 => A 8 d
  | 5 => A 10 d
  | 6 => A 11 d
  | _ => A 12 d
theorem rn_X11_device {d j : Nat} (hM : mj_wM R) (hb : mB I b) (hk : bOK b) (hR : rR (I 464) A) (hd : d < b 0 2) (hj : j < 8) : Rn w l yX11_device dd_X11_device [.ref 452, .int (nI d), .int (nI j)] (472, I, J, R) (some (.int (nI (qDev b A d j)))) (472, I, J, R) := by
  have h10 := hk.2.2.1
  have hbd := hb.2.2.2 d hd
  refine rn_intro2 (L := [some (.ref 452), some (.int (nI d)), some (.int (nI j))]) ⟨by decide, rfl, (fun h => by cases h)⟩ (Nat.le_refl _) (Nat.le_of_ble_eq_true rfl) rfl (fun Y Q hQ => ?_)
  refine q_aload_n (pc' := 1) dX11_device_0 rfl rfl (q_iload_n (pc' := 2) dX11_device_1 rfl rfl (q_cVi (pc' := 5) dX11_device_2 rfl ml_RX11_280 yv_X11_isDevice (by decide) (rn_X11_isDevice hb) ⟨by omega, rfl⟩ rfl rfl (Nat.le_of_ble_eq_true rfl) (Nat.le_refl _) (q_ifb_eq (pc' := 8) (pt := 18) dX11_device_5 rfl rfl (fun h9 => Bool.noConfusion (Eq.trans (Eq.symm (inN_t (by omega) hd)) h9)) (fun _ => (q_iload_n (pc' := 9) dX11_device_8 rfl rfl (q_iconst (pc' := 10) _ dX11_device_9 rfl kk_iconst_0 (q_bipush (pc' := 12) _ dX11_device_10 rfl kk_bipush_7 (q_cSi (pc' := 15) dX11_device_12 rfl ml_RX11_89 ys_X11_isIn (by decide) (rn_isInN 7) rfl rfl (Nat.le_of_ble_eq_true rfl) (Nat.le_refl _) (q_ifb_ne (pc' := 18) (pt := 20) dX11_device_15 rfl rfl (fun _ => ?_) (fun h9 => Bool.noConfusion (Eq.trans (Eq.symm (inN_t (by decide) hj)) h9)))))))))))
  by_cases j0 : j = 0
  · subst j0
    exact q_iload_n (pc' := 21) dX11_device_20 rfl rfl (q_if_ne (pc' := 24) (pt := 33) dX11_device_21 rfl rfl (fun h9 => absurd (by decide) h9) (fun _ => (q_aload_n (pc' := 25) dX11_device_24 rfl rfl (q_getR (pc' := 28) dX11_device_25 rfl fr_RX11_29 ⟨by omega, rfl⟩ rfl (wM_29 hM) (by decide) (q_iload_n (pc' := 29) dX11_device_28 rfl rfl (q_ialde (pc' := 30) _ dX11_device_29 rfl (by first | exact ⟨by omega, rfl⟩ | exact okaS hi hz (by decide) rfl | assumption) rfl (by omega) hbd.1 (q_goto (pc' := 78) dX11_device_30 rfl (q_iret dX11_device_78 rfl hQ))))))))
  by_cases j1 : j = 1
  · subst j1
    exact q_iload_n (pc' := 21) dX11_device_20 rfl rfl (q_if_ne (pc' := 24) (pt := 33) dX11_device_21 rfl rfl (fun _ => (q_iload_n (pc' := 34) dX11_device_33 rfl rfl (q_iconst (pc' := 35) _ dX11_device_34 rfl kk_iconst_1 (q_icmp_ne (pc' := 38) (pt := 47) dX11_device_35 rfl rfl (fun h9 => absurd (by decide) h9) (fun _ => (q_aload_n (pc' := 39) dX11_device_38 rfl rfl (q_getR (pc' := 42) dX11_device_39 rfl fr_RX11_32 ⟨by omega, rfl⟩ rfl (wM_30 hM) (by decide) (q_iload_n (pc' := 43) dX11_device_42 rfl rfl (q_ialde (pc' := 44) _ dX11_device_43 rfl (by first | exact ⟨by omega, rfl⟩ | exact okaS hi hz (by decide) rfl | assumption) rfl (by omega) hbd.2.1 (q_goto (pc' := 78) dX11_device_44 rfl (q_iret dX11_device_78 rfl hQ))))))))))) (fun h9 => absurd h9 (by decide)))
  by_cases j2 : j = 2
  · subst j2
    exact q_iload_n (pc' := 21) dX11_device_20 rfl rfl (q_if_ne (pc' := 24) (pt := 33) dX11_device_21 rfl rfl (fun _ => (q_iload_n (pc' := 34) dX11_device_33 rfl rfl (q_iconst (pc' := 35) _ dX11_device_34 rfl kk_iconst_1 (q_icmp_ne (pc' := 38) (pt := 47) dX11_device_35 rfl rfl (fun _ => (q_iload_n (pc' := 48) dX11_device_47 rfl rfl (q_iconst (pc' := 49) _ dX11_device_48 rfl kk_iconst_2 (q_icmp_ne (pc' := 52) (pt := 61) dX11_device_49 rfl rfl (fun h9 => absurd (by decide) h9) (fun _ => (q_aload_n (pc' := 53) dX11_device_52 rfl rfl (q_getR (pc' := 56) dX11_device_53 rfl fr_RX11_35 ⟨by omega, rfl⟩ rfl (wM_31 hM) (by decide) (q_iload_n (pc' := 57) dX11_device_56 rfl rfl (q_ialde (pc' := 58) _ dX11_device_57 rfl (by first | exact ⟨by omega, rfl⟩ | exact okaS hi hz (by decide) rfl | assumption) rfl (by omega) hbd.2.2 (q_goto (pc' := 78) dX11_device_58 rfl (q_iret dX11_device_78 rfl hQ))))))))))) (fun h9 => absurd h9 (by decide)))))) (fun h9 => absurd h9 (by decide)))
  have e : cE A (1504 + 10 * (j - 3) + d) = nI (qDev b A d j) := by
    have hc : j = 3 ∨ j = 4 ∨ j = 5 ∨ j = 6 ∨ j = 7 := by omega
    rcases hc with rfl | rfl | rfl | rfl | rfl
    · exact cE_st (by omega)
    · exact cE_pr (by omega)
    · exact cE_de (by omega)
    · exact cE_me (by omega)
    · exact cE_dp (by omega)
  have e3 : nI j - nI 3 = nI (j - 3) := by
    have : j = (j - 3) + 3 := by omega
    rw [this, ← nI_add, Int32.add_sub_cancel]; rfl
  refine q_iload_n (pc' := 21) dX11_device_20 rfl rfl (q_if_ne (pc' := 24) (pt := 33) dX11_device_21 rfl rfl (fun _ => (q_iload_n (pc' := 34) dX11_device_33 rfl rfl (q_iconst (pc' := 35) _ dX11_device_34 rfl kk_iconst_1 (q_icmp_ne (pc' := 38) (pt := 47) dX11_device_35 rfl rfl (fun _ => (q_iload_n (pc' := 48) dX11_device_47 rfl rfl (q_iconst (pc' := 49) _ dX11_device_48 rfl kk_iconst_2 (q_icmp_ne (pc' := 52) (pt := 61) dX11_device_49 rfl rfl (fun _ => (q_aload_n (pc' := 62) dX11_device_61 rfl rfl (q_getR (pc' := 65) dX11_device_62 rfl fr_RX11_51 ⟨by omega, rfl⟩ rfl (wM_36 hM) (by decide) (q_sipush (pc' := 68) _ dX11_device_65 rfl kk_sipush_1504 (q_bipush (pc' := 70) _ dX11_device_68 rfl kk_bipush_10 (q_iload_n (pc' := 71) dX11_device_70 rfl rfl (q_iconst (pc' := 72) _ dX11_device_71 rfl kk_iconst_3 ?_))))))) (fun h9 => absurd h9 (nI_ne j2 (by omega) (by omega))))))) (fun h9 => absurd h9 (nI_ne j1 (by omega) (by omega))))))) (fun h9 => absurd h9 (nI_ne (b := 0) j0 (by omega) (by omega))))
  exact q_isub (pc' := 73) dX11_device_72 rfl (q_imul (pc' := 74) dX11_device_73 rfl (q_iadd (pc' := 75) dX11_device_74 rfl (q_iload_n (pc' := 76) dX11_device_75 rfl rfl (q_iadd (pc' := 77) dX11_device_76 rfl (q_ialde (pc' := 78) (1504 + 10 * (j - 3) + d) dX11_device_77 rfl (by first | exact ⟨by omega, rfl⟩ | exact okaS hi hz (by decide) rfl | assumption) (by rw [e3]; (first | (simp only [nI_add, pk_mul]; done) | (simp only [nI_add, pk_mul]; exact nI_e (by omega)) | exact nI_e (by omega))) (by omega) ((hR _ (by omega)).trans e) (q_iret dX11_device_78 rfl hQ))))))
theorem rn_X11_device0 {x y : Int32} (hb : mB I b) (hx : (inN x (b 0 2) && inN y 8) = false) : Rn w l yX11_device dd_X11_device [.ref 452, .int x, .int y] (472, I, J, R) (some (.int (-1))) (472, I, J, R) := by
  refine rn_intro2 (L := [some (.ref 452), some (.int x), some (.int y)]) ⟨by decide, rfl, (fun h => by cases h)⟩ (Nat.le_refl _) (Nat.le_of_ble_eq_true rfl) rfl (fun Y Q hQ => ?_)
  refine q_aload_n (pc' := 1) dX11_device_0 rfl rfl (q_iload_n (pc' := 2) dX11_device_1 rfl rfl (q_cVi (pc' := 5) dX11_device_2 rfl ml_RX11_280 yv_X11_isDevice (by decide) (rn_X11_isDevice hb) ⟨by omega, rfl⟩ rfl rfl (Nat.le_of_ble_eq_true rfl) (Nat.le_refl _) (q_ifb_eq (pc' := 8) (pt := 18) dX11_device_5 rfl rfl (fun h1 => ?_) (fun h1 => ?_))))
  · exact q_iconst (pc' := 19) _ dX11_device_18 rfl kk_iconst_m1 (q_iret dX11_device_19 rfl hQ)
  · rw [show inN x (b 0 2) = true from h1, Bool.true_and] at hx
    exact q_iload_n (pc' := 9) dX11_device_8 rfl rfl (q_iconst (pc' := 10) _ dX11_device_9 rfl kk_iconst_0 (q_bipush (pc' := 12) _ dX11_device_10 rfl kk_bipush_7 (q_cSi (pc' := 15) dX11_device_12 rfl ml_RX11_89 ys_X11_isIn (by decide) (rn_isInN 7) rfl rfl (Nat.le_of_ble_eq_true rfl) (Nat.le_refl _) (q_ifb_ne (pc' := 18) (pt := 20) dX11_device_15 rfl rfl (fun h9 => Bool.noConfusion (Eq.trans (Eq.symm (hx)) h9)) (fun _ => (q_iconst (pc' := 19) _ dX11_device_18 rfl kk_iconst_m1 (q_iret dX11_device_19 rfl hQ)))))))
/-- line(DEVICE, LINE, j) -/
def qLin (A : St) (k : Nat) : Nat → Int32
  | 0 => eC (A 3 k)
  | 1 => eV (A 3 k)
  | 2 => eC (A 4 k)
  | 3 => eV (A 4 k)
  | 4 => nI (A 5 k)
  | _ => nI (A 6 k)
theorem rn_X11_line {d k j : Nat} (hM : mj_wM R) (hb : mB I b) (hk : bOK b) (hR : rR (I 464) A) (hA : aOK A) (hd : d < b 0 2) (hs : A 7 d = 1) (hl : k < b 2 d) (hj : j < 6) : Rn w l yX11_line_ dd_X11_line_ [.ref 452, .int (nI d), .int (nI k), .int (nI j)] (472, I, J, R) (some (.int (qLin A (8 * d + k) j))) (472, I, J, R) := by
  have h10 := hk.2.2.1
  have h11 := hk.2.2.2 d hd
  have hin := inN_t (m := b 2 d) (by omega) hl
  have e : cE A (1024 + 80 * j + (8 * d + k)) = qLin A (8 * d + k) j := by
    have hc : j = 0 ∨ j = 1 ∨ j = 2 ∨ j = 3 ∨ j = 4 ∨ j = 5 := by omega
    rcases hc with rfl | rfl | rfl | rfl | rfl | rfl
    · exact cE_hc (by omega)
    · exact cE_hv (by omega)
    · exact cE_oc (by omega)
    · exact cE_ov (by omega)
    · exact cE_dr (by omega)
    · exact cE_wa (by omega)
  refine rn_intro2 (L := [some (.ref 452), some (.int (nI d)), some (.int (nI k)), some (.int (nI j))]) ⟨by decide, rfl, (fun h => by cases h)⟩ (Nat.le_refl _) (Nat.le_of_ble_eq_true rfl) rfl (fun Y Q hQ => ?_)
  refine q_aload_n (pc' := 1) dX11_line__0 rfl rfl (q_iload_n (pc' := 2) dX11_line__1 rfl rfl (q_iload_n (pc' := 3) dX11_line__2 rfl rfl (q_cVi (pc' := 6) dX11_line__3 rfl ml_RX11_378 yv_X11_isLine (by decide) (rn_X11_isLine hM hb hk hR hA hd) ⟨by omega, rfl⟩ rfl rfl (Nat.le_of_ble_eq_true rfl) (Nat.le_refl _) (q_ifb_eq (pc' := 9) (pt := 40) dX11_line__6 rfl rfl (fun h9 => Bool.noConfusion (Eq.trans (Eq.symm (by rw [hin, hs])) h9)) (fun _ => (q_iload_n (pc' := 10) dX11_line__9 rfl rfl (q_iconst (pc' := 11) _ dX11_line__10 rfl kk_iconst_0 (q_iconst (pc' := 12) _ dX11_line__11 rfl kk_iconst_5 (q_cSi (pc' := 15) dX11_line__12 rfl ml_RX11_89 ys_X11_isIn (by decide) (rn_isInN 5) rfl rfl (Nat.le_of_ble_eq_true rfl) (Nat.le_refl _) (q_ifb_eq (pc' := 18) (pt := 40) dX11_line__15 rfl rfl (fun h9 => Bool.noConfusion (Eq.trans (Eq.symm (inN_t (by decide) hj)) h9)) (fun _ => (q_aload_n (pc' := 19) dX11_line__18 rfl rfl (q_getR (pc' := 22) dX11_line__19 rfl fr_RX11_51 ⟨by omega, rfl⟩ rfl (wM_36 hM) (by decide) (q_sipush (pc' := 25) _ dX11_line__22 rfl kk_sipush_1024 (q_bipush (pc' := 27) _ dX11_line__25 rfl kk_bipush_80 ?_)))))))))))))))
  exact q_iload_n (pc' := 28) dX11_line__27 rfl rfl (q_imul (pc' := 29) dX11_line__28 rfl (q_iadd (pc' := 30) dX11_line__29 rfl (q_iload_n (pc' := 31) dX11_line__30 rfl rfl (q_iload_n (pc' := 32) dX11_line__31 rfl rfl (q_cSi (pc' := 35) dX11_line__32 rfl ml_RX11_308 ys_X11_lineAt (by decide) (rn_X11_lineAt) rfl rfl (Nat.le_of_ble_eq_true rfl) (Nat.le_refl _) (q_iadd (pc' := 36) dX11_line__35 rfl (q_ialde (pc' := 37) (1024 + 80 * j + (8 * d + k)) dX11_line__36 rfl (by first | exact ⟨by omega, rfl⟩ | exact okaS hi hz (by decide) rfl | assumption) (by (first | (simp only [nI_add, pk_mul]; done) | (simp only [nI_add, pk_mul]; exact nI_e (by omega)) | exact nI_e (by omega))) (by omega) ((hR _ (by omega)).trans e) (q_goto (pc' := 41) dX11_line__37 rfl (q_iret dX11_line__41 rfl hQ)))))))))
theorem rn_X11_spread {d q : Nat} (hM : mj_wM R) (hb : mB I b) (hk : bOK b) (hd : d < b 0 2) (hg : b 1 d = 3) (hq : q < b 2 d) : Rn w l yX11_spread dd_X11_spread [.ref 452, .int (nI d), .int (nI q)] (472, I, J, R) (some (.int (nI (aSpread b d q)))) (472, I, J, R) := by
  have h10 := hk.2.2.1
  have h11 := hk.2.2.2 d hd
  have hbd := hb.2.2.2 d hd
  refine rn_intro2 (L := [some (.ref 452), some (.int (nI d)), some (.int (nI q))]) ⟨by decide, rfl, (fun h => by cases h)⟩ (Nat.le_refl _) (Nat.le_of_ble_eq_true rfl) rfl (fun Y Q hQ => ?_)
  refine q_aload_n (pc' := 1) dX11_spread_0 rfl rfl (q_iload_n (pc' := 2) dX11_spread_1 rfl rfl (q_cVi (pc' := 5) dX11_spread_2 rfl ml_RX11_280 yv_X11_isDevice (by decide) (rn_X11_isDevice hb) ⟨by omega, rfl⟩ rfl rfl (Nat.le_of_ble_eq_true rfl) (Nat.le_refl _) (q_ifb_eq (pc' := 8) (pt := 43) dX11_spread_5 rfl rfl (fun h9 => Bool.noConfusion (Eq.trans (Eq.symm (inN_t (by omega) hd)) h9)) (fun _ => (q_aload_n (pc' := 9) dX11_spread_8 rfl rfl (q_getR (pc' := 12) dX11_spread_9 rfl fr_RX11_29 ⟨by omega, rfl⟩ rfl (wM_29 hM) (by decide) (q_iload_n (pc' := 13) dX11_spread_12 rfl rfl (q_ialde (pc' := 14) _ dX11_spread_13 rfl (by first | exact ⟨by omega, rfl⟩ | exact okaS hi hz (by decide) rfl | assumption) rfl (by omega) hbd.1 (q_iconst (pc' := 15) _ dX11_spread_14 rfl kk_iconst_3 (q_icmp_ne (pc' := 18) (pt := 43) dX11_spread_15 rfl rfl (fun h9 => absurd (congrArg nI hg) h9) (fun _ => (q_iload_n (pc' := 19) dX11_spread_18 rfl rfl (q_iconst (pc' := 20) _ dX11_spread_19 rfl kk_iconst_0 (q_aload_n (pc' := 21) dX11_spread_20 rfl rfl (q_getR (pc' := 24) dX11_spread_21 rfl fr_RX11_32 ⟨by omega, rfl⟩ rfl (wM_30 hM) (by decide) ?_)))))))))))))))
  exact q_iload_n (pc' := 25) dX11_spread_24 rfl rfl (q_ialde (pc' := 26) _ dX11_spread_25 rfl (by first | exact ⟨by omega, rfl⟩ | exact okaS hi hz (by decide) rfl | assumption) rfl (by omega) hbd.2.1 (q_iconst (pc' := 27) _ dX11_spread_26 rfl kk_iconst_1 (q_isub (pc' := 28) dX11_spread_27 rfl (q_cSi (pc' := 31) dX11_spread_28 rfl ml_RX11_89 ys_X11_isIn (by decide) (rn_isInS) rfl rfl (Nat.le_of_ble_eq_true rfl) (Nat.le_refl _) (q_ifb_eq (pc' := 34) (pt := 43) dX11_spread_31 rfl rfl (fun h9 => Bool.noConfusion (Eq.trans (Eq.symm (inN_t (by omega) hq)) h9)) (fun _ => (q_aload_n (pc' := 35) dX11_spread_34 rfl rfl (q_iload_n (pc' := 36) dX11_spread_35 rfl rfl (q_iload_n (pc' := 37) dX11_spread_36 rfl rfl (q_cVi (pc' := 40) dX11_spread_37 rfl ml_RX11_324 yv_X11_spreadOf (by decide) (rn_X11_spreadOf hM hb hk hd (by omega)) ⟨by omega, rfl⟩ rfl rfl (Nat.le_of_ble_eq_true rfl) (Nat.le_refl _) (q_goto (pc' := 44) dX11_spread_40 rfl (q_iret dX11_spread_44 rfl hQ))))))))))))
theorem rn_X11_spread0 {x y : Int32} (hM : mj_wM R) (hb : mB I b) (hk : bOK b) (hx : ∀ d, d < b 0 2 → x = nI d → b 1 d = 3 → inN y (b 2 d) = false) : Rn w l yX11_spread dd_X11_spread [.ref 452, .int x, .int y] (472, I, J, R) (some (.int (nI 0))) (472, I, J, R) := by
  have h10 := hk.2.2.1
  refine rn_intro2 (L := [some (.ref 452), some (.int x), some (.int y)]) ⟨by decide, rfl, (fun h => by cases h)⟩ (Nat.le_refl _) (Nat.le_of_ble_eq_true rfl) rfl (fun Y Q hQ => ?_)
  refine q_aload_n (pc' := 1) dX11_spread_0 rfl rfl (q_iload_n (pc' := 2) dX11_spread_1 rfl rfl (q_cVi (pc' := 5) dX11_spread_2 rfl ml_RX11_280 yv_X11_isDevice (by decide) (rn_X11_isDevice hb) ⟨by omega, rfl⟩ rfl rfl (Nat.le_of_ble_eq_true rfl) (Nat.le_refl _) (q_ifb_eq (pc' := 8) (pt := 43) dX11_spread_5 rfl rfl (fun h1 => ?_) (fun h1 => ?_))))
  · exact q_iconst (pc' := 44) _ dX11_spread_43 rfl kk_iconst_0 (q_iret dX11_spread_44 rfl hQ)
  · obtain ⟨d, hd, rfl⟩ := (inN_iff (by omega)).mp h1
    have h11 := hk.2.2.2 d hd
    have hbd := hb.2.2.2 d hd
    by_cases hg : b 1 d = 3
    · refine q_aload_n (pc' := 9) dX11_spread_8 rfl rfl (q_getR (pc' := 12) dX11_spread_9 rfl fr_RX11_29 ⟨by omega, rfl⟩ rfl (wM_29 hM) (by decide) (q_iload_n (pc' := 13) dX11_spread_12 rfl rfl (q_ialde (pc' := 14) _ dX11_spread_13 rfl (by first | exact ⟨by omega, rfl⟩ | exact okaS hi hz (by decide) rfl | assumption) rfl (by omega) hbd.1 (q_iconst (pc' := 15) _ dX11_spread_14 rfl kk_iconst_3 (q_icmp_ne (pc' := 18) (pt := 43) dX11_spread_15 rfl rfl (fun h9 => absurd (congrArg nI hg) h9) (fun _ => (q_iload_n (pc' := 19) dX11_spread_18 rfl rfl (q_iconst (pc' := 20) _ dX11_spread_19 rfl kk_iconst_0 (q_aload_n (pc' := 21) dX11_spread_20 rfl rfl (q_getR (pc' := 24) dX11_spread_21 rfl fr_RX11_32 ⟨by omega, rfl⟩ rfl (wM_30 hM) (by decide) (q_iload_n (pc' := 25) dX11_spread_24 rfl rfl (q_ialde (pc' := 26) _ dX11_spread_25 rfl (by first | exact ⟨by omega, rfl⟩ | exact okaS hi hz (by decide) rfl | assumption) rfl (by omega) hbd.2.1 (q_iconst (pc' := 27) _ dX11_spread_26 rfl kk_iconst_1 (q_isub (pc' := 28) dX11_spread_27 rfl ?_))))))))))))))
      exact q_cSi (pc' := 31) dX11_spread_28 rfl ml_RX11_89 ys_X11_isIn (by decide) (rn_isInS) rfl rfl (Nat.le_of_ble_eq_true rfl) (Nat.le_refl _) (q_ifb_eq (pc' := 34) (pt := 43) dX11_spread_31 rfl rfl (fun _ => (q_iconst (pc' := 44) _ dX11_spread_43 rfl kk_iconst_0 (q_iret dX11_spread_44 rfl hQ))) (fun h9 => Bool.noConfusion (Eq.trans (Eq.symm (hx d hd rfl hg)) h9)))
    · exact q_aload_n (pc' := 9) dX11_spread_8 rfl rfl (q_getR (pc' := 12) dX11_spread_9 rfl fr_RX11_29 ⟨by omega, rfl⟩ rfl (wM_29 hM) (by decide) (q_iload_n (pc' := 13) dX11_spread_12 rfl rfl (q_ialde (pc' := 14) _ dX11_spread_13 rfl (by first | exact ⟨by omega, rfl⟩ | exact okaS hi hz (by decide) rfl | assumption) rfl (by omega) hbd.1 (q_iconst (pc' := 15) _ dX11_spread_14 rfl kk_iconst_3 (q_icmp_ne (pc' := 18) (pt := 43) dX11_spread_15 rfl rfl (fun _ => (q_iconst (pc' := 44) _ dX11_spread_43 rfl kk_iconst_0 (q_iret dX11_spread_44 rfl hQ))) (fun h9 => absurd h9 (nI_ne hg (by omega) (by omega))))))))
theorem rn_X11_law : Rn w l yX11_law dd_X11_law [.ref 452] (472, I, J, R) (some (.int (nI 0))) (472, I, J, R) := by
  refine rn_intro2 (L := [some (.ref 452)]) ⟨by decide, rfl, (fun h => by cases h)⟩ (Nat.le_refl _) (Nat.le_of_ble_eq_true rfl) rfl (fun Y Q hQ => ?_)
  exact q_iconst (pc' := 1) _ dX11_law_0 rfl kk_iconst_0 (q_iret dX11_law_1 rfl hQ)
end M17
