/-! ===== the reference: MOVE, what UNPLUG brings away ===== -/
def aOldL (b A : St) (id p : Nat) : St := if A 4 id ≠ 0 ∧ (A 4 id - 1) / 32 = p then (if A 2 (A 4 id - 1) = 1 then aPends (aNoOld (aLeaves b A id (A 4 id - 1)) id) (id / 8) (A 3 id - 1) else aNoOld (aLeaves b A id (A 4 id - 1)) id) else A
def aBr1 (b : St) (d p to : Nat) : Nat → St → St := fun k A => mj_up (aHolds (aLeaves b A (8 * d + k) (32 * p + (A 3 (8 * d + k) - 1) % 32)) (8 * d + k) (to + k)) 2 (to + k) (A 2 (32 * p + (A 3 (8 * d + k) - 1) % 32))
def aBrTo (b A : St) (d : Nat) : Option Nat := match aDealt b A (b 2 d) (b 3 d) with
  | some p => some p
  | none => aDealt b A (b 2 d) (2 ^ b 0 0 - 1)
def aBro (b A : St) (d p : Nat) : Option St := (aBrTo b A d).map (fun to => itN (aBr1 b d p (32 * to + b 2 d * (aBlk b A to (b 2 d)).getD 0)) (b 2 d) A)
theorem aBrTo_lt {b A : St} {d p : Nat} (hk : bOK b) (hd : d < b 0 2) (h : aBrTo b A d = some p) : p < b 0 0 ∧ ∃ i, aBlk b A p (b 2 d) = some i ∧ b 2 d * i + b 2 d ≤ b 0 1 := by
  have hs := hk.2.2.2 d hd
  have key : ∀ set, aDealt b A (b 2 d) set = some p → p < b 0 0 ∧ ∃ i, aBlk b A p (b 2 d) = some i ∧ b 2 d * i + b 2 d ≤ b 0 1 := by
    intro set h1
    have h2 := lstN_lt h1
    refine ⟨h2.1, ?_⟩
    have h9 := h2.2
    unfold aDP at h9
    cases hz : aBlk b A p (b 2 d) with
    | none => rw [hz] at h9; simp at h9
    | some i => exact ⟨i, rfl, (aBlk_lt hs.2.1.1 hz).1⟩
  unfold aBrTo at h
  cases hq : aDealt b A (b 2 d) (b 3 d) with
  | some q => rw [hq] at h; cases h; exact key _ hq
  | none => rw [hq] at h; exact key _ h
theorem aOK_oldL {b A : St} {id p : Nat} (hA : aOK A) (hi : id < 80) : aOK (aOldL b A id p) := by
  unfold aOldL
  split
  · split
    · exact aOK_pends (aOK_noOld (aOK_leaves hA hi))
    · exact aOK_noOld (aOK_leaves hA hi)
  · exact hA
theorem aOK_br1 {b A : St} {d p to k : Nat} (hA : aOK A) (hd : d < 10) (hk : k < 8) (hp : p < 8) (ht : to + k < 256) : aOK (aBr1 b d p to k A) := aOK_up (aOK_holds (aOK_leaves hA (by omega)) (by omega) ht) (fun _ => (hA.1 (32 * p + (A 3 (8 * d + k) - 1) % 32) (by omega)).2.2)
section M12
variable {w : mj_Wd} {l : Launch} {I : mj_M} {J : mj_J} {R : mj_R} {b A : St}
theorem rs_X11_movesTo0 {d : Nat} {x y : Int32} (hM : mj_wM R) (hb : mB I b) (hk : bOK b) (hR : rR (I 464) A) (hA : aOK A) (hd : d < b 0 2) (hx : inN x (b 2 d) = false) : Rn w l yX11_movesTo dd_X11_movesTo [.ref 452, .int (nI d), .int x, .int y] (472, I, J, R) (some (.int (nI 4))) (472, I, J, R) := by
  refine rn_intro2 (L := [some (.ref 452), some (.int (nI d)), some (.int x), some (.int y), none, none, none, none]) ⟨by decide, rfl, (fun h => by cases h)⟩ (Nat.le_refl _) (Nat.le_of_ble_eq_true rfl) rfl (fun Y Q hQ => ?_)
  exact q_aload_n (pc' := 1) dX11_movesTo_0 rfl rfl (q_iload_n (pc' := 2) dX11_movesTo_1 rfl rfl (q_iload_n (pc' := 3) dX11_movesTo_2 rfl rfl (q_cVi (pc' := 6) dX11_movesTo_3 rfl ml_RX11_378 yv_X11_isLine (by decide) (rn_X11_isLine hM hb hk hR hA hd) ⟨by omega, rfl⟩ rfl rfl (Nat.le_of_ble_eq_true rfl) (Nat.le_refl _) (q_ifb_eq (pc' := 9) (pt := 27) dX11_movesTo_6 rfl rfl (fun _ => (q_iconst (pc' := 28) _ dX11_movesTo_27 rfl kk_iconst_4 (q_iret dX11_movesTo_28 rfl hQ))) (fun h9 => Bool.noConfusion (Eq.trans (Eq.symm (by rw [hx, Bool.and_false])) h9))))))
theorem rs_X11_movesTo {d k set : Nat} (hM : mj_wM R) (hb : mB I b) (hk : bOK b) (hR : rR (I 464) A) (hA : aOK A) (hd : d < b 0 2) (hl : k < b 2 d) (hN : b 1 d ≠ 3 → A 7 d = 1 → ∀ j, j < b 2 d → A 3 (8 * d + j) ≠ 0)
    (hQr : b 1 d = 3 → A 7 d = 1 → A 3 (8 * d + k) ≠ 0 → A 4 (8 * d + k) = 0 → ∀ p, aLeast b A (aOth b set ((A 3 (8 * d + k) - 1) / 32) &&& aSpread b d k) = some p → ∃ v, aResv b A (8 * d + k) p = some v) : RsI w l yX11_movesTo dd_X11_movesTo [.ref 452, .int (nI d), .int (nI k), .int (nI set)] (472, I, J, R) (fun x I' => x = nI (aMove b A d k set).1 ∧ rR (I' 464) (aMove b A d k set).2 ∧ mF I I') := by
  have h10 : d < 10 := by have := hk.2.2.1; omega
  have hs := hk.2.2.2 d hd
  have hbd := hb.2.2.2 d hd
  have hc8 := hk.1.2
  have hv32 := hk.2.1.2
  have hin : inN (nI k) (b 2 d) = true := (inN_iff (by omega)).mpr ⟨k, hl, rfl⟩
  have h6 := hA.2.1 (8 * d + k) (by omega)
  have e1 : I 464 (1024 + (8 * d + k)) = eC (A 3 (8 * d + k)) := (hR _ (by omega)).trans (cE_hc (by omega))
  have hot := aOth_lt (set := set) (p := (A 3 (8 * d + k) - 1) / 32) hk
  have hsp := aSpread_lt b hk d k
  refine rt_intro2 (L := [some (.ref 452), some (.int (nI d)), some (.int (nI k)), some (.int (nI set)), none, none, none, none]) ⟨by decide, rfl, (fun h => by cases h)⟩ (Nat.le_of_ble_eq_true rfl) rfl (fun Y Q hQ => ?_)
  unfold aMove at hQ
  have no : ¬ (A 7 d = 1 ∧ A 3 (8 * d + k) ≠ 0) → Wq dd_X11_movesTo (mj_mk w l 472 Y) Q 27 [some (.ref 452), some (.int (nI d)), some (.int (nI k)), some (.int (nI set)), none, none, none, none] [] (472, I, J, R) := by
    intro h
    rw [if_neg h] at hQ
    exact q_iconst (pc' := 28) _ dX11_movesTo_27 rfl kk_iconst_4 (q_iret dX11_movesTo_28 rfl (hQ _ _ _ _ ⟨_, rfl, ⟨rfl, rfl⟩, rfl, hR, mF.rf⟩))
  refine q_aload_n (pc' := 1) dX11_movesTo_0 rfl rfl (q_iload_n (pc' := 2) dX11_movesTo_1 rfl rfl (q_iload_n (pc' := 3) dX11_movesTo_2 rfl rfl (q_cVi (pc' := 6) dX11_movesTo_3 rfl ml_RX11_378 yv_X11_isLine (by decide) (rn_X11_isLine hM hb hk hR hA hd) ⟨by omega, rfl⟩ rfl rfl (Nat.le_of_ble_eq_true rfl) (Nat.le_refl _) (q_ifb_eq (pc' := 9) (pt := 27) dX11_movesTo_6 rfl rfl (fun h1 => ?_) (fun h1 => ?_)))))
  · exact no (fun z => by rw [z.1, hin] at h1; cases h1)
  · rw [hin, Bool.and_true, beq_iff_eq] at h1
    by_cases h0 : A 3 (8 * d + k) = 0
    · refine q_aload_n (pc' := 10) dX11_movesTo_9 rfl rfl (q_getR (pc' := 13) dX11_movesTo_10 rfl fr_RX11_51 ⟨by omega, rfl⟩ rfl (wM_36 hM) (by decide) (q_sipush (pc' := 16) _ dX11_movesTo_13 rfl kk_sipush_1024 (q_iload_n (pc' := 17) dX11_movesTo_16 rfl rfl (q_iload_n (pc' := 18) dX11_movesTo_17 rfl rfl (q_cSi (pc' := 21) dX11_movesTo_18 rfl ml_RX11_308 ys_X11_lineAt (by decide) (rn_X11_lineAt) rfl rfl (Nat.le_of_ble_eq_true rfl) (Nat.le_refl _) (q_iadd (pc' := 22) dX11_movesTo_21 rfl (q_ialde (pc' := 23) (1024 + (8 * d + k)) dX11_movesTo_22 rfl (by first | exact ⟨by omega, rfl⟩ | exact okaS hi hz (by decide) rfl | assumption) (by (first | (simp only [nI_add, pk_mul]; done) | (simp only [nI_add, pk_mul]; exact nI_e (by omega)) | exact nI_e (by omega))) (by omega) e1 (q_iconst (pc' := 24) _ dX11_movesTo_23 rfl kk_iconst_m1 (q_icmp_ne (pc' := 27) (pt := 29) dX11_movesTo_24 rfl rfl (fun h9 => absurd ((eC_none h6.1).mpr h0) h9) (fun _ => ?_))))))))))
      exact no (fun z => z.2 h0)
    · rw [if_pos ⟨h1, h0⟩] at hQ
      have e2 := e1.trans (eC_p h0)
      refine q_aload_n (pc' := 10) dX11_movesTo_9 rfl rfl (q_getR (pc' := 13) dX11_movesTo_10 rfl fr_RX11_51 ⟨by omega, rfl⟩ rfl (wM_36 hM) (by decide) (q_sipush (pc' := 16) _ dX11_movesTo_13 rfl kk_sipush_1024 (q_iload_n (pc' := 17) dX11_movesTo_16 rfl rfl (q_iload_n (pc' := 18) dX11_movesTo_17 rfl rfl (q_cSi (pc' := 21) dX11_movesTo_18 rfl ml_RX11_308 ys_X11_lineAt (by decide) (rn_X11_lineAt) rfl rfl (Nat.le_of_ble_eq_true rfl) (Nat.le_refl _) (q_iadd (pc' := 22) dX11_movesTo_21 rfl (q_ialde (pc' := 23) (1024 + (8 * d + k)) dX11_movesTo_22 rfl (by first | exact ⟨by omega, rfl⟩ | exact okaS hi hz (by decide) rfl | assumption) (by (first | (simp only [nI_add, pk_mul]; done) | (simp only [nI_add, pk_mul]; exact nI_e (by omega)) | exact nI_e (by omega))) (by omega) e2 (q_iconst (pc' := 24) _ dX11_movesTo_23 rfl kk_iconst_m1 (q_icmp_ne (pc' := 27) (pt := 29) dX11_movesTo_24 rfl rfl (fun _ => (q_aload_n (pc' := 30) dX11_movesTo_29 rfl rfl (q_iload_n (pc' := 31) dX11_movesTo_30 rfl rfl (q_iload_n (pc' := 32) dX11_movesTo_31 rfl rfl (q_cVi (pc' := 35) dX11_movesTo_32 rfl ml_RX11_381 yv_X11_hasAnyOld (by decide) (rn_X11_hasAnyOld hM hb hk hR hA hd (by omega)) ⟨by omega, rfl⟩ rfl rfl (Nat.le_of_ble_eq_true rfl) (Nat.le_refl _) ?_))))) (fun h9 => absurd h9 (nI_m1 (by omega))))))))))))
      refine q_ifb_eq (pc' := 38) (pt := 40) dX11_movesTo_35 rfl rfl (fun h2 => ?_) (fun h2 => ?_)
      · rw [if_neg (by rw [h2]; decide)] at hQ
        refine q_iload_n (pc' := 41) dX11_movesTo_40 rfl rfl (q_iconst (pc' := 42) _ dX11_movesTo_41 rfl kk_iconst_1 (q_aload_n (pc' := 43) dX11_movesTo_42 rfl rfl (q_getIe (pc' := 46) dX11_movesTo_43 rfl fr_RX11_240 ⟨by omega, rfl⟩ rfl (mB_0 hb) (q_ishl (pc' := 47) dX11_movesTo_46 rfl (q_iconst (pc' := 48) _ dX11_movesTo_47 rfl kk_iconst_1 (q_isub (pc' := 49) dX11_movesTo_48 rfl (q_iand (pc' := 50) dX11_movesTo_49 rfl (q_iconst (pc' := 51) _ dX11_movesTo_50 rfl kk_iconst_1 (q_aload_n (pc' := 52) dX11_movesTo_51 rfl rfl (q_getR (pc' := 55) dX11_movesTo_52 rfl fr_RX11_51 ⟨by omega, rfl⟩ rfl (wM_36 hM) (by decide) (q_sipush (pc' := 58) _ dX11_movesTo_55 rfl kk_sipush_1024 (q_iload_n (pc' := 59) dX11_movesTo_58 rfl rfl (q_iload_n (pc' := 60) dX11_movesTo_59 rfl rfl ?_)))))))))))))
        refine q_cSi (pc' := 63) dX11_movesTo_60 rfl ml_RX11_308 ys_X11_lineAt (by decide) (rn_X11_lineAt) rfl rfl (Nat.le_of_ble_eq_true rfl) (Nat.le_refl _) (q_iadd (pc' := 64) dX11_movesTo_63 rfl (q_ialde (pc' := 65) (1024 + (8 * d + k)) dX11_movesTo_64 rfl (by first | exact ⟨by omega, rfl⟩ | exact okaS hi hz (by decide) rfl | assumption) (by (first | (simp only [nI_add, pk_mul]; done) | (simp only [nI_add, pk_mul]; exact nI_e (by omega)) | exact nI_e (by omega))) (by omega) e2 (q_ishl (pc' := 66) dX11_movesTo_65 rfl (q_iconst (pc' := 67) _ dX11_movesTo_66 rfl kk_iconst_m1 (q_ixor (pc' := 68) dX11_movesTo_67 rfl (q_iand (pc' := 69) dX11_movesTo_68 rfl ?_))))))
        refine q_top (oth_e hk (by omega)) ?_
        by_cases h3 : b 1 d = 3
        · rw [if_pos h3] at hQ
          unfold aMvQ at hQ
          refine q_ist_4 (pc' := 71) dX11_movesTo_69 rfl (by decide) rfl (q_aload_n (pc' := 72) dX11_movesTo_71 rfl rfl (q_getR (pc' := 75) dX11_movesTo_72 rfl fr_RX11_29 ⟨by omega, rfl⟩ rfl (wM_29 hM) (by decide) (q_iload_n (pc' := 76) dX11_movesTo_75 rfl rfl (q_ialde (pc' := 77) _ dX11_movesTo_76 rfl (by first | exact ⟨by omega, rfl⟩ | exact okaS hi hz (by decide) rfl | assumption) rfl (by omega) hbd.1 (q_iconst (pc' := 78) _ dX11_movesTo_77 rfl kk_iconst_3 (q_icmp_ne (pc' := 81) (pt := 122) dX11_movesTo_78 rfl rfl (fun h9 => absurd (nI_e h3) h9) (fun _ => (q_aload_n (pc' := 82) dX11_movesTo_81 rfl rfl (q_iload (pc' := 84) dX11_movesTo_82 rfl rfl (q_aload_n (pc' := 85) dX11_movesTo_84 rfl rfl (q_iload_n (pc' := 86) dX11_movesTo_85 rfl rfl (q_iload_n (pc' := 87) dX11_movesTo_86 rfl rfl (q_cVi (pc' := 90) dX11_movesTo_87 rfl ml_RX11_324 yv_X11_spreadOf (by decide) (rn_X11_spreadOf hM hb hk hd (by omega)) ⟨by omega, rfl⟩ rfl rfl (Nat.le_of_ble_eq_true rfl) (Nat.le_refl _) (q_iand (pc' := 91) dX11_movesTo_90 rfl ?_))))))))))))))
          refine q_top (nI_and _ _) ?_
          have hlt : aOth b set ((A 3 (8 * d + k) - 1) / 32) &&& aSpread b d k < 2 ^ 31 := Nat.lt_of_le_of_lt Nat.and_le_left (by omega)
          refine q_cVi (pc' := 94) dX11_movesTo_91 rfl ml_RX11_327 yv_X11_leastOf (by decide) (rn_X11_leastOf hM hb hk hR hA hlt) ⟨by omega, rfl⟩ rfl rfl (Nat.le_of_ble_eq_true rfl) (Nat.le_refl _) ?_
          cases hq : aLeast b A (aOth b set ((A 3 (8 * d + k) - 1) / 32) &&& aSpread b d k) with
          | none =>
            rw [hq] at hQ
            exact q_ist_5 (pc' := 96) dX11_movesTo_94 rfl (by decide) rfl (q_iload (pc' := 98) dX11_movesTo_96 rfl rfl (q_iconst (pc' := 99) _ dX11_movesTo_98 rfl kk_iconst_m1 (q_icmp_ne (pc' := 102) (pt := 104) dX11_movesTo_99 rfl rfl (fun h9 => absurd (by rfl) h9) (fun _ => (q_iconst (pc' := 103) _ dX11_movesTo_102 rfl kk_iconst_1 (q_iret dX11_movesTo_103 rfl (hQ _ _ _ _ ⟨_, rfl, ⟨rfl, rfl⟩, rfl, hR, mF.rf⟩)))))))
          | some p =>
            have hp := (lstN_lt hq).1
            have h4 : A 4 (8 * d + k) = 0 := Decidable.byContradiction fun q => by
              rw [show aAny b A d k = true from by unfold aAny; rw [bne_iff_ne.mpr q]; exact Bool.true_or _] at h2
              cases h2
            obtain ⟨v, hv⟩ := hQr h3 h1 h0 h4 p hq
            have hv2 := ffi_some hv
            rw [hq, Option.map_some, hv] at hQ
            refine q_ist_5 (pc' := 96) dX11_movesTo_94 rfl (by decide) rfl (q_iload (pc' := 98) dX11_movesTo_96 rfl rfl (q_iconst (pc' := 99) _ dX11_movesTo_98 rfl kk_iconst_m1 (q_icmp_ne (pc' := 102) (pt := 104) dX11_movesTo_99 rfl rfl (fun _ => (q_aload_n (pc' := 105) dX11_movesTo_104 rfl rfl (q_iload_n (pc' := 106) dX11_movesTo_105 rfl rfl (q_iload_n (pc' := 107) dX11_movesTo_106 rfl rfl (q_iload (pc' := 109) dX11_movesTo_107 rfl rfl (q_aload_n (pc' := 110) dX11_movesTo_109 rfl rfl (q_iload_n (pc' := 111) dX11_movesTo_110 rfl rfl (q_iload_n (pc' := 112) dX11_movesTo_111 rfl rfl (q_iload (pc' := 114) dX11_movesTo_112 rfl rfl (q_cVi (pc' := 117) dX11_movesTo_114 rfl ml_RX11_330 yv_X11_reservedAt (by decide) (rn_X11_reservedAt (p := p) hM hb hk hR hA h10 (by omega) (by omega)) ⟨by omega, rfl⟩ rfl rfl (Nat.le_of_ble_eq_true rfl) (Nat.le_refl _) ?_)))))))))) (fun h9 => absurd h9 (nI_m1 (by omega))))))
            rw [hv]
            refine q_sVv (pc' := 120) dX11_movesTo_117 rfl ml_RX11_384 yv_X11_moves (by decide) (rs_X11_moves (p := p) (v := v) hM hR hA h10 (by omega) (by omega) (by omega) h0) ⟨by omega, rfl⟩ rfl rfl (Nat.le_of_ble_eq_true rfl) (Nat.le_refl _) (fun I4 ⟨hF4, hR4⟩ => ?_)
            exact q_iconst (pc' := 121) _ dX11_movesTo_120 rfl kk_iconst_0 (q_iret dX11_movesTo_121 rfl (hQ _ _ _ _ ⟨_, rfl, ⟨rfl, rfl⟩, rfl, hR4, hF4⟩))
        · rw [if_neg h3] at hQ
          unfold aMvD at hQ
          refine q_ist_4 (pc' := 71) dX11_movesTo_69 rfl (by decide) rfl (q_aload_n (pc' := 72) dX11_movesTo_71 rfl rfl (q_getR (pc' := 75) dX11_movesTo_72 rfl fr_RX11_29 ⟨by omega, rfl⟩ rfl (wM_29 hM) (by decide) (q_iload_n (pc' := 76) dX11_movesTo_75 rfl rfl (q_ialde (pc' := 77) _ dX11_movesTo_76 rfl (by first | exact ⟨by omega, rfl⟩ | exact okaS hi hz (by decide) rfl | assumption) rfl (by omega) hbd.1 (q_iconst (pc' := 78) _ dX11_movesTo_77 rfl kk_iconst_3 (q_icmp_ne (pc' := 81) (pt := 122) dX11_movesTo_78 rfl rfl (fun _ => (q_aload_n (pc' := 123) dX11_movesTo_122 rfl rfl (q_aload_n (pc' := 124) dX11_movesTo_123 rfl rfl (q_getR (pc' := 127) dX11_movesTo_124 rfl fr_RX11_32 ⟨by omega, rfl⟩ rfl (wM_30 hM) (by decide) (q_iload_n (pc' := 128) dX11_movesTo_127 rfl rfl (q_ialde (pc' := 129) _ dX11_movesTo_128 rfl (by first | exact ⟨by omega, rfl⟩ | exact okaS hi hz (by decide) rfl | assumption) rfl (by omega) hbd.2.1 (q_iload (pc' := 131) dX11_movesTo_129 rfl rfl (q_cVi (pc' := 134) dX11_movesTo_131 rfl ml_RX11_317 yv_X11_dealt (by decide) (rn_X11_dealt hM hb hk hR hA hs.2.1 (by omega)) ⟨by omega, rfl⟩ rfl rfl (Nat.le_of_ble_eq_true rfl) (Nat.le_refl _) ?_)))))))) (fun h9 => absurd h9 (nI_ne h3 (by omega) (by omega)))))))))
          cases hq : aDealt b A (b 2 d) (aOth b set ((A 3 (8 * d + k) - 1) / 32)) with
          | none =>
            rw [hq] at hQ
            exact q_ist_5 (pc' := 136) dX11_movesTo_134 rfl (by decide) rfl (q_iload (pc' := 138) dX11_movesTo_136 rfl rfl (q_iconst (pc' := 139) _ dX11_movesTo_138 rfl kk_iconst_m1 (q_icmp_ne (pc' := 142) (pt := 144) dX11_movesTo_139 rfl rfl (fun h9 => absurd (by rfl) h9) (fun _ => (q_iconst (pc' := 143) _ dX11_movesTo_142 rfl kk_iconst_1 (q_iret dX11_movesTo_143 rfl (hQ _ _ _ _ ⟨_, rfl, ⟨rfl, rfl⟩, rfl, hR, mF.rf⟩)))))))
          | some p =>
            have hp := lstN_lt hq
            have hblk : ∃ i, aBlk b A p (b 2 d) = some i := by
              have h9 := hp.2
              unfold aDP at h9
              cases hz : aBlk b A p (b 2 d) with
              | none => rw [hz] at h9; simp at h9
              | some i => exact ⟨i, rfl⟩
            obtain ⟨i, hi⟩ := hblk
            have hiv := aBlk_lt hs.2.1.1 hi
            rw [hq, Option.map_some, hi] at hQ
            refine q_ist_5 (pc' := 136) dX11_movesTo_134 rfl (by decide) rfl (q_iload (pc' := 138) dX11_movesTo_136 rfl rfl (q_iconst (pc' := 139) _ dX11_movesTo_138 rfl kk_iconst_m1 (q_icmp_ne (pc' := 142) (pt := 144) dX11_movesTo_139 rfl rfl (fun _ => (q_aload_n (pc' := 145) dX11_movesTo_144 rfl rfl (q_iload (pc' := 147) dX11_movesTo_145 rfl rfl (q_aload_n (pc' := 148) dX11_movesTo_147 rfl rfl (q_getR (pc' := 151) dX11_movesTo_148 rfl fr_RX11_32 ⟨by omega, rfl⟩ rfl (wM_30 hM) (by decide) (q_iload_n (pc' := 152) dX11_movesTo_151 rfl rfl (q_ialde (pc' := 153) _ dX11_movesTo_152 rfl (by first | exact ⟨by omega, rfl⟩ | exact okaS hi hz (by decide) rfl | assumption) rfl (by omega) hbd.2.1 (q_cVi (pc' := 156) dX11_movesTo_153 rfl ml_RX11_298 yv_X11_blockOf (by decide) (rn_X11_blockOf (p := p) hM hb hk hR hA (by omega) hs.2.1) ⟨by omega, rfl⟩ rfl rfl (Nat.le_of_ble_eq_true rfl) (Nat.le_refl _) ?_)))))))) (fun h9 => absurd h9 (nI_m1 (by omega))))))
            rw [hi]
            refine q_ist_6 (pc' := 158) dX11_movesTo_156 rfl (by decide) rfl (q_iconst (pc' := 159) _ dX11_movesTo_158 rfl kk_iconst_0 (q_ist_7 (pc' := 161) dX11_movesTo_159 rfl (by decide) rfl ?_))
            have hinv := itN_P (P := fun B => aOK B ∧ ∀ j, j < b 2 d → B 3 (8 * d + j) ≠ 0) (f := fun j A => aMoves A (8 * d + j) (32 * p + (b 2 d * i + j))) (n := b 2 d) ⟨hA, hN h3 h1⟩ (fun j B hj hB => ⟨aOK_moves hB.1 (by omega) (by omega), fun j2 hj2 => by
              unfold aMoves aHolds
              by_cases e : 8 * d + j2 = 8 * d + j
              · rw [e, mj_up_eq]; omega
              · rw [mj_up_ne2 e]; exact hB.2 j2 hj2⟩)
            have loop : ∀ m x I0, x + m = b 2 d → mF I I0 → rR (I0 464) (itN (fun j A => aMoves A (8 * d + j) (32 * p + (b 2 d * i + j))) x A) → Wq dd_X11_movesTo (mj_mk w l 472 Y) Q 161 [some (.ref 452), some (.int (nI d)), some (.int (nI k)), some (.int (nI set)), some (.int (nI (aOth b set ((A 3 (8 * d + k) - 1) / 32)))), some (.int (nI p)), some (.int (nI (b 2 d * i))), some (.int (nI x))] [] (472, I0, J, R) := by
              intro m
              induction m with
              | zero =>
                intro x I0 hx hF0 hR0
                have hxz : x = b 2 d := by omega
                subst hxz
                exact q_iload (pc' := 163) dX11_movesTo_161 rfl rfl (q_aload_n (pc' := 164) dX11_movesTo_163 rfl rfl (q_getR (pc' := 167) dX11_movesTo_164 rfl fr_RX11_32 ⟨by omega, rfl⟩ rfl (wM_30 hM) (by decide) (q_iload_n (pc' := 168) dX11_movesTo_167 rfl rfl (q_ialde (pc' := 169) _ dX11_movesTo_168 rfl (by first | exact ⟨by omega, rfl⟩ | exact okaS hi hz (by decide) rfl | assumption) rfl (by omega) ((congrFun (hF0 458 (by decide)) d).trans hbd.2.1) (q_icmp_ge (pc' := 172) (pt := 192) dX11_movesTo_169 rfl rfl (fun _ => (q_iconst (pc' := 193) _ dX11_movesTo_192 rfl kk_iconst_0 (q_iret dX11_movesTo_193 rfl (hQ _ _ _ _ ⟨_, rfl, ⟨rfl, rfl⟩, rfl, hR0, hF0⟩)))) (fun h9 => absurd (by (first | assumption | exact nI_le (by omega) (by omega) | exact nI_ge (by omega) (by omega) | exact nI_lt (by omega) (by omega) | exact nI_nlt (by omega) (by omega) | exact nI_ne (by omega) (by omega) (by omega) | exact nI_e (by omega) | decide)) h9))))))
              | succ m ih =>
                intro x I0 hx hF0 hR0
                have hx2 := hinv x (by omega)
                refine q_iload (pc' := 163) dX11_movesTo_161 rfl rfl (q_aload_n (pc' := 164) dX11_movesTo_163 rfl rfl (q_getR (pc' := 167) dX11_movesTo_164 rfl fr_RX11_32 ⟨by omega, rfl⟩ rfl (wM_30 hM) (by decide) (q_iload_n (pc' := 168) dX11_movesTo_167 rfl rfl (q_ialde (pc' := 169) _ dX11_movesTo_168 rfl (by first | exact ⟨by omega, rfl⟩ | exact okaS hi hz (by decide) rfl | assumption) rfl (by omega) ((congrFun (hF0 458 (by decide)) d).trans hbd.2.1) (q_icmp_ge (pc' := 172) (pt := 192) dX11_movesTo_169 rfl rfl (fun h9 => absurd h9 (by (first | assumption | exact nI_le (by omega) (by omega) | exact nI_ge (by omega) (by omega) | exact nI_lt (by omega) (by omega) | exact nI_nlt (by omega) (by omega) | exact nI_ne (by omega) (by omega) (by omega) | exact nI_e (by omega) | decide))) (fun _ => (q_aload_n (pc' := 173) dX11_movesTo_172 rfl rfl (q_iload_n (pc' := 174) dX11_movesTo_173 rfl rfl (q_iload (pc' := 176) dX11_movesTo_174 rfl rfl (q_iload (pc' := 178) dX11_movesTo_176 rfl rfl (q_iload (pc' := 180) dX11_movesTo_178 rfl rfl (q_iload (pc' := 182) dX11_movesTo_180 rfl rfl (q_iadd (pc' := 183) dX11_movesTo_182 rfl ?_)))))))))))))
                refine q_top (nI_add _ _) ?_
                refine q_sVv (pc' := 186) dX11_movesTo_183 rfl ml_RX11_384 yv_X11_moves (by decide) (rs_X11_moves (p := p) (v := b 2 d * i + x) hM hR0 hx2.1 h10 (by omega) (by omega) (by omega) (hx2.2 x (by omega))) ⟨by omega, rfl⟩ rfl rfl (Nat.le_of_ble_eq_true rfl) (Nat.le_refl _) (fun I4 ⟨hF4, hR4⟩ => ?_)
                refine q_inc_7 (pc' := 189) dX11_movesTo_186 rfl (by decide) rfl (q_goto (pc' := 161) dX11_movesTo_189 rfl ?_)
                exact ih (x + 1) I4 (by omega) (hF0.tr hF4) hR4
            exact loop (b 2 d) 0 I (by omega) mF.rf hR
      · rw [if_pos h2] at hQ
        exact q_iconst (pc' := 39) _ dX11_movesTo_38 rfl kk_iconst_3 (q_iret dX11_movesTo_39 rfl (hQ _ _ _ _ ⟨_, rfl, ⟨rfl, rfl⟩, rfl, hR, mF.rf⟩))
theorem eC_eq {x p : Nat} (hx : x ≤ 256) (hp : p < 8) : eC x = nI p ↔ x ≠ 0 ∧ (x - 1) / 32 = p := by
  unfold eC
  by_cases h : x = 0
  · rw [if_pos h]
    exact ⟨fun e => absurd e.symm (nI_m1 (by omega)), fun e => absurd h e.1⟩
  · rw [if_neg h, nI_eq (by omega) (by omega)]; exact ⟨fun e => ⟨h, e⟩, fun e => e.2⟩
theorem rs_X11_oldLeaves {d k p : Nat} (hM : mj_wM R) (hb : mB I b) (hk : bOK b) (hR : rR (I 464) A) (hA : aOK A) (hd : d < b 0 2) (hl : k < 8) (hp : p < 8) (hh : A 4 (8 * d + k) ≠ 0 → A 3 (8 * d + k) ≠ 0) : RsV w l yX11_oldLeaves dd_X11_oldLeaves [.ref 452, .int (nI d), .int (nI k), .int (nI p)] (472, I, J, R) (fun I' => mF I I' ∧ rR (I' 464) (aOldL b A (8 * d + k) p)) := by
  have h10 : d < 10 := by have := hk.2.2.1; omega
  have h6 := hA.2.1 (8 * d + k) (by omega)
  have e8 : (8 * d + k) / 8 = d := by omega
  have e1 : I 464 (1184 + (8 * d + k)) = eC (A 4 (8 * d + k)) := (hR _ (by omega)).trans (cE_oc (by omega))
  have e2 : I 464 (1264 + (8 * d + k)) = eV (A 4 (8 * d + k)) := (hR _ (by omega)).trans (cE_ov (by omega))
  refine rt_intro2 (L := [some (.ref 452), some (.int (nI d)), some (.int (nI k)), some (.int (nI p)), none, none, none, none]) ⟨by decide, rfl, (fun h => by cases h)⟩ (Nat.le_of_ble_eq_true rfl) rfl (fun Y Q hQ => ?_)
  unfold aOldL at hQ
  refine q_iload_n (pc' := 1) dX11_oldLeaves_0 rfl rfl (q_iload_n (pc' := 2) dX11_oldLeaves_1 rfl rfl (q_cSi (pc' := 5) dX11_oldLeaves_2 rfl ml_RX11_308 ys_X11_lineAt (by decide) (rn_X11_lineAt) rfl rfl (Nat.le_of_ble_eq_true rfl) (Nat.le_refl _) ?_))
  refine q_top (y := nI (8 * d + k)) (by (first | (simp only [nI_add, pk_mul]; done) | (simp only [nI_add, pk_mul]; exact nI_e (by omega)) | exact nI_e (by omega))) ?_
  refine q_ist_4 (pc' := 7) dX11_oldLeaves_5 rfl (by decide) rfl (q_aload_n (pc' := 8) dX11_oldLeaves_7 rfl rfl (q_getR (pc' := 11) dX11_oldLeaves_8 rfl fr_RX11_51 ⟨by omega, rfl⟩ rfl (wM_36 hM) (by decide) (q_sipush (pc' := 14) _ dX11_oldLeaves_11 rfl kk_sipush_1184 (q_iload (pc' := 16) dX11_oldLeaves_14 rfl rfl (q_iadd (pc' := 17) dX11_oldLeaves_16 rfl (q_ialde (pc' := 18) (1184 + (8 * d + k)) dX11_oldLeaves_17 rfl (by first | exact ⟨by omega, rfl⟩ | exact okaS hi hz (by decide) rfl | assumption) (by (first | (simp only [nI_add, pk_mul]; done) | (simp only [nI_add, pk_mul]; exact nI_e (by omega)) | exact nI_e (by omega))) (by omega) e1 (q_iload_n (pc' := 19) dX11_oldLeaves_18 rfl rfl (q_icmp_eq (pc' := 22) (pt := 23) dX11_oldLeaves_19 rfl rfl (fun h1 => ?_) (fun h1 => ?_)))))))))
  · have h2 := (eC_eq h6.2.1 hp).mp h1
    rw [if_pos h2] at hQ
    have e5 := e2.trans (eV_p h2.1)
    have e7 : 32 * p + (A 4 (8 * d + k) - 1) % 32 = A 4 (8 * d + k) - 1 := by have := pl_e (A 4 (8 * d + k)); rw [h2.2] at this; exact this
    have h8 := hA.1 (A 4 (8 * d + k) - 1) (by omega)
    have e9 : I 464 (768 + (A 4 (8 * d + k) - 1)) = nI (A 2 (A 4 (8 * d + k) - 1)) := (hR _ (by omega)).trans (cE_pd (by omega))
    have hlv := rs_X11_leaves (w := w) (l := l) (J := J) (p := p) (v := (A 4 (8 * d + k) - 1) % 32) (k := k) hM hb hk hR hp (by omega) hd hl
    rw [e7] at hlv
    refine q_aload_n (pc' := 24) dX11_oldLeaves_23 rfl rfl (q_getR (pc' := 27) dX11_oldLeaves_24 rfl fr_RX11_51 ⟨by omega, rfl⟩ rfl (wM_36 hM) (by decide) (q_sipush (pc' := 30) _ dX11_oldLeaves_27 rfl kk_sipush_1264 (q_iload (pc' := 32) dX11_oldLeaves_30 rfl rfl (q_iadd (pc' := 33) dX11_oldLeaves_32 rfl (q_ialde (pc' := 34) (1264 + (8 * d + k)) dX11_oldLeaves_33 rfl (by first | exact ⟨by omega, rfl⟩ | exact okaS hi hz (by decide) rfl | assumption) (by (first | (simp only [nI_add, pk_mul]; done) | (simp only [nI_add, pk_mul]; exact nI_e (by omega)) | exact nI_e (by omega))) (by omega) e5 (q_ist_5 (pc' := 36) dX11_oldLeaves_34 rfl (by decide) rfl (q_aload_n (pc' := 37) dX11_oldLeaves_36 rfl rfl (q_getR (pc' := 40) dX11_oldLeaves_37 rfl fr_RX11_51 ⟨by omega, rfl⟩ rfl (wM_36 hM) (by decide) (q_sipush (pc' := 43) _ dX11_oldLeaves_40 rfl kk_sipush_768 (q_iload_n (pc' := 44) dX11_oldLeaves_43 rfl rfl (q_iload (pc' := 46) dX11_oldLeaves_44 rfl rfl (q_cSi (pc' := 49) dX11_oldLeaves_46 rfl ml_RX11_286 ys_X11_spot (by decide) (rn_X11_spot) rfl rfl (Nat.le_of_ble_eq_true rfl) (Nat.le_refl _) (q_iadd (pc' := 50) dX11_oldLeaves_49 rfl ?_)))))))))))))
    refine q_ialde (pc' := 51) (768 + (A 4 (8 * d + k) - 1)) dX11_oldLeaves_50 rfl (by first | exact ⟨by omega, rfl⟩ | exact okaS hi hz (by decide) rfl | assumption) (by rw [pk_mul, nI_add, nI_add, e7]) (by omega) e9 (q_iconst (pc' := 52) _ dX11_oldLeaves_51 rfl kk_iconst_1 (q_bl_icmp_ne (p4 := 60) dX11_oldLeaves_52 dX11_oldLeaves_55 dX11_oldLeaves_56 dX11_oldLeaves_59 rfl rfl rfl rfl rfl ?_))
    rw [nI_dec (by omega) (by omega)]
    refine q_ist_6 (pc' := 62) dX11_oldLeaves_60 rfl (by decide) rfl (q_aload_n (pc' := 63) dX11_oldLeaves_62 rfl rfl (q_iload_n (pc' := 64) dX11_oldLeaves_63 rfl rfl (q_iload_n (pc' := 65) dX11_oldLeaves_64 rfl rfl (q_iload_n (pc' := 66) dX11_oldLeaves_65 rfl rfl (q_iload (pc' := 68) dX11_oldLeaves_66 rfl rfl (q_sVv (pc' := 71) dX11_oldLeaves_68 rfl ml_RX11_369 yv_X11_leaves (by decide) hlv ⟨by omega, rfl⟩ rfl rfl (Nat.le_of_ble_eq_true rfl) (Nat.le_refl _) (fun I4 ⟨hF4, hR4⟩ => ?_)))))))
    refine q_aload_n (pc' := 72) dX11_oldLeaves_71 rfl rfl (q_iload_n (pc' := 73) dX11_oldLeaves_72 rfl rfl (q_iload_n (pc' := 74) dX11_oldLeaves_73 rfl rfl (q_sVv (pc' := 77) dX11_oldLeaves_74 rfl ml_RX11_337 yv_X11_noOld (by decide) (rs_X11_noOld hM hR4 h10 hl) ⟨by omega, rfl⟩ rfl rfl (Nat.le_of_ble_eq_true rfl) (Nat.le_refl _) (fun I5 ⟨hF5, hR5⟩ => ?_))))
    refine q_iload (pc' := 79) dX11_oldLeaves_77 rfl rfl (q_ifb_eq (pc' := 82) (pt := 111) dX11_oldLeaves_79 rfl rfl (fun h3 => ?_) (fun h3 => ?_))
    · rw [if_neg (beq_eq_false_iff_ne.mp h3)] at hQ
      exact q_vret dX11_oldLeaves_111 rfl (hQ _ _ _ _ ⟨rfl, ⟨rfl, rfl⟩, hF4.tr hF5, hR5⟩)
    · rw [if_pos (beq_iff_eq.mp h3), e8] at hQ
      have hok5 : aOK (aNoOld (aLeaves b A (8 * d + k) (A 4 (8 * d + k) - 1)) (8 * d + k)) := aOK_noOld (aOK_leaves hA (by omega))
      have h33 : (aNoOld (aLeaves b A (8 * d + k) (A 4 (8 * d + k) - 1)) (8 * d + k)) 3 (8 * d + k) = A 3 (8 * d + k) := rfl
      have hh3 := hh h2.1
      have e10 : I5 464 (1024 + (8 * d + k)) = nI ((A 3 (8 * d + k) - 1) / 32) := by
        rw [(hR5 _ (by omega)).trans (cE_hc (by omega)), h33]; exact eC_p hh3
      have e11 : I5 464 (1104 + (8 * d + k)) = nI ((A 3 (8 * d + k) - 1) % 32) := by
        rw [(hR5 _ (by omega)).trans (cE_hv (by omega)), h33]; exact eV_p hh3
      have e12 := pl_e (A 3 (8 * d + k))
      have hpn := rs_X11_pends (w := w) (l := l) (J := J) (d := d) (p := (A 3 (8 * d + k) - 1) / 32) (v := (A 3 (8 * d + k) - 1) % 32) hM hR5 hok5 h10 (by omega) (by omega)
      rw [e12] at hpn
      refine q_aload_n (pc' := 83) dX11_oldLeaves_82 rfl rfl (q_iload_n (pc' := 84) dX11_oldLeaves_83 rfl rfl (q_aload_n (pc' := 85) dX11_oldLeaves_84 rfl rfl (q_getR (pc' := 88) dX11_oldLeaves_85 rfl fr_RX11_51 ⟨by omega, rfl⟩ rfl (wM_36 hM) (by decide) (q_sipush (pc' := 91) _ dX11_oldLeaves_88 rfl kk_sipush_1024 (q_iload (pc' := 93) dX11_oldLeaves_91 rfl rfl (q_iadd (pc' := 94) dX11_oldLeaves_93 rfl (q_ialde (pc' := 95) (1024 + (8 * d + k)) dX11_oldLeaves_94 rfl (by first | exact ⟨by omega, rfl⟩ | exact okaS hi hz (by decide) rfl | assumption) (by (first | (simp only [nI_add, pk_mul]; done) | (simp only [nI_add, pk_mul]; exact nI_e (by omega)) | exact nI_e (by omega))) (by omega) e10 (q_aload_n (pc' := 96) dX11_oldLeaves_95 rfl rfl (q_getR (pc' := 99) dX11_oldLeaves_96 rfl fr_RX11_51 ⟨by omega, rfl⟩ rfl (wM_36 hM) (by decide) (q_sipush (pc' := 102) _ dX11_oldLeaves_99 rfl kk_sipush_1104 (q_iload (pc' := 104) dX11_oldLeaves_102 rfl rfl (q_iadd (pc' := 105) dX11_oldLeaves_104 rfl (q_ialde (pc' := 106) (1104 + (8 * d + k)) dX11_oldLeaves_105 rfl (by first | exact ⟨by omega, rfl⟩ | exact okaS hi hz (by decide) rfl | assumption) (by (first | (simp only [nI_add, pk_mul]; done) | (simp only [nI_add, pk_mul]; exact nI_e (by omega)) | exact nI_e (by omega))) (by omega) e11 ?_)))))))))))))
      refine q_sVi (pc' := 109) dX11_oldLeaves_106 rfl ml_RX11_359 yv_X11_pends (by decide) hpn ⟨by omega, rfl⟩ rfl rfl (Nat.le_of_ble_eq_true rfl) (Nat.le_refl _) (fun x6 I6 ⟨hx6, hF6, hR6⟩ => ?_)
      exact q_ist_7 (pc' := 111) dX11_oldLeaves_109 rfl (by decide) rfl (q_vret dX11_oldLeaves_111 rfl (hQ _ _ _ _ ⟨rfl, ⟨rfl, rfl⟩, (hF4.tr hF5).tr hF6, hR6⟩))
  · have h2 : ¬ (A 4 (8 * d + k) ≠ 0 ∧ (A 4 (8 * d + k) - 1) / 32 = p) := fun z => h1 ((eC_eq h6.2.1 hp).mpr z)
    rw [if_neg h2] at hQ
    exact q_vret dX11_oldLeaves_22 rfl (hQ _ _ _ _ ⟨rfl, ⟨rfl, rfl⟩, mF.rf, hR⟩)
end M12
