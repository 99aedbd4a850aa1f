/-! ===== the reference: what UNPLUG brings away ===== -/
/-- the place of a LINE's VECTOR on a CPU -/
def aPl (A : St) (id p : Nat) : Nat := 32 * p + (A 3 id - 1) % 32
def aQend (A : St) (d id to was : Nat) : St := if was = 1 then aPends (aHolds A id to) d to else aHolds A id to
/-- a QUEUE leaves a CPU -/
def aQLv (b A : St) (d q p : Nat) : St :=
  match aLeast b (aLeaves b A (8 * d + q) (aPl A (8 * d + q) p)) (aSpread b d q) with
  | none => mj_up (mj_up (aLeaves b A (8 * d + q) (aPl A (8 * d + q) p)) 3 (8 * d + q) 0) 6 (8 * d + q) (A 2 (aPl A (8 * d + q) p))
  | some to => if A 4 (8 * d + q) ≠ 0 ∧ (A 4 (8 * d + q) - 1) / 32 = to
    then aQend (aNoOld (aLeaves b A (8 * d + q) (aPl A (8 * d + q) p)) (8 * d + q)) d (8 * d + q) (A 4 (8 * d + q) - 1) (A 2 (aPl A (8 * d + q) p))
    else aQend (aLeaves b A (8 * d + q) (aPl A (8 * d + q) p)) d (8 * d + q) (32 * to + (aResv b (aLeaves b A (8 * d + q) (aPl A (8 * d + q) p)) (8 * d + q) to).getD 0) (A 2 (aPl A (8 * d + q) p))
/-- where a QUEUE goes something is RESERVED for it, or its OLD one is there -/
def aQOK (b A : St) (d q p : Nat) : Prop := ∀ to, aLeast b (aLeaves b A (8 * d + q) (aPl A (8 * d + q) p)) (aSpread b d q) = some to → ¬ (A 4 (8 * d + q) ≠ 0 ∧ (A 4 (8 * d + q) - 1) / 32 = to) → ∃ v, aResv b (aLeaves b A (8 * d + q) (aPl A (8 * d + q) p)) (8 * d + q) to = some v
theorem aOK_qend {A : St} {d id to was : Nat} (hA : aOK A) (hi : id < 80) (ht : to < 256) : aOK (aQend A d id to was) := by
  unfold aQend
  split
  · exact aOK_pends (aOK_holds hA hi ht)
  · exact aOK_holds hA hi ht
theorem aOK_qlv {b A : St} {d q p : Nat} (hk : bOK b) (hA : aOK A) (hd : d < 10) (hq : q < 8) (hp : p < 8) : aOK (aQLv b A d q p) := by
  have h1 : aOK (aLeaves b A (8 * d + q) (aPl A (8 * d + q) p)) := aOK_leaves hA (by omega)
  have h6 := hA.2.1 (8 * d + q) (by omega)
  unfold aQLv
  cases hz : aLeast b (aLeaves b A (8 * d + q) (aPl A (8 * d + q) p)) (aSpread b d q) with
  | none => exact aOK_up (aOK_up h1 (fun _ => by decide)) (fun _ => (hA.1 _ (by unfold aPl; omega)).2.2)
  | some to =>
    have h2 := (lstN_lt hz).1
    have h3 := hk.1.2
    have h4 := hk.2.1
    dsimp only
    split
    · exact aOK_qend (aOK_noOld h1) (by omega) (by omega)
    · refine aOK_qend h1 (by omega) ?_
      cases hy : aResv b (aLeaves b A (8 * d + q) (aPl A (8 * d + q) p)) (8 * d + q) to with
      | none => show 32 * to + 0 < 256; omega
      | some v => have := ffi_some hy; show 32 * to + v < 256; omega
section M13
variable {w : mj_Wd} {l : Launch} {I : mj_M} {J : mj_J} {R : mj_R} {b A : St}
theorem rs_X11_isBrought {d p : Nat} (hM : mj_wM R) (hb : mB I b) (hk : bOK b) (hR : rR (I 464) A) (hA : aOK A) (hd : d < b 0 2) (hp : p < 8) (hN : ∀ j, j < b 2 d → A 3 (8 * d + j) ≠ 0) : RsI w l yX11_isBrought dd_X11_isBrought [.ref 452, .int (nI d), .int (nI p)] (472, I, J, R) (fun x I' => (aBro b A d p = none → x = bI false) ∧ (∀ A', aBro b A d p = some A' → x = bI true ∧ rR (I' 464) A') ∧ mF I I') := by
  have h10 : d < 10 := by have := hk.2.2.1; omega
  have hs := hk.2.2.2 d hd
  have hbd := hb.2.2.2 d hd
  have hc8 := hk.1.2
  have hv32 := hk.2.1.2
  have h2p : 1 ≤ 2 ^ b 0 0 := Nat.one_le_two_pow
  have h2q : 2 ^ b 0 0 ≤ 2 ^ 8 := Nat.pow_le_pow_right (by decide) hc8
  refine rt_intro2 (L := [some (.ref 452), some (.int (nI d)), some (.int (nI p)), none, none, none, none, none]) ⟨by decide, rfl, (fun h => by cases h)⟩ (Nat.le_of_ble_eq_true rfl) rfl (fun Y Q hQ => ?_)
  unfold aBro at hQ
  have main : ∀ o, aBrTo b A d = o → Wq dd_X11_isBrought (mj_mk w l 472 Y) Q 41 [some (.ref 452), some (.int (nI d)), some (.int (nI p)), some (.int (oI o)), none, none, none, none] [] (472, I, J, R) := by
    intro o ho
    rw [ho] at hQ
    cases o with
    | none =>
      exact q_iload_n (pc' := 42) dX11_isBrought_41 rfl rfl (q_iconst (pc' := 43) _ dX11_isBrought_42 rfl kk_iconst_m1 (q_icmp_ne (pc' := 46) (pt := 48) dX11_isBrought_43 rfl rfl (fun h9 => absurd (by rfl) h9) (fun _ => (q_iconst (pc' := 47) _ dX11_isBrought_46 rfl kk_iconst_0 (q_zret dX11_isBrought_47 rfl (by first | exact Or.inl rfl | exact Or.inr rfl | exact bI_01 _) (hQ _ _ _ _ ⟨_, rfl, ⟨rfl, rfl⟩, fun _ => rfl, fun A' h => (by cases h), mF.rf⟩))))))
    | some to =>
      obtain ⟨hto, i, hi, hiv⟩ := aBrTo_lt hk hd ho
      rw [Option.map_some, hi] at hQ
      refine q_iload_n (pc' := 42) dX11_isBrought_41 rfl rfl (q_iconst (pc' := 43) _ dX11_isBrought_42 rfl kk_iconst_m1 (q_icmp_ne (pc' := 46) (pt := 48) dX11_isBrought_43 rfl rfl (fun _ => (q_aload_n (pc' := 49) dX11_isBrought_48 rfl rfl (q_iload_n (pc' := 50) dX11_isBrought_49 rfl rfl (q_aload_n (pc' := 51) dX11_isBrought_50 rfl rfl (q_getR (pc' := 54) dX11_isBrought_51 rfl fr_RX11_32 ⟨by omega, rfl⟩ rfl (wM_30 hM) (by decide) (q_iload_n (pc' := 55) dX11_isBrought_54 rfl rfl (q_ialde (pc' := 56) _ dX11_isBrought_55 rfl (by first | exact ⟨by omega, rfl⟩ | exact okaS hi hz (by decide) rfl | assumption) rfl (by omega) hbd.2.1 (q_cVi (pc' := 59) dX11_isBrought_56 rfl ml_RX11_298 yv_X11_blockOf (by decide) (rn_X11_blockOf (p := to) hM hb hk hR hA (by omega) hs.2.1) ⟨by omega, rfl⟩ rfl rfl (Nat.le_of_ble_eq_true rfl) (Nat.le_refl _) ?_)))))))) (fun h9 => absurd h9 (nI_m1 (by omega)))))
      rw [hi]
      refine q_ist_4 (pc' := 61) dX11_isBrought_59 rfl (by decide) rfl (q_iconst (pc' := 62) _ dX11_isBrought_61 rfl kk_iconst_0 (q_ist_5 (pc' := 64) dX11_isBrought_62 rfl (by decide) rfl ?_))
      have hinv := itN_P (P := fun B => aOK B ∧ ∀ j, j < b 2 d → B 3 (8 * d + j) ≠ 0) (f := aBr1 b d p (32 * to + b 2 d * i)) (n := b 2 d) ⟨hA, hN⟩ (fun j B hj hB => ⟨aOK_br1 hB.1 h10 (by omega) hp (by omega), fun j2 hj2 => by
        show aHolds (aLeaves b B (8 * d + j) (32 * p + (B 3 (8 * d + j) - 1) % 32)) (8 * d + j) (32 * to + b 2 d * i + j) 3 (8 * d + j2) ≠ 0
        unfold aHolds
        by_cases e : 8 * d + j2 = 8 * d + j
        · rw [e, mj_up_eq]; omega
        · rw [mj_up_ne2 e]; exact hB.2 j2 hj2⟩)
      have loop : ∀ m x I0 (o6 o7 : Option Value), x + m = b 2 d → mF I I0 → rR (I0 464) (itN (aBr1 b d p (32 * to + b 2 d * i)) x A) → Wq dd_X11_isBrought (mj_mk w l 472 Y) Q 64 [some (.ref 452), some (.int (nI d)), some (.int (nI p)), some (.int (nI to)), some (.int (nI (b 2 d * i))), some (.int (nI x)), o6, o7] [] (472, I0, J, R) := by
        intro m
        induction m with
        | zero =>
          intro x I0 o6 o7 hx hF0 hR0
          have hxz : x = b 2 d := by omega
          subst hxz
          exact q_iload (pc' := 66) dX11_isBrought_64 rfl rfl (q_aload_n (pc' := 67) dX11_isBrought_66 rfl rfl (q_getR (pc' := 70) dX11_isBrought_67 rfl fr_RX11_32 ⟨by omega, rfl⟩ rfl (wM_30 hM) (by decide) (q_iload_n (pc' := 71) dX11_isBrought_70 rfl rfl (q_ialde (pc' := 72) _ dX11_isBrought_71 rfl (by first | exact ⟨by omega, rfl⟩ | exact okaS hi hz (by decide) rfl | assumption) rfl (by omega) ((congrFun (hF0 458 (by decide)) d).trans hbd.2.1) (q_icmp_ge (pc' := 75) (pt := 170) dX11_isBrought_72 rfl rfl (fun _ => (q_iconst (pc' := 171) _ dX11_isBrought_170 rfl kk_iconst_1 (q_zret dX11_isBrought_171 rfl (by first | exact Or.inl rfl | exact Or.inr rfl | exact bI_01 _) (hQ _ _ _ _ ⟨_, rfl, ⟨rfl, rfl⟩, fun h => (by cases h), fun A' h => (by cases h; exact ⟨rfl, hR0⟩), hF0⟩)))) (fun h9 => absurd (by (first | assumption | exact nI_le (by omega) (by omega) | exact nI_ge (by omega) (by omega) | exact nI_lt (by omega) (by omega) | exact nI_nlt (by omega) (by omega) | exact nI_ne (by omega) (by omega) (by omega) | exact nI_e (by omega) | decide)) h9))))))
        | succ m ih =>
          intro x I0 o6 o7 hx hF0 hR0
          have hx2 := hinv x (by omega)
          have hb0 := mB_F hF0 hb
          have ih2 := ih (x + 1)
          have hstep : itN (aBr1 b d p (32 * to + b 2 d * i)) (x + 1) A = aBr1 b d p (32 * to + b 2 d * i) x (itN (aBr1 b d p (32 * to + b 2 d * i)) x A) := rfl
          rw [hstep] at ih2
          generalize itN (aBr1 b d p (32 * to + b 2 d * i)) x A = Ak at hR0 hx2 ih2 ⊢
          have h3 := hx2.2 x (by omega)
          have h6 := hx2.1.2.1 (8 * d + x) (by omega)
          have e1 : I0 464 (1104 + (8 * d + x)) = nI ((Ak 3 (8 * d + x) - 1) % 32) := ((hR0 _ (by omega)).trans (cE_hv (by omega))).trans (eV_p h3)
          have h8 := hx2.1.1 (32 * p + (Ak 3 (8 * d + x) - 1) % 32) (by omega)
          have e2 : I0 464 (768 + (32 * p + (Ak 3 (8 * d + x) - 1) % 32)) = nI (Ak 2 (32 * p + (Ak 3 (8 * d + x) - 1) % 32)) := (hR0 _ (by omega)).trans (cE_pd (by omega))
          refine q_iload (pc' := 66) dX11_isBrought_64 rfl rfl (q_aload_n (pc' := 67) dX11_isBrought_66 rfl rfl (q_getR (pc' := 70) dX11_isBrought_67 rfl fr_RX11_32 ⟨by omega, rfl⟩ rfl (wM_30 hM) (by decide) (q_iload_n (pc' := 71) dX11_isBrought_70 rfl rfl (q_ialde (pc' := 72) _ dX11_isBrought_71 rfl (by first | exact ⟨by omega, rfl⟩ | exact okaS hi hz (by decide) rfl | assumption) rfl (by omega) ((congrFun (hF0 458 (by decide)) d).trans hbd.2.1) (q_icmp_ge (pc' := 75) (pt := 170) dX11_isBrought_72 rfl rfl (fun h9 => absurd h9 (by (first | assumption | exact nI_le (by omega) (by omega) | exact nI_ge (by omega) (by omega) | exact nI_lt (by omega) (by omega) | exact nI_nlt (by omega) (by omega) | exact nI_ne (by omega) (by omega) (by omega) | exact nI_e (by omega) | decide))) (fun _ => (q_aload_n (pc' := 76) dX11_isBrought_75 rfl rfl (q_getR (pc' := 79) dX11_isBrought_76 rfl fr_RX11_51 ⟨by omega, rfl⟩ rfl (wM_36 hM) (by decide) (q_sipush (pc' := 82) _ dX11_isBrought_79 rfl kk_sipush_1104 (q_iload_n (pc' := 83) dX11_isBrought_82 rfl rfl (q_iload (pc' := 85) dX11_isBrought_83 rfl rfl (q_cSi (pc' := 88) dX11_isBrought_85 rfl ml_RX11_308 ys_X11_lineAt (by decide) (rn_X11_lineAt) rfl rfl (Nat.le_of_ble_eq_true rfl) (Nat.le_refl _) (q_iadd (pc' := 89) dX11_isBrought_88 rfl (q_ialde (pc' := 90) (1104 + (8 * d + x)) dX11_isBrought_89 rfl (by first | exact ⟨by omega, rfl⟩ | exact okaS hi hz (by decide) rfl | assumption) (by (first | (simp only [nI_add, pk_mul]; done) | (simp only [nI_add, pk_mul]; exact nI_e (by omega)) | exact nI_e (by omega))) (by omega) e1 ?_))))))))))))))
          refine q_ist_6 (pc' := 92) dX11_isBrought_90 rfl (by decide) rfl (q_aload_n (pc' := 93) dX11_isBrought_92 rfl rfl (q_getR (pc' := 96) dX11_isBrought_93 rfl fr_RX11_51 ⟨by omega, rfl⟩ rfl (wM_36 hM) (by decide) (q_sipush (pc' := 99) _ dX11_isBrought_96 rfl kk_sipush_768 (q_iload_n (pc' := 100) dX11_isBrought_99 rfl rfl (q_iload (pc' := 102) dX11_isBrought_100 rfl rfl (q_cSi (pc' := 105) dX11_isBrought_102 rfl ml_RX11_286 ys_X11_spot (by decide) (rn_X11_spot) rfl rfl (Nat.le_of_ble_eq_true rfl) (Nat.le_refl _) (q_iadd (pc' := 106) dX11_isBrought_105 rfl (q_ialde (pc' := 107) (768 + (32 * p + (Ak 3 (8 * d + x) - 1) % 32)) dX11_isBrought_106 rfl (by first | exact ⟨by omega, rfl⟩ | exact okaS hi hz (by decide) rfl | assumption) (by (first | (simp only [nI_add, pk_mul]; done) | (simp only [nI_add, pk_mul]; exact nI_e (by omega)) | exact nI_e (by omega))) (by omega) e2 (q_iconst (pc' := 108) _ dX11_isBrought_107 rfl kk_iconst_1 (q_bl_icmp_ne (p4 := 116) dX11_isBrought_108 dX11_isBrought_111 dX11_isBrought_112 dX11_isBrought_115 rfl rfl rfl rfl rfl ?_))))))))))
          rw [nI_dec (by omega) (by omega)]
          refine q_ist_7 (pc' := 118) dX11_isBrought_116 rfl (by decide) rfl (q_aload_n (pc' := 119) dX11_isBrought_118 rfl rfl (q_iload_n (pc' := 120) dX11_isBrought_119 rfl rfl (q_iload (pc' := 122) dX11_isBrought_120 rfl rfl (q_iload_n (pc' := 123) dX11_isBrought_122 rfl rfl (q_iload (pc' := 125) dX11_isBrought_123 rfl rfl (q_sVv (pc' := 128) dX11_isBrought_125 rfl ml_RX11_369 yv_X11_leaves (by decide) (rs_X11_leaves (k := x) hM hb0 hk hR0 hp (by omega) hd (by omega)) ⟨by omega, rfl⟩ rfl rfl (Nat.le_of_ble_eq_true rfl) (Nat.le_refl _) (fun I4 ⟨hF4, hR4⟩ => ?_)))))))
          refine q_aload_n (pc' := 129) dX11_isBrought_128 rfl rfl (q_iload_n (pc' := 130) dX11_isBrought_129 rfl rfl (q_iload (pc' := 132) dX11_isBrought_130 rfl rfl (q_iload_n (pc' := 133) dX11_isBrought_132 rfl rfl (q_iload (pc' := 135) dX11_isBrought_133 rfl rfl (q_iload (pc' := 137) dX11_isBrought_135 rfl rfl (q_iadd (pc' := 138) dX11_isBrought_137 rfl ?_))))))
          refine q_top (nI_add _ _) ?_
          refine q_sVv (pc' := 141) dX11_isBrought_138 rfl ml_RX11_320 yv_X11_holds (by decide) (rs_X11_holds (p := to) (v := b 2 d * i + x) hM hR4 (by omega) (by omega) h10 (by omega)) ⟨by omega, rfl⟩ rfl rfl (Nat.le_of_ble_eq_true rfl) (Nat.le_refl _) (fun I5 ⟨hF5, hR5⟩ => ?_)
          have e3 : bI (Ak 2 (32 * p + (Ak 3 (8 * d + x) - 1) % 32) == 1) = nI (Ak 2 (32 * p + (Ak 3 (8 * d + x) - 1) % 32)) := by
            have h9 : Ak 2 (32 * p + (Ak 3 (8 * d + x) - 1) % 32) = 0 ∨ Ak 2 (32 * p + (Ak 3 (8 * d + x) - 1) % 32) = 1 := by omega
            rcases h9 with h9 | h9 <;> rw [h9] <;> rfl
          refine q_aload_n (pc' := 142) dX11_isBrought_141 rfl rfl (q_getR (pc' := 145) dX11_isBrought_142 rfl fr_RX11_51 ⟨by omega, rfl⟩ rfl (wM_36 hM) (by decide) (q_sipush (pc' := 148) _ dX11_isBrought_145 rfl kk_sipush_768 (q_iload_n (pc' := 149) dX11_isBrought_148 rfl rfl (q_iload (pc' := 151) dX11_isBrought_149 rfl rfl (q_iload (pc' := 153) dX11_isBrought_151 rfl rfl (q_iadd (pc' := 154) dX11_isBrought_153 rfl ?_))))))
          refine q_top (nI_add _ _) ?_
          refine q_cSi (pc' := 157) dX11_isBrought_154 rfl ml_RX11_286 ys_X11_spot (by decide) (rn_X11_spot) rfl rfl (Nat.le_of_ble_eq_true rfl) (Nat.le_refl _) (q_iadd (pc' := 158) dX11_isBrought_157 rfl (q_iload (pc' := 160) dX11_isBrought_158 rfl rfl (q_cSi (pc' := 163) dX11_isBrought_160 rfl ml_RX11_255 ys_X11_truth (by decide) (rn_X11_truth) rfl rfl (Nat.le_of_ble_eq_true rfl) (Nat.le_refl _) ?_)))
          refine q_top e3 ?_
          refine q_iast (pc' := 164) (768 + (32 * to + b 2 d * i + x)) dX11_isBrought_163 rfl (by first | exact ⟨by omega, rfl⟩ | exact okaS hi hz (by decide) rfl | assumption) (by (first | (simp only [nI_add, pk_mul]; done) | (simp only [nI_add, pk_mul]; exact nI_e (by omega)) | exact nI_e (by omega))) (by omega) (q_inc_5 (pc' := 167) dX11_isBrought_164 rfl (by decide) rfl (q_goto (pc' := 64) dX11_isBrought_167 rfl ?_))
          refine ih2 _ _ _ (by omega) (((hF0.tr hF4).tr hF5).tr mF_up) ?_
          rw [show 32 * to + (b 2 d * i + x) = 32 * to + b 2 d * i + x by omega] at hR5
          exact rR_pd hR5 (by omega)
      exact loop (b 2 d) 0 I _ _ (by omega) mF.rf hR
  refine q_aload_n (pc' := 1) dX11_isBrought_0 rfl rfl (q_aload_n (pc' := 2) dX11_isBrought_1 rfl rfl (q_getR (pc' := 5) dX11_isBrought_2 rfl fr_RX11_32 ⟨by omega, rfl⟩ rfl (wM_30 hM) (by decide) (q_iload_n (pc' := 6) dX11_isBrought_5 rfl rfl (q_ialde (pc' := 7) _ dX11_isBrought_6 rfl (by first | exact ⟨by omega, rfl⟩ | exact okaS hi hz (by decide) rfl | assumption) rfl (by omega) hbd.2.1 (q_aload_n (pc' := 8) dX11_isBrought_7 rfl rfl (q_getR (pc' := 11) dX11_isBrought_8 rfl fr_RX11_35 ⟨by omega, rfl⟩ rfl (wM_31 hM) (by decide) (q_iload_n (pc' := 12) dX11_isBrought_11 rfl rfl (q_ialde (pc' := 13) _ dX11_isBrought_12 rfl (by first | exact ⟨by omega, rfl⟩ | exact okaS hi hz (by decide) rfl | assumption) rfl (by omega) hbd.2.2 (q_cVi (pc' := 16) dX11_isBrought_13 rfl ml_RX11_317 yv_X11_dealt (by decide) (rn_X11_dealt hM hb hk hR hA hs.2.1 (by omega)) ⟨by omega, rfl⟩ rfl rfl (Nat.le_of_ble_eq_true rfl) (Nat.le_refl _) ?_)))))))))
  cases hq : aDealt b A (b 2 d) (b 3 d) with
  | some q =>
    have hq2 := (lstN_lt hq).1
    refine q_ist_3 (pc' := 17) dX11_isBrought_16 rfl (by decide) rfl (q_iload_n (pc' := 18) dX11_isBrought_17 rfl rfl (q_iconst (pc' := 19) _ dX11_isBrought_18 rfl kk_iconst_m1 (q_icmp_ne (pc' := 22) (pt := 41) dX11_isBrought_19 rfl rfl (fun _ => ?_) (fun h9 => absurd h9 (nI_m1 (by omega))))))
    exact main (some q) (by unfold aBrTo; rw [hq])
  | none =>
    refine q_ist_3 (pc' := 17) dX11_isBrought_16 rfl (by decide) rfl (q_iload_n (pc' := 18) dX11_isBrought_17 rfl rfl (q_iconst (pc' := 19) _ dX11_isBrought_18 rfl kk_iconst_m1 (q_icmp_ne (pc' := 22) (pt := 41) dX11_isBrought_19 rfl rfl (fun h9 => absurd (by rfl) h9) (fun _ => (q_aload_n (pc' := 23) dX11_isBrought_22 rfl rfl (q_aload_n (pc' := 24) dX11_isBrought_23 rfl rfl (q_getR (pc' := 27) dX11_isBrought_24 rfl fr_RX11_32 ⟨by omega, rfl⟩ rfl (wM_30 hM) (by decide) (q_iload_n (pc' := 28) dX11_isBrought_27 rfl rfl (q_ialde (pc' := 29) _ dX11_isBrought_28 rfl (by first | exact ⟨by omega, rfl⟩ | exact okaS hi hz (by decide) rfl | assumption) rfl (by omega) hbd.2.1 (q_iconst (pc' := 30) _ dX11_isBrought_29 rfl kk_iconst_1 (q_aload_n (pc' := 31) dX11_isBrought_30 rfl rfl (q_getIe (pc' := 34) dX11_isBrought_31 rfl fr_RX11_240 ⟨by omega, rfl⟩ rfl (mB_0 hb) (q_ishl (pc' := 35) dX11_isBrought_34 rfl (q_iconst (pc' := 36) _ dX11_isBrought_35 rfl kk_iconst_1 ?_))))))))))))))
    refine q_isub (pc' := 37) dX11_isBrought_36 rfl ?_
    refine q_top (y := nI (2 ^ b 0 0 - 1)) (by rw [sh1 (by omega), pk_sub h2p]) ?_
    refine q_cVi (pc' := 40) dX11_isBrought_37 rfl ml_RX11_317 yv_X11_dealt (by decide) (rn_X11_dealt hM hb hk hR hA hs.2.1 (by omega)) ⟨by omega, rfl⟩ rfl rfl (Nat.le_of_ble_eq_true rfl) (Nat.le_refl _) (q_ist_3 (pc' := 41) dX11_isBrought_40 rfl (by decide) rfl ?_)
    exact main _ (by unfold aBrTo; rw [hq])
theorem rs_X11_queueLeaves {d q p : Nat} (hM : mj_wM R) (hb : mB I b) (hk : bOK b) (hR : rR (I 464) A) (hA : aOK A) (hd : d < b 0 2) (hq : q < 8) (hp : p < 8) (hh : A 3 (8 * d + q) ≠ 0) (hO : aQOK b A d q p) : RsV w l yX11_queueLeaves dd_X11_queueLeaves [.ref 452, .int (nI d), .int (nI q), .int (nI p)] (472, I, J, R) (fun I' => mF I I' ∧ rR (I' 464) (aQLv b A d q p)) := by
  have h10 : d < 10 := by have := hk.2.2.1; omega
  have h6 := hA.2.1 (8 * d + q) (by omega)
  have hc8 := hk.1.2
  have hv32 := hk.2.1.2
  have hsp := aSpread_lt b hk d q
  have hpl : aPl A (8 * d + q) p < 256 := by unfold aPl; omega
  have h8 := hA.1 _ hpl
  have e1 : I 464 (1104 + (8 * d + q)) = nI ((A 3 (8 * d + q) - 1) % 32) := ((hR _ (by omega)).trans (cE_hv (by omega))).trans (eV_p hh)
  have e2 : I 464 (768 + aPl A (8 * d + q) p) = nI (A 2 (aPl A (8 * d + q) p)) := (hR _ (by omega)).trans (cE_pd hpl)
  have hlv := rs_X11_leaves (w := w) (l := l) (J := J) (p := p) (v := (A 3 (8 * d + q) - 1) % 32) (k := q) hM hb hk hR hp (by omega) hd hq
  have hlv : RsV w l yX11_leaves dd_X11_leaves [.ref 452, .int (nI d), .int (nI q), .int (nI p), .int (nI ((A 3 (8 * d + q) - 1) % 32))] (472, I, J, R) (fun I' => mF I I' ∧ rR (I' 464) (aLeaves b A (8 * d + q) (aPl A (8 * d + q) p))) := hlv
  have hok1 : aOK (aLeaves b A (8 * d + q) (aPl A (8 * d + q) p)) := aOK_leaves hA (by omega)
  have h41 : aLeaves b A (8 * d + q) (aPl A (8 * d + q) p) 4 (8 * d + q) = A 4 (8 * d + q) := rfl
  refine rt_intro2 (L := [some (.ref 452), some (.int (nI d)), some (.int (nI q)), some (.int (nI p)), none, none, none, none, none, none]) ⟨by decide, rfl, (fun h => by cases h)⟩ (Nat.le_of_ble_eq_true rfl) rfl (fun Y Q hQ => ?_)
  unfold aQLv at hQ
  unfold aQOK at hO
  refine q_iload_n (pc' := 1) dX11_queueLeaves_0 rfl rfl (q_iload_n (pc' := 2) dX11_queueLeaves_1 rfl rfl (q_cSi (pc' := 5) dX11_queueLeaves_2 rfl ml_RX11_308 ys_X11_lineAt (by decide) (rn_X11_lineAt) rfl rfl (Nat.le_of_ble_eq_true rfl) (Nat.le_refl _) ?_))
  refine q_top (y := nI (8 * d + q)) (by (first | (simp only [nI_add, pk_mul]; done) | (simp only [nI_add, pk_mul]; exact nI_e (by omega)) | exact nI_e (by omega))) ?_
  refine q_ist_4 (pc' := 7) dX11_queueLeaves_5 rfl (by decide) rfl (q_aload_n (pc' := 8) dX11_queueLeaves_7 rfl rfl (q_getR (pc' := 11) dX11_queueLeaves_8 rfl fr_RX11_51 ⟨by omega, rfl⟩ rfl (wM_36 hM) (by decide) (q_sipush (pc' := 14) _ dX11_queueLeaves_11 rfl kk_sipush_1104 (q_iload (pc' := 16) dX11_queueLeaves_14 rfl rfl (q_iadd (pc' := 17) dX11_queueLeaves_16 rfl (q_ialde (pc' := 18) (1104 + (8 * d + q)) dX11_queueLeaves_17 rfl (by first | exact ⟨by omega, rfl⟩ | exact okaS hi hz (by decide) rfl | assumption) (by (first | (simp only [nI_add, pk_mul]; done) | (simp only [nI_add, pk_mul]; exact nI_e (by omega)) | exact nI_e (by omega))) (by omega) e1 (q_ist_5 (pc' := 20) dX11_queueLeaves_18 rfl (by decide) rfl (q_aload_n (pc' := 21) dX11_queueLeaves_20 rfl rfl (q_getR (pc' := 24) dX11_queueLeaves_21 rfl fr_RX11_51 ⟨by omega, rfl⟩ rfl (wM_36 hM) (by decide) (q_sipush (pc' := 27) _ dX11_queueLeaves_24 rfl kk_sipush_768 (q_iload_n (pc' := 28) dX11_queueLeaves_27 rfl rfl (q_iload (pc' := 30) dX11_queueLeaves_28 rfl rfl (q_cSi (pc' := 33) dX11_queueLeaves_30 rfl ml_RX11_286 ys_X11_spot (by decide) (rn_X11_spot) rfl rfl (Nat.le_of_ble_eq_true rfl) (Nat.le_refl _) ?_)))))))))))))
  refine q_iadd (pc' := 34) dX11_queueLeaves_33 rfl (q_ialde (pc' := 35) (768 + aPl A (8 * d + q) p) dX11_queueLeaves_34 rfl (by first | exact ⟨by omega, rfl⟩ | exact okaS hi hz (by decide) rfl | assumption) (by unfold aPl; rw [pk_mul, nI_add, nI_add]) (by omega) e2 (q_iconst (pc' := 36) _ dX11_queueLeaves_35 rfl kk_iconst_1 (q_bl_icmp_ne (p4 := 44) dX11_queueLeaves_36 dX11_queueLeaves_39 dX11_queueLeaves_40 dX11_queueLeaves_43 rfl rfl rfl rfl rfl ?_)))
  rw [nI_dec (by omega) (by omega)]
  refine q_ist_6 (pc' := 46) dX11_queueLeaves_44 rfl (by decide) rfl (q_aload_n (pc' := 47) dX11_queueLeaves_46 rfl rfl (q_iload_n (pc' := 48) dX11_queueLeaves_47 rfl rfl (q_iload_n (pc' := 49) dX11_queueLeaves_48 rfl rfl (q_iload_n (pc' := 50) dX11_queueLeaves_49 rfl rfl (q_iload (pc' := 52) dX11_queueLeaves_50 rfl rfl (q_sVv (pc' := 55) dX11_queueLeaves_52 rfl ml_RX11_369 yv_X11_leaves (by decide) hlv ⟨by omega, rfl⟩ rfl rfl (Nat.le_of_ble_eq_true rfl) (Nat.le_refl _) (fun I4 ⟨hF4, hR4⟩ => ?_)))))))
  generalize aLeaves b A (8 * d + q) (aPl A (8 * d + q) p) = A1 at *
  generalize A 2 (aPl A (8 * d + q) p) = was at *
  have hb4 := mB_F hF4 hb
  have e3 : bI (was == 1) = nI was := by
    have h9 : was = 0 ∨ was = 1 := by omega
    rcases h9 with h9 | h9 <;> rw [h9] <;> rfl
  refine q_aload_n (pc' := 56) dX11_queueLeaves_55 rfl rfl (q_aload_n (pc' := 57) dX11_queueLeaves_56 rfl rfl (q_iload_n (pc' := 58) dX11_queueLeaves_57 rfl rfl (q_iload_n (pc' := 59) dX11_queueLeaves_58 rfl rfl (q_cVi (pc' := 62) dX11_queueLeaves_59 rfl ml_RX11_324 yv_X11_spreadOf (by decide) (rn_X11_spreadOf hM hb4 hk hd hq) ⟨by omega, rfl⟩ rfl rfl (Nat.le_of_ble_eq_true rfl) (Nat.le_refl _) (q_cVi (pc' := 65) dX11_queueLeaves_62 rfl ml_RX11_327 yv_X11_leastOf (by decide) (rn_X11_leastOf hM hb4 hk hR4 hok1 (by omega)) ⟨by omega, rfl⟩ rfl rfl (Nat.le_of_ble_eq_true rfl) (Nat.le_refl _) ?_)))))
  cases hz : aLeast b A1 (aSpread b d q) with
  | none =>
    rw [hz] at hQ
    have r1 := rR_wa (x := was) (rR_held (x := 0) hR4 (show 8 * d + q < 80 by omega)) (show 8 * d + q < 80 by omega)
    refine q_ist_7 (pc' := 67) dX11_queueLeaves_65 rfl (by decide) rfl (q_iload (pc' := 69) dX11_queueLeaves_67 rfl rfl (q_iconst (pc' := 70) _ dX11_queueLeaves_69 rfl kk_iconst_m1 (q_icmp_ne (pc' := 73) (pt := 114) dX11_queueLeaves_70 rfl rfl (fun h9 => absurd (by rfl) h9) (fun _ => (q_aload_n (pc' := 74) dX11_queueLeaves_73 rfl rfl (q_getR (pc' := 77) dX11_queueLeaves_74 rfl fr_RX11_51 ⟨by omega, rfl⟩ rfl (wM_36 hM) (by decide) (q_sipush (pc' := 80) _ dX11_queueLeaves_77 rfl kk_sipush_1024 (q_iload (pc' := 82) dX11_queueLeaves_80 rfl rfl (q_iadd (pc' := 83) dX11_queueLeaves_82 rfl (q_iconst (pc' := 84) _ dX11_queueLeaves_83 rfl kk_iconst_m1 (q_iast (pc' := 85) (1024 + (8 * d + q)) dX11_queueLeaves_84 rfl (by first | exact ⟨by omega, rfl⟩ | exact okaS hi hz (by decide) rfl | assumption) (by (first | (simp only [nI_add, pk_mul]; done) | (simp only [nI_add, pk_mul]; exact nI_e (by omega)) | exact nI_e (by omega))) (by omega) (q_aload_n (pc' := 86) dX11_queueLeaves_85 rfl rfl (q_getR (pc' := 89) dX11_queueLeaves_86 rfl fr_RX11_51 ⟨by omega, rfl⟩ rfl (wM_36 hM) (by decide) (q_sipush (pc' := 92) _ dX11_queueLeaves_89 rfl kk_sipush_1104 ?_))))))))))))))
    refine q_iload (pc' := 94) dX11_queueLeaves_92 rfl rfl (q_iadd (pc' := 95) dX11_queueLeaves_94 rfl (q_iconst (pc' := 96) _ dX11_queueLeaves_95 rfl kk_iconst_m1 (q_iast (pc' := 97) (1104 + (8 * d + q)) dX11_queueLeaves_96 rfl (by first | exact ⟨by omega, rfl⟩ | exact okaS hi hz (by decide) rfl | assumption) (by (first | (simp only [nI_add, pk_mul]; done) | (simp only [nI_add, pk_mul]; exact nI_e (by omega)) | exact nI_e (by omega))) (by omega) (q_aload_n (pc' := 98) dX11_queueLeaves_97 rfl rfl (q_getR (pc' := 101) dX11_queueLeaves_98 rfl fr_RX11_51 ⟨by omega, rfl⟩ rfl (wM_36 hM) (by decide) (q_sipush (pc' := 104) _ dX11_queueLeaves_101 rfl kk_sipush_1424 (q_iload (pc' := 106) dX11_queueLeaves_104 rfl rfl (q_iadd (pc' := 107) dX11_queueLeaves_106 rfl (q_iload (pc' := 109) dX11_queueLeaves_107 rfl rfl (q_cSi (pc' := 112) dX11_queueLeaves_109 rfl ml_RX11_255 ys_X11_truth (by decide) (rn_X11_truth) rfl rfl (Nat.le_of_ble_eq_true rfl) (Nat.le_refl _) ?_))))))))))
    refine q_top e3 ?_
    exact q_iast (pc' := 113) (1424 + (8 * d + q)) dX11_queueLeaves_112 rfl (by first | exact ⟨by omega, rfl⟩ | exact okaS hi hz (by decide) rfl | assumption) (by (first | (simp only [nI_add, pk_mul]; done) | (simp only [nI_add, pk_mul]; exact nI_e (by omega)) | exact nI_e (by omega))) (by omega) (q_vret dX11_queueLeaves_113 rfl (hQ _ _ _ _ ⟨rfl, ⟨rfl, rfl⟩, hF4.tr ((mF_up.tr mF_up).tr mF_up), r1⟩))
  | some to =>
    have hto := (lstN_lt hz).1
    rw [hz] at hQ hO
    have e5 : I4 464 (1184 + (8 * d + q)) = eC (A 4 (8 * d + q)) := by rw [← h41]; exact (hR4 _ (by omega)).trans (cE_oc (by omega))
    have e6 : I4 464 (1264 + (8 * d + q)) = eV (A 4 (8 * d + q)) := by rw [← h41]; exact (hR4 _ (by omega)).trans (cE_ov (by omega))
    -- behind holds: what was PENDING
    have fin : ∀ A2 I5 there, aOK A2 → there < 32 → mF I I5 → rR (I5 464) A2 → (∀ I', mF I I' ∧ rR (I' 464) (aQend A2 d (8 * d + q) (32 * to + there) was) → Q none (472, I', J, R)) → Wq dd_X11_queueLeaves (mj_mk w l 472 Y) Q 176 [some (.ref 452), some (.int (nI d)), some (.int (nI q)), some (.int (nI p)), some (.int (nI (8 * d + q))), some (.int (nI ((A 3 (8 * d + q) - 1) % 32))), some (.int (bI (was == 1))), some (.int (nI to)), some (.int (nI there)), none] [] (472, I5, J, R) := by
      intro A2 I5 there hok2 hth hF5 hR5 hQ5
      unfold aQend at hQ5
      refine q_aload_n (pc' := 177) dX11_queueLeaves_176 rfl rfl (q_iload_n (pc' := 178) dX11_queueLeaves_177 rfl rfl (q_iload_n (pc' := 179) dX11_queueLeaves_178 rfl rfl (q_iload (pc' := 181) dX11_queueLeaves_179 rfl rfl (q_iload (pc' := 183) dX11_queueLeaves_181 rfl rfl (q_sVv (pc' := 186) dX11_queueLeaves_183 rfl ml_RX11_320 yv_X11_holds (by decide) (rs_X11_holds (p := to) (v := there) hM hR5 (by omega) hth h10 hq) ⟨by omega, rfl⟩ rfl rfl (Nat.le_of_ble_eq_true rfl) (Nat.le_refl _) (fun I6 ⟨hF6, hR6⟩ => ?_))))))
      refine q_iload (pc' := 188) dX11_queueLeaves_186 rfl rfl (q_ifb_eq (pc' := 191) (pt := 202) dX11_queueLeaves_188 rfl rfl (fun h3 => ?_) (fun h3 => ?_))
      · rw [if_neg (beq_eq_false_iff_ne.mp h3)] at hQ5
        exact q_vret dX11_queueLeaves_202 rfl (hQ5 _ ⟨hF5.tr hF6, hR6⟩)
      · rw [if_pos (beq_iff_eq.mp h3)] at hQ5
        refine q_aload_n (pc' := 192) dX11_queueLeaves_191 rfl rfl (q_iload_n (pc' := 193) dX11_queueLeaves_192 rfl rfl (q_iload (pc' := 195) dX11_queueLeaves_193 rfl rfl (q_iload (pc' := 197) dX11_queueLeaves_195 rfl rfl (q_sVi (pc' := 200) dX11_queueLeaves_197 rfl ml_RX11_359 yv_X11_pends (by decide) (rs_X11_pends (p := to) (v := there) hM hR6 (aOK_holds hok2 (by omega) (by omega)) h10 (by omega) hth) ⟨by omega, rfl⟩ rfl rfl (Nat.le_of_ble_eq_true rfl) (Nat.le_refl _) (fun x7 I7 ⟨hx7, hF7, hR7⟩ => ?_)))))
        exact q_ist_9 (pc' := 202) dX11_queueLeaves_200 rfl (by decide) rfl (q_vret dX11_queueLeaves_202 rfl (hQ5 _ ⟨(hF5.tr hF6).tr hF7, hR7⟩))
    refine q_ist_7 (pc' := 67) dX11_queueLeaves_65 rfl (by decide) rfl (q_iload (pc' := 69) dX11_queueLeaves_67 rfl rfl (q_iconst (pc' := 70) _ dX11_queueLeaves_69 rfl kk_iconst_m1 (q_icmp_ne (pc' := 73) (pt := 114) dX11_queueLeaves_70 rfl rfl (fun _ => ?_) (fun h9 => absurd h9 (nI_m1 (by omega))))))
    by_cases h1 : A 4 (8 * d + q) ≠ 0 ∧ (A 4 (8 * d + q) - 1) / 32 = to
    · dsimp only at hQ
      rw [if_pos h1] at hQ
      have e7 := e5.trans ((eC_eq (p := to) h6.2.1 (by omega)).mpr h1)
      have e8 := e6.trans (eV_p h1.1)
      have e9 : 32 * to + (A 4 (8 * d + q) - 1) % 32 = A 4 (8 * d + q) - 1 := by have := pl_e (A 4 (8 * d + q)); rw [h1.2] at this; exact this
      refine q_aload_n (pc' := 115) dX11_queueLeaves_114 rfl rfl (q_getR (pc' := 118) dX11_queueLeaves_115 rfl fr_RX11_51 ⟨by omega, rfl⟩ rfl (wM_36 hM) (by decide) (q_sipush (pc' := 121) _ dX11_queueLeaves_118 rfl kk_sipush_1184 (q_iload (pc' := 123) dX11_queueLeaves_121 rfl rfl (q_iadd (pc' := 124) dX11_queueLeaves_123 rfl (q_ialde (pc' := 125) (1184 + (8 * d + q)) dX11_queueLeaves_124 rfl (by first | exact ⟨by omega, rfl⟩ | exact okaS hi hz (by decide) rfl | assumption) (by (first | (simp only [nI_add, pk_mul]; done) | (simp only [nI_add, pk_mul]; exact nI_e (by omega)) | exact nI_e (by omega))) (by omega) e7 (q_iload (pc' := 127) dX11_queueLeaves_125 rfl rfl (q_icmp_ne (pc' := 130) (pt := 144) dX11_queueLeaves_127 rfl rfl (fun h9 => absurd (by (first | assumption | exact nI_le (by omega) (by omega) | exact nI_ge (by omega) (by omega) | exact nI_lt (by omega) (by omega) | exact nI_nlt (by omega) (by omega) | exact nI_ne (by omega) (by omega) (by omega) | exact nI_e (by omega) | decide)) h9) (fun _ => (q_aload_n (pc' := 131) dX11_queueLeaves_130 rfl rfl (q_getR (pc' := 134) dX11_queueLeaves_131 rfl fr_RX11_51 ⟨by omega, rfl⟩ rfl (wM_36 hM) (by decide) (q_sipush (pc' := 137) _ dX11_queueLeaves_134 rfl kk_sipush_1264 (q_iload (pc' := 139) dX11_queueLeaves_137 rfl rfl (q_iadd (pc' := 140) dX11_queueLeaves_139 rfl (q_ialde (pc' := 141) (1264 + (8 * d + q)) dX11_queueLeaves_140 rfl (by first | exact ⟨by omega, rfl⟩ | exact okaS hi hz (by decide) rfl | assumption) (by (first | (simp only [nI_add, pk_mul]; done) | (simp only [nI_add, pk_mul]; exact nI_e (by omega)) | exact nI_e (by omega))) (by omega) e8 ?_))))))))))))))
      refine q_goto (pc' := 152) dX11_queueLeaves_141 rfl (q_ist_8 (pc' := 154) dX11_queueLeaves_152 rfl (by decide) rfl (q_aload_n (pc' := 155) dX11_queueLeaves_154 rfl rfl (q_getR (pc' := 158) dX11_queueLeaves_155 rfl fr_RX11_51 ⟨by omega, rfl⟩ rfl (wM_36 hM) (by decide) (q_sipush (pc' := 161) _ dX11_queueLeaves_158 rfl kk_sipush_1184 (q_iload (pc' := 163) dX11_queueLeaves_161 rfl rfl (q_iadd (pc' := 164) dX11_queueLeaves_163 rfl (q_ialde (pc' := 165) (1184 + (8 * d + q)) dX11_queueLeaves_164 rfl (by first | exact ⟨by omega, rfl⟩ | exact okaS hi hz (by decide) rfl | assumption) (by (first | (simp only [nI_add, pk_mul]; done) | (simp only [nI_add, pk_mul]; exact nI_e (by omega)) | exact nI_e (by omega))) (by omega) e7 (q_iload (pc' := 167) dX11_queueLeaves_165 rfl rfl (q_icmp_ne (pc' := 170) (pt := 176) dX11_queueLeaves_167 rfl rfl (fun h9 => absurd (by (first | assumption | exact nI_le (by omega) (by omega) | exact nI_ge (by omega) (by omega) | exact nI_lt (by omega) (by omega) | exact nI_nlt (by omega) (by omega) | exact nI_ne (by omega) (by omega) (by omega) | exact nI_e (by omega) | decide)) h9) (fun _ => ?_))))))))))
      refine q_aload_n (pc' := 171) dX11_queueLeaves_170 rfl rfl (q_iload_n (pc' := 172) dX11_queueLeaves_171 rfl rfl (q_iload_n (pc' := 173) dX11_queueLeaves_172 rfl rfl (q_sVv (pc' := 176) dX11_queueLeaves_173 rfl ml_RX11_337 yv_X11_noOld (by decide) (rs_X11_noOld hM hR4 h10 hq) ⟨by omega, rfl⟩ rfl rfl (Nat.le_of_ble_eq_true rfl) (Nat.le_refl _) (fun I5 ⟨hF5, hR5⟩ => ?_))))
      refine fin _ I5 _ (aOK_noOld hok1) (by omega) (hF4.tr hF5) hR5 (fun I' h => ?_)
      rw [e9] at h
      exact hQ _ _ _ _ ⟨rfl, ⟨rfl, rfl⟩, h⟩
    · dsimp only at hQ
      rw [if_neg h1] at hQ
      obtain ⟨v, hv⟩ := hO to rfl h1
      have hv2 := ffi_some hv
      rw [hv] at hQ
      have h2 : ¬ eC (A 4 (8 * d + q)) = nI to := fun z => h1 ((eC_eq h6.2.1 (by omega)).mp z)
      refine q_aload_n (pc' := 115) dX11_queueLeaves_114 rfl rfl (q_getR (pc' := 118) dX11_queueLeaves_115 rfl fr_RX11_51 ⟨by omega, rfl⟩ rfl (wM_36 hM) (by decide) (q_sipush (pc' := 121) _ dX11_queueLeaves_118 rfl kk_sipush_1184 (q_iload (pc' := 123) dX11_queueLeaves_121 rfl rfl (q_iadd (pc' := 124) dX11_queueLeaves_123 rfl (q_ialde (pc' := 125) (1184 + (8 * d + q)) dX11_queueLeaves_124 rfl (by first | exact ⟨by omega, rfl⟩ | exact okaS hi hz (by decide) rfl | assumption) (by (first | (simp only [nI_add, pk_mul]; done) | (simp only [nI_add, pk_mul]; exact nI_e (by omega)) | exact nI_e (by omega))) (by omega) e5 (q_iload (pc' := 127) dX11_queueLeaves_125 rfl rfl (q_icmp_ne (pc' := 130) (pt := 144) dX11_queueLeaves_127 rfl rfl (fun _ => (q_aload_n (pc' := 145) dX11_queueLeaves_144 rfl rfl (q_iload_n (pc' := 146) dX11_queueLeaves_145 rfl rfl (q_iload_n (pc' := 147) dX11_queueLeaves_146 rfl rfl (q_iload (pc' := 149) dX11_queueLeaves_147 rfl rfl (q_cVi (pc' := 152) dX11_queueLeaves_149 rfl ml_RX11_330 yv_X11_reservedAt (by decide) (rn_X11_reservedAt (p := to) hM hb4 hk hR4 hok1 h10 hq (by omega)) ⟨by omega, rfl⟩ rfl rfl (Nat.le_of_ble_eq_true rfl) (Nat.le_refl _) ?_)))))) (fun h9 => absurd h9 (h2)))))))))
      rw [hv]
      refine q_ist_8 (pc' := 154) dX11_queueLeaves_152 rfl (by decide) rfl (q_aload_n (pc' := 155) dX11_queueLeaves_154 rfl rfl (q_getR (pc' := 158) dX11_queueLeaves_155 rfl fr_RX11_51 ⟨by omega, rfl⟩ rfl (wM_36 hM) (by decide) (q_sipush (pc' := 161) _ dX11_queueLeaves_158 rfl kk_sipush_1184 (q_iload (pc' := 163) dX11_queueLeaves_161 rfl rfl (q_iadd (pc' := 164) dX11_queueLeaves_163 rfl (q_ialde (pc' := 165) (1184 + (8 * d + q)) dX11_queueLeaves_164 rfl (by first | exact ⟨by omega, rfl⟩ | exact okaS hi hz (by decide) rfl | assumption) (by (first | (simp only [nI_add, pk_mul]; done) | (simp only [nI_add, pk_mul]; exact nI_e (by omega)) | exact nI_e (by omega))) (by omega) e5 (q_iload (pc' := 167) dX11_queueLeaves_165 rfl rfl (q_icmp_ne (pc' := 170) (pt := 176) dX11_queueLeaves_167 rfl rfl (fun _ => ?_) (fun h9 => absurd h9 (h2))))))))))
      exact fin A1 I4 v hok1 (by omega) hF4 hR4 (fun I' h => hQ _ _ _ _ ⟨rfl, ⟨rfl, rfl⟩, h⟩)
end M13
