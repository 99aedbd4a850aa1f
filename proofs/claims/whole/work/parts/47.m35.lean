/-! ===== the reference: a known DEVICE ===== -/
/-- the last DEVICE of this name -/
def dLast (b : St) (x : Nat) : Nat → Option Nat
  | 0 => none
  | k + 1 => if b 5 k = x then some k else dLast b x k
theorem dLast_lt {b : St} {x k d : Nat} (h : dLast b x k = some d) : d < k ∧ b 5 d = x := by
  induction k with
  | zero => cases h
  | succ k ih =>
    unfold dLast at h
    split at h
    · rename_i hc; cases h; exact ⟨Nat.lt_succ_self _, hc⟩
    · have := ih h; exact ⟨Nat.lt_succ_of_lt this.1, this.2⟩
def kWd (K : Nat → Nat) : Nat := if K 8 = 0 then K 12 else 0
def kKd1 (b : St) (K : Nat → Nat) : Nat → Nat := if kNm K 8 = 0 ∧ dLast b (kWd K) (b 0 2) = none then kW (kNm K) 3 else kNm K
def kKd (T : Nat → Nat) (sz : Nat) (b : St) (K : Nat → Nat) : Nat → Nat := if kKd1 b K 8 = 0 then tkK T sz (kKd1 b K) else kKd1 b K
theorem kOK_kd1 {sz : Nat} {b : St} {K : Nat → Nat} (h : kOK sz K) : kOK sz (kKd1 b K) := by
  unfold kKd1
  split
  · exact kOK_w (kOK_nm h) (by decide)
  · exact kOK_nm h
theorem kOK_kd {T : Nat → Nat} {sz : Nat} {b : St} {K : Nat → Nat} (h : kOK sz K) : kOK sz (kKd T sz b K) := by
  unfold kKd
  split
  · exact kOK_tk (kOK_kd1 h)
  · exact kOK_kd1 h
section M35
variable {w : mj_Wd} {l : Launch} {I : mj_M} {J : mj_J} {R : mj_R} {b A : St} {T : Nat → Nat} {sz t : Nat} {K : Nat → Nat}
theorem rt_X11_knownDevice (hM : mj_wM R) (hb : mB I b) (hB : bOK b) (hN : bNm b) (hn : mN I J b) (h : mRd I J T sz K) (hk : kOK sz K) : RtI w l yX11_knownDevice dd_X11_knownDevice [.ref 452] (472, I, J, R) (fun r I' J' R' => r = oI (dLast b (kWd K) (b 0 2)) ∧ mRd I' J' T sz (kKd T sz b K) ∧ mRf I J I' J' ∧ R' = R) := by
  have h10 := hB.2.2.1
  have hwd : kWd K < 2 ^ 63 := by
    unfold kWd
    split
    · exact hk.2.2.2.2.1
    · decide
  refine rt_intro2 (L := [some (.ref 452), none, none, none, none]) ⟨by decide, rfl, (fun h => by cases h)⟩ (Nat.le_of_ble_eq_true rfl) rfl (fun Y Q hQ => ?_)
  refine q_aload_n (pc' := 1) dX11_knownDevice_0 rfl rfl (q_sVl (pc' := 4) dX11_knownDevice_1 rfl ml_RX11_224 yv_X11_nameHere (by decide) (rs_X11_nameHere h hk) ⟨by omega, rfl⟩ rfl rfl (Nat.le_of_ble_eq_true rfl) (Nat.le_refl _) (fun x1 I1 ⟨r1, h1, f1⟩ => ?_))
  have rw1 : x1 = nJ (kWd K) := by rw [r1]; unfold kWd; split <;> rfl
  rw [rw1]
  have hkn := kOK_nm hk
  have e22 : I1 452 22 = nI (b 0 2) := by rw [f1.2.1 22 (by decide)]; exact mB_2 hb
  have hkd1 := kOK_kd1 (b := b) hk
  have fin : ∀ I2, mRd I2 J T sz (kKd1 b K) → mRf I J I2 J → ∀ o4, Wq dd_X11_knownDevice (mj_mk w l 472 Y) Q 57 [some (.ref 452), some (.long (nJ (kWd K))), none, some (.int (oI (dLast b (kWd K) (b 0 2)))), o4] [] (472, I2, J, R) := by
    intro I2 h2 f2 o4
    unfold kKd at hQ
    by_cases g8 : kKd1 b K 8 = 0
    · rw [if_pos g8] at hQ
      refine q_aload_n (pc' := 58) dX11_knownDevice_57 rfl rfl (q_cVi (pc' := 61) dX11_knownDevice_58 rfl ml_RX11_182 yv_X11_isGood (by decide) (rn_good h2 hkd1) ⟨by omega, rfl⟩ rfl rfl (Nat.le_of_ble_eq_true rfl) (Nat.le_refl _) (q_ifb_eq (pc' := 64) (pt := 68) dX11_knownDevice_61 rfl rfl (fun h9 => Bool.noConfusion (Eq.trans (Eq.symm (beq_iff_eq.mpr g8)) h9)) (fun _ => (q_aload_n (pc' := 65) dX11_knownDevice_64 rfl rfl (q_tVv (pc' := 68) dX11_knownDevice_65 rfl ml_RX11_186 yv_X11_goOn (by decide) (rt_X11_goOn hM h2 hkd1.1) ⟨by omega, rfl⟩ rfl rfl (Nat.le_of_ble_eq_true rfl) (Nat.le_refl _) (fun I3 J3 R3 ⟨h3, f3, eR⟩ => ?_))))))
      rw [eR]
      exact q_iload_n (pc' := 69) dX11_knownDevice_68 rfl rfl (q_iret dX11_knownDevice_69 rfl (hQ _ _ _ _ ⟨_, rfl, rfl, h3, f2.tr f3, rfl⟩))
    · rw [if_neg g8] at hQ
      exact q_aload_n (pc' := 58) dX11_knownDevice_57 rfl rfl (q_cVi (pc' := 61) dX11_knownDevice_58 rfl ml_RX11_182 yv_X11_isGood (by decide) (rn_good h2 hkd1) ⟨by omega, rfl⟩ rfl rfl (Nat.le_of_ble_eq_true rfl) (Nat.le_refl _) (q_ifb_eq (pc' := 64) (pt := 68) dX11_knownDevice_61 rfl rfl (fun _ => (q_iload_n (pc' := 69) dX11_knownDevice_68 rfl rfl (q_iret dX11_knownDevice_69 rfl (hQ _ _ _ _ ⟨_, rfl, rfl, h2, f2, rfl⟩)))) (fun h9 => Bool.noConfusion (Eq.trans (Eq.symm (beq_eq_false_iff_ne.mpr g8)) h9))))
  refine q_lst_1 (pc' := 5) dX11_knownDevice_4 rfl (by decide) rfl (q_iconst (pc' := 6) _ dX11_knownDevice_5 rfl kk_iconst_m1 (q_ist_3 (pc' := 7) dX11_knownDevice_6 rfl (by decide) rfl (q_iconst (pc' := 8) _ dX11_knownDevice_7 rfl kk_iconst_0 (q_ist_4 (pc' := 10) dX11_knownDevice_8 rfl (by decide) rfl ?_))))
  have loop : ∀ m k, k + m = b 0 2 → Wq dd_X11_knownDevice (mj_mk w l 472 Y) Q 10 [some (.ref 452), some (.long (nJ (kWd K))), none, some (.int (oI (dLast b (kWd K) k))), some (.int (nI k))] [] (472, I1, J, R) := by
    intro m
    induction m with
    | zero =>
      intro k hkm
      have hkz : k = b 0 2 := by omega
      subst hkz
      by_cases g8 : kNm K 8 = 0
      · cases hd : dLast b (kWd K) (b 0 2) with
        | none =>
          rw [hd] at fin
          have e1 : kKd1 b K = kW (kNm K) 3 := if_pos ⟨g8, hd⟩
          refine q_iload (pc' := 12) dX11_knownDevice_10 rfl rfl (q_aload_n (pc' := 13) dX11_knownDevice_12 rfl rfl (q_getIe (pc' := 16) dX11_knownDevice_13 rfl fr_RX11_252 ⟨by omega, rfl⟩ rfl e22 (q_icmp_ge (pc' := 19) (pt := 40) dX11_knownDevice_16 rfl rfl (fun _ => (q_aload_n (pc' := 41) dX11_knownDevice_40 rfl rfl (q_cVi (pc' := 44) dX11_knownDevice_41 rfl ml_RX11_182 yv_X11_isGood (by decide) (rn_good h1 hkn) ⟨by omega, rfl⟩ rfl rfl (Nat.le_of_ble_eq_true rfl) (Nat.le_refl _) (q_ifb_eq (pc' := 47) (pt := 57) dX11_knownDevice_44 rfl rfl (fun h9 => Bool.noConfusion (Eq.trans (Eq.symm (beq_iff_eq.mpr g8)) h9)) (fun _ => (q_iload_n (pc' := 48) dX11_knownDevice_47 rfl rfl (q_iconst (pc' := 49) _ dX11_knownDevice_48 rfl kk_iconst_m1 (q_icmp_ne (pc' := 52) (pt := 57) dX11_knownDevice_49 rfl rfl (fun h9 => absurd (rfl) h9) (fun _ => (q_aload_n (pc' := 53) dX11_knownDevice_52 rfl rfl (q_iconst (pc' := 54) _ dX11_knownDevice_53 rfl kk_iconst_3 (q_sVv (pc' := 57) dX11_knownDevice_54 rfl ml_RX11_175 yv_X11_wrong (by decide) (rs_wrong (x := 3) h1 hkn (by decide)) ⟨by omega, rfl⟩ rfl rfl (Nat.le_of_ble_eq_true rfl) (Nat.le_refl _) (fun I2 ⟨h2, f2⟩ => ?_))))))))))))) (fun h9 => absurd (by (first | assumption | exact nI_le (by omega) (by omega) | exact nI_ge (by omega) (by omega) | exact nI_lt (by omega) (by omega) | exact nI_nlt (by omega) (by omega) | exact nI_ne (by omega) (by omega) (by omega) | exact nI_e (by omega) | decide)) h9))))
          exact fin I2 (by rw [e1]; exact h2) (f1.tr f2) _
        | some d =>
          have hd2 := dLast_lt hd
          have e1 : kKd1 b K = kNm K := if_neg (fun q => by rw [hd] at q; cases q.2)
          rw [hd] at fin
          refine q_iload (pc' := 12) dX11_knownDevice_10 rfl rfl (q_aload_n (pc' := 13) dX11_knownDevice_12 rfl rfl (q_getIe (pc' := 16) dX11_knownDevice_13 rfl fr_RX11_252 ⟨by omega, rfl⟩ rfl e22 (q_icmp_ge (pc' := 19) (pt := 40) dX11_knownDevice_16 rfl rfl (fun _ => (q_aload_n (pc' := 41) dX11_knownDevice_40 rfl rfl (q_cVi (pc' := 44) dX11_knownDevice_41 rfl ml_RX11_182 yv_X11_isGood (by decide) (rn_good h1 hkn) ⟨by omega, rfl⟩ rfl rfl (Nat.le_of_ble_eq_true rfl) (Nat.le_refl _) (q_ifb_eq (pc' := 47) (pt := 57) dX11_knownDevice_44 rfl rfl (fun h9 => Bool.noConfusion (Eq.trans (Eq.symm (beq_iff_eq.mpr g8)) h9)) (fun _ => (q_iload_n (pc' := 48) dX11_knownDevice_47 rfl rfl (q_iconst (pc' := 49) _ dX11_knownDevice_48 rfl kk_iconst_m1 (q_icmp_ne (pc' := 52) (pt := 57) dX11_knownDevice_49 rfl rfl (fun _ => ?_) (fun h9 => absurd h9 (nI_m1 (by omega))))))))))) (fun h9 => absurd (by (first | assumption | exact nI_le (by omega) (by omega) | exact nI_ge (by omega) (by omega) | exact nI_lt (by omega) (by omega) | exact nI_nlt (by omega) (by omega) | exact nI_ne (by omega) (by omega) (by omega) | exact nI_e (by omega) | decide)) h9))))
          exact fin I1 (by rw [e1]; exact h1) f1 _
      · have e1 : kKd1 b K = kNm K := if_neg (fun q => g8 q.1)
        refine q_iload (pc' := 12) dX11_knownDevice_10 rfl rfl (q_aload_n (pc' := 13) dX11_knownDevice_12 rfl rfl (q_getIe (pc' := 16) dX11_knownDevice_13 rfl fr_RX11_252 ⟨by omega, rfl⟩ rfl e22 (q_icmp_ge (pc' := 19) (pt := 40) dX11_knownDevice_16 rfl rfl (fun _ => (q_aload_n (pc' := 41) dX11_knownDevice_40 rfl rfl (q_cVi (pc' := 44) dX11_knownDevice_41 rfl ml_RX11_182 yv_X11_isGood (by decide) (rn_good h1 hkn) ⟨by omega, rfl⟩ rfl rfl (Nat.le_of_ble_eq_true rfl) (Nat.le_refl _) (q_ifb_eq (pc' := 47) (pt := 57) dX11_knownDevice_44 rfl rfl (fun _ => ?_) (fun h9 => Bool.noConfusion (Eq.trans (Eq.symm (beq_eq_false_iff_ne.mpr g8)) h9)))))) (fun h9 => absurd (by (first | assumption | exact nI_le (by omega) (by omega) | exact nI_ge (by omega) (by omega) | exact nI_lt (by omega) (by omega) | exact nI_nlt (by omega) (by omega) | exact nI_ne (by omega) (by omega) (by omega) | exact nI_e (by omega) | decide)) h9))))
        exact fin I1 (by rw [e1]; exact h1) f1 _
    | succ m ih =>
      intro k hkm
      have hs1 := bNm_lt hN (show k < b 0 2 by omega)
      have ej := (hn k (by omega)).2
      have next := ih (k + 1) (by omega)
      unfold dLast at next
      by_cases hc : b 5 k = kWd K
      · rw [if_pos hc] at next
        refine q_iload (pc' := 12) dX11_knownDevice_10 rfl rfl (q_aload_n (pc' := 13) dX11_knownDevice_12 rfl rfl (q_getIe (pc' := 16) dX11_knownDevice_13 rfl fr_RX11_252 ⟨by omega, rfl⟩ rfl e22 (q_icmp_ge (pc' := 19) (pt := 40) dX11_knownDevice_16 rfl rfl (fun h9 => absurd h9 (by (first | assumption | exact nI_le (by omega) (by omega) | exact nI_ge (by omega) (by omega) | exact nI_lt (by omega) (by omega) | exact nI_nlt (by omega) (by omega) | exact nI_ne (by omega) (by omega) (by omega) | exact nI_e (by omega) | decide))) (fun _ => (q_aload_n (pc' := 20) dX11_knownDevice_19 rfl rfl (q_getR (pc' := 23) dX11_knownDevice_20 rfl fr_RX11_48 ⟨by omega, rfl⟩ rfl (wM_35 hM) (by decide) (q_iload (pc' := 25) dX11_knownDevice_23 rfl rfl (q_lalde (pc' := 26) _ dX11_knownDevice_25 rfl (by first | exact ⟨by omega, rfl⟩ | exact okaS hi hz (by decide) rfl | assumption) rfl (by omega) ej (q_lload_n (pc' := 27) dX11_knownDevice_26 rfl rfl (q_lcmp (pc' := 28) dX11_knownDevice_27 rfl (q_if_ne (pc' := 31) (pt := 34) dX11_knownDevice_28 rfl rfl (fun h9 => absurd ((lg_cmp_eq _ _).mpr (by rw [hc])) h9) (fun _ => (q_iload (pc' := 33) dX11_knownDevice_31 rfl rfl (q_ist_3 (pc' := 34) dX11_knownDevice_33 rfl (by decide) rfl (q_inc_4 (pc' := 37) dX11_knownDevice_34 rfl (by decide) rfl ?_)))))))))))))))
        refine q_goto (pc' := 10) dX11_knownDevice_37 rfl ?_
        exact next
      · rw [if_neg hc] at next
        refine q_iload (pc' := 12) dX11_knownDevice_10 rfl rfl (q_aload_n (pc' := 13) dX11_knownDevice_12 rfl rfl (q_getIe (pc' := 16) dX11_knownDevice_13 rfl fr_RX11_252 ⟨by omega, rfl⟩ rfl e22 (q_icmp_ge (pc' := 19) (pt := 40) dX11_knownDevice_16 rfl rfl (fun h9 => absurd h9 (by (first | assumption | exact nI_le (by omega) (by omega) | exact nI_ge (by omega) (by omega) | exact nI_lt (by omega) (by omega) | exact nI_nlt (by omega) (by omega) | exact nI_ne (by omega) (by omega) (by omega) | exact nI_e (by omega) | decide))) (fun _ => (q_aload_n (pc' := 20) dX11_knownDevice_19 rfl rfl (q_getR (pc' := 23) dX11_knownDevice_20 rfl fr_RX11_48 ⟨by omega, rfl⟩ rfl (wM_35 hM) (by decide) (q_iload (pc' := 25) dX11_knownDevice_23 rfl rfl (q_lalde (pc' := 26) _ dX11_knownDevice_25 rfl (by first | exact ⟨by omega, rfl⟩ | exact okaS hi hz (by decide) rfl | assumption) rfl (by omega) ej (q_lload_n (pc' := 27) dX11_knownDevice_26 rfl rfl (q_lcmp (pc' := 28) dX11_knownDevice_27 rfl (q_if_ne (pc' := 31) (pt := 34) dX11_knownDevice_28 rfl rfl (fun _ => (q_inc_4 (pc' := 37) dX11_knownDevice_34 rfl (by decide) rfl (q_goto (pc' := 10) dX11_knownDevice_37 rfl ?_))) (fun h9 => absurd h9 (fun q => hc ((nJ_eq (by omega) hwd).mp ((lg_cmp_eq _ _).mp q)))))))))))))))
        exact next
  exact loop (b 0 2) 0 (by omega)
end M35
