/-! ===== the reference: counting ===== -/
section M2
variable {w : mj_Wd} {l : Launch} {I : mj_M} {J : mj_J} {R : mj_R} {b A : St}
/-- how many VECTORS of a CPU are something -/
def aCnt (b A : St) (p s : Nat) : Nat := cntN (fun v => A 0 (32 * p + v) == s) (b 0 1)
def mVS (I : mj_M) (A : St) : Prop := ∀ k, k < 256 → I 464 k = nI (A 0 k) ∧ A 0 k < 5
theorem rn_X11_manyOf {p s : Nat} (hM : mj_wM R) (hb : mB I b) (hk : bOK b) (hV : mVS I A) (hp : p < 8) (hs : s < 5) : Rn w l yX11_manyOf dd_X11_manyOf [.ref 452, .int (nI p), .int (nI s)] (472, I, J, R) (some (.int (nI (aCnt b A p s)))) (472, I, J, R) := by
  have hv := hk.2.1.2
  refine rn_intro (L := [some (.ref 452), some (.int (nI p)), some (.int (nI s)), none, none]) ⟨by decide, rfl, (fun h => by cases h)⟩ (Nat.le_refl _) (Nat.le_of_ble_eq_true rfl) rfl (fun Y => ?_)
  refine q_iconst (pc' := 1) _ dX11_manyOf_0 rfl kk_iconst_0 (q_ist_3 (pc' := 2) dX11_manyOf_1 rfl (by decide) rfl (q_iconst (pc' := 3) _ dX11_manyOf_2 rfl kk_iconst_0 (q_ist_4 (pc' := 5) dX11_manyOf_3 rfl (by decide) rfl ?_)))
  have loop : ∀ m k, k + m = b 0 1 → Wq dd_X11_manyOf (mj_mk w l 472 Y) (fun v2 h2 => v2 = some (.int (nI (aCnt b A p s))) ∧ h2 = (472, I, J, R)) 5 [some (.ref 452), some (.int (nI p)), some (.int (nI s)), some (.int (nI (cntN (fun v => A 0 (32 * p + v) == s) k))), some (.int (nI k))] [] (472, I, J, R) := by
    intro m
    induction m with
    | zero =>
      intro k hkm
      have : k = b 0 1 := by omega
      subst this
      exact q_iload (pc' := 7) dX11_manyOf_5 rfl rfl (q_aload_n (pc' := 8) dX11_manyOf_7 rfl rfl (q_getIe (pc' := 11) dX11_manyOf_8 rfl fr_RX11_243 ⟨by omega, rfl⟩ rfl (mB_1 hb) (q_icmp_ge (pc' := 14) (pt := 48) dX11_manyOf_11 rfl rfl (fun _ => (q_iload_n (pc' := 49) dX11_manyOf_48 rfl rfl (q_iret dX11_manyOf_49 rfl ⟨rfl, rfl⟩))) (fun h9 => absurd (by (first | assumption | exact nI_le (by omega) (by omega) | exact nI_ge (by omega) (by omega) | exact nI_lt (by omega) (by omega) | exact nI_nlt (by omega) (by omega) | exact nI_ne (by omega) (by omega) (by omega) | exact nI_e (by omega) | decide)) h9))))
    | succ m ih =>
      intro k hkm
      have h5 := hV (32 * p + k) (by omega)
      refine q_iload (pc' := 7) dX11_manyOf_5 rfl rfl (q_aload_n (pc' := 8) dX11_manyOf_7 rfl rfl (q_getIe (pc' := 11) dX11_manyOf_8 rfl fr_RX11_243 ⟨by omega, rfl⟩ rfl (mB_1 hb) (q_icmp_ge (pc' := 14) (pt := 48) dX11_manyOf_11 rfl rfl (fun h9 => absurd h9 (by (first | assumption | exact nI_le (by omega) (by omega) | exact nI_ge (by omega) (by omega) | exact nI_lt (by omega) (by omega) | exact nI_nlt (by omega) (by omega) | exact nI_ne (by omega) (by omega) (by omega) | exact nI_e (by omega) | decide))) (fun _ => (q_iload_n (pc' := 15) dX11_manyOf_14 rfl rfl (q_aload_n (pc' := 16) dX11_manyOf_15 rfl rfl (q_getR (pc' := 19) dX11_manyOf_16 rfl fr_RX11_51 ⟨by omega, rfl⟩ rfl (wM_36 hM) (by decide) (q_iconst (pc' := 20) _ dX11_manyOf_19 rfl kk_iconst_0 (q_iload_n (pc' := 21) dX11_manyOf_20 rfl rfl (q_iload (pc' := 23) dX11_manyOf_21 rfl rfl (q_cSi (pc' := 26) dX11_manyOf_23 rfl ml_RX11_286 ys_X11_spot (by decide) (rn_X11_spot) rfl rfl (Nat.le_of_ble_eq_true rfl) (Nat.le_refl _) (q_iadd (pc' := 27) dX11_manyOf_26 rfl (q_ialde (pc' := 28) (32 * p + k) dX11_manyOf_27 rfl (by first | exact ⟨by omega, rfl⟩ | exact okaS hi hz (by decide) rfl | assumption) (by (simp only [nI_add, pk_mul]; first | rfl | exact nI_e (by omega))) (by omega) h5.1 (q_iload_n (pc' := 29) dX11_manyOf_28 rfl rfl ?_))))))))))))))
      refine q_bl_icmp_ne (p4 := 37) dX11_manyOf_29 dX11_manyOf_32 dX11_manyOf_33 dX11_manyOf_36 rfl rfl rfl rfl rfl (q_cSi (pc' := 40) dX11_manyOf_37 rfl ml_RX11_255 ys_X11_truth (by decide) (rn_X11_truth) rfl rfl (Nat.le_of_ble_eq_true rfl) (Nat.le_refl _) (q_iadd (pc' := 41) dX11_manyOf_40 rfl ?_))
      refine q_top (y := nI (cntN (fun v => A 0 (32 * p + v) == s) (k + 1))) (by rw [nI_dec (by omega) (by omega)]; exact nI_cnt (fun v => A 0 (32 * p + v) == s) k) ?_
      refine q_ist_3 (pc' := 42) dX11_manyOf_41 rfl (by decide) rfl (q_inc_4 (pc' := 45) dX11_manyOf_42 rfl (by decide) rfl (q_goto (pc' := 5) dX11_manyOf_45 rfl ?_))
      exact ih (k + 1) (by omega)
  exact loop (b 0 1) 0 (by omega)
end M2
