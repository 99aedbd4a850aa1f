/-! ===== the reference: blocks, the least loaded, queues ===== -/
section M3
variable {w : mj_Wd} {l : Launch} {I : mj_M} {J : mj_J} {R : mj_R} {b A : St}
/-- whether all below n are taken -/
def allN (P : Nat → Bool) : Nat → Bool
  | 0 => true
  | n + 1 => allN P n && P n
theorem allN_iff {P : Nat → Bool} {n : Nat} : allN P n = true ↔ ∀ k, k < n → P k = true := by
  induction n with
  | zero => exact ⟨fun _ k hk => by omega, fun _ => rfl⟩
  | succ n ih =>
    unfold allN
    rw [Bool.and_eq_true, ih]
    constructor
    · intro h k hk
      by_cases e : k = n
      · subst e; exact h.2
      · exact h.1 k (by omega)
    · intro h; exact ⟨fun k hk => h k (by omega), h n (by omega)⟩
/-- whether the i-th BLOCK of n of a CPU is FREE; the first such -/
def aBl (A : St) (p n i : Nat) : Bool := allN (fun k => A 0 (32 * p + (n * i + k)) == 0) n
def aBlk (b A : St) (p n : Nat) : Option Nat := ffi (aBl A p n) 0 (b 0 1 / n)
theorem aBlk_lt {b A : St} {p n i : Nat} (hn : 1 ≤ n) (h : aBlk b A p n = some i) : n * i + n ≤ b 0 1 ∧ i < b 0 1 / n := by
  have h1 := ffi_some h
  have h2 : i < b 0 1 / n := by omega
  have h3 : n * (i + 1) ≤ n * (b 0 1 / n) := Nat.mul_le_mul_left n h2
  have h4 := Nat.mul_div_le (b 0 1) n
  rw [Nat.mul_add] at h3
  exact ⟨by omega, h2⟩
def oB (n : Nat) (o : Option Nat) : Int32 := match o with
  | none => -1
  | some i => nI (n * i)
theorem rn_X11_blockOf {p n : Nat} (hM : mj_wM R) (hb : mB I b) (hk : bOK b) (hR : rR (I 464) A) (hA : aOK A) (hp : p < 8) (hn : 1 ≤ n ∧ n ≤ 8) : Rn w l yX11_blockOf dd_X11_blockOf [.ref 452, .int (nI p), .int (nI n)] (472, I, J, R) (some (.int (oB n (aBlk b A p n)))) (472, I, J, R) := by
  have hv := hk.2.1
  refine rn_intro2 (L := [some (.ref 452), some (.int (nI p)), some (.int (nI n)), none, none, none]) ⟨by decide, rfl, (fun h => by cases h)⟩ (Nat.le_refl _) (Nat.le_of_ble_eq_true rfl) rfl (fun Y Q hQ => ?_)
  refine q_iconst (pc' := 1) _ dX11_blockOf_0 rfl kk_iconst_0 (q_ist_3 (pc' := 2) dX11_blockOf_1 rfl (by decide) rfl ?_)
  have inner : ∀ i, n * i + n ≤ 32 → (∀ r : Bool, aBl A p n i = r → Wq dd_X11_blockOf (mj_mk w l 472 Y) Q 60 [some (.ref 452), some (.int (nI p)), some (.int (nI n)), some (.int (nI (n * i))), some (.int (bI r)), some (.int (nI n))] [] (472, I, J, R)) → ∀ m k, k + m = n → Wq dd_X11_blockOf (mj_mk w l 472 Y) Q 18 [some (.ref 452), some (.int (nI p)), some (.int (nI n)), some (.int (nI (n * i))), some (.int (bI (allN (fun k => A 0 (32 * p + (n * i + k)) == 0) k))), some (.int (nI k))] [] (472, I, J, R) := by
    intro i hi hnext m
    induction m with
    | zero =>
      intro k hkm
      have hkz : k = n := by omega
      subst hkz
      refine q_iload (pc' := 20) dX11_blockOf_18 rfl rfl (q_iload_n (pc' := 21) dX11_blockOf_20 rfl rfl (q_icmp_ge (pc' := 24) (pt := 60) dX11_blockOf_21 rfl rfl (fun _ => ?_) (fun h9 => absurd (by (first | assumption | exact nI_le (by omega) (by omega) | exact nI_ge (by omega) (by omega) | exact nI_lt (by omega) (by omega) | exact nI_nlt (by omega) (by omega) | exact nI_ne (by omega) (by omega) (by omega) | exact nI_e (by omega) | decide)) h9)))
      exact hnext _ rfl
    | succ m ih =>
      intro k hkm
      have h6 := (hA.1 (32 * p + (n * i + k)) (by omega)).1
      refine q_iload (pc' := 20) dX11_blockOf_18 rfl rfl (q_iload_n (pc' := 21) dX11_blockOf_20 rfl rfl (q_icmp_ge (pc' := 24) (pt := 60) dX11_blockOf_21 rfl rfl (fun h9 => absurd h9 (by (first | assumption | exact nI_le (by omega) (by omega) | exact nI_ge (by omega) (by omega) | exact nI_lt (by omega) (by omega) | exact nI_nlt (by omega) (by omega) | exact nI_ne (by omega) (by omega) (by omega) | exact nI_e (by omega) | decide))) (fun _ => (q_iload (pc' := 26) dX11_blockOf_24 rfl rfl (q_ifb_eq (pc' := 29) (pt := 51) dX11_blockOf_26 rfl rfl (fun h1 => ?_) (fun h1 => ?_))))))
      · refine q_iconst (pc' := 52) _ dX11_blockOf_51 rfl kk_iconst_0 ?_
        refine q_top (y := bI (allN (fun k => A 0 (32 * p + (n * i + k)) == 0) (k + 1))) (by unfold allN; rw [h1]; rfl) ?_
        refine q_ist_4 (pc' := 54) dX11_blockOf_52 rfl (by decide) rfl (q_inc_5 (pc' := 57) dX11_blockOf_54 rfl (by decide) rfl (q_goto (pc' := 18) dX11_blockOf_57 rfl ?_))
        exact ih (k + 1) (by omega)
      · refine q_aload_n (pc' := 30) dX11_blockOf_29 rfl rfl (q_getR (pc' := 33) dX11_blockOf_30 rfl fr_RX11_51 ⟨by omega, rfl⟩ rfl (wM_36 hM) (by decide) (q_iconst (pc' := 34) _ dX11_blockOf_33 rfl kk_iconst_0 (q_iload_n (pc' := 35) dX11_blockOf_34 rfl rfl (q_iload_n (pc' := 36) dX11_blockOf_35 rfl rfl (q_iload (pc' := 38) dX11_blockOf_36 rfl rfl (q_iadd (pc' := 39) dX11_blockOf_38 rfl (q_cSi (pc' := 42) dX11_blockOf_39 rfl ml_RX11_286 ys_X11_spot (by decide) (rn_X11_spot) rfl rfl (Nat.le_of_ble_eq_true rfl) (Nat.le_refl _) (q_iadd (pc' := 43) dX11_blockOf_42 rfl (q_ialde (pc' := 44) (32 * p + (n * i + k)) dX11_blockOf_43 rfl (by first | exact ⟨by omega, rfl⟩ | exact okaS hi hz (by decide) rfl | assumption) (by (first | (simp only [nI_add, pk_mul]; done) | (simp only [nI_add, pk_mul]; exact nI_e (by omega)) | exact nI_e (by omega))) (by omega) ((hR _ (by omega)).trans (cE_vs (by omega))) (q_if_ne (pc' := 47) (pt := 51) dX11_blockOf_44 rfl rfl (fun h2 => ?_) (fun h2 => ?_)))))))))))
        · refine q_iconst (pc' := 52) _ dX11_blockOf_51 rfl kk_iconst_0 ?_
          refine q_top (y := bI (allN (fun k => A 0 (32 * p + (n * i + k)) == 0) (k + 1))) (by
            have h3 : (A 0 (32 * p + (n * i + k)) == 0) = false := beq_eq_false_iff_ne.mpr (fun q => h2 (by rw [q]; rfl))
            unfold allN; rw [h1, h3]; rfl) ?_
          refine q_ist_4 (pc' := 54) dX11_blockOf_52 rfl (by decide) rfl (q_inc_5 (pc' := 57) dX11_blockOf_54 rfl (by decide) rfl (q_goto (pc' := 18) dX11_blockOf_57 rfl ?_))
          exact ih (k + 1) (by omega)
        · refine q_iconst (pc' := 48) _ dX11_blockOf_47 rfl kk_iconst_1 (q_goto (pc' := 52) dX11_blockOf_48 rfl ?_)
          refine q_top (y := bI (allN (fun k => A 0 (32 * p + (n * i + k)) == 0) (k + 1))) (by
            have h3 : (A 0 (32 * p + (n * i + k)) == 0) = true := beq_iff_eq.mpr ((nI_eq (a := A 0 (32 * p + (n * i + k))) (b := 0) (by omega) (by omega)).mp h2)
            unfold allN; rw [h1, h3]; rfl) ?_
          refine q_ist_4 (pc' := 54) dX11_blockOf_52 rfl (by decide) rfl (q_inc_5 (pc' := 57) dX11_blockOf_54 rfl (by decide) rfl (q_goto (pc' := 18) dX11_blockOf_57 rfl ?_))
          exact ih (k + 1) (by omega)
  have loop : ∀ m i (o4 o5 : Option Value), i + m = b 0 1 / n → ffi (aBl A p n) i m = aBlk b A p n → Wq dd_X11_blockOf (mj_mk w l 472 Y) Q 2 [some (.ref 452), some (.int (nI p)), some (.int (nI n)), some (.int (nI (n * i))), o4, o5] [] (472, I, J, R) := by
    intro m
    induction m with
    | zero =>
      intro i o4 o5 him hf
      have h7 : b 0 1 < n * i + n := by
        have := Nat.lt_mul_div_succ (b 0 1) (show 0 < n by omega)
        rw [← him, Nat.add_zero, Nat.mul_add] at this; omega
      have h8 : i ≤ 32 := by
        have := Nat.div_le_self (b 0 1) n; omega
      have h9 : n * i ≤ 8 * 32 := Nat.mul_le_mul hn.2 h8
      refine q_iload_n (pc' := 3) dX11_blockOf_2 rfl rfl (q_iload_n (pc' := 4) dX11_blockOf_3 rfl rfl (q_iadd (pc' := 5) dX11_blockOf_4 rfl ?_))
      refine q_top (nI_add _ _) ?_
      have hf : aBlk b A p n = none := hf.symm
      exact q_aload_n (pc' := 6) dX11_blockOf_5 rfl rfl (q_getIe (pc' := 9) dX11_blockOf_6 rfl fr_RX11_243 ⟨by omega, rfl⟩ rfl (mB_1 hb) (q_icmp_gt (pc' := 12) (pt := 74) dX11_blockOf_9 rfl rfl (fun _ => (q_iconst (pc' := 75) _ dX11_blockOf_74 rfl kk_iconst_m1 (q_iret dX11_blockOf_75 rfl (by rw [hf] at hQ; exact hQ)))) (fun h9 => absurd (by (first | assumption | exact nI_le (by omega) (by omega) | exact nI_ge (by omega) (by omega) | exact nI_lt (by omega) (by omega) | exact nI_nlt (by omega) (by omega) | exact nI_ne (by omega) (by omega) (by omega) | exact nI_e (by omega) | decide)) h9)))
    | succ m ih =>
      intro i o4 o5 him hf
      have h7 : n * i + n ≤ b 0 1 := by
        have h2 : n * (i + 1) ≤ n * (b 0 1 / n) := Nat.mul_le_mul_left n (by omega)
        have h4 := Nat.mul_div_le (b 0 1) n
        rw [Nat.mul_add] at h2; omega
      refine q_iload_n (pc' := 3) dX11_blockOf_2 rfl rfl (q_iload_n (pc' := 4) dX11_blockOf_3 rfl rfl (q_iadd (pc' := 5) dX11_blockOf_4 rfl ?_))
      refine q_top (nI_add _ _) ?_
      refine q_aload_n (pc' := 6) dX11_blockOf_5 rfl rfl (q_getIe (pc' := 9) dX11_blockOf_6 rfl fr_RX11_243 ⟨by omega, rfl⟩ rfl (mB_1 hb) (q_icmp_gt (pc' := 12) (pt := 74) dX11_blockOf_9 rfl rfl (fun h9 => absurd h9 (by (first | assumption | exact nI_le (by omega) (by omega) | exact nI_ge (by omega) (by omega) | exact nI_lt (by omega) (by omega) | exact nI_nlt (by omega) (by omega) | exact nI_ne (by omega) (by omega) (by omega) | exact nI_e (by omega) | decide))) (fun _ => (q_iconst (pc' := 13) _ dX11_blockOf_12 rfl kk_iconst_1 (q_ist_4 (pc' := 15) dX11_blockOf_13 rfl (by decide) rfl (q_iconst (pc' := 16) _ dX11_blockOf_15 rfl kk_iconst_0 (q_ist_5 (pc' := 18) dX11_blockOf_16 rfl (by decide) rfl ?_)))))))
      refine inner i (by omega) (fun r hr => ?_) n 0 (by omega)
      unfold ffi at hf
      cases r with
      | true =>
        rw [if_pos hr] at hf
        exact q_iload (pc' := 62) dX11_blockOf_60 rfl rfl (q_ifb_eq (pc' := 65) (pt := 67) dX11_blockOf_62 rfl rfl (fun h9 => by cases h9) (fun _ => (q_iload_n (pc' := 66) dX11_blockOf_65 rfl rfl (q_iret dX11_blockOf_66 rfl (by rw [← hf] at hQ; exact hQ)))))
      | false =>
        rw [if_neg (by rw [hr]; decide)] at hf
        refine q_iload (pc' := 62) dX11_blockOf_60 rfl rfl (q_ifb_eq (pc' := 65) (pt := 67) dX11_blockOf_62 rfl rfl (fun _ => (q_iload_n (pc' := 68) dX11_blockOf_67 rfl rfl (q_iload_n (pc' := 69) dX11_blockOf_68 rfl rfl (q_iadd (pc' := 70) dX11_blockOf_69 rfl ?_)))) (fun h9 => by cases h9))
        refine q_top (y := nI (n * (i + 1))) (by rw [nI_add, Nat.mul_add, Nat.mul_one]) ?_
        refine q_ist_3 (pc' := 71) dX11_blockOf_70 rfl (by decide) rfl (q_goto (pc' := 2) dX11_blockOf_71 rfl ?_)
        exact ih (i + 1) _ _ (by omega) hf
  exact loop (b 0 1 / n) 0 none none (by omega) rfl
end M3
