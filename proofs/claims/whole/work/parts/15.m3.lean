/-! ===== the reference: blocks, the least loaded, queues ===== -/
section M3
variable {w : mj_Wd} {l : Launch} {I : mj_M} {J : mj_J} {R : mj_R} {b A : St}
/-- whether all below n are taken -/
def allN (P : Nat → Bool) : Nat → Bool
  | 0 => true
  | n + 1 => allN P n && P n
theorem allN_iff {P : Nat → Bool} {n : Nat} : allN P n = true ↔ ∀ k, k < n → P k = true := by
  induction n with
  | zero => exact ⟨fun _ k hk => by omega, fun _ => rfl⟩
  | succ n ih =>
    unfold allN
    rw [Bool.and_eq_true, ih]
    constructor
    · intro h k hk
      by_cases e : k = n
      · subst e; exact h.2
      · exact h.1 k (by omega)
    · intro h; exact ⟨fun k hk => h k (by omega), h n (by omega)⟩
/-- whether the i-th BLOCK of n of a CPU is FREE; the first such -/
def aBl (A : St) (p n i : Nat) : Bool := allN (fun k => A 0 (32 * p + (n * i + k)) == 0) n
def aBlk (b A : St) (p n : Nat) : Option Nat := ffi (aBl A p n) 0 (b 0 1 / n)
theorem aBlk_lt {b A : St} {p n i : Nat} (hn : 1 ≤ n) (h : aBlk b A p n = some i) : n * i + n ≤ b 0 1 ∧ i < b 0 1 / n := by
  have h1 := ffi_some h
  have h2 : i < b 0 1 / n := by omega
  have h3 : n * (i + 1) ≤ n * (b 0 1 / n) := Nat.mul_le_mul_left n h2
  have h4 := Nat.mul_div_le (b 0 1) n
  rw [Nat.mul_add] at h3
  exact ⟨by omega, h2⟩
def oB (n : Nat) (o : Option Nat) : Int32 := match o with
  | none => -1
  | some i => nI (n * i)
theorem rn_X11_blockOf {p n : Nat} (hM : mj_wM R) (hb : mB I b) (hk : bOK b) (hR : rR (I 464) A) (hA : aOK A) (hp : p < 8) (hn : 1 ≤ n ∧ n ≤ 8) : Rn w l yX11_blockOf dd_X11_blockOf [.ref 452, .int (nI p), .int (nI n)] (472, I, J, R) (some (.int (oB n (aBlk b A p n)))) (472, I, J, R) := by
  have hv := hk.2.1
  refine rn_intro2 (L := [some (.ref 452), some (.int (nI p)), some (.int (nI n)), none, none, none]) ⟨by decide, rfl, (fun h => by cases h)⟩ (Nat.le_refl _) (Nat.le_of_ble_eq_true rfl) rfl (fun Y Q hQ => ?_)
  refine q_iconst (pc' := 1) _ dX11_blockOf_0 rfl kk_iconst_0 (q_ist_3 (pc' := 2) dX11_blockOf_1 rfl (by decide) rfl ?_)
  have inner : ∀ i, n * i + n ≤ 32 → (∀ r : Bool, aBl A p n i = r → Wq dd_X11_blockOf (mj_mk w l 472 Y) Q 60 [some (.ref 452), some (.int (nI p)), some (.int (nI n)), some (.int (nI (n * i))), some (.int (bI r)), some (.int (nI n))] [] (472, I, J, R)) → ∀ m k, k + m = n → Wq dd_X11_blockOf (mj_mk w l 472 Y) Q 18 [some (.ref 452), some (.int (nI p)), some (.int (nI n)), some (.int (nI (n * i))), some (.int (bI (allN (fun k => A 0 (32 * p + (n * i + k)) == 0) k))), some (.int (nI k))] [] (472, I, J, R) := by
    intro i hi hnext m
    induction m with
    | zero =>
      intro k hkm
      have hkz : k = n := by omega
      subst hkz
      refine q_iload (pc' := 20) dX11_blockOf_18 rfl rfl (q_iload_n (pc' := 21) dX11_blockOf_20 rfl rfl (q_icmp_ge (pc' := 24) (pt := 60) dX11_blockOf_21 rfl rfl (fun _ => ?_) (fun h9 => absurd (by (first | assumption | exact nI_le (by omega) (by omega) | exact nI_ge (by omega) (by omega) | exact nI_lt (by omega) (by omega) | exact nI_nlt (by omega) (by omega) | exact nI_ne (by omega) (by omega) (by omega) | exact nI_e (by omega) | decide)) h9)))
      exact hnext _ rfl
    | succ m ih =>
      intro k hkm
      have h6 := (hA.1 (32 * p + (n * i + k)) (by omega)).1
      refine q_iload (pc' := 20) dX11_blockOf_18 rfl rfl (q_iload_n (pc' := 21) dX11_blockOf_20 rfl rfl (q_icmp_ge (pc' := 24) (pt := 60) dX11_blockOf_21 rfl rfl (fun h9 => absurd h9 (by (first | assumption | exact nI_le (by omega) (by omega) | exact nI_ge (by omega) (by omega) | exact nI_lt (by omega) (by omega) | exact nI_nlt (by omega) (by omega) | exact nI_ne (by omega) (by omega) (by omega) | exact nI_e (by omega) | decide))) (fun _ => (q_iload (pc' := 26) dX11_blockOf_24 rfl rfl (q_ifb_eq (pc' := 29) (pt := 51) dX11_blockOf_26 rfl rfl (fun h1 => ?_) (fun h1 => ?_))))))
      · refine q_iconst (pc' := 52) _ dX11_blockOf_51 rfl kk_iconst_0 ?_
        refine q_top (y := bI (allN (fun k => A 0 (32 * p + (n * i + k)) == 0) (k + 1))) (by unfold allN; rw [h1]; rfl) ?_
        refine q_ist_4 (pc' := 54) dX11_blockOf_52 rfl (by decide) rfl (q_inc_5 (pc' := 57) dX11_blockOf_54 rfl (by decide) rfl (q_goto (pc' := 18) dX11_blockOf_57 rfl ?_))
        exact ih (k + 1) (by omega)
      · refine q_aload_n (pc' := 30) dX11_blockOf_29 rfl rfl (q_getR (pc' := 33) dX11_blockOf_30 rfl fr_RX11_51 ⟨by omega, rfl⟩ rfl (wM_36 hM) (by decide) (q_iconst (pc' := 34) _ dX11_blockOf_33 rfl kk_iconst_0 (q_iload_n (pc' := 35) dX11_blockOf_34 rfl rfl (q_iload_n (pc' := 36) dX11_blockOf_35 rfl rfl (q_iload (pc' := 38) dX11_blockOf_36 rfl rfl (q_iadd (pc' := 39) dX11_blockOf_38 rfl (q_cSi (pc' := 42) dX11_blockOf_39 rfl ml_RX11_286 ys_X11_spot (by decide) (rn_X11_spot) rfl rfl (Nat.le_of_ble_eq_true rfl) (Nat.le_refl _) (q_iadd (pc' := 43) dX11_blockOf_42 rfl (q_ialde (pc' := 44) (32 * p + (n * i + k)) dX11_blockOf_43 rfl (by first | exact ⟨by omega, rfl⟩ | exact okaS hi hz (by decide) rfl | assumption) (by (first | (simp only [nI_add, pk_mul]; done) | (simp only [nI_add, pk_mul]; exact nI_e (by omega)) | exact nI_e (by omega))) (by omega) ((hR _ (by omega)).trans (cE_vs (by omega))) (q_if_ne (pc' := 47) (pt := 51) dX11_blockOf_44 rfl rfl (fun h2 => ?_) (fun h2 => ?_)))))))))))
        · refine q_iconst (pc' := 52) _ dX11_blockOf_51 rfl kk_iconst_0 ?_
          refine q_top (y := bI (allN (fun k => A 0 (32 * p + (n * i + k)) == 0) (k + 1))) (by
            have h3 : (A 0 (32 * p + (n * i + k)) == 0) = false := beq_eq_false_iff_ne.mpr (fun q => h2 (by rw [q]; rfl))
            unfold allN; rw [h1, h3]; rfl) ?_
          refine q_ist_4 (pc' := 54) dX11_blockOf_52 rfl (by decide) rfl (q_inc_5 (pc' := 57) dX11_blockOf_54 rfl (by decide) rfl (q_goto (pc' := 18) dX11_blockOf_57 rfl ?_))
          exact ih (k + 1) (by omega)
        · refine q_iconst (pc' := 48) _ dX11_blockOf_47 rfl kk_iconst_1 (q_goto (pc' := 52) dX11_blockOf_48 rfl ?_)
          refine q_top (y := bI (allN (fun k => A 0 (32 * p + (n * i + k)) == 0) (k + 1))) (by
            have h3 : (A 0 (32 * p + (n * i + k)) == 0) = true := beq_iff_eq.mpr ((nI_eq (a := A 0 (32 * p + (n * i + k))) (b := 0) (by omega) (by omega)).mp h2)
            unfold allN; rw [h1, h3]; rfl) ?_
          refine q_ist_4 (pc' := 54) dX11_blockOf_52 rfl (by decide) rfl (q_inc_5 (pc' := 57) dX11_blockOf_54 rfl (by decide) rfl (q_goto (pc' := 18) dX11_blockOf_57 rfl ?_))
          exact ih (k + 1) (by omega)
  have loop : ∀ m i (o4 o5 : Option Value), i + m = b 0 1 / n → ffi (aBl A p n) i m = aBlk b A p n → Wq dd_X11_blockOf (mj_mk w l 472 Y) Q 2 [some (.ref 452), some (.int (nI p)), some (.int (nI n)), some (.int (nI (n * i))), o4, o5] [] (472, I, J, R) := by
    intro m
    induction m with
    | zero =>
      intro i o4 o5 him hf
      have h7 : b 0 1 < n * i + n := by
        have := Nat.lt_mul_div_succ (b 0 1) (show 0 < n by omega)
        rw [← him, Nat.add_zero, Nat.mul_add] at this; omega
      have h8 : i ≤ 32 := by
        have := Nat.div_le_self (b 0 1) n; omega
      have h9 : n * i ≤ 8 * 32 := Nat.mul_le_mul hn.2 h8
      refine q_iload_n (pc' := 3) dX11_blockOf_2 rfl rfl (q_iload_n (pc' := 4) dX11_blockOf_3 rfl rfl (q_iadd (pc' := 5) dX11_blockOf_4 rfl ?_))
      refine q_top (nI_add _ _) ?_
      have hf : aBlk b A p n = none := hf.symm
      exact q_aload_n (pc' := 6) dX11_blockOf_5 rfl rfl (q_getIe (pc' := 9) dX11_blockOf_6 rfl fr_RX11_243 ⟨by omega, rfl⟩ rfl (mB_1 hb) (q_icmp_gt (pc' := 12) (pt := 74) dX11_blockOf_9 rfl rfl (fun _ => (q_iconst (pc' := 75) _ dX11_blockOf_74 rfl kk_iconst_m1 (q_iret dX11_blockOf_75 rfl (by rw [hf] at hQ; exact hQ)))) (fun h9 => absurd (by (first | assumption | exact nI_le (by omega) (by omega) | exact nI_ge (by omega) (by omega) | exact nI_lt (by omega) (by omega) | exact nI_nlt (by omega) (by omega) | exact nI_ne (by omega) (by omega) (by omega) | exact nI_e (by omega) | decide)) h9)))
    | succ m ih =>
      intro i o4 o5 him hf
      have h7 : n * i + n ≤ b 0 1 := by
        have h2 : n * (i + 1) ≤ n * (b 0 1 / n) := Nat.mul_le_mul_left n (by omega)
        have h4 := Nat.mul_div_le (b 0 1) n
        rw [Nat.mul_add] at h2; omega
      refine q_iload_n (pc' := 3) dX11_blockOf_2 rfl rfl (q_iload_n (pc' := 4) dX11_blockOf_3 rfl rfl (q_iadd (pc' := 5) dX11_blockOf_4 rfl ?_))
      refine q_top (nI_add _ _) ?_
      refine q_aload_n (pc' := 6) dX11_blockOf_5 rfl rfl (q_getIe (pc' := 9) dX11_blockOf_6 rfl fr_RX11_243 ⟨by omega, rfl⟩ rfl (mB_1 hb) (q_icmp_gt (pc' := 12) (pt := 74) dX11_blockOf_9 rfl rfl (fun h9 => absurd h9 (by (first | assumption | exact nI_le (by omega) (by omega) | exact nI_ge (by omega) (by omega) | exact nI_lt (by omega) (by omega) | exact nI_nlt (by omega) (by omega) | exact nI_ne (by omega) (by omega) (by omega) | exact nI_e (by omega) | decide))) (fun _ => (q_iconst (pc' := 13) _ dX11_blockOf_12 rfl kk_iconst_1 (q_ist_4 (pc' := 15) dX11_blockOf_13 rfl (by decide) rfl (q_iconst (pc' := 16) _ dX11_blockOf_15 rfl kk_iconst_0 (q_ist_5 (pc' := 18) dX11_blockOf_16 rfl (by decide) rfl ?_)))))))
      refine inner i (by omega) (fun r hr => ?_) n 0 (by omega)
      unfold ffi at hf
      cases r with
      | true =>
        rw [if_pos hr] at hf
        exact q_iload (pc' := 62) dX11_blockOf_60 rfl rfl (q_ifb_eq (pc' := 65) (pt := 67) dX11_blockOf_62 rfl rfl (fun h9 => by cases h9) (fun _ => (q_iload_n (pc' := 66) dX11_blockOf_65 rfl rfl (q_iret dX11_blockOf_66 rfl (by rw [← hf] at hQ; exact hQ)))))
      | false =>
        rw [if_neg (by rw [hr]; decide)] at hf
        refine q_iload (pc' := 62) dX11_blockOf_60 rfl rfl (q_ifb_eq (pc' := 65) (pt := 67) dX11_blockOf_62 rfl rfl (fun _ => (q_iload_n (pc' := 68) dX11_blockOf_67 rfl rfl (q_iload_n (pc' := 69) dX11_blockOf_68 rfl rfl (q_iadd (pc' := 70) dX11_blockOf_69 rfl ?_)))) (fun h9 => by cases h9))
        refine q_top (y := nI (n * (i + 1))) (by rw [nI_add, Nat.mul_add, Nat.mul_one]) ?_
        refine q_ist_3 (pc' := 71) dX11_blockOf_70 rfl (by decide) rfl (q_goto (pc' := 2) dX11_blockOf_71 rfl ?_)
        exact ih (i + 1) _ _ (by omega) hf
  exact loop (b 0 1 / n) 0 none none (by omega) rfl
theorem lstN_f {P : Nat → Bool} {f : Nat → Nat} {n : Nat} (h : P n = false) : lstN P f (n + 1) = lstN P f n := by
  show (match lstN P f n with | none => if P n = true then some n else none | some b => if P n = true ∧ f n < f b then some n else some b) = _
  cases hb : lstN P f n with
  | none => simp [h]
  | some q => simp [h]
theorem lstN_0 {P : Nat → Bool} {f : Nat → Nat} {n : Nat} (h : P n = true) (hb : lstN P f n = none) : lstN P f (n + 1) = some n := by
  show (match lstN P f n with | none => if P n = true then some n else none | some b => if P n = true ∧ f n < f b then some n else some b) = _
  rw [hb]; simp [h]
theorem lstN_1 {P : Nat → Bool} {f : Nat → Nat} {n q : Nat} (h : P n = true) (hb : lstN P f n = some q) (hl : f n < f q) : lstN P f (n + 1) = some n := by
  show (match lstN P f n with | none => if P n = true then some n else none | some b => if P n = true ∧ f n < f b then some n else some b) = _
  rw [hb]; simp [h, hl]
theorem lstN_2 {P : Nat → Bool} {f : Nat → Nat} {n q : Nat} (hb : lstN P f n = some q) (hl : ¬ f n < f q) : lstN P f (n + 1) = some q := by
  show (match lstN P f n with | none => if P n = true then some n else none | some b => if P n = true ∧ f n < f b then some n else some b) = _
  rw [hb]; simp [hl]
/-- the CPU to which n are DEALT, of a set -/
def aDP (b A : St) (n set p : Nat) : Bool := set.testBit p && (A 9 p == 1) && (aBlk b A p n).isSome
def aDealt (b A : St) (n set : Nat) : Option Nat := lstN (aDP b A n set) (aLoad b A) (b 0 0)
theorem aLoad_le (b A : St) (p : Nat) : aLoad b A p ≤ 2 * b 0 1 := by
  have h1 := aCnt_le b A p 2
  have h2 := aCnt_le b A p 3
  unfold aLoad; omega
theorem oB_none {n : Nat} {o : Option Nat} (h : ∀ i, o = some i → n * i < 2 ^ 31) : oB n o = -1 ↔ o = none := by
  cases o with
  | none => exact ⟨fun _ => rfl, fun _ => rfl⟩
  | some k => exact ⟨fun e => absurd e (nI_m1 (h k rfl)), fun e => (by cases e)⟩
theorem rn_X11_dealt {n set : Nat} (hM : mj_wM R) (hb : mB I b) (hk : bOK b) (hR : rR (I 464) A) (hA : aOK A) (hn : 1 ≤ n ∧ n ≤ 8) (hs : set < 2 ^ 31) : Rn w l yX11_dealt dd_X11_dealt [.ref 452, .int (nI n), .int (nI set)] (472, I, J, R) (some (.int (oI (aDealt b A n set)))) (472, I, J, R) := by
  have hv := hk.1
  have hv2 := hk.2.1
  refine rn_intro2 (L := [some (.ref 452), some (.int (nI n)), some (.int (nI set)), none, none]) ⟨by decide, rfl, (fun h => by cases h)⟩ (Nat.le_refl _) (Nat.le_of_ble_eq_true rfl) rfl (fun Y Q hQ => ?_)
  refine q_iconst (pc' := 1) _ dX11_dealt_0 rfl kk_iconst_m1 (q_ist_3 (pc' := 2) dX11_dealt_1 rfl (by decide) rfl (q_iconst (pc' := 3) _ dX11_dealt_2 rfl kk_iconst_0 (q_ist_4 (pc' := 5) dX11_dealt_3 rfl (by decide) rfl ?_)))
  have loop : ∀ m k, k + m = (b 0 0) → Wq dd_X11_dealt (mj_mk w l 472 Y) Q 5 [some (.ref 452), some (.int (nI n)), some (.int (nI set)), some (.int (oI (lstN (aDP b A n set) (aLoad b A) k))), some (.int (nI k))] [] (472, I, J, R) := by
    intro m
    induction m with
    | zero =>
      intro k hkm
      have hkz : k = (b 0 0) := by omega
      subst hkz
      exact q_iload (pc' := 7) dX11_dealt_5 rfl rfl (q_aload_n (pc' := 8) dX11_dealt_7 rfl rfl (q_getIe (pc' := 11) dX11_dealt_8 rfl fr_RX11_240 ⟨by omega, rfl⟩ rfl (mB_0 hb) (q_icmp_ge (pc' := 14) (pt := 74) dX11_dealt_11 rfl rfl (fun _ => (q_iload_n (pc' := 75) dX11_dealt_74 rfl rfl (q_iret dX11_dealt_75 rfl hQ))) (fun h9 => absurd (by (first | assumption | exact nI_le (by omega) (by omega) | exact nI_ge (by omega) (by omega) | exact nI_lt (by omega) (by omega) | exact nI_nlt (by omega) (by omega) | exact nI_ne (by omega) (by omega) (by omega) | exact nI_e (by omega) | decide)) h9))))
    | succ m ih =>
      intro k hkm
      have skip : aDP b A n set k = false → Wq dd_X11_dealt (mj_mk w l 472 Y) Q 68 [some (.ref 452), some (.int (nI n)), some (.int (nI set)), some (.int (oI (lstN (aDP b A n set) (aLoad b A) k))), some (.int (nI k))] [] (472, I, J, R) := by
        intro hP
        rw [← lstN_f (f := aLoad b A) hP]
        refine q_inc_4 (pc' := 71) dX11_dealt_68 rfl (by decide) rfl (q_goto (pc' := 5) dX11_dealt_71 rfl ?_)
        exact ih (k + 1) (by omega)
      refine q_iload (pc' := 7) dX11_dealt_5 rfl rfl (q_aload_n (pc' := 8) dX11_dealt_7 rfl rfl (q_getIe (pc' := 11) dX11_dealt_8 rfl fr_RX11_240 ⟨by omega, rfl⟩ rfl (mB_0 hb) (q_icmp_ge (pc' := 14) (pt := 74) dX11_dealt_11 rfl rfl (fun h9 => absurd h9 (by (first | assumption | exact nI_le (by omega) (by omega) | exact nI_ge (by omega) (by omega) | exact nI_lt (by omega) (by omega) | exact nI_nlt (by omega) (by omega) | exact nI_ne (by omega) (by omega) (by omega) | exact nI_e (by omega) | decide))) (fun _ => (q_iload_n (pc' := 15) dX11_dealt_14 rfl rfl (q_iload (pc' := 17) dX11_dealt_15 rfl rfl (q_cSi (pc' := 20) dX11_dealt_17 rfl ml_RX11_192 ys_X11_isOf (by decide) (rn_X11_isOf) rfl rfl (Nat.le_of_ble_eq_true rfl) (Nat.le_refl _) (q_ifb_eq (pc' := 23) (pt := 68) dX11_dealt_20 rfl rfl (fun h1 => ?_) (fun h1 => ?_)))))))))
      · rw [bitS_nI hs (by omega)] at h1
        exact skip (by unfold aDP; rw [h1]; rfl)
      · rw [bitS_nI hs (by omega)] at h1
        refine q_aload_n (pc' := 24) dX11_dealt_23 rfl rfl (q_iload (pc' := 26) dX11_dealt_24 rfl rfl (q_cVi (pc' := 29) dX11_dealt_26 rfl ml_RX11_292 yv_X11_isOnline (by decide) (rn_X11_isOnline hM hR hA (by omega)) ⟨by omega, rfl⟩ rfl rfl (Nat.le_of_ble_eq_true rfl) (Nat.le_refl _) (q_ifb_eq (pc' := 32) (pt := 68) dX11_dealt_29 rfl rfl (fun h2 => ?_) (fun h2 => ?_))))
        · exact skip (by unfold aDP; rw [h1, h2]; rfl)
        · refine q_aload_n (pc' := 33) dX11_dealt_32 rfl rfl (q_iload (pc' := 35) dX11_dealt_33 rfl rfl (q_iload_n (pc' := 36) dX11_dealt_35 rfl rfl (q_cVi (pc' := 39) dX11_dealt_36 rfl ml_RX11_298 yv_X11_blockOf (by decide) (rn_X11_blockOf hM hb hk hR hA (by omega) hn) ⟨by omega, rfl⟩ rfl rfl (Nat.le_of_ble_eq_true rfl) (Nat.le_refl _) (q_iconst (pc' := 40) _ dX11_dealt_39 rfl kk_iconst_m1 (q_icmp_ne (pc' := 43) (pt := 46) dX11_dealt_40 rfl rfl (fun h3 => ?_) (fun h3 => ?_))))))
          · have hP : aDP b A n set k = true := by
              unfold aDP
              rw [h1, h2]
              cases hz : aBlk b A k n with
              | none => rw [hz] at h3; exact absurd rfl h3
              | some i => rfl
            cases hq : lstN (aDP b A n set) (aLoad b A) k with
            | none =>
              refine q_iload_n (pc' := 47) dX11_dealt_46 rfl rfl (q_iconst (pc' := 48) _ dX11_dealt_47 rfl kk_iconst_m1 (q_icmp_eq (pc' := 51) (pt := 65) dX11_dealt_48 rfl rfl (fun _ => (q_iload (pc' := 67) dX11_dealt_65 rfl rfl (q_ist_3 (pc' := 68) dX11_dealt_67 rfl (by decide) rfl (q_inc_4 (pc' := 71) dX11_dealt_68 rfl (by decide) rfl (q_goto (pc' := 5) dX11_dealt_71 rfl ?_))))) (fun h9 => absurd (by rfl) h9)))
              have := ih (k + 1) (by omega)
              rw [lstN_0 hP hq] at this
              exact this
            | some q =>
              have hq2 := (lstN_lt hq).1
              have l1 := aLoad_le b A k
              have l2 := aLoad_le b A q
              refine q_iload_n (pc' := 47) dX11_dealt_46 rfl rfl (q_iconst (pc' := 48) _ dX11_dealt_47 rfl kk_iconst_m1 (q_icmp_eq (pc' := 51) (pt := 65) dX11_dealt_48 rfl rfl (fun h9 => absurd h9 (nI_m1 (by omega))) (fun _ => (q_aload_n (pc' := 52) dX11_dealt_51 rfl rfl (q_iload (pc' := 54) dX11_dealt_52 rfl rfl (q_cVi (pc' := 57) dX11_dealt_54 rfl ml_RX11_301 yv_X11_loadOf (by decide) (rn_X11_loadOf hM hb hk hR hA (by omega)) ⟨by omega, rfl⟩ rfl rfl (Nat.le_of_ble_eq_true rfl) (Nat.le_refl _) (q_aload_n (pc' := 58) dX11_dealt_57 rfl rfl (q_iload_n (pc' := 59) dX11_dealt_58 rfl rfl (q_cVi (pc' := 62) dX11_dealt_59 rfl ml_RX11_301 yv_X11_loadOf (by decide) (rn_X11_loadOf (p := q) hM hb hk hR hA (by omega)) ⟨by omega, rfl⟩ rfl rfl (Nat.le_of_ble_eq_true rfl) (Nat.le_refl _) (q_icmp_ge (pc' := 65) (pt := 68) dX11_dealt_62 rfl rfl (fun h4 => ?_) (fun h4 => ?_)))))))))))
              · have h5 := (nI_leI (by omega) (by omega)).mp h4
                refine q_inc_4 (pc' := 71) dX11_dealt_68 rfl (by decide) rfl (q_goto (pc' := 5) dX11_dealt_71 rfl ?_)
                have := ih (k + 1) (by omega)
                rw [lstN_2 hq (by omega)] at this
                exact this
              · have h5 : ¬ aLoad b A q ≤ aLoad b A k := fun z => h4 ((nI_leI (by omega) (by omega)).mpr z)
                refine q_iload (pc' := 67) dX11_dealt_65 rfl rfl (q_ist_3 (pc' := 68) dX11_dealt_67 rfl (by decide) rfl (q_inc_4 (pc' := 71) dX11_dealt_68 rfl (by decide) rfl (q_goto (pc' := 5) dX11_dealt_71 rfl ?_)))
                have := ih (k + 1) (by omega)
                rw [lstN_1 hP hq (by omega)] at this
                exact this
          · refine q_goto (pc' := 68) dX11_dealt_43 rfl ?_
            have h4 := (oB_none (fun i hi => by have := aBlk_lt hn.1 hi; omega)).mp h3
            exact skip (by unfold aDP; rw [h1, h2, h4]; rfl)
  exact loop (b 0 0) 0 (by omega)
def aLP (A : St) (set p : Nat) : Bool := set.testBit p && (A 9 p == 1)
def aLeast (b A : St) (set : Nat) : Option Nat := lstN (aLP A set) (aLoad b A) (b 0 0)
theorem rn_X11_leastOf {set : Nat} (hM : mj_wM R) (hb : mB I b) (hk : bOK b) (hR : rR (I 464) A) (hA : aOK A) (hs : set < 2 ^ 31) : Rn w l yX11_leastOf dd_X11_leastOf [.ref 452, .int (nI set)] (472, I, J, R) (some (.int (oI (aLeast b A set)))) (472, I, J, R) := by
  have hv := hk.1
  have hv2 := hk.2.1
  refine rn_intro2 (L := [some (.ref 452), some (.int (nI set)), none, none]) ⟨by decide, rfl, (fun h => by cases h)⟩ (Nat.le_refl _) (Nat.le_of_ble_eq_true rfl) rfl (fun Y Q hQ => ?_)
  refine q_iconst (pc' := 1) _ dX11_leastOf_0 rfl kk_iconst_m1 (q_ist_2 (pc' := 2) dX11_leastOf_1 rfl (by decide) rfl (q_iconst (pc' := 3) _ dX11_leastOf_2 rfl kk_iconst_0 (q_ist_3 (pc' := 4) dX11_leastOf_3 rfl (by decide) rfl ?_)))
  have loop : ∀ m k, k + m = (b 0 0) → Wq dd_X11_leastOf (mj_mk w l 472 Y) Q 4 [some (.ref 452), some (.int (nI set)), some (.int (oI (lstN (aLP A set) (aLoad b A) k))), some (.int (nI k))] [] (472, I, J, R) := by
    intro m
    induction m with
    | zero =>
      intro k hkm
      have hkz : k = (b 0 0) := by omega
      subst hkz
      exact q_iload_n (pc' := 5) dX11_leastOf_4 rfl rfl (q_aload_n (pc' := 6) dX11_leastOf_5 rfl rfl (q_getIe (pc' := 9) dX11_leastOf_6 rfl fr_RX11_240 ⟨by omega, rfl⟩ rfl (mB_0 hb) (q_icmp_ge (pc' := 12) (pt := 54) dX11_leastOf_9 rfl rfl (fun _ => (q_iload_n (pc' := 55) dX11_leastOf_54 rfl rfl (q_iret dX11_leastOf_55 rfl hQ))) (fun h9 => absurd (by (first | assumption | exact nI_le (by omega) (by omega) | exact nI_ge (by omega) (by omega) | exact nI_lt (by omega) (by omega) | exact nI_nlt (by omega) (by omega) | exact nI_ne (by omega) (by omega) (by omega) | exact nI_e (by omega) | decide)) h9))))
    | succ m ih =>
      intro k hkm
      have skip : aLP A set k = false → Wq dd_X11_leastOf (mj_mk w l 472 Y) Q 48 [some (.ref 452), some (.int (nI set)), some (.int (oI (lstN (aLP A set) (aLoad b A) k))), some (.int (nI k))] [] (472, I, J, R) := by
        intro hP
        rw [← lstN_f (f := aLoad b A) hP]
        refine q_inc_3 (pc' := 51) dX11_leastOf_48 rfl (by decide) rfl (q_goto (pc' := 4) dX11_leastOf_51 rfl ?_)
        exact ih (k + 1) (by omega)
      refine q_iload_n (pc' := 5) dX11_leastOf_4 rfl rfl (q_aload_n (pc' := 6) dX11_leastOf_5 rfl rfl (q_getIe (pc' := 9) dX11_leastOf_6 rfl fr_RX11_240 ⟨by omega, rfl⟩ rfl (mB_0 hb) (q_icmp_ge (pc' := 12) (pt := 54) dX11_leastOf_9 rfl rfl (fun h9 => absurd h9 (by (first | assumption | exact nI_le (by omega) (by omega) | exact nI_ge (by omega) (by omega) | exact nI_lt (by omega) (by omega) | exact nI_nlt (by omega) (by omega) | exact nI_ne (by omega) (by omega) (by omega) | exact nI_e (by omega) | decide))) (fun _ => (q_iload_n (pc' := 13) dX11_leastOf_12 rfl rfl (q_iload_n (pc' := 14) dX11_leastOf_13 rfl rfl (q_cSi (pc' := 17) dX11_leastOf_14 rfl ml_RX11_192 ys_X11_isOf (by decide) (rn_X11_isOf) rfl rfl (Nat.le_of_ble_eq_true rfl) (Nat.le_refl _) (q_ifb_eq (pc' := 20) (pt := 48) dX11_leastOf_17 rfl rfl (fun h1 => ?_) (fun h1 => ?_)))))))))
      · rw [bitS_nI hs (by omega)] at h1
        exact skip (by unfold aLP; rw [h1]; rfl)
      · rw [bitS_nI hs (by omega)] at h1
        refine q_aload_n (pc' := 21) dX11_leastOf_20 rfl rfl (q_iload_n (pc' := 22) dX11_leastOf_21 rfl rfl (q_cVi (pc' := 25) dX11_leastOf_22 rfl ml_RX11_292 yv_X11_isOnline (by decide) (rn_X11_isOnline hM hR hA (by omega)) ⟨by omega, rfl⟩ rfl rfl (Nat.le_of_ble_eq_true rfl) (Nat.le_refl _) (q_ifb_eq (pc' := 28) (pt := 48) dX11_leastOf_25 rfl rfl (fun h2 => ?_) (fun h2 => ?_))))
        · exact skip (by unfold aLP; rw [h1, h2]; rfl)
        · have hP : aLP A set k = true := by unfold aLP; rw [h1, h2]; rfl
          cases hq : lstN (aLP A set) (aLoad b A) k with
          | none =>
            refine q_iload_n (pc' := 29) dX11_leastOf_28 rfl rfl (q_iconst (pc' := 30) _ dX11_leastOf_29 rfl kk_iconst_m1 (q_icmp_eq (pc' := 33) (pt := 46) dX11_leastOf_30 rfl rfl (fun _ => (q_iload_n (pc' := 47) dX11_leastOf_46 rfl rfl (q_ist_2 (pc' := 48) dX11_leastOf_47 rfl (by decide) rfl (q_inc_3 (pc' := 51) dX11_leastOf_48 rfl (by decide) rfl (q_goto (pc' := 4) dX11_leastOf_51 rfl ?_))))) (fun h9 => absurd (by rfl) h9)))
            have := ih (k + 1) (by omega)
            rw [lstN_0 hP hq] at this
            exact this
          | some q =>
            have hq2 := (lstN_lt hq).1
            have l1 := aLoad_le b A k
            have l2 := aLoad_le b A q
            refine q_iload_n (pc' := 29) dX11_leastOf_28 rfl rfl (q_iconst (pc' := 30) _ dX11_leastOf_29 rfl kk_iconst_m1 (q_icmp_eq (pc' := 33) (pt := 46) dX11_leastOf_30 rfl rfl (fun h9 => absurd h9 (nI_m1 (by omega))) (fun _ => (q_aload_n (pc' := 34) dX11_leastOf_33 rfl rfl (q_iload_n (pc' := 35) dX11_leastOf_34 rfl rfl (q_cVi (pc' := 38) dX11_leastOf_35 rfl ml_RX11_301 yv_X11_loadOf (by decide) (rn_X11_loadOf hM hb hk hR hA (by omega)) ⟨by omega, rfl⟩ rfl rfl (Nat.le_of_ble_eq_true rfl) (Nat.le_refl _) (q_aload_n (pc' := 39) dX11_leastOf_38 rfl rfl (q_iload_n (pc' := 40) dX11_leastOf_39 rfl rfl (q_cVi (pc' := 43) dX11_leastOf_40 rfl ml_RX11_301 yv_X11_loadOf (by decide) (rn_X11_loadOf (p := q) hM hb hk hR hA (by omega)) ⟨by omega, rfl⟩ rfl rfl (Nat.le_of_ble_eq_true rfl) (Nat.le_refl _) (q_icmp_ge (pc' := 46) (pt := 48) dX11_leastOf_43 rfl rfl (fun h4 => ?_) (fun h4 => ?_)))))))))))
            · have h5 := (nI_leI (by omega) (by omega)).mp h4
              refine q_inc_3 (pc' := 51) dX11_leastOf_48 rfl (by decide) rfl (q_goto (pc' := 4) dX11_leastOf_51 rfl ?_)
              have := ih (k + 1) (by omega)
              rw [lstN_2 hq (by omega)] at this
              exact this
            · have h5 : ¬ aLoad b A q ≤ aLoad b A k := fun z => h4 ((nI_leI (by omega) (by omega)).mpr z)
              refine q_iload_n (pc' := 47) dX11_leastOf_46 rfl rfl (q_ist_2 (pc' := 48) dX11_leastOf_47 rfl (by decide) rfl (q_inc_3 (pc' := 51) dX11_leastOf_48 rfl (by decide) rfl (q_goto (pc' := 4) dX11_leastOf_51 rfl ?_)))
              have := ih (k + 1) (by omega)
              rw [lstN_1 hP hq (by omega)] at this
              exact this
  exact loop (b 0 0) 0 (by omega)
theorem eC_none {x : Nat} (hx : x ≤ 256) : eC x = -1 ↔ x = 0 := by
  unfold eC
  by_cases h : x = 0
  · rw [if_pos h]; exact ⟨fun _ => h, fun _ => rfl⟩
  · rw [if_neg h]; exact ⟨fun e => absurd e (nI_m1 (by omega)), fun e => absurd e h⟩
theorem rn_X11_hasOld {d k : Nat} (hM : mj_wM R) (hR : rR (I 464) A) (hA : aOK A) (hd : d < 10) (hl : k < 8) : Rn w l yX11_hasOld dd_X11_hasOld [.ref 452, .int (nI d), .int (nI k)] (472, I, J, R) (some (.int (bI (A 4 (8 * d + k) != 0)))) (472, I, J, R) := by
  have h6 := (hA.2.1 (8 * d + k) (by omega)).2.1
  have e : decide (¬ eC (A 4 (8 * d + k)) = -1) = (A 4 (8 * d + k) != 0) := by
    by_cases h : A 4 (8 * d + k) = 0
    · rw [decide_eq_false (fun q => q ((eC_none h6).mpr h)), h]; rfl
    · rw [decide_eq_true (p := ¬ eC (A 4 (8 * d + k)) = -1) (fun q => h ((eC_none h6).mp q)), Eq.comm, bne_iff_ne]; exact h
  refine rn_intro2 (L := [some (.ref 452), some (.int (nI d)), some (.int (nI k))]) ⟨by decide, rfl, (fun h => by cases h)⟩ (Nat.le_refl _) (Nat.le_of_ble_eq_true rfl) rfl (fun Y Q hQ => ?_)
  exact q_aload_n (pc' := 1) dX11_hasOld_0 rfl rfl (q_getR (pc' := 4) dX11_hasOld_1 rfl fr_RX11_51 ⟨by omega, rfl⟩ rfl (wM_36 hM) (by decide) (q_sipush (pc' := 7) _ dX11_hasOld_4 rfl kk_sipush_1184 (q_iload_n (pc' := 8) dX11_hasOld_7 rfl rfl (q_iload_n (pc' := 9) dX11_hasOld_8 rfl rfl (q_cSi (pc' := 12) dX11_hasOld_9 rfl ml_RX11_308 ys_X11_lineAt (by decide) (rn_X11_lineAt) rfl rfl (Nat.le_of_ble_eq_true rfl) (Nat.le_refl _) (q_iadd (pc' := 13) dX11_hasOld_12 rfl (q_ialde (pc' := 14) (1184 + (8 * d + k)) dX11_hasOld_13 rfl (by first | exact ⟨by omega, rfl⟩ | exact okaS hi hz (by decide) rfl | assumption) (by (first | (simp only [nI_add, pk_mul]; done) | (simp only [nI_add, pk_mul]; exact nI_e (by omega)) | exact nI_e (by omega))) (by omega) ((hR _ (by omega)).trans (cE_oc (by omega))) (q_iconst (pc' := 15) _ dX11_hasOld_14 rfl kk_iconst_m1 (q_bl_icmp_eq (p4 := 23) dX11_hasOld_15 dX11_hasOld_18 dX11_hasOld_19 dX11_hasOld_22 rfl rfl rfl rfl rfl (q_zret dX11_hasOld_23 rfl (by first | exact Or.inl rfl | exact Or.inr rfl | exact bI_01 _) (by rw [e]; exact hQ)))))))))))
/-- what is RESERVED for a QUEUE on a CPU -/
def aRs (A : St) (id p v : Nat) : Bool := (A 0 (32 * p + v) == 4) && (A 1 (32 * p + v) == id + 1)
def aResv (b A : St) (id p : Nat) : Option Nat := ffi (aRs A id p) 0 (b 0 1)
theorem eD_eq {x d : Nat} (hx : x ≤ 80) (hd : d < 10) : eD x = nI d ↔ x ≠ 0 ∧ (x - 1) / 8 = d := by
  unfold eD
  by_cases h : x = 0
  · rw [if_pos h]
    exact ⟨fun e => absurd e.symm (nI_m1 (by omega)), fun e => absurd h e.1⟩
  · rw [if_neg h, nI_eq (by omega) (by omega)]; exact ⟨fun e => ⟨h, e⟩, fun e => e.2⟩
theorem eL_eq {x d : Nat} (hd : d < 8) : eL x = nI d ↔ x ≠ 0 ∧ (x - 1) % 8 = d := by
  unfold eL
  by_cases h : x = 0
  · rw [if_pos h]
    exact ⟨fun e => absurd e.symm (nI_m1 (by omega)), fun e => absurd h e.1⟩
  · rw [if_neg h, nI_eq (by omega) (by omega)]; exact ⟨fun e => ⟨h, e⟩, fun e => e.2⟩
theorem rn_X11_reservedAt {d q p : Nat} (hM : mj_wM R) (hb : mB I b) (hk : bOK b) (hR : rR (I 464) A) (hA : aOK A) (hd : d < 10) (hq : q < 8) (hp : p < 8) : Rn w l yX11_reservedAt dd_X11_reservedAt [.ref 452, .int (nI d), .int (nI q), .int (nI p)] (472, I, J, R) (some (.int (oI (aResv b A (8 * d + q) p)))) (472, I, J, R) := by
  have hv := hk.2.1
  refine rn_intro2 (L := [some (.ref 452), some (.int (nI d)), some (.int (nI q)), some (.int (nI p)), none]) ⟨by decide, rfl, (fun h => by cases h)⟩ (Nat.le_refl _) (Nat.le_of_ble_eq_true rfl) rfl (fun Y Q hQ => ?_)
  refine q_iconst (pc' := 1) _ dX11_reservedAt_0 rfl kk_iconst_0 (q_ist_4 (pc' := 3) dX11_reservedAt_1 rfl (by decide) rfl ?_)
  have loop : ∀ m k, k + m = b 0 1 → ffi (aRs A (8 * d + q) p) k m = aResv b A (8 * d + q) p → Wq dd_X11_reservedAt (mj_mk w l 472 Y) Q 3 [some (.ref 452), some (.int (nI d)), some (.int (nI q)), some (.int (nI p)), some (.int (nI k))] [] (472, I, J, R) := by
    intro m
    induction m with
    | zero =>
      intro k hkm hf
      have hkz : k = b 0 1 := by omega
      subst hkz
      have hf : aResv b A (8 * d + q) p = none := hf.symm
      exact q_iload (pc' := 5) dX11_reservedAt_3 rfl rfl (q_aload_n (pc' := 6) dX11_reservedAt_5 rfl rfl (q_getIe (pc' := 9) dX11_reservedAt_6 rfl fr_RX11_243 ⟨by omega, rfl⟩ rfl (mB_1 hb) (q_icmp_ge (pc' := 12) (pt := 76) dX11_reservedAt_9 rfl rfl (fun _ => (q_iconst (pc' := 77) _ dX11_reservedAt_76 rfl kk_iconst_m1 (q_iret dX11_reservedAt_77 rfl (by rw [hf] at hQ; exact hQ)))) (fun h9 => absurd (by (first | assumption | exact nI_le (by omega) (by omega) | exact nI_ge (by omega) (by omega) | exact nI_lt (by omega) (by omega) | exact nI_nlt (by omega) (by omega) | exact nI_ne (by omega) (by omega) (by omega) | exact nI_e (by omega) | decide)) h9))))
    | succ m ih =>
      intro k hkm hf
      have h6 := hA.1 (32 * p + k) (by omega)
      unfold ffi at hf
      have skip : aRs A (8 * d + q) p k = false → Wq dd_X11_reservedAt (mj_mk w l 472 Y) Q 70 [some (.ref 452), some (.int (nI d)), some (.int (nI q)), some (.int (nI p)), some (.int (nI k))] [] (472, I, J, R) := by
        intro hP
        rw [if_neg (by rw [hP]; decide)] at hf
        refine q_inc_4 (pc' := 73) dX11_reservedAt_70 rfl (by decide) rfl (q_goto (pc' := 3) dX11_reservedAt_73 rfl ?_)
        exact ih (k + 1) (by omega) hf
      refine q_iload (pc' := 5) dX11_reservedAt_3 rfl rfl (q_aload_n (pc' := 6) dX11_reservedAt_5 rfl rfl (q_getIe (pc' := 9) dX11_reservedAt_6 rfl fr_RX11_243 ⟨by omega, rfl⟩ rfl (mB_1 hb) (q_icmp_ge (pc' := 12) (pt := 76) dX11_reservedAt_9 rfl rfl (fun h9 => absurd h9 (by (first | assumption | exact nI_le (by omega) (by omega) | exact nI_ge (by omega) (by omega) | exact nI_lt (by omega) (by omega) | exact nI_nlt (by omega) (by omega) | exact nI_ne (by omega) (by omega) (by omega) | exact nI_e (by omega) | decide))) (fun _ => (q_aload_n (pc' := 13) dX11_reservedAt_12 rfl rfl (q_getR (pc' := 16) dX11_reservedAt_13 rfl fr_RX11_51 ⟨by omega, rfl⟩ rfl (wM_36 hM) (by decide) (q_iconst (pc' := 17) _ dX11_reservedAt_16 rfl kk_iconst_0 (q_iload_n (pc' := 18) dX11_reservedAt_17 rfl rfl (q_iload (pc' := 20) dX11_reservedAt_18 rfl rfl (q_cSi (pc' := 23) dX11_reservedAt_20 rfl ml_RX11_286 ys_X11_spot (by decide) (rn_X11_spot) rfl rfl (Nat.le_of_ble_eq_true rfl) (Nat.le_refl _) (q_iadd (pc' := 24) dX11_reservedAt_23 rfl (q_ialde (pc' := 25) (32 * p + k) dX11_reservedAt_24 rfl (by first | exact ⟨by omega, rfl⟩ | exact okaS hi hz (by decide) rfl | assumption) (by (first | (simp only [nI_add, pk_mul]; done) | (simp only [nI_add, pk_mul]; exact nI_e (by omega)) | exact nI_e (by omega))) (by omega) ((hR _ (by omega)).trans (cE_vs (by omega))) (q_iconst (pc' := 26) _ dX11_reservedAt_25 rfl kk_iconst_4 (q_icmp_ne (pc' := 29) (pt := 70) dX11_reservedAt_26 rfl rfl (fun h1 => ?_) (fun h1 => ?_)))))))))))))))
      · exact skip (by unfold aRs; rw [beq_eq_false_iff_ne.mpr (fun z => h1 (nI_e z))]; rfl)
      · refine q_aload_n (pc' := 30) dX11_reservedAt_29 rfl rfl (q_getR (pc' := 33) dX11_reservedAt_30 rfl fr_RX11_51 ⟨by omega, rfl⟩ rfl (wM_36 hM) (by decide) (q_sipush (pc' := 36) _ dX11_reservedAt_33 rfl kk_sipush_256 (q_iload_n (pc' := 37) dX11_reservedAt_36 rfl rfl (q_iload (pc' := 39) dX11_reservedAt_37 rfl rfl (q_cSi (pc' := 42) dX11_reservedAt_39 rfl ml_RX11_286 ys_X11_spot (by decide) (rn_X11_spot) rfl rfl (Nat.le_of_ble_eq_true rfl) (Nat.le_refl _) (q_iadd (pc' := 43) dX11_reservedAt_42 rfl (q_ialde (pc' := 44) (256 + (32 * p + k)) dX11_reservedAt_43 rfl (by first | exact ⟨by omega, rfl⟩ | exact okaS hi hz (by decide) rfl | assumption) (by (first | (simp only [nI_add, pk_mul]; done) | (simp only [nI_add, pk_mul]; exact nI_e (by omega)) | exact nI_e (by omega))) (by omega) ((hR _ (by omega)).trans (cE_d (by omega))) (q_iload_n (pc' := 45) dX11_reservedAt_44 rfl rfl (q_icmp_ne (pc' := 48) (pt := 70) dX11_reservedAt_45 rfl rfl (fun h2 => ?_) (fun h2 => ?_))))))))))
        · refine skip ?_
          unfold aRs
          rw [show (A 1 (32 * p + k) == 8 * d + q + 1) = false from beq_eq_false_iff_ne.mpr (fun z => h2 ((eD_eq h6.2.1 hd).mpr (by omega)))]
          exact Bool.and_false _
        · refine q_aload_n (pc' := 49) dX11_reservedAt_48 rfl rfl (q_getR (pc' := 52) dX11_reservedAt_49 rfl fr_RX11_51 ⟨by omega, rfl⟩ rfl (wM_36 hM) (by decide) (q_sipush (pc' := 55) _ dX11_reservedAt_52 rfl kk_sipush_512 (q_iload_n (pc' := 56) dX11_reservedAt_55 rfl rfl (q_iload (pc' := 58) dX11_reservedAt_56 rfl rfl (q_cSi (pc' := 61) dX11_reservedAt_58 rfl ml_RX11_286 ys_X11_spot (by decide) (rn_X11_spot) rfl rfl (Nat.le_of_ble_eq_true rfl) (Nat.le_refl _) (q_iadd (pc' := 62) dX11_reservedAt_61 rfl (q_ialde (pc' := 63) (512 + (32 * p + k)) dX11_reservedAt_62 rfl (by first | exact ⟨by omega, rfl⟩ | exact okaS hi hz (by decide) rfl | assumption) (by (first | (simp only [nI_add, pk_mul]; done) | (simp only [nI_add, pk_mul]; exact nI_e (by omega)) | exact nI_e (by omega))) (by omega) ((hR _ (by omega)).trans (cE_l (by omega))) (q_iload_n (pc' := 64) dX11_reservedAt_63 rfl rfl (q_icmp_ne (pc' := 67) (pt := 70) dX11_reservedAt_64 rfl rfl (fun h3 => ?_) (fun h3 => ?_))))))))))
          · refine skip ?_
            unfold aRs
            rw [show (A 1 (32 * p + k) == 8 * d + q + 1) = false from beq_eq_false_iff_ne.mpr (fun z => h3 ((eL_eq hq).mpr (by omega)))]
            exact Bool.and_false _
          · have e1 := (nI_eq (by omega) (by omega)).mp h1
            have e2 := (eD_eq h6.2.1 hd).mp h2
            have e3 := (eL_eq hq).mp h3
            have hP : aRs A (8 * d + q) p k = true := by
              unfold aRs
              rw [e1, show A 1 (32 * p + k) = 8 * d + q + 1 by omega]
              simp
            rw [if_pos hP] at hf
            exact q_iload (pc' := 69) dX11_reservedAt_67 rfl rfl (q_iret dX11_reservedAt_69 rfl (by rw [← hf] at hQ; exact hQ))
  exact loop (b 0 1) 0 (by omega) rfl
end M3
