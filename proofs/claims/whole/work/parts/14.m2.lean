/-! ===== the reference: counting, seeking ===== -/
theorem rn_intro2 {w : mj_Wd} {l : Launch} {y : MethodName} {d : mj_D} {As : List Value} {h h' : mj_H} {v : Option Value} {L : List (Option Value)} (hy : plainName y.cls = true ∧ y.cls = d.2.1 ∧ (d.2.2.2.2.2 = true → y.name = "<init>")) (hz : h.1 ≤ h'.1) (hn : (As.flatMap fun v => if v.category = 2 then [some v, none] else [some v]).length ≤ d.2.2.1) (hL : mj_L0 d.2.2.1 As = L)
    (body : ∀ (Y : mj_Y) (Q : Option Value → mj_H → Prop), Q v h' → Wq d (mj_mk w l h'.1 Y) Q 0 L [] h) : Rn w l y d As h v h' := rn_intro hy hz hn hL (fun Y => body Y _ ⟨rfl, rfl⟩)
theorem rt_intro2 {w : mj_Wd} {l : Launch} {y : MethodName} {d : mj_D} {As : List Value} {z : Nat} {I : mj_M} {J : mj_J} {R : mj_R} {P : mj_P} {L : List (Option Value)} (hy : plainName y.cls = true ∧ y.cls = d.2.1 ∧ (d.2.2.2.2.2 = true → y.name = "<init>")) (hn : (As.flatMap fun v => if v.category = 2 then [some v, none] else [some v]).length ≤ d.2.2.1) (hL : mj_L0 d.2.2.1 As = L)
    (body : ∀ (Y : mj_Y) (Q : Option Value → mj_H → Prop), (∀ v I' J' R', P v I' J' R' → Q v (z, I', J', R')) → Wq d (mj_mk w l z Y) Q 0 L [] (z, I, J, R)) : Rt w l y d As (z, I, J, R) P := rt_intro hy hn hL (fun Y => body Y _ (fun _ _ _ _ hP => ⟨rfl, hP⟩))
/-- the numbers of a state are such as they can be -/
def aOK (A : St) : Prop := (∀ k, k < 256 → A 0 k < 5 ∧ A 1 k ≤ 80 ∧ A 2 k < 2) ∧ (∀ k, k < 80 → A 3 k ≤ 256 ∧ A 4 k ≤ 256 ∧ A 5 k < 2 ∧ A 6 k < 2) ∧ (∀ k, k < 10 → A 7 k < 2 ∧ A 8 k < 2) ∧ ∀ k, k < 8 → A 9 k < 2
theorem bitS_nI {s k : Nat} (hs : s < 2 ^ 31) (hk : k < 31) : bitS (nI s) (nI k) = s.testBit k := by
  unfold bitS
  have e1 : nI s >>> (nI k &&& 31) = nI (s / 2 ^ k) := pk_shrN hs _ k (by
    have : ∀ n, n < 32 → ((nI n &&& 31).toBitVec.smod 32).toNat = n := by decide
    exact this k (by omega))
  have e2 : nI (s / 2 ^ k) &&& nI 1 = nI (s / 2 ^ k % 2) := by
    have h9 : nI 1 = nI (2 ^ 1 - 1) := rfl
    have := pk_andN (n := s / 2 ^ k) (m := nI 1) (by have := Nat.div_le_self s (2 ^ k); omega) 1 (by decide)
    rw [this]
  rw [e1, e2]
  have e3 : decide (nI (s / 2 ^ k % 2) = nI 1) = (s / 2 ^ k % 2 == 1) := nI_dec (by omega) (by omega)
  rw [e3, Nat.testBit_eq_decide_div_mod_eq]
  rfl
theorem sum_st {f : Nat → Nat} {n y : Nat} (h : f n = y) : nI (sumN f n) + nI y = nI (sumN f (n + 1)) := by rw [← h]; exact nI_add _ _
section M2
variable {w : mj_Wd} {l : Launch} {I : mj_M} {J : mj_J} {R : mj_R} {b A : St}
/-- how many VECTORS of a CPU are something; its LOAD; its PENDING ones -/
def aCnt (b A : St) (p s : Nat) : Nat := cntN (fun v => A 0 (32 * p + v) == s) (b 0 1)
def aLoad (b A : St) (p : Nat) : Nat := aCnt b A p 2 + aCnt b A p 3
def aPend (b A : St) (p : Nat) : Nat := sumN (fun v => A 2 (32 * p + v)) (b 0 1)
def aFree (b A : St) : Nat := sumN (fun p => if A 9 p = 1 then aCnt b A p 0 else 0) (b 0 0)
def aProm (b A : St) : Nat := sumN (fun d => if A 8 d = 1 then b 2 d else 0) (b 0 2)
def aUnh (b A : St) : Nat := sumN (aPend b A) (b 0 0) + sumN (A 6) 80
def aHeld (b A : St) : Nat := sumN (fun p => aCnt b A p 2) (b 0 0)
theorem rn_X11_manyOf {p s : Nat} (hM : mj_wM R) (hb : mB I b) (hk : bOK b) (hR : rR (I 464) A) (hA : aOK A) (hp : p < 8) (hs : s < 5) : Rn w l yX11_manyOf dd_X11_manyOf [.ref 452, .int (nI p), .int (nI s)] (472, I, J, R) (some (.int (nI (aCnt b A p s)))) (472, I, J, R) := by
  have hv := hk.2.1.2
  refine rn_intro2 (L := [some (.ref 452), some (.int (nI p)), some (.int (nI s)), none, none]) ⟨by decide, rfl, (fun h => by cases h)⟩ (Nat.le_refl _) (Nat.le_of_ble_eq_true rfl) rfl (fun Y Q hQ => ?_)
  refine q_iconst (pc' := 1) _ dX11_manyOf_0 rfl kk_iconst_0 (q_ist_3 (pc' := 2) dX11_manyOf_1 rfl (by decide) rfl (q_iconst (pc' := 3) _ dX11_manyOf_2 rfl kk_iconst_0 (q_ist_4 (pc' := 5) dX11_manyOf_3 rfl (by decide) rfl ?_)))
  have loop : ∀ m k, k + m = b 0 1 → Wq dd_X11_manyOf (mj_mk w l 472 Y) Q 5 [some (.ref 452), some (.int (nI p)), some (.int (nI s)), some (.int (nI (cntN (fun v => A 0 (32 * p + v) == s) k))), some (.int (nI k))] [] (472, I, J, R) := by
    intro m
    induction m with
    | zero =>
      intro k hkm
      have : k = b 0 1 := by omega
      subst this
      exact q_iload (pc' := 7) dX11_manyOf_5 rfl rfl (q_aload_n (pc' := 8) dX11_manyOf_7 rfl rfl (q_getIe (pc' := 11) dX11_manyOf_8 rfl fr_RX11_243 ⟨by omega, rfl⟩ rfl (mB_1 hb) (q_icmp_ge (pc' := 14) (pt := 48) dX11_manyOf_11 rfl rfl (fun _ => (q_iload_n (pc' := 49) dX11_manyOf_48 rfl rfl (q_iret dX11_manyOf_49 rfl hQ))) (fun h9 => absurd (by (first | assumption | exact nI_le (by omega) (by omega) | exact nI_ge (by omega) (by omega) | exact nI_lt (by omega) (by omega) | exact nI_nlt (by omega) (by omega) | exact nI_ne (by omega) (by omega) (by omega) | exact nI_e (by omega) | decide)) h9))))
    | succ m ih =>
      intro k hkm
      have h6 := (hA.1 (32 * p + k) (by omega)).1
      refine q_iload (pc' := 7) dX11_manyOf_5 rfl rfl (q_aload_n (pc' := 8) dX11_manyOf_7 rfl rfl (q_getIe (pc' := 11) dX11_manyOf_8 rfl fr_RX11_243 ⟨by omega, rfl⟩ rfl (mB_1 hb) (q_icmp_ge (pc' := 14) (pt := 48) dX11_manyOf_11 rfl rfl (fun h9 => absurd h9 (by (first | assumption | exact nI_le (by omega) (by omega) | exact nI_ge (by omega) (by omega) | exact nI_lt (by omega) (by omega) | exact nI_nlt (by omega) (by omega) | exact nI_ne (by omega) (by omega) (by omega) | exact nI_e (by omega) | decide))) (fun _ => (q_iload_n (pc' := 15) dX11_manyOf_14 rfl rfl (q_aload_n (pc' := 16) dX11_manyOf_15 rfl rfl (q_getR (pc' := 19) dX11_manyOf_16 rfl fr_RX11_51 ⟨by omega, rfl⟩ rfl (wM_36 hM) (by decide) (q_iconst (pc' := 20) _ dX11_manyOf_19 rfl kk_iconst_0 (q_iload_n (pc' := 21) dX11_manyOf_20 rfl rfl (q_iload (pc' := 23) dX11_manyOf_21 rfl rfl (q_cSi (pc' := 26) dX11_manyOf_23 rfl ml_RX11_286 ys_X11_spot (by decide) (rn_X11_spot) rfl rfl (Nat.le_of_ble_eq_true rfl) (Nat.le_refl _) (q_iadd (pc' := 27) dX11_manyOf_26 rfl (q_ialde (pc' := 28) (32 * p + k) dX11_manyOf_27 rfl (by first | exact ⟨by omega, rfl⟩ | exact okaS hi hz (by decide) rfl | assumption) (by (first | (simp only [nI_add, pk_mul]; done) | (simp only [nI_add, pk_mul]; exact nI_e (by omega)) | exact nI_e (by omega))) (by omega) ((hR _ (by omega)).trans (cE_vs (by omega))) (q_iload_n (pc' := 29) dX11_manyOf_28 rfl rfl ?_))))))))))))))
      refine q_bl_icmp_ne (p4 := 37) dX11_manyOf_29 dX11_manyOf_32 dX11_manyOf_33 dX11_manyOf_36 rfl rfl rfl rfl rfl (q_cSi (pc' := 40) dX11_manyOf_37 rfl ml_RX11_255 ys_X11_truth (by decide) (rn_X11_truth) rfl rfl (Nat.le_of_ble_eq_true rfl) (Nat.le_refl _) (q_iadd (pc' := 41) dX11_manyOf_40 rfl ?_))
      refine q_top (y := nI (cntN (fun v => A 0 (32 * p + v) == s) (k + 1))) (by rw [nI_dec (by omega) (by omega)]; exact nI_cnt (fun v => A 0 (32 * p + v) == s) k) ?_
      refine q_ist_3 (pc' := 42) dX11_manyOf_41 rfl (by decide) rfl (q_inc_4 (pc' := 45) dX11_manyOf_42 rfl (by decide) rfl (q_goto (pc' := 5) dX11_manyOf_45 rfl ?_))
      exact ih (k + 1) (by omega)
  exact loop (b 0 1) 0 (by omega)
theorem rn_X11_loadOf {p : Nat} (hM : mj_wM R) (hb : mB I b) (hk : bOK b) (hR : rR (I 464) A) (hA : aOK A) (hp : p < 8) : Rn w l yX11_loadOf dd_X11_loadOf [.ref 452, .int (nI p)] (472, I, J, R) (some (.int (nI (aLoad b A p)))) (472, I, J, R) := by
  refine rn_intro2 (L := [some (.ref 452), some (.int (nI p))]) ⟨by decide, rfl, (fun h => by cases h)⟩ (Nat.le_refl _) (Nat.le_of_ble_eq_true rfl) rfl (fun Y Q hQ => ?_)
  exact q_aload_n (pc' := 1) dX11_loadOf_0 rfl rfl (q_iload_n (pc' := 2) dX11_loadOf_1 rfl rfl (q_iconst (pc' := 3) _ dX11_loadOf_2 rfl kk_iconst_2 (q_cVi (pc' := 6) dX11_loadOf_3 rfl ml_RX11_289 yv_X11_manyOf (by decide) (rn_X11_manyOf hM hb hk hR hA hp (by omega)) ⟨by omega, rfl⟩ rfl rfl (Nat.le_of_ble_eq_true rfl) (Nat.le_refl _) (q_aload_n (pc' := 7) dX11_loadOf_6 rfl rfl (q_iload_n (pc' := 8) dX11_loadOf_7 rfl rfl (q_iconst (pc' := 9) _ dX11_loadOf_8 rfl kk_iconst_3 (q_cVi (pc' := 12) dX11_loadOf_9 rfl ml_RX11_289 yv_X11_manyOf (by decide) (rn_X11_manyOf hM hb hk hR hA hp (by omega)) ⟨by omega, rfl⟩ rfl rfl (Nat.le_of_ble_eq_true rfl) (Nat.le_refl _) (q_iadd (pc' := 13) dX11_loadOf_12 rfl (q_iret dX11_loadOf_13 rfl (by rw [nI_add]; exact hQ))))))))))
theorem rn_X11_pendingOf {p : Nat} (hM : mj_wM R) (hb : mB I b) (hk : bOK b) (hR : rR (I 464) A) (hp : p < 8) : Rn w l yX11_pendingOf dd_X11_pendingOf [.ref 452, .int (nI p)] (472, I, J, R) (some (.int (nI (aPend b A p)))) (472, I, J, R) := by
  have hv := hk.2.1.2
  refine rn_intro2 (L := [some (.ref 452), some (.int (nI p)), none, none]) ⟨by decide, rfl, (fun h => by cases h)⟩ (Nat.le_refl _) (Nat.le_of_ble_eq_true rfl) rfl (fun Y Q hQ => ?_)
  refine q_iconst (pc' := 1) _ dX11_pendingOf_0 rfl kk_iconst_0 (q_ist_2 (pc' := 2) dX11_pendingOf_1 rfl (by decide) rfl (q_iconst (pc' := 3) _ dX11_pendingOf_2 rfl kk_iconst_0 (q_ist_3 (pc' := 4) dX11_pendingOf_3 rfl (by decide) rfl ?_)))
  have loop : ∀ m k, k + m = b 0 1 → Wq dd_X11_pendingOf (mj_mk w l 472 Y) Q 4 [some (.ref 452), some (.int (nI p)), some (.int (nI (sumN (fun v => A 2 (32 * p + v)) k))), some (.int (nI k))] [] (472, I, J, R) := by
    intro m
    induction m with
    | zero =>
      intro k hkm
      have : k = b 0 1 := by omega
      subst this
      exact q_iload_n (pc' := 5) dX11_pendingOf_4 rfl rfl (q_aload_n (pc' := 6) dX11_pendingOf_5 rfl rfl (q_getIe (pc' := 9) dX11_pendingOf_6 rfl fr_RX11_243 ⟨by omega, rfl⟩ rfl (mB_1 hb) (q_icmp_ge (pc' := 12) (pt := 35) dX11_pendingOf_9 rfl rfl (fun _ => (q_iload_n (pc' := 36) dX11_pendingOf_35 rfl rfl (q_iret dX11_pendingOf_36 rfl hQ))) (fun h9 => absurd (by (first | assumption | exact nI_le (by omega) (by omega) | exact nI_ge (by omega) (by omega) | exact nI_lt (by omega) (by omega) | exact nI_nlt (by omega) (by omega) | exact nI_ne (by omega) (by omega) (by omega) | exact nI_e (by omega) | decide)) h9))))
    | succ m ih =>
      intro k hkm
      refine q_iload_n (pc' := 5) dX11_pendingOf_4 rfl rfl (q_aload_n (pc' := 6) dX11_pendingOf_5 rfl rfl (q_getIe (pc' := 9) dX11_pendingOf_6 rfl fr_RX11_243 ⟨by omega, rfl⟩ rfl (mB_1 hb) (q_icmp_ge (pc' := 12) (pt := 35) dX11_pendingOf_9 rfl rfl (fun h9 => absurd h9 (by (first | assumption | exact nI_le (by omega) (by omega) | exact nI_ge (by omega) (by omega) | exact nI_lt (by omega) (by omega) | exact nI_nlt (by omega) (by omega) | exact nI_ne (by omega) (by omega) (by omega) | exact nI_e (by omega) | decide))) (fun _ => (q_iload_n (pc' := 13) dX11_pendingOf_12 rfl rfl (q_aload_n (pc' := 14) dX11_pendingOf_13 rfl rfl (q_getR (pc' := 17) dX11_pendingOf_14 rfl fr_RX11_51 ⟨by omega, rfl⟩ rfl (wM_36 hM) (by decide) (q_sipush (pc' := 20) _ dX11_pendingOf_17 rfl kk_sipush_768 (q_iload_n (pc' := 21) dX11_pendingOf_20 rfl rfl (q_iload_n (pc' := 22) dX11_pendingOf_21 rfl rfl (q_cSi (pc' := 25) dX11_pendingOf_22 rfl ml_RX11_286 ys_X11_spot (by decide) (rn_X11_spot) rfl rfl (Nat.le_of_ble_eq_true rfl) (Nat.le_refl _) (q_iadd (pc' := 26) dX11_pendingOf_25 rfl (q_ialde (pc' := 27) (768 + (32 * p + k)) dX11_pendingOf_26 rfl (by first | exact ⟨by omega, rfl⟩ | exact okaS hi hz (by decide) rfl | assumption) (by (first | (simp only [nI_add, pk_mul]; done) | (simp only [nI_add, pk_mul]; exact nI_e (by omega)) | exact nI_e (by omega))) (by omega) ((hR _ (by omega)).trans (cE_pd (by omega))) (q_iadd (pc' := 28) dX11_pendingOf_27 rfl ?_))))))))))))))
      refine q_top (nI_sum (fun v => A 2 (32 * p + v)) k) ?_
      refine q_ist_2 (pc' := 29) dX11_pendingOf_28 rfl (by decide) rfl (q_inc_3 (pc' := 32) dX11_pendingOf_29 rfl (by decide) rfl (q_goto (pc' := 4) dX11_pendingOf_32 rfl ?_))
      exact ih (k + 1) (by omega)
  exact loop (b 0 1) 0 (by omega)
theorem rn_X11_isOnline {p : Nat} (hM : mj_wM R) (hR : rR (I 464) A) (hA : aOK A) (hp : p < 8) : Rn w l yX11_isOnline dd_X11_isOnline [.ref 452, .int (nI p)] (472, I, J, R) (some (.int (bI (A 9 p == 1)))) (472, I, J, R) := by
  have h6 := hA.2.2.2 p hp
  refine rn_intro2 (L := [some (.ref 452), some (.int (nI p))]) ⟨by decide, rfl, (fun h => by cases h)⟩ (Nat.le_refl _) (Nat.le_of_ble_eq_true rfl) rfl (fun Y Q hQ => ?_)
  exact q_aload_n (pc' := 1) dX11_isOnline_0 rfl rfl (q_getR (pc' := 4) dX11_isOnline_1 rfl fr_RX11_51 ⟨by omega, rfl⟩ rfl (wM_36 hM) (by decide) (q_sipush (pc' := 7) _ dX11_isOnline_4 rfl kk_sipush_1554 (q_iload_n (pc' := 8) dX11_isOnline_7 rfl rfl (q_iadd (pc' := 9) dX11_isOnline_8 rfl (q_ialde (pc' := 10) (1554 + p) dX11_isOnline_9 rfl (by first | exact ⟨by omega, rfl⟩ | exact okaS hi hz (by decide) rfl | assumption) (by (first | (simp only [nI_add, pk_mul]; done) | (simp only [nI_add, pk_mul]; exact nI_e (by omega)) | exact nI_e (by omega))) (by omega) ((hR _ (by omega)).trans (cE_on (by omega))) (q_iconst (pc' := 11) _ dX11_isOnline_10 rfl kk_iconst_1 (q_bl_icmp_ne (p4 := 19) dX11_isOnline_11 dX11_isOnline_14 dX11_isOnline_15 dX11_isOnline_18 rfl rfl rfl rfl rfl (q_zret dX11_isOnline_19 rfl (by first | exact Or.inl rfl | exact Or.inr rfl | exact bI_01 _) (by rw [nI_dec (by omega) (by omega)]; exact hQ)))))))))
theorem rn_X11_isStarted {p : Nat} (hM : mj_wM R) (hR : rR (I 464) A) (hA : aOK A) (hp : p < 10) : Rn w l yX11_isStarted dd_X11_isStarted [.ref 452, .int (nI p)] (472, I, J, R) (some (.int (bI (A 7 p == 1)))) (472, I, J, R) := by
  have h6 := (hA.2.2.1 p hp).1
  refine rn_intro2 (L := [some (.ref 452), some (.int (nI p))]) ⟨by decide, rfl, (fun h => by cases h)⟩ (Nat.le_refl _) (Nat.le_of_ble_eq_true rfl) rfl (fun Y Q hQ => ?_)
  exact q_aload_n (pc' := 1) dX11_isStarted_0 rfl rfl (q_getR (pc' := 4) dX11_isStarted_1 rfl fr_RX11_51 ⟨by omega, rfl⟩ rfl (wM_36 hM) (by decide) (q_sipush (pc' := 7) _ dX11_isStarted_4 rfl kk_sipush_1504 (q_iload_n (pc' := 8) dX11_isStarted_7 rfl rfl (q_iadd (pc' := 9) dX11_isStarted_8 rfl (q_ialde (pc' := 10) (1504 + p) dX11_isStarted_9 rfl (by first | exact ⟨by omega, rfl⟩ | exact okaS hi hz (by decide) rfl | assumption) (by (first | (simp only [nI_add, pk_mul]; done) | (simp only [nI_add, pk_mul]; exact nI_e (by omega)) | exact nI_e (by omega))) (by omega) ((hR _ (by omega)).trans (cE_st (by omega))) (q_iconst (pc' := 11) _ dX11_isStarted_10 rfl kk_iconst_1 (q_bl_icmp_ne (p4 := 19) dX11_isStarted_11 dX11_isStarted_14 dX11_isStarted_15 dX11_isStarted_18 rfl rfl rfl rfl rfl (q_zret dX11_isStarted_19 rfl (by first | exact Or.inl rfl | exact Or.inr rfl | exact bI_01 _) (by rw [nI_dec (by omega) (by omega)]; exact hQ)))))))))
theorem aCnt_le (b A : St) (p s : Nat) : aCnt b A p s ≤ b 0 1 := cntN_le _ _
theorem rn_X11_freeOnline (hM : mj_wM R) (hb : mB I b) (hk : bOK b) (hR : rR (I 464) A) (hA : aOK A) : Rn w l yX11_freeOnline dd_X11_freeOnline [.ref 452] (472, I, J, R) (some (.int (nI (aFree b A)))) (472, I, J, R) := by
  have hv := hk.1.2
  refine rn_intro2 (L := [some (.ref 452), none, none]) ⟨by decide, rfl, (fun h => by cases h)⟩ (Nat.le_refl _) (Nat.le_of_ble_eq_true rfl) rfl (fun Y Q hQ => ?_)
  refine q_iconst (pc' := 1) _ dX11_freeOnline_0 rfl kk_iconst_0 (q_ist_1 (pc' := 2) dX11_freeOnline_1 rfl (by decide) rfl (q_iconst (pc' := 3) _ dX11_freeOnline_2 rfl kk_iconst_0 (q_ist_2 (pc' := 4) dX11_freeOnline_3 rfl (by decide) rfl ?_)))
  have loop : ∀ m k, k + m = b 0 0 → Wq dd_X11_freeOnline (mj_mk w l 472 Y) Q 4 [some (.ref 452), some (.int (nI (sumN (fun p => if A 9 p = 1 then aCnt b A p 0 else 0) k))), some (.int (nI k))] [] (472, I, J, R) := by
    intro m
    induction m with
    | zero =>
      intro k hkm
      have : k = b 0 0 := by omega
      subst this
      exact q_iload_n (pc' := 5) dX11_freeOnline_4 rfl rfl (q_aload_n (pc' := 6) dX11_freeOnline_5 rfl rfl (q_getIe (pc' := 9) dX11_freeOnline_6 rfl fr_RX11_240 ⟨by omega, rfl⟩ rfl (mB_0 hb) (q_icmp_ge (pc' := 12) (pt := 39) dX11_freeOnline_9 rfl rfl (fun _ => (q_iload_n (pc' := 40) dX11_freeOnline_39 rfl rfl (q_iret dX11_freeOnline_40 rfl hQ))) (fun h9 => absurd (by (first | assumption | exact nI_le (by omega) (by omega) | exact nI_ge (by omega) (by omega) | exact nI_lt (by omega) (by omega) | exact nI_nlt (by omega) (by omega) | exact nI_ne (by omega) (by omega) (by omega) | exact nI_e (by omega) | decide)) h9))))
    | succ m ih =>
      intro k hkm
      refine q_iload_n (pc' := 5) dX11_freeOnline_4 rfl rfl (q_aload_n (pc' := 6) dX11_freeOnline_5 rfl rfl (q_getIe (pc' := 9) dX11_freeOnline_6 rfl fr_RX11_240 ⟨by omega, rfl⟩ rfl (mB_0 hb) (q_icmp_ge (pc' := 12) (pt := 39) dX11_freeOnline_9 rfl rfl (fun h9 => absurd h9 (by (first | assumption | exact nI_le (by omega) (by omega) | exact nI_ge (by omega) (by omega) | exact nI_lt (by omega) (by omega) | exact nI_nlt (by omega) (by omega) | exact nI_ne (by omega) (by omega) (by omega) | exact nI_e (by omega) | decide))) (fun _ => (q_iload_n (pc' := 13) dX11_freeOnline_12 rfl rfl (q_aload_n (pc' := 14) dX11_freeOnline_13 rfl rfl (q_iload_n (pc' := 15) dX11_freeOnline_14 rfl rfl (q_cVi (pc' := 18) dX11_freeOnline_15 rfl ml_RX11_292 yv_X11_isOnline (by decide) (rn_X11_isOnline hM hR hA (by omega)) ⟨by omega, rfl⟩ rfl rfl (Nat.le_of_ble_eq_true rfl) (Nat.le_refl _) (q_ifb_eq (pc' := 21) (pt := 30) dX11_freeOnline_18 rfl rfl (fun h1 => ?_) (fun h1 => ?_))))))))))
      · refine q_iconst (pc' := 31) _ dX11_freeOnline_30 rfl kk_iconst_0 (q_iadd (pc' := 32) dX11_freeOnline_31 rfl ?_)
        refine q_top (sum_st ?_) ?_
        · exact if_neg (by simpa using h1)
        refine q_ist_1 (pc' := 33) dX11_freeOnline_32 rfl (by decide) rfl (q_inc_2 (pc' := 36) dX11_freeOnline_33 rfl (by decide) rfl (q_goto (pc' := 4) dX11_freeOnline_36 rfl ?_))
        exact ih (k + 1) (by omega)
      · refine q_aload_n (pc' := 22) dX11_freeOnline_21 rfl rfl (q_iload_n (pc' := 23) dX11_freeOnline_22 rfl rfl (q_iconst (pc' := 24) _ dX11_freeOnline_23 rfl kk_iconst_0 (q_cVi (pc' := 27) dX11_freeOnline_24 rfl ml_RX11_289 yv_X11_manyOf (by decide) (rn_X11_manyOf hM hb hk hR hA (by omega) (by omega)) ⟨by omega, rfl⟩ rfl rfl (Nat.le_of_ble_eq_true rfl) (Nat.le_refl _) (q_goto (pc' := 31) dX11_freeOnline_27 rfl (q_iadd (pc' := 32) dX11_freeOnline_31 rfl ?_)))))
        refine q_top (sum_st ?_) ?_
        · exact if_pos (by simpa using h1)
        refine q_ist_1 (pc' := 33) dX11_freeOnline_32 rfl (by decide) rfl (q_inc_2 (pc' := 36) dX11_freeOnline_33 rfl (by decide) rfl (q_goto (pc' := 4) dX11_freeOnline_36 rfl ?_))
        exact ih (k + 1) (by omega)
  exact loop (b 0 0) 0 (by omega)
theorem rn_X11_promised (hM : mj_wM R) (hb : mB I b) (hk : bOK b) (hR : rR (I 464) A) (hA : aOK A) : Rn w l yX11_promised dd_X11_promised [.ref 452] (472, I, J, R) (some (.int (nI (aProm b A)))) (472, I, J, R) := by
  have hv := hk.2.2.1
  refine rn_intro2 (L := [some (.ref 452), none, none]) ⟨by decide, rfl, (fun h => by cases h)⟩ (Nat.le_refl _) (Nat.le_of_ble_eq_true rfl) rfl (fun Y Q hQ => ?_)
  refine q_iconst (pc' := 1) _ dX11_promised_0 rfl kk_iconst_0 (q_ist_1 (pc' := 2) dX11_promised_1 rfl (by decide) rfl (q_iconst (pc' := 3) _ dX11_promised_2 rfl kk_iconst_0 (q_ist_2 (pc' := 4) dX11_promised_3 rfl (by decide) rfl ?_)))
  have loop : ∀ m k, k + m = b 0 2 → Wq dd_X11_promised (mj_mk w l 472 Y) Q 4 [some (.ref 452), some (.int (nI (sumN (fun d => if A 8 d = 1 then b 2 d else 0) k))), some (.int (nI k))] [] (472, I, J, R) := by
    intro m
    induction m with
    | zero =>
      intro k hkm
      have : k = b 0 2 := by omega
      subst this
      exact q_iload_n (pc' := 5) dX11_promised_4 rfl rfl (q_aload_n (pc' := 6) dX11_promised_5 rfl rfl (q_getIe (pc' := 9) dX11_promised_6 rfl fr_RX11_252 ⟨by omega, rfl⟩ rfl (mB_2 hb) (q_icmp_ge (pc' := 12) (pt := 45) dX11_promised_9 rfl rfl (fun _ => (q_iload_n (pc' := 46) dX11_promised_45 rfl rfl (q_iret dX11_promised_46 rfl hQ))) (fun h9 => absurd (by (first | assumption | exact nI_le (by omega) (by omega) | exact nI_ge (by omega) (by omega) | exact nI_lt (by omega) (by omega) | exact nI_nlt (by omega) (by omega) | exact nI_ne (by omega) (by omega) (by omega) | exact nI_e (by omega) | decide)) h9))))
    | succ m ih =>
      intro k hkm
      have h6 := (hA.2.2.1 k (by omega)).2
      refine q_iload_n (pc' := 5) dX11_promised_4 rfl rfl (q_aload_n (pc' := 6) dX11_promised_5 rfl rfl (q_getIe (pc' := 9) dX11_promised_6 rfl fr_RX11_252 ⟨by omega, rfl⟩ rfl (mB_2 hb) (q_icmp_ge (pc' := 12) (pt := 45) dX11_promised_9 rfl rfl (fun h9 => absurd h9 (by (first | assumption | exact nI_le (by omega) (by omega) | exact nI_ge (by omega) (by omega) | exact nI_lt (by omega) (by omega) | exact nI_nlt (by omega) (by omega) | exact nI_ne (by omega) (by omega) (by omega) | exact nI_e (by omega) | decide))) (fun _ => (q_iload_n (pc' := 13) dX11_promised_12 rfl rfl (q_aload_n (pc' := 14) dX11_promised_13 rfl rfl (q_getR (pc' := 17) dX11_promised_14 rfl fr_RX11_51 ⟨by omega, rfl⟩ rfl (wM_36 hM) (by decide) (q_sipush (pc' := 20) _ dX11_promised_17 rfl kk_sipush_1514 (q_iload_n (pc' := 21) dX11_promised_20 rfl rfl (q_iadd (pc' := 22) dX11_promised_21 rfl (q_ialde (pc' := 23) (1514 + k) dX11_promised_22 rfl (by first | exact ⟨by omega, rfl⟩ | exact okaS hi hz (by decide) rfl | assumption) (by (first | (simp only [nI_add, pk_mul]; done) | (simp only [nI_add, pk_mul]; exact nI_e (by omega)) | exact nI_e (by omega))) (by omega) ((hR _ (by omega)).trans (cE_pr (by omega))) (q_iconst (pc' := 24) _ dX11_promised_23 rfl kk_iconst_1 (q_icmp_ne (pc' := 27) (pt := 36) dX11_promised_24 rfl rfl (fun h1 => ?_) (fun h1 => ?_))))))))))))))
      · refine q_iconst (pc' := 37) _ dX11_promised_36 rfl kk_iconst_0 (q_iadd (pc' := 38) dX11_promised_37 rfl ?_)
        refine q_top (sum_st ?_) ?_
        · exact if_neg (fun q => h1 (nI_e q))
        refine q_ist_1 (pc' := 39) dX11_promised_38 rfl (by decide) rfl (q_inc_2 (pc' := 42) dX11_promised_39 rfl (by decide) rfl (q_goto (pc' := 4) dX11_promised_42 rfl ?_))
        exact ih (k + 1) (by omega)
      · refine q_aload_n (pc' := 28) dX11_promised_27 rfl rfl (q_getR (pc' := 31) dX11_promised_28 rfl fr_RX11_32 ⟨by omega, rfl⟩ rfl (wM_30 hM) (by decide) (q_iload_n (pc' := 32) dX11_promised_31 rfl rfl (q_ialde (pc' := 33) _ dX11_promised_32 rfl (by first | exact ⟨by omega, rfl⟩ | exact okaS hi hz (by decide) rfl | assumption) rfl (by omega) (hb.2.2.2 k (by omega)).2.1 (q_goto (pc' := 37) dX11_promised_33 rfl (q_iadd (pc' := 38) dX11_promised_37 rfl ?_)))))
        refine q_top (sum_st ?_) ?_
        · exact if_pos ((nI_eq (by omega) (by omega)).mp h1)
        refine q_ist_1 (pc' := 39) dX11_promised_38 rfl (by decide) rfl (q_inc_2 (pc' := 42) dX11_promised_39 rfl (by decide) rfl (q_goto (pc' := 4) dX11_promised_42 rfl ?_))
        exact ih (k + 1) (by omega)
  exact loop (b 0 2) 0 (by omega)
theorem rn_X11_heldLines (hM : mj_wM R) (hb : mB I b) (hk : bOK b) (hR : rR (I 464) A) (hA : aOK A) : Rn w l yX11_heldLines dd_X11_heldLines [.ref 452] (472, I, J, R) (some (.int (nI (aHeld b A)))) (472, I, J, R) := by
  have hv := hk.1.2
  refine rn_intro2 (L := [some (.ref 452), none, none]) ⟨by decide, rfl, (fun h => by cases h)⟩ (Nat.le_refl _) (Nat.le_of_ble_eq_true rfl) rfl (fun Y Q hQ => ?_)
  refine q_iconst (pc' := 1) _ dX11_heldLines_0 rfl kk_iconst_0 (q_ist_1 (pc' := 2) dX11_heldLines_1 rfl (by decide) rfl (q_iconst (pc' := 3) _ dX11_heldLines_2 rfl kk_iconst_0 (q_ist_2 (pc' := 4) dX11_heldLines_3 rfl (by decide) rfl ?_)))
  have loop : ∀ m k, k + m = b 0 0 → Wq dd_X11_heldLines (mj_mk w l 472 Y) Q 4 [some (.ref 452), some (.int (nI (sumN (fun p => aCnt b A p 2) k))), some (.int (nI k))] [] (472, I, J, R) := by
    intro m
    induction m with
    | zero =>
      intro k hkm
      have : k = b 0 0 := by omega
      subst this
      exact q_iload_n (pc' := 5) dX11_heldLines_4 rfl rfl (q_aload_n (pc' := 6) dX11_heldLines_5 rfl rfl (q_getIe (pc' := 9) dX11_heldLines_6 rfl fr_RX11_240 ⟨by omega, rfl⟩ rfl (mB_0 hb) (q_icmp_ge (pc' := 12) (pt := 27) dX11_heldLines_9 rfl rfl (fun _ => (q_iload_n (pc' := 28) dX11_heldLines_27 rfl rfl (q_iret dX11_heldLines_28 rfl hQ))) (fun h9 => absurd (by (first | assumption | exact nI_le (by omega) (by omega) | exact nI_ge (by omega) (by omega) | exact nI_lt (by omega) (by omega) | exact nI_nlt (by omega) (by omega) | exact nI_ne (by omega) (by omega) (by omega) | exact nI_e (by omega) | decide)) h9))))
    | succ m ih =>
      intro k hkm
      refine q_iload_n (pc' := 5) dX11_heldLines_4 rfl rfl (q_aload_n (pc' := 6) dX11_heldLines_5 rfl rfl (q_getIe (pc' := 9) dX11_heldLines_6 rfl fr_RX11_240 ⟨by omega, rfl⟩ rfl (mB_0 hb) (q_icmp_ge (pc' := 12) (pt := 27) dX11_heldLines_9 rfl rfl (fun h9 => absurd h9 (by (first | assumption | exact nI_le (by omega) (by omega) | exact nI_ge (by omega) (by omega) | exact nI_lt (by omega) (by omega) | exact nI_nlt (by omega) (by omega) | exact nI_ne (by omega) (by omega) (by omega) | exact nI_e (by omega) | decide))) (fun _ => (q_iload_n (pc' := 13) dX11_heldLines_12 rfl rfl (q_aload_n (pc' := 14) dX11_heldLines_13 rfl rfl (q_iload_n (pc' := 15) dX11_heldLines_14 rfl rfl (q_iconst (pc' := 16) _ dX11_heldLines_15 rfl kk_iconst_2 (q_cVi (pc' := 19) dX11_heldLines_16 rfl ml_RX11_289 yv_X11_manyOf (by decide) (rn_X11_manyOf hM hb hk hR hA (by omega) (by omega)) ⟨by omega, rfl⟩ rfl rfl (Nat.le_of_ble_eq_true rfl) (Nat.le_refl _) (q_iadd (pc' := 20) dX11_heldLines_19 rfl ?_))))))))))
      refine q_top (nI_sum (fun p => aCnt b A p 2) k) ?_
      refine q_ist_1 (pc' := 21) dX11_heldLines_20 rfl (by decide) rfl (q_inc_2 (pc' := 24) dX11_heldLines_21 rfl (by decide) rfl (q_goto (pc' := 4) dX11_heldLines_24 rfl ?_))
      exact ih (k + 1) (by omega)
  exact loop (b 0 0) 0 (by omega)
theorem rn_X11_allPending (hM : mj_wM R) (hb : mB I b) (hk : bOK b) (hR : rR (I 464) A) : Rn w l yX11_allPending dd_X11_allPending [.ref 452] (472, I, J, R) (some (.int (nI (aUnh b A)))) (472, I, J, R) := by
  have hv := hk.1.2
  refine rn_intro2 (L := [some (.ref 452), none, none]) ⟨by decide, rfl, (fun h => by cases h)⟩ (Nat.le_refl _) (Nat.le_of_ble_eq_true rfl) rfl (fun Y Q hQ => ?_)
  refine q_iconst (pc' := 1) _ dX11_allPending_0 rfl kk_iconst_0 (q_ist_1 (pc' := 2) dX11_allPending_1 rfl (by decide) rfl (q_iconst (pc' := 3) _ dX11_allPending_2 rfl kk_iconst_0 (q_ist_2 (pc' := 4) dX11_allPending_3 rfl (by decide) rfl ?_)))
  have loop2 : ∀ m k, k + m = 80 → Wq dd_X11_allPending (mj_mk w l 472 Y) Q 28 [some (.ref 452), some (.int (nI (sumN (aPend b A) (b 0 0) + sumN (A 6) k))), some (.int (nI k))] [] (472, I, J, R) := by
    intro m
    induction m with
    | zero =>
      intro k hkm
      have : k = 80 := by omega
      subst this
      exact q_iload_n (pc' := 29) dX11_allPending_28 rfl rfl (q_bipush (pc' := 31) _ dX11_allPending_29 rfl kk_bipush_80 (q_icmp_ge (pc' := 34) (pt := 53) dX11_allPending_31 rfl rfl (fun _ => (q_iload_n (pc' := 54) dX11_allPending_53 rfl rfl (q_iret dX11_allPending_54 rfl hQ))) (fun h9 => absurd (by (first | assumption | exact nI_le (by omega) (by omega) | exact nI_ge (by omega) (by omega) | exact nI_lt (by omega) (by omega) | exact nI_nlt (by omega) (by omega) | exact nI_ne (by omega) (by omega) (by omega) | exact nI_e (by omega) | decide)) h9)))
    | succ m ih =>
      intro k hkm
      refine q_iload_n (pc' := 29) dX11_allPending_28 rfl rfl (q_bipush (pc' := 31) _ dX11_allPending_29 rfl kk_bipush_80 (q_icmp_ge (pc' := 34) (pt := 53) dX11_allPending_31 rfl rfl (fun h9 => absurd h9 (by (first | assumption | exact nI_le (by omega) (by omega) | exact nI_ge (by omega) (by omega) | exact nI_lt (by omega) (by omega) | exact nI_nlt (by omega) (by omega) | exact nI_ne (by omega) (by omega) (by omega) | exact nI_e (by omega) | decide))) (fun _ => (q_iload_n (pc' := 35) dX11_allPending_34 rfl rfl (q_aload_n (pc' := 36) dX11_allPending_35 rfl rfl (q_getR (pc' := 39) dX11_allPending_36 rfl fr_RX11_51 ⟨by omega, rfl⟩ rfl (wM_36 hM) (by decide) (q_sipush (pc' := 42) _ dX11_allPending_39 rfl kk_sipush_1424 (q_iload_n (pc' := 43) dX11_allPending_42 rfl rfl (q_iadd (pc' := 44) dX11_allPending_43 rfl (q_ialde (pc' := 45) (1424 + k) dX11_allPending_44 rfl (by first | exact ⟨by omega, rfl⟩ | exact okaS hi hz (by decide) rfl | assumption) (by (first | (simp only [nI_add, pk_mul]; done) | (simp only [nI_add, pk_mul]; exact nI_e (by omega)) | exact nI_e (by omega))) (by omega) ((hR _ (by omega)).trans (cE_wa (by omega))) (q_iadd (pc' := 46) dX11_allPending_45 rfl ?_)))))))))))
      refine q_top (y := nI (sumN (aPend b A) (b 0 0) + sumN (A 6) (k + 1))) (by rw [nI_add, Nat.add_assoc]; rfl) ?_
      refine q_ist_1 (pc' := 47) dX11_allPending_46 rfl (by decide) rfl (q_inc_2 (pc' := 50) dX11_allPending_47 rfl (by decide) rfl (q_goto (pc' := 28) dX11_allPending_50 rfl ?_))
      exact ih (k + 1) (by omega)
  have loop : ∀ m k, k + m = b 0 0 → Wq dd_X11_allPending (mj_mk w l 472 Y) Q 4 [some (.ref 452), some (.int (nI (sumN (aPend b A) k))), some (.int (nI k))] [] (472, I, J, R) := by
    intro m
    induction m with
    | zero =>
      intro k hkm
      have : k = b 0 0 := by omega
      subst this
      refine q_iload_n (pc' := 5) dX11_allPending_4 rfl rfl (q_aload_n (pc' := 6) dX11_allPending_5 rfl rfl (q_getIe (pc' := 9) dX11_allPending_6 rfl fr_RX11_240 ⟨by omega, rfl⟩ rfl (mB_0 hb) (q_icmp_ge (pc' := 12) (pt := 26) dX11_allPending_9 rfl rfl (fun _ => (q_iconst (pc' := 27) _ dX11_allPending_26 rfl kk_iconst_0 (q_ist_2 (pc' := 28) dX11_allPending_27 rfl (by decide) rfl ?_))) (fun h9 => absurd (by (first | assumption | exact nI_le (by omega) (by omega) | exact nI_ge (by omega) (by omega) | exact nI_lt (by omega) (by omega) | exact nI_nlt (by omega) (by omega) | exact nI_ne (by omega) (by omega) (by omega) | exact nI_e (by omega) | decide)) h9))))
      exact loop2 80 0 (by omega)
    | succ m ih =>
      intro k hkm
      refine q_iload_n (pc' := 5) dX11_allPending_4 rfl rfl (q_aload_n (pc' := 6) dX11_allPending_5 rfl rfl (q_getIe (pc' := 9) dX11_allPending_6 rfl fr_RX11_240 ⟨by omega, rfl⟩ rfl (mB_0 hb) (q_icmp_ge (pc' := 12) (pt := 26) dX11_allPending_9 rfl rfl (fun h9 => absurd h9 (by (first | assumption | exact nI_le (by omega) (by omega) | exact nI_ge (by omega) (by omega) | exact nI_lt (by omega) (by omega) | exact nI_nlt (by omega) (by omega) | exact nI_ne (by omega) (by omega) (by omega) | exact nI_e (by omega) | decide))) (fun _ => (q_iload_n (pc' := 13) dX11_allPending_12 rfl rfl (q_aload_n (pc' := 14) dX11_allPending_13 rfl rfl (q_iload_n (pc' := 15) dX11_allPending_14 rfl rfl (q_cVi (pc' := 18) dX11_allPending_15 rfl ml_RX11_295 yv_X11_pendingOf (by decide) (rn_X11_pendingOf hM hb hk hR (by omega)) ⟨by omega, rfl⟩ rfl rfl (Nat.le_of_ble_eq_true rfl) (Nat.le_refl _) (q_iadd (pc' := 19) dX11_allPending_18 rfl ?_)))))))))
      refine q_top (nI_sum (aPend b A) k) ?_
      refine q_ist_1 (pc' := 20) dX11_allPending_19 rfl (by decide) rfl (q_inc_2 (pc' := 23) dX11_allPending_20 rfl (by decide) rfl (q_goto (pc' := 4) dX11_allPending_23 rfl ?_))
      exact ih (k + 1) (by omega)
  exact loop (b 0 0) 0 (by omega)
/-- a number that a call gives, against a bound -/
def inN (x : Int32) (n : Nat) : Bool := decide (nI 0 ≤ x ∧ x ≤ nI n - nI 1)
theorem rn_X11_isDevice {x : Int32} (hb : mB I b) : Rn w l yX11_isDevice dd_X11_isDevice [.ref 452, .int x] (472, I, J, R) (some (.int (bI (inN x (b 0 2))))) (472, I, J, R) := by
  refine rn_intro2 (L := [some (.ref 452), some (.int x)]) ⟨by decide, rfl, (fun h => by cases h)⟩ (Nat.le_refl _) (Nat.le_of_ble_eq_true rfl) rfl (fun Y Q hQ => ?_)
  exact q_iload_n (pc' := 1) dX11_isDevice_0 rfl rfl (q_iconst (pc' := 2) _ dX11_isDevice_1 rfl kk_iconst_0 (q_aload_n (pc' := 3) dX11_isDevice_2 rfl rfl (q_getIe (pc' := 6) dX11_isDevice_3 rfl fr_RX11_252 ⟨by omega, rfl⟩ rfl (mB_2 hb) (q_iconst (pc' := 7) _ dX11_isDevice_6 rfl kk_iconst_1 (q_isub (pc' := 8) dX11_isDevice_7 rfl (q_cSi (pc' := 11) dX11_isDevice_8 rfl ml_RX11_89 ys_X11_isIn (by decide) (rn_X11_isIn) rfl rfl (Nat.le_of_ble_eq_true rfl) (Nat.le_refl _) (q_zret dX11_isDevice_11 rfl (by first | exact Or.inl rfl | exact Or.inr rfl | exact bI_01 _) hQ)))))))
theorem rn_X11_isCpu {x : Int32} (hb : mB I b) : Rn w l yX11_isCpu dd_X11_isCpu [.ref 452, .int x] (472, I, J, R) (some (.int (bI (inN x (b 0 0))))) (472, I, J, R) := by
  refine rn_intro2 (L := [some (.ref 452), some (.int x)]) ⟨by decide, rfl, (fun h => by cases h)⟩ (Nat.le_refl _) (Nat.le_of_ble_eq_true rfl) rfl (fun Y Q hQ => ?_)
  exact q_iload_n (pc' := 1) dX11_isCpu_0 rfl rfl (q_iconst (pc' := 2) _ dX11_isCpu_1 rfl kk_iconst_0 (q_aload_n (pc' := 3) dX11_isCpu_2 rfl rfl (q_getIe (pc' := 6) dX11_isCpu_3 rfl fr_RX11_240 ⟨by omega, rfl⟩ rfl (mB_0 hb) (q_iconst (pc' := 7) _ dX11_isCpu_6 rfl kk_iconst_1 (q_isub (pc' := 8) dX11_isCpu_7 rfl (q_cSi (pc' := 11) dX11_isCpu_8 rfl ml_RX11_89 ys_X11_isIn (by decide) (rn_X11_isIn) rfl rfl (Nat.le_of_ble_eq_true rfl) (Nat.le_refl _) (q_zret dX11_isCpu_11 rfl (by first | exact Or.inl rfl | exact Or.inr rfl | exact bI_01 _) hQ)))))))
theorem inN_iff {x : Int32} {n : Nat} (hn : n < 2 ^ 30) : inN x n = true ↔ ∃ j, j < n ∧ x = nI j := by
  unfold inN
  rw [decide_eq_true_iff]
  have e0 : (nI 0).toInt = 0 := by decide
  have e1 : (nI n - nI 1).toInt = (n : Int) - 1 := pk_sub_toInt hn (by omega)
  constructor
  · rintro ⟨h1, h2⟩
    rw [Int32.le_iff_toInt_le, e0] at h1
    rw [Int32.le_iff_toInt_le, e1] at h2
    obtain ⟨j, h3, h4⟩ := nI_of (x := x) (fun q => by rw [Int32.lt_iff_toInt_lt] at q; rw [Int32.toInt_zero] at q; omega)
    subst h4
    rw [nI_toInt h3] at h2
    exact ⟨j, by omega, rfl⟩
  · rintro ⟨j, h1, rfl⟩
    rw [Int32.le_iff_toInt_le, Int32.le_iff_toInt_le, e0, e1, nI_toInt (by omega)]
    omega
end M2
