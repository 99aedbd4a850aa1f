/-! ===== the class: Survey, what must go ===== -/
/-- each VECTOR that is HELD is so by a LINE that there is -/
def oOw (b A : St) : Prop := (∀ k, k < 256 → A 0 k = 2 → A 1 k ≠ 0 ∧ (A 1 k - 1) / 8 < b 0 2 ∧ (A 1 k - 1) % 8 < b 2 ((A 1 k - 1) / 8)) ∧ ∀ d, d < b 0 2 → b 1 d = 1 → b 2 d = 1
/-- what the class keeps of a BLOCK -/
def mCl (I : mj_M) (o : Option (Nat × Nat × Nat)) : Prop := match o with
  | none => I 450 1 = -1 ∧ I 450 2 = -1
  | some q => I 450 1 = nI q.1 ∧ I 450 2 = nI (32 * q.2.1 + q.2.2) ∧ q.1 ≤ 32 ∧ q.2.2 < 32
def mVy (I I' : mj_M) : Prop := ∀ a, a ≠ 450 → I' a = I a
theorem mVy.rf {I : mj_M} : mVy I I := fun _ _ => rfl
theorem mVy.tr {I I' I2 : mj_M} (h : mVy I I') (h2 : mVy I' I2) : mVy I I2 := fun a ha => (h2 a ha).trans (h a ha)
theorem cB_V {I I' : mj_M} {b : St} (h : mVy I I') (hb : cB I b) : cB I' b := by
  refine ⟨?_, fun d hd => ?_⟩
  · rw [h 4 (by decide)]; exact hb.1
  · rw [h 7 (by decide), h 8 (by decide), h 9 (by decide)]; exact hb.2 d hd
theorem cR_V {I I' : mj_M} {i : Nat} {b A : St} (hi : i < 21) (h : mVy I I') (hr : cR I i b A) : cR I' i b A := cR_F (fun c hc => h _ (by unfold sA; omega)) hr
section SV2
variable {w : mj_Wd} {l : Launch} {I : mj_M} {J : mj_J} {R : mj_R} {b A : St} {i : Nat}
theorem rn_X7_canGo {id : Nat} (hi : i < 21) (hS : mj_wS R i) (hV : mj_wV R) (hB : mj_wB R 4) (hb : cB I b) (hk : bOK b) (h : cRs I i A) (hA : aOK A) (hid : id < 80) (hd : id / 8 < b 0 2) : Rn w l yX7_canGo dd_X7_canGo [.ref 450, .ref (sA i 0), .int (nI id)] (472, I, J, R) (some (.int (bI (decide (b 1 (id / 8) = 1 ∧ A 4 id = 0))))) (472, I, J, R) := by
  have hz : 50 + 20 * i ≤ 472 := by omega
  have h10 := hk.2.2.1
  have hs := hk.2.2.2 _ hd
  have ed := pk_div (a := id) (d := 8) (by omega) (by decide) (by decide)
  have c4 := (hA.2.1 id hid).2.1
  have e4 : I (sA i 8) id = lD (A 4 id) := (h.2 id hid).2.1
  refine rn_intro2 (L := [some (.ref 450), some (.ref (sA i 0)), some (.int (nI id))]) ⟨by decide, rfl, (fun h => by cases h)⟩ (Nat.le_refl _) (Nat.le_of_ble_eq_true rfl) rfl (fun Y Q hQ => ?_)
  refine q_iload_n (pc' := 1) dX7_canGo_0 rfl rfl (q_iconst (pc' := 2) _ dX7_canGo_1 rfl kk_iconst_m1 (q_icmp_eq (pc' := 5) (pt := 35) dX7_canGo_2 rfl rfl (fun h9 => absurd h9 (nI_m1 (by omega))) (fun _ => (q_aload_n (pc' := 6) dX7_canGo_5 rfl rfl (q_getR (pc' := 9) dX7_canGo_6 rfl fr_RX7_18 ⟨by omega, rfl⟩ rfl (wV_7_0 hV) (by decide) (q_getR (pc' := 12) dX7_canGo_9 rfl fr_RX7_91 (by first | assumption | exact ⟨by omega, rfl⟩) rfl (wB_7 hB) (by omega) (q_iload_n (pc' := 13) dX7_canGo_12 rfl rfl (q_bipush (pc' := 15) _ dX7_canGo_13 rfl kk_bipush_8 (q_idiv (pc' := 16) dX7_canGo_15 rfl (by decide) ?_)))))))))
  refine q_top ed ?_
  by_cases h1 : b 1 (id / 8) = 1
  · by_cases h4 : A 4 id = 0
    · rw [decide_eq_true ⟨h1, h4⟩] at hQ
      exact q_ialde (pc' := 17) (id / 8) dX7_canGo_16 rfl (by first | exact ⟨by omega, rfl⟩ | exact okaS hi hz (by decide) rfl | assumption) (by (first | (simp only [nI_add, pk_mul]; done) | (simp only [nI_add, pk_mul]; exact nI_e (by omega)) | exact nI_e (by omega))) (by omega) (hb.2 _ hd).1 (q_iconst (pc' := 18) _ dX7_canGo_17 rfl kk_iconst_1 (q_icmp_ne (pc' := 21) (pt := 35) dX7_canGo_18 rfl rfl (fun h9 => absurd (congrArg nI h1) h9) (fun _ => (q_aload_n (pc' := 22) dX7_canGo_21 rfl rfl (q_getR (pc' := 25) dX7_canGo_22 rfl fr_RX7_94 (okS hi hz (by decide) rfl) rfl (wS_5_6 hS) (sA_lt hi (by decide)) (q_iload_n (pc' := 26) dX7_canGo_25 rfl rfl (q_ialde (pc' := 27) (id) dX7_canGo_26 rfl (by first | exact ⟨by omega, rfl⟩ | exact okaS hi hz (by decide) rfl | assumption) (by (first | (simp only [nI_add, pk_mul]; done) | (simp only [nI_add, pk_mul]; exact nI_e (by omega)) | exact nI_e (by omega))) (by omega) e4 (q_iconst (pc' := 28) _ dX7_canGo_27 rfl kk_iconst_m1 (q_icmp_ne (pc' := 31) (pt := 35) dX7_canGo_28 rfl rfl (fun h9 => absurd (by rw [h4]; rfl) h9) (fun _ => (q_iconst (pc' := 32) _ dX7_canGo_31 rfl kk_iconst_1 (q_goto (pc' := 36) dX7_canGo_32 rfl (q_zret dX7_canGo_36 rfl (by first | exact Or.inl rfl | exact Or.inr rfl | exact bI_01 _) hQ)))))))))))))
    · rw [decide_eq_false (fun z => h4 z.2)] at hQ
      exact q_ialde (pc' := 17) (id / 8) dX7_canGo_16 rfl (by first | exact ⟨by omega, rfl⟩ | exact okaS hi hz (by decide) rfl | assumption) (by (first | (simp only [nI_add, pk_mul]; done) | (simp only [nI_add, pk_mul]; exact nI_e (by omega)) | exact nI_e (by omega))) (by omega) (hb.2 _ hd).1 (q_iconst (pc' := 18) _ dX7_canGo_17 rfl kk_iconst_1 (q_icmp_ne (pc' := 21) (pt := 35) dX7_canGo_18 rfl rfl (fun h9 => absurd (congrArg nI h1) h9) (fun _ => (q_aload_n (pc' := 22) dX7_canGo_21 rfl rfl (q_getR (pc' := 25) dX7_canGo_22 rfl fr_RX7_94 (okS hi hz (by decide) rfl) rfl (wS_5_6 hS) (sA_lt hi (by decide)) (q_iload_n (pc' := 26) dX7_canGo_25 rfl rfl (q_ialde (pc' := 27) (id) dX7_canGo_26 rfl (by first | exact ⟨by omega, rfl⟩ | exact okaS hi hz (by decide) rfl | assumption) (by (first | (simp only [nI_add, pk_mul]; done) | (simp only [nI_add, pk_mul]; exact nI_e (by omega)) | exact nI_e (by omega))) (by omega) e4 (q_iconst (pc' := 28) _ dX7_canGo_27 rfl kk_iconst_m1 (q_icmp_ne (pc' := 31) (pt := 35) dX7_canGo_28 rfl rfl (fun _ => (q_iconst (pc' := 36) _ dX7_canGo_35 rfl kk_iconst_0 (q_zret dX7_canGo_36 rfl (by first | exact Or.inl rfl | exact Or.inr rfl | exact bI_01 _) hQ))) (fun h9 => absurd h9 (by rw [lD_p (by omega)]; exact nI_m1 (by omega))))))))))))
  · rw [decide_eq_false (fun z => h1 z.1)] at hQ
    exact q_ialde (pc' := 17) (id / 8) dX7_canGo_16 rfl (by first | exact ⟨by omega, rfl⟩ | exact okaS hi hz (by decide) rfl | assumption) (by (first | (simp only [nI_add, pk_mul]; done) | (simp only [nI_add, pk_mul]; exact nI_e (by omega)) | exact nI_e (by omega))) (by omega) (hb.2 _ hd).1 (q_iconst (pc' := 18) _ dX7_canGo_17 rfl kk_iconst_1 (q_icmp_ne (pc' := 21) (pt := 35) dX7_canGo_18 rfl rfl (fun _ => (q_iconst (pc' := 36) _ dX7_canGo_35 rfl kk_iconst_0 (q_zret dX7_canGo_36 rfl (by first | exact Or.inl rfl | exact Or.inr rfl | exact bI_01 _) hQ))) (fun h9 => absurd h9 (nI_ne h1 (by omega) (by omega)))))
theorem rn_X7_costOfBlock {p v n : Nat} (hi : i < 21) (hS : mj_wS R i) (hV : mj_wV R) (hB : mj_wB R 4) (hb : cB I b) (hk : bOK b) (h : cR I i b A) (hA : aOK A) (hO : oOw b A) (hp : p < b 0 0) (hv : v + n ≤ b 0 1) : Rn w l yX7_costOfBlock dd_X7_costOfBlock [.ref 450, .ref (sA i 0), .int (nI (32 * p + v)), .int (nI n)] (472, I, J, R) (some (.int (oI (aMu b A p v n)))) (472, I, J, R) := by
  have hz : 50 + 20 * i ≤ 472 := by omega
  have h8 := hk.1.2
  have h32 := hk.2.1.2
  have h10 := hk.2.2.1
  refine rn_intro2 (L := [some (.ref 450), some (.ref (sA i 0)), some (.int (nI (32 * p + v))), some (.int (nI n)), none, none, none]) ⟨by decide, rfl, (fun h => by cases h)⟩ (Nat.le_refl _) (Nat.le_of_ble_eq_true rfl) rfl (fun Y Q hQ => ?_)
  have loop : ∀ m k x o6, k + m = n → aMu b A p v k = some x → Wq dd_X7_costOfBlock (mj_mk w l 472 Y) Q 6 [some (.ref 450), some (.ref (sA i 0)), some (.int (nI (32 * p + v))), some (.int (nI n)), some (.int (nI x)), some (.int (nI (32 * p + v + k))), o6] [] (472, I, J, R) := by
    intro m
    induction m with
    | zero =>
      intro k x o6 hkm hx
      have hkz : k = n := by omega
      subst hkz
      rw [hx] at hQ
      refine q_iload (pc' := 8) dX7_costOfBlock_6 rfl rfl (q_iload_n (pc' := 9) dX7_costOfBlock_8 rfl rfl (q_iload_n (pc' := 10) dX7_costOfBlock_9 rfl rfl (q_iadd (pc' := 11) dX7_costOfBlock_10 rfl ?_)))
      refine q_top (nI_add _ _) ?_
      exact q_icmp_ge (pc' := 14) (pt := 68) dX7_costOfBlock_11 rfl rfl (fun _ => (q_iload (pc' := 70) dX7_costOfBlock_68 rfl rfl (q_iret dX7_costOfBlock_70 rfl hQ))) (fun h9 => absurd (by (first | assumption | exact nI_le (by omega) (by omega) | exact nI_ge (by omega) (by omega) | exact nI_lt (by omega) (by omega) | exact nI_nlt (by omega) (by omega) | exact nI_ne (by omega) (by omega) (by omega) | exact nI_e (by omega) | decide)) h9)
    | succ m ih =>
      intro k x o6 hkm hx
      have hpl : 32 * p + v + k < 256 := by omega
      have hm32 : (32 * p + v + k) % 32 < b 0 1 := by rw [show (32 * p + v + k) % 32 = v + k by omega]; omega
      have ha := hA.1 _ hpl
      have es : aMu b A p v (k + 1) = (match aMG b A (32 * p + v + k) with | some y => some (x + y) | none => none) := by
        show (match aMu b A p v k, aMG b A (32 * p + (v + k)) with | some x, some y => some (x + y) | _, _ => none) = _
        rw [hx, ← Nat.add_assoc]
        cases aMG b A (32 * p + v + k) with
        | none => rfl
        | some y => rfl
      have bad : aMG b A (32 * p + v + k) = none → aMu b A p v n = none := fun hn => aMu_0 (k := k + 1) (by rw [es, hn]) (by omega)
      refine q_iload (pc' := 8) dX7_costOfBlock_6 rfl rfl (q_iload_n (pc' := 9) dX7_costOfBlock_8 rfl rfl (q_iload_n (pc' := 10) dX7_costOfBlock_9 rfl rfl (q_iadd (pc' := 11) dX7_costOfBlock_10 rfl ?_)))
      refine q_top (nI_add _ _) ?_
      refine q_icmp_ge (pc' := 14) (pt := 68) dX7_costOfBlock_11 rfl rfl (fun h9 => absurd h9 (Int32.not_le.mpr (nI_lt (by omega) (by omega)))) (fun _ => (q_aload_n (pc' := 15) dX7_costOfBlock_14 rfl rfl (q_getR (pc' := 18) dX7_costOfBlock_15 rfl fr_RX7_27 (okS hi hz (by decide) rfl) rfl (wS_5_1 hS) (sA_lt hi (by decide)) (q_iload (pc' := 20) dX7_costOfBlock_18 rfl rfl (q_cVi (pc' := 23) dX7_costOfBlock_20 rfl ml_RX7_81 yv_X4_kindAt (by decide) (rn_X4_kindAt hi hS hk h.1 hpl hm32 ha.1) (okS hi hz (by decide) rfl) rfl rfl (Nat.le_of_ble_eq_true rfl) (Nat.le_refl _) (q_ist_6 (pc' := 25) dX7_costOfBlock_23 rfl (by decide) rfl ?_))))))
      by_cases h2 : A 0 (32 * p + v + k) = 2
      · obtain ⟨o1, o2, o3⟩ := hO.1 _ hpl h2
        have eo : I (sA i 19) (32 * p + v + k) = nI (A 1 (32 * p + v + k) - 1) := (h.1.2.2.1 _ hpl).trans (lD_p (by omega))
        refine q_iload (pc' := 27) dX7_costOfBlock_25 rfl rfl (q_iconst (pc' := 28) _ dX7_costOfBlock_27 rfl kk_iconst_2 (q_icmp_ne (pc' := 31) (pt := 55) dX7_costOfBlock_28 rfl rfl (fun h9 => absurd (congrArg nI h2) h9) (fun _ => (q_aload_n (pc' := 32) dX7_costOfBlock_31 rfl rfl (q_aload_n (pc' := 33) dX7_costOfBlock_32 rfl rfl (q_aload_n (pc' := 34) dX7_costOfBlock_33 rfl rfl (q_getR (pc' := 37) dX7_costOfBlock_34 rfl fr_RX7_27 (okS hi hz (by decide) rfl) rfl (wS_5_1 hS) (sA_lt hi (by decide)) (q_getR (pc' := 40) dX7_costOfBlock_37 rfl fr_RX7_84 (okS hi hz (by decide) rfl) rfl (wS_4_4 hS) (sA_lt hi (by decide)) (q_iload (pc' := 42) dX7_costOfBlock_40 rfl rfl (q_ialde (pc' := 43) (32 * p + v + k) dX7_costOfBlock_42 rfl (by first | exact ⟨by omega, rfl⟩ | exact okaS hi hz (by decide) rfl | assumption) (by (first | (simp only [nI_add, pk_mul]; done) | (simp only [nI_add, pk_mul]; exact nI_e (by omega)) | exact nI_e (by omega))) (by omega) eo (q_cVi (pc' := 46) dX7_costOfBlock_43 rfl ml_RX7_87 yv_X7_canGo (by decide) (rn_X7_canGo hi hS hV hB hb hk h.2.2 hA (by omega) o2) ⟨by omega, rfl⟩ rfl rfl (Nat.le_of_ble_eq_true rfl) (Nat.le_refl _) ?_)))))))))))
        by_cases hc : b 1 ((A 1 (32 * p + v + k) - 1) / 8) = 1 ∧ A 4 (A 1 (32 * p + v + k) - 1) = 0
        · have hl := hO.2 _ o2 hc.1
          have eid : 8 * ((A 1 (32 * p + v + k) - 1) / 8) = A 1 (32 * p + v + k) - 1 := by omega
          have eg : aMG b A (32 * p + v + k) = some 1 := by
            unfold aMG
            rw [if_neg (by rw [h2]; decide), if_pos ⟨h2, hc.1, by rw [eid]; exact hc.2⟩]
          rw [eg] at es
          refine q_ifb_eq (pc' := 49) (pt := 55) dX7_costOfBlock_46 rfl rfl (fun h9 => Bool.noConfusion (Eq.trans (Eq.symm (decide_eq_true hc)) h9)) (fun _ => (q_inc_4 (pc' := 52) dX7_costOfBlock_49 rfl (by decide) rfl (q_goto (pc' := 62) dX7_costOfBlock_52 rfl (q_inc_5 (pc' := 65) dX7_costOfBlock_62 rfl (by decide) rfl (q_goto (pc' := 6) dX7_costOfBlock_65 rfl ?_)))))
          exact ih (k + 1) (x + 1) _ (by omega) es
        · have eg : aMG b A (32 * p + v + k) = none := by
            unfold aMG
            rw [if_neg (by rw [h2]; decide), if_neg (fun z => hc ⟨z.2.1, by
              have hl := hO.2 _ o2 z.2.1
              have eid : 8 * ((A 1 (32 * p + v + k) - 1) / 8) = A 1 (32 * p + v + k) - 1 := by omega
              rw [← eid]; exact z.2.2⟩)]
          rw [bad eg] at hQ
          exact q_ifb_eq (pc' := 49) (pt := 55) dX7_costOfBlock_46 rfl rfl (fun _ => (q_iload (pc' := 57) dX7_costOfBlock_55 rfl rfl (q_if_eq (pc' := 60) (pt := 62) dX7_costOfBlock_57 rfl rfl (fun h9 => absurd h9 (by rw [h2]; decide)) (fun _ => (q_iconst (pc' := 61) _ dX7_costOfBlock_60 rfl kk_iconst_m1 (q_iret dX7_costOfBlock_61 rfl hQ)))))) (fun h9 => Bool.noConfusion (Eq.trans (Eq.symm (decide_eq_false hc)) h9))
      · by_cases h0 : A 0 (32 * p + v + k) = 0
        · have eg : aMG b A (32 * p + v + k) = some 0 := if_pos h0
          rw [eg] at es
          refine q_iload (pc' := 27) dX7_costOfBlock_25 rfl rfl (q_iconst (pc' := 28) _ dX7_costOfBlock_27 rfl kk_iconst_2 (q_icmp_ne (pc' := 31) (pt := 55) dX7_costOfBlock_28 rfl rfl (fun _ => (q_iload (pc' := 57) dX7_costOfBlock_55 rfl rfl (q_if_eq (pc' := 60) (pt := 62) dX7_costOfBlock_57 rfl rfl (fun _ => (q_inc_5 (pc' := 65) dX7_costOfBlock_62 rfl (by decide) rfl (q_goto (pc' := 6) dX7_costOfBlock_65 rfl ?_))) (fun h9 => absurd (by rw [h0]; rfl) h9)))) (fun h9 => absurd h9 (nI_ne h2 (by omega) (by omega)))))
          exact ih (k + 1) x _ (by omega) es
        · have eg : aMG b A (32 * p + v + k) = none := by
            unfold aMG
            rw [if_neg h0, if_neg (fun z => h2 z.1)]
          rw [bad eg] at hQ
          exact q_iload (pc' := 27) dX7_costOfBlock_25 rfl rfl (q_iconst (pc' := 28) _ dX7_costOfBlock_27 rfl kk_iconst_2 (q_icmp_ne (pc' := 31) (pt := 55) dX7_costOfBlock_28 rfl rfl (fun _ => (q_iload (pc' := 57) dX7_costOfBlock_55 rfl rfl (q_if_eq (pc' := 60) (pt := 62) dX7_costOfBlock_57 rfl rfl (fun h9 => absurd h9 (nI_ne (b := 0) h0 (by omega) (by omega))) (fun _ => (q_iconst (pc' := 61) _ dX7_costOfBlock_60 rfl kk_iconst_m1 (q_iret dX7_costOfBlock_61 rfl hQ)))))) (fun h9 => absurd h9 (nI_ne h2 (by omega) (by omega)))))
  refine q_iconst (pc' := 1) _ dX7_costOfBlock_0 rfl kk_iconst_0 (q_ist_4 (pc' := 3) dX7_costOfBlock_1 rfl (by decide) rfl (q_iload_n (pc' := 4) dX7_costOfBlock_3 rfl rfl (q_ist_5 (pc' := 6) dX7_costOfBlock_4 rfl (by decide) rfl ?_)))
  exact loop n 0 0 _ (by omega) rfl
theorem rs_X7_seekBlock {n : Nat} (hi : i < 21) (hS : mj_wS R i) (hV : mj_wV R) (hB : mj_wB R 4) (hb : cB I b) (hk : bOK b) (h : cR I i b A) (hA : aOK A) (hO : oOw b A) (hn : 1 ≤ n ∧ n ≤ 8) : RsV w l yX7_seekBlock dd_X7_seekBlock [.ref 450, .ref (sA i 0), .int (nI n)] (472, I, J, R) (fun I' => mCl I' (aClB b A n) ∧ mVy I I') := by
  have hz : 50 + 20 * i ≤ 472 := by omega
  have h8 := hk.1.2
  have h32 := hk.2.1.2
  have hdiv := Nat.mul_div_le (b 0 1) n
  have hdv2 := Nat.lt_mul_div_succ (b 0 1) (show 0 < n by omega)
  refine rt_intro2 (L := [some (.ref 450), some (.ref (sA i 0)), some (.int (nI n)), none, none, none]) ⟨by decide, rfl, (fun h => by cases h)⟩ (Nat.le_of_ble_eq_true rfl) rfl (fun Y Q hQ => ?_)
  unfold aClB at hQ
  have inner : ∀ p, p < b 0 0 → A 9 p = 1 → (∀ I1 o4 o5, mCl I1 (cI b A n p (b 0 1 / n) (cP b A n p)) → mVy I I1 → Wq dd_X7_seekBlock (mj_mk w l 472 Y) Q 119 [some (.ref 450), some (.ref (sA i 0)), some (.int (nI n)), some (.int (nI p)), o4, o5] [] (472, I1, J, R)) → ∀ m k I0 o5, k + m = b 0 1 / n → mCl I0 (cI b A n p k (cP b A n p)) → mVy I I0 → Wq dd_X7_seekBlock (mj_mk w l 472 Y) Q 26 [some (.ref 450), some (.ref (sA i 0)), some (.int (nI n)), some (.int (nI p)), some (.int (nI (n * k))), o5] [] (472, I0, J, R) := by
    intro p hp hc9 hnext m
    induction m with
    | zero =>
      intro k I0 o5 hkm hC hm
      have hkz : k = b 0 1 / n := by omega
      have hnk : n * k + n = n * (b 0 1 / n + 1) := by rw [hkz, Nat.mul_add, Nat.mul_one]
      have hle : n * k ≤ b 0 1 := by rw [hkz]; exact hdiv
      rw [hkz] at hC
      have hb0 := cB_V hm hb
      have hr := cR_V hi hm h
      refine q_iload_n (pc' := 27) dX7_seekBlock_26 rfl rfl (q_if_le (pc' := 30) (pt := 119) dX7_seekBlock_27 rfl rfl (fun h9 => absurd h9 (Int32.not_le.mpr (nI_lt (a := 0) (by omega) (by omega)))) (fun _ => (q_aload_n (pc' := 31) dX7_seekBlock_30 rfl rfl (q_getR (pc' := 34) dX7_seekBlock_31 rfl fr_RX7_27 (okS hi hz (by decide) rfl) rfl (wS_5_1 hS) (sA_lt hi (by decide)) (q_iload_n (pc' := 35) dX7_seekBlock_34 rfl rfl (q_cVi (pc' := 38) dX7_seekBlock_35 rfl ml_RX7_33 yv_X4_isOnline (by decide) (rn_X4_isOnline hi hk hr.1 hp) (okS hi hz (by decide) rfl) rfl rfl (Nat.le_of_ble_eq_true rfl) (Nat.le_refl _) (q_ifb_eq (pc' := 41) (pt := 119) dX7_seekBlock_38 rfl rfl (fun h9 => Bool.noConfusion (Eq.trans (Eq.symm (beq_iff_eq.mpr hc9)) h9)) (fun _ => (q_iload (pc' := 43) dX7_seekBlock_41 rfl rfl (q_iload_n (pc' := 44) dX7_seekBlock_43 rfl rfl (q_iadd (pc' := 45) dX7_seekBlock_44 rfl ?_)))))))))))
      refine q_top (nI_add _ _) ?_
      refine q_aload_n (pc' := 46) dX7_seekBlock_45 rfl rfl (q_getR (pc' := 49) dX7_seekBlock_46 rfl fr_RX7_18 ⟨by omega, rfl⟩ rfl (wV_7_0 hV) (by decide) (q_getIe (pc' := 52) dX7_seekBlock_49 rfl fr_RX7_74 (by first | assumption | exact ⟨by omega, rfl⟩) rfl (cB_1 hb0) (q_icmp_gt (pc' := 55) (pt := 119) dX7_seekBlock_52 rfl rfl (fun _ => ?_) (fun h9 => absurd (nI_lt (by omega) (by omega)) h9))))
      exact hnext I0 _ _ hC hm
    | succ m ih =>
      intro k I0 o5 hkm hC hm
      have hk1 : k + 1 ≤ b 0 1 / n := by omega
      have hnk : n * k + n ≤ b 0 1 := by
        have := Nat.mul_le_mul_left n hk1
        rw [Nat.mul_add, Nat.mul_one] at this
        omega
      have hb0 := cB_V hm hb
      have hr := cR_V hi hm h
      have next := fun I1 o5 r1 f1 => ih (k + 1) I1 o5 (by omega) r1 f1
      have hst : cI b A n p (k + 1) (cP b A n p) = cS b A n p k (cI b A n p k (cP b A n p)) := rfl
      rw [hst, Nat.mul_add, Nat.mul_one] at next
      generalize cI b A n p k (cP b A n p) = o at hC next
      refine q_iload_n (pc' := 27) dX7_seekBlock_26 rfl rfl (q_if_le (pc' := 30) (pt := 119) dX7_seekBlock_27 rfl rfl (fun h9 => absurd h9 (Int32.not_le.mpr (nI_lt (a := 0) (by omega) (by omega)))) (fun _ => (q_aload_n (pc' := 31) dX7_seekBlock_30 rfl rfl (q_getR (pc' := 34) dX7_seekBlock_31 rfl fr_RX7_27 (okS hi hz (by decide) rfl) rfl (wS_5_1 hS) (sA_lt hi (by decide)) (q_iload_n (pc' := 35) dX7_seekBlock_34 rfl rfl (q_cVi (pc' := 38) dX7_seekBlock_35 rfl ml_RX7_33 yv_X4_isOnline (by decide) (rn_X4_isOnline hi hk hr.1 hp) (okS hi hz (by decide) rfl) rfl rfl (Nat.le_of_ble_eq_true rfl) (Nat.le_refl _) (q_ifb_eq (pc' := 41) (pt := 119) dX7_seekBlock_38 rfl rfl (fun h9 => Bool.noConfusion (Eq.trans (Eq.symm (beq_iff_eq.mpr hc9)) h9)) (fun _ => (q_iload (pc' := 43) dX7_seekBlock_41 rfl rfl (q_iload_n (pc' := 44) dX7_seekBlock_43 rfl rfl (q_iadd (pc' := 45) dX7_seekBlock_44 rfl ?_)))))))))))
      refine q_top (nI_add _ _) ?_
      refine q_aload_n (pc' := 46) dX7_seekBlock_45 rfl rfl (q_getR (pc' := 49) dX7_seekBlock_46 rfl fr_RX7_18 ⟨by omega, rfl⟩ rfl (wV_7_0 hV) (by decide) (q_getIe (pc' := 52) dX7_seekBlock_49 rfl fr_RX7_74 (by first | assumption | exact ⟨by omega, rfl⟩) rfl (cB_1 hb0) (q_icmp_gt (pc' := 55) (pt := 119) dX7_seekBlock_52 rfl rfl (fun h9 => absurd h9 (Int32.not_lt.mpr (nI_le hnk (by omega)))) (fun _ => (q_aload_n (pc' := 56) dX7_seekBlock_55 rfl rfl (q_aload_n (pc' := 57) dX7_seekBlock_56 rfl rfl (q_iload_n (pc' := 58) dX7_seekBlock_57 rfl rfl (q_bipush (pc' := 60) _ dX7_seekBlock_58 rfl kk_bipush_32 (q_imul (pc' := 61) dX7_seekBlock_60 rfl (q_iload (pc' := 63) dX7_seekBlock_61 rfl rfl (q_iadd (pc' := 64) dX7_seekBlock_63 rfl ?_)))))))))))
      refine q_top (y := nI (32 * p + n * k)) (by rw [pk_mul, nI_add, Nat.mul_comm p 32]) ?_
      refine q_iload_n (pc' := 65) dX7_seekBlock_64 rfl rfl (q_cVi (pc' := 68) dX7_seekBlock_65 rfl ml_RX7_77 yv_X7_costOfBlock (by decide) (rn_X7_costOfBlock hi hS hV hB hb0 hk hr hA hO hp hnk) ⟨by omega, rfl⟩ rfl rfl (Nat.le_of_ble_eq_true rfl) (Nat.le_refl _) ?_)
      have over : ∀ I1 o5, mCl I1 (cS b A n p k o) → mVy I I1 → Wq dd_X7_seekBlock (mj_mk w l 472 Y) Q 110 [some (.ref 450), some (.ref (sA i 0)), some (.int (nI n)), some (.int (nI p)), some (.int (nI (n * k))), o5] [] (472, I1, J, R) := by
        intro I1 o5 r1 f1
        refine q_iload (pc' := 112) dX7_seekBlock_110 rfl rfl (q_iload_n (pc' := 113) dX7_seekBlock_112 rfl rfl (q_iadd (pc' := 114) dX7_seekBlock_113 rfl ?_))
        refine q_top (nI_add _ _) ?_
        refine q_ist_4 (pc' := 116) dX7_seekBlock_114 rfl (by decide) rfl (q_goto (pc' := 26) dX7_seekBlock_116 rfl ?_)
        exact next I1 _ r1 f1
      cases hmu : aMu b A p (n * k) n with
      | none =>
        have ec : cS b A n p k o = o := by unfold cS; rw [hmu]
        rw [ec] at over
        refine q_ist_5 (pc' := 70) dX7_seekBlock_68 rfl (by decide) rfl (q_iload (pc' := 72) dX7_seekBlock_70 rfl rfl (q_iconst (pc' := 73) _ dX7_seekBlock_72 rfl kk_iconst_m1 (q_icmp_eq (pc' := 76) (pt := 110) dX7_seekBlock_73 rfl rfl (fun _ => ?_) (fun h9 => absurd (rfl) h9))))
        exact over I0 _ hC hm
      | some x =>
        have hx := aMu_le hmu
        have put : cS b A n p k o = some (x, p, n * k) → Wq dd_X7_seekBlock (mj_mk w l 472 Y) Q 93 [some (.ref 450), some (.ref (sA i 0)), some (.int (nI n)), some (.int (nI p)), some (.int (nI (n * k))), some (.int (nI x))] [] (472, I0, J, R) := by
          intro ec
          rw [ec] at over
          refine q_aload_n (pc' := 94) dX7_seekBlock_93 rfl rfl (q_iload (pc' := 96) dX7_seekBlock_94 rfl rfl (q_putI (pc' := 99) dX7_seekBlock_96 rfl fl_RX7_9 ⟨by omega, rfl⟩ rfl (q_aload_n (pc' := 100) dX7_seekBlock_99 rfl rfl (q_iload_n (pc' := 101) dX7_seekBlock_100 rfl rfl (q_bipush (pc' := 103) _ dX7_seekBlock_101 rfl kk_bipush_32 (q_imul (pc' := 104) dX7_seekBlock_103 rfl (q_iload (pc' := 106) dX7_seekBlock_104 rfl rfl (q_iadd (pc' := 107) dX7_seekBlock_106 rfl ?_))))))))
          refine q_top (y := nI (32 * p + n * k)) (by rw [pk_mul, nI_add, Nat.mul_comm p 32]) ?_
          refine q_putI (pc' := 110) dX7_seekBlock_107 rfl fl_RX7_15 ⟨by omega, rfl⟩ rfl ?_
          refine over _ _ ⟨?_, mj_up_eq, by show x ≤ 32; omega, by show n * k < 32; omega⟩ (fun a ha => by rw [up_fI ha, up_fI ha]; exact hm a ha)
          rw [mj_up_ne2 (by decide), mj_up_eq]
        cases o with
        | none =>
          have ec : cS b A n p k none = some (x, p, n * k) := by unfold cS; rw [hmu]
          have e1 : I0 450 1 = -1 := hC.1
          refine q_ist_5 (pc' := 70) dX7_seekBlock_68 rfl (by decide) rfl (q_iload (pc' := 72) dX7_seekBlock_70 rfl rfl (q_iconst (pc' := 73) _ dX7_seekBlock_72 rfl kk_iconst_m1 (q_icmp_eq (pc' := 76) (pt := 110) dX7_seekBlock_73 rfl rfl (fun h9 => absurd h9 (nI_m1 (by omega))) (fun _ => (q_aload_n (pc' := 77) dX7_seekBlock_76 rfl rfl (q_getIe (pc' := 80) dX7_seekBlock_77 rfl fr_RX7_9 ⟨by omega, rfl⟩ rfl e1 (q_iconst (pc' := 81) _ dX7_seekBlock_80 rfl kk_iconst_m1 (q_icmp_eq (pc' := 84) (pt := 93) dX7_seekBlock_81 rfl rfl (fun _ => ?_) (fun h9 => absurd (rfl) h9)))))))))
          exact put ec
        | some q =>
          obtain ⟨c1, c2, c3, c4⟩ := hC
          by_cases hlt : x < q.1
          · have ec : cS b A n p k (some q) = some (x, p, n * k) := by unfold cS; rw [hmu]; exact if_pos hlt
            refine q_ist_5 (pc' := 70) dX7_seekBlock_68 rfl (by decide) rfl (q_iload (pc' := 72) dX7_seekBlock_70 rfl rfl (q_iconst (pc' := 73) _ dX7_seekBlock_72 rfl kk_iconst_m1 (q_icmp_eq (pc' := 76) (pt := 110) dX7_seekBlock_73 rfl rfl (fun h9 => absurd h9 (nI_m1 (by omega))) (fun _ => (q_aload_n (pc' := 77) dX7_seekBlock_76 rfl rfl (q_getIe (pc' := 80) dX7_seekBlock_77 rfl fr_RX7_9 ⟨by omega, rfl⟩ rfl c1 (q_iconst (pc' := 81) _ dX7_seekBlock_80 rfl kk_iconst_m1 (q_icmp_eq (pc' := 84) (pt := 93) dX7_seekBlock_81 rfl rfl (fun h9 => absurd h9 (nI_m1 (by omega))) (fun _ => (q_iload (pc' := 86) dX7_seekBlock_84 rfl rfl (q_aload_n (pc' := 87) dX7_seekBlock_86 rfl rfl (q_getIe (pc' := 90) dX7_seekBlock_87 rfl fr_RX7_9 ⟨by omega, rfl⟩ rfl c1 (q_icmp_ge (pc' := 93) (pt := 110) dX7_seekBlock_90 rfl rfl (fun h9 => absurd h9 (Int32.not_le.mpr (nI_lt hlt (by omega)))) (fun _ => ?_))))))))))))))
            exact put ec
          · have ec : cS b A n p k (some q) = some q := by unfold cS; rw [hmu]; exact if_neg hlt
            rw [ec] at over
            refine q_ist_5 (pc' := 70) dX7_seekBlock_68 rfl (by decide) rfl (q_iload (pc' := 72) dX7_seekBlock_70 rfl rfl (q_iconst (pc' := 73) _ dX7_seekBlock_72 rfl kk_iconst_m1 (q_icmp_eq (pc' := 76) (pt := 110) dX7_seekBlock_73 rfl rfl (fun h9 => absurd h9 (nI_m1 (by omega))) (fun _ => (q_aload_n (pc' := 77) dX7_seekBlock_76 rfl rfl (q_getIe (pc' := 80) dX7_seekBlock_77 rfl fr_RX7_9 ⟨by omega, rfl⟩ rfl c1 (q_iconst (pc' := 81) _ dX7_seekBlock_80 rfl kk_iconst_m1 (q_icmp_eq (pc' := 84) (pt := 93) dX7_seekBlock_81 rfl rfl (fun h9 => absurd h9 (nI_m1 (by omega))) (fun _ => (q_iload (pc' := 86) dX7_seekBlock_84 rfl rfl (q_aload_n (pc' := 87) dX7_seekBlock_86 rfl rfl (q_getIe (pc' := 90) dX7_seekBlock_87 rfl fr_RX7_9 ⟨by omega, rfl⟩ rfl c1 (q_icmp_ge (pc' := 93) (pt := 110) dX7_seekBlock_90 rfl rfl (fun _ => ?_) (fun h9 => absurd (nI_le (by omega) (by omega)) h9))))))))))))))
            exact over I0 _ ⟨c1, c2, c3, c4⟩ hm
  have loop : ∀ m k I0 o4 o5, k + m = b 0 0 → mCl I0 (cP b A n k) → mVy I I0 → Wq dd_X7_seekBlock (mj_mk w l 472 Y) Q 12 [some (.ref 450), some (.ref (sA i 0)), some (.int (nI n)), some (.int (nI k)), o4, o5] [] (472, I0, J, R) := by
    intro m
    induction m with
    | zero =>
      intro k I0 o4 o5 hkm hC hm
      have hkz : k = b 0 0 := by omega
      subst hkz
      have hb0 := cB_V hm hb
      exact q_iload_n (pc' := 13) dX7_seekBlock_12 rfl rfl (q_aload_n (pc' := 14) dX7_seekBlock_13 rfl rfl (q_getR (pc' := 17) dX7_seekBlock_14 rfl fr_RX7_18 ⟨by omega, rfl⟩ rfl (wV_7_0 hV) (by decide) (q_getIe (pc' := 20) dX7_seekBlock_17 rfl fr_RX7_22 (by first | assumption | exact ⟨by omega, rfl⟩) rfl (cB_0 hb0) (q_icmp_ge (pc' := 23) (pt := 125) dX7_seekBlock_20 rfl rfl (fun _ => (q_vret dX7_seekBlock_125 rfl (hQ _ _ _ _ ⟨rfl, ⟨rfl, rfl⟩, hC, hm⟩))) (fun h9 => absurd (by (first | assumption | exact nI_le (by omega) (by omega) | exact nI_ge (by omega) (by omega) | exact nI_lt (by omega) (by omega) | exact nI_nlt (by omega) (by omega) | exact nI_ne (by omega) (by omega) (by omega) | exact nI_e (by omega) | decide)) h9)))))
    | succ m ih =>
      intro k I0 o4 o5 hkm hC hm
      have hb0 := cB_V hm hb
      have hr := cR_V hi hm h
      have next := fun I1 o4 o5 r1 f1 => ih (k + 1) I1 o4 o5 (by omega) r1 f1
      unfold cP at next
      by_cases c9 : A 9 k = 1
      · rw [if_pos c9] at next
        refine q_iload_n (pc' := 13) dX7_seekBlock_12 rfl rfl (q_aload_n (pc' := 14) dX7_seekBlock_13 rfl rfl (q_getR (pc' := 17) dX7_seekBlock_14 rfl fr_RX7_18 ⟨by omega, rfl⟩ rfl (wV_7_0 hV) (by decide) (q_getIe (pc' := 20) dX7_seekBlock_17 rfl fr_RX7_22 (by first | assumption | exact ⟨by omega, rfl⟩) rfl (cB_0 hb0) (q_icmp_ge (pc' := 23) (pt := 125) dX7_seekBlock_20 rfl rfl (fun h9 => absurd h9 (by (first | assumption | exact nI_le (by omega) (by omega) | exact nI_ge (by omega) (by omega) | exact nI_lt (by omega) (by omega) | exact nI_nlt (by omega) (by omega) | exact nI_ne (by omega) (by omega) (by omega) | exact nI_e (by omega) | decide))) (fun _ => (q_iconst (pc' := 24) _ dX7_seekBlock_23 rfl kk_iconst_0 (q_ist_4 (pc' := 26) dX7_seekBlock_24 rfl (by decide) rfl ?_)))))))
        refine inner k (by omega) c9 (fun I1 o4 o5 r1 f1 => ?_) (b 0 1 / n) 0 I0 _ (by omega) hC hm
        refine q_inc_3 (pc' := 122) dX7_seekBlock_119 rfl (by decide) rfl (q_goto (pc' := 12) dX7_seekBlock_122 rfl ?_)
        exact next I1 _ _ r1 f1
      · rw [if_neg c9] at next
        refine q_iload_n (pc' := 13) dX7_seekBlock_12 rfl rfl (q_aload_n (pc' := 14) dX7_seekBlock_13 rfl rfl (q_getR (pc' := 17) dX7_seekBlock_14 rfl fr_RX7_18 ⟨by omega, rfl⟩ rfl (wV_7_0 hV) (by decide) (q_getIe (pc' := 20) dX7_seekBlock_17 rfl fr_RX7_22 (by first | assumption | exact ⟨by omega, rfl⟩) rfl (cB_0 hb0) (q_icmp_ge (pc' := 23) (pt := 125) dX7_seekBlock_20 rfl rfl (fun h9 => absurd h9 (by (first | assumption | exact nI_le (by omega) (by omega) | exact nI_ge (by omega) (by omega) | exact nI_lt (by omega) (by omega) | exact nI_nlt (by omega) (by omega) | exact nI_ne (by omega) (by omega) (by omega) | exact nI_e (by omega) | decide))) (fun _ => (q_iconst (pc' := 24) _ dX7_seekBlock_23 rfl kk_iconst_0 (q_ist_4 (pc' := 26) dX7_seekBlock_24 rfl (by decide) rfl (q_iload_n (pc' := 27) dX7_seekBlock_26 rfl rfl (q_if_le (pc' := 30) (pt := 119) dX7_seekBlock_27 rfl rfl (fun h9 => absurd h9 (Int32.not_le.mpr (nI_lt (a := 0) (by omega) (by omega)))) (fun _ => (q_aload_n (pc' := 31) dX7_seekBlock_30 rfl rfl (q_getR (pc' := 34) dX7_seekBlock_31 rfl fr_RX7_27 (okS hi hz (by decide) rfl) rfl (wS_5_1 hS) (sA_lt hi (by decide)) (q_iload_n (pc' := 35) dX7_seekBlock_34 rfl rfl (q_cVi (pc' := 38) dX7_seekBlock_35 rfl ml_RX7_33 yv_X4_isOnline (by decide) (rn_X4_isOnline hi hk hr.1 (by omega)) (okS hi hz (by decide) rfl) rfl rfl (Nat.le_of_ble_eq_true rfl) (Nat.le_refl _) (q_ifb_eq (pc' := 41) (pt := 119) dX7_seekBlock_38 rfl rfl (fun _ => ?_) (fun h9 => Bool.noConfusion (Eq.trans (Eq.symm (beq_eq_false_iff_ne.mpr c9)) h9)))))))))))))))))
        refine q_inc_3 (pc' := 122) dX7_seekBlock_119 rfl (by decide) rfl (q_goto (pc' := 12) dX7_seekBlock_122 rfl ?_)
        exact next I0 _ _ hC hm
  refine q_aload_n (pc' := 1) dX7_seekBlock_0 rfl rfl (q_iconst (pc' := 2) _ dX7_seekBlock_1 rfl kk_iconst_m1 (q_putI (pc' := 5) dX7_seekBlock_2 rfl fl_RX7_9 ⟨by omega, rfl⟩ rfl (q_aload_n (pc' := 6) dX7_seekBlock_5 rfl rfl (q_iconst (pc' := 7) _ dX7_seekBlock_6 rfl kk_iconst_m1 (q_putI (pc' := 10) dX7_seekBlock_7 rfl fl_RX7_15 ⟨by omega, rfl⟩ rfl (q_iconst (pc' := 11) _ dX7_seekBlock_10 rfl kk_iconst_0 (q_ist_3 (pc' := 12) dX7_seekBlock_11 rfl (by decide) rfl ?_)))))))
  refine loop (b 0 0) 0 _ _ _ (by omega) ⟨?_, mj_up_eq⟩ (fun a ha => by rw [up_fI ha, up_fI ha])
  rw [mj_up_ne2 (by decide), mj_up_eq]
theorem rs_X7_nearestGroup (hi : i < 21) (hS : mj_wS R i) (hV : mj_wV R) (hB : mj_wB R 4) (hb : cB I b) (hk : bOK b) (h : cR I i b A) (hA : aOK A) (hO : oOw b A) : RsI w l yX7_nearestGroup dd_X7_nearestGroup [.ref 450, .ref (sA i 0)] (472, I, J, R) (fun x I' => x = oI ((nS b A (b 0 2)).map Prod.fst) ∧ mVy I I') := by
  have hz : 50 + 20 * i ≤ 472 := by omega
  have h10 := hk.2.2.1
  refine rt_intro2 (L := [some (.ref 450), some (.ref (sA i 0)), none, none, none]) ⟨by decide, rfl, (fun h => by cases h)⟩ (Nat.le_of_ble_eq_true rfl) rfl (fun Y Q hQ => ?_)
  have loop : ∀ m d I0 c3, d + m = b 0 2 → (∀ r, nS b A d = some r → c3 = nI r.2 ∧ r.2 ≤ 32) → mVy I I0 → Wq dd_X7_nearestGroup (mj_mk w l 472 Y) Q 7 [some (.ref 450), some (.ref (sA i 0)), some (.int (oI ((nS b A d).map Prod.fst))), some (.int c3), some (.int (nI d))] [] (472, I0, J, R) := by
    intro m
    induction m with
    | zero =>
      intro d I0 c3 hdm hc hm
      have hdz : d = b 0 2 := by omega
      subst hdz
      have hb0 := cB_V hm hb
      exact q_iload (pc' := 9) dX7_nearestGroup_7 rfl rfl (q_aload_n (pc' := 10) dX7_nearestGroup_9 rfl rfl (q_getR (pc' := 13) dX7_nearestGroup_10 rfl fr_RX7_18 ⟨by omega, rfl⟩ rfl (wV_7_0 hV) (by decide) (q_getIe (pc' := 16) dX7_nearestGroup_13 rfl fr_RX7_97 (by first | assumption | exact ⟨by omega, rfl⟩) rfl (cB_4 hb0) (q_icmp_ge (pc' := 19) (pt := 92) dX7_nearestGroup_16 rfl rfl (fun _ => (q_iload_n (pc' := 93) dX7_nearestGroup_92 rfl rfl (q_iret dX7_nearestGroup_93 rfl (hQ _ _ _ _ ⟨_, rfl, ⟨rfl, rfl⟩, rfl, hm⟩)))) (fun h9 => absurd (by (first | assumption | exact nI_le (by omega) (by omega) | exact nI_ge (by omega) (by omega) | exact nI_lt (by omega) (by omega) | exact nI_nlt (by omega) (by omega) | exact nI_ne (by omega) (by omega) (by omega) | exact nI_e (by omega) | decide)) h9)))))
    | succ m ih =>
      intro d I0 c3 hdm hc hm
      have hd : d < b 0 2 := by omega
      have hb0 := cB_V hm hb
      have hr := cR_V hi hm h
      have hs := hk.2.2.2 d hd
      have eb := hb0.2 d hd
      have next := fun I1 c => ih (d + 1) I1 c (by omega)
      have next0 := fun I1 c => ih (d + 1) I1 c (by omega)
      unfold nS at next
      by_cases c2 : b 1 d = 2
      · by_cases c7 : A 7 d = 1
        · rw [if_neg (fun z => z.2 c7)] at next
          refine q_iload (pc' := 9) dX7_nearestGroup_7 rfl rfl (q_aload_n (pc' := 10) dX7_nearestGroup_9 rfl rfl (q_getR (pc' := 13) dX7_nearestGroup_10 rfl fr_RX7_18 ⟨by omega, rfl⟩ rfl (wV_7_0 hV) (by decide) (q_getIe (pc' := 16) dX7_nearestGroup_13 rfl fr_RX7_97 (by first | assumption | exact ⟨by omega, rfl⟩) rfl (cB_4 hb0) (q_icmp_ge (pc' := 19) (pt := 92) dX7_nearestGroup_16 rfl rfl (fun h9 => absurd h9 (by (first | assumption | exact nI_le (by omega) (by omega) | exact nI_ge (by omega) (by omega) | exact nI_lt (by omega) (by omega) | exact nI_nlt (by omega) (by omega) | exact nI_ne (by omega) (by omega) (by omega) | exact nI_e (by omega) | decide))) (fun _ => (q_aload_n (pc' := 20) dX7_nearestGroup_19 rfl rfl (q_getR (pc' := 23) dX7_nearestGroup_20 rfl fr_RX7_18 ⟨by omega, rfl⟩ rfl (wV_7_0 hV) (by decide) (q_getR (pc' := 26) dX7_nearestGroup_23 rfl fr_RX7_91 (by first | assumption | exact ⟨by omega, rfl⟩) rfl (wB_7 hB) (by omega) (q_iload (pc' := 28) dX7_nearestGroup_26 rfl rfl (q_ialde (pc' := 29) (d) dX7_nearestGroup_28 rfl (by first | exact ⟨by omega, rfl⟩ | exact okaS hi hz (by decide) rfl | assumption) (by (first | (simp only [nI_add, pk_mul]; done) | (simp only [nI_add, pk_mul]; exact nI_e (by omega)) | exact nI_e (by omega))) (by omega) eb.1 (q_iconst (pc' := 30) _ dX7_nearestGroup_29 rfl kk_iconst_2 (q_icmp_ne (pc' := 33) (pt := 86) dX7_nearestGroup_30 rfl rfl (fun h9 => absurd (congrArg nI c2) h9) (fun _ => (q_aload_n (pc' := 34) dX7_nearestGroup_33 rfl rfl (q_iload (pc' := 36) dX7_nearestGroup_34 rfl rfl ?_)))))))))))))))
          refine q_cVi (pc' := 39) dX7_nearestGroup_36 rfl ml_RX7_100 yv_X5_isStarted (by decide) (rn_X5_isStarted hi hr.2.2 (by omega)) (okS hi hz (by decide) rfl) rfl rfl (Nat.le_of_ble_eq_true rfl) (Nat.le_refl _) (q_ifb_ne (pc' := 42) (pt := 86) dX7_nearestGroup_39 rfl rfl (fun _ => (q_inc_4 (pc' := 89) dX7_nearestGroup_86 rfl (by decide) rfl (q_goto (pc' := 7) dX7_nearestGroup_89 rfl ?_))) (fun h9 => Bool.noConfusion (Eq.trans (Eq.symm (beq_iff_eq.mpr c7)) h9)))
          exact next I0 c3 hc hm
        · rw [if_pos ⟨c2, c7⟩] at next
          refine q_iload (pc' := 9) dX7_nearestGroup_7 rfl rfl (q_aload_n (pc' := 10) dX7_nearestGroup_9 rfl rfl (q_getR (pc' := 13) dX7_nearestGroup_10 rfl fr_RX7_18 ⟨by omega, rfl⟩ rfl (wV_7_0 hV) (by decide) (q_getIe (pc' := 16) dX7_nearestGroup_13 rfl fr_RX7_97 (by first | assumption | exact ⟨by omega, rfl⟩) rfl (cB_4 hb0) (q_icmp_ge (pc' := 19) (pt := 92) dX7_nearestGroup_16 rfl rfl (fun h9 => absurd h9 (by (first | assumption | exact nI_le (by omega) (by omega) | exact nI_ge (by omega) (by omega) | exact nI_lt (by omega) (by omega) | exact nI_nlt (by omega) (by omega) | exact nI_ne (by omega) (by omega) (by omega) | exact nI_e (by omega) | decide))) (fun _ => (q_aload_n (pc' := 20) dX7_nearestGroup_19 rfl rfl (q_getR (pc' := 23) dX7_nearestGroup_20 rfl fr_RX7_18 ⟨by omega, rfl⟩ rfl (wV_7_0 hV) (by decide) (q_getR (pc' := 26) dX7_nearestGroup_23 rfl fr_RX7_91 (by first | assumption | exact ⟨by omega, rfl⟩) rfl (wB_7 hB) (by omega) (q_iload (pc' := 28) dX7_nearestGroup_26 rfl rfl (q_ialde (pc' := 29) (d) dX7_nearestGroup_28 rfl (by first | exact ⟨by omega, rfl⟩ | exact okaS hi hz (by decide) rfl | assumption) (by (first | (simp only [nI_add, pk_mul]; done) | (simp only [nI_add, pk_mul]; exact nI_e (by omega)) | exact nI_e (by omega))) (by omega) eb.1 (q_iconst (pc' := 30) _ dX7_nearestGroup_29 rfl kk_iconst_2 (q_icmp_ne (pc' := 33) (pt := 86) dX7_nearestGroup_30 rfl rfl (fun h9 => absurd (congrArg nI c2) h9) (fun _ => (q_aload_n (pc' := 34) dX7_nearestGroup_33 rfl rfl (q_iload (pc' := 36) dX7_nearestGroup_34 rfl rfl ?_)))))))))))))))
          refine q_cVi (pc' := 39) dX7_nearestGroup_36 rfl ml_RX7_100 yv_X5_isStarted (by decide) (rn_X5_isStarted hi hr.2.2 (by omega)) (okS hi hz (by decide) rfl) rfl rfl (Nat.le_of_ble_eq_true rfl) (Nat.le_refl _) (q_ifb_ne (pc' := 42) (pt := 86) dX7_nearestGroup_39 rfl rfl (fun h9 => Bool.noConfusion (Eq.trans (Eq.symm (beq_eq_false_iff_ne.mpr c7)) h9)) (fun _ => (q_aload_n (pc' := 43) dX7_nearestGroup_42 rfl rfl (q_aload_n (pc' := 44) dX7_nearestGroup_43 rfl rfl (q_aload_n (pc' := 45) dX7_nearestGroup_44 rfl rfl (q_getR (pc' := 48) dX7_nearestGroup_45 rfl fr_RX7_18 ⟨by omega, rfl⟩ rfl (wV_7_0 hV) (by decide) (q_getR (pc' := 51) dX7_nearestGroup_48 rfl fr_RX7_103 (by first | assumption | exact ⟨by omega, rfl⟩) rfl (wB_8 hB) (by omega) (q_iload (pc' := 53) dX7_nearestGroup_51 rfl rfl (q_ialde (pc' := 54) (d) dX7_nearestGroup_53 rfl (by first | exact ⟨by omega, rfl⟩ | exact okaS hi hz (by decide) rfl | assumption) (by (first | (simp only [nI_add, pk_mul]; done) | (simp only [nI_add, pk_mul]; exact nI_e (by omega)) | exact nI_e (by omega))) (by omega) eb.2.1 (q_sVv (pc' := 57) dX7_nearestGroup_54 rfl ml_RX7_106 yv_X7_seekBlock (by decide) (rs_X7_seekBlock hi hS hV hB hb0 hk hr hA hO hs.2.1) ⟨by omega, rfl⟩ rfl rfl (Nat.le_of_ble_eq_true rfl) (Nat.le_refl _) (fun I1 ⟨h1, f1⟩ => ?_)))))))))))
          cases hcl : aClB b A (b 2 d) with
          | none =>
            rw [hcl] at h1 next
            have e1 : I1 450 1 = -1 := h1.1
            refine q_aload_n (pc' := 58) dX7_nearestGroup_57 rfl rfl (q_getIe (pc' := 61) dX7_nearestGroup_58 rfl fr_RX7_9 ⟨by omega, rfl⟩ rfl e1 (q_iconst (pc' := 62) _ dX7_nearestGroup_61 rfl kk_iconst_m1 (q_icmp_eq (pc' := 65) (pt := 86) dX7_nearestGroup_62 rfl rfl (fun _ => (q_inc_4 (pc' := 89) dX7_nearestGroup_86 rfl (by decide) rfl (q_goto (pc' := 7) dX7_nearestGroup_89 rfl ?_))) (fun h9 => absurd (rfl) h9))))
            exact next I1 c3 hc (hm.tr f1)
          | some q =>
            rw [hcl] at h1 next
            obtain ⟨e1, e2, e3, e4⟩ := h1
            cases hns : nS b A d with
            | none =>
              rw [hns] at next
              refine q_aload_n (pc' := 58) dX7_nearestGroup_57 rfl rfl (q_getIe (pc' := 61) dX7_nearestGroup_58 rfl fr_RX7_9 ⟨by omega, rfl⟩ rfl e1 (q_iconst (pc' := 62) _ dX7_nearestGroup_61 rfl kk_iconst_m1 (q_icmp_eq (pc' := 65) (pt := 86) dX7_nearestGroup_62 rfl rfl (fun h9 => absurd h9 (nI_m1 (by omega))) (fun _ => (q_iload_n (pc' := 66) dX7_nearestGroup_65 rfl rfl (q_iconst (pc' := 67) _ dX7_nearestGroup_66 rfl kk_iconst_m1 (q_icmp_eq (pc' := 70) (pt := 78) dX7_nearestGroup_67 rfl rfl (fun _ => (q_iload (pc' := 80) dX7_nearestGroup_78 rfl rfl (q_ist_2 (pc' := 81) dX7_nearestGroup_80 rfl (by decide) rfl (q_aload_n (pc' := 82) dX7_nearestGroup_81 rfl rfl (q_getIe (pc' := 85) dX7_nearestGroup_82 rfl fr_RX7_9 ⟨by omega, rfl⟩ rfl e1 (q_ist_3 (pc' := 86) dX7_nearestGroup_85 rfl (by decide) rfl (q_inc_4 (pc' := 89) dX7_nearestGroup_86 rfl (by decide) rfl (q_goto (pc' := 7) dX7_nearestGroup_89 rfl ?_)))))))) (fun h9 => absurd (rfl) h9))))))))
              exact next I1 _ (fun r hr2 => by cases hr2; exact ⟨rfl, e3⟩) (hm.tr f1)
            | some r =>
              rw [hns] at next
              have hr1 := nS_lt hns
              obtain ⟨g1, g2⟩ := hc r hns
              rw [g1]
              by_cases hlt : q.1 < r.2
              · have en : nS b A (d + 1) = some (d, q.1) := by unfold nS; rw [if_pos ⟨c2, c7⟩, hcl, hns]; exact if_pos hlt
                have next2 := next0 I1 (nI q.1)
                rw [en] at next2
                refine q_aload_n (pc' := 58) dX7_nearestGroup_57 rfl rfl (q_getIe (pc' := 61) dX7_nearestGroup_58 rfl fr_RX7_9 ⟨by omega, rfl⟩ rfl e1 (q_iconst (pc' := 62) _ dX7_nearestGroup_61 rfl kk_iconst_m1 (q_icmp_eq (pc' := 65) (pt := 86) dX7_nearestGroup_62 rfl rfl (fun h9 => absurd h9 (nI_m1 (by omega))) (fun _ => (q_iload_n (pc' := 66) dX7_nearestGroup_65 rfl rfl (q_iconst (pc' := 67) _ dX7_nearestGroup_66 rfl kk_iconst_m1 (q_icmp_eq (pc' := 70) (pt := 78) dX7_nearestGroup_67 rfl rfl (fun h9 => absurd h9 (nI_m1 (show r.1 < 2 ^ 31 by omega))) (fun _ => (q_aload_n (pc' := 71) dX7_nearestGroup_70 rfl rfl (q_getIe (pc' := 74) dX7_nearestGroup_71 rfl fr_RX7_9 ⟨by omega, rfl⟩ rfl e1 (q_iload_n (pc' := 75) dX7_nearestGroup_74 rfl rfl (q_icmp_ge (pc' := 78) (pt := 86) dX7_nearestGroup_75 rfl rfl (fun h9 => absurd h9 (Int32.not_le.mpr (nI_lt hlt (by omega)))) (fun _ => (q_iload (pc' := 80) dX7_nearestGroup_78 rfl rfl (q_ist_2 (pc' := 81) dX7_nearestGroup_80 rfl (by decide) rfl (q_aload_n (pc' := 82) dX7_nearestGroup_81 rfl rfl ?_))))))))))))))))
                refine q_getIe (pc' := 85) dX7_nearestGroup_82 rfl fr_RX7_9 ⟨by omega, rfl⟩ rfl e1 (q_ist_3 (pc' := 86) dX7_nearestGroup_85 rfl (by decide) rfl (q_inc_4 (pc' := 89) dX7_nearestGroup_86 rfl (by decide) rfl (q_goto (pc' := 7) dX7_nearestGroup_89 rfl ?_)))
                exact next2 (fun r hr2 => by cases hr2; exact ⟨rfl, e3⟩) (hm.tr f1)
              · have en : nS b A (d + 1) = some r := by unfold nS; rw [if_pos ⟨c2, c7⟩, hcl, hns]; exact if_neg hlt
                have next2 := next0 I1 (nI r.2)
                rw [en] at next2
                refine q_aload_n (pc' := 58) dX7_nearestGroup_57 rfl rfl (q_getIe (pc' := 61) dX7_nearestGroup_58 rfl fr_RX7_9 ⟨by omega, rfl⟩ rfl e1 (q_iconst (pc' := 62) _ dX7_nearestGroup_61 rfl kk_iconst_m1 (q_icmp_eq (pc' := 65) (pt := 86) dX7_nearestGroup_62 rfl rfl (fun h9 => absurd h9 (nI_m1 (by omega))) (fun _ => (q_iload_n (pc' := 66) dX7_nearestGroup_65 rfl rfl (q_iconst (pc' := 67) _ dX7_nearestGroup_66 rfl kk_iconst_m1 (q_icmp_eq (pc' := 70) (pt := 78) dX7_nearestGroup_67 rfl rfl (fun h9 => absurd h9 (nI_m1 (show r.1 < 2 ^ 31 by omega))) (fun _ => (q_aload_n (pc' := 71) dX7_nearestGroup_70 rfl rfl (q_getIe (pc' := 74) dX7_nearestGroup_71 rfl fr_RX7_9 ⟨by omega, rfl⟩ rfl e1 (q_iload_n (pc' := 75) dX7_nearestGroup_74 rfl rfl (q_icmp_ge (pc' := 78) (pt := 86) dX7_nearestGroup_75 rfl rfl (fun _ => (q_inc_4 (pc' := 89) dX7_nearestGroup_86 rfl (by decide) rfl (q_goto (pc' := 7) dX7_nearestGroup_89 rfl ?_))) (fun h9 => absurd (nI_le (by omega) (by omega)) h9)))))))))))))
                exact next2 (fun r' hr2 => by cases hr2; exact ⟨rfl, g2⟩) (hm.tr f1)
      · rw [if_neg (fun z => c2 z.1)] at next
        refine q_iload (pc' := 9) dX7_nearestGroup_7 rfl rfl (q_aload_n (pc' := 10) dX7_nearestGroup_9 rfl rfl (q_getR (pc' := 13) dX7_nearestGroup_10 rfl fr_RX7_18 ⟨by omega, rfl⟩ rfl (wV_7_0 hV) (by decide) (q_getIe (pc' := 16) dX7_nearestGroup_13 rfl fr_RX7_97 (by first | assumption | exact ⟨by omega, rfl⟩) rfl (cB_4 hb0) (q_icmp_ge (pc' := 19) (pt := 92) dX7_nearestGroup_16 rfl rfl (fun h9 => absurd h9 (by (first | assumption | exact nI_le (by omega) (by omega) | exact nI_ge (by omega) (by omega) | exact nI_lt (by omega) (by omega) | exact nI_nlt (by omega) (by omega) | exact nI_ne (by omega) (by omega) (by omega) | exact nI_e (by omega) | decide))) (fun _ => (q_aload_n (pc' := 20) dX7_nearestGroup_19 rfl rfl (q_getR (pc' := 23) dX7_nearestGroup_20 rfl fr_RX7_18 ⟨by omega, rfl⟩ rfl (wV_7_0 hV) (by decide) (q_getR (pc' := 26) dX7_nearestGroup_23 rfl fr_RX7_91 (by first | assumption | exact ⟨by omega, rfl⟩) rfl (wB_7 hB) (by omega) (q_iload (pc' := 28) dX7_nearestGroup_26 rfl rfl (q_ialde (pc' := 29) (d) dX7_nearestGroup_28 rfl (by first | exact ⟨by omega, rfl⟩ | exact okaS hi hz (by decide) rfl | assumption) (by (first | (simp only [nI_add, pk_mul]; done) | (simp only [nI_add, pk_mul]; exact nI_e (by omega)) | exact nI_e (by omega))) (by omega) eb.1 (q_iconst (pc' := 30) _ dX7_nearestGroup_29 rfl kk_iconst_2 (q_icmp_ne (pc' := 33) (pt := 86) dX7_nearestGroup_30 rfl rfl (fun _ => (q_inc_4 (pc' := 89) dX7_nearestGroup_86 rfl (by decide) rfl (q_goto (pc' := 7) dX7_nearestGroup_89 rfl ?_))) (fun h9 => absurd h9 (nI_ne c2 (by omega) (by omega)))))))))))))))
        exact next I0 c3 hc hm
  refine q_iconst (pc' := 1) _ dX7_nearestGroup_0 rfl kk_iconst_m1 (q_ist_2 (pc' := 2) dX7_nearestGroup_1 rfl (by decide) rfl (q_iconst (pc' := 3) _ dX7_nearestGroup_2 rfl kk_iconst_m1 (q_ist_3 (pc' := 4) dX7_nearestGroup_3 rfl (by decide) rfl (q_iconst (pc' := 5) _ dX7_nearestGroup_4 rfl kk_iconst_0 (q_ist_4 (pc' := 7) dX7_nearestGroup_5 rfl (by decide) rfl ?_)))))
  exact loop (b 0 2) 0 I (-1) (by omega) (fun r hr => by cases hr) mVy.rf
end SV2
