/-! ===== the reference: words of its own, numbers, names ===== -/
theorem tkE_run {P : Nat → Bool} (f i : Nat) : ∀ k, i ≤ k → k < tkE P f i → P k = true := by
  induction f generalizing i with
  | zero => intro k h1 h2; unfold tkE at h2; omega
  | succ f ih =>
    intro k h1 h2
    unfold tkE at h2
    by_cases hc : P i = true
    · rw [if_pos hc] at h2
      by_cases e : k = i
      · rw [e]; exact hc
      · exact ih (i + 1) k (by omega) h2
    · rw [if_neg hc] at h2; omega
theorem wV_lt {T : Nat → Nat} {a n : Nat} (h : ∀ k, k < n → T (a + k) ≤ 122) : 2 * wV T a n < 256 ^ min n 8 := by
  induction n with
  | zero => exact Nat.le_of_ble_eq_true rfl
  | succ n ih =>
    have h1 := ih (fun k hk => h k (by omega))
    have h2 := h n (by omega)
    unfold wV
    by_cases h8 : n < 8
    · rw [if_pos h8, Nat.min_eq_left (by omega), Nat.pow_succ]
      rw [Nat.min_eq_left (by omega)] at h1
      omega
    · rw [if_neg h8, Nat.min_eq_right (by omega)]
      rw [Nat.min_eq_right (by omega)] at h1
      exact h1
theorem nV_lt {T : Nat → Nat} {a n : Nat} (h : ∀ k, k < n → T (a + k) ≤ 57) : nV T a n < 10 ^ min n 3 := by
  induction n with
  | zero => exact Nat.le_of_ble_eq_true rfl
  | succ n ih =>
    have h1 := ih (fun k hk => h k (by omega))
    have h2 := h n (by omega)
    unfold nV
    by_cases h8 : n < 3
    · rw [if_pos h8, Nat.min_eq_left (by omega), Nat.pow_succ]
      rw [Nat.min_eq_left (by omega)] at h1
      omega
    · rw [if_neg h8, Nat.min_eq_right (by omega)]
      rw [Nat.min_eq_right (by omega)] at h1
      exact h1
/-- the reader's numbers are such as they can be -/
def kOK (sz : Nat) (K : Nat → Nat) : Prop := K 3 ≤ sz ∧ K 5 < 5 ∧ K 6 < 1000 ∧ K 8 < 5 ∧ K 12 < 2 ^ 63 ∧ K 7 ≤ sz ∧ K 4 ≤ sz
theorem kOK_tk0 {T : Nat → Nat} {sz : Nat} {K : Nat → Nat} (k3 : K 3 ≤ sz) (k8 : K 8 < 5) : kOK sz (tkK T sz K) := by
  have ha := tkE_le (P := tBl T sz) (fun i hi => (of_decide_eq_true hi).1) 801 (K 3) k3
  unfold tkK
  generalize tkE (tBl T sz) 801 (K 3) = a at ha
  by_cases hs : a < sz
  · rw [if_neg (fun q => q hs)]
    by_cases hl : tLt T sz a = true
    · rw [if_pos hl]
      have he := tkE_le (P := tLt T sz) (fun i hi => (of_decide_eq_true hi).1) 801 a ha
      have hr := tkE_run (P := tLt T sz) 801 a
      generalize tkE (tLt T sz) 801 a = e at he hr
      have hw := wV_lt (T := T) (a := a) (n := e - a) (fun k hk => (of_decide_eq_true (hr (a + k) (by omega) (by omega))).2.2)
      have hp : 256 ^ min (e - a) 8 ≤ 256 ^ 8 := Nat.pow_le_pow_right (by decide) (Nat.min_le_right _ _)
      have h64 : (256:Nat) ^ 8 = 2 ^ 64 := by decide
      refine ⟨he, ?_, (by decide : (0:Nat) < 1000), k8, ?_, (by show e - a ≤ sz; omega), ha⟩
      · show (if 8 < e - a then 4 else 1) < 5
        split <;> decide
      · show wV T a (e - a) < 2 ^ 63
        omega
    · rw [if_neg hl]
      by_cases hd : tDg T sz a = true
      · rw [if_pos hd]
        have he := tkE_le (P := tDg T sz) (fun i hi => (of_decide_eq_true hi).1) 801 a ha
        have hr := tkE_run (P := tDg T sz) 801 a
        generalize tkE (tDg T sz) 801 a = e at he hr
        have hw := nV_lt (T := T) (a := a) (n := e - a) (fun k hk => (of_decide_eq_true (hr (a + k) (by omega) (by omega))).2.2)
        have hp : 10 ^ min (e - a) 3 ≤ 10 ^ 3 := Nat.pow_le_pow_right (by decide) (Nat.min_le_right _ _)
        have h64 : (10:Nat) ^ 3 = 1000 := by decide
        refine ⟨he, ?_, ?_, k8, (by decide : (0:Nat) < 2 ^ 63), Nat.zero_le _, ha⟩
        · show (if 3 < e - a ∨ tLt T sz e = true then 4 else 2) < 5
          split <;> decide
        · show nV T a (e - a) < 1000
          omega
      · rw [if_neg hd]
        refine ⟨hs, ?_, (by decide : (0:Nat) < 1000), k8, (by decide : (0:Nat) < 2 ^ 63), Nat.zero_le _, ha⟩
        show (if T a = 59 then 3 else 4) < 5
        split <;> decide
  · rw [if_pos hs]
    exact ⟨ha, (by decide : (0:Nat) < 5), (by decide : (0:Nat) < 1000), k8, (by decide : (0:Nat) < 2 ^ 63), Nat.zero_le _, ha⟩
theorem kOK_tk {T : Nat → Nat} {sz : Nat} {K : Nat → Nat} (h : kOK sz K) : kOK sz (tkK T sz K) := kOK_tk0 h.1 h.2.2.2.1
/-- after a FAULT is told -/
def kW (K : Nat → Nat) (x : Nat) : Nat → Nat := if K 8 = 0 then kU (kU K 8 (if K 5 = 4 then 1 else x)) 9 (K 4 + 1) else K
theorem kOK_w {sz : Nat} {K : Nat → Nat} {x : Nat} (h : kOK sz K) (hx : x < 5) : kOK sz (kW K x) := by
  unfold kW
  split
  · refine ⟨h.1, h.2.1, h.2.2.1, ?_, h.2.2.2.2⟩
    show (if K 5 = 4 then 1 else x) < 5
    split
    · decide
    · exact hx
  · exact h
section M29
variable {w : mj_Wd} {l : Launch} {I : mj_M} {J : mj_J} {R : mj_R} {b A : St} {T : Nat → Nat} {sz : Nat} {K : Nat → Nat}
theorem rs_wrong {x : Nat} (h : mRd I J T sz K) (hk : kOK sz K) (hx : x < 5) : RsV w l yX11_wrong dd_X11_wrong [.ref 452, .int (nI x)] (472, I, J, R) (fun I' => mRd I' J T sz (kW K x) ∧ mRf I J I' J) := rs_X11_wrong h (by have := hk.2.2.2.1; omega) hk.2.1 (by omega)
theorem rn_good (h : mRd I J T sz K) (hk : kOK sz K) : Rn w l yX11_isGood dd_X11_isGood [.ref 452] (472, I, J, R) (some (.int (bI (K 8 == 0)))) (472, I, J, R) := rn_X11_isGood h (by have := hk.2.2.2.1; omega)
/-- whether the TOKEN is this word -/
def kIs (K : Nat → Nat) (x : Nat) : Bool := (K 8 == 0) && (K 5 == 1) && (K 12 == x)
theorem rn_word (x : Nat) (h : mRd I J T sz K) (hk : kOK sz K) (hx : x < 2 ^ 63) : Rn w l yX11_isWord dd_X11_isWord [.ref 452, .long (nJ x)] (472, I, J, R) (some (.int (bI (kIs K x)))) (472, I, J, R) := rn_X11_isWord h (by have := hk.2.2.2.1; omega) hk.2.1 hk.2.2.2.2.1 hx
theorem rs_X11_numberHere {x y : Int32} (h : mRd I J T sz K) (hk : kOK sz K) : RsI w l yX11_numberHere dd_X11_numberHere [.ref 452, .int x, .int y] (472, I, J, R) (fun r I' => r = (if K 8 = 0 then nI (K 6) else 0) ∧ mRd I' J T sz (if K 8 = 0 then (if K 5 = 2 then (if x ≤ nI (K 6) ∧ nI (K 6) ≤ y then K else kW K 4) else kW K 2) else K) ∧ mRf I J I' J) := by
  have e8 := h.2.2.1 8 (by decide) (by decide)
  have e5 := h.2.2.1 5 (by decide) (by decide)
  have e6 := h.2.2.1 6 (by decide) (by decide)
  have b8 := hk.2.2.2.1
  have b5 := hk.2.1
  have k6 : ∀ z, kW K z 6 = K 6 := fun z => by unfold kW; split <;> rfl
  refine rt_intro2 (L := [some (.ref 452), some (.int x), some (.int y)]) ⟨by decide, rfl, (fun h => by cases h)⟩ (Nat.le_of_ble_eq_true rfl) rfl (fun Y Q hQ => ?_)
  by_cases h0 : K 8 = 0
  · rw [if_pos h0, if_pos h0] at hQ
    by_cases h2 : K 5 = 2
    · rw [if_pos h2] at hQ
      by_cases hc : x ≤ nI (K 6) ∧ nI (K 6) ≤ y
      · rw [if_pos hc] at hQ
        refine q_aload_n (pc' := 1) dX11_numberHere_0 rfl rfl (q_getIe (pc' := 4) dX11_numberHere_1 rfl fr_RX11_126 ⟨by omega, rfl⟩ rfl e8 (q_if_le (pc' := 7) (pt := 9) dX11_numberHere_4 rfl rfl (fun _ => (q_aload_n (pc' := 10) dX11_numberHere_9 rfl rfl (q_getIe (pc' := 13) dX11_numberHere_10 rfl fr_RX11_116 ⟨by omega, rfl⟩ rfl e5 (q_iconst (pc' := 14) _ dX11_numberHere_13 rfl kk_iconst_2 (q_icmp_eq (pc' := 17) (pt := 25) dX11_numberHere_14 rfl rfl (fun _ => (q_aload_n (pc' := 26) dX11_numberHere_25 rfl rfl (q_getIe (pc' := 29) dX11_numberHere_26 rfl fr_RX11_110 ⟨by omega, rfl⟩ rfl e6 (q_iload_n (pc' := 30) dX11_numberHere_29 rfl rfl (q_iload_n (pc' := 31) dX11_numberHere_30 rfl rfl (q_cSi (pc' := 34) dX11_numberHere_31 rfl ml_RX11_89 ys_X11_isIn (by decide) (rn_X11_isIn) rfl rfl (Nat.le_of_ble_eq_true rfl) (Nat.le_refl _) (q_ifb_ne (pc' := 37) (pt := 42) dX11_numberHere_34 rfl rfl (fun _ => (q_aload_n (pc' := 43) dX11_numberHere_42 rfl rfl ?_)) (fun h9 => Bool.noConfusion (Eq.trans (Eq.symm (decide_eq_true hc)) h9))))))))) (fun h9 => absurd (congrArg nI h2) h9)))))) (fun h9 => absurd (by rw [h0]; decide) h9)))
        exact q_getIe (pc' := 46) dX11_numberHere_43 rfl fr_RX11_110 ⟨by omega, rfl⟩ rfl e6 (q_iret dX11_numberHere_46 rfl (hQ _ _ _ _ ⟨_, rfl, ⟨rfl, rfl⟩, rfl, h, mRf.rf⟩))
      · rw [if_neg hc] at hQ
        refine q_aload_n (pc' := 1) dX11_numberHere_0 rfl rfl (q_getIe (pc' := 4) dX11_numberHere_1 rfl fr_RX11_126 ⟨by omega, rfl⟩ rfl e8 (q_if_le (pc' := 7) (pt := 9) dX11_numberHere_4 rfl rfl (fun _ => (q_aload_n (pc' := 10) dX11_numberHere_9 rfl rfl (q_getIe (pc' := 13) dX11_numberHere_10 rfl fr_RX11_116 ⟨by omega, rfl⟩ rfl e5 (q_iconst (pc' := 14) _ dX11_numberHere_13 rfl kk_iconst_2 (q_icmp_eq (pc' := 17) (pt := 25) dX11_numberHere_14 rfl rfl (fun _ => (q_aload_n (pc' := 26) dX11_numberHere_25 rfl rfl (q_getIe (pc' := 29) dX11_numberHere_26 rfl fr_RX11_110 ⟨by omega, rfl⟩ rfl e6 (q_iload_n (pc' := 30) dX11_numberHere_29 rfl rfl (q_iload_n (pc' := 31) dX11_numberHere_30 rfl rfl (q_cSi (pc' := 34) dX11_numberHere_31 rfl ml_RX11_89 ys_X11_isIn (by decide) (rn_X11_isIn) rfl rfl (Nat.le_of_ble_eq_true rfl) (Nat.le_refl _) (q_ifb_ne (pc' := 37) (pt := 42) dX11_numberHere_34 rfl rfl (fun h9 => Bool.noConfusion (Eq.trans (Eq.symm (decide_eq_false hc)) h9)) (fun _ => (q_aload_n (pc' := 38) dX11_numberHere_37 rfl rfl ?_))))))))) (fun h9 => absurd (congrArg nI h2) h9)))))) (fun h9 => absurd (by rw [h0]; decide) h9)))
        refine q_iconst (pc' := 39) _ dX11_numberHere_38 rfl kk_iconst_4 (q_sVv (pc' := 42) dX11_numberHere_39 rfl ml_RX11_175 yv_X11_wrong (by decide) (rs_wrong (x := 4) h hk (by decide)) ⟨by omega, rfl⟩ rfl rfl (Nat.le_of_ble_eq_true rfl) (Nat.le_refl _) (fun I1 ⟨h1, f1⟩ => ?_))
        have e6' := h1.2.2.1 6 (by decide) (by decide)
        rw [k6] at e6'
        exact q_aload_n (pc' := 43) dX11_numberHere_42 rfl rfl (q_getIe (pc' := 46) dX11_numberHere_43 rfl fr_RX11_110 ⟨by omega, rfl⟩ rfl e6' (q_iret dX11_numberHere_46 rfl (hQ _ _ _ _ ⟨_, rfl, ⟨rfl, rfl⟩, rfl, h1, f1⟩)))
    · rw [if_neg h2] at hQ
      refine q_aload_n (pc' := 1) dX11_numberHere_0 rfl rfl (q_getIe (pc' := 4) dX11_numberHere_1 rfl fr_RX11_126 ⟨by omega, rfl⟩ rfl e8 (q_if_le (pc' := 7) (pt := 9) dX11_numberHere_4 rfl rfl (fun _ => (q_aload_n (pc' := 10) dX11_numberHere_9 rfl rfl (q_getIe (pc' := 13) dX11_numberHere_10 rfl fr_RX11_116 ⟨by omega, rfl⟩ rfl e5 (q_iconst (pc' := 14) _ dX11_numberHere_13 rfl kk_iconst_2 (q_icmp_eq (pc' := 17) (pt := 25) dX11_numberHere_14 rfl rfl (fun h9 => absurd h9 (nI_ne h2 (by omega) (by omega))) (fun _ => (q_aload_n (pc' := 18) dX11_numberHere_17 rfl rfl (q_iconst (pc' := 19) _ dX11_numberHere_18 rfl kk_iconst_2 (q_sVv (pc' := 22) dX11_numberHere_19 rfl ml_RX11_175 yv_X11_wrong (by decide) (rs_wrong (x := 2) h hk (by decide)) ⟨by omega, rfl⟩ rfl rfl (Nat.le_of_ble_eq_true rfl) (Nat.le_refl _) (fun I1 ⟨h1, f1⟩ => ?_)))))))))) (fun h9 => absurd (by rw [h0]; decide) h9)))
      have e6' := h1.2.2.1 6 (by decide) (by decide)
      rw [k6] at e6'
      exact q_goto (pc' := 42) dX11_numberHere_22 rfl (q_aload_n (pc' := 43) dX11_numberHere_42 rfl rfl (q_getIe (pc' := 46) dX11_numberHere_43 rfl fr_RX11_110 ⟨by omega, rfl⟩ rfl e6' (q_iret dX11_numberHere_46 rfl (hQ _ _ _ _ ⟨_, rfl, ⟨rfl, rfl⟩, rfl, h1, f1⟩))))
  · rw [if_neg h0, if_neg h0] at hQ
    exact q_aload_n (pc' := 1) dX11_numberHere_0 rfl rfl (q_getIe (pc' := 4) dX11_numberHere_1 rfl fr_RX11_126 ⟨by omega, rfl⟩ rfl e8 (q_if_le (pc' := 7) (pt := 9) dX11_numberHere_4 rfl rfl (fun h9 => absurd h9 (Int32.not_le.mpr (nI_lt (a := 0) (by omega) (by omega)))) (fun _ => (q_iconst (pc' := 8) _ dX11_numberHere_7 rfl kk_iconst_0 (q_iret dX11_numberHere_8 rfl (hQ _ _ _ _ ⟨_, rfl, ⟨rfl, rfl⟩, rfl, h, mRf.rf⟩))))))
end M29
