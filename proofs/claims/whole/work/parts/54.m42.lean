/-! ===== the reference: an order is read ===== -/
def oR (o : Option Nat) : Nat := match o with
  | none => 0
  | some k => k + 1
theorem oR_lD (o : Option Nat) : oI o = lD (oR o) := by
  cases o with
  | none => rfl
  | some k => unfold lD oR oI; rw [if_neg (Nat.succ_ne_zero k), Nat.add_sub_cancel]
/-- the numbers of an order: which; DEVICE and 1; number and 1; CPUS -/
def mO (I : mj_M) (O : Nat → Nat → Nat) (n : Nat) : Prop := ∀ i, i < n → I 468 (4 * i) = nI (O i 0) ∧ I 468 (4 * i + 1) = lD (O i 1) ∧ I 468 (4 * i + 2) = lD (O i 2) ∧ I 468 (4 * i + 3) = nI (O i 3)
def odK2 (T : Nat → Nat) (sz : Nat) (K : Nat → Nat) : Nat → Nat := kG T sz (if ordN K = none then kW K 2 else K)
def odK3 (T : Nat → Nat) (sz : Nat) (b : St) (i : Nat) (K : Nat → Nat) : Nat → Nat := if i < 6 then kKd T sz b K else K
def odK4 (T : Nat → Nat) (sz : Nat) (i : Nat) (K : Nat → Nat) : Nat → Nat := if 3 ≤ i ∧ i ≤ 5 then kNi T sz K (nI 0) (nI 7) else K
def odTo (T : Nat → Nat) (sz : Nat) (K : Nat → Nat) : Nat → Nat := kG T sz (if kIs K 29807 = true then K else kW K 2)
def odK5 (T : Nat → Nat) (sz : Nat) (b : St) (i : Nat) (K : Nat → Nat) : Nat × (Nat → Nat) := if i = 5 then kSetOf T sz (b 0 0) 0 (odTo T sz K) else (0, K)
def odK6 (T : Nat → Nat) (sz : Nat) (i : Nat) (K : Nat → Nat) : Nat → Nat := if i = 6 then kNi T sz K (nI 1) (nI 100) else K
def odK7 (T : Nat → Nat) (sz : Nat) (b : St) (i : Nat) (K : Nat → Nat) : Nat → Nat := if 6 < i then kNi T sz K (nI 0) (nI (b 0 0) - nI 1) else K
def odV (K : Nat → Nat) : Nat := if K 8 = 0 then K 6 else 0
/-- behind the order's word -/
def odR (T : Nat → Nat) (sz : Nat) (b : St) (i : Nat) (K : Nat → Nat) : Nat → Nat := odK7 T sz b i (odK6 T sz i (odK5 T sz b i (odK4 T sz i (odK3 T sz b i K))).2)
def odO (T : Nat → Nat) (sz : Nat) (b : St) (i : Nat) (K : Nat → Nat) : Nat → Nat := fun j => if j = 0 then i else if j = 1 then (if i < 6 then oR (dLast b (kWd K) (b 0 2)) else 0) else if j = 2 then (if 3 ≤ i then (if i ≤ 5 then odV (odK3 T sz b i K) + 1 else odV K + 1) else 0) else (if i = 5 then (odK5 T sz b i (odK4 T sz i (odK3 T sz b i K))).1 else 0)
/-- an order: the reader behind it, its numbers -/
def kOrd (T : Nat → Nat) (sz : Nat) (b : St) (K : Nat → Nat) : (Nat → Nat) × (Nat → Nat) := match ordN K with
  | none => (kW K 2, fun _ => 0)
  | some i => (kSg T sz (odR T sz b i (tkK T sz K)), odO T sz b i (tkK T sz K))
theorem kOK_od3 {T : Nat → Nat} {sz i : Nat} {b : St} {K : Nat → Nat} (h : kOK sz K) : kOK sz (odK3 T sz b i K) := by
  unfold odK3
  split
  · exact kOK_kd h
  · exact h
theorem kOK_od4 {T : Nat → Nat} {sz i : Nat} {K : Nat → Nat} (h : kOK sz K) : kOK sz (odK4 T sz i K) := by
  unfold odK4
  split
  · exact kOK_ni h
  · exact h
theorem kOK_to {T : Nat → Nat} {sz : Nat} {K : Nat → Nat} (h : kOK sz K) : kOK sz (odTo T sz K) := by
  unfold odTo
  split
  · exact kOK_g h
  · exact kOK_g (kOK_w h (by decide))
theorem kOK_od5 {T : Nat → Nat} {sz i : Nat} {b : St} {K : Nat → Nat} (h : kOK sz K) : kOK sz (odK5 T sz b i K).2 := by
  unfold odK5
  split
  · exact kOK_setOf (kOK_to h)
  · exact h
theorem kOK_od6 {T : Nat → Nat} {sz i : Nat} {K : Nat → Nat} (h : kOK sz K) : kOK sz (odK6 T sz i K) := by
  unfold odK6
  split
  · exact kOK_ni h
  · exact h
theorem kOK_od7 {T : Nat → Nat} {sz i : Nat} {b : St} {K : Nat → Nat} (h : kOK sz K) : kOK sz (odK7 T sz b i K) := by
  unfold odK7
  split
  · exact kOK_ni h
  · exact h
theorem kOK_odR {T : Nat → Nat} {sz i : Nat} {b : St} {K : Nat → Nat} (h : kOK sz K) : kOK sz (odR T sz b i K) := kOK_od7 (kOK_od6 (kOK_od5 (kOK_od4 (kOK_od3 h))))
theorem kOK_ord {T : Nat → Nat} {sz : Nat} {b : St} {K : Nat → Nat} (h : kOK sz K) : kOK sz (kOrd T sz b K).1 := by
  unfold kOrd
  split
  · exact kOK_w h (by decide)
  · exact kOK_sg (kOK_odR (kOK_tk h))
theorem ordN_good {K : Nat → Nat} {i : Nat} (h : ordN K = some i) : K 8 = 0 ∧ K 5 = 1 ∧ 2 ^ 24 ≤ K 12 := by
  have key : ∀ x, kIs K x = true → K 8 = 0 ∧ K 5 = 1 ∧ K 12 = x := fun x hx => by
    unfold kIs at hx
    rw [Bool.and_eq_true, Bool.and_eq_true, beq_iff_eq, beq_iff_eq, beq_iff_eq] at hx
    exact ⟨hx.1.1, hx.1.2, hx.2⟩
  unfold ordN at h
  have fin : ∀ x, 2 ^ 24 ≤ x → kIs K x = true → K 8 = 0 ∧ K 5 = 1 ∧ 2 ^ 24 ≤ K 12 := fun x hx hk => by
    have := key x hk
    exact ⟨this.1, this.2.1, by rw [this.2.2]; exact hx⟩
  repeat' split at h
  all_goals first | (cases h; done) | (rename_i hk; exact fin _ (by decide) hk)
/-- while an order is read -/
def mOr (I0 : mj_M) (J0 : mj_J) (n : Nat) (v0 v1 v2 v3 : Int32) (I : mj_M) (J : mj_J) : Prop := (I 468 (4 * n) = v0 ∧ I 468 (4 * n + 1) = v1 ∧ I 468 (4 * n + 2) = v2 ∧ I 468 (4 * n + 3) = v3) ∧ (∀ k, k < 4 * n → I 468 k = I0 468 k) ∧ (∀ a, a ≠ 452 → a ≠ 468 → I a = I0 a) ∧ (∀ f, f < 3 ∨ 9 < f → I 452 f = I0 452 f) ∧ ∀ a f, ¬ (a = 452 ∧ f = 12) → J a f = J0 a f
theorem mOr_rf {I0 I I' : mj_M} {J0 J J' : mj_J} {n : Nat} {v0 v1 v2 v3 : Int32} (h : mRf I J I' J') (hO : mOr I0 J0 n v0 v1 v2 v3 I J) : mOr I0 J0 n v0 v1 v2 v3 I' J' := by
  have e := h.1 468 (by decide)
  refine ⟨by rw [e]; exact hO.1, by rw [e]; exact hO.2.1, fun a h1 h2 => (h.1 a h1).trans (hO.2.2.1 a h1 h2), fun f hf => (h.2.1 f hf).trans (hO.2.2.2.1 f hf), fun a f hf => (h.2.2 a f hf).trans (hO.2.2.2.2 a f hf)⟩
theorem mOr_1 {I0 I : mj_M} {J0 J : mj_J} {n : Nat} {v0 v1 v2 v3 x : Int32} (hO : mOr I0 J0 n v0 v1 v2 v3 I J) : mOr I0 J0 n v0 x v2 v3 (mj_up I 468 (4 * n + 1) x) J := by
  refine ⟨⟨?_, mj_up_eq, ?_, ?_⟩, fun k hk => ?_, fun a h1 h2 => (up_fI h2).trans (hO.2.2.1 a h1 h2), fun f hf => (mj_up_ne (by decide)).trans (hO.2.2.2.1 f hf), hO.2.2.2.2⟩
  · rw [mj_up_ne2 (by omega)]; exact hO.1.1
  · rw [mj_up_ne2 (by omega)]; exact hO.1.2.2.1
  · rw [mj_up_ne2 (by omega)]; exact hO.1.2.2.2
  · rw [mj_up_ne2 (by omega)]; exact hO.2.1 k hk
theorem mOr_2 {I0 I : mj_M} {J0 J : mj_J} {n : Nat} {v0 v1 v2 v3 x : Int32} (hO : mOr I0 J0 n v0 v1 v2 v3 I J) : mOr I0 J0 n v0 v1 x v3 (mj_up I 468 (4 * n + 2) x) J := by
  refine ⟨⟨?_, ?_, mj_up_eq, ?_⟩, fun k hk => ?_, fun a h1 h2 => (up_fI h2).trans (hO.2.2.1 a h1 h2), fun f hf => (mj_up_ne (by decide)).trans (hO.2.2.2.1 f hf), hO.2.2.2.2⟩
  · rw [mj_up_ne2 (by omega)]; exact hO.1.1
  · rw [mj_up_ne2 (by omega)]; exact hO.1.2.1
  · rw [mj_up_ne2 (by omega)]; exact hO.1.2.2.2
  · rw [mj_up_ne2 (by omega)]; exact hO.2.1 k hk
theorem mOr_3 {I0 I : mj_M} {J0 J : mj_J} {n : Nat} {v0 v1 v2 v3 x : Int32} (hO : mOr I0 J0 n v0 v1 v2 v3 I J) : mOr I0 J0 n v0 v1 v2 x (mj_up I 468 (4 * n + 3) x) J := by
  refine ⟨⟨?_, ?_, ?_, mj_up_eq⟩, fun k hk => ?_, fun a h1 h2 => (up_fI h2).trans (hO.2.2.1 a h1 h2), fun f hf => (mj_up_ne (by decide)).trans (hO.2.2.2.1 f hf), hO.2.2.2.2⟩
  · rw [mj_up_ne2 (by omega)]; exact hO.1.1
  · rw [mj_up_ne2 (by omega)]; exact hO.1.2.1
  · rw [mj_up_ne2 (by omega)]; exact hO.1.2.2.1
  · rw [mj_up_ne2 (by omega)]; exact hO.2.1 k hk
theorem mB_or {I0 I : mj_M} {J0 J : mj_J} {n : Nat} {v0 v1 v2 v3 : Int32} {b : St} (hO : mOr I0 J0 n v0 v1 v2 v3 I J) (hb : mB I0 b) : mB I b := by
  have f := hO.2.2.2.1
  have g := hO.2.2.1
  refine ⟨?_, ?_, ?_, fun d hd => ?_⟩
  · rw [f 18 (by decide)]; exact hb.1
  · rw [f 19 (by decide)]; exact hb.2.1
  · rw [f 22 (by decide)]; exact hb.2.2.1
  · rw [g 457 (by decide) (by decide), g 458 (by decide) (by decide), g 459 (by decide) (by decide)]; exact hb.2.2.2 d hd
theorem mN_or {I0 I : mj_M} {J0 J : mj_J} {n : Nat} {v0 v1 v2 v3 : Int32} {b : St} (hO : mOr I0 J0 n v0 v1 v2 v3 I J) (hn : mN I0 J0 b) : mN I J b := fun d hd => by
  rw [hO.2.2.1 461 (by decide) (by decide), hO.2.2.2.2 463 d (by omega)]; exact hn d hd
section M42
variable {w : mj_Wd} {l : Launch} {I : mj_M} {J : mj_J} {R : mj_R} {b A D : St} {T : Nat → Nat} {sz t : Nat} {K : Nat → Nat}
/-- its end -/
theorem w_od1 (Q : Option Value → mj_H → Prop) (Y : mj_Y) {I1 : mj_M} {J1 : mj_J} {n : Nat} {v0 v1 v2 v3 : Int32} {o1 o2 : Option Value} (hM : mj_wM R) (h : mRd I1 J1 T sz K) (hk : kOK sz K) (hO : mOr I J n v0 v1 v2 v3 I1 J1) (hn : I 452 43 = nI n)
    (hq : ∀ I2 J2, mRd I2 J2 T sz (kSg T sz K) → mOr I J n v0 v1 v2 v3 I2 J2 → Q none (472, mj_up I2 452 43 (nI (n + 1)), J2, R)) :
    Wq dd_X11_readOrder (mj_mk w l 472 Y) Q 210 [some (.ref 452), o1, o2] [] (472, I1, J1, R) := by
  have fin : ∀ I2 J2, mRd I2 J2 T sz (kSg T sz K) → mOr I J n v0 v1 v2 v3 I2 J2 → Wq dd_X11_readOrder (mj_mk w l 472 Y) Q 241 [some (.ref 452), o1, o2] [] (472, I2, J2, R) := by
    intro I2 J2 h2 hO2
    have e43 : I2 452 43 = nI n := (hO2.2.2.2.1 43 (by decide)).trans hn
    refine q_aload_n (pc' := 242) dX11_readOrder_241 rfl rfl (q_dup_a (pc' := 243) dX11_readOrder_242 rfl (q_getIe (pc' := 246) dX11_readOrder_243 rfl fr_RX11_442 ⟨by omega, rfl⟩ rfl e43 (q_iconst (pc' := 247) _ dX11_readOrder_246 rfl kk_iconst_1 (q_iadd (pc' := 248) dX11_readOrder_247 rfl ?_))))
    refine q_top (nI_add n 1) ?_
    exact q_putI (pc' := 251) dX11_readOrder_248 rfl fl_RX11_442 ⟨by omega, rfl⟩ rfl (q_vret dX11_readOrder_251 rfl (hq I2 J2 h2 hO2))
  have p230 : ∀ I2, mRd I2 J1 T sz (if K 8 = 0 ∧ K 5 ≠ 3 then kW K 2 else K) → kOK sz (if K 8 = 0 ∧ K 5 ≠ 3 then kW K 2 else K) → mRf I1 J1 I2 J1 → Wq dd_X11_readOrder (mj_mk w l 472 Y) Q 230 [some (.ref 452), o1, o2] [] (472, I2, J1, R) := by
    intro I2 h2 hk2 f2
    unfold kSg at fin
    generalize (if K 8 = 0 ∧ K 5 ≠ 3 then kW K 2 else K) = K2 at fin h2 hk2
    unfold kG at fin
    by_cases g : K2 8 = 0
    · rw [if_pos g] at fin
      refine q_aload_n (pc' := 231) dX11_readOrder_230 rfl rfl (q_cVi (pc' := 234) dX11_readOrder_231 rfl ml_RX11_182 yv_X11_isGood (by decide) (rn_good h2 hk2) ⟨by omega, rfl⟩ rfl rfl (Nat.le_of_ble_eq_true rfl) (Nat.le_refl _) (q_ifb_eq (pc' := 237) (pt := 241) dX11_readOrder_234 rfl rfl (fun h9 => Bool.noConfusion (Eq.trans (Eq.symm (beq_iff_eq.mpr g)) h9)) (fun _ => (q_aload_n (pc' := 238) dX11_readOrder_237 rfl rfl (q_tVv (pc' := 241) dX11_readOrder_238 rfl ml_RX11_186 yv_X11_goOn (by decide) (rt_X11_goOn hM h2 hk2.1) ⟨by omega, rfl⟩ rfl rfl (Nat.le_of_ble_eq_true rfl) (Nat.le_refl _) (fun I3 J3 R3 ⟨h3, f3, eR⟩ => ?_))))))
      rw [eR]
      exact fin I3 J3 h3 (mOr_rf f3 (mOr_rf f2 hO))
    · rw [if_neg g] at fin
      refine q_aload_n (pc' := 231) dX11_readOrder_230 rfl rfl (q_cVi (pc' := 234) dX11_readOrder_231 rfl ml_RX11_182 yv_X11_isGood (by decide) (rn_good h2 hk2) ⟨by omega, rfl⟩ rfl rfl (Nat.le_of_ble_eq_true rfl) (Nat.le_refl _) (q_ifb_eq (pc' := 237) (pt := 241) dX11_readOrder_234 rfl rfl (fun _ => ?_) (fun h9 => Bool.noConfusion (Eq.trans (Eq.symm (beq_eq_false_iff_ne.mpr g)) h9))))
      exact fin I2 J1 h2 (mOr_rf f2 hO)
  have e5 := h.2.2.1 5 (by decide) (by decide)
  have b5 := hk.2.1
  by_cases g : K 8 = 0
  · by_cases g5 : K 5 = 3
    · rw [if_neg (fun q => q.2 g5)] at p230
      refine q_aload_n (pc' := 211) dX11_readOrder_210 rfl rfl (q_cVi (pc' := 214) dX11_readOrder_211 rfl ml_RX11_182 yv_X11_isGood (by decide) (rn_good h hk) ⟨by omega, rfl⟩ rfl rfl (Nat.le_of_ble_eq_true rfl) (Nat.le_refl _) (q_ifb_eq (pc' := 217) (pt := 230) dX11_readOrder_214 rfl rfl (fun h9 => Bool.noConfusion (Eq.trans (Eq.symm (beq_iff_eq.mpr g)) h9)) (fun _ => (q_aload_n (pc' := 218) dX11_readOrder_217 rfl rfl (q_getIe (pc' := 221) dX11_readOrder_218 rfl fr_RX11_116 ⟨by omega, rfl⟩ rfl e5 (q_iconst (pc' := 222) _ dX11_readOrder_221 rfl kk_iconst_3 (q_icmp_eq (pc' := 225) (pt := 230) dX11_readOrder_222 rfl rfl (fun _ => ?_) (fun h9 => absurd (congrArg nI g5) h9))))))))
      exact p230 I1 h hk mRf.rf
    · rw [if_pos ⟨g, g5⟩] at p230
      refine q_aload_n (pc' := 211) dX11_readOrder_210 rfl rfl (q_cVi (pc' := 214) dX11_readOrder_211 rfl ml_RX11_182 yv_X11_isGood (by decide) (rn_good h hk) ⟨by omega, rfl⟩ rfl rfl (Nat.le_of_ble_eq_true rfl) (Nat.le_refl _) (q_ifb_eq (pc' := 217) (pt := 230) dX11_readOrder_214 rfl rfl (fun h9 => Bool.noConfusion (Eq.trans (Eq.symm (beq_iff_eq.mpr g)) h9)) (fun _ => (q_aload_n (pc' := 218) dX11_readOrder_217 rfl rfl (q_getIe (pc' := 221) dX11_readOrder_218 rfl fr_RX11_116 ⟨by omega, rfl⟩ rfl e5 (q_iconst (pc' := 222) _ dX11_readOrder_221 rfl kk_iconst_3 (q_icmp_eq (pc' := 225) (pt := 230) dX11_readOrder_222 rfl rfl (fun h9 => absurd h9 (nI_ne g5 (by omega) (by omega))) (fun _ => (q_aload_n (pc' := 226) dX11_readOrder_225 rfl rfl (q_iconst (pc' := 227) _ dX11_readOrder_226 rfl kk_iconst_2 (q_sVv (pc' := 230) dX11_readOrder_227 rfl ml_RX11_175 yv_X11_wrong (by decide) (rs_wrong (x := 2) h hk (by decide)) ⟨by omega, rfl⟩ rfl rfl (Nat.le_of_ble_eq_true rfl) (Nat.le_refl _) (fun I2 ⟨h2, f2⟩ => ?_))))))))))))
      exact p230 I2 h2 (kOK_w hk (by decide)) f2
  · rw [if_neg (fun q => g q.1)] at p230
    refine q_aload_n (pc' := 211) dX11_readOrder_210 rfl rfl (q_cVi (pc' := 214) dX11_readOrder_211 rfl ml_RX11_182 yv_X11_isGood (by decide) (rn_good h hk) ⟨by omega, rfl⟩ rfl rfl (Nat.le_of_ble_eq_true rfl) (Nat.le_refl _) (q_ifb_eq (pc' := 217) (pt := 230) dX11_readOrder_214 rfl rfl (fun _ => ?_) (fun h9 => Bool.noConfusion (Eq.trans (Eq.symm (beq_eq_false_iff_ne.mpr g)) h9))))
    exact p230 I1 h hk mRf.rf
theorem odV_i : (if K 8 = 0 then nI (K 6) else 0) = lD (odV K + 1) := by
  unfold odV lD
  rw [if_neg (Nat.succ_ne_zero _), Nat.add_sub_cancel]
  split <;> rfl
theorem rt_X11_readOrder {n : Nat} (hM : mj_wM R) (hb : mB I b) (hB : bOK b) (hN : bNm b) (hn : mN I J b) (h : mRd I J T sz K) (hk : kOK sz K) (h0 : K 8 = 0) (hc : I 452 43 = nI n) (hn4 : n < 400) : RtV w l yX11_readOrder dd_X11_readOrder [.ref 452] (472, I, J, R) (fun I' J' R' => mRd I' J' T sz (kOrd T sz b K).1 ∧ ((kOrd T sz b K).1 8 = 0 → I' 468 (4 * n) = nI ((kOrd T sz b K).2 0) ∧ I' 468 (4 * n + 1) = lD ((kOrd T sz b K).2 1) ∧ I' 468 (4 * n + 2) = lD ((kOrd T sz b K).2 2) ∧ I' 468 (4 * n + 3) = nI ((kOrd T sz b K).2 3)) ∧ (∀ k, k < 4 * n → I' 468 k = I 468 k) ∧ I' 452 43 = nI (n + 1) ∧ (∀ a, a ≠ 452 → a ≠ 468 → I' a = I a) ∧ (∀ f, (f < 3 ∨ 9 < f) → f ≠ 43 → I' 452 f = I 452 f) ∧ (∀ a f, ¬ (a = 452 ∧ f = 12) → J' a f = J a f) ∧ R' = R) := by
  have hc8 := hB.1.2
  refine rt_intro2 (L := [some (.ref 452), none, none]) ⟨by decide, rfl, (fun h => by cases h)⟩ (Nat.le_of_ble_eq_true rfl) rfl (fun Y Q hQ => ?_)
  cases ho : ordN K with
  | none =>
    have e : kOrd T sz b K = (kW K 2, fun _ => 0) := by unfold kOrd; rw [ho]
    rw [e] at hQ
    have g : ¬ kW K 2 8 = 0 := kW8 (by decide)
    have hk1 : kOK sz (kW K 2) := kOK_w hk (by decide)
    refine q_aload_n (pc' := 1) dX11_readOrder_0 rfl rfl (q_cVi (pc' := 4) dX11_readOrder_1 rfl ml_RX11_171 yv_X11_orderHere (by decide) (rn_X11_orderHere h hk) ⟨by omega, rfl⟩ rfl rfl (Nat.le_of_ble_eq_true rfl) (Nat.le_refl _) (q_ist_1 (pc' := 5) dX11_readOrder_4 rfl (by decide) rfl (q_iload_n (pc' := 6) dX11_readOrder_5 rfl rfl (q_iconst (pc' := 7) _ dX11_readOrder_6 rfl kk_iconst_m1 (q_icmp_ne (pc' := 10) (pt := 15) dX11_readOrder_7 rfl rfl (fun h9 => absurd (by rw [ho]; rfl) h9) (fun _ => (q_aload_n (pc' := 11) dX11_readOrder_10 rfl rfl (q_iconst (pc' := 12) _ dX11_readOrder_11 rfl kk_iconst_2 (q_sVv (pc' := 15) dX11_readOrder_12 rfl ml_RX11_175 yv_X11_wrong (by decide) (rs_wrong (x := 2) h hk (by decide)) ⟨by omega, rfl⟩ rfl rfl (Nat.le_of_ble_eq_true rfl) (Nat.le_refl _) (fun I1 ⟨h1, f1⟩ => ?_))))))))))
    rw [ho]
    have e43 : I1 452 43 = nI n := (f1.2.1 43 (by decide)).trans hc
    refine q_aload_n (pc' := 16) dX11_readOrder_15 rfl rfl (q_cVi (pc' := 19) dX11_readOrder_16 rfl ml_RX11_182 yv_X11_isGood (by decide) (rn_good h1 hk1) ⟨by omega, rfl⟩ rfl rfl (Nat.le_of_ble_eq_true rfl) (Nat.le_refl _) (q_ifb_eq (pc' := 22) (pt := 26) dX11_readOrder_19 rfl rfl (fun _ => (q_iconst (pc' := 27) _ dX11_readOrder_26 rfl kk_iconst_4 (q_aload_n (pc' := 28) dX11_readOrder_27 rfl rfl (q_getIe (pc' := 31) dX11_readOrder_28 rfl fr_RX11_442 ⟨by omega, rfl⟩ rfl e43 (q_imul (pc' := 32) dX11_readOrder_31 rfl ?_))))) (fun h9 => Bool.noConfusion (Eq.trans (Eq.symm (beq_eq_false_iff_ne.mpr g)) h9))))
    refine q_top (y := nI (4 * n)) (pk_mul 4 n) ?_
    have h2 : mRd (mj_up (mj_up (mj_up (mj_up I1 468 (4 * n) (oI none)) 468 (4 * n + 1) (-1)) 468 (4 * n + 2) (-1)) 468 (4 * n + 3) (nI 0)) J T sz (kW K 2) := mRd_ar (by decide) (by decide) (mRd_ar (by decide) (by decide) (mRd_ar (by decide) (by decide) (mRd_ar (by decide) (by decide) h1)))
    have hO2 : mOr I J n (oI none) (-1) (-1) (nI 0) (mj_up (mj_up (mj_up (mj_up I1 468 (4 * n) (oI none)) 468 (4 * n + 1) (-1)) 468 (4 * n + 2) (-1)) 468 (4 * n + 3) (nI 0)) J := by
      refine ⟨⟨?_, ?_, ?_, mj_up_eq⟩, fun k hk => ?_, fun a q1 q2 => ?_, fun f hf => ?_, fun _ _ _ => rfl⟩
      · rw [mj_up_ne2 (by omega), mj_up_ne2 (by omega), mj_up_ne2 (by omega), mj_up_eq]
      · rw [mj_up_ne2 (by omega), mj_up_ne2 (by omega), mj_up_eq]
      · rw [mj_up_ne2 (by omega), mj_up_eq]
      · rw [mj_up_ne2 (by omega), mj_up_ne2 (by omega), mj_up_ne2 (by omega), mj_up_ne2 (by omega), f1.1 468 (by decide)]
      · rw [up_fI q2, up_fI q2, up_fI q2, up_fI q2]; exact f1.1 a q1
      · rw [mj_up_ne (by decide), mj_up_ne (by decide), mj_up_ne (by decide), mj_up_ne (by decide)]; exact f1.2.1 f hf
    refine q_ist_2 (pc' := 33) dX11_readOrder_32 rfl (by decide) rfl (q_aload_n (pc' := 34) dX11_readOrder_33 rfl rfl (q_getR (pc' := 37) dX11_readOrder_34 rfl fr_RX11_63 ⟨by omega, rfl⟩ rfl (wM_42 hM) (by decide) (q_iload_n (pc' := 38) dX11_readOrder_37 rfl rfl (q_iload_n (pc' := 39) dX11_readOrder_38 rfl rfl (q_iast (pc' := 40) (4 * n) dX11_readOrder_39 rfl (by first | exact ⟨by omega, rfl⟩ | exact okaS hi hz (by decide) rfl | assumption) (by (first | (simp only [nI_add, pk_mul]; done) | (simp only [nI_add, pk_mul]; exact nI_e (by omega)) | exact nI_e (by omega))) (by omega) (q_aload_n (pc' := 41) dX11_readOrder_40 rfl rfl (q_getR (pc' := 44) dX11_readOrder_41 rfl fr_RX11_63 ⟨by omega, rfl⟩ rfl (wM_42 hM) (by decide) (q_iload_n (pc' := 45) dX11_readOrder_44 rfl rfl (q_iconst (pc' := 46) _ dX11_readOrder_45 rfl kk_iconst_1 (q_iadd (pc' := 47) dX11_readOrder_46 rfl (q_iconst (pc' := 48) _ dX11_readOrder_47 rfl kk_iconst_m1 (q_iast (pc' := 49) (4 * n + 1) dX11_readOrder_48 rfl (by first | exact ⟨by omega, rfl⟩ | exact okaS hi hz (by decide) rfl | assumption) (by (first | (simp only [nI_add, pk_mul]; done) | (simp only [nI_add, pk_mul]; exact nI_e (by omega)) | exact nI_e (by omega))) (by omega) (q_aload_n (pc' := 50) dX11_readOrder_49 rfl rfl ?_)))))))))))))
    refine q_getR (pc' := 53) dX11_readOrder_50 rfl fr_RX11_63 ⟨by omega, rfl⟩ rfl (wM_42 hM) (by decide) (q_iload_n (pc' := 54) dX11_readOrder_53 rfl rfl (q_iconst (pc' := 55) _ dX11_readOrder_54 rfl kk_iconst_2 (q_iadd (pc' := 56) dX11_readOrder_55 rfl (q_iconst (pc' := 57) _ dX11_readOrder_56 rfl kk_iconst_m1 (q_iast (pc' := 58) (4 * n + 2) dX11_readOrder_57 rfl (by first | exact ⟨by omega, rfl⟩ | exact okaS hi hz (by decide) rfl | assumption) (by (first | (simp only [nI_add, pk_mul]; done) | (simp only [nI_add, pk_mul]; exact nI_e (by omega)) | exact nI_e (by omega))) (by omega) (q_aload_n (pc' := 59) dX11_readOrder_58 rfl rfl (q_getR (pc' := 62) dX11_readOrder_59 rfl fr_RX11_63 ⟨by omega, rfl⟩ rfl (wM_42 hM) (by decide) (q_iload_n (pc' := 63) dX11_readOrder_62 rfl rfl (q_iconst (pc' := 64) _ dX11_readOrder_63 rfl kk_iconst_3 (q_iadd (pc' := 65) dX11_readOrder_64 rfl (q_iconst (pc' := 66) _ dX11_readOrder_65 rfl kk_iconst_0 (q_iast (pc' := 67) (4 * n + 3) dX11_readOrder_66 rfl (by first | exact ⟨by omega, rfl⟩ | exact okaS hi hz (by decide) rfl | assumption) (by (first | (simp only [nI_add, pk_mul]; done) | (simp only [nI_add, pk_mul]; exact nI_e (by omega)) | exact nI_e (by omega))) (by omega) ?_))))))))))))
    have hin : decide (nI 3 ≤ oI none ∧ oI none ≤ nI 5) = false := by decide
    refine q_iload_n (pc' := 68) dX11_readOrder_67 rfl rfl (q_bipush (pc' := 70) _ dX11_readOrder_68 rfl kk_bipush_6 (q_icmp_ge (pc' := 73) (pt := 92) dX11_readOrder_70 rfl rfl (fun h9 => absurd h9 (by decide)) (fun _ => (q_aload_n (pc' := 74) dX11_readOrder_73 rfl rfl (q_cVi (pc' := 77) dX11_readOrder_74 rfl ml_RX11_182 yv_X11_isGood (by decide) (rn_good h2 hk1) ⟨by omega, rfl⟩ rfl rfl (Nat.le_of_ble_eq_true rfl) (Nat.le_refl _) (q_ifb_eq (pc' := 80) (pt := 92) dX11_readOrder_77 rfl rfl (fun _ => (q_iload_n (pc' := 93) dX11_readOrder_92 rfl rfl (q_iconst (pc' := 94) _ dX11_readOrder_93 rfl kk_iconst_3 (q_iconst (pc' := 95) _ dX11_readOrder_94 rfl kk_iconst_5 (q_cSi (pc' := 98) dX11_readOrder_95 rfl ml_RX11_89 ys_X11_isIn (by decide) (rn_X11_isIn) rfl rfl (Nat.le_of_ble_eq_true rfl) (Nat.le_refl _) (q_ifb_eq (pc' := 101) (pt := 116) dX11_readOrder_98 rfl rfl (fun _ => (q_iload_n (pc' := 117) dX11_readOrder_116 rfl rfl (q_iconst (pc' := 118) _ dX11_readOrder_117 rfl kk_iconst_5 (q_icmp_ne (pc' := 121) (pt := 164) dX11_readOrder_118 rfl rfl (fun _ => ?_) (fun h9 => absurd h9 (by decide)))))) (fun h9 => Bool.noConfusion (Eq.trans (Eq.symm (hin)) h9)))))))) (fun h9 => Bool.noConfusion (Eq.trans (Eq.symm (beq_eq_false_iff_ne.mpr g)) h9))))))))
    refine q_iload_n (pc' := 165) dX11_readOrder_164 rfl rfl (q_bipush (pc' := 167) _ dX11_readOrder_165 rfl kk_bipush_6 (q_icmp_ne (pc' := 170) (pt := 185) dX11_readOrder_167 rfl rfl (fun _ => (q_iload_n (pc' := 186) dX11_readOrder_185 rfl rfl (q_bipush (pc' := 188) _ dX11_readOrder_186 rfl kk_bipush_6 (q_icmp_le (pc' := 191) (pt := 210) dX11_readOrder_188 rfl rfl (fun _ => ?_) (fun h9 => absurd (by decide) h9))))) (fun h9 => absurd h9 (by decide))))
    refine w_od1 Q Y hM h2 hk1 hO2 hc (fun I3 J3 h3 hO3 => ?_)
    have eS : kSg T sz (kW K 2) = kW K 2 := by
      unfold kSg
      rw [if_neg (fun q : kW K 2 8 = 0 ∧ kW K 2 5 ≠ 3 => g q.1)]
      exact if_neg g
    rw [eS] at h3
    refine hQ _ _ _ _ ⟨rfl, mRd_oth (by decide) h3, fun q => absurd q g, fun k hk => ?_, mj_up_eq, fun a q1 q2 => ?_, fun f q1 q2 => ?_, hO3.2.2.2.2, rfl⟩
    · rw [mj_up_ne (by decide)]; exact hO3.2.1 k hk
    · rw [up_fI q1]; exact hO3.2.2.1 a q1 q2
    · rw [mj_up_ne2 q2]; exact hO3.2.2.2.1 f q1
  | some i =>
    have hi := ordN_lt ho
    have e : kOrd T sz b K = (kSg T sz (odR T sz b i (tkK T sz K)), odO T sz b i (tkK T sz K)) := by unfold kOrd; rw [ho]
    rw [e] at hQ
    have hkt := kOK_tk (T := T) hk
    have hk3 := kOK_od3 (T := T) (b := b) (i := i) hkt
    have hk4 := kOK_od4 (T := T) (i := i) hk3
    have hk5 := kOK_od5 (T := T) (b := b) (i := i) hk4
    have hk6 := kOK_od6 (T := T) (i := i) hk5
    have hk7 := kOK_od7 (T := T) (b := b) (i := i) hk6
    have fin : ∀ I1 J1 o1 o2, mRd I1 J1 T sz (odR T sz b i (tkK T sz K)) → mOr I J n (nI i) (lD (odO T sz b i (tkK T sz K) 1)) (lD (odO T sz b i (tkK T sz K) 2)) (nI (odO T sz b i (tkK T sz K) 3)) I1 J1 → Wq dd_X11_readOrder (mj_mk w l 472 Y) Q 210 [some (.ref 452), o1, o2] [] (472, I1, J1, R) := by
      intro I1 J1 o1 o2 h1 hO1
      refine w_od1 Q Y hM h1 hk7 hO1 hc (fun I3 J3 h3 hO3 => ?_)
      refine hQ _ _ _ _ ⟨rfl, mRd_oth (by decide) h3, fun q => ?_, fun k hk => ?_, mj_up_eq, fun a q1 q2 => ?_, fun f q1 q2 => ?_, hO3.2.2.2.2, rfl⟩
      · rw [mj_up_ne (by decide), mj_up_ne (by decide), mj_up_ne (by decide), mj_up_ne (by decide)]; exact hO3.1
      · rw [mj_up_ne (by decide)]; exact hO3.2.1 k hk
      · rw [up_fI q1]; exact hO3.2.2.1 a q1 q2
      · rw [mj_up_ne2 q2]; exact hO3.2.2.2.1 f q1
    have o1e : odO T sz b i (tkK T sz K) 1 = (if i < 6 then oR (dLast b (kWd (tkK T sz K)) (b 0 2)) else 0) := rfl
    have o2e : odO T sz b i (tkK T sz K) 2 = (if 3 ≤ i then (if i ≤ 5 then odV (odK3 T sz b i (tkK T sz K)) + 1 else odV (tkK T sz K) + 1) else 0) := rfl
    have o3e : odO T sz b i (tkK T sz K) 3 = (if i = 5 then (odK5 T sz b i (odK4 T sz i (odK3 T sz b i (tkK T sz K)))).1 else 0) := rfl
    rw [o1e, o2e, o3e] at fin
    unfold odR at fin
    -- 185: a CPU's number
    have p185 : ∀ I1 J1, mRd I1 J1 T sz (odK6 T sz i (odK5 T sz b i (odK4 T sz i (odK3 T sz b i (tkK T sz K)))).2) → mOr I J n (nI i) (lD (if i < 6 then oR (dLast b (kWd (tkK T sz K)) (b 0 2)) else 0)) (if 6 < i then (-1) else lD (if 3 ≤ i then (if i ≤ 5 then odV (odK3 T sz b i (tkK T sz K)) + 1 else odV (tkK T sz K) + 1) else 0)) (nI (if i = 5 then (odK5 T sz b i (odK4 T sz i (odK3 T sz b i (tkK T sz K)))).1 else 0)) I1 J1 → Wq dd_X11_readOrder (mj_mk w l 472 Y) Q 185 [some (.ref 452), some (.int (nI i)), some (.int (nI (4 * n)))] [] (472, I1, J1, R) := by
      intro I1 J1 h1 hO1
      by_cases h6 : 6 < i
      · have e7 : odK7 T sz b i (odK6 T sz i (odK5 T sz b i (odK4 T sz i (odK3 T sz b i (tkK T sz K)))).2) = kNi T sz (odK6 T sz i (odK5 T sz b i (odK4 T sz i (odK3 T sz b i (tkK T sz K)))).2) (nI 0) (nI (b 0 0) - nI 1) := if_pos h6
        have eK : odK6 T sz i (odK5 T sz b i (odK4 T sz i (odK3 T sz b i (tkK T sz K)))).2 = tkK T sz K := by
          unfold odK6 odK5 odK4 odK3
          rw [if_neg (by omega), if_neg (by omega), if_neg (by omega), if_neg (by omega)]
        have e18 : I1 452 18 = nI (b 0 0) := mB_0 (mB_or hO1 hb)
        rw [if_pos (show 3 ≤ i by omega), if_neg (show ¬ i ≤ 5 by omega)] at fin
        refine q_iload_n (pc' := 186) dX11_readOrder_185 rfl rfl (q_bipush (pc' := 188) _ dX11_readOrder_186 rfl kk_bipush_6 (q_icmp_le (pc' := 191) (pt := 210) dX11_readOrder_188 rfl rfl (fun h9 => absurd h9 (Int32.not_le.mpr (nI_lt (by omega) (by omega)))) (fun _ => (q_aload_n (pc' := 192) dX11_readOrder_191 rfl rfl (q_getR (pc' := 195) dX11_readOrder_192 rfl fr_RX11_63 ⟨by omega, rfl⟩ rfl (wM_42 hM) (by decide) (q_iload_n (pc' := 196) dX11_readOrder_195 rfl rfl (q_iconst (pc' := 197) _ dX11_readOrder_196 rfl kk_iconst_2 (q_iadd (pc' := 198) dX11_readOrder_197 rfl (q_aload_n (pc' := 199) dX11_readOrder_198 rfl rfl (q_iconst (pc' := 200) _ dX11_readOrder_199 rfl kk_iconst_0 (q_aload_n (pc' := 201) dX11_readOrder_200 rfl rfl (q_getIe (pc' := 204) dX11_readOrder_201 rfl fr_RX11_240 ⟨by omega, rfl⟩ rfl e18 (q_iconst (pc' := 205) _ dX11_readOrder_204 rfl kk_iconst_1 (q_isub (pc' := 206) dX11_readOrder_205 rfl ?_))))))))))))))
        refine q_tVi (pc' := 209) dX11_readOrder_206 rfl ml_RX11_221 yv_X11_numberIn (by decide) (rt_X11_numberIn hM h1 hk6) ⟨by omega, rfl⟩ rfl rfl (Nat.le_of_ble_eq_true rfl) (Nat.le_refl _) (fun x2 I2 J2 R2 ⟨r2, h2, f2, eR⟩ => ?_)
        rw [eR, r2]
        have hO2 := mOr_2 (x := lD (odV (tkK T sz K) + 1)) (mOr_rf f2 hO1)
        rw [eK, odV_i]
        refine q_iast (pc' := 210) (4 * n + 2) dX11_readOrder_209 rfl (by first | exact ⟨by omega, rfl⟩ | exact okaS hi hz (by decide) rfl | assumption) (by (first | (simp only [nI_add, pk_mul]; done) | (simp only [nI_add, pk_mul]; exact nI_e (by omega)) | exact nI_e (by omega))) (by omega) ?_
        refine fin _ _ _ _ ?_ hO2
        rw [e7]
        exact mRd_ar (by decide) (by decide) h2
      · rw [if_neg h6] at hO1
        have e7 : odK7 T sz b i (odK6 T sz i (odK5 T sz b i (odK4 T sz i (odK3 T sz b i (tkK T sz K)))).2) = odK6 T sz i (odK5 T sz b i (odK4 T sz i (odK3 T sz b i (tkK T sz K)))).2 := if_neg h6
        rw [e7] at fin
        refine q_iload_n (pc' := 186) dX11_readOrder_185 rfl rfl (q_bipush (pc' := 188) _ dX11_readOrder_186 rfl kk_bipush_6 (q_icmp_le (pc' := 191) (pt := 210) dX11_readOrder_188 rfl rfl (fun _ => ?_) (fun h9 => absurd (nI_le (by omega) (by omega)) h9)))
        exact fin I1 J1 _ _ h1 hO1
    have p164 : ∀ I1 J1, mRd I1 J1 T sz (odK5 T sz b i (odK4 T sz i (odK3 T sz b i (tkK T sz K)))).2 → mOr I J n (nI i) (lD (if i < 6 then oR (dLast b (kWd (tkK T sz K)) (b 0 2)) else 0)) (if 5 < i then (-1) else lD (if 3 ≤ i then (if i ≤ 5 then odV (odK3 T sz b i (tkK T sz K)) + 1 else odV (tkK T sz K) + 1) else 0)) (nI (if i = 5 then (odK5 T sz b i (odK4 T sz i (odK3 T sz b i (tkK T sz K)))).1 else 0)) I1 J1 → Wq dd_X11_readOrder (mj_mk w l 472 Y) Q 164 [some (.ref 452), some (.int (nI i)), some (.int (nI (4 * n)))] [] (472, I1, J1, R) := by
      intro I1 J1 h1 hO1
      by_cases h6 : i = 6
      · have e6 : odK6 T sz i (odK5 T sz b i (odK4 T sz i (odK3 T sz b i (tkK T sz K)))).2 = kNi T sz (odK5 T sz b i (odK4 T sz i (odK3 T sz b i (tkK T sz K)))).2 (nI 1) (nI 100) := if_pos h6
        have eK : (odK5 T sz b i (odK4 T sz i (odK3 T sz b i (tkK T sz K)))).2 = tkK T sz K := by
          unfold odK5 odK4 odK3
          rw [if_neg (by omega), if_neg (by omega), if_neg (by omega)]
        rw [if_pos (show 3 ≤ i by omega), if_neg (show ¬ i ≤ 5 by omega), if_neg (show ¬ 6 < i by omega)] at p185
        refine q_iload_n (pc' := 165) dX11_readOrder_164 rfl rfl (q_bipush (pc' := 167) _ dX11_readOrder_165 rfl kk_bipush_6 (q_icmp_ne (pc' := 170) (pt := 185) dX11_readOrder_167 rfl rfl (fun h9 => absurd (congrArg nI h6) h9) (fun _ => (q_aload_n (pc' := 171) dX11_readOrder_170 rfl rfl (q_getR (pc' := 174) dX11_readOrder_171 rfl fr_RX11_63 ⟨by omega, rfl⟩ rfl (wM_42 hM) (by decide) (q_iload_n (pc' := 175) dX11_readOrder_174 rfl rfl (q_iconst (pc' := 176) _ dX11_readOrder_175 rfl kk_iconst_2 (q_iadd (pc' := 177) dX11_readOrder_176 rfl (q_aload_n (pc' := 178) dX11_readOrder_177 rfl rfl (q_iconst (pc' := 179) _ dX11_readOrder_178 rfl kk_iconst_1 (q_bipush (pc' := 181) _ dX11_readOrder_179 rfl kk_bipush_100 (q_tVi (pc' := 184) dX11_readOrder_181 rfl ml_RX11_221 yv_X11_numberIn (by decide) (rt_X11_numberIn hM h1 hk5) ⟨by omega, rfl⟩ rfl rfl (Nat.le_of_ble_eq_true rfl) (Nat.le_refl _) (fun x2 I2 J2 R2 ⟨r2, h2, f2, eR⟩ => ?_)))))))))))))
        rw [eR, r2]
        have hO2 := mOr_2 (x := lD (odV (tkK T sz K) + 1)) (mOr_rf f2 hO1)
        rw [eK, odV_i]
        refine q_iast (pc' := 185) (4 * n + 2) dX11_readOrder_184 rfl (by first | exact ⟨by omega, rfl⟩ | exact okaS hi hz (by decide) rfl | assumption) (by (first | (simp only [nI_add, pk_mul]; done) | (simp only [nI_add, pk_mul]; exact nI_e (by omega)) | exact nI_e (by omega))) (by omega) ?_
        refine p185 _ _ ?_ hO2
        rw [e6]
        exact mRd_ar (by decide) (by decide) h2
      · have e6 : odK6 T sz i (odK5 T sz b i (odK4 T sz i (odK3 T sz b i (tkK T sz K)))).2 = (odK5 T sz b i (odK4 T sz i (odK3 T sz b i (tkK T sz K)))).2 := if_neg h6
        rw [e6] at p185
        have ee : (if 6 < i then (-1 : Int32) else lD (if 3 ≤ i then (if i ≤ 5 then odV (odK3 T sz b i (tkK T sz K)) + 1 else odV (tkK T sz K) + 1) else 0)) = (if 5 < i then (-1) else lD (if 3 ≤ i then (if i ≤ 5 then odV (odK3 T sz b i (tkK T sz K)) + 1 else odV (tkK T sz K) + 1) else 0)) := by
          by_cases h7 : 6 < i
          · rw [if_pos h7, if_pos (show 5 < i by omega)]
          · rw [if_neg h7, if_neg (show ¬ 5 < i by omega)]
        rw [ee] at p185
        refine q_iload_n (pc' := 165) dX11_readOrder_164 rfl rfl (q_bipush (pc' := 167) _ dX11_readOrder_165 rfl kk_bipush_6 (q_icmp_ne (pc' := 170) (pt := 185) dX11_readOrder_167 rfl rfl (fun _ => ?_) (fun h9 => absurd h9 (nI_ne h6 (by omega) (by omega)))))
        exact p185 I1 J1 h1 hO1
    have p116 : ∀ I1 J1, mRd I1 J1 T sz (odK4 T sz i (odK3 T sz b i (tkK T sz K))) → mOr I J n (nI i) (lD (if i < 6 then oR (dLast b (kWd (tkK T sz K)) (b 0 2)) else 0)) (if 5 < i then (-1) else lD (if 3 ≤ i then (if i ≤ 5 then odV (odK3 T sz b i (tkK T sz K)) + 1 else odV (tkK T sz K) + 1) else 0)) (nI 0) I1 J1 → Wq dd_X11_readOrder (mj_mk w l 472 Y) Q 116 [some (.ref 452), some (.int (nI i)), some (.int (nI (4 * n)))] [] (472, I1, J1, R) := by
      intro I1 J1 h1 hO1
      by_cases h5 : i = 5
      · have e5 : odK5 T sz b i (odK4 T sz i (odK3 T sz b i (tkK T sz K))) = kSetOf T sz (b 0 0) 0 (odTo T sz (odK4 T sz i (odK3 T sz b i (tkK T sz K)))) := if_pos h5
        rw [if_pos h5, e5] at p164
        generalize odK4 T sz i (odK3 T sz b i (tkK T sz K)) = K4 at p164 hk4 h1
        have hkt4 := kOK_to (T := T) hk4
        have p147 : ∀ I2 J2, mRd I2 J2 T sz (odTo T sz K4) → mOr I J n (nI i) (lD (if i < 6 then oR (dLast b (kWd (tkK T sz K)) (b 0 2)) else 0)) (if 5 < i then (-1) else lD (if 3 ≤ i then (if i ≤ 5 then odV (odK3 T sz b i (tkK T sz K)) + 1 else odV (tkK T sz K) + 1) else 0)) (nI 0) I2 J2 → Wq dd_X11_readOrder (mj_mk w l 472 Y) Q 147 [some (.ref 452), some (.int (nI i)), some (.int (nI (4 * n)))] [] (472, I2, J2, R) := by
          intro I2 J2 h2 hO2
          have e18 : I2 452 18 = nI (b 0 0) := mB_0 (mB_or hO2 hb)
          refine q_aload_n (pc' := 148) dX11_readOrder_147 rfl rfl (q_getR (pc' := 151) dX11_readOrder_148 rfl fr_RX11_63 ⟨by omega, rfl⟩ rfl (wM_42 hM) (by decide) (q_iload_n (pc' := 152) dX11_readOrder_151 rfl rfl (q_iconst (pc' := 153) _ dX11_readOrder_152 rfl kk_iconst_3 (q_iadd (pc' := 154) dX11_readOrder_153 rfl (q_aload_n (pc' := 155) dX11_readOrder_154 rfl rfl (q_aload_n (pc' := 156) dX11_readOrder_155 rfl rfl (q_getIe (pc' := 159) dX11_readOrder_156 rfl fr_RX11_240 ⟨by omega, rfl⟩ rfl e18 (q_iconst (pc' := 160) _ dX11_readOrder_159 rfl kk_iconst_0 (q_tVi (pc' := 163) dX11_readOrder_160 rfl ml_RX11_228 yv_X11_setOf (by decide) (rt_X11_setOf hM h2 hkt4 (by omega) (by decide)) ⟨by omega, rfl⟩ rfl rfl (Nat.le_of_ble_eq_true rfl) (Nat.le_refl _) (fun x3 I3 J3 R3 ⟨r3, l3, h3, k3, f3, eR⟩ => ?_))))))))))
          rw [eR, r3]
          have hO3 := mOr_3 (x := nI (kSetOf T sz (b 0 0) 0 (odTo T sz K4)).1) (mOr_rf f3 hO2)
          refine q_iast (pc' := 164) (4 * n + 3) dX11_readOrder_163 rfl (by first | exact ⟨by omega, rfl⟩ | exact okaS hi hz (by decide) rfl | assumption) (by (first | (simp only [nI_add, pk_mul]; done) | (simp only [nI_add, pk_mul]; exact nI_e (by omega)) | exact nI_e (by omega))) (by omega) ?_
          exact p164 _ _ (mRd_ar (by decide) (by decide) h3) hO3
        have p136 : ∀ I2, mRd I2 J1 T sz (if kIs K4 29807 = true then K4 else kW K4 2) → kOK sz (if kIs K4 29807 = true then K4 else kW K4 2) → mRf I1 J1 I2 J1 → Wq dd_X11_readOrder (mj_mk w l 472 Y) Q 136 [some (.ref 452), some (.int (nI i)), some (.int (nI (4 * n)))] [] (472, I2, J1, R) := by
          intro I2 h2 hk2 f2
          unfold odTo at p147
          generalize (if kIs K4 29807 = true then K4 else kW K4 2) = K5 at p147 h2 hk2
          unfold kG at p147
          by_cases g : K5 8 = 0
          · rw [if_pos g] at p147
            refine q_aload_n (pc' := 137) dX11_readOrder_136 rfl rfl (q_cVi (pc' := 140) dX11_readOrder_137 rfl ml_RX11_182 yv_X11_isGood (by decide) (rn_good h2 hk2) ⟨by omega, rfl⟩ rfl rfl (Nat.le_of_ble_eq_true rfl) (Nat.le_refl _) (q_ifb_eq (pc' := 143) (pt := 147) dX11_readOrder_140 rfl rfl (fun h9 => Bool.noConfusion (Eq.trans (Eq.symm (beq_iff_eq.mpr g)) h9)) (fun _ => (q_aload_n (pc' := 144) dX11_readOrder_143 rfl rfl (q_tVv (pc' := 147) dX11_readOrder_144 rfl ml_RX11_186 yv_X11_goOn (by decide) (rt_X11_goOn hM h2 hk2.1) ⟨by omega, rfl⟩ rfl rfl (Nat.le_of_ble_eq_true rfl) (Nat.le_refl _) (fun I3 J3 R3 ⟨h3, f3, eR⟩ => ?_))))))
            rw [eR]
            exact p147 I3 J3 h3 (mOr_rf f3 (mOr_rf f2 hO1))
          · rw [if_neg g] at p147
            refine q_aload_n (pc' := 137) dX11_readOrder_136 rfl rfl (q_cVi (pc' := 140) dX11_readOrder_137 rfl ml_RX11_182 yv_X11_isGood (by decide) (rn_good h2 hk2) ⟨by omega, rfl⟩ rfl rfl (Nat.le_of_ble_eq_true rfl) (Nat.le_refl _) (q_ifb_eq (pc' := 143) (pt := 147) dX11_readOrder_140 rfl rfl (fun _ => ?_) (fun h9 => Bool.noConfusion (Eq.trans (Eq.symm (beq_eq_false_iff_ne.mpr g)) h9))))
            exact p147 I2 J1 h2 (mOr_rf f2 hO1)
        by_cases gt : kIs K4 29807 = true
        · rw [if_pos gt] at p136
          refine q_iload_n (pc' := 117) dX11_readOrder_116 rfl rfl (q_iconst (pc' := 118) _ dX11_readOrder_117 rfl kk_iconst_5 (q_icmp_ne (pc' := 121) (pt := 164) dX11_readOrder_118 rfl rfl (fun h9 => absurd (congrArg nI h5) h9) (fun _ => (q_aload_n (pc' := 122) dX11_readOrder_121 rfl rfl (q_ldc2 (pc' := 125) _ dX11_readOrder_122 rfl kl_RX11_169 (q_cVi (pc' := 128) dX11_readOrder_125 rfl ml_RX11_131 yv_X11_isWord (by decide) (rn_word 29807 h1 hk4 (by decide)) ⟨by omega, rfl⟩ rfl rfl (Nat.le_of_ble_eq_true rfl) (Nat.le_refl _) (q_ifb_ne (pc' := 131) (pt := 136) dX11_readOrder_128 rfl rfl (fun _ => ?_) (fun h9 => Bool.noConfusion (Eq.trans (Eq.symm (gt)) h9)))))))))
          exact p136 I1 h1 hk4 mRf.rf
        · rw [if_neg gt] at p136
          refine q_iload_n (pc' := 117) dX11_readOrder_116 rfl rfl (q_iconst (pc' := 118) _ dX11_readOrder_117 rfl kk_iconst_5 (q_icmp_ne (pc' := 121) (pt := 164) dX11_readOrder_118 rfl rfl (fun h9 => absurd (congrArg nI h5) h9) (fun _ => (q_aload_n (pc' := 122) dX11_readOrder_121 rfl rfl (q_ldc2 (pc' := 125) _ dX11_readOrder_122 rfl kl_RX11_169 (q_cVi (pc' := 128) dX11_readOrder_125 rfl ml_RX11_131 yv_X11_isWord (by decide) (rn_word 29807 h1 hk4 (by decide)) ⟨by omega, rfl⟩ rfl rfl (Nat.le_of_ble_eq_true rfl) (Nat.le_refl _) (q_ifb_ne (pc' := 131) (pt := 136) dX11_readOrder_128 rfl rfl (fun h9 => Bool.noConfusion (Eq.trans (Eq.symm (Bool.eq_false_iff.mpr gt)) h9)) (fun _ => (q_aload_n (pc' := 132) dX11_readOrder_131 rfl rfl (q_iconst (pc' := 133) _ dX11_readOrder_132 rfl kk_iconst_2 (q_sVv (pc' := 136) dX11_readOrder_133 rfl ml_RX11_175 yv_X11_wrong (by decide) (rs_wrong (x := 2) h1 hk4 (by decide)) ⟨by omega, rfl⟩ rfl rfl (Nat.le_of_ble_eq_true rfl) (Nat.le_refl _) (fun I2 ⟨h2, f2⟩ => ?_))))))))))))
          exact p136 I2 h2 (kOK_w hk4 (by decide)) f2
      · have e5 : odK5 T sz b i (odK4 T sz i (odK3 T sz b i (tkK T sz K))) = (0, odK4 T sz i (odK3 T sz b i (tkK T sz K))) := if_neg h5
        rw [if_neg h5, e5] at p164
        refine q_iload_n (pc' := 117) dX11_readOrder_116 rfl rfl (q_iconst (pc' := 118) _ dX11_readOrder_117 rfl kk_iconst_5 (q_icmp_ne (pc' := 121) (pt := 164) dX11_readOrder_118 rfl rfl (fun _ => ?_) (fun h9 => absurd h9 (nI_ne h5 (by omega) (by omega)))))
        exact p164 I1 J1 h1 hO1
    have p92 : ∀ I1 J1, mRd I1 J1 T sz (odK3 T sz b i (tkK T sz K)) → mOr I J n (nI i) (lD (if i < 6 then oR (dLast b (kWd (tkK T sz K)) (b 0 2)) else 0)) (-1) (nI 0) I1 J1 → Wq dd_X11_readOrder (mj_mk w l 472 Y) Q 92 [some (.ref 452), some (.int (nI i)), some (.int (nI (4 * n)))] [] (472, I1, J1, R) := by
      intro I1 J1 h1 hO1
      have hin : decide (nI 3 ≤ nI i ∧ nI i ≤ nI 5) = decide (3 ≤ i ∧ i ≤ 5) := by
        rw [decide_eq_decide, nI_leI (by omega) (by omega), nI_leI (by omega) (by omega)]
      by_cases h35 : 3 ≤ i ∧ i ≤ 5
      · have e4 : odK4 T sz i (odK3 T sz b i (tkK T sz K)) = kNi T sz (odK3 T sz b i (tkK T sz K)) (nI 0) (nI 7) := if_pos h35
        rw [if_neg (show ¬ 5 < i by omega), if_pos h35.1, if_pos h35.2] at p116
        refine q_iload_n (pc' := 93) dX11_readOrder_92 rfl rfl (q_iconst (pc' := 94) _ dX11_readOrder_93 rfl kk_iconst_3 (q_iconst (pc' := 95) _ dX11_readOrder_94 rfl kk_iconst_5 (q_cSi (pc' := 98) dX11_readOrder_95 rfl ml_RX11_89 ys_X11_isIn (by decide) (rn_X11_isIn) rfl rfl (Nat.le_of_ble_eq_true rfl) (Nat.le_refl _) (q_ifb_eq (pc' := 101) (pt := 116) dX11_readOrder_98 rfl rfl (fun h9 => Bool.noConfusion (Eq.trans (Eq.symm (hin.trans (decide_eq_true h35))) h9)) (fun _ => (q_aload_n (pc' := 102) dX11_readOrder_101 rfl rfl (q_getR (pc' := 105) dX11_readOrder_102 rfl fr_RX11_63 ⟨by omega, rfl⟩ rfl (wM_42 hM) (by decide) (q_iload_n (pc' := 106) dX11_readOrder_105 rfl rfl (q_iconst (pc' := 107) _ dX11_readOrder_106 rfl kk_iconst_2 (q_iadd (pc' := 108) dX11_readOrder_107 rfl (q_aload_n (pc' := 109) dX11_readOrder_108 rfl rfl (q_iconst (pc' := 110) _ dX11_readOrder_109 rfl kk_iconst_0 (q_bipush (pc' := 112) _ dX11_readOrder_110 rfl kk_bipush_7 (q_tVi (pc' := 115) dX11_readOrder_112 rfl ml_RX11_221 yv_X11_numberIn (by decide) (rt_X11_numberIn hM h1 hk3) ⟨by omega, rfl⟩ rfl rfl (Nat.le_of_ble_eq_true rfl) (Nat.le_refl _) (fun x2 I2 J2 R2 ⟨r2, h2, f2, eR⟩ => ?_)))))))))))))))
        rw [eR, r2]
        have hO2 := mOr_2 (x := lD (odV (odK3 T sz b i (tkK T sz K)) + 1)) (mOr_rf f2 hO1)
        rw [odV_i]
        refine q_iast (pc' := 116) (4 * n + 2) dX11_readOrder_115 rfl (by first | exact ⟨by omega, rfl⟩ | exact okaS hi hz (by decide) rfl | assumption) (by (first | (simp only [nI_add, pk_mul]; done) | (simp only [nI_add, pk_mul]; exact nI_e (by omega)) | exact nI_e (by omega))) (by omega) ?_
        refine p116 _ _ ?_ hO2
        rw [e4]
        exact mRd_ar (by decide) (by decide) h2
      · have e4 : odK4 T sz i (odK3 T sz b i (tkK T sz K)) = odK3 T sz b i (tkK T sz K) := if_neg h35
        have ee : (if 5 < i then (-1 : Int32) else lD (if 3 ≤ i then (if i ≤ 5 then odV (odK3 T sz b i (tkK T sz K)) + 1 else odV (tkK T sz K) + 1) else 0)) = -1 := by
          by_cases h7 : 5 < i
          · rw [if_pos h7]
          · rw [if_neg h7, if_neg (by omega)]; rfl
        rw [ee, e4] at p116
        refine q_iload_n (pc' := 93) dX11_readOrder_92 rfl rfl (q_iconst (pc' := 94) _ dX11_readOrder_93 rfl kk_iconst_3 (q_iconst (pc' := 95) _ dX11_readOrder_94 rfl kk_iconst_5 (q_cSi (pc' := 98) dX11_readOrder_95 rfl ml_RX11_89 ys_X11_isIn (by decide) (rn_X11_isIn) rfl rfl (Nat.le_of_ble_eq_true rfl) (Nat.le_refl _) (q_ifb_eq (pc' := 101) (pt := 116) dX11_readOrder_98 rfl rfl (fun _ => ?_) (fun h9 => Bool.noConfusion (Eq.trans (Eq.symm (hin.trans (decide_eq_false h35))) h9))))))
        exact p116 I1 J1 h1 hO1
    have p67 : ∀ I1 J1, mRd I1 J1 T sz (tkK T sz K) → mOr I J n (nI i) (-1) (-1) (nI 0) I1 J1 → Wq dd_X11_readOrder (mj_mk w l 472 Y) Q 67 [some (.ref 452), some (.int (nI i)), some (.int (nI (4 * n)))] [] (472, I1, J1, R) := by
      intro I1 J1 h1 hO1
      have g : tkK T sz K 8 = 0 := tk8.trans h0
      by_cases h6 : i < 6
      · have e3 : odK3 T sz b i (tkK T sz K) = kKd T sz b (tkK T sz K) := if_pos h6
        rw [if_pos h6, e3] at p92
        refine q_iload_n (pc' := 68) dX11_readOrder_67 rfl rfl (q_bipush (pc' := 70) _ dX11_readOrder_68 rfl kk_bipush_6 (q_icmp_ge (pc' := 73) (pt := 92) dX11_readOrder_70 rfl rfl (fun h9 => absurd h9 (Int32.not_le.mpr (nI_lt h6 (by omega)))) (fun _ => (q_aload_n (pc' := 74) dX11_readOrder_73 rfl rfl (q_cVi (pc' := 77) dX11_readOrder_74 rfl ml_RX11_182 yv_X11_isGood (by decide) (rn_good h1 hkt) ⟨by omega, rfl⟩ rfl rfl (Nat.le_of_ble_eq_true rfl) (Nat.le_refl _) (q_ifb_eq (pc' := 80) (pt := 92) dX11_readOrder_77 rfl rfl (fun h9 => Bool.noConfusion (Eq.trans (Eq.symm (beq_iff_eq.mpr g)) h9)) (fun _ => (q_aload_n (pc' := 81) dX11_readOrder_80 rfl rfl (q_getR (pc' := 84) dX11_readOrder_81 rfl fr_RX11_63 ⟨by omega, rfl⟩ rfl (wM_42 hM) (by decide) (q_iload_n (pc' := 85) dX11_readOrder_84 rfl rfl (q_iconst (pc' := 86) _ dX11_readOrder_85 rfl kk_iconst_1 (q_iadd (pc' := 87) dX11_readOrder_86 rfl (q_aload_n (pc' := 88) dX11_readOrder_87 rfl rfl (q_tVi (pc' := 91) dX11_readOrder_88 rfl ml_RX11_445 yv_X11_knownDevice (by decide) (rt_X11_knownDevice hM (mB_or hO1 hb) hB hN (mN_or hO1 hn) h1 hkt) ⟨by omega, rfl⟩ rfl rfl (Nat.le_of_ble_eq_true rfl) (Nat.le_refl _) (fun x2 I2 J2 R2 ⟨r2, h2, f2, eR⟩ => ?_)))))))))))))))
        rw [eR, r2, oR_lD]
        have hO2 := mOr_1 (x := lD (oR (dLast b (kWd (tkK T sz K)) (b 0 2)))) (mOr_rf f2 hO1)
        refine q_iast (pc' := 92) (4 * n + 1) dX11_readOrder_91 rfl (by first | exact ⟨by omega, rfl⟩ | exact okaS hi hz (by decide) rfl | assumption) (by (first | (simp only [nI_add, pk_mul]; done) | (simp only [nI_add, pk_mul]; exact nI_e (by omega)) | exact nI_e (by omega))) (by omega) ?_
        exact p92 _ _ (mRd_ar (by decide) (by decide) h2) hO2
      · have e3 : odK3 T sz b i (tkK T sz K) = tkK T sz K := if_neg h6
        rw [if_neg h6, e3] at p92
        refine q_iload_n (pc' := 68) dX11_readOrder_67 rfl rfl (q_bipush (pc' := 70) _ dX11_readOrder_68 rfl kk_bipush_6 (q_icmp_ge (pc' := 73) (pt := 92) dX11_readOrder_70 rfl rfl (fun _ => ?_) (fun h9 => absurd (nI_le (by omega) (by omega)) h9)))
        exact p92 I1 J1 h1 hO1
    refine q_aload_n (pc' := 1) dX11_readOrder_0 rfl rfl (q_cVi (pc' := 4) dX11_readOrder_1 rfl ml_RX11_171 yv_X11_orderHere (by decide) (rn_X11_orderHere h hk) ⟨by omega, rfl⟩ rfl rfl (Nat.le_of_ble_eq_true rfl) (Nat.le_refl _) (q_ist_1 (pc' := 5) dX11_readOrder_4 rfl (by decide) rfl (q_iload_n (pc' := 6) dX11_readOrder_5 rfl rfl (q_iconst (pc' := 7) _ dX11_readOrder_6 rfl kk_iconst_m1 (q_icmp_ne (pc' := 10) (pt := 15) dX11_readOrder_7 rfl rfl (fun _ => (q_aload_n (pc' := 16) dX11_readOrder_15 rfl rfl (q_cVi (pc' := 19) dX11_readOrder_16 rfl ml_RX11_182 yv_X11_isGood (by decide) (rn_good h hk) ⟨by omega, rfl⟩ rfl rfl (Nat.le_of_ble_eq_true rfl) (Nat.le_refl _) (q_ifb_eq (pc' := 22) (pt := 26) dX11_readOrder_19 rfl rfl (fun h9 => Bool.noConfusion (Eq.trans (Eq.symm (beq_iff_eq.mpr h0)) h9)) (fun _ => (q_aload_n (pc' := 23) dX11_readOrder_22 rfl rfl (q_tVv (pc' := 26) dX11_readOrder_23 rfl ml_RX11_186 yv_X11_goOn (by decide) (rt_X11_goOn hM h hk.1) ⟨by omega, rfl⟩ rfl rfl (Nat.le_of_ble_eq_true rfl) (Nat.le_refl _) (fun I1 J1 R1 ⟨h1, f1, eR⟩ => ?_)))))))) (fun h9 => absurd h9 (by rw [ho]; exact nI_m1 (by omega))))))))
    rw [eR, ho]
    have e43 : I1 452 43 = nI n := (f1.2.1 43 (by decide)).trans hc
    refine q_iconst (pc' := 27) _ dX11_readOrder_26 rfl kk_iconst_4 (q_aload_n (pc' := 28) dX11_readOrder_27 rfl rfl (q_getIe (pc' := 31) dX11_readOrder_28 rfl fr_RX11_442 ⟨by omega, rfl⟩ rfl e43 (q_imul (pc' := 32) dX11_readOrder_31 rfl ?_)))
    refine q_top (y := nI (4 * n)) (pk_mul 4 n) ?_
    have h2 : mRd (mj_up (mj_up (mj_up (mj_up I1 468 (4 * n) (oI (some i))) 468 (4 * n + 1) (-1)) 468 (4 * n + 2) (-1)) 468 (4 * n + 3) (nI 0)) J1 T sz (tkK T sz K) := mRd_ar (by decide) (by decide) (mRd_ar (by decide) (by decide) (mRd_ar (by decide) (by decide) (mRd_ar (by decide) (by decide) h1)))
    have hO2 : mOr I J n (nI i) (-1) (-1) (nI 0) (mj_up (mj_up (mj_up (mj_up I1 468 (4 * n) (oI (some i))) 468 (4 * n + 1) (-1)) 468 (4 * n + 2) (-1)) 468 (4 * n + 3) (nI 0)) J1 := by
      refine ⟨⟨?_, ?_, ?_, mj_up_eq⟩, fun k hk => ?_, fun a q1 q2 => ?_, fun f hf => ?_, f1.2.2⟩
      · rw [mj_up_ne2 (by omega), mj_up_ne2 (by omega), mj_up_ne2 (by omega), mj_up_eq]; rfl
      · rw [mj_up_ne2 (by omega), mj_up_ne2 (by omega), mj_up_eq]
      · rw [mj_up_ne2 (by omega), mj_up_eq]
      · rw [mj_up_ne2 (by omega), mj_up_ne2 (by omega), mj_up_ne2 (by omega), mj_up_ne2 (by omega), f1.1 468 (by decide)]
      · rw [up_fI q2, up_fI q2, up_fI q2, up_fI q2]; exact f1.1 a q1
      · rw [mj_up_ne (by decide), mj_up_ne (by decide), mj_up_ne (by decide), mj_up_ne (by decide)]; exact f1.2.1 f hf
    refine q_ist_2 (pc' := 33) dX11_readOrder_32 rfl (by decide) rfl (q_aload_n (pc' := 34) dX11_readOrder_33 rfl rfl (q_getR (pc' := 37) dX11_readOrder_34 rfl fr_RX11_63 ⟨by omega, rfl⟩ rfl (wM_42 hM) (by decide) (q_iload_n (pc' := 38) dX11_readOrder_37 rfl rfl (q_iload_n (pc' := 39) dX11_readOrder_38 rfl rfl (q_iast (pc' := 40) (4 * n) dX11_readOrder_39 rfl (by first | exact ⟨by omega, rfl⟩ | exact okaS hi hz (by decide) rfl | assumption) (by (first | (simp only [nI_add, pk_mul]; done) | (simp only [nI_add, pk_mul]; exact nI_e (by omega)) | exact nI_e (by omega))) (by omega) (q_aload_n (pc' := 41) dX11_readOrder_40 rfl rfl (q_getR (pc' := 44) dX11_readOrder_41 rfl fr_RX11_63 ⟨by omega, rfl⟩ rfl (wM_42 hM) (by decide) (q_iload_n (pc' := 45) dX11_readOrder_44 rfl rfl (q_iconst (pc' := 46) _ dX11_readOrder_45 rfl kk_iconst_1 (q_iadd (pc' := 47) dX11_readOrder_46 rfl (q_iconst (pc' := 48) _ dX11_readOrder_47 rfl kk_iconst_m1 (q_iast (pc' := 49) (4 * n + 1) dX11_readOrder_48 rfl (by first | exact ⟨by omega, rfl⟩ | exact okaS hi hz (by decide) rfl | assumption) (by (first | (simp only [nI_add, pk_mul]; done) | (simp only [nI_add, pk_mul]; exact nI_e (by omega)) | exact nI_e (by omega))) (by omega) (q_aload_n (pc' := 50) dX11_readOrder_49 rfl rfl ?_)))))))))))))
    refine q_getR (pc' := 53) dX11_readOrder_50 rfl fr_RX11_63 ⟨by omega, rfl⟩ rfl (wM_42 hM) (by decide) (q_iload_n (pc' := 54) dX11_readOrder_53 rfl rfl (q_iconst (pc' := 55) _ dX11_readOrder_54 rfl kk_iconst_2 (q_iadd (pc' := 56) dX11_readOrder_55 rfl (q_iconst (pc' := 57) _ dX11_readOrder_56 rfl kk_iconst_m1 (q_iast (pc' := 58) (4 * n + 2) dX11_readOrder_57 rfl (by first | exact ⟨by omega, rfl⟩ | exact okaS hi hz (by decide) rfl | assumption) (by (first | (simp only [nI_add, pk_mul]; done) | (simp only [nI_add, pk_mul]; exact nI_e (by omega)) | exact nI_e (by omega))) (by omega) (q_aload_n (pc' := 59) dX11_readOrder_58 rfl rfl (q_getR (pc' := 62) dX11_readOrder_59 rfl fr_RX11_63 ⟨by omega, rfl⟩ rfl (wM_42 hM) (by decide) (q_iload_n (pc' := 63) dX11_readOrder_62 rfl rfl (q_iconst (pc' := 64) _ dX11_readOrder_63 rfl kk_iconst_3 (q_iadd (pc' := 65) dX11_readOrder_64 rfl (q_iconst (pc' := 66) _ dX11_readOrder_65 rfl kk_iconst_0 (q_iast (pc' := 67) (4 * n + 3) dX11_readOrder_66 rfl (by first | exact ⟨by omega, rfl⟩ | exact okaS hi hz (by decide) rfl | assumption) (by (first | (simp only [nI_add, pk_mul]; done) | (simp only [nI_add, pk_mul]; exact nI_e (by omega)) | exact nI_e (by omega))) (by omega) ?_))))))))))))
    exact p67 _ _ h2 hO2
end M42
