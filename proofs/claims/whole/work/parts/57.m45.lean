/-! ===== the reference: orders() ===== -/
/-- what orders() leaves as it was -/
def mQf (I : mj_M) (J : mj_J) (I' : mj_M) (J' : mj_J) : Prop := (∀ a, a ≠ 452 → a ≠ 464 → a ≠ 465 → a ≠ 466 → a ≠ 467 → a ≠ 468 → I' a = I a) ∧ (∀ f, 11 < f → f ≠ 40 → f ≠ 41 → f ≠ 43 → f ≠ 44 → I' 452 f = I 452 f) ∧ ∀ a f, ¬ (a = 452 ∧ f = 12) → J' a f = J a f
section M45
variable {w : mj_Wd} {l : Launch} {I : mj_M} {J : mj_J} {R : mj_R} {b A D O : St} {T : Nat → Nat} {sz t : Nat} {K : Nat → Nat} {ps : Nat → St} {n u : Nat}
theorem rt_X11_orders {V : St → Prop} (hM : mj_wM R) (hT : mTp I T t) (hb : mB I b) (hB : bOK b) (hN0 : bNm b) (hn : mN I J b) (hR : rR (I 464) A) (hV : oCl b V) (hA : V A) (hH : mH I ps n u) : RtI w l yX11_orders dd_X11_orders [.ref 452] (472, I, J, R) (fun x I' J' R' => (R' = R ∧ I' 452 1 = nI 0 ∧ I' 452 10 = nI ((kOrders T t b).1 8) ∧ I' 452 11 = (if (kOrders T t b).1 9 = 0 then -1 else nI ((kOrders T t b).1 9 - 1))) ∧ (((kOrders T t b).1 8 ≠ 0 ∧ x = -1 ∧ I' 452 44 = nI 0 ∧ mOf I J I' J') ∨ ((kOrders T t b).1 8 = 0 ∧ x = nI (aOrs b (kOrders T t b).2.2 (kOrders T t b).2.1 0 A).1 ∧ I' 452 44 = nI (aOrs b (kOrders T t b).2.2 (kOrders T t b).2.1 0 A).2.1 ∧ rR (I' 464) (aOrs b (kOrders T t b).2.2 (kOrders T t b).2.1 0 A).2.2 ∧ mH I' (if 0 < (aOrs b (kOrders T t b).2.2 (kOrders T t b).2.1 0 A).1 then hPush ps n A else ps) (if 0 < (aOrs b (kOrders T t b).2.2 (kOrders T t b).2.1 0 A).1 then hN n else n) (if 0 < (aOrs b (kOrders T t b).2.2 (kOrders T t b).2.1 0 A).1 then 0 else u) ∧ mQf I J I' J'))) := by
  refine rt_intro2 (L := [some (.ref 452), none]) ⟨by decide, rfl, (fun h => by cases h)⟩ (Nat.le_of_ble_eq_true rfl) rfl (fun Y Q hQ => ?_)
  refine w_ors Q Y hM hT hb hB hN0 hn (fun I1 J1 g q1 q10 q11 q44 f1 => ?_) (fun I1 J1 g q1 q10 q11 q44 f1 q43 hm hO ho => ?_)
  · exact hQ _ _ _ _ ⟨_, rfl, ⟨rfl, q1, q10, q11⟩, Or.inl ⟨g, rfl, q44, f1⟩⟩
  · have hR1 : rR (I1 464) A := by rw [f1.1 464 (by decide) (by decide)]; exact hR
    have hH1 : mH I1 ps n u := mH_of hH (f1.2.1 40 (by decide) (by decide) (by decide)) (f1.2.1 41 (by decide) (by decide) (by decide)) (f1.1 466 (by decide) (by decide))
    refine w_ors2 Q Y hM (mB_of f1 hb) hB hR1 hV hA hO hm ho q43 q44 hH1 (fun I2 r2 r44 rH rG => ?_)
    refine hQ _ _ _ _ ⟨_, rfl, ⟨rfl, ?_, ?_, ?_⟩, Or.inr ⟨g, rfl, r44, r2, rH, ?_, ?_, ?_⟩⟩
    · rw [rG.2 1 (by decide) (by decide), mj_up_ne2 (by decide)]; exact q1
    · rw [rG.2 10 (by decide) (by decide), mj_up_ne2 (by decide)]; exact q10
    · rw [rG.2 11 (by decide) (by decide), mj_up_ne2 (by decide)]; exact q11
    · exact fun a h1 h2 h3 h4 h5 h6 => by rw [rG.1 a h2 h3 h4 h5 h1, up_fI h1]; exact f1.1 a h1 h6
    · exact fun f h1 h2 h3 h4 h5 => by rw [rG.2 f h2 h3, mj_up_ne2 h5]; exact f1.2.1 f h1 h4 h5
    · exact f1.2.2
end M45
