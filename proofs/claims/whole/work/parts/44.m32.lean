/-! ===== the reference: a text begins, ends ===== -/
def kZ : Nat → Nat := fun _ => 0
theorem tk_z {T : Nat → Nat} {sz : Nat} {K : Nat → Nat} (h3 : K 3 = 0) (h8 : K 8 = 0) (h9 : K 9 = 0) (f : Nat) (hf : f = 3 ∨ f = 4 ∨ f = 5 ∨ f = 6 ∨ f = 7 ∨ f = 8 ∨ f = 9 ∨ f = 12) : tkK T sz kZ f = tkK T sz K f := by
  have hp : ∀ a s v lt wd en, tkP kZ a s v lt wd en f = tkP K a s v lt wd en f := fun a s v lt wd en => by
    rcases hf with rfl | rfl | rfl | rfl | rfl | rfl | rfl | rfl
    · rfl
    · rfl
    · rfl
    · rfl
    · rfl
    · exact h8.symm
    · exact h9.symm
    · rfl
  unfold tkK
  rw [h3, show kZ 3 = 0 from rfl]
  split
  · exact hp _ _ _ _ _ _
  · split
    · exact hp _ _ _ _ _ _
    · split
      · exact hp _ _ _ _ _ _
      · exact hp _ _ _ _ _ _
theorem nJ_self (x : Int64) : nJ x.toBitVec.toNat = x := by
  apply Int64.toBitVec_inj.mp
  show BitVec.ofNat 64 _ = _
  exact BitVec.eq_of_toNat_eq (by rw [BitVec.toNat_ofNat, Nat.mod_eq_of_lt (BitVec.isLt _)])
/-- the TOKEN that a text begins with -/
def tk0 (T : Nat → Nat) (t : Nat) : Nat → Nat := tkK T t kZ
theorem kOK_0 {T : Nat → Nat} {t : Nat} : kOK t (tk0 T t) := kOK_tk0 (Nat.zero_le _) (Nat.le_of_ble_eq_true rfl)
section M32
variable {w : mj_Wd} {l : Launch} {I : mj_M} {J : mj_J} {R : mj_R} {b A : St} {T : Nat → Nat} {sz t : Nat} {K : Nat → Nat}
theorem rt_X11_beginsText (hM : mj_wM R) (hT : mTp I T t) : RtV w l yX11_beginsText dd_X11_beginsText [.ref 452] (472, I, J, R) (fun I' J' R' => mRd I' J' T t (tk0 T t) ∧ I' 452 1 = nI 0 ∧ (∀ a, a ≠ 452 → I' a = I a) ∧ (∀ f, 9 < f → I' 452 f = I 452 f) ∧ (∀ a f, ¬ (a = 452 ∧ f = 12) → J' a f = J a f) ∧ R' = R) := by
  refine rt_intro2 (L := [some (.ref 452)]) ⟨by decide, rfl, (fun h => by cases h)⟩ (Nat.le_of_ble_eq_true rfl) rfl (fun Y Q hQ => ?_)
  refine q_aload_n (pc' := 1) dX11_beginsText_0 rfl rfl (q_aload_n (pc' := 2) dX11_beginsText_1 rfl rfl (q_getIe (pc' := 5) dX11_beginsText_2 rfl fr_RX11_82 ⟨by omega, rfl⟩ rfl hT.1 (q_putI (pc' := 8) dX11_beginsText_5 rfl fl_RX11_96 ⟨by omega, rfl⟩ rfl (q_aload_n (pc' := 9) dX11_beginsText_8 rfl rfl (q_iconst (pc' := 10) _ dX11_beginsText_9 rfl kk_iconst_0 (q_putI (pc' := 13) dX11_beginsText_10 rfl fl_RX11_82 ⟨by omega, rfl⟩ rfl (q_aload_n (pc' := 14) dX11_beginsText_13 rfl rfl (q_iconst (pc' := 15) _ dX11_beginsText_14 rfl kk_iconst_0 (q_putI (pc' := 18) dX11_beginsText_15 rfl fl_RX11_93 ⟨by omega, rfl⟩ rfl (q_aload_n (pc' := 19) dX11_beginsText_18 rfl rfl (q_iconst (pc' := 20) _ dX11_beginsText_19 rfl kk_iconst_0 (q_putI (pc' := 23) dX11_beginsText_20 rfl fl_RX11_126 ⟨by omega, rfl⟩ rfl (q_aload_n (pc' := 24) dX11_beginsText_23 rfl rfl ?_)))))))))))))
  refine q_iconst (pc' := 25) _ dX11_beginsText_24 rfl kk_iconst_m1 (q_putI (pc' := 28) dX11_beginsText_25 rfl fl_RX11_13 ⟨by omega, rfl⟩ rfl ?_)
  have h0 : mRd (mj_up (mj_up (mj_up (mj_up (mj_up I 452 2 (nI t)) 452 1 (nI 0)) 452 3 (nI 0)) 452 8 (nI 0)) 452 9 (-1)) J T t (fun f => if f = 3 ∨ f = 8 ∨ f = 9 then 0 else if f = 12 then (J 452 12).toBitVec.toNat else (I 452 f).toBitVec.toNat) := by
    refine ⟨by rw [mj_up_ne2 (by decide), mj_up_ne2 (by decide), mj_up_ne2 (by decide), mj_up_ne2 (by decide), mj_up_eq], hT.2.1, fun f g3 g9 => ?_, ?_, ?_, fun k hk => ?_⟩
    · have hc : f = 3 ∨ f = 4 ∨ f = 5 ∨ f = 6 ∨ f = 7 ∨ f = 8 := by omega
      rcases hc with rfl | rfl | rfl | rfl | rfl | rfl
      · rw [mj_up_ne2 (by decide), mj_up_ne2 (by decide), mj_up_eq]; rfl
      · rw [mj_up_ne2 (by decide), mj_up_ne2 (by decide), mj_up_ne2 (by decide), mj_up_ne2 (by decide), mj_up_ne2 (by decide)]; exact (nI_self _).symm
      · rw [mj_up_ne2 (by decide), mj_up_ne2 (by decide), mj_up_ne2 (by decide), mj_up_ne2 (by decide), mj_up_ne2 (by decide)]; exact (nI_self _).symm
      · rw [mj_up_ne2 (by decide), mj_up_ne2 (by decide), mj_up_ne2 (by decide), mj_up_ne2 (by decide), mj_up_ne2 (by decide)]; exact (nI_self _).symm
      · rw [mj_up_ne2 (by decide), mj_up_ne2 (by decide), mj_up_ne2 (by decide), mj_up_ne2 (by decide), mj_up_ne2 (by decide)]; exact (nI_self _).symm
      · rw [mj_up_ne2 (by decide), mj_up_eq]; rfl
    · rw [mj_up_eq]; rfl
    · exact (nJ_self _).symm
    · rw [mj_up_ne (by decide), mj_up_ne (by decide), mj_up_ne (by decide), mj_up_ne (by decide), mj_up_ne (by decide)]; exact hT.2.2 k hk
  have f0 : ∀ a, a ≠ 452 → mj_up (mj_up (mj_up (mj_up (mj_up I 452 2 (nI t)) 452 1 (nI 0)) 452 3 (nI 0)) 452 8 (nI 0)) 452 9 (-1) a = I a := fun a ha => by rw [up_fI ha, up_fI ha, up_fI ha, up_fI ha, up_fI ha]
  have f1 : ∀ f, 9 < f → mj_up (mj_up (mj_up (mj_up (mj_up I 452 2 (nI t)) 452 1 (nI 0)) 452 3 (nI 0)) 452 8 (nI 0)) 452 9 (-1) 452 f = I 452 f := fun f hf => by rw [mj_up_ne2 (by omega), mj_up_ne2 (by omega), mj_up_ne2 (by omega), mj_up_ne2 (by omega), mj_up_ne2 (by omega)]
  have f2 : mj_up (mj_up (mj_up (mj_up (mj_up I 452 2 (nI t)) 452 1 (nI 0)) 452 3 (nI 0)) 452 8 (nI 0)) 452 9 (-1) 452 1 = nI 0 := by rw [mj_up_ne2 (by decide), mj_up_ne2 (by decide), mj_up_ne2 (by decide), mj_up_eq]
  generalize mj_up (mj_up (mj_up (mj_up (mj_up I 452 2 (nI t)) 452 1 (nI 0)) 452 3 (nI 0)) 452 8 (nI 0)) 452 9 (-1) = I1 at h0 f0 f1 f2 ⊢
  refine q_aload_n (pc' := 29) dX11_beginsText_28 rfl rfl (q_tVv (pc' := 32) dX11_beginsText_29 rfl ml_RX11_186 yv_X11_goOn (by decide) (rt_X11_goOn hM h0 (Nat.zero_le _)) ⟨by omega, rfl⟩ rfl rfl (Nat.le_of_ble_eq_true rfl) (Nat.le_refl _) (fun I2 J2 R2 ⟨h2, g2, rfl⟩ => ?_))
  have hz := tk_z (T := T) (sz := t) (K := fun f => if f = 3 ∨ f = 8 ∨ f = 9 then 0 else if f = 12 then (J 452 12).toBitVec.toNat else (I 452 f).toBitVec.toNat) rfl rfl rfl
  exact q_vret dX11_beginsText_32 rfl (hQ _ _ _ _ ⟨rfl, mRd_of h2 (hz 3 (by decide)) (hz 4 (by decide)) (hz 5 (by decide)) (hz 6 (by decide)) (hz 7 (by decide)) (hz 8 (by decide)) (hz 9 (by decide)) (hz 12 (by decide)), (g2.2.1 1 (by decide)).trans f2, fun a ha => (g2.1 a ha).trans (f0 a ha), fun f hf => (g2.2.1 f (Or.inr hf)).trans (f1 f hf), g2.2.2, rfl⟩)
theorem rs_X11_endsText (h : mRd I J T sz K) (hk : kOK sz K) : RsI w l yX11_endsText dd_X11_endsText [.ref 452] (472, I, J, R) (fun x I' => x = bI (K 8 == 0) ∧ I' = mj_up (mj_up I 452 10 (nI (K 8))) 452 11 (if K 9 = 0 then -1 else nI (K 9 - 1))) := by
  have e8 := h.2.2.1 8 (by decide) (by decide)
  have b8 := hk.2.2.2.1
  have e9 : mj_up I 452 10 (nI (K 8)) 452 9 = (if K 9 = 0 then -1 else nI (K 9 - 1)) := by rw [mj_up_ne2 (by decide)]; exact h.2.2.2.1
  have e8' : mj_up (mj_up I 452 10 (nI (K 8))) 452 11 (if K 9 = 0 then -1 else nI (K 9 - 1)) 452 8 = nI (K 8) := by rw [mj_up_ne2 (by decide), mj_up_ne2 (by decide)]; exact e8
  refine rt_intro2 (L := [some (.ref 452)]) ⟨by decide, rfl, (fun h => by cases h)⟩ (Nat.le_of_ble_eq_true rfl) rfl (fun Y Q hQ => ?_)
  exact q_aload_n (pc' := 1) dX11_endsText_0 rfl rfl (q_aload_n (pc' := 2) dX11_endsText_1 rfl rfl (q_getIe (pc' := 5) dX11_endsText_2 rfl fr_RX11_126 ⟨by omega, rfl⟩ rfl e8 (q_putI (pc' := 8) dX11_endsText_5 rfl fl_RX11_268 ⟨by omega, rfl⟩ rfl (q_aload_n (pc' := 9) dX11_endsText_8 rfl rfl (q_aload_n (pc' := 10) dX11_endsText_9 rfl rfl (q_getIe (pc' := 13) dX11_endsText_10 rfl fr_RX11_13 ⟨by omega, rfl⟩ rfl e9 (q_putI (pc' := 16) dX11_endsText_13 rfl fl_RX11_17 ⟨by omega, rfl⟩ rfl (q_aload_n (pc' := 17) dX11_endsText_16 rfl rfl (q_getIe (pc' := 20) dX11_endsText_17 rfl fr_RX11_126 ⟨by omega, rfl⟩ rfl e8' (q_bl_if_ne (p4 := 28) dX11_endsText_20 dX11_endsText_23 dX11_endsText_24 dX11_endsText_27 rfl rfl rfl rfl rfl (q_zret dX11_endsText_28 rfl (by first | exact Or.inl rfl | exact Or.inr rfl | exact bI_01 _) (by rw [← nI_dec (by omega) (by omega)] at hQ; exact hQ _ _ _ _ ⟨_, rfl, ⟨rfl, rfl⟩, rfl, rfl⟩))))))))))))
theorem rs_X11_stopsOr {d : Nat} (hM : mj_wM R) (hb : mB I b) (hk : bOK b) (hR : rR (I 464) A) (hA : aOK A) (hd : d < 10) : RsI w l yX11_stopsOr dd_X11_stopsOr [.ref 452, .int (nI d)] (472, I, J, R) (fun x I' => x = nI (if A 7 d = 1 then 0 else 4) ∧ rR (I' 464) (if A 7 d = 1 then aStop b A d else A) ∧ mF I I') := by
  refine rt_intro2 (L := [some (.ref 452), some (.int (nI d)), none]) ⟨by decide, rfl, (fun h => by cases h)⟩ (Nat.le_of_ble_eq_true rfl) rfl (fun Y Q hQ => ?_)
  by_cases hs : A 7 d = 1
  · rw [if_pos hs, if_pos hs] at hQ
    refine q_aload_n (pc' := 1) dX11_stopsOr_0 rfl rfl (q_iload_n (pc' := 2) dX11_stopsOr_1 rfl rfl (q_cVi (pc' := 5) dX11_stopsOr_2 rfl ml_RX11_283 yv_X11_isStarted (by decide) (rn_X11_isStarted hM hR hA hd) ⟨by omega, rfl⟩ rfl rfl (Nat.le_of_ble_eq_true rfl) (Nat.le_refl _) (q_ifb_ne (pc' := 8) (pt := 10) dX11_stopsOr_5 rfl rfl (fun _ => (q_aload_n (pc' := 11) dX11_stopsOr_10 rfl rfl (q_iload_n (pc' := 12) dX11_stopsOr_11 rfl rfl (q_sVi (pc' := 15) dX11_stopsOr_12 rfl ml_RX11_417 yv_X11_stops (by decide) (rs_X11_stops hM hb hk hR hA hd) ⟨by omega, rfl⟩ rfl rfl (Nat.le_of_ble_eq_true rfl) (Nat.le_refl _) (fun x2 I2 ⟨t1, t2, t3⟩ => ?_))))) (fun h9 => Bool.noConfusion (Eq.trans (Eq.symm (beq_iff_eq.mpr hs)) h9)))))
    exact q_ist_2 (pc' := 16) dX11_stopsOr_15 rfl (by decide) rfl (q_iconst (pc' := 17) _ dX11_stopsOr_16 rfl kk_iconst_0 (q_iret dX11_stopsOr_17 rfl (hQ _ _ _ _ ⟨_, rfl, ⟨rfl, rfl⟩, rfl, t2, t3⟩)))
  · rw [if_neg hs, if_neg hs] at hQ
    exact q_aload_n (pc' := 1) dX11_stopsOr_0 rfl rfl (q_iload_n (pc' := 2) dX11_stopsOr_1 rfl rfl (q_cVi (pc' := 5) dX11_stopsOr_2 rfl ml_RX11_283 yv_X11_isStarted (by decide) (rn_X11_isStarted hM hR hA hd) ⟨by omega, rfl⟩ rfl rfl (Nat.le_of_ble_eq_true rfl) (Nat.le_refl _) (q_ifb_ne (pc' := 8) (pt := 10) dX11_stopsOr_5 rfl rfl (fun h9 => Bool.noConfusion (Eq.trans (Eq.symm (beq_eq_false_iff_ne.mpr hs)) h9)) (fun _ => (q_iconst (pc' := 9) _ dX11_stopsOr_8 rfl kk_iconst_4 (q_iret dX11_stopsOr_9 rfl (hQ _ _ _ _ ⟨_, rfl, ⟨rfl, rfl⟩, rfl, hR, mF.rf⟩)))))))
end M32
