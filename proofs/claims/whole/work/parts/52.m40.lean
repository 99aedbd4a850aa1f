/-! ===== the reference: a new board ===== -/
/-- the state that a board begins with -/
def aNew (D : St) : St := fun i k => if i = 0 then (if (D 0 3).testBit (k % 32) = true then 1 else 0) else if i = 9 then (if k < D 0 0 ∧ (D 0 4).testBit k = false then 1 else 0) else 0
def g3 (D : St) (n t : Nat) : Int32 := if t < n then nI (if (D 0 3).testBit (t % 32) = true then 1 else 0) else if 256 ≤ t ∧ t < 256 + n then -1 else if 512 ≤ t ∧ t < 512 + n then -1 else nI 0
def g4 (D : St) (n t : Nat) : Int32 := if 1024 ≤ t ∧ t < 1024 + n then -1 else g3 D 256 t
def g5 (D : St) (n t : Nat) : Int32 := if 1554 ≤ t ∧ t < 1554 + n then nI (if (D 0 4).testBit (t - 1554) = false then 1 else 0) else g4 D 320 t
theorem aNew_z {D : St} {i k : Nat} (h0 : i ≠ 0) (h1 : i ≠ 9) : aNew D i k = 0 := by unfold aNew; rw [if_neg h0, if_neg h1]
theorem g5_r {D : St} (h8 : D 0 0 ≤ 8) : ∀ t, t < 1775 → g5 D (D 0 0) t = cE (aNew D) t := by
  intro t ht
  have z4 : 1554 ≤ t → g4 D 320 t = nI 0 := fun h => by
    unfold g4 g3
    rw [if_neg (by omega), if_neg (by omega), if_neg (by omega), if_neg (by omega)]
  have z0 : 768 ≤ t → (t < 1024 ∨ 1344 ≤ t) → t < 1554 → g5 D (D 0 0) t = nI 0 := fun h1 h2 h3 => by
    unfold g5 g4 g3
    rw [if_neg (by omega), if_neg (by omega), if_neg (by omega), if_neg (by omega), if_neg (by omega)]
  have zm : 1024 ≤ t → t < 1344 → g5 D (D 0 0) t = -1 := fun h1 h2 => by
    unfold g5 g4
    rw [if_neg (by omega), if_pos (by omega)]

  by_cases r0 : t < 256
  · rw [cE_vs r0]
    unfold g5 g4 g3 aNew
    rw [if_neg (by omega), if_neg (by omega), if_pos r0, if_pos rfl]
  by_cases r256 : t < 512
  · obtain ⟨k, rfl⟩ : ∃ k, t = 256 + k := ⟨t - 256, by omega⟩
    rw [cE_d (by omega)]
    rw [aNew_z (by decide) (by decide)]
    unfold g5 g4 g3
    rw [if_neg (by omega), if_neg (by omega), if_neg (by omega), if_pos (by omega)]
    rfl
  by_cases r512 : t < 768
  · obtain ⟨k, rfl⟩ : ∃ k, t = 512 + k := ⟨t - 512, by omega⟩
    rw [cE_l (by omega)]
    rw [aNew_z (by decide) (by decide)]
    unfold g5 g4 g3
    rw [if_neg (by omega), if_neg (by omega), if_neg (by omega), if_neg (by omega), if_pos (by omega)]
    rfl
  by_cases r768 : t < 1024
  · obtain ⟨k, rfl⟩ : ∃ k, t = 768 + k := ⟨t - 768, by omega⟩
    rw [cE_pd (by omega)]
    rw [aNew_z (by decide) (by decide)]
    exact z0 (by omega) (by omega) (by omega)
  by_cases r1024 : t < 1104
  · obtain ⟨k, rfl⟩ : ∃ k, t = 1024 + k := ⟨t - 1024, by omega⟩
    rw [cE_hc (by omega)]
    rw [aNew_z (by decide) (by decide), zm (by omega) (by omega)]
    rfl
  by_cases r1104 : t < 1184
  · obtain ⟨k, rfl⟩ : ∃ k, t = 1104 + k := ⟨t - 1104, by omega⟩
    rw [cE_hv (by omega)]
    rw [aNew_z (by decide) (by decide), zm (by omega) (by omega)]
    rfl
  by_cases r1184 : t < 1264
  · obtain ⟨k, rfl⟩ : ∃ k, t = 1184 + k := ⟨t - 1184, by omega⟩
    rw [cE_oc (by omega)]
    rw [aNew_z (by decide) (by decide), zm (by omega) (by omega)]
    rfl
  by_cases r1264 : t < 1344
  · obtain ⟨k, rfl⟩ : ∃ k, t = 1264 + k := ⟨t - 1264, by omega⟩
    rw [cE_ov (by omega)]
    rw [aNew_z (by decide) (by decide), zm (by omega) (by omega)]
    rfl
  by_cases r1344 : t < 1424
  · obtain ⟨k, rfl⟩ : ∃ k, t = 1344 + k := ⟨t - 1344, by omega⟩
    rw [cE_dr (by omega)]
    rw [aNew_z (by decide) (by decide)]
    exact z0 (by omega) (by omega) (by omega)
  by_cases r1424 : t < 1504
  · obtain ⟨k, rfl⟩ : ∃ k, t = 1424 + k := ⟨t - 1424, by omega⟩
    rw [cE_wa (by omega)]
    rw [aNew_z (by decide) (by decide)]
    exact z0 (by omega) (by omega) (by omega)
  by_cases r1504 : t < 1514
  · obtain ⟨k, rfl⟩ : ∃ k, t = 1504 + k := ⟨t - 1504, by omega⟩
    rw [cE_st (by omega)]
    rw [aNew_z (by decide) (by decide)]
    exact z0 (by omega) (by omega) (by omega)
  by_cases r1514 : t < 1524
  · obtain ⟨k, rfl⟩ : ∃ k, t = 1514 + k := ⟨t - 1514, by omega⟩
    rw [cE_pr (by omega)]
    rw [aNew_z (by decide) (by decide)]
    exact z0 (by omega) (by omega) (by omega)
  by_cases r1524 : t < 1534
  · obtain ⟨k, rfl⟩ : ∃ k, t = 1524 + k := ⟨t - 1524, by omega⟩
    rw [cE_de (by omega)]
    rw [aNew_z (by decide) (by decide)]
    exact z0 (by omega) (by omega) (by omega)
  by_cases r1534 : t < 1544
  · obtain ⟨k, rfl⟩ : ∃ k, t = 1534 + k := ⟨t - 1534, by omega⟩
    rw [cE_me (by omega)]
    rw [aNew_z (by decide) (by decide)]
    exact z0 (by omega) (by omega) (by omega)
  by_cases r1544 : t < 1554
  · obtain ⟨k, rfl⟩ : ∃ k, t = 1544 + k := ⟨t - 1544, by omega⟩
    rw [cE_dp (by omega)]
    rw [aNew_z (by decide) (by decide)]
    exact z0 (by omega) (by omega) (by omega)
  by_cases r1554 : t < 1562
  · obtain ⟨k, rfl⟩ : ∃ k, t = 1554 + k := ⟨t - 1554, by omega⟩
    rw [cE_on (by omega)]
    have e9 : aNew D 9 k = (if k < D 0 0 ∧ (D 0 4).testBit k = false then 1 else 0) := by unfold aNew; rw [if_neg (by decide), if_pos rfl]
    rw [e9]
    unfold g5
    by_cases hk : k < D 0 0
    · rw [if_pos (by omega), Nat.add_sub_cancel_left]
      by_cases hb : (D 0 4).testBit k = false
      · rw [if_pos hb, if_pos ⟨hk, hb⟩]
      · rw [if_neg hb, if_neg (fun q => hb q.2)]
    · rw [if_neg (by omega), if_neg (fun q => hk q.1)]
      exact z4 (by omega)
  by_cases r1562 : t < 1570
  · obtain ⟨k, rfl⟩ : ∃ k, t = 1562 + k := ⟨t - 1562, by omega⟩
    rw [cE_ha (by omega)]
    rw [aNew_z (by decide) (by decide)]
    unfold g5
    rw [if_neg (by omega)]
    exact z4 (by omega)
  by_cases r1570 : t < 1574
  · obtain ⟨k, rfl⟩ : ∃ k, t = 1570 + k := ⟨t - 1570, by omega⟩
    rw [cE_sc (by omega)]
    rw [aNew_z (by decide) (by decide)]
    unfold g5
    rw [if_neg (by omega)]
    exact z4 (by omega)
  by_cases r1574 : t = 1574
  · subst r1574
    rw [cE_lg, aNew_z (by decide) (by decide)]
    unfold g5
    rw [if_neg (by omega)]
    exact z4 (by omega)
  · unfold cE
    rw [if_neg (by omega), if_neg (by omega), aNew_z (show (14:Nat) ≠ 0 by decide) (by decide), if_neg (Nat.not_lt_zero _)]
    unfold g5
    rw [if_neg (by omega)]
    exact z4 (by omega)
theorem m32 : ∀ k, k < 256 → nI k - nI k / nI 32 * nI 32 = nI (k % 32) := by decide +kernel
section M40
variable {w : mj_Wd} {l : Launch} {I : mj_M} {J : mj_J} {R : mj_R} {b A D : St} {T : Nat → Nat} {sz t : Nat} {K : Nat → Nat}
/-- what a new board leaves as it was -/
def mNf (I : mj_M) (J : mj_J) (I' : mj_M) (J' : mj_J) : Prop := (∀ a, a ≠ 452 → a ≠ 457 → a ≠ 458 → a ≠ 459 → a ≠ 461 → a ≠ 464 → a ≠ 471 → I' a = I a) ∧ (∀ f, (f < 18 ∨ (22 < f ∧ f < 40) ∨ 44 < f ∨ f = 42 ∨ f = 43) → I' 452 f = I 452 f) ∧ ∀ a, a ≠ 463 → J' a = J a
/-- a new board has been taken over -/
def mNew (I : mj_M) (J : mj_J) (D : St) : Prop := mB I D ∧ mN I J D ∧ (I 452 20 = nI (D 0 3) ∧ I 452 21 = nI (D 0 4)) ∧ rR (I 464) (aNew D) ∧ (I 452 40 = nI 0 ∧ I 452 41 = nI 0 ∧ I 452 44 = nI 0) ∧ ∀ j, j < 2 → I 471 j = bI false
theorem rt_X11_takesOver (hM : mj_wM R) (hD : mD I J D) (hR : bRd D) : RtV w l yX11_takesOver dd_X11_takesOver [.ref 452] (472, I, J, R) (fun I' J' R' => mNew I' J' D ∧ mNf I J I' J' ∧ R' = R) := by
  have h10 := hR.1.2.2.1
  have h8 := hR.1.1.2
  have hkp : D 0 3 < 2 ^ 32 := Nat.lt_of_lt_of_le hR.2.2.1.1 (Nat.pow_le_pow_right (by decide) hR.1.2.1.2)
  have hof : D 0 4 < 2 ^ 32 := Nat.lt_of_lt_of_le hR.2.2.1.2 (Nat.pow_le_pow_right (by decide) (by omega))
  refine rt_intro2 (L := [some (.ref 452), none]) ⟨by decide, rfl, (fun h => by cases h)⟩ (Nat.le_of_ble_eq_true rfl) rfl (fun Y Q hQ => ?_)
  have a1 : mj_up I 452 18 (nI (D 0 0)) 452 14 = nI (D 0 1) := by rw [mj_up_ne2 (by decide)]; exact hD.1.2.1
  have a2 : mj_up (mj_up I 452 18 (nI (D 0 0))) 452 19 (nI (D 0 1)) 452 15 = nI (D 0 3) := by rw [mj_up_ne2 (by decide), mj_up_ne2 (by decide)]; exact hD.1.2.2.1
  have a3 : mj_up (mj_up (mj_up I 452 18 (nI (D 0 0))) 452 19 (nI (D 0 1))) 452 20 (nI (D 0 3)) 452 16 = nI (D 0 4) := by rw [mj_up_ne2 (by decide), mj_up_ne2 (by decide), mj_up_ne2 (by decide)]; exact hD.1.2.2.2.1
  have a4 : mj_up (mj_up (mj_up (mj_up I 452 18 (nI (D 0 0))) 452 19 (nI (D 0 1))) 452 20 (nI (D 0 3))) 452 21 (nI (D 0 4)) 452 17 = nI (D 0 2) := by rw [mj_up_ne2 (by decide), mj_up_ne2 (by decide), mj_up_ne2 (by decide), mj_up_ne2 (by decide)]; exact hD.1.2.2.2.2
  refine q_aload_n (pc' := 1) dX11_takesOver_0 rfl rfl (q_aload_n (pc' := 2) dX11_takesOver_1 rfl rfl (q_getIe (pc' := 5) dX11_takesOver_2 rfl fr_RX11_196 ⟨by omega, rfl⟩ rfl hD.1.1 (q_putI (pc' := 8) dX11_takesOver_5 rfl fl_RX11_240 ⟨by omega, rfl⟩ rfl (q_aload_n (pc' := 9) dX11_takesOver_8 rfl rfl (q_aload_n (pc' := 10) dX11_takesOver_9 rfl rfl (q_getIe (pc' := 13) dX11_takesOver_10 rfl fr_RX11_199 ⟨by omega, rfl⟩ rfl a1 (q_putI (pc' := 16) dX11_takesOver_13 rfl fl_RX11_243 ⟨by omega, rfl⟩ rfl (q_aload_n (pc' := 17) dX11_takesOver_16 rfl rfl (q_aload_n (pc' := 18) dX11_takesOver_17 rfl rfl (q_getIe (pc' := 21) dX11_takesOver_18 rfl fr_RX11_202 ⟨by omega, rfl⟩ rfl a2 (q_putI (pc' := 24) dX11_takesOver_21 rfl fl_RX11_246 ⟨by omega, rfl⟩ rfl (q_aload_n (pc' := 25) dX11_takesOver_24 rfl rfl (q_aload_n (pc' := 26) dX11_takesOver_25 rfl rfl ?_)))))))))))))
  refine q_getIe (pc' := 29) dX11_takesOver_26 rfl fr_RX11_205 ⟨by omega, rfl⟩ rfl a3 (q_putI (pc' := 32) dX11_takesOver_29 rfl fl_RX11_249 ⟨by omega, rfl⟩ rfl (q_aload_n (pc' := 33) dX11_takesOver_32 rfl rfl (q_aload_n (pc' := 34) dX11_takesOver_33 rfl rfl (q_getIe (pc' := 37) dX11_takesOver_34 rfl fr_RX11_208 ⟨by omega, rfl⟩ rfl a4 (q_putI (pc' := 40) dX11_takesOver_37 rfl fl_RX11_252 ⟨by omega, rfl⟩ rfl ?_)))))
  have f1 : (∀ a, a ≠ 452 → mj_up (mj_up (mj_up (mj_up (mj_up I 452 18 (nI (D 0 0))) 452 19 (nI (D 0 1))) 452 20 (nI (D 0 3))) 452 21 (nI (D 0 4))) 452 22 (nI (D 0 2)) a = I a) := fun a ha => by rw [up_fI ha, up_fI ha, up_fI ha, up_fI ha, up_fI ha]
  have f2 : (∀ f, (f < 18 ∨ 22 < f) → mj_up (mj_up (mj_up (mj_up (mj_up I 452 18 (nI (D 0 0))) 452 19 (nI (D 0 1))) 452 20 (nI (D 0 3))) 452 21 (nI (D 0 4))) 452 22 (nI (D 0 2)) 452 f = I 452 f) := fun f hf => by rw [mj_up_ne2 (by omega), mj_up_ne2 (by omega), mj_up_ne2 (by omega), mj_up_ne2 (by omega), mj_up_ne2 (by omega)]
  have e18 : mj_up (mj_up (mj_up (mj_up (mj_up I 452 18 (nI (D 0 0))) 452 19 (nI (D 0 1))) 452 20 (nI (D 0 3))) 452 21 (nI (D 0 4))) 452 22 (nI (D 0 2)) 452 18 = nI (D 0 0) := by rw [mj_up_ne2 (by decide), mj_up_ne2 (by decide), mj_up_ne2 (by decide), mj_up_ne2 (by decide), mj_up_eq]
  have e19 : mj_up (mj_up (mj_up (mj_up (mj_up I 452 18 (nI (D 0 0))) 452 19 (nI (D 0 1))) 452 20 (nI (D 0 3))) 452 21 (nI (D 0 4))) 452 22 (nI (D 0 2)) 452 19 = nI (D 0 1) := by rw [mj_up_ne2 (by decide), mj_up_ne2 (by decide), mj_up_ne2 (by decide), mj_up_eq]
  have e20 : mj_up (mj_up (mj_up (mj_up (mj_up I 452 18 (nI (D 0 0))) 452 19 (nI (D 0 1))) 452 20 (nI (D 0 3))) 452 21 (nI (D 0 4))) 452 22 (nI (D 0 2)) 452 20 = nI (D 0 3) := by rw [mj_up_ne2 (by decide), mj_up_ne2 (by decide), mj_up_eq]
  have e21 : mj_up (mj_up (mj_up (mj_up (mj_up I 452 18 (nI (D 0 0))) 452 19 (nI (D 0 1))) 452 20 (nI (D 0 3))) 452 21 (nI (D 0 4))) 452 22 (nI (D 0 2)) 452 21 = nI (D 0 4) := by rw [mj_up_ne2 (by decide), mj_up_eq]
  have e22 : mj_up (mj_up (mj_up (mj_up (mj_up I 452 18 (nI (D 0 0))) 452 19 (nI (D 0 1))) 452 20 (nI (D 0 3))) 452 21 (nI (D 0 4))) 452 22 (nI (D 0 2)) 452 22 = nI (D 0 2) := mj_up_eq
  generalize mj_up (mj_up (mj_up (mj_up (mj_up I 452 18 (nI (D 0 0))) 452 19 (nI (D 0 1))) 452 20 (nI (D 0 3))) 452 21 (nI (D 0 4))) 452 22 (nI (D 0 2)) = I1 at f1 f2 e18 e19 e20 e21 e22 ⊢
  have p271 : ∀ I2 J2 o1, (∀ a, a ≠ 464 → a ≠ 457 → a ≠ 458 → a ≠ 459 → a ≠ 461 → I2 a = I1 a) → (∀ a, a ≠ 463 → J2 a = J a) → (∀ d, d < D 0 2 → (I2 457 d = nI (D 1 d) ∧ I2 458 d = nI (D 2 d) ∧ I2 459 d = nI (D 3 d)) ∧ I2 461 d = nI (D 4 d) ∧ J2 463 d = nJ (D 5 d)) → rR (I2 464) (aNew D) → Wq dd_X11_takesOver (mj_mk w l 472 Y) Q 271 [some (.ref 452), o1] [] (472, I2, J2, R) := by
    intro I2 J2 o1 hf hj hd hr
    refine q_aload_n (pc' := 272) dX11_takesOver_271 rfl rfl (q_iconst (pc' := 273) _ dX11_takesOver_272 rfl kk_iconst_0 (q_putI (pc' := 276) dX11_takesOver_273 rfl fl_RX11_259 ⟨by omega, rfl⟩ rfl (q_aload_n (pc' := 277) dX11_takesOver_276 rfl rfl (q_iconst (pc' := 278) _ dX11_takesOver_277 rfl kk_iconst_0 (q_putI (pc' := 281) dX11_takesOver_278 rfl fl_RX11_262 ⟨by omega, rfl⟩ rfl (q_aload_n (pc' := 282) dX11_takesOver_281 rfl rfl (q_iconst (pc' := 283) _ dX11_takesOver_282 rfl kk_iconst_0 (q_putI (pc' := 286) dX11_takesOver_283 rfl fl_RX11_265 ⟨by omega, rfl⟩ rfl (q_iconst (pc' := 287) _ dX11_takesOver_286 rfl kk_iconst_0 (q_ist_1 (pc' := 288) dX11_takesOver_287 rfl (by decide) rfl ?_))))))))))
    refine q_iload_n (pc' := 289) dX11_takesOver_288 rfl rfl (q_iconst (pc' := 290) _ dX11_takesOver_289 rfl kk_iconst_2 (q_icmp_ge (pc' := 293) (pt := 306) dX11_takesOver_290 rfl rfl (fun h9 => absurd h9 (by (first | assumption | exact nI_le (by omega) (by omega) | exact nI_ge (by omega) (by omega) | exact nI_lt (by omega) (by omega) | exact nI_nlt (by omega) (by omega) | exact nI_ne (by omega) (by omega) (by omega) | exact nI_e (by omega) | decide))) (fun _ => (q_aload_n (pc' := 294) dX11_takesOver_293 rfl rfl (q_getR (pc' := 297) dX11_takesOver_294 rfl fr_RX11_72 ⟨by omega, rfl⟩ rfl (wM_50 hM) (by decide) (q_iload_n (pc' := 298) dX11_takesOver_297 rfl rfl (q_iconst (pc' := 299) _ dX11_takesOver_298 rfl kk_iconst_0 (q_zast (pc' := 300) _ dX11_takesOver_299 rfl (by first | exact ⟨by omega, rfl⟩ | exact okaS hi hz (by decide) rfl | assumption) rfl (by omega) (by first | exact Or.inl rfl | exact Or.inr rfl | exact bI_01 _) (q_inc_1 (pc' := 303) dX11_takesOver_300 rfl (by decide) rfl (q_goto (pc' := 288) dX11_takesOver_303 rfl ?_))))))))))
    refine q_iload_n (pc' := 289) dX11_takesOver_288 rfl rfl (q_iconst (pc' := 290) _ dX11_takesOver_289 rfl kk_iconst_2 (q_icmp_ge (pc' := 293) (pt := 306) dX11_takesOver_290 rfl rfl (fun h9 => absurd h9 (by (first | assumption | exact nI_le (by omega) (by omega) | exact nI_ge (by omega) (by omega) | exact nI_lt (by omega) (by omega) | exact nI_nlt (by omega) (by omega) | exact nI_ne (by omega) (by omega) (by omega) | exact nI_e (by omega) | decide))) (fun _ => (q_aload_n (pc' := 294) dX11_takesOver_293 rfl rfl (q_getR (pc' := 297) dX11_takesOver_294 rfl fr_RX11_72 ⟨by omega, rfl⟩ rfl (wM_50 hM) (by decide) (q_iload_n (pc' := 298) dX11_takesOver_297 rfl rfl (q_iconst (pc' := 299) _ dX11_takesOver_298 rfl kk_iconst_0 (q_zast (pc' := 300) _ dX11_takesOver_299 rfl (by first | exact ⟨by omega, rfl⟩ | exact okaS hi hz (by decide) rfl | assumption) rfl (by omega) (by first | exact Or.inl rfl | exact Or.inr rfl | exact bI_01 _) (q_inc_1 (pc' := 303) dX11_takesOver_300 rfl (by decide) rfl (q_goto (pc' := 288) dX11_takesOver_303 rfl ?_))))))))))
    refine q_iload_n (pc' := 289) dX11_takesOver_288 rfl rfl (q_iconst (pc' := 290) _ dX11_takesOver_289 rfl kk_iconst_2 (q_icmp_ge (pc' := 293) (pt := 306) dX11_takesOver_290 rfl rfl (fun _ => ?_) (fun h9 => absurd (by (first | assumption | exact nI_le (by omega) (by omega) | exact nI_ge (by omega) (by omega) | exact nI_lt (by omega) (by omega) | exact nI_nlt (by omega) (by omega) | exact nI_ne (by omega) (by omega) (by omega) | exact nI_e (by omega) | decide)) h9)))
    have q1 : ∀ a, a ≠ 471 → a ≠ 452 → mj_up (mj_up (mj_up (mj_up (mj_up I2 452 40 (nI 0)) 452 41 (nI 0)) 452 44 (nI 0)) 471 0 (nI 0)) 471 1 (nI 0) a = I2 a := fun a h1 h2 => by rw [up_fI h1, up_fI h1, up_fI h2, up_fI h2, up_fI h2]
    have q2 : ∀ f, mj_up (mj_up (mj_up (mj_up (mj_up I2 452 40 (nI 0)) 452 41 (nI 0)) 452 44 (nI 0)) 471 0 (nI 0)) 471 1 (nI 0) 452 f = mj_up (mj_up (mj_up I2 452 40 (nI 0)) 452 41 (nI 0)) 452 44 (nI 0) 452 f := fun f => by rw [mj_up_ne (by decide), mj_up_ne (by decide)]
    have q3 : ∀ f, f ≠ 40 → f ≠ 41 → f ≠ 44 → mj_up (mj_up (mj_up I2 452 40 (nI 0)) 452 41 (nI 0)) 452 44 (nI 0) 452 f = I1 452 f := fun f h1 h2 h3 => by rw [mj_up_ne2 h3, mj_up_ne2 h2, mj_up_ne2 h1, hf 452 (by decide) (by decide) (by decide) (by decide) (by decide)]
    have r40 : mj_up (mj_up (mj_up (mj_up (mj_up I2 452 40 (nI 0)) 452 41 (nI 0)) 452 44 (nI 0)) 471 0 (nI 0)) 471 1 (nI 0) 452 40 = nI 0 := by rw [q2, mj_up_ne2 (by decide), mj_up_ne2 (by decide), mj_up_eq]
    have r41 : mj_up (mj_up (mj_up (mj_up (mj_up I2 452 40 (nI 0)) 452 41 (nI 0)) 452 44 (nI 0)) 471 0 (nI 0)) 471 1 (nI 0) 452 41 = nI 0 := by rw [q2, mj_up_ne2 (by decide), mj_up_eq]
    have r44 : mj_up (mj_up (mj_up (mj_up (mj_up I2 452 40 (nI 0)) 452 41 (nI 0)) 452 44 (nI 0)) 471 0 (nI 0)) 471 1 (nI 0) 452 44 = nI 0 := by rw [q2, mj_up_eq]
    have rbx : ∀ j, j < 2 → mj_up (mj_up (mj_up (mj_up (mj_up I2 452 40 (nI 0)) 452 41 (nI 0)) 452 44 (nI 0)) 471 0 (nI 0)) 471 1 (nI 0) 471 j = bI false := fun j h => by
      have hc : j = 0 ∨ j = 1 := by omega
      rcases hc with rfl | rfl
      · rw [mj_up_ne2 (by decide), mj_up_eq]; rfl
      · rw [mj_up_eq]; rfl
    have q4 : ∀ f, f ≠ 40 → f ≠ 41 → f ≠ 44 → mj_up (mj_up (mj_up (mj_up (mj_up I2 452 40 (nI 0)) 452 41 (nI 0)) 452 44 (nI 0)) 471 0 (nI 0)) 471 1 (nI 0) 452 f = I1 452 f := fun f h1 h2 h3 => (q2 f).trans (q3 f h1 h2 h3)
    clear q2 q3
    generalize (mj_up (mj_up (mj_up (mj_up (mj_up I2 452 40 (nI 0)) 452 41 (nI 0)) 452 44 (nI 0)) 471 0 (nI 0)) 471 1 (nI 0)) = I3 at q1 q4 r40 r41 r44 rbx ⊢
    have hn1 : mB I3 D := ⟨(q4 18 (by decide) (by decide) (by decide)).trans e18, (q4 19 (by decide) (by decide) (by decide)).trans e19, (q4 22 (by decide) (by decide) (by decide)).trans e22, fun d h => by
      rw [q1 457 (by decide) (by decide), q1 458 (by decide) (by decide), q1 459 (by decide) (by decide)]; exact (hd d h).1⟩
    have hn2 : mN I3 J2 D := fun d h => by rw [q1 461 (by decide) (by decide)]; exact (hd d h).2
    have hn3 : rR (I3 464) (aNew D) := by rw [q1 464 (by decide) (by decide)]; exact hr
    have hn : mNew I3 J2 D := ⟨hn1, hn2, ⟨(q4 20 (by decide) (by decide) (by decide)).trans e20, (q4 21 (by decide) (by decide) (by decide)).trans e21⟩, hn3, ⟨r40, r41, r44⟩, rbx⟩
    have hm : mNf I J I3 J2 := ⟨fun a h1 h2 h3 h4 h5 h6 h7 => by rw [q1 a h7 h1, hf a h6 h2 h3 h4 h5]; exact f1 a h1, fun f h => by rw [q4 f (by omega) (by omega) (by omega)]; exact f2 f (by omega), hj⟩
    exact q_vret dX11_takesOver_306 rfl (hQ _ _ _ _ ⟨rfl, hn, hm, rfl⟩)
  have p226 : ∀ I2 J2 o1, (∀ a, a ≠ 464 → a ≠ 457 → a ≠ 458 → a ≠ 459 → a ≠ 461 → I2 a = I1 a) → (∀ a, a ≠ 463 → J2 a = J a) → (∀ d, d < D 0 2 → (I2 457 d = nI (D 1 d) ∧ I2 458 d = nI (D 2 d) ∧ I2 459 d = nI (D 3 d)) ∧ I2 461 d = nI (D 4 d) ∧ J2 463 d = nJ (D 5 d)) → (∀ t, t < 1775 → I2 464 t = g4 D 320 t) → Wq dd_X11_takesOver (mj_mk w l 472 Y) Q 226 [some (.ref 452), o1] [] (472, I2, J2, R) := by
    intro I2 J2 o1 hf hj hd hr
    have e18' : I2 452 18 = nI (D 0 0) := by rw [hf 452 (by decide) (by decide) (by decide) (by decide) (by decide)]; exact e18
    have e21' : I2 452 21 = nI (D 0 4) := by rw [hf 452 (by decide) (by decide) (by decide) (by decide) (by decide)]; exact e21
    have loop : ∀ m k I0, k + m = D 0 0 → mF I2 I0 → (∀ t, t < 1775 → I0 464 t = g5 D k t) → Wq dd_X11_takesOver (mj_mk w l 472 Y) Q 228 [some (.ref 452), some (.int (nI k))] [] (472, I0, J2, R) := by
      intro m
      induction m with
      | zero =>
        intro k I0 hkm hF hg
        have hkz : k = D 0 0 := by omega
        subst hkz
        have e18'' : I0 452 18 = nI (D 0 0) := by rw [hF 452 (by decide)]; exact e18'
        refine q_iload_n (pc' := 229) dX11_takesOver_228 rfl rfl (q_aload_n (pc' := 230) dX11_takesOver_229 rfl rfl (q_getIe (pc' := 233) dX11_takesOver_230 rfl fr_RX11_240 ⟨by omega, rfl⟩ rfl e18'' (q_icmp_ge (pc' := 236) (pt := 271) dX11_takesOver_233 rfl rfl (fun _ => ?_) (fun h9 => absurd (by (first | assumption | exact nI_le (by omega) (by omega) | exact nI_ge (by omega) (by omega) | exact nI_lt (by omega) (by omega) | exact nI_nlt (by omega) (by omega) | exact nI_ne (by omega) (by omega) (by omega) | exact nI_e (by omega) | decide)) h9))))
        refine p271 I0 J2 _ (fun a h1 h2 h3 h4 h5 => (hF a h1).trans (hf a h1 h2 h3 h4 h5)) hj (fun d h => ?_) (fun t ht => (hg t ht).trans (g5_r h8 t ht))
        rw [hF 457 (by decide), hF 458 (by decide), hF 459 (by decide), hF 461 (by decide)]
        exact hd d h
      | succ m ih =>
        intro k I0 hkm hF hg
        have e18'' : I0 452 18 = nI (D 0 0) := by rw [hF 452 (by decide)]; exact e18'
        have e21'' : I0 452 21 = nI (D 0 4) := by rw [hF 452 (by decide)]; exact e21'
        have next : ∀ x, nI (if (D 0 4).testBit k = false then 1 else 0) = x → Wq dd_X11_takesOver (mj_mk w l 472 Y) Q 228 [some (.ref 452), some (.int (nI (k + 1)))] [] (472, mj_up I0 464 (1554 + k) x, J2, R) := by
          intro x hx
          refine ih (k + 1) _ (by omega) (fun a ha => by rw [up_fI ha]; exact hF a ha) (fun t ht => ?_)
          by_cases e : t = 1554 + k
          · subst e
            rw [mj_up_eq]
            unfold g5
            rw [if_pos (by omega), Nat.add_sub_cancel_left]
            exact hx.symm
          · rw [mj_up_ne2 e, hg t ht]
            unfold g5
            by_cases h1 : 1554 ≤ t ∧ t < 1554 + k
            · rw [if_pos h1, if_pos (show 1554 ≤ t ∧ t < 1554 + (k + 1) by omega)]
            · rw [if_neg h1, if_neg (show ¬ (1554 ≤ t ∧ t < 1554 + (k + 1)) by omega)]
        have hb32 := bit32 hof (show k < 32 by omega)
        by_cases hb : (D 0 4).testBit k = false
        · rw [if_pos hb] at next
          refine q_iload_n (pc' := 229) dX11_takesOver_228 rfl rfl (q_aload_n (pc' := 230) dX11_takesOver_229 rfl rfl (q_getIe (pc' := 233) dX11_takesOver_230 rfl fr_RX11_240 ⟨by omega, rfl⟩ rfl e18'' (q_icmp_ge (pc' := 236) (pt := 271) dX11_takesOver_233 rfl rfl (fun h9 => absurd h9 (by (first | assumption | exact nI_le (by omega) (by omega) | exact nI_ge (by omega) (by omega) | exact nI_lt (by omega) (by omega) | exact nI_nlt (by omega) (by omega) | exact nI_ne (by omega) (by omega) (by omega) | exact nI_e (by omega) | decide))) (fun _ => (q_aload_n (pc' := 237) dX11_takesOver_236 rfl rfl (q_getR (pc' := 240) dX11_takesOver_237 rfl fr_RX11_51 ⟨by omega, rfl⟩ rfl (wM_36 hM) (by decide) (q_sipush (pc' := 243) _ dX11_takesOver_240 rfl kk_sipush_1554 (q_iload_n (pc' := 244) dX11_takesOver_243 rfl rfl (q_iadd (pc' := 245) dX11_takesOver_244 rfl (q_aload_n (pc' := 246) dX11_takesOver_245 rfl rfl (q_getIe (pc' := 249) dX11_takesOver_246 rfl fr_RX11_249 ⟨by omega, rfl⟩ rfl e21'' (q_iload_n (pc' := 250) dX11_takesOver_249 rfl rfl (q_cSi (pc' := 253) dX11_takesOver_250 rfl ml_RX11_192 ys_X11_isOf (by decide) (rn_X11_isOf) rfl rfl (Nat.le_of_ble_eq_true rfl) (Nat.le_refl _) (q_ifb_ne (pc' := 256) (pt := 260) dX11_takesOver_253 rfl rfl (fun h9 => Bool.noConfusion (Eq.trans (Eq.symm (hb32.trans hb)) h9)) (fun _ => ?_)))))))))))))))
          refine q_iconst (pc' := 257) _ dX11_takesOver_256 rfl kk_iconst_1 (q_goto (pc' := 261) dX11_takesOver_257 rfl (q_cSi (pc' := 264) dX11_takesOver_261 rfl ml_RX11_255 ys_X11_truth (by decide) (rn_X11_truth (b := true)) rfl rfl (Nat.le_of_ble_eq_true rfl) (Nat.le_refl _) (q_iast (pc' := 265) (1554 + k) dX11_takesOver_264 rfl (by first | exact ⟨by omega, rfl⟩ | exact okaS hi hz (by decide) rfl | assumption) (by (first | (simp only [nI_add, pk_mul]; done) | (simp only [nI_add, pk_mul]; exact nI_e (by omega)) | exact nI_e (by omega))) (by omega) (q_inc_1 (pc' := 268) dX11_takesOver_265 rfl (by decide) rfl (q_goto (pc' := 228) dX11_takesOver_268 rfl ?_)))))
          exact next _ rfl
        · rw [if_neg hb] at next
          have hb2 : (D 0 4).testBit k = true := by rw [Bool.not_eq_false] at hb; exact hb
          refine q_iload_n (pc' := 229) dX11_takesOver_228 rfl rfl (q_aload_n (pc' := 230) dX11_takesOver_229 rfl rfl (q_getIe (pc' := 233) dX11_takesOver_230 rfl fr_RX11_240 ⟨by omega, rfl⟩ rfl e18'' (q_icmp_ge (pc' := 236) (pt := 271) dX11_takesOver_233 rfl rfl (fun h9 => absurd h9 (by (first | assumption | exact nI_le (by omega) (by omega) | exact nI_ge (by omega) (by omega) | exact nI_lt (by omega) (by omega) | exact nI_nlt (by omega) (by omega) | exact nI_ne (by omega) (by omega) (by omega) | exact nI_e (by omega) | decide))) (fun _ => (q_aload_n (pc' := 237) dX11_takesOver_236 rfl rfl (q_getR (pc' := 240) dX11_takesOver_237 rfl fr_RX11_51 ⟨by omega, rfl⟩ rfl (wM_36 hM) (by decide) (q_sipush (pc' := 243) _ dX11_takesOver_240 rfl kk_sipush_1554 (q_iload_n (pc' := 244) dX11_takesOver_243 rfl rfl (q_iadd (pc' := 245) dX11_takesOver_244 rfl (q_aload_n (pc' := 246) dX11_takesOver_245 rfl rfl (q_getIe (pc' := 249) dX11_takesOver_246 rfl fr_RX11_249 ⟨by omega, rfl⟩ rfl e21'' (q_iload_n (pc' := 250) dX11_takesOver_249 rfl rfl (q_cSi (pc' := 253) dX11_takesOver_250 rfl ml_RX11_192 ys_X11_isOf (by decide) (rn_X11_isOf) rfl rfl (Nat.le_of_ble_eq_true rfl) (Nat.le_refl _) (q_ifb_ne (pc' := 256) (pt := 260) dX11_takesOver_253 rfl rfl (fun _ => ?_) (fun h9 => Bool.noConfusion (Eq.trans (Eq.symm (hb32.trans hb2)) h9))))))))))))))))
          refine q_iconst (pc' := 261) _ dX11_takesOver_260 rfl kk_iconst_0 (q_cSi (pc' := 264) dX11_takesOver_261 rfl ml_RX11_255 ys_X11_truth (by decide) (rn_X11_truth (b := false)) rfl rfl (Nat.le_of_ble_eq_true rfl) (Nat.le_refl _) (q_iast (pc' := 265) (1554 + k) dX11_takesOver_264 rfl (by first | exact ⟨by omega, rfl⟩ | exact okaS hi hz (by decide) rfl | assumption) (by (first | (simp only [nI_add, pk_mul]; done) | (simp only [nI_add, pk_mul]; exact nI_e (by omega)) | exact nI_e (by omega))) (by omega) (q_inc_1 (pc' := 268) dX11_takesOver_265 rfl (by decide) rfl (q_goto (pc' := 228) dX11_takesOver_268 rfl ?_))))
          exact next _ rfl
    refine q_iconst (pc' := 227) _ dX11_takesOver_226 rfl kk_iconst_0 (q_ist_1 (pc' := 228) dX11_takesOver_227 rfl (by decide) rfl ?_)
    refine loop (D 0 0) 0 I2 (by omega) mF.rf (fun t ht => ?_)
    rw [hr t ht]
    unfold g5
    rw [if_neg (by omega)]
  have p202 : ∀ I2 J2 o1, (∀ a, a ≠ 464 → a ≠ 457 → a ≠ 458 → a ≠ 459 → a ≠ 461 → I2 a = I1 a) → (∀ a, a ≠ 463 → J2 a = J a) → (∀ d, d < D 0 2 → (I2 457 d = nI (D 1 d) ∧ I2 458 d = nI (D 2 d) ∧ I2 459 d = nI (D 3 d)) ∧ I2 461 d = nI (D 4 d) ∧ J2 463 d = nJ (D 5 d)) → (∀ t, t < 1775 → I2 464 t = g3 D 256 t) → Wq dd_X11_takesOver (mj_mk w l 472 Y) Q 202 [some (.ref 452), o1] [] (472, I2, J2, R) := by
    intro I2 J2 o1 hf hj hd hr
    have loop : ∀ m k I0, k + m = 320 → mF I2 I0 → (∀ t, t < 1775 → I0 464 t = g4 D k t) → Wq dd_X11_takesOver (mj_mk w l 472 Y) Q 206 [some (.ref 452), some (.int (nI (1024 + k)))] [] (472, I0, J2, R) := by
      intro m
      induction m with
      | zero =>
        intro k I0 hkm hF hg
        have hkz : k = 320 := by omega
        subst hkz
        refine q_iload_n (pc' := 207) dX11_takesOver_206 rfl rfl (q_sipush (pc' := 210) _ dX11_takesOver_207 rfl kk_sipush_1344 (q_icmp_ge (pc' := 213) (pt := 226) dX11_takesOver_210 rfl rfl (fun _ => ?_) (fun h9 => absurd (by (first | assumption | exact nI_le (by omega) (by omega) | exact nI_ge (by omega) (by omega) | exact nI_lt (by omega) (by omega) | exact nI_nlt (by omega) (by omega) | exact nI_ne (by omega) (by omega) (by omega) | exact nI_e (by omega) | decide)) h9)))
        refine p226 I0 J2 _ (fun a h1 h2 h3 h4 h5 => (hF a h1).trans (hf a h1 h2 h3 h4 h5)) hj (fun d h => ?_) hg
        rw [hF 457 (by decide), hF 458 (by decide), hF 459 (by decide), hF 461 (by decide)]
        exact hd d h
      | succ m ih =>
        intro k I0 hkm hF hg
        refine q_iload_n (pc' := 207) dX11_takesOver_206 rfl rfl (q_sipush (pc' := 210) _ dX11_takesOver_207 rfl kk_sipush_1344 (q_icmp_ge (pc' := 213) (pt := 226) dX11_takesOver_210 rfl rfl (fun h9 => absurd h9 (by (first | assumption | exact nI_le (by omega) (by omega) | exact nI_ge (by omega) (by omega) | exact nI_lt (by omega) (by omega) | exact nI_nlt (by omega) (by omega) | exact nI_ne (by omega) (by omega) (by omega) | exact nI_e (by omega) | decide))) (fun _ => (q_aload_n (pc' := 214) dX11_takesOver_213 rfl rfl (q_getR (pc' := 217) dX11_takesOver_214 rfl fr_RX11_51 ⟨by omega, rfl⟩ rfl (wM_36 hM) (by decide) (q_iload_n (pc' := 218) dX11_takesOver_217 rfl rfl (q_iconst (pc' := 219) _ dX11_takesOver_218 rfl kk_iconst_m1 (q_iast (pc' := 220) (1024 + k) dX11_takesOver_219 rfl (by first | exact ⟨by omega, rfl⟩ | exact okaS hi hz (by decide) rfl | assumption) (by (first | (simp only [nI_add, pk_mul]; done) | (simp only [nI_add, pk_mul]; exact nI_e (by omega)) | exact nI_e (by omega))) (by omega) (q_inc_1 (pc' := 223) dX11_takesOver_220 rfl (by decide) rfl (q_goto (pc' := 206) dX11_takesOver_223 rfl ?_))))))))))
        refine ih (k + 1) _ (by omega) (fun a ha => by rw [up_fI ha]; exact hF a ha) (fun t ht => ?_)
        by_cases e : t = 1024 + k
        · subst e
          rw [mj_up_eq]
          unfold g4
          rw [if_pos (by omega)]
        · rw [mj_up_ne2 e, hg t ht]
          unfold g4
          by_cases h1 : 1024 ≤ t ∧ t < 1024 + k
          · rw [if_pos h1, if_pos (by omega)]
          · rw [if_neg h1, if_neg (by omega)]
    refine q_sipush (pc' := 205) _ dX11_takesOver_202 rfl kk_sipush_1024 (q_ist_1 (pc' := 206) dX11_takesOver_205 rfl (by decide) rfl ?_)
    refine loop 320 0 I2 (by omega) mF.rf (fun t ht => ?_)
    rw [hr t ht]
    unfold g4
    rw [if_neg (by omega)]
  have p138 : ∀ I2 J2 o1, (∀ a, a ≠ 464 → a ≠ 457 → a ≠ 458 → a ≠ 459 → a ≠ 461 → I2 a = I1 a) → (∀ a, a ≠ 463 → J2 a = J a) → (∀ d, d < D 0 2 → (I2 457 d = nI (D 1 d) ∧ I2 458 d = nI (D 2 d) ∧ I2 459 d = nI (D 3 d)) ∧ I2 461 d = nI (D 4 d) ∧ J2 463 d = nJ (D 5 d)) → (∀ t, t < 1775 → I2 464 t = nI 0) → Wq dd_X11_takesOver (mj_mk w l 472 Y) Q 138 [some (.ref 452), o1] [] (472, I2, J2, R) := by
    intro I2 J2 o1 hf hj hd hr
    have e20' : I2 452 20 = nI (D 0 3) := by rw [hf 452 (by decide) (by decide) (by decide) (by decide) (by decide)]; exact e20
    have loop : ∀ m k I0, k + m = 256 → mF I2 I0 → (∀ t, t < 1775 → I0 464 t = g3 D k t) → Wq dd_X11_takesOver (mj_mk w l 472 Y) Q 140 [some (.ref 452), some (.int (nI k))] [] (472, I0, J2, R) := by
      intro m
      induction m with
      | zero =>
        intro k I0 hkm hF hg
        have hkz : k = 256 := by omega
        subst hkz
        refine q_iload_n (pc' := 141) dX11_takesOver_140 rfl rfl (q_sipush (pc' := 144) _ dX11_takesOver_141 rfl kk_sipush_256 (q_icmp_ge (pc' := 147) (pt := 202) dX11_takesOver_144 rfl rfl (fun _ => ?_) (fun h9 => absurd (by (first | assumption | exact nI_le (by omega) (by omega) | exact nI_ge (by omega) (by omega) | exact nI_lt (by omega) (by omega) | exact nI_nlt (by omega) (by omega) | exact nI_ne (by omega) (by omega) (by omega) | exact nI_e (by omega) | decide)) h9)))
        refine p202 I0 J2 _ (fun a h1 h2 h3 h4 h5 => (hF a h1).trans (hf a h1 h2 h3 h4 h5)) hj (fun d h => ?_) hg
        rw [hF 457 (by decide), hF 458 (by decide), hF 459 (by decide), hF 461 (by decide)]
        exact hd d h
      | succ m ih =>
        intro k I0 hkm hF hg
        have e20'' : mj_up (mj_up I0 464 (256 + k) (-1)) 464 (512 + k) (-1) 452 20 = nI (D 0 3) := by rw [mj_up_ne (by decide), mj_up_ne (by decide), hF 452 (by decide)]; exact e20'
        have next : ∀ x, nI (if (D 0 3).testBit (k % 32) = true then 1 else 0) = x → Wq dd_X11_takesOver (mj_mk w l 472 Y) Q 140 [some (.ref 452), some (.int (nI (k + 1)))] [] (472, mj_up (mj_up (mj_up I0 464 (256 + k) (-1)) 464 (512 + k) (-1)) 464 (0 + k) x, J2, R) := by
          intro x hx
          refine ih (k + 1) _ (by omega) (fun a ha => by rw [up_fI ha, up_fI ha, up_fI ha]; exact hF a ha) (fun t ht => ?_)
          by_cases e : t = 0 + k
          · subst e
            rw [mj_up_eq]
            unfold g3
            rw [if_pos (by omega), Nat.zero_add]
            exact hx.symm
          · rw [mj_up_ne2 e]
            by_cases e2 : t = 512 + k
            · subst e2
              rw [mj_up_eq]
              unfold g3
              rw [if_neg (by omega), if_neg (by omega), if_pos (by omega)]
            · rw [mj_up_ne2 e2]
              by_cases e3 : t = 256 + k
              · subst e3
                rw [mj_up_eq]
                unfold g3
                rw [if_neg (by omega), if_pos (by omega)]
              · rw [mj_up_ne2 e3, hg t ht]
                unfold g3
                by_cases h1 : t < k
                · rw [if_pos h1, if_pos (show t < k + 1 by omega)]
                · rw [if_neg h1, if_neg (show ¬ t < k + 1 by omega)]
                  by_cases h2 : 256 ≤ t ∧ t < 256 + k
                  · rw [if_pos h2, if_pos (show 256 ≤ t ∧ t < 256 + (k + 1) by omega)]
                  · rw [if_neg h2, if_neg (show ¬ (256 ≤ t ∧ t < 256 + (k + 1)) by omega)]
                    by_cases h3 : 512 ≤ t ∧ t < 512 + k
                    · rw [if_pos h3, if_pos (show 512 ≤ t ∧ t < 512 + (k + 1) by omega)]
                    · rw [if_neg h3, if_neg (show ¬ (512 ≤ t ∧ t < 512 + (k + 1)) by omega)]
        have hb32 := bit32 hkp (show k % 32 < 32 by omega)
        refine q_iload_n (pc' := 141) dX11_takesOver_140 rfl rfl (q_sipush (pc' := 144) _ dX11_takesOver_141 rfl kk_sipush_256 (q_icmp_ge (pc' := 147) (pt := 202) dX11_takesOver_144 rfl rfl (fun h9 => absurd h9 (by (first | assumption | exact nI_le (by omega) (by omega) | exact nI_ge (by omega) (by omega) | exact nI_lt (by omega) (by omega) | exact nI_nlt (by omega) (by omega) | exact nI_ne (by omega) (by omega) (by omega) | exact nI_e (by omega) | decide))) (fun _ => (q_aload_n (pc' := 148) dX11_takesOver_147 rfl rfl (q_getR (pc' := 151) dX11_takesOver_148 rfl fr_RX11_51 ⟨by omega, rfl⟩ rfl (wM_36 hM) (by decide) (q_sipush (pc' := 154) _ dX11_takesOver_151 rfl kk_sipush_256 (q_iload_n (pc' := 155) dX11_takesOver_154 rfl rfl (q_iadd (pc' := 156) dX11_takesOver_155 rfl (q_iconst (pc' := 157) _ dX11_takesOver_156 rfl kk_iconst_m1 (q_iast (pc' := 158) (256 + k) dX11_takesOver_157 rfl (by first | exact ⟨by omega, rfl⟩ | exact okaS hi hz (by decide) rfl | assumption) (by (first | (simp only [nI_add, pk_mul]; done) | (simp only [nI_add, pk_mul]; exact nI_e (by omega)) | exact nI_e (by omega))) (by omega) (q_aload_n (pc' := 159) dX11_takesOver_158 rfl rfl (q_getR (pc' := 162) dX11_takesOver_159 rfl fr_RX11_51 ⟨by omega, rfl⟩ rfl (wM_36 hM) (by decide) (q_sipush (pc' := 165) _ dX11_takesOver_162 rfl kk_sipush_512 (q_iload_n (pc' := 166) dX11_takesOver_165 rfl rfl ?_))))))))))))))
        refine q_iadd (pc' := 167) dX11_takesOver_166 rfl (q_iconst (pc' := 168) _ dX11_takesOver_167 rfl kk_iconst_m1 (q_iast (pc' := 169) (512 + k) dX11_takesOver_168 rfl (by first | exact ⟨by omega, rfl⟩ | exact okaS hi hz (by decide) rfl | assumption) (by (first | (simp only [nI_add, pk_mul]; done) | (simp only [nI_add, pk_mul]; exact nI_e (by omega)) | exact nI_e (by omega))) (by omega) (q_aload_n (pc' := 170) dX11_takesOver_169 rfl rfl (q_getR (pc' := 173) dX11_takesOver_170 rfl fr_RX11_51 ⟨by omega, rfl⟩ rfl (wM_36 hM) (by decide) (q_iconst (pc' := 174) _ dX11_takesOver_173 rfl kk_iconst_0 (q_iload_n (pc' := 175) dX11_takesOver_174 rfl rfl (q_iadd (pc' := 176) dX11_takesOver_175 rfl (q_aload_n (pc' := 177) dX11_takesOver_176 rfl rfl (q_getIe (pc' := 180) dX11_takesOver_177 rfl fr_RX11_246 ⟨by omega, rfl⟩ rfl e20'' (q_iload_n (pc' := 181) dX11_takesOver_180 rfl rfl (q_bipush (pc' := 183) _ dX11_takesOver_181 rfl kk_bipush_32 (q_irem (pc' := 184) dX11_takesOver_183 rfl (by decide) ?_))))))))))))
        refine q_top (m32 k (by omega)) ?_
        by_cases hb : (D 0 3).testBit (k % 32) = true
        · rw [if_pos hb] at next
          refine q_cSi (pc' := 187) dX11_takesOver_184 rfl ml_RX11_192 ys_X11_isOf (by decide) (rn_X11_isOf) rfl rfl (Nat.le_of_ble_eq_true rfl) (Nat.le_refl _) (q_ifb_eq (pc' := 190) (pt := 194) dX11_takesOver_187 rfl rfl (fun h9 => Bool.noConfusion (Eq.trans (Eq.symm (hb32.trans hb)) h9)) (fun _ => (q_iconst (pc' := 191) _ dX11_takesOver_190 rfl kk_iconst_1 (q_goto (pc' := 195) dX11_takesOver_191 rfl (q_iast (pc' := 196) (0 + k) dX11_takesOver_195 rfl (by first | exact ⟨by omega, rfl⟩ | exact okaS hi hz (by decide) rfl | assumption) (by (first | (simp only [nI_add, pk_mul]; done) | (simp only [nI_add, pk_mul]; exact nI_e (by omega)) | exact nI_e (by omega))) (by omega) (q_inc_1 (pc' := 199) dX11_takesOver_196 rfl (by decide) rfl (q_goto (pc' := 140) dX11_takesOver_199 rfl ?_)))))))
          exact next _ rfl
        · rw [if_neg hb] at next
          refine q_cSi (pc' := 187) dX11_takesOver_184 rfl ml_RX11_192 ys_X11_isOf (by decide) (rn_X11_isOf) rfl rfl (Nat.le_of_ble_eq_true rfl) (Nat.le_refl _) (q_ifb_eq (pc' := 190) (pt := 194) dX11_takesOver_187 rfl rfl (fun _ => (q_iconst (pc' := 195) _ dX11_takesOver_194 rfl kk_iconst_0 (q_iast (pc' := 196) (0 + k) dX11_takesOver_195 rfl (by first | exact ⟨by omega, rfl⟩ | exact okaS hi hz (by decide) rfl | assumption) (by (first | (simp only [nI_add, pk_mul]; done) | (simp only [nI_add, pk_mul]; exact nI_e (by omega)) | exact nI_e (by omega))) (by omega) (q_inc_1 (pc' := 199) dX11_takesOver_196 rfl (by decide) rfl (q_goto (pc' := 140) dX11_takesOver_199 rfl ?_))))) (fun h9 => Bool.noConfusion (Eq.trans (Eq.symm (hb32.trans (Bool.eq_false_iff.mpr hb))) h9)))
          exact next _ rfl
    refine q_iconst (pc' := 139) _ dX11_takesOver_138 rfl kk_iconst_0 (q_ist_1 (pc' := 140) dX11_takesOver_139 rfl (by decide) rfl ?_)
    refine loop 256 0 I2 (by omega) mF.rf (fun t ht => ?_)
    rw [hr t ht]
    unfold g3
    rw [if_neg (by omega), if_neg (by omega), if_neg (by omega)]
  have p116 : ∀ I2 J2 o1, (∀ a, a ≠ 464 → a ≠ 457 → a ≠ 458 → a ≠ 459 → a ≠ 461 → I2 a = I1 a) → (∀ a, a ≠ 463 → J2 a = J a) → (∀ d, d < D 0 2 → (I2 457 d = nI (D 1 d) ∧ I2 458 d = nI (D 2 d) ∧ I2 459 d = nI (D 3 d)) ∧ I2 461 d = nI (D 4 d) ∧ J2 463 d = nJ (D 5 d)) → Wq dd_X11_takesOver (mj_mk w l 472 Y) Q 116 [some (.ref 452), o1] [] (472, I2, J2, R) := by
    intro I2 J2 o1 hf hj hd
    have loop : ∀ m k I0, k + m = 1775 → mF I2 I0 → (∀ t, t < k → I0 464 t = nI 0) → Wq dd_X11_takesOver (mj_mk w l 472 Y) Q 118 [some (.ref 452), some (.int (nI k))] [] (472, I0, J2, R) := by
      intro m
      induction m with
      | zero =>
        intro k I0 hkm hF hg
        have hkz : k = 1775 := by omega
        subst hkz
        refine q_iload_n (pc' := 119) dX11_takesOver_118 rfl rfl (q_sipush (pc' := 122) _ dX11_takesOver_119 rfl kk_sipush_1775 (q_icmp_ge (pc' := 125) (pt := 138) dX11_takesOver_122 rfl rfl (fun _ => ?_) (fun h9 => absurd (by (first | assumption | exact nI_le (by omega) (by omega) | exact nI_ge (by omega) (by omega) | exact nI_lt (by omega) (by omega) | exact nI_nlt (by omega) (by omega) | exact nI_ne (by omega) (by omega) (by omega) | exact nI_e (by omega) | decide)) h9)))
        refine p138 I0 J2 _ (fun a h1 h2 h3 h4 h5 => (hF a h1).trans (hf a h1 h2 h3 h4 h5)) hj (fun d h => ?_) hg
        rw [hF 457 (by decide), hF 458 (by decide), hF 459 (by decide), hF 461 (by decide)]
        exact hd d h
      | succ m ih =>
        intro k I0 hkm hF hg
        refine q_iload_n (pc' := 119) dX11_takesOver_118 rfl rfl (q_sipush (pc' := 122) _ dX11_takesOver_119 rfl kk_sipush_1775 (q_icmp_ge (pc' := 125) (pt := 138) dX11_takesOver_122 rfl rfl (fun h9 => absurd h9 (by (first | assumption | exact nI_le (by omega) (by omega) | exact nI_ge (by omega) (by omega) | exact nI_lt (by omega) (by omega) | exact nI_nlt (by omega) (by omega) | exact nI_ne (by omega) (by omega) (by omega) | exact nI_e (by omega) | decide))) (fun _ => (q_aload_n (pc' := 126) dX11_takesOver_125 rfl rfl (q_getR (pc' := 129) dX11_takesOver_126 rfl fr_RX11_51 ⟨by omega, rfl⟩ rfl (wM_36 hM) (by decide) (q_iload_n (pc' := 130) dX11_takesOver_129 rfl rfl (q_iconst (pc' := 131) _ dX11_takesOver_130 rfl kk_iconst_0 (q_iast (pc' := 132) (k) dX11_takesOver_131 rfl (by first | exact ⟨by omega, rfl⟩ | exact okaS hi hz (by decide) rfl | assumption) (by (first | (simp only [nI_add, pk_mul]; done) | (simp only [nI_add, pk_mul]; exact nI_e (by omega)) | exact nI_e (by omega))) (by omega) (q_inc_1 (pc' := 135) dX11_takesOver_132 rfl (by decide) rfl (q_goto (pc' := 118) dX11_takesOver_135 rfl ?_))))))))))
        refine ih (k + 1) _ (by omega) (fun a ha => by rw [up_fI ha]; exact hF a ha) (fun t ht => ?_)
        by_cases e : t = k
        · subst e; rw [mj_up_eq]
        · rw [mj_up_ne2 e]; exact hg t (by omega)
    refine q_iconst (pc' := 117) _ dX11_takesOver_116 rfl kk_iconst_0 (q_ist_1 (pc' := 118) dX11_takesOver_117 rfl (by decide) rfl ?_)
    exact loop 1775 0 I2 (by omega) mF.rf (fun t ht => absurd ht (Nat.not_lt_zero _))
  have loop : ∀ m k I0 J0, k + m = D 0 2 → (∀ a, a ≠ 457 → a ≠ 458 → a ≠ 459 → a ≠ 461 → I0 a = I1 a) → (∀ a, a ≠ 463 → J0 a = J a) → (∀ d, d < k → (I0 457 d = nI (D 1 d) ∧ I0 458 d = nI (D 2 d) ∧ I0 459 d = nI (D 3 d)) ∧ I0 461 d = nI (D 4 d) ∧ J0 463 d = nJ (D 5 d)) → Wq dd_X11_takesOver (mj_mk w l 472 Y) Q 42 [some (.ref 452), some (.int (nI k))] [] (472, I0, J0, R) := by
    intro m
    induction m with
    | zero =>
      intro k I0 J0 hkm hf hj hg
      have hkz : k = D 0 2 := by omega
      subst hkz
      have e22' : I0 452 22 = nI (D 0 2) := by rw [hf 452 (by decide) (by decide) (by decide) (by decide)]; exact e22
      refine q_iload_n (pc' := 43) dX11_takesOver_42 rfl rfl (q_aload_n (pc' := 44) dX11_takesOver_43 rfl rfl (q_getIe (pc' := 47) dX11_takesOver_44 rfl fr_RX11_252 ⟨by omega, rfl⟩ rfl e22' (q_icmp_ge (pc' := 50) (pt := 116) dX11_takesOver_47 rfl rfl (fun _ => ?_) (fun h9 => absurd (by (first | assumption | exact nI_le (by omega) (by omega) | exact nI_ge (by omega) (by omega) | exact nI_lt (by omega) (by omega) | exact nI_nlt (by omega) (by omega) | exact nI_ne (by omega) (by omega) (by omega) | exact nI_e (by omega) | decide)) h9))))
      exact p116 I0 J0 _ (fun a h1 h2 h3 h4 h5 => hf a h2 h3 h4 h5) hj hg
    | succ m ih =>
      intro k I0 J0 hkm hf hj hg
      have e22' : I0 452 22 = nI (D 0 2) := by rw [hf 452 (by decide) (by decide) (by decide) (by decide)]; exact e22
      have hk1 := hD.2.2 k (by omega)
      have r1 : I0 454 k = nI (D 1 k) := by rw [hf 454 (by decide) (by decide) (by decide) (by decide), f1 454 (by decide)]; exact hk1.1
      have r2 : mj_up I0 457 k (nI (D 1 k)) 455 k = nI (D 2 k) := by rw [mj_up_ne (by decide), hf 455 (by decide) (by decide) (by decide) (by decide), f1 455 (by decide)]; exact hk1.2.1
      have r3 : mj_up (mj_up I0 457 k (nI (D 1 k))) 458 k (nI (D 2 k)) 456 k = nI (D 3 k) := by rw [mj_up_ne (by decide), mj_up_ne (by decide), hf 456 (by decide) (by decide) (by decide) (by decide), f1 456 (by decide)]; exact hk1.2.2.1
      have r4 : J0 462 k = nJ (D 5 k) := by rw [hj 462 (by decide)]; exact hk1.2.2.2.2
      have r5 : mj_up (mj_up (mj_up I0 457 k (nI (D 1 k))) 458 k (nI (D 2 k))) 459 k (nI (D 3 k)) 460 k = nI (D 4 k) := by rw [mj_up_ne (by decide), mj_up_ne (by decide), mj_up_ne (by decide), hf 460 (by decide) (by decide) (by decide) (by decide), f1 460 (by decide)]; exact hk1.2.2.2.1
      refine q_iload_n (pc' := 43) dX11_takesOver_42 rfl rfl (q_aload_n (pc' := 44) dX11_takesOver_43 rfl rfl (q_getIe (pc' := 47) dX11_takesOver_44 rfl fr_RX11_252 ⟨by omega, rfl⟩ rfl e22' (q_icmp_ge (pc' := 50) (pt := 116) dX11_takesOver_47 rfl rfl (fun h9 => absurd h9 (by (first | assumption | exact nI_le (by omega) (by omega) | exact nI_ge (by omega) (by omega) | exact nI_lt (by omega) (by omega) | exact nI_nlt (by omega) (by omega) | exact nI_ne (by omega) (by omega) (by omega) | exact nI_e (by omega) | decide))) (fun _ => (q_aload_n (pc' := 51) dX11_takesOver_50 rfl rfl (q_getR (pc' := 54) dX11_takesOver_51 rfl fr_RX11_29 ⟨by omega, rfl⟩ rfl (wM_29 hM) (by decide) (q_iload_n (pc' := 55) dX11_takesOver_54 rfl rfl (q_aload_n (pc' := 56) dX11_takesOver_55 rfl rfl (q_getR (pc' := 59) dX11_takesOver_56 rfl fr_RX11_20 ⟨by omega, rfl⟩ rfl (wM_26 hM) (by decide) (q_iload_n (pc' := 60) dX11_takesOver_59 rfl rfl (q_ialde (pc' := 61) _ dX11_takesOver_60 rfl (by first | exact ⟨by omega, rfl⟩ | exact okaS hi hz (by decide) rfl | assumption) rfl (by omega) r1 (q_iast (pc' := 62) (k) dX11_takesOver_61 rfl (by first | exact ⟨by omega, rfl⟩ | exact okaS hi hz (by decide) rfl | assumption) (by (first | (simp only [nI_add, pk_mul]; done) | (simp only [nI_add, pk_mul]; exact nI_e (by omega)) | exact nI_e (by omega))) (by omega) (q_aload_n (pc' := 63) dX11_takesOver_62 rfl rfl (q_getR (pc' := 66) dX11_takesOver_63 rfl fr_RX11_32 ⟨by omega, rfl⟩ rfl (wM_30 hM) (by decide) ?_))))))))))))))
      refine q_iload_n (pc' := 67) dX11_takesOver_66 rfl rfl (q_aload_n (pc' := 68) dX11_takesOver_67 rfl rfl (q_getR (pc' := 71) dX11_takesOver_68 rfl fr_RX11_23 ⟨by omega, rfl⟩ rfl (wM_27 hM) (by decide) (q_iload_n (pc' := 72) dX11_takesOver_71 rfl rfl (q_ialde (pc' := 73) _ dX11_takesOver_72 rfl (by first | exact ⟨by omega, rfl⟩ | exact okaS hi hz (by decide) rfl | assumption) rfl (by omega) r2 (q_iast (pc' := 74) (k) dX11_takesOver_73 rfl (by first | exact ⟨by omega, rfl⟩ | exact okaS hi hz (by decide) rfl | assumption) (by (first | (simp only [nI_add, pk_mul]; done) | (simp only [nI_add, pk_mul]; exact nI_e (by omega)) | exact nI_e (by omega))) (by omega) (q_aload_n (pc' := 75) dX11_takesOver_74 rfl rfl (q_getR (pc' := 78) dX11_takesOver_75 rfl fr_RX11_35 ⟨by omega, rfl⟩ rfl (wM_31 hM) (by decide) (q_iload_n (pc' := 79) dX11_takesOver_78 rfl rfl (q_aload_n (pc' := 80) dX11_takesOver_79 rfl rfl (q_getR (pc' := 83) dX11_takesOver_80 rfl fr_RX11_26 ⟨by omega, rfl⟩ rfl (wM_28 hM) (by decide) (q_iload_n (pc' := 84) dX11_takesOver_83 rfl rfl (q_ialde (pc' := 85) _ dX11_takesOver_84 rfl (by first | exact ⟨by omega, rfl⟩ | exact okaS hi hz (by decide) rfl | assumption) rfl (by omega) r3 (q_iast (pc' := 86) (k) dX11_takesOver_85 rfl (by first | exact ⟨by omega, rfl⟩ | exact okaS hi hz (by decide) rfl | assumption) (by (first | (simp only [nI_add, pk_mul]; done) | (simp only [nI_add, pk_mul]; exact nI_e (by omega)) | exact nI_e (by omega))) (by omega) ?_)))))))))))))
      refine q_aload_n (pc' := 87) dX11_takesOver_86 rfl rfl (q_getR (pc' := 90) dX11_takesOver_87 rfl fr_RX11_48 ⟨by omega, rfl⟩ rfl (wM_35 hM) (by decide) (q_iload_n (pc' := 91) dX11_takesOver_90 rfl rfl (q_aload_n (pc' := 92) dX11_takesOver_91 rfl rfl (q_getR (pc' := 95) dX11_takesOver_92 rfl fr_RX11_44 ⟨by omega, rfl⟩ rfl (wM_34 hM) (by decide) (q_iload_n (pc' := 96) dX11_takesOver_95 rfl rfl (q_lalde (pc' := 97) _ dX11_takesOver_96 rfl (by first | exact ⟨by omega, rfl⟩ | exact okaS hi hz (by decide) rfl | assumption) rfl (by omega) r4 (q_last (pc' := 98) (k) dX11_takesOver_97 rfl (by first | exact ⟨by omega, rfl⟩ | exact okaS hi hz (by decide) rfl | assumption) (by (first | (simp only [nI_add, pk_mul]; done) | (simp only [nI_add, pk_mul]; exact nI_e (by omega)) | exact nI_e (by omega))) (by omega) (q_aload_n (pc' := 99) dX11_takesOver_98 rfl rfl (q_getR (pc' := 102) dX11_takesOver_99 rfl fr_RX11_41 ⟨by omega, rfl⟩ rfl (wM_33 hM) (by decide) (q_iload_n (pc' := 103) dX11_takesOver_102 rfl rfl (q_aload_n (pc' := 104) dX11_takesOver_103 rfl rfl (q_getR (pc' := 107) dX11_takesOver_104 rfl fr_RX11_38 ⟨by omega, rfl⟩ rfl (wM_32 hM) (by decide) (q_iload_n (pc' := 108) dX11_takesOver_107 rfl rfl ?_)))))))))))))
      refine q_ialde (pc' := 109) _ dX11_takesOver_108 rfl (by first | exact ⟨by omega, rfl⟩ | exact okaS hi hz (by decide) rfl | assumption) rfl (by omega) r5 (q_iast (pc' := 110) (k) dX11_takesOver_109 rfl (by first | exact ⟨by omega, rfl⟩ | exact okaS hi hz (by decide) rfl | assumption) (by (first | (simp only [nI_add, pk_mul]; done) | (simp only [nI_add, pk_mul]; exact nI_e (by omega)) | exact nI_e (by omega))) (by omega) (q_inc_1 (pc' := 113) dX11_takesOver_110 rfl (by decide) rfl (q_goto (pc' := 42) dX11_takesOver_113 rfl ?_)))
      refine ih (k + 1) _ _ (by omega) (fun a h1 h2 h3 h4 => by rw [up_fI h4, up_fI h3, up_fI h2, up_fI h1]; exact hf a h1 h2 h3 h4) (fun a ha => by funext f; rw [mj_up_ne ha, hj a ha]) (fun d hd => ?_)
      rw [mj_up_ne (show (457:Nat) ≠ 461 by decide), mj_up_ne (show (458:Nat) ≠ 461 by decide), mj_up_ne (show (459:Nat) ≠ 461 by decide), mj_up_ne (show (457:Nat) ≠ 459 by decide), mj_up_ne (show (458:Nat) ≠ 459 by decide), mj_up_ne (show (457:Nat) ≠ 458 by decide)]
      by_cases e : d = k
      · subst e
        rw [mj_up_eq, mj_up_eq, mj_up_eq, mj_up_eq, mj_up_eq]
        exact ⟨⟨rfl, rfl, rfl⟩, rfl, rfl⟩
      · simp only [mj_up_ne2 e]
        exact hg d (by omega)
  refine q_iconst (pc' := 41) _ dX11_takesOver_40 rfl kk_iconst_0 (q_ist_1 (pc' := 42) dX11_takesOver_41 rfl (by decide) rfl ?_)
  exact loop (D 0 2) 0 I1 J (by omega) (fun _ _ _ _ _ => rfl) (fun _ _ => rfl) (fun d hd => absurd hd (Nat.not_lt_zero _))
end M40
