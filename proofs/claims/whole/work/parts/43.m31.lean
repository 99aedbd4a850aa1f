/-! ===== the reference: names, sets ===== -/
abbrev RsL (w : mj_Wd) (l : Launch) (y : MethodName) (d : mj_D) (As : List Value) (h : mj_H) (P : Int64 → mj_M → Prop) : Prop := Rt w l y d As h (fun v I' J' R' => ∃ x, v = some (.long x) ∧ (J' = h.2.2.1 ∧ R' = h.2.2.2) ∧ P x I')
section QSL
variable {d : mj_D} {X : mj_X} {Q : Option Value → mj_H → Prop} {pc pc' : Nat} {L : List (Option Value)} {st st0 : List Value} {z : Nat} {I : mj_M} {J : mj_J} {R : mj_R}
theorem q_sVl {y : MethodName} {d' : mj_D} {idx a ci n : Nat} {As : List Value} {P : Int64 → mj_M → Prop} (hd : decode d.1 pc = .ok (.invokevirtual idx, 3)) (hp : pc + 3 = pc') (hm : Cond.methodLink d.2.1 idx y ∈ mj_T) (hy : mj_yV y d' ci n) (hlv : d'.2.2.2.2.1 < d.2.2.2.2.1) (hr : RsL X.1 X.2.2.1 y d' (.ref a :: As) (z, I, J, R) P) (ha : mj_ok z a ci) (hst : st0 = As.reverse ++ .ref a :: st) (hlen : As.length = n) (hw : (st.map fun v => v.category).sum ≤ 8) (hzf : z ≤ mj_zf X) (hn : ∀ x I', P x I' → Wq d X Q pc' L (.long x :: st) (z, I', J, R)) : Wq d X Q pc L st0 (z, I, J, R) :=
  q_tV hd hp hm hy hlv hr ha hst hlen hw hzf (fun v I' J' R' ⟨x, e, ⟨e1, e2⟩, hP⟩ => by subst e; cases e1; cases e2; exact hn x I' hP)
end QSL
/-- the reader after nameHere -/
def kNm (K : Nat → Nat) : Nat → Nat := if K 8 = 0 ∧ ¬ (K 5 = 1 ∧ K 7 ≤ 7 ∧ (ownW (K 12) || (ordN K).isSome) = false) then kW K 2 else K
theorem kOK_nm {sz : Nat} {K : Nat → Nat} (h : kOK sz K) : kOK sz (kNm K) := by
  unfold kNm
  split
  · exact kOK_w h (by decide)
  · exact h
section M31
variable {w : mj_Wd} {l : Launch} {I : mj_M} {J : mj_J} {R : mj_R} {b A : St} {T : Nat → Nat} {sz : Nat} {K : Nat → Nat}
theorem rs_X11_nameHere (h : mRd I J T sz K) (hk : kOK sz K) : RsL w l yX11_nameHere dd_X11_nameHere [.ref 452] (472, I, J, R) (fun r I' => r = (if K 8 = 0 then nJ (K 12) else nJ 0) ∧ mRd I' J T sz (kNm K) ∧ mRf I J I' J) := by
  have e8 := h.2.2.1 8 (by decide) (by decide)
  have e5 := h.2.2.1 5 (by decide) (by decide)
  have e7 := h.2.2.1 7 (by decide) (by decide)
  have e12 := h.2.2.2.2.1
  have b8 := hk.2.2.2.1
  have b5 := hk.2.1
  have b7 := hk.2.2.2.2.2.1
  have b800 := h.2.1
  refine rt_intro2 (L := [some (.ref 452)]) ⟨by decide, rfl, (fun h => by cases h)⟩ (Nat.le_of_ble_eq_true rfl) rfl (fun Y Q hQ => ?_)
  unfold kNm at hQ
  by_cases h0 : K 8 = 0
  · rw [if_pos h0] at hQ
    have bad : ¬ (K 5 = 1 ∧ K 7 ≤ 7 ∧ (ownW (K 12) || (ordN K).isSome) = false) → Wq dd_X11_nameHere (mj_mk w l 472 Y) Q 33 [some (.ref 452)] [] (472, I, J, R) := by
      intro hn
      rw [if_pos ⟨h0, hn⟩] at hQ
      refine q_aload_n (pc' := 34) dX11_nameHere_33 rfl rfl (q_iconst (pc' := 35) _ dX11_nameHere_34 rfl kk_iconst_2 (q_sVv (pc' := 38) dX11_nameHere_35 rfl ml_RX11_175 yv_X11_wrong (by decide) (rs_wrong (x := 2) h hk (by decide)) ⟨by omega, rfl⟩ rfl rfl (Nat.le_of_ble_eq_true rfl) (Nat.le_refl _) (fun I1 ⟨h1, f1⟩ => ?_)))
      exact q_aload_n (pc' := 39) dX11_nameHere_38 rfl rfl (q_getJ (pc' := 42) dX11_nameHere_39 rfl fr_RX11_106 ⟨by omega, rfl⟩ rfl (q_lret dX11_nameHere_42 rfl (hQ _ _ _ _ ⟨_, rfl, ⟨rfl, rfl⟩, e12, h1, f1⟩)))
    by_cases h1 : K 5 = 1
    · by_cases h2 : K 7 ≤ 7
      · by_cases h3 : (ownW (K 12) || (ordN K).isSome) = false
        · rw [if_neg (fun q => q.2 ⟨h1, h2, h3⟩)] at hQ
          refine q_aload_n (pc' := 1) dX11_nameHere_0 rfl rfl (q_getIe (pc' := 4) dX11_nameHere_1 rfl fr_RX11_126 ⟨by omega, rfl⟩ rfl e8 (q_if_le (pc' := 7) (pt := 9) dX11_nameHere_4 rfl rfl (fun _ => (q_aload_n (pc' := 10) dX11_nameHere_9 rfl rfl (q_getIe (pc' := 13) dX11_nameHere_10 rfl fr_RX11_116 ⟨by omega, rfl⟩ rfl e5 (q_iconst (pc' := 14) _ dX11_nameHere_13 rfl kk_iconst_1 (q_icmp_ne (pc' := 17) (pt := 33) dX11_nameHere_14 rfl rfl (fun h9 => absurd (congrArg nI h1) h9) (fun _ => (q_aload_n (pc' := 18) dX11_nameHere_17 rfl rfl (q_getIe (pc' := 21) dX11_nameHere_18 rfl fr_RX11_113 ⟨by omega, rfl⟩ rfl e7 (q_bipush (pc' := 23) _ dX11_nameHere_21 rfl kk_bipush_7 (q_icmp_gt (pc' := 26) (pt := 33) dX11_nameHere_23 rfl rfl (fun h9 => absurd h9 (Int32.not_lt.mpr (nI_le h2 (by omega)))) (fun _ => (q_aload_n (pc' := 27) dX11_nameHere_26 rfl rfl (q_cVi (pc' := 30) dX11_nameHere_27 rfl ml_RX11_189 yv_X11_isOwn (by decide) (rn_X11_isOwn h hk) ⟨by omega, rfl⟩ rfl rfl (Nat.le_of_ble_eq_true rfl) (Nat.le_refl _) (q_ifb_eq (pc' := 33) (pt := 38) dX11_nameHere_30 rfl rfl (fun _ => ?_) (fun h9 => Bool.noConfusion (Eq.trans (Eq.symm (h3)) h9)))))))))))))))) (fun h9 => absurd (by rw [h0]; decide) h9)))
          exact q_aload_n (pc' := 39) dX11_nameHere_38 rfl rfl (q_getJ (pc' := 42) dX11_nameHere_39 rfl fr_RX11_106 ⟨by omega, rfl⟩ rfl (q_lret dX11_nameHere_42 rfl (hQ _ _ _ _ ⟨_, rfl, ⟨rfl, rfl⟩, e12, h, mRf.rf⟩)))
        · have h4 : (ownW (K 12) || (ordN K).isSome) = true := by rw [Bool.not_eq_false] at h3; exact h3
          refine q_aload_n (pc' := 1) dX11_nameHere_0 rfl rfl (q_getIe (pc' := 4) dX11_nameHere_1 rfl fr_RX11_126 ⟨by omega, rfl⟩ rfl e8 (q_if_le (pc' := 7) (pt := 9) dX11_nameHere_4 rfl rfl (fun _ => (q_aload_n (pc' := 10) dX11_nameHere_9 rfl rfl (q_getIe (pc' := 13) dX11_nameHere_10 rfl fr_RX11_116 ⟨by omega, rfl⟩ rfl e5 (q_iconst (pc' := 14) _ dX11_nameHere_13 rfl kk_iconst_1 (q_icmp_ne (pc' := 17) (pt := 33) dX11_nameHere_14 rfl rfl (fun h9 => absurd (congrArg nI h1) h9) (fun _ => (q_aload_n (pc' := 18) dX11_nameHere_17 rfl rfl (q_getIe (pc' := 21) dX11_nameHere_18 rfl fr_RX11_113 ⟨by omega, rfl⟩ rfl e7 (q_bipush (pc' := 23) _ dX11_nameHere_21 rfl kk_bipush_7 (q_icmp_gt (pc' := 26) (pt := 33) dX11_nameHere_23 rfl rfl (fun h9 => absurd h9 (Int32.not_lt.mpr (nI_le h2 (by omega)))) (fun _ => (q_aload_n (pc' := 27) dX11_nameHere_26 rfl rfl (q_cVi (pc' := 30) dX11_nameHere_27 rfl ml_RX11_189 yv_X11_isOwn (by decide) (rn_X11_isOwn h hk) ⟨by omega, rfl⟩ rfl rfl (Nat.le_of_ble_eq_true rfl) (Nat.le_refl _) (q_ifb_eq (pc' := 33) (pt := 38) dX11_nameHere_30 rfl rfl (fun h9 => Bool.noConfusion (Eq.trans (Eq.symm (h4)) h9)) (fun _ => ?_))))))))))))))) (fun h9 => absurd (by rw [h0]; decide) h9)))
          exact bad (fun q => h3 q.2.2)
      · refine q_aload_n (pc' := 1) dX11_nameHere_0 rfl rfl (q_getIe (pc' := 4) dX11_nameHere_1 rfl fr_RX11_126 ⟨by omega, rfl⟩ rfl e8 (q_if_le (pc' := 7) (pt := 9) dX11_nameHere_4 rfl rfl (fun _ => (q_aload_n (pc' := 10) dX11_nameHere_9 rfl rfl (q_getIe (pc' := 13) dX11_nameHere_10 rfl fr_RX11_116 ⟨by omega, rfl⟩ rfl e5 (q_iconst (pc' := 14) _ dX11_nameHere_13 rfl kk_iconst_1 (q_icmp_ne (pc' := 17) (pt := 33) dX11_nameHere_14 rfl rfl (fun h9 => absurd (congrArg nI h1) h9) (fun _ => (q_aload_n (pc' := 18) dX11_nameHere_17 rfl rfl (q_getIe (pc' := 21) dX11_nameHere_18 rfl fr_RX11_113 ⟨by omega, rfl⟩ rfl e7 (q_bipush (pc' := 23) _ dX11_nameHere_21 rfl kk_bipush_7 (q_icmp_gt (pc' := 26) (pt := 33) dX11_nameHere_23 rfl rfl (fun _ => ?_) (fun h9 => absurd (nI_lt (by omega) (by omega)) h9))))))))))) (fun h9 => absurd (by rw [h0]; decide) h9)))
        exact bad (fun q => h2 q.2.1)
    · refine q_aload_n (pc' := 1) dX11_nameHere_0 rfl rfl (q_getIe (pc' := 4) dX11_nameHere_1 rfl fr_RX11_126 ⟨by omega, rfl⟩ rfl e8 (q_if_le (pc' := 7) (pt := 9) dX11_nameHere_4 rfl rfl (fun _ => (q_aload_n (pc' := 10) dX11_nameHere_9 rfl rfl (q_getIe (pc' := 13) dX11_nameHere_10 rfl fr_RX11_116 ⟨by omega, rfl⟩ rfl e5 (q_iconst (pc' := 14) _ dX11_nameHere_13 rfl kk_iconst_1 (q_icmp_ne (pc' := 17) (pt := 33) dX11_nameHere_14 rfl rfl (fun _ => ?_) (fun h9 => absurd h9 (nI_ne h1 (by omega) (by omega)))))))) (fun h9 => absurd (by rw [h0]; decide) h9)))
      exact bad (fun q => h1 q.1)
  · rw [if_neg h0, if_neg (fun q => h0 q.1)] at hQ
    exact q_aload_n (pc' := 1) dX11_nameHere_0 rfl rfl (q_getIe (pc' := 4) dX11_nameHere_1 rfl fr_RX11_126 ⟨by omega, rfl⟩ rfl e8 (q_if_le (pc' := 7) (pt := 9) dX11_nameHere_4 rfl rfl (fun h9 => absurd h9 (Int32.not_le.mpr (nI_lt (a := 0) (by omega) (by omega)))) (fun _ => (q_lconst (pc' := 8) 0 dX11_nameHere_7 rfl rfl (q_lret dX11_nameHere_8 rfl (hQ _ _ _ _ ⟨_, rfl, ⟨rfl, rfl⟩, rfl, h, mRf.rf⟩))))))
end M31
