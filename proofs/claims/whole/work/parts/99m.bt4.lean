/-! ===== the class: a BOARD read, the set of a DEVICE ===== -/
section BT4
variable {w : mj_Wd} {l : Launch} {I : mj_M} {J : mj_J} {R : mj_R} {T : Nat → Nat} {sz : Nat} {D : St}
theorem rn_X0_allCpusA {a n : Nat} (ha : mj_ok 472 a 0) (h0 : I a 0 = nI n) (h8 : n ≤ 8) : Rn w l yX0_allCpus dd_X0_allCpus [.ref a] (472, I, J, R) (some (.int (nI (2 ^ n - 1)))) (472, I, J, R) := by
  refine rn_intro2 (L := [some (.ref a)]) ⟨by decide, rfl, (fun h => by cases h)⟩ (Nat.le_refl _) (Nat.le_of_ble_eq_true rfl) rfl (fun Y Q hQ => ?_)
  refine q_iconst (pc' := 1) _ dX0_allCpus_0 rfl kk_iconst_1 (q_aload_n (pc' := 2) dX0_allCpus_1 rfl rfl (q_getIe (pc' := 5) dX0_allCpus_2 rfl fr_RX0_31 (by first | assumption | exact ⟨by omega, rfl⟩) rfl h0 (q_ishl (pc' := 6) dX0_allCpus_5 rfl (q_iconst (pc' := 7) _ dX0_allCpus_6 rfl kk_iconst_1 (q_isub (pc' := 8) dX0_allCpus_7 rfl ?_)))))
  refine q_top (sh_m1 h8) ?_
  exact q_iret dX0_allCpus_8 rfl hQ
/-- nothing changes but the reading and the set of one DEVICE -/
def mOn (d : Nat) (I : mj_M) (J : mj_J) (I' : mj_M) (J' : mj_J) : Prop := (∀ a, a ≠ 10 → a ≠ 22 → I' a = I a) ∧ (∀ k, k ≠ d → I' 22 k = I 22 k) ∧ (∀ f, f < 8 → I' 10 f = I 10 f) ∧ (∀ a f, ¬ (a = 10 ∧ f = 13) → J' a f = J a f)
theorem rt_X1_readOn {j d : Nat} (hV : mj_wV R) (hB : mj_wB R 17) (hkw : cKw J) (h800 : sz ≤ 800) (h : cRd I J T sz j) (h0 : I 17 0 = nI (D 0 0)) (hn : 1 ≤ D 0 0 ∧ D 0 0 ≤ 8) (hd : d < 10) (hf : I 10 16 = nI 0 ∧ I 10 17 = -1) : RtI w l yX1_readOn dd_X1_readOn [.ref 16, .int (nI d)] (472, I, J, R) (fun r I' J' R' => r = bI ((dvS T sz (D 0 0) (kSq T sz j)).2 8 == 0) ∧ (∃ j', cGo I' J' T sz j' (dvS T sz (D 0 0) (kSq T sz j)).2) ∧ ((dvS T sz (D 0 0) (kSq T sz j)).2 8 = 0 → I' 22 d = nI (dvS T sz (D 0 0) (kSq T sz j)).1) ∧ mOn d I J I' J' ∧ R' = R) := by
  have o17 : mj_ok 472 17 0 := ⟨by omega, rfl⟩
  have hc : cCur I J T (kSq T sz j) := by obtain ⟨m, _, _, hc, _⟩ := h; exact hc
  have h8 := (kSq_89 (T := T) (sz := sz) j).1
  have e10 : I 10 10 = lD (kwO T (kSq T sz j)) := hc.2.2.2.2
  have hle := kwO_le (T := T) (K := kSq T sz j)
  have hw := kSq_kw (T := T) (sz := sz) (i := j) 8 (by decide)
  have hi : kIs (kSq T sz j) 28526 = true ↔ kwO T (kSq T sz j) = 9 := by
    have e : kw8 8 = 28526 := rfl
    rw [hw, e]
    unfold kIs
    rw [h8]
    simp
  have e10' : mj_up I 22 d (nI (2 ^ D 0 0 - 1)) 10 10 = lD (kwO T (kSq T sz j)) := (mj_up_ne (by decide)).trans e10
  have hr0 : cRd (mj_up I 22 d (nI (2 ^ D 0 0 - 1))) J T sz j := cRd_o (fun a _ h2 => up_fI (by omega)) h
  refine rt_intro2 (L := [some (.ref 16), some (.int (nI d))]) ⟨by decide, rfl, (fun h => by cases h)⟩ (Nat.le_of_ble_eq_true rfl) rfl (fun Y Q hQ => ?_)
  refine q_aload_n (pc' := 1) dX1_readOn_0 rfl rfl (q_getR (pc' := 4) dX1_readOn_1 rfl fr_RX1_12 ⟨by omega, rfl⟩ rfl (wV_1_1 hV) (by decide) (q_getR (pc' := 7) dX1_readOn_4 rfl fr_RX1_145 (by first | assumption | exact ⟨by omega, rfl⟩) rfl (wB_9 hB) (by omega) (q_iload_n (pc' := 8) dX1_readOn_7 rfl rfl (q_aload_n (pc' := 9) dX1_readOn_8 rfl rfl (q_getR (pc' := 12) dX1_readOn_9 rfl fr_RX1_12 ⟨by omega, rfl⟩ rfl (wV_1_1 hV) (by decide) (q_cVi (pc' := 15) dX1_readOn_12 rfl ml_RX1_148 yv_X0_allCpus (by decide) (rn_X0_allCpusA (n := D 0 0) o17 h0 hn.2) (by first | assumption | exact ⟨by omega, rfl⟩) rfl rfl (Nat.le_of_ble_eq_true rfl) (Nat.le_refl _) (q_iast (pc' := 16) (d) dX1_readOn_15 rfl (by first | exact ⟨by omega, rfl⟩ | exact okaS hi hz (by decide) rfl | assumption) (by (first | (simp only [nI_add, pk_mul]; done) | (simp only [nI_add, pk_mul]; exact nI_e (by omega)) | exact nI_e (by omega))) (by omega) ?_)))))))
  by_cases h3 : kIs (kSq T sz j) 28526 = true
  · have e1 := hi.mp h3
    have e2 : lD (kwO T (kSq T sz j)) = nI 8 := by rw [e1]; rfl
    have h1 := (hw.mp e1).1
    have h81 := (kSq_89 (T := T) (sz := sz) (j + 1)).1
    have eS : dvS T sz (D 0 0) (kSq T sz j) = kSet T sz (D 0 0) 802 0 (kSq T sz (j + 1)) := by
      unfold dvS
      rw [if_pos h3]
      exact if_pos h81
    rw [eS] at hQ
    refine q_aload_n (pc' := 17) dX1_readOn_16 rfl rfl (q_getR (pc' := 20) dX1_readOn_17 rfl fr_RX1_18 ⟨by omega, rfl⟩ rfl (wV_1_0 hV) (by decide) (q_getIe (pc' := 23) dX1_readOn_20 rfl fr_RX1_45 ⟨by omega, rfl⟩ rfl e10' (q_bipush (pc' := 25) _ dX1_readOn_23 rfl kk_bipush_8 (q_icmp_eq (pc' := 28) (pt := 30) dX1_readOn_25 rfl rfl (fun _ => (q_aload_n (pc' := 31) dX1_readOn_30 rfl rfl (q_getR (pc' := 34) dX1_readOn_31 rfl fr_RX1_18 ⟨by omega, rfl⟩ rfl (wV_1_0 hV) (by decide) (q_tVv (pc' := 37) dX1_readOn_34 rfl ml_RX1_76 yv_X9_advance (by decide) (rt_X9_adv hV hkw h800 hr0 (by rw [h1]; decide)) ⟨by omega, rfl⟩ rfl rfl (Nat.le_of_ble_eq_true rfl) (Nat.le_refl _) (fun I1 J1 R1 ⟨c1, f1, f2, f3, hR1⟩ => ?_))))) (fun h9 => absurd (e2) h9)))))
    have hR1 : R1 = R := hR1
    rw [hR1]
    have hkw1 : cKw J1 := fun q hq => (f3 11 q (fun q2 => absurd q2.1 (by decide))).trans (hkw q hq)
    have hf1 : I1 10 16 = nI 0 ∧ I1 10 17 = -1 := ⟨by rw [f2 16 (by decide), mj_up_ne (by decide)]; exact hf.1, by rw [f2 17 (by decide), mj_up_ne (by decide)]; exact hf.2⟩
    have e0 : I1 17 0 = nI (D 0 0) := by rw [f1 17 (by decide), mj_up_ne (by decide)]; exact h0
    have hts := rt_X9_takeSet (w := w) (l := l) (n := D 0 0) (s := 0) hV hkw1 h800 c1 ⟨hn.1, by omega⟩ (by decide) hf1
    generalize kSet T sz (D 0 0) 802 0 (kSq T sz (j + 1)) = r at hts hQ
    refine q_aload_n (pc' := 38) dX1_readOn_37 rfl rfl (q_getR (pc' := 41) dX1_readOn_38 rfl fr_RX1_18 ⟨by omega, rfl⟩ rfl (wV_1_0 hV) (by decide) (q_iconst (pc' := 42) _ dX1_readOn_41 rfl kk_iconst_0 (q_aload_n (pc' := 43) dX1_readOn_42 rfl rfl (q_getR (pc' := 46) dX1_readOn_43 rfl fr_RX1_12 ⟨by omega, rfl⟩ rfl (wV_1_1 hV) (by decide) (q_getIe (pc' := 49) dX1_readOn_46 rfl fr_RX1_73 (by first | assumption | exact ⟨by omega, rfl⟩) rfl e0 (q_tVi (pc' := 52) dX1_readOn_49 rfl ml_RX1_96 yv_X9_takeSet (by decide) hts ⟨by omega, rfl⟩ rfl rfl (Nat.le_of_ble_eq_true rfl) (Nat.le_refl _) (fun x2 I2 J2 R2 ⟨ex, ⟨j2, c2⟩, b2, m2, hR2⟩ => ?_)))))))
    have hR2 : R2 = R := hR2
    rw [ex, hR2]
    have hM : mOn d I J I2 J2 := ⟨fun a g1 g2 => by rw [m2.1 a g1, f1 a g1, up_fI g2], fun k hk => by rw [m2.1 22 (by decide), f1 22 (by decide), mj_up_ne2 hk], fun f hf2 => by rw [m2.2.1 f hf2, f2 f (Or.inl hf2), mj_up_ne (by decide)], fun a f g => by rw [m2.2.2 a f g, f3 a f g]⟩
    by_cases hg : r.2 8 = 0
    · have e15 : I2 10 15 = nI r.1 := b2 hg
      rw [beq_iff_eq.mpr hg] at hQ
      refine q_ifb_ne (pc' := 55) (pt := 57) dX1_readOn_52 rfl rfl (fun _ => (q_aload_n (pc' := 58) dX1_readOn_57 rfl rfl (q_getR (pc' := 61) dX1_readOn_58 rfl fr_RX1_12 ⟨by omega, rfl⟩ rfl (wV_1_1 hV) (by decide) (q_getR (pc' := 64) dX1_readOn_61 rfl fr_RX1_145 (by first | assumption | exact ⟨by omega, rfl⟩) rfl (wB_9 hB) (by omega) (q_iload_n (pc' := 65) dX1_readOn_64 rfl rfl (q_aload_n (pc' := 66) dX1_readOn_65 rfl rfl (q_getR (pc' := 69) dX1_readOn_66 rfl fr_RX1_18 ⟨by omega, rfl⟩ rfl (wV_1_0 hV) (by decide) (q_getIe (pc' := 72) dX1_readOn_69 rfl fr_RX1_99 ⟨by omega, rfl⟩ rfl e15 (q_iast (pc' := 73) (d) dX1_readOn_72 rfl (by first | exact ⟨by omega, rfl⟩ | exact okaS hi hz (by decide) rfl | assumption) (by (first | (simp only [nI_add, pk_mul]; done) | (simp only [nI_add, pk_mul]; exact nI_e (by omega)) | exact nI_e (by omega))) (by omega) (q_iconst (pc' := 74) _ dX1_readOn_73 rfl kk_iconst_1 ?_)))))))))) (fun h9 => Bool.noConfusion (Eq.trans (Eq.symm (beq_iff_eq.mpr hg)) h9))
      refine q_zret dX1_readOn_74 rfl (Or.inr rfl) (hQ _ _ _ _ ⟨_, rfl, rfl, ⟨j2, ?_⟩, fun _ => mj_up_eq, ⟨fun a g1 g2 => by rw [up_fI g2]; exact hM.1 a g1 g2, fun k hk => by rw [mj_up_ne2 hk]; exact hM.2.1 k hk, fun f hf2 => by rw [mj_up_ne (by decide)]; exact hM.2.2.1 f hf2, hM.2.2.2⟩, rfl⟩)
      rcases c2 with ⟨q1, q2, q3, q4, q5⟩ | ⟨q1, -⟩
      · exact Or.inl ⟨q1, q2, cRd_o (fun a _ g => up_fI (by omega)) q3, by rw [mj_up_ne (by decide)]; exact q4, by rw [mj_up_ne (by decide)]; exact q5⟩
      · exact absurd hg q1
    · rw [beq_eq_false_iff_ne.mpr hg] at hQ
      refine q_ifb_ne (pc' := 55) (pt := 57) dX1_readOn_52 rfl rfl (fun h9 => Bool.noConfusion (Eq.trans (Eq.symm (beq_eq_false_iff_ne.mpr hg)) h9)) (fun _ => (q_iconst (pc' := 56) _ dX1_readOn_55 rfl kk_iconst_0 ?_))
      exact q_zret dX1_readOn_56 rfl (Or.inl rfl) (hQ _ _ _ _ ⟨_, rfl, rfl, ⟨j2, c2⟩, fun q => absurd q hg, hM, rfl⟩)
  · have eS : dvS T sz (D 0 0) (kSq T sz j) = (2 ^ D 0 0 - 1, kSq T sz j) := by
      unfold dvS
      rw [if_neg h3]
    have e2 : ¬ lD (kwO T (kSq T sz j)) = nI 8 := fun q2 => by
      by_cases hz : kwO T (kSq T sz j) = 0
      · rw [hz] at q2
        exact nI_m1 (a := 8) (by decide) q2.symm
      · refine h3 (hi.mpr ?_)
        unfold lD at q2
        rw [if_neg hz] at q2
        have := (nI_eq (by omega) (by decide)).mp q2
        omega
    rw [eS] at hQ
    refine q_aload_n (pc' := 17) dX1_readOn_16 rfl rfl (q_getR (pc' := 20) dX1_readOn_17 rfl fr_RX1_18 ⟨by omega, rfl⟩ rfl (wV_1_0 hV) (by decide) (q_getIe (pc' := 23) dX1_readOn_20 rfl fr_RX1_45 ⟨by omega, rfl⟩ rfl e10' (q_bipush (pc' := 25) _ dX1_readOn_23 rfl kk_bipush_8 (q_icmp_eq (pc' := 28) (pt := 30) dX1_readOn_25 rfl rfl (fun h9 => absurd h9 (e2)) (fun _ => (q_iconst (pc' := 29) _ dX1_readOn_28 rfl kk_iconst_1 ?_))))))
    refine q_zret dX1_readOn_29 rfl (Or.inr rfl) (hQ _ _ _ _ ⟨_, rfl, ?_, ⟨j, Or.inl ⟨h8, rfl, hr0, ?_, ?_⟩⟩, fun _ => mj_up_eq, ⟨fun a _ g2 => up_fI g2, fun k hk => mj_up_ne2 hk, fun f _ => mj_up_ne (by decide), fun _ _ _ => rfl⟩, rfl⟩)
    · show _ = bI (kSq T sz j 8 == 0)
      rw [h8]; rfl
    · rw [mj_up_ne (by decide)]; exact hf.1
    · rw [mj_up_ne (by decide)]; exact hf.2
end BT4
