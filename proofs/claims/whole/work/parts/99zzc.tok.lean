/-! ===== Tokens' constructor: the words ===== -/
section QS
variable {d : mj_D} {X : mj_X} {Q : Option Value → mj_H → Prop} {pc pc' : Nat} {L : List (Option Value)} {st : List Value} {h : mj_H} {a v k i : Nat} {f : Value} {A : Nat → Prop}
theorem q_strlen (hX : SxX (sxT a v f A) X) (ho : d.2.1 = RX9) (hd1 : decode d.1 pc = .ok (.ldc 36, 2)) (hd2 : decode d.1 (pc + 2) = .ok (.invokevirtual 38, 3)) (hlv : 1 < d.2.2.2.2.1) (hw : (st.map fun v => v.category).sum ≤ 8) (hzf : h.1 ≤ mj_zf X) (hp : pc + 5 = pc') (hn : Wq d X Q pc' L (.int (nI 106) :: st) h) : Wq d X Q pc L st h := by
  subst hp
  obtain ⟨w, p, l, e, Rm, s, m, args, below, meth, c, H0, z0, zf, Z⟩ := X
  intro C H locs ls cells slots hR hL hS h1 h2
  have kk := hn C H locs ls cells slots hR hL hS h1 h2
  obtain ⟨x1, x2, x3⟩ := hX
  obtain ⟨hx, hb, hml, hown, hts, hK, hz0, ⟨r1, r2, r3, r4⟩, -⟩ := C
  have hzf : h.1 ≤ zf := hzf
  have hsf := mj_sl_mono hzf
  have hsx : sxT a v f A s H := sx_at x1 x2 x3 (State.WarmedH.refl s) hS
  have hrc : ∃ cell : Cell, H[a]? = some cell ∧ cell.vm.isStatics = false ∧ s.vm.findClass "java/lang/String" = some cell.cls := by
    obtain ⟨cell, g1, g2, g3, -⟩ := hsx.2.1
    exact ⟨cell, g1, g2, g3⟩
  refine va_ldcS hx hb (by rw [← ho]; exact hown) hsx.1 hd1 ?_
  exact jq_virt (d := d) (As := []) (rest := st.map (mj_tv w)) hx hb hml hown hts ⟨r1, r2, by omega, by omega⟩ hL.1 hd2 (by rw [ho]; exact ml_RX9_38) jy_length hlv rj_length sxT_K hsx hrc rfl rfl (by rw [mj_cats]; exact hw) kk
theorem q_strat (hf : f.isRef = true) (hX : SxX (sxT a v f A) X) (ho : d.2.1 = RX9) (hd1 : decode d.1 pc = .ok (.ldc 36, 2)) (hd2 : decode d.1 (pc + 2) = .ok (.iload i, 2)) (hd3 : decode d.1 (pc + 4) = .ok (.invokevirtual 44, 3)) (hl : L[i]? = some (some (.int (nI k)))) (hk : k < 106) (hlv : 4 < d.2.2.2.2.1) (hw : (st.map fun v => v.category).sum ≤ 8) (hzf : h.1 ≤ mj_zf X) (hp : pc + 7 = pc') (hn : Wq d X Q pc' L (.int (kwB k) :: st) h) : Wq d X Q pc L st h := by
  subst hp
  obtain ⟨w, p, l, e, Rm, s, m, args, below, meth, c, H0, z0, zf, Z⟩ := X
  intro C H locs ls cells slots hR hL hS h1 h2
  have kk := hn C H locs ls cells slots hR hL hS h1 h2
  obtain ⟨x1, x2, x3⟩ := hX
  obtain ⟨hx, hb, hml, hown, hts, hK, hz0, ⟨r1, r2, r3, r4⟩, -⟩ := C
  have hzf : h.1 ≤ zf := hzf
  have hsf := mj_sl_mono hzf
  have hsx : sxT a v f A s H := sx_at x1 x2 x3 (State.WarmedH.refl s) hS
  have hrc : ∃ cell : Cell, H[a]? = some cell ∧ cell.vm.isStatics = false ∧ s.vm.findClass "java/lang/String" = some cell.cls := by
    obtain ⟨cell, g1, g2, g3, -⟩ := hsx.2.1
    exact ⟨cell, g1, g2, g3⟩
  refine va_ldcS hx hb (by rw [← ho]; exact hown) hsx.1 hd1 ?_
  refine lv_iload hx hb hd2 (hL.2.2 _ _ hl) ?_
  exact jq_virt (d := d) (As := [.int (nI k)]) (rest := st.map (mj_tv w)) hx hb hml hown hts ⟨r1, r2, by omega, by omega⟩ hL.1 hd3 (by rw [ho]; exact ml_RX9_44) jy_charAt hlv (rj_charAt hf hk) sxT_K hsx hrc rfl rfl (by rw [mj_cats]; exact hw) kk
end QS
/-- what the constructor has of the words behind i letters: the word's number, the letter's, what is packed -/
def kS : Nat → Nat × Nat × (Nat → Nat)
  | 0 => (0, 0, fun _ => 0)
  | i + 1 => if kwC.getD i 0 = 32 then ((kS i).1 + 1, 0, (kS i).2.2) else ((kS i).1, (kS i).2.1 + 1, fun j => if j = (kS i).1 then (kS i).2.2 j ||| (if (kS i).2.1 < 7 then (kwC.getD i 0 - 96) * 2 ^ (5 * (6 - (kS i).2.1)) else 0) else (kS i).2.2 j)
theorem kS_ok : ∀ i, i < 106 → (kS i).1 < 19 ∧ (kS i).2.1 < 100 ∧ (kwC.getD i 0 = 32 ∨ (97 ≤ kwC.getD i 0 ∧ kwC.getD i 0 ≤ 122)) := by decide +kernel
theorem kS_end : ∀ j, j < 19 → (kS 106).2.2 j = kw5 j := by decide +kernel
section CT8
variable {w : mj_Wd} {l : Launch} {I : mj_M} {J : mj_J} {R : mj_R} {a v : Nat} {f : Value}
theorem rg_X9_init (hf : f.isRef = true) (hSx : SxM w (sxT a v f (mj_A w))) (h0 : Z0 11 I J R) : RgSV (sxT a v f (mj_A w)) w l yX9_init dd_X9_init [.ref 10, .ref 1] (11, I, J, R) 16 (fun I' J' R' => I' = mj_up I 10 17 (-1) ∧ cKw J' ∧ (∀ a, a ≠ 11 → J' a = J a) ∧ R' = tkR R) := by
  refine rgS_intro hSx (L := [some (.ref 10), some (.ref 1), none, none, none]) ⟨by decide, rfl, fun _ => rfl⟩ (by omega) (Nat.le_of_ble_eq_true rfl) rfl (fun Y Q hX hQ => ?_)
  refine q_aload_n (pc' := 1) dX9_init_0 rfl rfl (q_objI (pc' := 4) dX9_init_1 rfl ml_RX9_3 (Nat.le_of_ble_eq_true rfl) (Nat.le_of_ble_eq_true rfl) (q_aload_n (pc' := 5) dX9_init_4 rfl rfl (q_bipush (pc' := 7) _ dX9_init_5 rfl kk_bipush_19 (q_newJ (pc' := 9) (z2 := 12) dX9_init_7 rfl rfl (by first | rfl | exact (okaS hi (Nat.le_refl _) (by decide) rfl).2 | assumption) (by decide) (by first | omega | (unfold sA; omega)) (by rw [zf_mk]; first | omega | (unfold sA; omega)) (by (repeat first | exact Z0_mono h0 (by first | omega | (unfold sA; omega)) | refine Z0_upR (by first | omega | (unfold sA; omega)) ?_ | refine Z0_upI (by first | omega | (unfold sA; omega)) ?_ | refine Z0_gr (by first | omega | (unfold sA; omega)) ?_)) (q_putR (pc' := 12) dX9_init_9 rfl fl_RX9_9 (fun _ => rfl) (Or.inr ⟨_, rfl⟩) ⟨(by first | omega | (unfold sA; omega)), (by first | rfl | exact (okS hi (Nat.le_refl _) (by decide) rfl).2 | assumption)⟩ rfl (by first | decide | omega) (q_aload_n (pc' := 13) dX9_init_12 rfl rfl (q_sipush (pc' := 16) _ dX9_init_13 rfl kk_sipush_801 (q_newI (pc' := 18) (z2 := 13) dX9_init_16 rfl rfl (by first | rfl | exact (okaS hi (Nat.le_refl _) (by decide) rfl).2 | assumption) (by decide) (by first | omega | (unfold sA; omega)) (by rw [zf_mk]; first | omega | (unfold sA; omega)) (by (repeat first | exact Z0_mono h0 (by first | omega | (unfold sA; omega)) | refine Z0_upR (by first | omega | (unfold sA; omega)) ?_ | refine Z0_upI (by first | omega | (unfold sA; omega)) ?_ | refine Z0_gr (by first | omega | (unfold sA; omega)) ?_)) (q_putR (pc' := 21) dX9_init_18 rfl fl_RX9_15 (fun _ => rfl) (Or.inr ⟨_, rfl⟩) ⟨(by first | omega | (unfold sA; omega)), (by first | rfl | exact (okS hi (Nat.le_refl _) (by decide) rfl).2 | assumption)⟩ rfl (by first | decide | omega) (q_aload_n (pc' := 22) dX9_init_21 rfl rfl (q_sipush (pc' := 25) _ dX9_init_22 rfl kk_sipush_801 (q_newI (pc' := 27) (z2 := 14) dX9_init_25 rfl rfl (by first | rfl | exact (okaS hi (Nat.le_refl _) (by decide) rfl).2 | assumption) (by decide) (by first | omega | (unfold sA; omega)) (by rw [zf_mk]; first | omega | (unfold sA; omega)) (by (repeat first | exact Z0_mono h0 (by first | omega | (unfold sA; omega)) | refine Z0_upR (by first | omega | (unfold sA; omega)) ?_ | refine Z0_upI (by first | omega | (unfold sA; omega)) ?_ | refine Z0_gr (by first | omega | (unfold sA; omega)) ?_)) (q_putR (pc' := 30) dX9_init_27 rfl fl_RX9_19 (fun _ => rfl) (Or.inr ⟨_, rfl⟩) ⟨(by first | omega | (unfold sA; omega)), (by first | rfl | exact (okS hi (Nat.le_refl _) (by decide) rfl).2 | assumption)⟩ rfl (by first | decide | omega) ?_)))))))))))))
  refine q_aload_n (pc' := 31) dX9_init_30 rfl rfl (q_sipush (pc' := 34) _ dX9_init_31 rfl kk_sipush_801 (q_newI (pc' := 36) (z2 := 15) dX9_init_34 rfl rfl (by first | rfl | exact (okaS hi (Nat.le_refl _) (by decide) rfl).2 | assumption) (by decide) (by first | omega | (unfold sA; omega)) (by rw [zf_mk]; first | omega | (unfold sA; omega)) (by (repeat first | exact Z0_mono h0 (by first | omega | (unfold sA; omega)) | refine Z0_upR (by first | omega | (unfold sA; omega)) ?_ | refine Z0_upI (by first | omega | (unfold sA; omega)) ?_ | refine Z0_gr (by first | omega | (unfold sA; omega)) ?_)) (q_putR (pc' := 39) dX9_init_36 rfl fl_RX9_22 (fun _ => rfl) (Or.inr ⟨_, rfl⟩) ⟨(by first | omega | (unfold sA; omega)), (by first | rfl | exact (okS hi (Nat.le_refl _) (by decide) rfl).2 | assumption)⟩ rfl (by first | decide | omega) (q_aload_n (pc' := 40) dX9_init_39 rfl rfl (q_sipush (pc' := 43) _ dX9_init_40 rfl kk_sipush_801 (q_newJ (pc' := 45) (z2 := 16) dX9_init_43 rfl rfl (by first | rfl | exact (okaS hi (Nat.le_refl _) (by decide) rfl).2 | assumption) (by decide) (by first | omega | (unfold sA; omega)) (by rw [zf_mk]; first | omega | (unfold sA; omega)) (by (repeat first | exact Z0_mono h0 (by first | omega | (unfold sA; omega)) | refine Z0_upR (by first | omega | (unfold sA; omega)) ?_ | refine Z0_upI (by first | omega | (unfold sA; omega)) ?_ | refine Z0_gr (by first | omega | (unfold sA; omega)) ?_)) (q_putR (pc' := 48) dX9_init_45 rfl fl_RX9_25 (fun _ => rfl) (Or.inr ⟨_, rfl⟩) ⟨(by first | omega | (unfold sA; omega)), (by first | rfl | exact (okS hi (Nat.le_refl _) (by decide) rfl).2 | assumption)⟩ rfl (by first | decide | omega) (q_aload_n (pc' := 49) dX9_init_48 rfl rfl (q_iconst (pc' := 50) _ dX9_init_49 rfl kk_iconst_m1 (q_putI (pc' := 53) dX9_init_50 rfl fl_RX9_28 ⟨(by first | omega | (unfold sA; omega)), (by first | rfl | exact (okS hi (Nat.le_refl _) (by decide) rfl).2 | assumption)⟩ rfl (q_aload_n (pc' := 54) dX9_init_53 rfl rfl (q_aload_n (pc' := 55) dX9_init_54 rfl rfl (q_putR (pc' := 58) dX9_init_55 rfl fl_RX9_32 (fun _ => rfl) (Or.inr ⟨_, rfl⟩) ⟨(by first | omega | (unfold sA; omega)), (by first | rfl | exact (okS hi (Nat.le_refl _) (by decide) rfl).2 | assumption)⟩ rfl (by first | decide | omega) ?_)))))))))))))
  refine q_iconst (pc' := 59) _ dX9_init_58 rfl kk_iconst_0 (q_ist_2 (pc' := 60) dX9_init_59 rfl (by decide) rfl (q_iconst (pc' := 61) _ dX9_init_60 rfl kk_iconst_0 (q_ist_3 (pc' := 62) dX9_init_61 rfl (by decide) rfl (q_iconst (pc' := 63) _ dX9_init_62 rfl kk_iconst_0 (q_ist_4 (pc' := 65) dX9_init_63 rfl (by decide) rfl ?_)))))
  have loop : ∀ n i J1, i + n = 106 → (∀ j, j < 19 → J1 11 j = nJ ((kS i).2.2 j)) → (∀ a, a ≠ 11 → J1 a = J a) → Wq dd_X9_init (mj_mk w l 16 Y) Q 65 [some (.ref 10), some (.ref 1), some (.int (nI (kS i).1)), some (.int (nI (kS i).2.1)), some (.int (nI i))] [] (16, mj_up I 10 17 (-1), J1, tkR R) := by
    intro n
    induction n with
    | zero =>
      intro i J1 hi hj hJ
      have e : i = 106 := by omega
      subst e
      refine q_iload (pc' := 67) dX9_init_65 rfl rfl (q_strlen (pc' := 72) hX rfl dX9_init_67 dX9_init_69 (Nat.le_of_ble_eq_true rfl) (Nat.le_of_ble_eq_true rfl) (Nat.le_refl _) rfl (q_icmp_ge (pc' := 75) (pt := 130) dX9_init_72 rfl rfl (fun _ => ?_) (fun h9 => absurd (by decide) h9)))
      exact q_vret dX9_init_130 rfl (hQ none _ J1 _ ⟨rfl, rfl, fun j h => by rw [hj j h, kS_end j h], hJ, rfl⟩)
    | succ n ih =>
      intro i J1 hi hj hJ
      obtain ⟨k1, k2, k3⟩ := kS_ok i (by omega)
      have r101 : tkR R 10 1 = 11 := by simp [tkR, mj_up]
      refine q_iload (pc' := 67) dX9_init_65 rfl rfl (q_strlen (pc' := 72) hX rfl dX9_init_67 dX9_init_69 (Nat.le_of_ble_eq_true rfl) (Nat.le_of_ble_eq_true rfl) (Nat.le_refl _) rfl (q_icmp_ge (pc' := 75) (pt := 130) dX9_init_72 rfl rfl (fun h9 => absurd h9 (Int32.not_le.mpr (nI_lt (by omega) (by omega)))) (fun _ => (q_iload_n (pc' := 76) dX9_init_75 rfl rfl (q_bipush (pc' := 78) _ dX9_init_76 rfl kk_bipush_19 (q_icmp_ge (pc' := 81) (pt := 130) dX9_init_78 rfl rfl (fun h9 => absurd h9 (Int32.not_le.mpr (nI_lt (by omega) (by omega)))) (fun _ => (q_strat (pc' := 88) hf hX rfl dX9_init_81 dX9_init_83 dX9_init_85 rfl (by omega) (Nat.le_of_ble_eq_true rfl) (Nat.le_of_ble_eq_true rfl) (Nat.le_refl _) rfl (q_bipush (pc' := 90) _ dX9_init_88 rfl kk_bipush_32 ?_)))))))))
      by_cases h32 : kwC.getD i 0 = 32
      · have e1 : kS (i + 1) = ((kS i).1 + 1, 0, (kS i).2.2) := if_pos h32
        have hb : kwB i = nI 32 := by unfold kwB; rw [h32]
        have step := ih (i + 1) J1 (by omega) (by rw [e1]; exact hj) hJ
        rw [e1] at step
        refine q_icmp_ne (pc' := 93) (pt := 101) dX9_init_90 rfl rfl (fun h9 => absurd (hb) h9) (fun _ => (q_inc_2 (pc' := 96) dX9_init_93 rfl (by decide) rfl (q_iconst (pc' := 97) _ dX9_init_96 rfl kk_iconst_0 (q_ist_3 (pc' := 98) dX9_init_97 rfl (by decide) rfl (q_goto (pc' := 124) dX9_init_98 rfl (q_inc_4 (pc' := 127) dX9_init_124 rfl (by decide) rfl (q_goto (pc' := 65) dX9_init_127 rfl ?_)))))))
        exact step
      · obtain ⟨g1, g2⟩ := k3.resolve_left h32
        have e1 : kS (i + 1) = ((kS i).1, (kS i).2.1 + 1, fun j => if j = (kS i).1 then (kS i).2.2 j ||| (if (kS i).2.1 < 7 then (kwC.getD i 0 - 96) * 2 ^ (5 * (6 - (kS i).2.1)) else 0) else (kS i).2.2 j) := if_neg h32
        have hb : kwB i ≠ nI 32 := nI_ne h32 (by omega) (by decide)
        have step := ih (i + 1) (mj_up J1 11 (kS i).1 (nJ ((kS i).2.2 (kS i).1) ||| nJ (if (kS i).2.1 < 7 then (kwC.getD i 0 - 96) * 2 ^ (5 * (6 - (kS i).2.1)) else 0))) (by omega) (fun j h => by
          rw [e1]
          show _ = nJ (if j = (kS i).1 then (kS i).2.2 j ||| (if (kS i).2.1 < 7 then (kwC.getD i 0 - 96) * 2 ^ (5 * (6 - (kS i).2.1)) else 0) else (kS i).2.2 j)
          by_cases ej : j = (kS i).1
          · rw [if_pos ej, ej, mj_up_eq, nJ_orr]
          · rw [if_neg ej, mj_up_ne2 ej]; exact hj j h) (fun a h => by
          funext k
          rw [mj_up_ne h, hJ a h])
        rw [e1] at step
        refine q_icmp_ne (pc' := 93) (pt := 101) dX9_init_90 rfl rfl (fun _ => (q_aload_n (pc' := 102) dX9_init_101 rfl rfl (q_getR (pc' := 105) dX9_init_102 rfl fr_RX9_9 ⟨(by first | omega | (unfold sA; omega)), (by first | rfl | exact (okS hi (Nat.le_refl _) (by decide) rfl).2 | assumption)⟩ rfl (show _ = 11 from r101) (by decide) (q_iload_n (pc' := 106) dX9_init_105 rfl rfl (q_dup2 (pc' := 107) dX9_init_106 rfl (q_lalde (pc' := 108) _ dX9_init_107 rfl (by first | exact ⟨by omega, rfl⟩ | exact okaS hi hz (by decide) rfl | assumption) rfl (by omega) (hj _ k1) (q_strat (pc' := 115) hf hX rfl dX9_init_108 dX9_init_110 dX9_init_112 rfl (by omega) (Nat.le_of_ble_eq_true rfl) (Nat.le_of_ble_eq_true rfl) (Nat.le_refl _) rfl (q_iload_n (pc' := 116) dX9_init_115 rfl rfl (q_cSl (pc' := 119) dX9_init_116 rfl ml_RX9_48 ys_X9_packed (by decide) (rn_X9_packed g1 g2 (by omega)) rfl rfl (Nat.le_of_ble_eq_true rfl) (Nat.le_refl _) (q_lor (pc' := 120) dX9_init_119 rfl (q_last (pc' := 121) _ dX9_init_120 rfl (by first | exact ⟨by omega, rfl⟩ | exact okaS hi hz (by decide) rfl | assumption) rfl (by omega) (q_inc_3 (pc' := 124) dX9_init_121 rfl (by decide) rfl (q_inc_4 (pc' := 127) dX9_init_124 rfl (by decide) rfl (q_goto (pc' := 65) dX9_init_127 rfl ?_)))))))))))))) (fun h9 => absurd h9 (hb))
        exact step
  exact loop 106 0 J rfl (fun j _ => (h0 11 (Nat.le_refl _)).2.1 j) (fun _ _ => rfl)
end CT8
