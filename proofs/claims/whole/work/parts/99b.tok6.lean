/-! ===== the class: a text opened ===== -/
def kLs (T : Nat → Nat) (sz : Nat) : Nat → Nat
  | 0 => 3
  | i + 1 => kSq T sz i 5
/-- the end, or what is no TOKEN -/
def kStp (T : Nat → Nat) (sz q : Nat) : Prop := kSq T sz q 5 = 0 ∨ kSq T sz q 5 = 4
theorem kPv_ge {T : Nat → Nat} {sz : Nat} : ∀ i, (∀ q, q < i → ¬ kStp T sz q) → i ≤ kPv T sz i 3
  | 0, _ => Nat.zero_le _
  | i + 1, h => by
    have h1 := kPv_ge i (fun q hq => h q (by omega))
    have h2 : kPv T sz (i + 1) 3 = tkK T sz (kPv T sz i) 3 := by
      show kSq T sz i 3 = _
      rw [kSq_pv]
    have h3 := tk_st (T := T) (sz := sz) (K := kPv T sz i) (fun q => h i (by omega) (Or.inl (by rw [kSq_pv]; exact q)))
    omega
section TOK6
variable {w : mj_Wd} {l : Launch} {I : mj_M} {J : mj_J} {R : mj_R} {T : Nat → Nat} {sz j : Nat}
theorem rt_X9_open (hV : mj_wV R) (hkw : cKw J) (ht : cTp I T sz) : RtV w l yX9_open dd_X9_open [.ref 10, .int (nI sz)] (472, I, J, R) (fun I' J' R' => cRd I' J' T sz 0 ∧ (I' 10 16 = nI 0 ∧ I' 10 17 = -1) ∧ mTs I J I' J' ∧ R' = R) := by
  have h800 := ht.1
  refine rt_intro2 (L := [some (.ref 10), some (.int (nI sz)), none, none]) ⟨by decide, rfl, (fun h => by cases h)⟩ (Nat.le_of_ble_eq_true rfl) rfl (fun Y Q hQ => ?_)
  have ext : ∀ k I1 J1 (lv iv : Int32), k ≤ 800 → kStp T sz k → (∀ q, q < k → ¬ kStp T sz q) → (∀ q, q ≤ k → cTk I1 J1 T q (kSq T sz q)) → I1 10 16 = nI 0 → I1 10 17 = -1 → mTs I J I1 J1 → Wq dd_X9_open (mj_mk w l 472 Y) Q 64 [some (.ref 10), some (.int (nI sz)), some (.int lv), some (.int iv)] [] (472, I1, J1, R) := by
    intro k I1 J1 lv iv hk hs hns hc h16 h17 hm
    have hkw1 : cKw J1 := fun q hq => (hm.2 11 q (by decide) (fun q2 => absurd q2.1 (by decide))).trans (hkw q hq)
    have hc2 : ∀ q, q ≤ k → cTk (mj_up I1 10 8 (nI 0)) J1 T q (kSq T sz q) := fun q hq => cTk_F ⟨mj_up_ne (by decide), mj_up_ne (by decide), mj_up_ne (by decide)⟩ rfl (hc q hq)
    refine q_aload_n (pc' := 65) dX9_open_64 rfl rfl (q_iconst (pc' := 66) _ dX9_open_65 rfl kk_iconst_0 (q_putI (pc' := 69) dX9_open_66 rfl fl_RX9_73 ⟨by omega, rfl⟩ rfl (q_aload_n (pc' := 70) dX9_open_69 rfl rfl (q_tVv (pc' := 73) dX9_open_70 rfl ml_RX9_76 yv_X9_advance (by decide) (rt_X9_advance hV hkw1 mj_up_eq (Nat.zero_le _) (hc2 0 (Nat.zero_le _)) (kOK_sq 0) h800 kSq_wP) ⟨by omega, rfl⟩ rfl rfl (Nat.le_of_ble_eq_true rfl) (Nat.le_refl _) (fun I2 J2 R2 ⟨c1, n1, f1, f2, f3, hR2⟩ => ?_)))))
    refine q_vret dX9_open_73 rfl (hQ _ _ _ _ ⟨rfl, ⟨k, ⟨hk, fun q hq => ?_, hs, hns⟩, Nat.zero_le _, c1, ?_⟩, ⟨?_, ?_⟩, ⟨fun a g1 g2 g3 g4 => ?_, fun a f g1 g2 => ?_⟩, hR2⟩)
    · exact cTk_F ⟨by rw [f1 12 (by decide)], by rw [f1 13 (by decide)], by rw [f1 14 (by decide)]⟩ (f3 15 q (fun q2 => absurd q2.1 (by decide))) (hc2 q hq)
    · rw [n1]
      congr 1
      by_cases e : 0 = k
      · subst e
        have : kSq T sz 0 5 = 0 ∨ kSq T sz 0 5 = 4 ∨ (0:Nat) = 800 := hs.elim Or.inl (fun q => Or.inr (Or.inl q))
        rw [if_pos this, if_pos rfl]
      · have hno := hns 0 (by omega)
        rw [if_neg (fun q => q.elim (fun q => hno (Or.inl q)) (fun q => q.elim (fun q => hno (Or.inr q)) (fun q => by cases q))), if_neg e]
    · rw [f2 16 (by decide), mj_up_ne2 (by decide), h16]
    · rw [f2 17 (by decide), mj_up_ne2 (by decide), h17]
    · rw [f1 a g1, up_fI g1]; exact hm.1 a g1 g2 g3 g4
    · rw [f3 a f g2]; exact hm.2 a f g1 g2
  have loop : ∀ m i I1 J1, i + m = 801 → I1 10 6 = nI sz → I1 10 7 = nI (kPv T sz i 3) → (∀ q, q < i → cTk I1 J1 T q (kSq T sz q)) → (∀ q, q + 1 < i → ¬ kStp T sz q) → I1 10 16 = nI 0 → I1 10 17 = -1 → mTs I J I1 J1 → Wq dd_X9_open (mj_mk w l 472 Y) Q 36 [some (.ref 10), some (.int (nI sz)), some (.int (nI (kLs T sz i))), some (.int (nI i))] [] (472, I1, J1, R) := by
    intro m
    induction m with
    | zero =>
      intro i I1 J1 him h6 h7 hc hns h16 h17 hm
      have hi : i = 801 := by omega
      subst hi
      refine q_iload_n (pc' := 37) dX9_open_36 rfl rfl (q_sipush (pc' := 40) _ dX9_open_37 rfl kk_sipush_800 (q_icmp_gt (pc' := 43) (pt := 64) dX9_open_40 rfl rfl (fun _ => ?_) (fun h9 => absurd (by (first | assumption | exact nI_le (by omega) (by omega) | exact nI_ge (by omega) (by omega) | exact nI_lt (by omega) (by omega) | exact nI_nlt (by omega) (by omega) | exact nI_ne (by omega) (by omega) (by omega) | exact nI_e (by omega) | decide)) h9)))
      have hst : kStp T sz 800 := by
        refine Classical.byContradiction (fun q => ?_)
        have h1 := kPv_ge (T := T) (sz := sz) 801 (fun q2 hq2 => by
          by_cases e : q2 = 800
          · rw [e]; exact q
          · exact hns q2 (by omega))
        have h2 := kPv_le (T := T) (sz := sz) 801
        omega
      exact ext 800 I1 J1 _ _ (by decide) hst (fun q hq => hns q (by omega)) (fun q hq => hc q (by omega)) h16 h17 hm
    | succ m ih =>
      intro i I1 J1 him h6 h7 hc hns h16 h17 hm
      have h5 : kLs T sz i < 5 := by
        cases i with
        | zero => exact (by decide : 3 < 5)
        | succ i => exact (kOK_sq i).2.1
      by_cases h0 : kLs T sz i = 0
      · cases i with
        | zero => cases h0
        | succ k =>
          refine q_iload_n (pc' := 37) dX9_open_36 rfl rfl (q_sipush (pc' := 40) _ dX9_open_37 rfl kk_sipush_800 (q_icmp_gt (pc' := 43) (pt := 64) dX9_open_40 rfl rfl (fun h9 => absurd h9 (Int32.not_lt.mpr (nI_le (by omega) (by decide)))) (fun _ => (q_iload_n (pc' := 44) dX9_open_43 rfl rfl (q_if_eq (pc' := 47) (pt := 64) dX9_open_44 rfl rfl (fun _ => ?_) (fun h9 => absurd (congrArg nI h0) h9))))))
          exact ext k I1 J1 _ _ (by omega) (Or.inl h0) (fun q hq => hns q (by omega)) (fun q hq => hc q (by omega)) h16 h17 hm
      · by_cases h4 : kLs T sz i = 4
        · cases i with
          | zero => cases h4
          | succ k =>
            refine q_iload_n (pc' := 37) dX9_open_36 rfl rfl (q_sipush (pc' := 40) _ dX9_open_37 rfl kk_sipush_800 (q_icmp_gt (pc' := 43) (pt := 64) dX9_open_40 rfl rfl (fun h9 => absurd h9 (Int32.not_lt.mpr (nI_le (by omega) (by decide)))) (fun _ => (q_iload_n (pc' := 44) dX9_open_43 rfl rfl (q_if_eq (pc' := 47) (pt := 64) dX9_open_44 rfl rfl (fun h9 => absurd h9 (nI_ne (b := 0) h0 (by omega) (by decide))) (fun _ => (q_iload_n (pc' := 48) dX9_open_47 rfl rfl (q_iconst (pc' := 49) _ dX9_open_48 rfl kk_iconst_4 (q_icmp_eq (pc' := 52) (pt := 64) dX9_open_49 rfl rfl (fun _ => ?_) (fun h9 => absurd (congrArg nI h4) h9))))))))))
            exact ext k I1 J1 _ _ (by omega) (Or.inr h4) (fun q hq => hns q (by omega)) (fun q hq => hc q (by omega)) h16 h17 hm
        · have ht1 : cTp I1 T sz := ⟨h800, fun k hk => by rw [hm.1 1 (by decide) (by decide) (by decide) (by decide)]; exact ht.2 k hk⟩
          refine q_iload_n (pc' := 37) dX9_open_36 rfl rfl (q_sipush (pc' := 40) _ dX9_open_37 rfl kk_sipush_800 (q_icmp_gt (pc' := 43) (pt := 64) dX9_open_40 rfl rfl (fun h9 => absurd h9 (Int32.not_lt.mpr (nI_le (by omega) (by decide)))) (fun _ => (q_iload_n (pc' := 44) dX9_open_43 rfl rfl (q_if_eq (pc' := 47) (pt := 64) dX9_open_44 rfl rfl (fun h9 => absurd h9 (nI_ne (b := 0) h0 (by omega) (by decide))) (fun _ => (q_iload_n (pc' := 48) dX9_open_47 rfl rfl (q_iconst (pc' := 49) _ dX9_open_48 rfl kk_iconst_4 (q_icmp_eq (pc' := 52) (pt := 64) dX9_open_49 rfl rfl (fun h9 => absurd h9 (nI_ne h4 (by omega) (by decide))) (fun _ => (q_aload_n (pc' := 53) dX9_open_52 rfl rfl (q_iload_n (pc' := 54) dX9_open_53 rfl rfl (q_tVi (pc' := 57) dX9_open_54 rfl ml_RX9_69 yv_X9_split (by decide) (rt_X9_split (i := i) hV ht1 h6 h7 (kPv_le i) (by omega)) ⟨by omega, rfl⟩ rfl rfl (Nat.le_of_ble_eq_true rfl) (Nat.le_refl _) (fun x1 I2 J2 R2 ⟨ex, n7, c2, m2, hR2⟩ => ?_))))))))))))))
          have hR2 : R2 = R := hR2
          rw [← kSq_pv] at ex n7 c2
          rw [ex, hR2]
          refine q_ist_2 (pc' := 58) dX9_open_57 rfl (by decide) rfl (q_inc_3 (pc' := 61) dX9_open_58 rfl (by decide) rfl (q_goto (pc' := 36) dX9_open_61 rfl ?_))
          refine ih (i + 1) I2 J2 (by omega) ((m2.2.1 6 (by decide)).trans h6) n7 (fun q hq => ?_) (fun q hq => ?_) ((m2.2.1 16 (by decide)).trans h16) ((m2.2.1 17 (by decide)).trans h17) ⟨fun a g1 g2 g3 g4 => ?_, fun a f g1 g2 => ?_⟩
          · by_cases e : q = i
            · rw [e]; exact c2
            · exact cTk_F ⟨m2.2.2.1 12 q (by decide) e, m2.2.2.1 13 q (by decide) e, m2.2.2.1 14 q (by decide) e⟩ (m2.2.2.2 15 q (fun q2 => e q2.2)) (hc q (by omega))
          · by_cases e : q + 1 = i
            · subst e
              exact fun q2 => q2.elim h0 h4
            · exact hns q (by omega)
          · rw [m2.1 a g1 g2 g3 g4]; exact hm.1 a g1 g2 g3 g4
          · rw [m2.2.2.2 a f (fun q => g1 q.1)]; exact hm.2 a f g1 g2
  refine q_aload_n (pc' := 1) dX9_open_0 rfl rfl (q_iload_n (pc' := 2) dX9_open_1 rfl rfl (q_iconst (pc' := 3) _ dX9_open_2 rfl kk_iconst_0 (q_cSi (pc' := 6) dX9_open_3 rfl ml_RX9_52 ys_J9_max_7cf53 (by decide) (rn_max (by omega) (by decide)) rfl rfl (Nat.le_of_ble_eq_true rfl) (Nat.le_refl _) (q_aload_n (pc' := 7) dX9_open_6 rfl rfl (q_getR (pc' := 10) dX9_open_7 rfl fr_RX9_32 ⟨by omega, rfl⟩ rfl (wV_9_0 hV) (by decide) (q_alen (pc' := 11) _ dX9_open_10 rfl (by first | exact ⟨by omega, rfl⟩ | exact okaS hi hz (by decide) rfl | assumption) (by first | exact Or.inl rfl | exact Or.inr rfl) rfl (q_cSi (pc' := 14) dX9_open_11 rfl ml_RX9_58 ys_J9_min_7cf53 (by decide) (rn_min (by omega) (by decide)) rfl rfl (Nat.le_of_ble_eq_true rfl) (Nat.le_refl _) ?_)))))))
  refine q_top (congrArg nI (show min (max sz 0) 800 = sz by omega)) ?_
  refine q_putI (pc' := 17) dX9_open_14 rfl fl_RX9_61 ⟨by omega, rfl⟩ rfl (q_aload_n (pc' := 18) dX9_open_17 rfl rfl (q_iconst (pc' := 19) _ dX9_open_18 rfl kk_iconst_0 (q_putI (pc' := 22) dX9_open_19 rfl fl_RX9_63 ⟨by omega, rfl⟩ rfl (q_aload_n (pc' := 23) dX9_open_22 rfl rfl (q_iconst (pc' := 24) _ dX9_open_23 rfl kk_iconst_0 (q_putI (pc' := 27) dX9_open_24 rfl fl_RX9_66 ⟨by omega, rfl⟩ rfl (q_aload_n (pc' := 28) dX9_open_27 rfl rfl (q_iconst (pc' := 29) _ dX9_open_28 rfl kk_iconst_m1 (q_putI (pc' := 32) dX9_open_29 rfl fl_RX9_28 ⟨by omega, rfl⟩ rfl (q_iconst (pc' := 33) _ dX9_open_32 rfl kk_iconst_3 (q_ist_2 (pc' := 34) dX9_open_33 rfl (by decide) rfl (q_iconst (pc' := 35) _ dX9_open_34 rfl kk_iconst_0 (q_ist_3 (pc' := 36) dX9_open_35 rfl (by decide) rfl ?_)))))))))))))
  refine loop 801 0 _ J rfl ?_ ?_ (fun q hq => absurd hq (Nat.not_lt_zero q)) (fun q hq => absurd hq (Nat.not_lt_zero _)) ?_ mj_up_eq ⟨fun a g1 _ _ _ => ?_, fun a f _ _ => rfl⟩
  · rw [mj_up_ne2 (by decide), mj_up_ne2 (by decide), mj_up_ne2 (by decide), mj_up_eq]
  · rw [mj_up_ne2 (by decide), mj_up_ne2 (by decide), mj_up_eq]; rfl
  · rw [mj_up_ne2 (by decide), mj_up_eq]
  · rw [up_fI g1, up_fI g1, up_fI g1, up_fI g1]
end TOK6
