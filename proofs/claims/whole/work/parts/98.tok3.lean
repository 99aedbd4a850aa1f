/-! ===== the class: one TOKEN split ===== -/
/-- what the class keeps of a TOKEN at one place -/
def cTk (I : mj_M) (J : mj_J) (T : Nat → Nat) (i : Nat) (K : Nat → Nat) : Prop := (I 12 i = nI (K 5) ∧ I 13 i = nI (K 4)) ∧ (K 5 = 1 → I 14 i = nI (K 7) ∧ J 15 i = nJ (wP T (K 4) (K 7))) ∧ (K 5 = 2 → J 15 i = nJ (K 6))
/-- nothing changes but one TOKEN and where the reading is -/
def mTk (i : Nat) (I : mj_M) (J : mj_J) (I' : mj_M) (J' : mj_J) : Prop := (∀ a, a ≠ 10 → a ≠ 12 → a ≠ 13 → a ≠ 14 → I' a = I a) ∧ (∀ f, f ≠ 7 → I' 10 f = I 10 f) ∧ (∀ a k, a ≠ 10 → k ≠ i → I' a k = I a k) ∧ (∀ a k, ¬ (a = 15 ∧ k = i) → J' a k = J a k)
section TOK3
variable {w : mj_Wd} {l : Launch} {I : mj_M} {J : mj_J} {R : mj_R} {T : Nat → Nat} {sz i : Nat} {K : Nat → Nat}
theorem rt_X9_split (hV : mj_wV R) (ht : cTp I T sz) (hl : I 10 6 = nI sz) (hat : I 10 7 = nI (K 3)) (hK : K 3 ≤ sz) (hi : i < 801) : RtI w l yX9_split dd_X9_split [.ref 10, .int (nI i)] (472, I, J, R) (fun x I' J' R' => x = nI (tkK T sz K 5) ∧ I' 10 7 = nI (tkK T sz K 3) ∧ cTk I' J' T i (tkK T sz K) ∧ mTk i I J I' J' ∧ R' = R) := by
  have h800 := ht.1
  refine rt_intro2 (L := [some (.ref 10), some (.int (nI i))]) ⟨by decide, rfl, (fun h => by cases h)⟩ (Nat.le_of_ble_eq_true rfl) rfl (fun Y Q hQ => ?_)
  have fin : ∀ I2 J2, I2 10 7 = nI (tkK T sz K 3) → cTk I2 J2 T i (tkK T sz K) → mTk i I J I2 J2 → Wq dd_X9_split (mj_mk w l 472 Y) Q 151 [some (.ref 10), some (.int (nI i))] [] (472, I2, J2, R) := by
    intro I2 J2 h1 h2 h3
    have e5 := h2.1.1
    exact q_aload_n (pc' := 152) dX9_split_151 rfl rfl (q_getR (pc' := 155) dX9_split_152 rfl fr_RX9_15 ⟨by omega, rfl⟩ rfl (wV_9_2 hV) (by decide) (q_iload_n (pc' := 156) dX9_split_155 rfl rfl (q_ialde (pc' := 157) (i) dX9_split_156 rfl (by first | exact ⟨by omega, rfl⟩ | exact okaS hi hz (by decide) rfl | assumption) (by (first | (simp only [nI_add, pk_mul]; done) | (simp only [nI_add, pk_mul]; exact nI_e (by omega)) | exact nI_e (by omega))) (by omega) e5 (q_iret dX9_split_157 rfl (hQ _ _ _ _ ⟨_, rfl, rfl, h1, h2, h3, rfl⟩)))))
  have rest : ∀ s, tkE (tBl T sz) 801 (K 3) = s → s ≤ sz → Wq dd_X9_split (mj_mk w l 472 Y) Q 39 [some (.ref 10), some (.int (nI i))] [] (472, mj_up I 10 7 (nI s), J, R) := by
    intro s hs hss
    have e7 : mj_up I 10 7 (nI s) 10 7 = nI s := mj_up_eq
    have e72 : mj_up (mj_up I 10 7 (nI s)) 13 i (nI s) 10 7 = nI s := by rw [mj_up_ne (by decide)]; exact e7
    have e62 : mj_up (mj_up I 10 7 (nI s)) 13 i (nI s) 10 6 = nI sz := by rw [mj_up_ne (by decide), mj_up_ne2 (by decide)]; exact hl
    have ht2 : cTp (mj_up (mj_up I 10 7 (nI s)) 13 i (nI s)) T sz := ⟨h800, fun k hk => by rw [mj_up_ne (by decide), mj_up_ne (by decide)]; exact ht.2 k hk⟩
    by_cases hsz : s < sz
    · have hb := ht2.2 s hsz
      by_cases hp : tLt T sz s = true
      · have eK : tkK T sz K = tkP K s (if 8 < tkE (tLt T sz) 801 s - s then 4 else 1) 0 (tkE (tLt T sz) 801 s - s) (wV T s (tkE (tLt T sz) 801 s - s)) (tkE (tLt T sz) 801 s) := by
          unfold tkK
          rw [hs, if_neg (fun q => q hsz), if_pos hp]
        rw [eK] at fin
        have hd := rn_X9_splitWord (w := w) (l := l) (J := J) (i := i) hV ht2 e62 e72 hss hi rfl
        generalize tkE (tLt T sz) 801 s = e at fin hd
        refine q_aload_n (pc' := 40) dX9_split_39 rfl rfl (q_getR (pc' := 43) dX9_split_40 rfl fr_RX9_19 ⟨by omega, rfl⟩ rfl (wV_9_3 hV) (by decide) (q_iload_n (pc' := 44) dX9_split_43 rfl rfl (q_aload_n (pc' := 45) dX9_split_44 rfl rfl (q_getIe (pc' := 48) dX9_split_45 rfl fr_RX9_63 ⟨by omega, rfl⟩ rfl e7 (q_iast (pc' := 49) (i) dX9_split_48 rfl (by first | exact ⟨by omega, rfl⟩ | exact okaS hi hz (by decide) rfl | assumption) (by (first | (simp only [nI_add, pk_mul]; done) | (simp only [nI_add, pk_mul]; exact nI_e (by omega)) | exact nI_e (by omega))) (by omega) (q_aload_n (pc' := 50) dX9_split_49 rfl rfl (q_getIe (pc' := 53) dX9_split_50 rfl fr_RX9_63 ⟨by omega, rfl⟩ rfl e72 (q_aload_n (pc' := 54) dX9_split_53 rfl rfl (q_getIe (pc' := 57) dX9_split_54 rfl fr_RX9_61 ⟨by omega, rfl⟩ rfl e62 (q_icmp_lt (pc' := 60) (pt := 70) dX9_split_57 rfl rfl (fun _ => (q_aload_n (pc' := 71) dX9_split_70 rfl rfl (q_getR (pc' := 74) dX9_split_71 rfl fr_RX9_32 ⟨by omega, rfl⟩ rfl (wV_9_0 hV) (by decide) (q_aload_n (pc' := 75) dX9_split_74 rfl rfl ?_)))) (fun h9 => absurd (by (first | assumption | exact nI_le (by omega) (by omega) | exact nI_ge (by omega) (by omega) | exact nI_lt (by omega) (by omega) | exact nI_nlt (by omega) (by omega) | exact nI_ne (by omega) (by omega) (by omega) | exact nI_e (by omega) | decide)) h9)))))))))))
        refine q_getIe (pc' := 78) dX9_split_75 rfl fr_RX9_63 ⟨by omega, rfl⟩ rfl e72 (q_balde (pc' := 79) (s) dX9_split_78 rfl (by first | exact ⟨by omega, rfl⟩ | exact okaS hi hz (by decide) rfl | assumption) (by (first | (simp only [nI_add, pk_mul]; done) | (simp only [nI_add, pk_mul]; exact nI_e (by omega)) | exact nI_e (by omega))) (by omega) hb.1 (q_cSi (pc' := 82) dX9_split_79 rfl ml_RX9_83 ys_X9_isLetter (by decide) (rn_X9_isLetter hsz hb.2) rfl rfl (Nat.le_of_ble_eq_true rfl) (Nat.le_refl _) (q_ifb_eq (pc' := 85) (pt := 93) dX9_split_82 rfl rfl (fun h9 => Bool.noConfusion (Eq.trans (Eq.symm (hp)) h9)) (fun _ => (q_aload_n (pc' := 86) dX9_split_85 rfl rfl (q_iload_n (pc' := 87) dX9_split_86 rfl rfl (q_cVv (pc' := 90) dX9_split_87 rfl ml_RX9_86 yv_X9_splitWord (by decide) hd ⟨by omega, rfl⟩ rfl rfl (Nat.le_of_ble_eq_true rfl) (Nat.le_refl _) (q_goto (pc' := 151) dX9_split_90 rfl ?_))))))))
        refine fin _ _ ?_ ⟨⟨?_, ?_⟩, fun _ => ⟨?_, mj_up_eq⟩, fun q => ?_⟩ ⟨fun a h1 h2 h3 h4 => ?_, fun f hf => ?_, fun a k ha hk => ?_, fun a k hak => ?_⟩
        · rw [mj_up_ne (by decide), mj_up_ne (by decide), mj_up_eq]; rfl
        · rw [mj_up_ne (by decide), mj_up_eq]; rfl
        · rw [mj_up_ne (by decide), mj_up_ne (by decide), mj_up_ne (by decide), mj_up_eq]; rfl
        · rw [mj_up_eq]; rfl
        · have q2 : (if 8 < e - s then 4 else 1) = 2 := q
          split at q2 <;> cases q2
        · rw [up_fI h4, up_fI h2, up_fI h1, up_fI h3, up_fI h1]
        · rw [mj_up_ne (by decide), mj_up_ne (by decide), mj_up_ne2 hf, mj_up_ne (by decide), mj_up_ne2 hf]
        · rw [mj_up_ne2 hk, mj_up_ne2 hk, mj_up_ne ha, mj_up_ne2 hk, mj_up_ne ha]
        · exact if_neg hak
      · have hp' := Bool.eq_false_iff.mpr hp
        by_cases hg : tDg T sz s = true
        · have eK : tkK T sz K = tkP K s (if 3 < tkE (tDg T sz) 801 s - s ∨ tLt T sz (tkE (tDg T sz) 801 s) = true then 4 else 2) (nV T s (tkE (tDg T sz) 801 s - s)) 0 0 (tkE (tDg T sz) 801 s) := by
            unfold tkK
            rw [hs, if_neg (fun q => q hsz), if_neg hp, if_pos hg]
          rw [eK] at fin
          have hd := rn_X9_splitNumber (w := w) (l := l) (J := J) (i := i) hV ht2 e62 e72 hss hi rfl
          generalize tkE (tDg T sz) 801 s = e at fin hd
          refine q_aload_n (pc' := 40) dX9_split_39 rfl rfl (q_getR (pc' := 43) dX9_split_40 rfl fr_RX9_19 ⟨by omega, rfl⟩ rfl (wV_9_3 hV) (by decide) (q_iload_n (pc' := 44) dX9_split_43 rfl rfl (q_aload_n (pc' := 45) dX9_split_44 rfl rfl (q_getIe (pc' := 48) dX9_split_45 rfl fr_RX9_63 ⟨by omega, rfl⟩ rfl e7 (q_iast (pc' := 49) (i) dX9_split_48 rfl (by first | exact ⟨by omega, rfl⟩ | exact okaS hi hz (by decide) rfl | assumption) (by (first | (simp only [nI_add, pk_mul]; done) | (simp only [nI_add, pk_mul]; exact nI_e (by omega)) | exact nI_e (by omega))) (by omega) (q_aload_n (pc' := 50) dX9_split_49 rfl rfl (q_getIe (pc' := 53) dX9_split_50 rfl fr_RX9_63 ⟨by omega, rfl⟩ rfl e72 (q_aload_n (pc' := 54) dX9_split_53 rfl rfl (q_getIe (pc' := 57) dX9_split_54 rfl fr_RX9_61 ⟨by omega, rfl⟩ rfl e62 (q_icmp_lt (pc' := 60) (pt := 70) dX9_split_57 rfl rfl (fun _ => (q_aload_n (pc' := 71) dX9_split_70 rfl rfl (q_getR (pc' := 74) dX9_split_71 rfl fr_RX9_32 ⟨by omega, rfl⟩ rfl (wV_9_0 hV) (by decide) (q_aload_n (pc' := 75) dX9_split_74 rfl rfl ?_)))) (fun h9 => absurd (by (first | assumption | exact nI_le (by omega) (by omega) | exact nI_ge (by omega) (by omega) | exact nI_lt (by omega) (by omega) | exact nI_nlt (by omega) (by omega) | exact nI_ne (by omega) (by omega) (by omega) | exact nI_e (by omega) | decide)) h9)))))))))))
          refine q_getIe (pc' := 78) dX9_split_75 rfl fr_RX9_63 ⟨by omega, rfl⟩ rfl e72 (q_balde (pc' := 79) (s) dX9_split_78 rfl (by first | exact ⟨by omega, rfl⟩ | exact okaS hi hz (by decide) rfl | assumption) (by (first | (simp only [nI_add, pk_mul]; done) | (simp only [nI_add, pk_mul]; exact nI_e (by omega)) | exact nI_e (by omega))) (by omega) hb.1 (q_cSi (pc' := 82) dX9_split_79 rfl ml_RX9_83 ys_X9_isLetter (by decide) (rn_X9_isLetter hsz hb.2) rfl rfl (Nat.le_of_ble_eq_true rfl) (Nat.le_refl _) (q_ifb_eq (pc' := 85) (pt := 93) dX9_split_82 rfl rfl (fun _ => (q_aload_n (pc' := 94) dX9_split_93 rfl rfl (q_getR (pc' := 97) dX9_split_94 rfl fr_RX9_32 ⟨by omega, rfl⟩ rfl (wV_9_0 hV) (by decide) (q_aload_n (pc' := 98) dX9_split_97 rfl rfl (q_getIe (pc' := 101) dX9_split_98 rfl fr_RX9_63 ⟨by omega, rfl⟩ rfl e72 (q_balde (pc' := 102) (s) dX9_split_101 rfl (by first | exact ⟨by omega, rfl⟩ | exact okaS hi hz (by decide) rfl | assumption) (by (first | (simp only [nI_add, pk_mul]; done) | (simp only [nI_add, pk_mul]; exact nI_e (by omega)) | exact nI_e (by omega))) (by omega) hb.1 (q_cSi (pc' := 105) dX9_split_102 rfl ml_RX9_90 ys_X9_isDigit (by decide) (rn_X9_isDigit hsz hb.2) rfl rfl (Nat.le_of_ble_eq_true rfl) (Nat.le_refl _) (q_ifb_eq (pc' := 108) (pt := 116) dX9_split_105 rfl rfl (fun h9 => Bool.noConfusion (Eq.trans (Eq.symm (hg)) h9)) (fun _ => (q_aload_n (pc' := 109) dX9_split_108 rfl rfl (q_iload_n (pc' := 110) dX9_split_109 rfl rfl (q_cVv (pc' := 113) dX9_split_110 rfl ml_RX9_93 yv_X9_splitNumber (by decide) hd ⟨by omega, rfl⟩ rfl rfl (Nat.le_of_ble_eq_true rfl) (Nat.le_refl _) ?_)))))))))))) (fun h9 => Bool.noConfusion (Eq.trans (Eq.symm (hp')) h9)))))
          refine q_goto (pc' := 151) dX9_split_113 rfl ?_
          refine fin _ _ ?_ ⟨⟨?_, ?_⟩, fun q => ?_, fun _ => mj_up_eq⟩ ⟨fun a h1 h2 h3 h4 => ?_, fun f hf => ?_, fun a k ha hk => ?_, fun a k hak => ?_⟩
          · rw [mj_up_ne (by decide), mj_up_ne (by decide), mj_up_eq]; rfl
          · rw [mj_up_ne (by decide), mj_up_eq]; rfl
          · rw [mj_up_ne (by decide), mj_up_ne (by decide), mj_up_ne (by decide), mj_up_eq]; rfl
          · have q2 : (if 3 < e - s ∨ tLt T sz e = true then 4 else 2) = 1 := q
            split at q2 <;> cases q2
          · rw [up_fI h4, up_fI h2, up_fI h1, up_fI h3, up_fI h1]
          · rw [mj_up_ne (by decide), mj_up_ne (by decide), mj_up_ne2 hf, mj_up_ne (by decide), mj_up_ne2 hf]
          · rw [mj_up_ne2 hk, mj_up_ne2 hk, mj_up_ne ha, mj_up_ne2 hk, mj_up_ne ha]
          · exact if_neg hak
        · have hg' := Bool.eq_false_iff.mpr hg
          have eK : tkK T sz K = tkP K s (if T s = 59 then 3 else 4) 0 0 0 (s + 1) := by
            unfold tkK
            rw [hs, if_neg (fun q => q hsz), if_neg hp, if_neg hg]
          rw [eK] at fin
          have e73 : ∀ v, mj_up (mj_up (mj_up I 10 7 (nI s)) 13 i (nI s)) 12 i v 10 7 = nI s := fun v => by rw [mj_up_ne (by decide)]; exact e72
          have last : ∀ v : Nat, v = (if T s = 59 then 3 else 4) → Wq dd_X9_split (mj_mk w l 472 Y) Q 141 [some (.ref 10), some (.int (nI i))] [] (472, mj_up (mj_up (mj_up I 10 7 (nI s)) 13 i (nI s)) 12 i (nI v), J, R) := by
            intro v hv
            refine q_aload_n (pc' := 142) dX9_split_141 rfl rfl (q_dup_a (pc' := 143) dX9_split_142 rfl (q_getIe (pc' := 146) dX9_split_143 rfl fr_RX9_63 ⟨by omega, rfl⟩ rfl (e73 _) (q_iconst (pc' := 147) _ dX9_split_146 rfl kk_iconst_1 (q_iadd (pc' := 148) dX9_split_147 rfl ?_))))
            refine q_top (nI_add _ _) ?_
            refine q_putI (pc' := 151) dX9_split_148 rfl fl_RX9_63 ⟨by omega, rfl⟩ rfl ?_
            refine fin _ _ ?_ ⟨⟨?_, ?_⟩, fun q => ?_, fun q => ?_⟩ ⟨fun a h1 h2 h3 h4 => ?_, fun f hf => ?_, fun a k ha hk => ?_, fun a k hak => rfl⟩
            · rw [mj_up_eq]; rfl
            · rw [mj_up_ne (by decide), mj_up_eq, hv]; rfl
            · rw [mj_up_ne (by decide), mj_up_ne (by decide), mj_up_eq]; rfl
            · have q2 : (if T s = 59 then 3 else 4) = 1 := q
              split at q2 <;> cases q2
            · have q2 : (if T s = 59 then 3 else 4) = 2 := q
              split at q2 <;> cases q2
            · rw [up_fI h1, up_fI h2, up_fI h3, up_fI h1]
            · rw [mj_up_ne2 hf, mj_up_ne (by decide), mj_up_ne (by decide), mj_up_ne2 hf]
            · rw [mj_up_ne ha, mj_up_ne2 hk, mj_up_ne2 hk, mj_up_ne ha]
          have hsg := sB_sg (T s) hb.2
          by_cases h59 : T s = 59
          · rw [decide_eq_true h59] at hsg
            have h1 := of_decide_eq_true hsg
            refine q_aload_n (pc' := 40) dX9_split_39 rfl rfl (q_getR (pc' := 43) dX9_split_40 rfl fr_RX9_19 ⟨by omega, rfl⟩ rfl (wV_9_3 hV) (by decide) (q_iload_n (pc' := 44) dX9_split_43 rfl rfl (q_aload_n (pc' := 45) dX9_split_44 rfl rfl (q_getIe (pc' := 48) dX9_split_45 rfl fr_RX9_63 ⟨by omega, rfl⟩ rfl e7 (q_iast (pc' := 49) (i) dX9_split_48 rfl (by first | exact ⟨by omega, rfl⟩ | exact okaS hi hz (by decide) rfl | assumption) (by (first | (simp only [nI_add, pk_mul]; done) | (simp only [nI_add, pk_mul]; exact nI_e (by omega)) | exact nI_e (by omega))) (by omega) (q_aload_n (pc' := 50) dX9_split_49 rfl rfl (q_getIe (pc' := 53) dX9_split_50 rfl fr_RX9_63 ⟨by omega, rfl⟩ rfl e72 (q_aload_n (pc' := 54) dX9_split_53 rfl rfl (q_getIe (pc' := 57) dX9_split_54 rfl fr_RX9_61 ⟨by omega, rfl⟩ rfl e62 (q_icmp_lt (pc' := 60) (pt := 70) dX9_split_57 rfl rfl (fun _ => (q_aload_n (pc' := 71) dX9_split_70 rfl rfl (q_getR (pc' := 74) dX9_split_71 rfl fr_RX9_32 ⟨by omega, rfl⟩ rfl (wV_9_0 hV) (by decide) (q_aload_n (pc' := 75) dX9_split_74 rfl rfl ?_)))) (fun h9 => absurd (by (first | assumption | exact nI_le (by omega) (by omega) | exact nI_ge (by omega) (by omega) | exact nI_lt (by omega) (by omega) | exact nI_nlt (by omega) (by omega) | exact nI_ne (by omega) (by omega) (by omega) | exact nI_e (by omega) | decide)) h9)))))))))))
            refine q_getIe (pc' := 78) dX9_split_75 rfl fr_RX9_63 ⟨by omega, rfl⟩ rfl e72 (q_balde (pc' := 79) (s) dX9_split_78 rfl (by first | exact ⟨by omega, rfl⟩ | exact okaS hi hz (by decide) rfl | assumption) (by (first | (simp only [nI_add, pk_mul]; done) | (simp only [nI_add, pk_mul]; exact nI_e (by omega)) | exact nI_e (by omega))) (by omega) hb.1 (q_cSi (pc' := 82) dX9_split_79 rfl ml_RX9_83 ys_X9_isLetter (by decide) (rn_X9_isLetter hsz hb.2) rfl rfl (Nat.le_of_ble_eq_true rfl) (Nat.le_refl _) (q_ifb_eq (pc' := 85) (pt := 93) dX9_split_82 rfl rfl (fun _ => (q_aload_n (pc' := 94) dX9_split_93 rfl rfl (q_getR (pc' := 97) dX9_split_94 rfl fr_RX9_32 ⟨by omega, rfl⟩ rfl (wV_9_0 hV) (by decide) (q_aload_n (pc' := 98) dX9_split_97 rfl rfl (q_getIe (pc' := 101) dX9_split_98 rfl fr_RX9_63 ⟨by omega, rfl⟩ rfl e72 (q_balde (pc' := 102) (s) dX9_split_101 rfl (by first | exact ⟨by omega, rfl⟩ | exact okaS hi hz (by decide) rfl | assumption) (by (first | (simp only [nI_add, pk_mul]; done) | (simp only [nI_add, pk_mul]; exact nI_e (by omega)) | exact nI_e (by omega))) (by omega) hb.1 (q_cSi (pc' := 105) dX9_split_102 rfl ml_RX9_90 ys_X9_isDigit (by decide) (rn_X9_isDigit hsz hb.2) rfl rfl (Nat.le_of_ble_eq_true rfl) (Nat.le_refl _) (q_ifb_eq (pc' := 108) (pt := 116) dX9_split_105 rfl rfl (fun _ => (q_aload_n (pc' := 117) dX9_split_116 rfl rfl (q_getR (pc' := 120) dX9_split_117 rfl fr_RX9_15 ⟨by omega, rfl⟩ rfl (wV_9_2 hV) (by decide) (q_iload_n (pc' := 121) dX9_split_120 rfl rfl ?_)))) (fun h9 => Bool.noConfusion (Eq.trans (Eq.symm (hg')) h9)))))))))) (fun h9 => Bool.noConfusion (Eq.trans (Eq.symm (hp')) h9)))))
            refine q_aload_n (pc' := 122) dX9_split_121 rfl rfl (q_getR (pc' := 125) dX9_split_122 rfl fr_RX9_32 ⟨by omega, rfl⟩ rfl (wV_9_0 hV) (by decide) (q_aload_n (pc' := 126) dX9_split_125 rfl rfl (q_getIe (pc' := 129) dX9_split_126 rfl fr_RX9_63 ⟨by omega, rfl⟩ rfl e72 (q_balde (pc' := 130) (s) dX9_split_129 rfl (by first | exact ⟨by omega, rfl⟩ | exact okaS hi hz (by decide) rfl | assumption) (by (first | (simp only [nI_add, pk_mul]; done) | (simp only [nI_add, pk_mul]; exact nI_e (by omega)) | exact nI_e (by omega))) (by omega) hb.1 (q_bipush (pc' := 132) _ dX9_split_130 rfl kk_bipush_59 (q_icmp_ne (pc' := 135) (pt := 139) dX9_split_132 rfl rfl (fun h9 => absurd (h1) h9) (fun _ => (q_iconst (pc' := 136) _ dX9_split_135 rfl kk_iconst_3 (q_goto (pc' := 140) dX9_split_136 rfl (q_iast (pc' := 141) (i) dX9_split_140 rfl (by first | exact ⟨by omega, rfl⟩ | exact okaS hi hz (by decide) rfl | assumption) (by (first | (simp only [nI_add, pk_mul]; done) | (simp only [nI_add, pk_mul]; exact nI_e (by omega)) | exact nI_e (by omega))) (by omega) ?_))))))))))
            exact last 3 (if_pos h59).symm
          · rw [decide_eq_false h59] at hsg
            have h1 := of_decide_eq_false hsg
            refine q_aload_n (pc' := 40) dX9_split_39 rfl rfl (q_getR (pc' := 43) dX9_split_40 rfl fr_RX9_19 ⟨by omega, rfl⟩ rfl (wV_9_3 hV) (by decide) (q_iload_n (pc' := 44) dX9_split_43 rfl rfl (q_aload_n (pc' := 45) dX9_split_44 rfl rfl (q_getIe (pc' := 48) dX9_split_45 rfl fr_RX9_63 ⟨by omega, rfl⟩ rfl e7 (q_iast (pc' := 49) (i) dX9_split_48 rfl (by first | exact ⟨by omega, rfl⟩ | exact okaS hi hz (by decide) rfl | assumption) (by (first | (simp only [nI_add, pk_mul]; done) | (simp only [nI_add, pk_mul]; exact nI_e (by omega)) | exact nI_e (by omega))) (by omega) (q_aload_n (pc' := 50) dX9_split_49 rfl rfl (q_getIe (pc' := 53) dX9_split_50 rfl fr_RX9_63 ⟨by omega, rfl⟩ rfl e72 (q_aload_n (pc' := 54) dX9_split_53 rfl rfl (q_getIe (pc' := 57) dX9_split_54 rfl fr_RX9_61 ⟨by omega, rfl⟩ rfl e62 (q_icmp_lt (pc' := 60) (pt := 70) dX9_split_57 rfl rfl (fun _ => (q_aload_n (pc' := 71) dX9_split_70 rfl rfl (q_getR (pc' := 74) dX9_split_71 rfl fr_RX9_32 ⟨by omega, rfl⟩ rfl (wV_9_0 hV) (by decide) (q_aload_n (pc' := 75) dX9_split_74 rfl rfl ?_)))) (fun h9 => absurd (by (first | assumption | exact nI_le (by omega) (by omega) | exact nI_ge (by omega) (by omega) | exact nI_lt (by omega) (by omega) | exact nI_nlt (by omega) (by omega) | exact nI_ne (by omega) (by omega) (by omega) | exact nI_e (by omega) | decide)) h9)))))))))))
            refine q_getIe (pc' := 78) dX9_split_75 rfl fr_RX9_63 ⟨by omega, rfl⟩ rfl e72 (q_balde (pc' := 79) (s) dX9_split_78 rfl (by first | exact ⟨by omega, rfl⟩ | exact okaS hi hz (by decide) rfl | assumption) (by (first | (simp only [nI_add, pk_mul]; done) | (simp only [nI_add, pk_mul]; exact nI_e (by omega)) | exact nI_e (by omega))) (by omega) hb.1 (q_cSi (pc' := 82) dX9_split_79 rfl ml_RX9_83 ys_X9_isLetter (by decide) (rn_X9_isLetter hsz hb.2) rfl rfl (Nat.le_of_ble_eq_true rfl) (Nat.le_refl _) (q_ifb_eq (pc' := 85) (pt := 93) dX9_split_82 rfl rfl (fun _ => (q_aload_n (pc' := 94) dX9_split_93 rfl rfl (q_getR (pc' := 97) dX9_split_94 rfl fr_RX9_32 ⟨by omega, rfl⟩ rfl (wV_9_0 hV) (by decide) (q_aload_n (pc' := 98) dX9_split_97 rfl rfl (q_getIe (pc' := 101) dX9_split_98 rfl fr_RX9_63 ⟨by omega, rfl⟩ rfl e72 (q_balde (pc' := 102) (s) dX9_split_101 rfl (by first | exact ⟨by omega, rfl⟩ | exact okaS hi hz (by decide) rfl | assumption) (by (first | (simp only [nI_add, pk_mul]; done) | (simp only [nI_add, pk_mul]; exact nI_e (by omega)) | exact nI_e (by omega))) (by omega) hb.1 (q_cSi (pc' := 105) dX9_split_102 rfl ml_RX9_90 ys_X9_isDigit (by decide) (rn_X9_isDigit hsz hb.2) rfl rfl (Nat.le_of_ble_eq_true rfl) (Nat.le_refl _) (q_ifb_eq (pc' := 108) (pt := 116) dX9_split_105 rfl rfl (fun _ => (q_aload_n (pc' := 117) dX9_split_116 rfl rfl (q_getR (pc' := 120) dX9_split_117 rfl fr_RX9_15 ⟨by omega, rfl⟩ rfl (wV_9_2 hV) (by decide) (q_iload_n (pc' := 121) dX9_split_120 rfl rfl ?_)))) (fun h9 => Bool.noConfusion (Eq.trans (Eq.symm (hg')) h9)))))))))) (fun h9 => Bool.noConfusion (Eq.trans (Eq.symm (hp')) h9)))))
            refine q_aload_n (pc' := 122) dX9_split_121 rfl rfl (q_getR (pc' := 125) dX9_split_122 rfl fr_RX9_32 ⟨by omega, rfl⟩ rfl (wV_9_0 hV) (by decide) (q_aload_n (pc' := 126) dX9_split_125 rfl rfl (q_getIe (pc' := 129) dX9_split_126 rfl fr_RX9_63 ⟨by omega, rfl⟩ rfl e72 (q_balde (pc' := 130) (s) dX9_split_129 rfl (by first | exact ⟨by omega, rfl⟩ | exact okaS hi hz (by decide) rfl | assumption) (by (first | (simp only [nI_add, pk_mul]; done) | (simp only [nI_add, pk_mul]; exact nI_e (by omega)) | exact nI_e (by omega))) (by omega) hb.1 (q_bipush (pc' := 132) _ dX9_split_130 rfl kk_bipush_59 (q_icmp_ne (pc' := 135) (pt := 139) dX9_split_132 rfl rfl (fun _ => (q_iconst (pc' := 140) _ dX9_split_139 rfl kk_iconst_4 (q_iast (pc' := 141) (i) dX9_split_140 rfl (by first | exact ⟨by omega, rfl⟩ | exact okaS hi hz (by decide) rfl | assumption) (by (first | (simp only [nI_add, pk_mul]; done) | (simp only [nI_add, pk_mul]; exact nI_e (by omega)) | exact nI_e (by omega))) (by omega) ?_))) (fun h9 => absurd h9 (h1))))))))
            exact last 4 (if_neg h59).symm
    · have eK : tkK T sz K = tkP K s 0 0 0 0 s := by
        unfold tkK
        rw [hs, if_pos hsz]
      rw [eK] at fin
      refine q_aload_n (pc' := 40) dX9_split_39 rfl rfl (q_getR (pc' := 43) dX9_split_40 rfl fr_RX9_19 ⟨by omega, rfl⟩ rfl (wV_9_3 hV) (by decide) (q_iload_n (pc' := 44) dX9_split_43 rfl rfl (q_aload_n (pc' := 45) dX9_split_44 rfl rfl (q_getIe (pc' := 48) dX9_split_45 rfl fr_RX9_63 ⟨by omega, rfl⟩ rfl e7 (q_iast (pc' := 49) (i) dX9_split_48 rfl (by first | exact ⟨by omega, rfl⟩ | exact okaS hi hz (by decide) rfl | assumption) (by (first | (simp only [nI_add, pk_mul]; done) | (simp only [nI_add, pk_mul]; exact nI_e (by omega)) | exact nI_e (by omega))) (by omega) (q_aload_n (pc' := 50) dX9_split_49 rfl rfl (q_getIe (pc' := 53) dX9_split_50 rfl fr_RX9_63 ⟨by omega, rfl⟩ rfl e72 (q_aload_n (pc' := 54) dX9_split_53 rfl rfl (q_getIe (pc' := 57) dX9_split_54 rfl fr_RX9_61 ⟨by omega, rfl⟩ rfl e62 (q_icmp_lt (pc' := 60) (pt := 70) dX9_split_57 rfl rfl (fun h9 => absurd h9 (by (first | assumption | exact nI_le (by omega) (by omega) | exact nI_ge (by omega) (by omega) | exact nI_lt (by omega) (by omega) | exact nI_nlt (by omega) (by omega) | exact nI_ne (by omega) (by omega) (by omega) | exact nI_e (by omega) | decide))) (fun _ => (q_aload_n (pc' := 61) dX9_split_60 rfl rfl (q_getR (pc' := 64) dX9_split_61 rfl fr_RX9_15 ⟨by omega, rfl⟩ rfl (wV_9_2 hV) (by decide) (q_iload_n (pc' := 65) dX9_split_64 rfl rfl ?_))))))))))))))
      refine q_iconst (pc' := 66) _ dX9_split_65 rfl kk_iconst_0 (q_iast (pc' := 67) (i) dX9_split_66 rfl (by first | exact ⟨by omega, rfl⟩ | exact okaS hi hz (by decide) rfl | assumption) (by (first | (simp only [nI_add, pk_mul]; done) | (simp only [nI_add, pk_mul]; exact nI_e (by omega)) | exact nI_e (by omega))) (by omega) (q_goto (pc' := 151) dX9_split_67 rfl ?_))
      refine fin _ _ ?_ ⟨⟨?_, ?_⟩, fun q => (by cases q), fun q => (by cases q)⟩ ⟨fun a h1 h2 h3 h4 => ?_, fun f hf => ?_, fun a k ha hk => ?_, fun a k hak => rfl⟩
      · rw [mj_up_ne (by decide)]; exact e72
      · rw [mj_up_eq]; rfl
      · rw [mj_up_ne (by decide), mj_up_eq]; rfl
      · rw [up_fI h2, up_fI h3, up_fI h1]
      · rw [mj_up_ne (by decide), mj_up_ne (by decide), mj_up_ne2 hf]
      · rw [mj_up_ne2 hk, mj_up_ne2 hk, mj_up_ne ha]
  have loop : ∀ f k, k ≤ sz → sz < k + f → tkE (tBl T sz) f k = tkE (tBl T sz) 801 (K 3) → Wq dd_X9_split (mj_mk w l 472 Y) Q 0 [some (.ref 10), some (.int (nI i))] [] (472, mj_up I 10 7 (nI k), J, R) := by
    intro f
    induction f with
    | zero => intro k h1 h2; omega
    | succ f ih =>
      intro k h1 h2 h3
      have e7 : mj_up I 10 7 (nI k) 10 7 = nI k := mj_up_eq
      have e6 : mj_up I 10 7 (nI k) 10 6 = nI sz := (mj_up_ne2 (by decide)).trans hl
      have h3' : (if tBl T sz k = true then tkE (tBl T sz) f (k + 1) else k) = tkE (tBl T sz) 801 (K 3) := h3
      by_cases hs : k < sz
      · have hb := ht.2 k hs
        have eb : mj_up I 10 7 (nI k) 1 k = sB (T k) := (mj_up_ne (by decide)).trans hb.1
        by_cases hp : tBl T sz k = true
        · rw [if_pos hp] at h3'
          refine q_aload_n (pc' := 1) dX9_split_0 rfl rfl (q_getIe (pc' := 4) dX9_split_1 rfl fr_RX9_63 ⟨by omega, rfl⟩ rfl e7 (q_aload_n (pc' := 5) dX9_split_4 rfl rfl (q_getIe (pc' := 8) dX9_split_5 rfl fr_RX9_61 ⟨by omega, rfl⟩ rfl e6 (q_icmp_ge (pc' := 11) (pt := 39) dX9_split_8 rfl rfl (fun h9 => absurd h9 (by (first | assumption | exact nI_le (by omega) (by omega) | exact nI_ge (by omega) (by omega) | exact nI_lt (by omega) (by omega) | exact nI_nlt (by omega) (by omega) | exact nI_ne (by omega) (by omega) (by omega) | exact nI_e (by omega) | decide))) (fun _ => (q_aload_n (pc' := 12) dX9_split_11 rfl rfl (q_getR (pc' := 15) dX9_split_12 rfl fr_RX9_32 ⟨by omega, rfl⟩ rfl (wV_9_0 hV) (by decide) (q_aload_n (pc' := 16) dX9_split_15 rfl rfl (q_getIe (pc' := 19) dX9_split_16 rfl fr_RX9_63 ⟨by omega, rfl⟩ rfl e7 (q_balde (pc' := 20) (k) dX9_split_19 rfl (by first | exact ⟨by omega, rfl⟩ | exact okaS hi hz (by decide) rfl | assumption) (by (first | (simp only [nI_add, pk_mul]; done) | (simp only [nI_add, pk_mul]; exact nI_e (by omega)) | exact nI_e (by omega))) (by omega) eb (q_cSi (pc' := 23) dX9_split_20 rfl ml_RX9_79 ys_X9_isBlank (by decide) (rn_X9_isBlank hs hb.2) rfl rfl (Nat.le_of_ble_eq_true rfl) (Nat.le_refl _) (q_ifb_eq (pc' := 26) (pt := 39) dX9_split_23 rfl rfl (fun h9 => Bool.noConfusion (Eq.trans (Eq.symm (hp)) h9)) (fun _ => (q_aload_n (pc' := 27) dX9_split_26 rfl rfl (q_dup_a (pc' := 28) dX9_split_27 rfl ?_)))))))))))))))
          refine q_getIe (pc' := 31) dX9_split_28 rfl fr_RX9_63 ⟨by omega, rfl⟩ rfl e7 (q_iconst (pc' := 32) _ dX9_split_31 rfl kk_iconst_1 (q_iadd (pc' := 33) dX9_split_32 rfl ?_))
          refine q_top (nI_add _ _) ?_
          refine q_putI (pc' := 36) dX9_split_33 rfl fl_RX9_63 ⟨by omega, rfl⟩ rfl (q_goto (pc' := 0) dX9_split_36 rfl ?_)
          rw [mj_up_up]
          exact ih (k + 1) (by omega) (by omega) h3'
        · rw [if_neg hp] at h3'
          have hp' := Bool.eq_false_iff.mpr hp
          refine q_aload_n (pc' := 1) dX9_split_0 rfl rfl (q_getIe (pc' := 4) dX9_split_1 rfl fr_RX9_63 ⟨by omega, rfl⟩ rfl e7 (q_aload_n (pc' := 5) dX9_split_4 rfl rfl (q_getIe (pc' := 8) dX9_split_5 rfl fr_RX9_61 ⟨by omega, rfl⟩ rfl e6 (q_icmp_ge (pc' := 11) (pt := 39) dX9_split_8 rfl rfl (fun h9 => absurd h9 (by (first | assumption | exact nI_le (by omega) (by omega) | exact nI_ge (by omega) (by omega) | exact nI_lt (by omega) (by omega) | exact nI_nlt (by omega) (by omega) | exact nI_ne (by omega) (by omega) (by omega) | exact nI_e (by omega) | decide))) (fun _ => (q_aload_n (pc' := 12) dX9_split_11 rfl rfl (q_getR (pc' := 15) dX9_split_12 rfl fr_RX9_32 ⟨by omega, rfl⟩ rfl (wV_9_0 hV) (by decide) (q_aload_n (pc' := 16) dX9_split_15 rfl rfl (q_getIe (pc' := 19) dX9_split_16 rfl fr_RX9_63 ⟨by omega, rfl⟩ rfl e7 (q_balde (pc' := 20) (k) dX9_split_19 rfl (by first | exact ⟨by omega, rfl⟩ | exact okaS hi hz (by decide) rfl | assumption) (by (first | (simp only [nI_add, pk_mul]; done) | (simp only [nI_add, pk_mul]; exact nI_e (by omega)) | exact nI_e (by omega))) (by omega) eb (q_cSi (pc' := 23) dX9_split_20 rfl ml_RX9_79 ys_X9_isBlank (by decide) (rn_X9_isBlank hs hb.2) rfl rfl (Nat.le_of_ble_eq_true rfl) (Nat.le_refl _) (q_ifb_eq (pc' := 26) (pt := 39) dX9_split_23 rfl rfl (fun _ => ?_) (fun h9 => Bool.noConfusion (Eq.trans (Eq.symm (hp')) h9))))))))))))))
          exact rest k h3'.symm h1
      · have hp : tBl T sz k = false := decide_eq_false (fun q => hs q.1)
        rw [if_neg (by rw [hp]; decide)] at h3'
        refine q_aload_n (pc' := 1) dX9_split_0 rfl rfl (q_getIe (pc' := 4) dX9_split_1 rfl fr_RX9_63 ⟨by omega, rfl⟩ rfl e7 (q_aload_n (pc' := 5) dX9_split_4 rfl rfl (q_getIe (pc' := 8) dX9_split_5 rfl fr_RX9_61 ⟨by omega, rfl⟩ rfl e6 (q_icmp_ge (pc' := 11) (pt := 39) dX9_split_8 rfl rfl (fun _ => ?_) (fun h9 => absurd (by (first | assumption | exact nI_le (by omega) (by omega) | exact nI_ge (by omega) (by omega) | exact nI_lt (by omega) (by omega) | exact nI_nlt (by omega) (by omega) | exact nI_ne (by omega) (by omega) (by omega) | exact nI_e (by omega) | decide)) h9)))))
        exact rest k h3'.symm h1
  have := loop 801 (K 3) hK (by omega) rfl
  rw [mj_up_self hat] at this
  exact this
end TOK3
