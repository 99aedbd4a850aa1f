/-! ===== the class: STOP ===== -/
theorem cR_up16 {I : mj_M} {i j x : Nat} {b A : St} (h : cR I i b A) : cR I i b (mj_up A 16 j x) :=
  ⟨cRr_A (up_f (by decide)) (up_f (by decide)) (up_f (by decide)) (up_f (by decide)) h.1, cRt_A (mj_up_ne (by decide)) (mj_up_ne (by decide)) (up_f (by decide)) (up_f (by decide)) (up_f (by decide)) (up_f (by decide)) (up_f (by decide)) h.2.1, cRs_A (up_f (by decide)) (up_f (by decide)) (up_f (by decide)) (up_f (by decide)) (up_f (by decide)) (up_f (by decide)) h.2.2⟩
theorem clrW_e {A : St} {id : Nat} : aClrW A id = mj_up (aClr A id) 16 0 (A 16 0 + A 6 id) := by
  unfold aClrW aClr aNoOld
  funext f j
  unfold mj_up
  by_cases h16 : f = 16 ∧ j = 0
  · obtain ⟨rfl, rfl⟩ := h16; simp
  · by_cases h6 : f = 6 ∧ j = id
    · obtain ⟨rfl, rfl⟩ := h6; simp
    · by_cases h5 : f = 5 ∧ j = id
      · obtain ⟨rfl, rfl⟩ := h5; simp
      · by_cases h4 : f = 4 ∧ j = id
        · obtain ⟨rfl, rfl⟩ := h4; simp
        · by_cases h3 : f = 3 ∧ j = id
          · obtain ⟨rfl, rfl⟩ := h3; simp
          · rw [if_neg h5, if_neg h4, if_neg h3, if_neg h6, if_neg h16, if_neg h16, if_neg h6, if_neg h5, if_neg h4, if_neg h3]
theorem fr_g {d p g : Nat} {A : St} (h0 : g ≠ 0) (h1 : g ≠ 1) (h2 : g ≠ 2) (h16 : g ≠ 16) : aFr d p A g = A g := by
  unfold aFr aSets
  split
  · rw [up_f h16, up_f h1, up_f h0, up_f h2]
  · rfl
theorem stop1_g {b A : St} {d g : Nat} (h0 : g ≠ 0) (h1 : g ≠ 1) (h2 : g ≠ 2) (h16 : g ≠ 16) : aStop1 b d A g = A g := by
  unfold aStop1
  refine itN_P (P := fun B => B g = A g) (n := b 0 0) (up_f h16) (fun p B _ hB => ?_) (b 0 0) (Nat.le_refl _)
  exact itN_P (P := fun B => B g = A g) (n := b 0 1) hB (fun v C _ hC => (fr_g h0 h1 h2 h16).trans hC) (b 0 1) (Nat.le_refl _)
/-- LINES that there are not have nothing -/
def clrL (b A : St) (d : Nat) : Prop := ∀ k, b 2 d ≤ k → k < 8 → A 3 (8 * d + k) = 0 ∧ A 4 (8 * d + k) = 0 ∧ A 5 (8 * d + k) = 0 ∧ A 6 (8 * d + k) = 0
theorem clrW_same {A : St} {id : Nat} (h : A 3 id = 0 ∧ A 4 id = 0 ∧ A 5 id = 0 ∧ A 6 id = 0) : aClrW A id = A := by
  obtain ⟨h3, h4, h5, h6⟩ := h
  rw [clrW_e, h6, Nat.add_zero]
  unfold aClr aNoOld
  rw [mj_up_self h3, mj_up_self h4, mj_up_self h5, mj_up_self h6, mj_up_self rfl]
theorem stop2_e {A : St} {d n : Nat} (hn : n ≤ 8) (h : ∀ k, n ≤ k → k < 8 → A 3 (8 * d + k) = 0 ∧ A 4 (8 * d + k) = 0 ∧ A 5 (8 * d + k) = 0 ∧ A 6 (8 * d + k) = 0) : aStop2 d A = itN (fun k A => aClrW A (8 * d + k)) n A := by
  unfold aStop2
  have keep : ∀ f, (f = 3 ∨ f = 4 ∨ f = 5 ∨ f = 6) → ∀ m j, 8 * d + m ≤ j → itN (fun k A => aClrW A (8 * d + k)) m A f j = A f j := by
    intro f hf m
    induction m with
    | zero => intro j _; rfl
    | succ m ih =>
      intro j hj
      show aClrW (itN (fun k A => aClrW A (8 * d + k)) m A) (8 * d + m) f j = _
      unfold aClrW aNoOld
      rw [mj_up_ne2 (by omega), mj_up_ne2 (by omega), mj_up_ne2 (by omega), mj_up_ne2 (by omega), mj_up_ne (by omega)]
      exact ih j (by omega)
  have key : ∀ m, n + m ≤ 8 → itN (fun k A => aClrW A (8 * d + k)) (n + m) A = itN (fun k A => aClrW A (8 * d + k)) n A := by
    intro m
    induction m with
    | zero => intro _; rfl
    | succ m ih =>
      intro hm
      show aClrW (itN (fun k A => aClrW A (8 * d + k)) (n + m) A) (8 * d + (n + m)) = _
      have hz := h (n + m) (by omega) (by omega)
      rw [clrW_same ⟨(keep 3 (by decide) _ _ (Nat.le_refl _)).trans hz.1, (keep 4 (by decide) _ _ (Nat.le_refl _)).trans hz.2.1, (keep 5 (by decide) _ _ (Nat.le_refl _)).trans hz.2.2.1, (keep 6 (by decide) _ _ (Nat.le_refl _)).trans hz.2.2.2⟩]
      exact ih (by omega)
  have := key (8 - n) (by omega)
  rw [show n + (8 - n) = 8 by omega] at this
  exact this
section ST5
variable {w : mj_Wd} {l : Launch} {I : mj_M} {J : mj_J} {R : mj_R} {b A : St} {i : Nat}
theorem rn_X5_halt0 {d : Nat} (hi : i < 21) (h : cR I i b A) (hd : d < 10) (h7 : A 7 d ≠ 1) : Rn w l yX5_halt dd_X5_halt [.ref (sA i 0), .int (nI d)] (472, I, J, R) (some (.int (-1))) (472, I, J, R) := by
  have hz : 50 + 20 * i ≤ 472 := by omega
  refine rn_intro2 (L := [some (.ref (sA i 0)), some (.int (nI d)), none, none, none, none, none]) ⟨by decide, rfl, (fun h => by cases h)⟩ (Nat.le_refl _) (Nat.le_of_ble_eq_true rfl) rfl (fun Y Q hQ => ?_)
  exact q_aload_n (pc' := 1) dX5_halt_0 rfl rfl (q_iload_n (pc' := 2) dX5_halt_1 rfl rfl (q_cVi (pc' := 5) dX5_halt_2 rfl ml_RX5_121 yv_X5_isStarted (by decide) (rn_X5_isStarted hi h.2.2 hd) (okS hi hz (by decide) rfl) rfl rfl (Nat.le_of_ble_eq_true rfl) (Nat.le_refl _) (q_ifb_ne (pc' := 8) (pt := 10) dX5_halt_5 rfl rfl (fun h9 => Bool.noConfusion (Eq.trans (Eq.symm (beq_eq_false_iff_ne.mpr h7)) h9)) (fun _ => (q_iconst (pc' := 9) _ dX5_halt_8 rfl kk_iconst_m1 (q_iret dX5_halt_9 rfl hQ))))))
theorem rs_X5_halt {d : Nat} (hi : i < 21) (hS : mj_wS R i) (hB : mj_wB R 4) (hb : cB I b) (hk : bOK b) (h : cR I i b A) (hA : aOK A) (hd : d < b 0 2) (h7 : A 7 d = 1) (hcl : clrL b A d) : RsI w l yX5_halt dd_X5_halt [.ref (sA i 0), .int (nI d)] (472, I, J, R) (fun x I' => x = nI (aStop b A d 16 0) ∧ cR I' i b (aStop b A d) ∧ mS i I I') := by
  have hz : 50 + 20 * i ≤ 472 := by omega
  have h10 := hk.2.2.1
  have hs := hk.2.2.2 d hd
  have h32 := hk.2.1.2
  have hc8 := hk.1.2
  refine rt_intro2 (L := [some (.ref (sA i 0)), some (.int (nI d)), none, none, none, none, none]) ⟨by decide, rfl, (fun h => by cases h)⟩ (Nat.le_of_ble_eq_true rfl) rfl (fun Y Q hQ => ?_)
  -- the end
  have fin : ∀ I0 B, cR I0 i b B → aStop b A d = aStop3 d B → mS i I I0 → ∀ o4 o5 o6, Wq dd_X5_halt (mj_mk w l 472 Y) Q 161 [some (.ref (sA i 0)), some (.int (nI d)), some (.int (nI (B 16 0))), some (.int (nI (b 2 d))), o4, o5, o6] [] (472, I0, J, R) := by
    intro I0 B hr he hm o4 o5 o6
    rw [he] at hQ
    refine q_aload_n (pc' := 162) dX5_halt_161 rfl rfl (q_dup_a (pc' := 163) dX5_halt_162 rfl (q_getIe (pc' := 166) dX5_halt_163 rfl fr_RX5_50 (okS hi hz (by decide) rfl) rfl hr.2.2.1.1 (q_iconst (pc' := 167) _ dX5_halt_166 rfl kk_iconst_1 (q_iload_n (pc' := 168) dX5_halt_167 rfl rfl (q_ishl (pc' := 169) dX5_halt_168 rfl ?_)))))
    refine q_top (sh32 d (by omega)) ?_
    refine q_iconst (pc' := 170) _ dX5_halt_169 rfl kk_iconst_m1 (q_ixor (pc' := 171) dX5_halt_170 rfl (q_iand (pc' := 172) dX5_halt_171 rfl ?_))
    refine q_top (bit_off (by decide)) ?_
    have h1 : cR (mj_up I0 (sA i 0) 3 (nI (bitN (fun e => mj_up B 7 d 0 7 e == 1) 10))) i b (mj_up B 7 d 0) := cR_7 rfl hr
    refine q_putI (pc' := 175) dX5_halt_172 rfl fl_RX5_50 (okS hi hz (by decide) rfl) rfl ?_
    generalize hI : mj_up I0 (sA i 0) 3 (nI (bitN (fun e => mj_up B 7 d 0 7 e == 1) 10)) = I1 at h1 ⊢
    have f1 : mS i I0 I1 := by rw [← hI]; exact mS_up (by decide)
    have e12 : I1 (sA i 4) d = nI (B 12 d) := (h1.2.1.2.1 d (by omega)).2.2
    refine q_aload_n (pc' := 176) dX5_halt_175 rfl rfl (q_getR (pc' := 179) dX5_halt_176 rfl fr_RX5_12 (okS hi hz (by decide) rfl) rfl (wS_5_2 hS) (sA_lt hi (by decide)) (q_getR (pc' := 182) dX5_halt_179 rfl fr_RX5_190 (okS hi hz (by decide) rfl) rfl (wS_8_4 hS) (sA_lt hi (by decide)) (q_iload_n (pc' := 183) dX5_halt_182 rfl rfl (q_dup2 (pc' := 184) dX5_halt_183 rfl (q_ialde (pc' := 185) (d) dX5_halt_184 rfl (by first | exact ⟨by omega, rfl⟩ | exact okaS hi hz (by decide) rfl | assumption) (by (first | (simp only [nI_add, pk_mul]; done) | (simp only [nI_add, pk_mul]; exact nI_e (by omega)) | exact nI_e (by omega))) (by omega) e12 (q_iload_n (pc' := 186) dX5_halt_185 rfl rfl ?_))))))
    refine q_iadd dX5_halt_186 rfl ?_
    refine q_top (nI_add _ _) ?_
    exact q_iast (pc' := 188) (d) dX5_halt_187 rfl (by first | exact ⟨by omega, rfl⟩ | exact okaS hi hz (by decide) rfl | assumption) (by (first | (simp only [nI_add, pk_mul]; done) | (simp only [nI_add, pk_mul]; exact nI_e (by omega)) | exact nI_e (by omega))) (by omega) (q_iload_n (pc' := 189) dX5_halt_188 rfl rfl (q_iret dX5_halt_189 rfl (hQ _ _ _ _ ⟨_, rfl, ⟨rfl, rfl⟩, rfl, cR_up14 (by decide) (by decide) (cR_ct (Or.inr (Or.inr ⟨rfl, rfl⟩)) h1), (hm.tr f1).tr (mS_up (by decide))⟩)))
  -- the LINES
  have lines : ∀ I0 B, cR I0 i b B → aOK B → B = aStop1 b d A → mS i I I0 → ∀ o4 o5 o6, Wq dd_X5_halt (mj_mk w l 472 Y) Q 119 [some (.ref (sA i 0)), some (.int (nI d)), some (.int (nI (B 16 0))), some (.int (nI (b 0 0))), o4, o5, o6] [] (472, I0, J, R) := by
    intro I0 B hr hB0 he hm o4 o5 o6
    have hB3 : B 3 = A 3 := by rw [he]; exact stop1_g (by decide) (by decide) (by decide) (by decide)
    have hB4 : B 4 = A 4 := by rw [he]; exact stop1_g (by decide) (by decide) (by decide) (by decide)
    have hB5 : B 5 = A 5 := by rw [he]; exact stop1_g (by decide) (by decide) (by decide) (by decide)
    have hB6 : B 6 = A 6 := by rw [he]; exact stop1_g (by decide) (by decide) (by decide) (by decide)
    have e2 : aStop b A d = aStop3 d (itN (fun k A => aClrW A (8 * d + k)) (b 2 d) B) := by
      unfold aStop
      rw [← he, stop2_e (n := b 2 d) hs.2.1.2 (fun k k1 k2 => by rw [hB3, hB4, hB5, hB6]; exact hcl k k1 k2)]
    have loop : ∀ m k I1, k + m = b 2 d → cR I1 i b (itN (fun k A => aClrW A (8 * d + k)) k B) → aOK (itN (fun k A => aClrW A (8 * d + k)) k B) → mS i I I1 → Wq dd_X5_halt (mj_mk w l 472 Y) Q 121 [some (.ref (sA i 0)), some (.int (nI d)), some (.int (nI (itN (fun k A => aClrW A (8 * d + k)) k B 16 0))), some (.int (nI k)), o4, o5, o6] [] (472, I1, J, R) := by
      intro m
      induction m with
      | zero =>
        intro k I1 hkm hr1 _ hm1
        have hkz : k = b 2 d := by omega
        subst hkz
        have eb : I1 8 d = nI (b 2 d) := ((cB_S hm1 hb).2 d hd).2.1
        refine q_iload_n (pc' := 122) dX5_halt_121 rfl rfl (q_aload_n (pc' := 123) dX5_halt_122 rfl rfl (q_getR (pc' := 126) dX5_halt_123 rfl fr_RX5_32 (okS hi hz (by decide) rfl) rfl (wS_5_0 hS) (by decide) (q_getR (pc' := 129) dX5_halt_126 rfl fr_RX5_85 (by first | assumption | exact ⟨by omega, rfl⟩) rfl (wB_8 hB) (by omega) (q_iload_n (pc' := 130) dX5_halt_129 rfl rfl (q_ialde (pc' := 131) (d) dX5_halt_130 rfl (by first | exact ⟨by omega, rfl⟩ | exact okaS hi hz (by decide) rfl | assumption) (by (first | (simp only [nI_add, pk_mul]; done) | (simp only [nI_add, pk_mul]; exact nI_e (by omega)) | exact nI_e (by omega))) (by omega) eb (q_icmp_ge (pc' := 134) (pt := 161) dX5_halt_131 rfl rfl (fun _ => ?_) (fun h9 => absurd (by (first | assumption | exact nI_le (by omega) (by omega) | exact nI_ge (by omega) (by omega) | exact nI_lt (by omega) (by omega) | exact nI_nlt (by omega) (by omega) | exact nI_ne (by omega) (by omega) (by omega) | exact nI_e (by omega) | decide)) h9)))))))
        exact fin I1 _ hr1 e2 hm1 _ _ _
      | succ m ih =>
        intro k I1 hkm hr1 hok1 hm1
        have eb : I1 8 d = nI (b 2 d) := ((cB_S hm1 hb).2 d hd).2.1
        have h6 := (hok1.2.1 (8 * d + k) (by omega)).2.2.2
        refine q_iload_n (pc' := 122) dX5_halt_121 rfl rfl (q_aload_n (pc' := 123) dX5_halt_122 rfl rfl (q_getR (pc' := 126) dX5_halt_123 rfl fr_RX5_32 (okS hi hz (by decide) rfl) rfl (wS_5_0 hS) (by decide) (q_getR (pc' := 129) dX5_halt_126 rfl fr_RX5_85 (by first | assumption | exact ⟨by omega, rfl⟩) rfl (wB_8 hB) (by omega) (q_iload_n (pc' := 130) dX5_halt_129 rfl rfl (q_ialde (pc' := 131) (d) dX5_halt_130 rfl (by first | exact ⟨by omega, rfl⟩ | exact okaS hi hz (by decide) rfl | assumption) (by (first | (simp only [nI_add, pk_mul]; done) | (simp only [nI_add, pk_mul]; exact nI_e (by omega)) | exact nI_e (by omega))) (by omega) eb (q_icmp_ge (pc' := 134) (pt := 161) dX5_halt_131 rfl rfl (fun h9 => absurd h9 (by (first | assumption | exact nI_le (by omega) (by omega) | exact nI_ge (by omega) (by omega) | exact nI_lt (by omega) (by omega) | exact nI_nlt (by omega) (by omega) | exact nI_ne (by omega) (by omega) (by omega) | exact nI_e (by omega) | decide))) (fun _ => (q_iload_n (pc' := 135) dX5_halt_134 rfl rfl (q_aload_n (pc' := 136) dX5_halt_135 rfl rfl (q_iload_n (pc' := 137) dX5_halt_136 rfl rfl (q_bipush (pc' := 139) _ dX5_halt_137 rfl kk_bipush_8 (q_imul (pc' := 140) dX5_halt_139 rfl (q_iload_n (pc' := 141) dX5_halt_140 rfl rfl (q_iadd (pc' := 142) dX5_halt_141 rfl ?_))))))))))))))
        refine q_top (y := nI (8 * d + k)) (by rw [pk_mul, nI_add, Nat.mul_comm d 8]) ?_
        refine q_sVi (pc' := 145) dX5_halt_142 rfl ml_RX5_57 yv_X5_forgetLine (by decide) (rs_X5_forgetLine hi hS hr1 (by omega) h6) (okS hi hz (by decide) rfl) rfl rfl (Nat.le_of_ble_eq_true rfl) (Nat.le_refl _) (fun x2 I2 ⟨r2, h2, f2⟩ => ?_)
        rw [r2]
        have hn1 : cR I2 i b (itN (fun k A => aClrW A (8 * d + k)) (k + 1) B) := by
          show cR I2 i b (aClrW (itN (fun k A => aClrW A (8 * d + k)) k B) (8 * d + k))
          rw [clrW_e]
          exact cR_up16 h2
        have hn2 : itN (fun k A => aClrW A (8 * d + k)) (k + 1) B 16 0 = itN (fun k A => aClrW A (8 * d + k)) k B 16 0 + itN (fun k A => aClrW A (8 * d + k)) k B 6 (8 * d + k) := by
          show aClrW (itN (fun k A => aClrW A (8 * d + k)) k B) (8 * d + k) 16 0 = _
          rw [clrW_e, mj_up_eq]
        have next := ih (k + 1) I2 (by omega) hn1 (aOK_clrW hok1) (hm1.tr f2)
        rw [hn2] at next
        by_cases c6 : itN (fun k A => aClrW A (8 * d + k)) k B 6 (8 * d + k) = 1
        · rw [c6] at next
          refine q_ifb_eq (pc' := 148) (pt := 152) dX5_halt_145 rfl rfl (fun h9 => Bool.noConfusion (Eq.trans (Eq.symm (beq_iff_eq.mpr c6)) h9)) (fun _ => (q_iconst (pc' := 149) _ dX5_halt_148 rfl kk_iconst_1 (q_goto (pc' := 153) dX5_halt_149 rfl ?_)))
          refine q_iadd dX5_halt_153 rfl ?_
          refine q_top (nI_add _ 1) ?_
          refine q_ist_2 (pc' := 155) dX5_halt_154 rfl (by decide) rfl (q_inc_3 (pc' := 158) dX5_halt_155 rfl (by decide) rfl (q_goto (pc' := 121) dX5_halt_158 rfl ?_))
          exact next
        · rw [show itN (fun k A => aClrW A (8 * d + k)) k B 6 (8 * d + k) = 0 by omega] at next
          refine q_ifb_eq (pc' := 148) (pt := 152) dX5_halt_145 rfl rfl (fun _ => (q_iconst (pc' := 153) _ dX5_halt_152 rfl kk_iconst_0 ?_)) (fun h9 => Bool.noConfusion (Eq.trans (Eq.symm (beq_eq_false_iff_ne.mpr c6)) h9))
          refine q_iadd dX5_halt_153 rfl ?_
          refine q_top (nI_add _ 0) ?_
          refine q_ist_2 (pc' := 155) dX5_halt_154 rfl (by decide) rfl (q_inc_3 (pc' := 158) dX5_halt_155 rfl (by decide) rfl (q_goto (pc' := 121) dX5_halt_158 rfl ?_))
          exact next
    refine q_iconst (pc' := 120) _ dX5_halt_119 rfl kk_iconst_0 (q_ist_3 (pc' := 121) dX5_halt_120 rfl (by decide) rfl ?_)
    exact loop (b 2 d) 0 I0 (by omega) hr hB0 hm
  -- a CPU's VECTORS
  have inner : ∀ p B0, p < b 0 0 → ∀ m v I0 o5 o6, v + m = b 0 1 → cR I0 i b (itN (fun v A => aFr d (32 * p + v) A) v B0) → aOK (itN (fun v A => aFr d (32 * p + v) A) v B0) → mS i I I0 → (∀ I1 o4 o5 o6, cR I1 i b (itN (fun v A => aFr d (32 * p + v) A) (b 0 1) B0) → aOK (itN (fun v A => aFr d (32 * p + v) A) (b 0 1) B0) → mS i I I1 → Wq dd_X5_halt (mj_mk w l 472 Y) Q 113 [some (.ref (sA i 0)), some (.int (nI d)), some (.int (nI (itN (fun v A => aFr d (32 * p + v) A) (b 0 1) B0 16 0))), some (.int (nI p)), o4, o5, o6] [] (472, I1, J, R)) → Wq dd_X5_halt (mj_mk w l 472 Y) Q 28 [some (.ref (sA i 0)), some (.int (nI d)), some (.int (nI (itN (fun v A => aFr d (32 * p + v) A) v B0 16 0))), some (.int (nI p)), some (.int (nI v)), o5, o6] [] (472, I0, J, R) := by
    intro p B0 hp m
    induction m with
    | zero =>
      intro v I0 o5 o6 hvm hr hok hm hnext
      have hvz : v = b 0 1 := by omega
      subst hvz
      have eb : I0 4 1 = nI (b 0 1) := cB_1 (cB_S hm hb)
      refine q_iload (pc' := 30) dX5_halt_28 rfl rfl (q_aload_n (pc' := 31) dX5_halt_30 rfl rfl (q_getR (pc' := 34) dX5_halt_31 rfl fr_RX5_32 (okS hi hz (by decide) rfl) rfl (wS_5_0 hS) (by decide) (q_getIe (pc' := 37) dX5_halt_34 rfl fr_RX5_181 (by first | assumption | exact ⟨by omega, rfl⟩) rfl eb (q_icmp_ge (pc' := 40) (pt := 113) dX5_halt_37 rfl rfl (fun _ => ?_) (fun h9 => absurd (by (first | assumption | exact nI_le (by omega) (by omega) | exact nI_ge (by omega) (by omega) | exact nI_lt (by omega) (by omega) | exact nI_nlt (by omega) (by omega) | exact nI_ne (by omega) (by omega) (by omega) | exact nI_e (by omega) | decide)) h9)))))
      exact hnext I0 _ _ _ hr hok hm
    | succ m ih =>
      intro v I0 o5 o6 hvm hr hok hm hnext
      have eb : I0 4 1 = nI (b 0 1) := cB_1 (cB_S hm hb)
      generalize hC : itN (fun v A => aFr d (32 * p + v) A) v B0 = C at hr hok
      have hstep : itN (fun v A => aFr d (32 * p + v) A) (v + 1) B0 = aFr d (32 * p + v) C := by rw [← hC]; rfl
      have eo : I0 (sA i 19) (32 * p + v) = lD (C 1 (32 * p + v)) := hr.1.2.2.1 _ (by omega)
      have c80 := (hok.1 (32 * p + v) (by omega)).2.1
      have c2 := (hok.1 (32 * p + v) (by omega)).2.2
      have next := fun I1 o5 o6 r1 r2 r3 => ih (v + 1) I1 o5 o6 (by omega) r1 r2 r3 hnext
      rw [hstep] at next
      refine q_iload (pc' := 30) dX5_halt_28 rfl rfl (q_aload_n (pc' := 31) dX5_halt_30 rfl rfl (q_getR (pc' := 34) dX5_halt_31 rfl fr_RX5_32 (okS hi hz (by decide) rfl) rfl (wS_5_0 hS) (by decide) (q_getIe (pc' := 37) dX5_halt_34 rfl fr_RX5_181 (by first | assumption | exact ⟨by omega, rfl⟩) rfl eb (q_icmp_ge (pc' := 40) (pt := 113) dX5_halt_37 rfl rfl (fun h9 => absurd h9 (by (first | assumption | exact nI_le (by omega) (by omega) | exact nI_ge (by omega) (by omega) | exact nI_lt (by omega) (by omega) | exact nI_nlt (by omega) (by omega) | exact nI_ne (by omega) (by omega) (by omega) | exact nI_e (by omega) | decide))) (fun _ => (q_iload_n (pc' := 41) dX5_halt_40 rfl rfl (q_bipush (pc' := 43) _ dX5_halt_41 rfl kk_bipush_32 (q_imul (pc' := 44) dX5_halt_43 rfl (q_iload (pc' := 46) dX5_halt_44 rfl rfl (q_iadd (pc' := 47) dX5_halt_46 rfl ?_))))))))))
      refine q_top (y := nI (32 * p + v)) (by rw [pk_mul, nI_add, Nat.mul_comm p 32]) ?_
      by_cases c1 : C 1 (32 * p + v) = 0
      · have ef : aFr d (32 * p + v) C = C := if_neg (fun q => q.1 c1)
        rw [ef] at next
        refine q_ist_5 (pc' := 49) dX5_halt_47 rfl (by decide) rfl (q_aload_n (pc' := 50) dX5_halt_49 rfl rfl (q_getR (pc' := 53) dX5_halt_50 rfl fr_RX5_41 (okS hi hz (by decide) rfl) rfl (wS_5_1 hS) (sA_lt hi (by decide)) (q_getR (pc' := 56) dX5_halt_53 rfl fr_RX5_184 (okS hi hz (by decide) rfl) rfl (wS_4_4 hS) (sA_lt hi (by decide)) (q_iload (pc' := 58) dX5_halt_56 rfl rfl (q_ialde (pc' := 59) (32 * p + v) dX5_halt_58 rfl (by first | exact ⟨by omega, rfl⟩ | exact okaS hi hz (by decide) rfl | assumption) (by (first | (simp only [nI_add, pk_mul]; done) | (simp only [nI_add, pk_mul]; exact nI_e (by omega)) | exact nI_e (by omega))) (by omega) eo (q_ist_6 (pc' := 61) dX5_halt_59 rfl (by decide) rfl (q_iload (pc' := 63) dX5_halt_61 rfl rfl (q_iconst (pc' := 64) _ dX5_halt_63 rfl kk_iconst_m1 (q_icmp_eq (pc' := 67) (pt := 107) dX5_halt_64 rfl rfl (fun _ => (q_inc_4 (pc' := 110) dX5_halt_107 rfl (by decide) rfl (q_goto (pc' := 28) dX5_halt_110 rfl ?_))) (fun h9 => absurd (by rw [c1]; rfl) h9))))))))))
        exact next I0 _ _ hr hok hm
      · have el : lD (C 1 (32 * p + v)) = nI (C 1 (32 * p + v) - 1) := lD_p (by omega)
        rw [el] at eo
        have ed := pk_div (a := C 1 (32 * p + v) - 1) (d := 8) (by omega) (by decide) (by decide)
        refine q_ist_5 (pc' := 49) dX5_halt_47 rfl (by decide) rfl (q_aload_n (pc' := 50) dX5_halt_49 rfl rfl (q_getR (pc' := 53) dX5_halt_50 rfl fr_RX5_41 (okS hi hz (by decide) rfl) rfl (wS_5_1 hS) (sA_lt hi (by decide)) (q_getR (pc' := 56) dX5_halt_53 rfl fr_RX5_184 (okS hi hz (by decide) rfl) rfl (wS_4_4 hS) (sA_lt hi (by decide)) (q_iload (pc' := 58) dX5_halt_56 rfl rfl (q_ialde (pc' := 59) (32 * p + v) dX5_halt_58 rfl (by first | exact ⟨by omega, rfl⟩ | exact okaS hi hz (by decide) rfl | assumption) (by (first | (simp only [nI_add, pk_mul]; done) | (simp only [nI_add, pk_mul]; exact nI_e (by omega)) | exact nI_e (by omega))) (by omega) eo (q_ist_6 (pc' := 61) dX5_halt_59 rfl (by decide) rfl (q_iload (pc' := 63) dX5_halt_61 rfl rfl (q_iconst (pc' := 64) _ dX5_halt_63 rfl kk_iconst_m1 (q_icmp_eq (pc' := 67) (pt := 107) dX5_halt_64 rfl rfl (fun h9 => absurd h9 (nI_m1 (by omega))) (fun _ => (q_iload (pc' := 69) dX5_halt_67 rfl rfl (q_bipush (pc' := 71) _ dX5_halt_69 rfl kk_bipush_8 (q_idiv (pc' := 72) dX5_halt_71 rfl (by decide) ?_)))))))))))))
        refine q_top ed ?_
        by_cases cd : (C 1 (32 * p + v) - 1) / 8 = d
        · have ef : aFr d (32 * p + v) C = mj_up (aSets (mj_up C 2 (32 * p + v) 0) (32 * p + v) 0 0) 16 0 (C 16 0 + C 2 (32 * p + v)) := if_pos ⟨c1, cd⟩
          have hok' : aOK (aFr d (32 * p + v) C) := aOK_fr hok
          rw [ef] at next hok'
          refine q_iload_n (pc' := 73) dX5_halt_72 rfl rfl (q_icmp_ne (pc' := 76) (pt := 107) dX5_halt_73 rfl rfl (fun h9 => absurd (congrArg nI cd) h9) (fun _ => (q_iload_n (pc' := 77) dX5_halt_76 rfl rfl (q_aload_n (pc' := 78) dX5_halt_77 rfl rfl (q_getR (pc' := 81) dX5_halt_78 rfl fr_RX5_41 (okS hi hz (by decide) rfl) rfl (wS_5_1 hS) (sA_lt hi (by decide)) (q_iload (pc' := 83) dX5_halt_81 rfl rfl (q_sVi (pc' := 86) dX5_halt_83 rfl ml_RX5_187 yv_X4_unpend (by decide) (rs_X4_unpend hi hS hk hr.1 (by omega) (by rw [show (32 * p + v) % 32 = v by omega]; omega)) (okS hi hz (by decide) rfl) rfl rfl (Nat.le_of_ble_eq_true rfl) (Nat.le_refl _) (fun x1 I1 ⟨r1, h1, f1⟩ => ?_))))))))
          rw [r1]
          have h1' : cR I1 i b (mj_up C 2 (32 * p + v) 0) := cR_rows hr h1 f1 (fun g hg => up_f (by omega))
          have put : ∀ o6, Wq dd_X5_halt (mj_mk w l 472 Y) Q 96 [some (.ref (sA i 0)), some (.int (nI d)), some (.int (nI (C 16 0 + C 2 (32 * p + v)))), some (.int (nI p)), some (.int (nI v)), some (.int (nI (32 * p + v))), o6] [] (472, I1, J, R) := by
            intro o6
            have hput := rs_X4_put (w := w) (l := l) (J := J) (R := R) (k := 32 * p + v) (s := 0) (o := 0) hi hS hk h1 (by omega) (by rw [show (32 * p + v) % 32 = v by omega]; omega) (by decide)
            refine q_aload_n (pc' := 97) dX5_halt_96 rfl rfl (q_getR (pc' := 100) dX5_halt_97 rfl fr_RX5_41 (okS hi hz (by decide) rfl) rfl (wS_5_1 hS) (sA_lt hi (by decide)) (q_iload (pc' := 102) dX5_halt_100 rfl rfl (q_iconst (pc' := 103) _ dX5_halt_102 rfl kk_iconst_0 (q_iconst (pc' := 104) _ dX5_halt_103 rfl kk_iconst_m1 (q_sVv (pc' := 107) dX5_halt_104 rfl ml_RX5_100 yv_X4_put (by decide) (hput) (okS hi hz (by decide) rfl) rfl rfl (Nat.le_of_ble_eq_true rfl) (Nat.le_refl _) (fun I2 ⟨r2, f2⟩ => ?_))))))
            have h2' : cR I2 i b (aSets (mj_up C 2 (32 * p + v) 0) (32 * p + v) 0 0) := cR_rows h1' r2 f2 (fun g hg => by unfold aSets; rw [up_f (by omega), up_f (by omega)])
            have n2 := next I2 (some (.int (nI (32 * p + v)))) o6 (cR_up16 h2') hok' ((hm.tr f1.s).tr f2.s)
            rw [mj_up_eq] at n2
            refine q_inc_4 (pc' := 110) dX5_halt_107 rfl (by decide) rfl (q_goto (pc' := 28) dX5_halt_110 rfl ?_)
            exact n2
          by_cases cp : C 2 (32 * p + v) = 1
          · rw [cp] at put
            refine q_ifb_eq (pc' := 89) (pt := 93) dX5_halt_86 rfl rfl (fun h9 => Bool.noConfusion (Eq.trans (Eq.symm (beq_iff_eq.mpr cp)) h9)) (fun _ => (q_iconst (pc' := 90) _ dX5_halt_89 rfl kk_iconst_1 (q_goto (pc' := 94) dX5_halt_90 rfl ?_)))
            refine q_iadd dX5_halt_94 rfl ?_
            refine q_top (nI_add _ 1) ?_
            refine q_ist_2 (pc' := 96) dX5_halt_95 rfl (by decide) rfl ?_
            exact put _
          · rw [show C 2 (32 * p + v) = 0 by omega] at put
            refine q_ifb_eq (pc' := 89) (pt := 93) dX5_halt_86 rfl rfl (fun _ => (q_iconst (pc' := 94) _ dX5_halt_93 rfl kk_iconst_0 ?_)) (fun h9 => Bool.noConfusion (Eq.trans (Eq.symm (beq_eq_false_iff_ne.mpr cp)) h9))
            refine q_iadd dX5_halt_94 rfl ?_
            refine q_top (nI_add _ 0) ?_
            refine q_ist_2 (pc' := 96) dX5_halt_95 rfl (by decide) rfl ?_
            exact put _
        · have ef : aFr d (32 * p + v) C = C := if_neg (fun q => cd q.2)
          rw [ef] at next
          refine q_iload_n (pc' := 73) dX5_halt_72 rfl rfl (q_icmp_ne (pc' := 76) (pt := 107) dX5_halt_73 rfl rfl (fun _ => (q_inc_4 (pc' := 110) dX5_halt_107 rfl (by decide) rfl (q_goto (pc' := 28) dX5_halt_110 rfl ?_))) (fun h9 => absurd h9 (nI_ne cd (by omega) (by omega))))
          exact next I0 _ _ hr hok hm
  have outer : ∀ m p I0 o4 o5 o6, p + m = b 0 0 → cR I0 i b (itN (fun p A => itN (fun v A => aFr d (32 * p + v) A) (b 0 1) A) p (mj_up A 16 0 0)) → aOK (itN (fun p A => itN (fun v A => aFr d (32 * p + v) A) (b 0 1) A) p (mj_up A 16 0 0)) → mS i I I0 → Wq dd_X5_halt (mj_mk w l 472 Y) Q 14 [some (.ref (sA i 0)), some (.int (nI d)), some (.int (nI (itN (fun p A => itN (fun v A => aFr d (32 * p + v) A) (b 0 1) A) p (mj_up A 16 0 0) 16 0))), some (.int (nI p)), o4, o5, o6] [] (472, I0, J, R) := by
    intro m
    induction m with
    | zero =>
      intro p I0 o4 o5 o6 hpm hr hok hm
      have hpz : p = b 0 0 := by omega
      subst hpz
      have eb : I0 4 0 = nI (b 0 0) := cB_0 (cB_S hm hb)
      refine q_iload_n (pc' := 15) dX5_halt_14 rfl rfl (q_aload_n (pc' := 16) dX5_halt_15 rfl rfl (q_getR (pc' := 19) dX5_halt_16 rfl fr_RX5_32 (okS hi hz (by decide) rfl) rfl (wS_5_0 hS) (by decide) (q_getIe (pc' := 22) dX5_halt_19 rfl fr_RX5_88 (by first | assumption | exact ⟨by omega, rfl⟩) rfl eb (q_icmp_ge (pc' := 25) (pt := 119) dX5_halt_22 rfl rfl (fun _ => ?_) (fun h9 => absurd (by (first | assumption | exact nI_le (by omega) (by omega) | exact nI_ge (by omega) (by omega) | exact nI_lt (by omega) (by omega) | exact nI_nlt (by omega) (by omega) | exact nI_ne (by omega) (by omega) (by omega) | exact nI_e (by omega) | decide)) h9)))))
      exact lines I0 _ hr hok rfl hm _ _ _
    | succ m ih =>
      intro p I0 o4 o5 o6 hpm hr hok hm
      have eb : I0 4 0 = nI (b 0 0) := cB_0 (cB_S hm hb)
      refine q_iload_n (pc' := 15) dX5_halt_14 rfl rfl (q_aload_n (pc' := 16) dX5_halt_15 rfl rfl (q_getR (pc' := 19) dX5_halt_16 rfl fr_RX5_32 (okS hi hz (by decide) rfl) rfl (wS_5_0 hS) (by decide) (q_getIe (pc' := 22) dX5_halt_19 rfl fr_RX5_88 (by first | assumption | exact ⟨by omega, rfl⟩) rfl eb (q_icmp_ge (pc' := 25) (pt := 119) dX5_halt_22 rfl rfl (fun h9 => absurd h9 (by (first | assumption | exact nI_le (by omega) (by omega) | exact nI_ge (by omega) (by omega) | exact nI_lt (by omega) (by omega) | exact nI_nlt (by omega) (by omega) | exact nI_ne (by omega) (by omega) (by omega) | exact nI_e (by omega) | decide))) (fun _ => (q_iconst (pc' := 26) _ dX5_halt_25 rfl kk_iconst_0 (q_ist_4 (pc' := 28) dX5_halt_26 rfl (by decide) rfl ?_)))))))
      refine inner p _ (by omega) (b 0 1) 0 I0 _ _ (by omega) hr hok hm (fun I1 o4 o5 o6 r1 r2 r3 => ?_)
      refine q_inc_3 (pc' := 116) dX5_halt_113 rfl (by decide) rfl (q_goto (pc' := 14) dX5_halt_116 rfl ?_)
      exact ih (p + 1) I1 _ _ _ (by omega) r1 r2 r3
  refine q_aload_n (pc' := 1) dX5_halt_0 rfl rfl (q_iload_n (pc' := 2) dX5_halt_1 rfl rfl (q_cVi (pc' := 5) dX5_halt_2 rfl ml_RX5_121 yv_X5_isStarted (by decide) (rn_X5_isStarted hi h.2.2 (by omega)) (okS hi hz (by decide) rfl) rfl rfl (Nat.le_of_ble_eq_true rfl) (Nat.le_refl _) (q_ifb_ne (pc' := 8) (pt := 10) dX5_halt_5 rfl rfl (fun _ => (q_iconst (pc' := 11) _ dX5_halt_10 rfl kk_iconst_0 (q_ist_2 (pc' := 12) dX5_halt_11 rfl (by decide) rfl (q_iconst (pc' := 13) _ dX5_halt_12 rfl kk_iconst_0 (q_ist_3 (pc' := 14) dX5_halt_13 rfl (by decide) rfl ?_))))) (fun h9 => Bool.noConfusion (Eq.trans (Eq.symm (beq_iff_eq.mpr h7)) h9)))))
  have h0 := outer (b 0 0) 0 I none none none (by omega) (cR_up16 h) (aOK_hi hA (by decide)) mS.rf
  have e0 : itN (fun p A => itN (fun v A => aFr d (32 * p + v) A) (b 0 1) A) 0 (mj_up A 16 0 0) 16 0 = 0 := mj_up_eq
  rw [e0] at h0
  exact h0
end ST5
