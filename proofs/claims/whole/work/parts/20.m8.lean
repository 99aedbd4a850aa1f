/-! ===== the reference: STOP, TICKS ===== -/
def aFr (d p : Nat) (A : St) : St := if A 1 p ≠ 0 ∧ (A 1 p - 1) / 8 = d then mj_up (aSets (mj_up A 2 p 0) p 0 0) 16 0 (A 16 0 + A 2 p) else A
def aClrW (A : St) (id : Nat) : St := aNoOld (mj_up (mj_up (mj_up A 16 0 (A 16 0 + A 6 id)) 6 id 0) 3 id 0) id
def aStop1 (b : St) (d : Nat) (A : St) : St := itN (fun p A => itN (fun v A => aFr d (32 * p + v) A) (b 0 1) A) (b 0 0) (mj_up A 16 0 0)
def aStop2 (d : Nat) (A : St) : St := itN (fun k A => aClrW A (8 * d + k)) 8 A
def aStop3 (d : Nat) (A : St) : St := mj_up (mj_up (mj_up A 7 d 0) 12 d (A 12 d + A 16 0)) 14 3 (A 14 3 + A 16 0)
/-- STOP: how many were DROPPED is at 16 -/
def aStop (b : St) (A : St) (d : Nat) : St := aStop3 d (aStop2 d (aStop1 b d A))
theorem aOK_hi {A : St} {f j x : Nat} (h : aOK A) (hf : 10 ≤ f) : aOK (mj_up A f j x) := aOK_up h (fun z => absurd z (by omega))
theorem aOK_fr {A : St} {d p : Nat} (h : aOK A) : aOK (aFr d p A) := by
  unfold aFr
  split
  · exact aOK_hi (aOK_sets (aOK_up h (fun _ => by decide)) (by decide) (by decide)) (by decide)
  · exact h
theorem aOK_clrW {A : St} {id : Nat} (h : aOK A) : aOK (aClrW A id) := aOK_noOld (aOK_up (aOK_up (aOK_hi h (by decide)) (fun _ => by decide)) (fun _ => by decide))
theorem aOK_stop1 {b A : St} {d : Nat} (h : aOK A) : aOK (aStop1 b d A) := itN_P (n := b 0 0) (aOK_hi h (by decide)) (fun p B _ hB => itN_P (n := b 0 1) hB (fun v C _ hC => aOK_fr hC) (b 0 1) (Nat.le_refl _)) (b 0 0) (Nat.le_refl _)
theorem aOK_stop {b A : St} {d : Nat} (h : aOK A) : aOK (aStop b A d) := aOK_hi (aOK_hi (aOK_up (itN_P (n := 8) (aOK_stop1 h) (fun k B _ hB => aOK_clrW hB) 8 (Nat.le_refl _)) (fun _ => by decide)) (by decide)) (by decide)
section M8
variable {w : mj_Wd} {l : Launch} {I : mj_M} {J : mj_J} {R : mj_R} {b A : St}
theorem rs_X11_stops {d : Nat} (hM : mj_wM R) (hb : mB I b) (hk : bOK b) (hR : rR (I 464) A) (hA : aOK A) (hd : d < 10) : RsI w l yX11_stops dd_X11_stops [.ref 452, .int (nI d)] (472, I, J, R) (fun x I' => x = nI (aStop b A d 16 0) ∧ rR (I' 464) (aStop b A d) ∧ mF I I') := by
  have hc8 := hk.1.2
  have hv32 := hk.2.1.2
  refine rt_intro2 (L := [some (.ref 452), some (.int (nI d)), none, none, none]) ⟨by decide, rfl, (fun h => by cases h)⟩ (Nat.le_of_ble_eq_true rfl) rfl (fun Y Q hQ => ?_)
  -- the last writes
  have fin : ∀ A2 I0 (o4 : Option Value), aStop2 d (aStop1 b d A) = A2 → mF I I0 → rR (I0 464) A2 → Wq dd_X11_stops (mj_mk w l 472 Y) Q 184 [some (.ref 452), some (.int (nI d)), some (.int (nI (A2 16 0))), some (.int (nI 8)), o4] [] (472, I0, J, R) := by
    intro A2 I0 o4 hA2 hF0 hR0
    have h1 := rR_st (x := 0) hR0 hd
    have h2 := rR_dp (x := A2 12 d + A2 16 0) h1 hd
    have h3 := rR_sc (j := 3) (x := A2 14 3 + A2 16 0) h2 (by decide)
    have e1 : mj_up I0 464 (1504 + d) (nI 0) 464 (1544 + d) = nI (A2 12 d) := by
      rw [up464, if_neg (by omega)]; exact (hR0 _ (by omega)).trans (cE_dp hd)
    have e2 : mj_up (mj_up I0 464 (1504 + d) (nI 0)) 464 (1544 + d) (nI (A2 12 d + A2 16 0)) 464 1573 = nI (A2 14 3) := by
      rw [up464, if_neg (by omega), up464, if_neg (by omega)]; exact (hR0 1573 (by omega)).trans (cE_sc (k := 3) (by omega))
    refine q_aload_n (pc' := 185) dX11_stops_184 rfl rfl (q_getR (pc' := 188) dX11_stops_185 rfl fr_RX11_51 ⟨by omega, rfl⟩ rfl (wM_36 hM) (by decide) (q_sipush (pc' := 191) _ dX11_stops_188 rfl kk_sipush_1504 (q_iload_n (pc' := 192) dX11_stops_191 rfl rfl (q_iadd (pc' := 193) dX11_stops_192 rfl (q_iconst (pc' := 194) _ dX11_stops_193 rfl kk_iconst_0 (q_iast (pc' := 195) (1504 + d) dX11_stops_194 rfl (by first | exact ⟨by omega, rfl⟩ | exact okaS hi hz (by decide) rfl | assumption) (by (first | (simp only [nI_add, pk_mul]; done) | (simp only [nI_add, pk_mul]; exact nI_e (by omega)) | exact nI_e (by omega))) (by omega) (q_aload_n (pc' := 196) dX11_stops_195 rfl rfl (q_getR (pc' := 199) dX11_stops_196 rfl fr_RX11_51 ⟨by omega, rfl⟩ rfl (wM_36 hM) (by decide) (q_sipush (pc' := 202) _ dX11_stops_199 rfl kk_sipush_1544 (q_iload_n (pc' := 203) dX11_stops_202 rfl rfl (q_iadd (pc' := 204) dX11_stops_203 rfl (q_dup2 (pc' := 205) dX11_stops_204 rfl (q_ialde (pc' := 206) (1544 + d) dX11_stops_205 rfl (by first | exact ⟨by omega, rfl⟩ | exact okaS hi hz (by decide) rfl | assumption) (by (first | (simp only [nI_add, pk_mul]; done) | (simp only [nI_add, pk_mul]; exact nI_e (by omega)) | exact nI_e (by omega))) (by omega) e1 ?_)))))))))))))
    refine q_iload_n (pc' := 207) dX11_stops_206 rfl rfl (q_iadd (pc' := 208) dX11_stops_207 rfl ?_)
    refine q_top (nI_add _ _) ?_
    refine q_iast (pc' := 209) (1544 + d) dX11_stops_208 rfl (by first | exact ⟨by omega, rfl⟩ | exact okaS hi hz (by decide) rfl | assumption) (by (first | (simp only [nI_add, pk_mul]; done) | (simp only [nI_add, pk_mul]; exact nI_e (by omega)) | exact nI_e (by omega))) (by omega) (q_aload_n (pc' := 210) dX11_stops_209 rfl rfl (q_getR (pc' := 213) dX11_stops_210 rfl fr_RX11_51 ⟨by omega, rfl⟩ rfl (wM_36 hM) (by decide) (q_sipush (pc' := 216) _ dX11_stops_213 rfl kk_sipush_1573 (q_dup2 (pc' := 217) dX11_stops_216 rfl (q_ialde (pc' := 218) _ dX11_stops_217 rfl (by first | exact ⟨by omega, rfl⟩ | exact okaS hi hz (by decide) rfl | assumption) rfl (by omega) e2 (q_iload_n (pc' := 219) dX11_stops_218 rfl rfl (q_iadd (pc' := 220) dX11_stops_219 rfl ?_)))))))
    refine q_top (nI_add _ _) ?_
    exact q_iast (pc' := 221) _ dX11_stops_220 rfl (by first | exact ⟨by omega, rfl⟩ | exact okaS hi hz (by decide) rfl | assumption) rfl (by omega) (q_iload_n (pc' := 222) dX11_stops_221 rfl rfl (q_iret dX11_stops_222 rfl (hQ _ _ _ _ ⟨_, rfl, ⟨rfl, rfl⟩, (by unfold aStop; rw [hA2]; rfl), (by unfold aStop; rw [hA2]; exact h3), ((hF0.tr mF_up).tr mF_up).tr mF_up⟩)))
  have loop2 : ∀ m k I0 (o4 : Option Value), k + m = 8 → mF I I0 → rR (I0 464) (itN (fun k A => aClrW A (8 * d + k)) k (aStop1 b d A)) → Wq dd_X11_stops (mj_mk w l 472 Y) Q 104 [some (.ref 452), some (.int (nI d)), some (.int (nI ((itN (fun k A => aClrW A (8 * d + k)) k (aStop1 b d A)) 16 0))), some (.int (nI k)), o4] [] (472, I0, J, R) := by
    intro m
    induction m with
    | zero =>
      intro k I0 o4 hkm hF0 hR0
      have hkz : k = 8 := by omega
      subst hkz
      refine q_iload_n (pc' := 105) dX11_stops_104 rfl rfl (q_bipush (pc' := 107) _ dX11_stops_105 rfl kk_bipush_8 (q_icmp_ge (pc' := 110) (pt := 184) dX11_stops_107 rfl rfl (fun _ => ?_) (fun h9 => absurd (by (first | assumption | exact nI_le (by omega) (by omega) | exact nI_ge (by omega) (by omega) | exact nI_lt (by omega) (by omega) | exact nI_nlt (by omega) (by omega) | exact nI_ne (by omega) (by omega) (by omega) | exact nI_e (by omega) | decide)) h9)))
      exact fin _ I0 o4 rfl hF0 hR0
    | succ m ih =>
      intro k I0 o4 hkm hF0 hR0
      have hstep : itN (fun k A => aClrW A (8 * d + k)) (k + 1) (aStop1 b d A) = aClrW (itN (fun k A => aClrW A (8 * d + k)) k (aStop1 b d A)) (8 * d + k) := rfl
      generalize itN (fun k A => aClrW A (8 * d + k)) k (aStop1 b d A) = Ak at hR0 hstep ⊢
      have e1 : I0 464 (1424 + (8 * d + k)) = nI (Ak 6 (8 * d + k)) := (hR0 _ (by omega)).trans (cE_wa (by omega))
      have h1 := rR_wa (x := 0) (rR_hi (f := 16) (j := 0) (x := Ak 16 0 + Ak 6 (8 * d + k)) (by decide) hR0) (show 8 * d + k < 80 by omega)
      have h2 := rR_held (x := 0) h1 (show 8 * d + k < 80 by omega)
      refine q_iload_n (pc' := 105) dX11_stops_104 rfl rfl (q_bipush (pc' := 107) _ dX11_stops_105 rfl kk_bipush_8 (q_icmp_ge (pc' := 110) (pt := 184) dX11_stops_107 rfl rfl (fun h9 => absurd h9 (by (first | assumption | exact nI_le (by omega) (by omega) | exact nI_ge (by omega) (by omega) | exact nI_lt (by omega) (by omega) | exact nI_nlt (by omega) (by omega) | exact nI_ne (by omega) (by omega) (by omega) | exact nI_e (by omega) | decide))) (fun _ => (q_iload_n (pc' := 111) dX11_stops_110 rfl rfl (q_aload_n (pc' := 112) dX11_stops_111 rfl rfl (q_getR (pc' := 115) dX11_stops_112 rfl fr_RX11_51 ⟨by omega, rfl⟩ rfl (wM_36 hM) (by decide) (q_sipush (pc' := 118) _ dX11_stops_115 rfl kk_sipush_1424 (q_iload_n (pc' := 119) dX11_stops_118 rfl rfl (q_iload_n (pc' := 120) dX11_stops_119 rfl rfl (q_cSi (pc' := 123) dX11_stops_120 rfl ml_RX11_308 ys_X11_lineAt (by decide) (rn_X11_lineAt) rfl rfl (Nat.le_of_ble_eq_true rfl) (Nat.le_refl _) (q_iadd (pc' := 124) dX11_stops_123 rfl (q_ialde (pc' := 125) (1424 + (8 * d + k)) dX11_stops_124 rfl (by first | exact ⟨by omega, rfl⟩ | exact okaS hi hz (by decide) rfl | assumption) (by (first | (simp only [nI_add, pk_mul]; done) | (simp only [nI_add, pk_mul]; exact nI_e (by omega)) | exact nI_e (by omega))) (by omega) e1 (q_iadd (pc' := 126) dX11_stops_125 rfl ?_)))))))))))))
      refine q_top (nI_add _ _) ?_
      refine q_ist_2 (pc' := 127) dX11_stops_126 rfl (by decide) rfl (q_aload_n (pc' := 128) dX11_stops_127 rfl rfl (q_getR (pc' := 131) dX11_stops_128 rfl fr_RX11_51 ⟨by omega, rfl⟩ rfl (wM_36 hM) (by decide) (q_sipush (pc' := 134) _ dX11_stops_131 rfl kk_sipush_1424 (q_iload_n (pc' := 135) dX11_stops_134 rfl rfl (q_iload_n (pc' := 136) dX11_stops_135 rfl rfl (q_cSi (pc' := 139) dX11_stops_136 rfl ml_RX11_308 ys_X11_lineAt (by decide) (rn_X11_lineAt) rfl rfl (Nat.le_of_ble_eq_true rfl) (Nat.le_refl _) (q_iadd (pc' := 140) dX11_stops_139 rfl (q_iconst (pc' := 141) _ dX11_stops_140 rfl kk_iconst_0 (q_iast (pc' := 142) (1424 + (8 * d + k)) dX11_stops_141 rfl (by first | exact ⟨by omega, rfl⟩ | exact okaS hi hz (by decide) rfl | assumption) (by (first | (simp only [nI_add, pk_mul]; done) | (simp only [nI_add, pk_mul]; exact nI_e (by omega)) | exact nI_e (by omega))) (by omega) (q_aload_n (pc' := 143) dX11_stops_142 rfl rfl (q_getR (pc' := 146) dX11_stops_143 rfl fr_RX11_51 ⟨by omega, rfl⟩ rfl (wM_36 hM) (by decide) (q_sipush (pc' := 149) _ dX11_stops_146 rfl kk_sipush_1024 (q_iload_n (pc' := 150) dX11_stops_149 rfl rfl ?_)))))))))))))
      refine q_iload_n (pc' := 151) dX11_stops_150 rfl rfl (q_cSi (pc' := 154) dX11_stops_151 rfl ml_RX11_308 ys_X11_lineAt (by decide) (rn_X11_lineAt) rfl rfl (Nat.le_of_ble_eq_true rfl) (Nat.le_refl _) (q_iadd (pc' := 155) dX11_stops_154 rfl (q_iconst (pc' := 156) _ dX11_stops_155 rfl kk_iconst_m1 (q_iast (pc' := 157) (1024 + (8 * d + k)) dX11_stops_156 rfl (by first | exact ⟨by omega, rfl⟩ | exact okaS hi hz (by decide) rfl | assumption) (by (first | (simp only [nI_add, pk_mul]; done) | (simp only [nI_add, pk_mul]; exact nI_e (by omega)) | exact nI_e (by omega))) (by omega) (q_aload_n (pc' := 158) dX11_stops_157 rfl rfl (q_getR (pc' := 161) dX11_stops_158 rfl fr_RX11_51 ⟨by omega, rfl⟩ rfl (wM_36 hM) (by decide) (q_sipush (pc' := 164) _ dX11_stops_161 rfl kk_sipush_1104 (q_iload_n (pc' := 165) dX11_stops_164 rfl rfl (q_iload_n (pc' := 166) dX11_stops_165 rfl rfl (q_cSi (pc' := 169) dX11_stops_166 rfl ml_RX11_308 ys_X11_lineAt (by decide) (rn_X11_lineAt) rfl rfl (Nat.le_of_ble_eq_true rfl) (Nat.le_refl _) (q_iadd (pc' := 170) dX11_stops_169 rfl (q_iconst (pc' := 171) _ dX11_stops_170 rfl kk_iconst_m1 (q_iast (pc' := 172) (1104 + (8 * d + k)) dX11_stops_171 rfl (by first | exact ⟨by omega, rfl⟩ | exact okaS hi hz (by decide) rfl | assumption) (by (first | (simp only [nI_add, pk_mul]; done) | (simp only [nI_add, pk_mul]; exact nI_e (by omega)) | exact nI_e (by omega))) (by omega) ?_)))))))))))))
      refine q_aload_n (pc' := 173) dX11_stops_172 rfl rfl (q_iload_n (pc' := 174) dX11_stops_173 rfl rfl (q_iload_n (pc' := 175) dX11_stops_174 rfl rfl (q_sVv (pc' := 178) dX11_stops_175 rfl ml_RX11_337 yv_X11_noOld (by decide) (rs_X11_noOld hM h2 hd (by omega)) ⟨by omega, rfl⟩ rfl rfl (Nat.le_of_ble_eq_true rfl) (Nat.le_refl _) (fun I4 ⟨hF4, hR4⟩ => ?_))))
      refine q_inc_3 (pc' := 181) dX11_stops_178 rfl (by decide) rfl (q_goto (pc' := 104) dX11_stops_181 rfl ?_)
      have := ih (k + 1) I4 o4 (by omega) ((hF0.tr ((mF_up.tr mF_up).tr mF_up)).tr hF4)
      rw [hstep] at this
      exact this hR4
  have inner : ∀ p, p < b 0 0 → ∀ A0, (∀ I1, mF I I1 → rR (I1 464) (itN (fun v A => aFr d (32 * p + v) A) (b 0 1) A0) → Wq dd_X11_stops (mj_mk w l 472 Y) Q 96 [some (.ref 452), some (.int (nI d)), some (.int (nI ((itN (fun v A => aFr d (32 * p + v) A) (b 0 1) A0) 16 0))), some (.int (nI p)), some (.int (nI (b 0 1)))] [] (472, I1, J, R)) → aOK A0 → ∀ m k I0, k + m = b 0 1 → mF I I0 → rR (I0 464) (itN (fun v A => aFr d (32 * p + v) A) k A0) → Wq dd_X11_stops (mj_mk w l 472 Y) Q 15 [some (.ref 452), some (.int (nI d)), some (.int (nI ((itN (fun v A => aFr d (32 * p + v) A) k A0) 16 0))), some (.int (nI p)), some (.int (nI k))] [] (472, I0, J, R) := by
    intro p hp A0 hnext hok m
    induction m with
    | zero =>
      intro k I0 hkm hF0 hR0
      have hkz : k = b 0 1 := by omega
      subst hkz
      have hb := mB_F hF0 hb
      refine q_iload (pc' := 17) dX11_stops_15 rfl rfl (q_aload_n (pc' := 18) dX11_stops_17 rfl rfl (q_getIe (pc' := 21) dX11_stops_18 rfl fr_RX11_243 ⟨by omega, rfl⟩ rfl (mB_1 hb) (q_icmp_ge (pc' := 24) (pt := 96) dX11_stops_21 rfl rfl (fun _ => ?_) (fun h9 => absurd (by (first | assumption | exact nI_le (by omega) (by omega) | exact nI_ge (by omega) (by omega) | exact nI_lt (by omega) (by omega) | exact nI_nlt (by omega) (by omega) | exact nI_ne (by omega) (by omega) (by omega) | exact nI_e (by omega) | decide)) h9))))
      exact hnext I0 hF0 hR0
    | succ m ih =>
      intro k I0 hkm hF0 hR0
      have hb := mB_F hF0 hb
      have hok1 : aOK (itN (fun v A => aFr d (32 * p + v) A) k A0) := itN_P (n := b 0 1) hok (fun v C _ hC => aOK_fr hC) k (by omega)
      have hstep : itN (fun v A => aFr d (32 * p + v) A) (k + 1) A0 = aFr d (32 * p + k) (itN (fun v A => aFr d (32 * p + v) A) k A0) := rfl
      generalize itN (fun v A => aFr d (32 * p + v) A) k A0 = Ak at hR0 hstep hok1 ⊢
      have h6 := hok1.1 (32 * p + k) (by omega)
      have e0 : I0 464 (256 + (32 * p + k)) = eD (Ak 1 (32 * p + k)) := (hR0 _ (by omega)).trans (cE_d (by omega))
      refine q_iload (pc' := 17) dX11_stops_15 rfl rfl (q_aload_n (pc' := 18) dX11_stops_17 rfl rfl (q_getIe (pc' := 21) dX11_stops_18 rfl fr_RX11_243 ⟨by omega, rfl⟩ rfl (mB_1 hb) (q_icmp_ge (pc' := 24) (pt := 96) dX11_stops_21 rfl rfl (fun h9 => absurd h9 (by (first | assumption | exact nI_le (by omega) (by omega) | exact nI_ge (by omega) (by omega) | exact nI_lt (by omega) (by omega) | exact nI_nlt (by omega) (by omega) | exact nI_ne (by omega) (by omega) (by omega) | exact nI_e (by omega) | decide))) (fun _ => (q_aload_n (pc' := 25) dX11_stops_24 rfl rfl (q_getR (pc' := 28) dX11_stops_25 rfl fr_RX11_51 ⟨by omega, rfl⟩ rfl (wM_36 hM) (by decide) (q_sipush (pc' := 31) _ dX11_stops_28 rfl kk_sipush_256 (q_iload_n (pc' := 32) dX11_stops_31 rfl rfl (q_iload (pc' := 34) dX11_stops_32 rfl rfl (q_cSi (pc' := 37) dX11_stops_34 rfl ml_RX11_286 ys_X11_spot (by decide) (rn_X11_spot) rfl rfl (Nat.le_of_ble_eq_true rfl) (Nat.le_refl _) (q_iadd (pc' := 38) dX11_stops_37 rfl (q_ialde (pc' := 39) (256 + (32 * p + k)) dX11_stops_38 rfl (by first | exact ⟨by omega, rfl⟩ | exact okaS hi hz (by decide) rfl | assumption) (by (first | (simp only [nI_add, pk_mul]; done) | (simp only [nI_add, pk_mul]; exact nI_e (by omega)) | exact nI_e (by omega))) (by omega) e0 (q_iload_n (pc' := 40) dX11_stops_39 rfl rfl (q_icmp_eq (pc' := 43) (pt := 46) dX11_stops_40 rfl rfl (fun h1 => ?_) (fun h1 => ?_)))))))))))))))
      · have h2 := (eD_eq h6.2.1 hd).mp h1
        have e1 : I0 464 (768 + (32 * p + k)) = nI (Ak 2 (32 * p + k)) := (hR0 _ (by omega)).trans (cE_pd (by omega))
        refine q_iload_n (pc' := 47) dX11_stops_46 rfl rfl (q_aload_n (pc' := 48) dX11_stops_47 rfl rfl (q_getR (pc' := 51) dX11_stops_48 rfl fr_RX11_51 ⟨by omega, rfl⟩ rfl (wM_36 hM) (by decide) (q_sipush (pc' := 54) _ dX11_stops_51 rfl kk_sipush_768 (q_iload_n (pc' := 55) dX11_stops_54 rfl rfl (q_iload (pc' := 57) dX11_stops_55 rfl rfl (q_cSi (pc' := 60) dX11_stops_57 rfl ml_RX11_286 ys_X11_spot (by decide) (rn_X11_spot) rfl rfl (Nat.le_of_ble_eq_true rfl) (Nat.le_refl _) (q_iadd (pc' := 61) dX11_stops_60 rfl (q_ialde (pc' := 62) (768 + (32 * p + k)) dX11_stops_61 rfl (by first | exact ⟨by omega, rfl⟩ | exact okaS hi hz (by decide) rfl | assumption) (by (first | (simp only [nI_add, pk_mul]; done) | (simp only [nI_add, pk_mul]; exact nI_e (by omega)) | exact nI_e (by omega))) (by omega) e1 (q_iadd (pc' := 63) dX11_stops_62 rfl ?_)))))))))
        refine q_top (nI_add _ _) ?_
        have h3 := rR_pd (x := 0) hR0 (show 32 * p + k < 256 by omega)
        refine q_ist_2 (pc' := 64) dX11_stops_63 rfl (by decide) rfl (q_aload_n (pc' := 65) dX11_stops_64 rfl rfl (q_getR (pc' := 68) dX11_stops_65 rfl fr_RX11_51 ⟨by omega, rfl⟩ rfl (wM_36 hM) (by decide) (q_sipush (pc' := 71) _ dX11_stops_68 rfl kk_sipush_768 (q_iload_n (pc' := 72) dX11_stops_71 rfl rfl (q_iload (pc' := 74) dX11_stops_72 rfl rfl (q_cSi (pc' := 77) dX11_stops_74 rfl ml_RX11_286 ys_X11_spot (by decide) (rn_X11_spot) rfl rfl (Nat.le_of_ble_eq_true rfl) (Nat.le_refl _) (q_iadd (pc' := 78) dX11_stops_77 rfl (q_iconst (pc' := 79) _ dX11_stops_78 rfl kk_iconst_0 (q_iast (pc' := 80) (768 + (32 * p + k)) dX11_stops_79 rfl (by first | exact ⟨by omega, rfl⟩ | exact okaS hi hz (by decide) rfl | assumption) (by (first | (simp only [nI_add, pk_mul]; done) | (simp only [nI_add, pk_mul]; exact nI_e (by omega)) | exact nI_e (by omega))) (by omega) (q_aload_n (pc' := 81) dX11_stops_80 rfl rfl (q_iload_n (pc' := 82) dX11_stops_81 rfl rfl (q_iload (pc' := 84) dX11_stops_82 rfl rfl (q_iconst (pc' := 85) _ dX11_stops_84 rfl kk_iconst_0 ?_)))))))))))))
        refine q_iload_n (pc' := 86) dX11_stops_85 rfl rfl (q_iconst (pc' := 87) _ dX11_stops_86 rfl kk_iconst_0 (q_sVv (pc' := 90) dX11_stops_87 rfl ml_RX11_304 yv_X11_sets (by decide) (rs_X11_sets (s := 0) (k := 0) hM h3 (by omega) (by omega) (by decide) hd (by decide)) ⟨by omega, rfl⟩ rfl rfl (Nat.le_of_ble_eq_true rfl) (Nat.le_refl _) (fun I4 ⟨hF4, hR4⟩ => ?_)))
        refine q_inc_4 (pc' := 93) dX11_stops_90 rfl (by decide) rfl (q_goto (pc' := 15) dX11_stops_93 rfl ?_)
        have := ih (k + 1) I4 (by omega) ((hF0.tr mF_up).tr hF4)
        rw [hstep] at this
        unfold aFr at this
        rw [if_pos h2] at this
        rw [if_pos rfl] at hR4
        exact this (rR_hi (by decide) hR4)
      · have h2 : ¬ (Ak 1 (32 * p + k) ≠ 0 ∧ (Ak 1 (32 * p + k) - 1) / 8 = d) := fun z => h1 ((eD_eq h6.2.1 hd).mpr z)
        refine q_goto (pc' := 90) dX11_stops_43 rfl (q_inc_4 (pc' := 93) dX11_stops_90 rfl (by decide) rfl (q_goto (pc' := 15) dX11_stops_93 rfl ?_))
        have := ih (k + 1) I0 (by omega) hF0
        rw [hstep] at this
        unfold aFr at this
        rw [if_neg h2] at this
        exact this hR0
  have loop1 : ∀ m k I0 (o4 : Option Value), k + m = b 0 0 → mF I I0 → rR (I0 464) (itN (fun p A => itN (fun v A => aFr d (32 * p + v) A) (b 0 1) A) k (mj_up A 16 0 0)) → Wq dd_X11_stops (mj_mk w l 472 Y) Q 4 [some (.ref 452), some (.int (nI d)), some (.int (nI ((itN (fun p A => itN (fun v A => aFr d (32 * p + v) A) (b 0 1) A) k (mj_up A 16 0 0)) 16 0))), some (.int (nI k)), o4] [] (472, I0, J, R) := by
    intro m
    induction m with
    | zero =>
      intro k I0 o4 hkm hF0 hR0
      have hkz : k = b 0 0 := by omega
      subst hkz
      have hb := mB_F hF0 hb
      refine q_iload_n (pc' := 5) dX11_stops_4 rfl rfl (q_aload_n (pc' := 6) dX11_stops_5 rfl rfl (q_getIe (pc' := 9) dX11_stops_6 rfl fr_RX11_240 ⟨by omega, rfl⟩ rfl (mB_0 hb) (q_icmp_ge (pc' := 12) (pt := 102) dX11_stops_9 rfl rfl (fun _ => (q_iconst (pc' := 103) _ dX11_stops_102 rfl kk_iconst_0 (q_ist_3 (pc' := 104) dX11_stops_103 rfl (by decide) rfl ?_))) (fun h9 => absurd (by (first | assumption | exact nI_le (by omega) (by omega) | exact nI_ge (by omega) (by omega) | exact nI_lt (by omega) (by omega) | exact nI_nlt (by omega) (by omega) | exact nI_ne (by omega) (by omega) (by omega) | exact nI_e (by omega) | decide)) h9))))
      exact loop2 8 0 I0 o4 (by omega) hF0 hR0
    | succ m ih =>
      intro k I0 o4 hkm hF0 hR0
      have hb := mB_F hF0 hb
      refine q_iload_n (pc' := 5) dX11_stops_4 rfl rfl (q_aload_n (pc' := 6) dX11_stops_5 rfl rfl (q_getIe (pc' := 9) dX11_stops_6 rfl fr_RX11_240 ⟨by omega, rfl⟩ rfl (mB_0 hb) (q_icmp_ge (pc' := 12) (pt := 102) dX11_stops_9 rfl rfl (fun h9 => absurd h9 (by (first | assumption | exact nI_le (by omega) (by omega) | exact nI_ge (by omega) (by omega) | exact nI_lt (by omega) (by omega) | exact nI_nlt (by omega) (by omega) | exact nI_ne (by omega) (by omega) (by omega) | exact nI_e (by omega) | decide))) (fun _ => (q_iconst (pc' := 13) _ dX11_stops_12 rfl kk_iconst_0 (q_ist_4 (pc' := 15) dX11_stops_13 rfl (by decide) rfl ?_))))))
      refine inner k (by omega) _ (fun I1 hF1 hR1 => ?_) (itN_P (n := b 0 0) (aOK_hi hA (by decide)) (fun p B _ hB => itN_P (n := b 0 1) hB (fun v C _ hC => aOK_fr hC) (b 0 1) (Nat.le_refl _)) k (by omega)) (b 0 1) 0 I0 (by omega) hF0 hR0
      refine q_inc_3 (pc' := 99) dX11_stops_96 rfl (by decide) rfl (q_goto (pc' := 4) dX11_stops_99 rfl ?_)
      exact ih (k + 1) I1 _ (by omega) hF1 hR1
  refine q_iconst (pc' := 1) _ dX11_stops_0 rfl kk_iconst_0 (q_ist_2 (pc' := 2) dX11_stops_1 rfl (by decide) rfl (q_iconst (pc' := 3) _ dX11_stops_2 rfl kk_iconst_0 (q_ist_3 (pc' := 4) dX11_stops_3 rfl (by decide) rfl ?_)))
  exact loop1 (b 0 0) 0 I _ (by omega) mF.rf (rR_hi (by decide) hR)
end M8
