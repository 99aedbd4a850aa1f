/-! ===== the reference: MOVE ===== -/
theorem rR_old {I : mj_M} {A : St} {id x : Nat} (hR : rR (I 464) A) (hi : id < 80) : rR ((mj_up (mj_up I 464 (1184 + id) (eC x)) 464 (1264 + id) (eV x)) 464) (mj_up A 4 id x) := by
  intro k hk
  have h1 := hR k hk
  rw [up464, up464, cE_up4 hi]
  repeat' split
  all_goals first | rfl | omega | exact h1
def aMoves (A : St) (id p : Nat) : St := aHolds (mj_up (mj_up (mj_up A 4 id (A 3 id)) 5 id 0) 0 (A 3 id - 1) 3) id p
theorem aOK_moves {A : St} {id p : Nat} (hA : aOK A) (hi : id < 80) (hp : p < 256) : aOK (aMoves A id p) := aOK_holds (aOK_up (aOK_up (aOK_up hA (fun _ => Nat.lt_succ_of_le (hA.2.1 id hi).1)) (fun _ => by decide)) (fun _ => by decide)) hi hp
def anyN (P : Nat → Bool) : Nat → Bool
  | 0 => false
  | n + 1 => anyN P n || P n
def aAny (b A : St) (d k : Nat) : Bool := (A 4 (8 * d + k) != 0) || ((b 1 d == 2) && anyN (fun j => A 4 (8 * d + j) != 0) (b 2 d))
/-- the CPUS of a set that there are, but one -/
def aOth (b : St) (set p : Nat) : Nat := bitN (fun j => set.testBit j && (j != p)) (b 0 0)
theorem oth_e {b : St} {set p : Nat} (hk : bOK b) (hp : p < 8) : nI set &&& (nI 1 <<< (nI (b 0 0) &&& 31) - nI 1) &&& (nI 1 <<< (nI p &&& 31) ^^^ (-1)) = nI (aOth b set p) := by
  have hc := hk.1.2
  have h2 : 1 ≤ 2 ^ b 0 0 := Nat.one_le_two_pow
  rw [sh1 (by omega), sh1 (by omega), pk_sub h2]
  apply Int32.toBitVec_inj.mp
  rw [Int32.toBitVec_and, Int32.toBitVec_and, Int32.toBitVec_xor]
  show BitVec.ofNat 32 set &&& BitVec.ofNat 32 (2 ^ b 0 0 - 1) &&& (BitVec.ofNat 32 (2 ^ p) ^^^ (-1 : Int32).toBitVec) = BitVec.ofNat 32 (aOth b set p)
  have e1 : (-1 : Int32).toBitVec = BitVec.allOnes 32 := by decide
  rw [e1]
  apply BitVec.eq_of_getLsbD_eq
  intro i hi
  rw [BitVec.getLsbD_and, BitVec.getLsbD_and, BitVec.getLsbD_xor, BitVec.getLsbD_ofNat, BitVec.getLsbD_ofNat, BitVec.getLsbD_ofNat, BitVec.getLsbD_ofNat, BitVec.getLsbD_allOnes]
  unfold aOth
  rw [bitN_bit, Nat.testBit_two_pow_sub_one, Nat.testBit_two_pow]
  simp only [hi, decide_true, Bool.true_and, Bool.xor_true]
  by_cases h3 : i < b 0 0
  · simp only [h3, decide_true, Bool.true_and, Bool.and_true]
    congr 1
    by_cases h4 : p = i
    · subst h4; simp
    · simp [h4, Ne.symm h4]
  · simp [h3]
theorem aOth_lt {b : St} {set p : Nat} (hk : bOK b) : aOth b set p < 256 := by
  have h1 := bitN_lt (fun j => set.testBit j && (j != p)) (b 0 0)
  have h2 : 2 ^ b 0 0 ≤ 2 ^ 8 := Nat.pow_le_pow_right (by decide) hk.1.2
  unfold aOth; omega
/-- MOVE of a LINE that is HELD: none, if there is no room -/
def aMvQ (b A : St) (d k set : Nat) : Option St := (aLeast b A (aOth b set ((A 3 (8 * d + k) - 1) / 32) &&& aSpread b d k)).map (fun p => aMoves A (8 * d + k) (32 * p + (aResv b A (8 * d + k) p).getD 0))
def aMvD (b A : St) (d k set : Nat) : Option St := (aDealt b A (b 2 d) (aOth b set ((A 3 (8 * d + k) - 1) / 32))).map (fun p => itN (fun j B => aMoves B (8 * d + j) (32 * p + (b 2 d * (aBlk b A p (b 2 d)).getD 0 + j))) (b 2 d) A)
def aMove (b A : St) (d k set : Nat) : Nat × St :=
  if A 7 d = 1 ∧ A 3 (8 * d + k) ≠ 0 then
    if aAny b A d k = true then (3, A) else
    match (if b 1 d = 3 then aMvQ b A d k set else aMvD b A d k set) with
    | none => (1, A)
    | some A' => (0, A')
  else (4, A)
section M11
variable {w : mj_Wd} {l : Launch} {I : mj_M} {J : mj_J} {R : mj_R} {b A : St}
theorem rs_X11_moves {d k p v : Nat} (hM : mj_wM R) (hR : rR (I 464) A) (hA : aOK A) (hd : d < 10) (hk : k < 8) (hp : p < 8) (hv : v < 32) (hh : A 3 (8 * d + k) ≠ 0) : RsV w l yX11_moves dd_X11_moves [.ref 452, .int (nI d), .int (nI k), .int (nI p), .int (nI v)] (472, I, J, R) (fun I' => mF I I' ∧ rR (I' 464) (aMoves A (8 * d + k) (32 * p + v))) := by
  have h6 := hA.2.1 (8 * d + k) (by omega)
  have e1 : I 464 (1024 + (8 * d + k)) = eC (A 3 (8 * d + k)) := (hR _ (by omega)).trans (cE_hc (by omega))
  have e2 : mj_up I 464 (1184 + (8 * d + k)) (eC (A 3 (8 * d + k))) 464 (1104 + (8 * d + k)) = eV (A 3 (8 * d + k)) := by
    rw [up464, if_neg (by omega)]; exact (hR _ (by omega)).trans (cE_hv (by omega))
  have r1 := rR_old (x := A 3 (8 * d + k)) hR (show 8 * d + k < 80 by omega)
  have r2 := rR_dr (x := 0) r1 (show 8 * d + k < 80 by omega)
  have r3 := rR_vs (p := A 3 (8 * d + k) - 1) (x := 3) r2 (by omega)
  have e3 : mj_up (mj_up (mj_up I 464 (1184 + (8 * d + k)) (eC (A 3 (8 * d + k)))) 464 (1264 + (8 * d + k)) (eV (A 3 (8 * d + k)))) 464 (1344 + (8 * d + k)) (nI 0) 464 (1184 + (8 * d + k)) = nI ((A 3 (8 * d + k) - 1) / 32) := by
    rw [up464, if_neg (by omega), up464, if_neg (by omega), up464, if_pos rfl]; exact eC_p hh
  have e4 : mj_up (mj_up (mj_up I 464 (1184 + (8 * d + k)) (eC (A 3 (8 * d + k)))) 464 (1264 + (8 * d + k)) (eV (A 3 (8 * d + k)))) 464 (1344 + (8 * d + k)) (nI 0) 464 (1264 + (8 * d + k)) = nI ((A 3 (8 * d + k) - 1) % 32) := by
    rw [up464, if_neg (by omega), up464, if_pos rfl]; exact eV_p hh
  have e7 := pl_e (A 3 (8 * d + k))
  refine rt_intro2 (L := [some (.ref 452), some (.int (nI d)), some (.int (nI k)), some (.int (nI p)), some (.int (nI v)), none]) ⟨by decide, rfl, (fun h => by cases h)⟩ (Nat.le_of_ble_eq_true rfl) rfl (fun Y Q hQ => ?_)
  refine q_iload_n (pc' := 1) dX11_moves_0 rfl rfl (q_iload_n (pc' := 2) dX11_moves_1 rfl rfl (q_cSi (pc' := 5) dX11_moves_2 rfl ml_RX11_308 ys_X11_lineAt (by decide) (rn_X11_lineAt) rfl rfl (Nat.le_of_ble_eq_true rfl) (Nat.le_refl _) ?_))
  refine q_top (y := nI (8 * d + k)) (by (first | (simp only [nI_add, pk_mul]; done) | (simp only [nI_add, pk_mul]; exact nI_e (by omega)) | exact nI_e (by omega))) ?_
  refine q_ist_5 (pc' := 7) dX11_moves_5 rfl (by decide) rfl (q_aload_n (pc' := 8) dX11_moves_7 rfl rfl (q_getR (pc' := 11) dX11_moves_8 rfl fr_RX11_51 ⟨by omega, rfl⟩ rfl (wM_36 hM) (by decide) (q_sipush (pc' := 14) _ dX11_moves_11 rfl kk_sipush_1184 (q_iload (pc' := 16) dX11_moves_14 rfl rfl (q_iadd (pc' := 17) dX11_moves_16 rfl (q_aload_n (pc' := 18) dX11_moves_17 rfl rfl (q_getR (pc' := 21) dX11_moves_18 rfl fr_RX11_51 ⟨by omega, rfl⟩ rfl (wM_36 hM) (by decide) (q_sipush (pc' := 24) _ dX11_moves_21 rfl kk_sipush_1024 (q_iload (pc' := 26) dX11_moves_24 rfl rfl (q_iadd (pc' := 27) dX11_moves_26 rfl (q_ialde (pc' := 28) (1024 + (8 * d + k)) dX11_moves_27 rfl (by first | exact ⟨by omega, rfl⟩ | exact okaS hi hz (by decide) rfl | assumption) (by (first | (simp only [nI_add, pk_mul]; done) | (simp only [nI_add, pk_mul]; exact nI_e (by omega)) | exact nI_e (by omega))) (by omega) e1 (q_iast (pc' := 29) (1184 + (8 * d + k)) dX11_moves_28 rfl (by first | exact ⟨by omega, rfl⟩ | exact okaS hi hz (by decide) rfl | assumption) (by (first | (simp only [nI_add, pk_mul]; done) | (simp only [nI_add, pk_mul]; exact nI_e (by omega)) | exact nI_e (by omega))) (by omega) (q_aload_n (pc' := 30) dX11_moves_29 rfl rfl ?_)))))))))))))
  refine q_getR (pc' := 33) dX11_moves_30 rfl fr_RX11_51 ⟨by omega, rfl⟩ rfl (wM_36 hM) (by decide) (q_sipush (pc' := 36) _ dX11_moves_33 rfl kk_sipush_1264 (q_iload (pc' := 38) dX11_moves_36 rfl rfl (q_iadd (pc' := 39) dX11_moves_38 rfl (q_aload_n (pc' := 40) dX11_moves_39 rfl rfl (q_getR (pc' := 43) dX11_moves_40 rfl fr_RX11_51 ⟨by omega, rfl⟩ rfl (wM_36 hM) (by decide) (q_sipush (pc' := 46) _ dX11_moves_43 rfl kk_sipush_1104 (q_iload (pc' := 48) dX11_moves_46 rfl rfl (q_iadd (pc' := 49) dX11_moves_48 rfl (q_ialde (pc' := 50) (1104 + (8 * d + k)) dX11_moves_49 rfl (by first | exact ⟨by omega, rfl⟩ | exact okaS hi hz (by decide) rfl | assumption) (by (first | (simp only [nI_add, pk_mul]; done) | (simp only [nI_add, pk_mul]; exact nI_e (by omega)) | exact nI_e (by omega))) (by omega) e2 (q_iast (pc' := 51) (1264 + (8 * d + k)) dX11_moves_50 rfl (by first | exact ⟨by omega, rfl⟩ | exact okaS hi hz (by decide) rfl | assumption) (by (first | (simp only [nI_add, pk_mul]; done) | (simp only [nI_add, pk_mul]; exact nI_e (by omega)) | exact nI_e (by omega))) (by omega) (q_aload_n (pc' := 52) dX11_moves_51 rfl rfl (q_getR (pc' := 55) dX11_moves_52 rfl fr_RX11_51 ⟨by omega, rfl⟩ rfl (wM_36 hM) (by decide) (q_sipush (pc' := 58) _ dX11_moves_55 rfl kk_sipush_1344 ?_)))))))))))))
  refine q_iload (pc' := 60) dX11_moves_58 rfl rfl (q_iadd (pc' := 61) dX11_moves_60 rfl (q_iconst (pc' := 62) _ dX11_moves_61 rfl kk_iconst_0 (q_iast (pc' := 63) (1344 + (8 * d + k)) dX11_moves_62 rfl (by first | exact ⟨by omega, rfl⟩ | exact okaS hi hz (by decide) rfl | assumption) (by (first | (simp only [nI_add, pk_mul]; done) | (simp only [nI_add, pk_mul]; exact nI_e (by omega)) | exact nI_e (by omega))) (by omega) ?_)))
  refine q_aload_n (pc' := 64) dX11_moves_63 rfl rfl (q_getR (pc' := 67) dX11_moves_64 rfl fr_RX11_51 ⟨by omega, rfl⟩ rfl (wM_36 hM) (by decide) (q_iconst (pc' := 68) _ dX11_moves_67 rfl kk_iconst_0 (q_aload_n (pc' := 69) dX11_moves_68 rfl rfl (q_getR (pc' := 72) dX11_moves_69 rfl fr_RX11_51 ⟨by omega, rfl⟩ rfl (wM_36 hM) (by decide) (q_sipush (pc' := 75) _ dX11_moves_72 rfl kk_sipush_1184 (q_iload (pc' := 77) dX11_moves_75 rfl rfl (q_iadd (pc' := 78) dX11_moves_77 rfl (q_ialde (pc' := 79) (1184 + (8 * d + k)) dX11_moves_78 rfl (by first | exact ⟨by omega, rfl⟩ | exact okaS hi hz (by decide) rfl | assumption) (by (first | (simp only [nI_add, pk_mul]; done) | (simp only [nI_add, pk_mul]; exact nI_e (by omega)) | exact nI_e (by omega))) (by omega) e3 (q_aload_n (pc' := 80) dX11_moves_79 rfl rfl (q_getR (pc' := 83) dX11_moves_80 rfl fr_RX11_51 ⟨by omega, rfl⟩ rfl (wM_36 hM) (by decide) (q_sipush (pc' := 86) _ dX11_moves_83 rfl kk_sipush_1264 (q_iload (pc' := 88) dX11_moves_86 rfl rfl (q_iadd (pc' := 89) dX11_moves_88 rfl ?_)))))))))))))
  refine q_ialde (pc' := 90) (1264 + (8 * d + k)) dX11_moves_89 rfl (by first | exact ⟨by omega, rfl⟩ | exact okaS hi hz (by decide) rfl | assumption) (by (first | (simp only [nI_add, pk_mul]; done) | (simp only [nI_add, pk_mul]; exact nI_e (by omega)) | exact nI_e (by omega))) (by omega) e4 (q_cSi (pc' := 93) dX11_moves_90 rfl ml_RX11_286 ys_X11_spot (by decide) (rn_X11_spot) rfl rfl (Nat.le_of_ble_eq_true rfl) (Nat.le_refl _) (q_iadd (pc' := 94) dX11_moves_93 rfl (q_iconst (pc' := 95) _ dX11_moves_94 rfl kk_iconst_3 (q_iast (pc' := 96) (A 3 (8 * d + k) - 1) dX11_moves_95 rfl (by first | exact ⟨by omega, rfl⟩ | exact okaS hi hz (by decide) rfl | assumption) (by rw [pk_mul, nI_add, nI_add, e7]; exact nI_e (by omega)) (by omega) (q_aload_n (pc' := 97) dX11_moves_96 rfl rfl (q_iload_n (pc' := 98) dX11_moves_97 rfl rfl (q_iload_n (pc' := 99) dX11_moves_98 rfl rfl (q_iload_n (pc' := 100) dX11_moves_99 rfl rfl (q_iload (pc' := 102) dX11_moves_100 rfl rfl (q_sVv (pc' := 105) dX11_moves_102 rfl ml_RX11_320 yv_X11_holds (by decide) (rs_X11_holds hM r3 hp hv hd hk) ⟨by omega, rfl⟩ rfl rfl (Nat.le_of_ble_eq_true rfl) (Nat.le_refl _) (fun I4 ⟨hF4, hR4⟩ => ?_)))))))))))
  exact q_vret dX11_moves_105 rfl (hQ _ _ _ _ ⟨rfl, ⟨rfl, rfl⟩, (((mF_up.tr mF_up).tr mF_up).tr mF_up).tr hF4, hR4⟩)
theorem rn_X11_hasAnyOld {d k : Nat} (hM : mj_wM R) (hb : mB I b) (hk : bOK b) (hR : rR (I 464) A) (hA : aOK A) (hd : d < b 0 2) (hl : k < 8) : Rn w l yX11_hasAnyOld dd_X11_hasAnyOld [.ref 452, .int (nI d), .int (nI k)] (472, I, J, R) (some (.int (bI (aAny b A d k)))) (472, I, J, R) := by
  have h10 : d < 10 := by have := hk.2.2.1; omega
  have hs := hk.2.2.2 d hd
  have hbd := hb.2.2.2 d hd
  refine rn_intro2 (L := [some (.ref 452), some (.int (nI d)), some (.int (nI k)), none, none]) ⟨by decide, rfl, (fun h => by cases h)⟩ (Nat.le_refl _) (Nat.le_of_ble_eq_true rfl) rfl (fun Y Q hQ => ?_)
  refine q_aload_n (pc' := 1) dX11_hasAnyOld_0 rfl rfl (q_iload_n (pc' := 2) dX11_hasAnyOld_1 rfl rfl (q_iload_n (pc' := 3) dX11_hasAnyOld_2 rfl rfl (q_cVi (pc' := 6) dX11_hasAnyOld_3 rfl ml_RX11_356 yv_X11_hasOld (by decide) (rn_X11_hasOld hM hR hA h10 hl) ⟨by omega, rfl⟩ rfl rfl (Nat.le_of_ble_eq_true rfl) (Nat.le_refl _) (q_ist_3 (pc' := 7) dX11_hasAnyOld_6 rfl (by decide) rfl (q_iconst (pc' := 8) _ dX11_hasAnyOld_7 rfl kk_iconst_0 (q_ist_4 (pc' := 10) dX11_hasAnyOld_8 rfl (by decide) rfl ?_))))))
  by_cases hg : b 1 d = 2
  · have loop : ∀ m x, x + m = b 2 d → Wq dd_X11_hasAnyOld (mj_mk w l 472 Y) Q 10 [some (.ref 452), some (.int (nI d)), some (.int (nI k)), some (.int (bI ((A 4 (8 * d + k) != 0) || anyN (fun j => A 4 (8 * d + j) != 0) x))), some (.int (nI x))] [] (472, I, J, R) := by
      intro m
      induction m with
      | zero =>
        intro x hx
        have hxz : x = b 2 d := by omega
        subst hxz
        exact q_iload (pc' := 12) dX11_hasAnyOld_10 rfl rfl (q_aload_n (pc' := 13) dX11_hasAnyOld_12 rfl rfl (q_getR (pc' := 16) dX11_hasAnyOld_13 rfl fr_RX11_32 ⟨by omega, rfl⟩ rfl (wM_30 hM) (by decide) (q_iload_n (pc' := 17) dX11_hasAnyOld_16 rfl rfl (q_ialde (pc' := 18) _ dX11_hasAnyOld_17 rfl (by first | exact ⟨by omega, rfl⟩ | exact okaS hi hz (by decide) rfl | assumption) rfl (by omega) hbd.2.1 (q_icmp_ge (pc' := 21) (pt := 57) dX11_hasAnyOld_18 rfl rfl (fun _ => (q_iload_n (pc' := 58) dX11_hasAnyOld_57 rfl rfl (q_zret dX11_hasAnyOld_58 rfl (by first | exact Or.inl rfl | exact Or.inr rfl | exact bI_01 _) (by unfold aAny at hQ; rw [hg] at hQ; exact hQ)))) (fun h9 => absurd (by (first | assumption | exact nI_le (by omega) (by omega) | exact nI_ge (by omega) (by omega) | exact nI_lt (by omega) (by omega) | exact nI_nlt (by omega) (by omega) | exact nI_ne (by omega) (by omega) (by omega) | exact nI_e (by omega) | decide)) h9))))))
      | succ m ih =>
        intro x hx
        have ih2 := ih (x + 1) (by omega)
        have e : ((A 4 (8 * d + k) != 0) || anyN (fun j => A 4 (8 * d + j) != 0) (x + 1)) = (((A 4 (8 * d + k) != 0) || anyN (fun j => A 4 (8 * d + j) != 0) x) || (A 4 (8 * d + x) != 0)) := by
          show ((A 4 (8 * d + k) != 0) || (anyN (fun j => A 4 (8 * d + j) != 0) x || (A 4 (8 * d + x) != 0))) = _
          rw [Bool.or_assoc]
        rw [e] at ih2
        generalize ((A 4 (8 * d + k) != 0) || anyN (fun j => A 4 (8 * d + j) != 0) x) = r at ih2 ⊢
        refine q_iload (pc' := 12) dX11_hasAnyOld_10 rfl rfl (q_aload_n (pc' := 13) dX11_hasAnyOld_12 rfl rfl (q_getR (pc' := 16) dX11_hasAnyOld_13 rfl fr_RX11_32 ⟨by omega, rfl⟩ rfl (wM_30 hM) (by decide) (q_iload_n (pc' := 17) dX11_hasAnyOld_16 rfl rfl (q_ialde (pc' := 18) _ dX11_hasAnyOld_17 rfl (by first | exact ⟨by omega, rfl⟩ | exact okaS hi hz (by decide) rfl | assumption) rfl (by omega) hbd.2.1 (q_icmp_ge (pc' := 21) (pt := 57) dX11_hasAnyOld_18 rfl rfl (fun h9 => absurd h9 (by (first | assumption | exact nI_le (by omega) (by omega) | exact nI_ge (by omega) (by omega) | exact nI_lt (by omega) (by omega) | exact nI_nlt (by omega) (by omega) | exact nI_ne (by omega) (by omega) (by omega) | exact nI_e (by omega) | decide))) (fun _ => (q_aload_n (pc' := 22) dX11_hasAnyOld_21 rfl rfl (q_getR (pc' := 25) dX11_hasAnyOld_22 rfl fr_RX11_29 ⟨by omega, rfl⟩ rfl (wM_29 hM) (by decide) (q_iload_n (pc' := 26) dX11_hasAnyOld_25 rfl rfl (q_ialde (pc' := 27) _ dX11_hasAnyOld_26 rfl (by first | exact ⟨by omega, rfl⟩ | exact okaS hi hz (by decide) rfl | assumption) rfl (by omega) hbd.1 (q_iconst (pc' := 28) _ dX11_hasAnyOld_27 rfl kk_iconst_2 (q_icmp_ne (pc' := 31) (pt := 57) dX11_hasAnyOld_28 rfl rfl (fun h9 => absurd (nI_e hg) h9) (fun _ => (q_iload_n (pc' := 32) dX11_hasAnyOld_31 rfl rfl (q_ifb_ne (pc' := 35) (pt := 45) dX11_hasAnyOld_32 rfl rfl (fun h1 => ?_) (fun h1 => ?_))))))))))))))))
        · refine q_iconst (bI true) dX11_hasAnyOld_45 rfl rfl ?_
          rw [h1, Bool.true_or] at ih2
          refine q_goto (pc' := 50) dX11_hasAnyOld_46 rfl (q_ist_3 (pc' := 51) dX11_hasAnyOld_50 rfl (by decide) rfl (q_inc_4 (pc' := 54) dX11_hasAnyOld_51 rfl (by decide) rfl (q_goto (pc' := 10) dX11_hasAnyOld_54 rfl ?_)))
          exact ih2
        · refine q_aload_n (pc' := 36) dX11_hasAnyOld_35 rfl rfl (q_iload_n (pc' := 37) dX11_hasAnyOld_36 rfl rfl (q_iload (pc' := 39) dX11_hasAnyOld_37 rfl rfl (q_cVi (pc' := 42) dX11_hasAnyOld_39 rfl ml_RX11_356 yv_X11_hasOld (by decide) (rn_X11_hasOld (k := x) hM hR hA h10 (by omega)) ⟨by omega, rfl⟩ rfl rfl (Nat.le_of_ble_eq_true rfl) (Nat.le_refl _) (q_ifb_eq (pc' := 45) (pt := 49) dX11_hasAnyOld_42 rfl rfl (fun h2 => ?_) (fun h2 => ?_)))))
          · refine q_iconst (bI false) dX11_hasAnyOld_49 rfl rfl ?_
            rw [h1, h2] at ih2
            refine q_ist_3 (pc' := 51) dX11_hasAnyOld_50 rfl (by decide) rfl (q_inc_4 (pc' := 54) dX11_hasAnyOld_51 rfl (by decide) rfl (q_goto (pc' := 10) dX11_hasAnyOld_54 rfl ?_))
            exact ih2
          · refine q_iconst (bI true) dX11_hasAnyOld_45 rfl rfl ?_
            rw [h1, h2] at ih2
            refine q_goto (pc' := 50) dX11_hasAnyOld_46 rfl (q_ist_3 (pc' := 51) dX11_hasAnyOld_50 rfl (by decide) rfl (q_inc_4 (pc' := 54) dX11_hasAnyOld_51 rfl (by decide) rfl (q_goto (pc' := 10) dX11_hasAnyOld_54 rfl ?_)))
            exact ih2
    have := loop (b 2 d) 0 (by omega)
    rw [show anyN (fun j => A 4 (8 * d + j) != 0) 0 = false from rfl, Bool.or_false] at this
    exact this
  · have e : aAny b A d k = (A 4 (8 * d + k) != 0) := by
      unfold aAny
      rw [beq_eq_false_iff_ne.mpr hg, Bool.false_and, Bool.or_false]
    rw [e] at hQ
    exact q_iload (pc' := 12) dX11_hasAnyOld_10 rfl rfl (q_aload_n (pc' := 13) dX11_hasAnyOld_12 rfl rfl (q_getR (pc' := 16) dX11_hasAnyOld_13 rfl fr_RX11_32 ⟨by omega, rfl⟩ rfl (wM_30 hM) (by decide) (q_iload_n (pc' := 17) dX11_hasAnyOld_16 rfl rfl (q_ialde (pc' := 18) _ dX11_hasAnyOld_17 rfl (by first | exact ⟨by omega, rfl⟩ | exact okaS hi hz (by decide) rfl | assumption) rfl (by omega) hbd.2.1 (q_icmp_ge (pc' := 21) (pt := 57) dX11_hasAnyOld_18 rfl rfl (fun h9 => absurd h9 (by (first | assumption | exact nI_le (by omega) (by omega) | exact nI_ge (by omega) (by omega) | exact nI_lt (by omega) (by omega) | exact nI_nlt (by omega) (by omega) | exact nI_ne (by omega) (by omega) (by omega) | exact nI_e (by omega) | decide))) (fun _ => (q_aload_n (pc' := 22) dX11_hasAnyOld_21 rfl rfl (q_getR (pc' := 25) dX11_hasAnyOld_22 rfl fr_RX11_29 ⟨by omega, rfl⟩ rfl (wM_29 hM) (by decide) (q_iload_n (pc' := 26) dX11_hasAnyOld_25 rfl rfl (q_ialde (pc' := 27) _ dX11_hasAnyOld_26 rfl (by first | exact ⟨by omega, rfl⟩ | exact okaS hi hz (by decide) rfl | assumption) rfl (by omega) hbd.1 (q_iconst (pc' := 28) _ dX11_hasAnyOld_27 rfl kk_iconst_2 (q_icmp_ne (pc' := 31) (pt := 57) dX11_hasAnyOld_28 rfl rfl (fun _ => (q_iload_n (pc' := 58) dX11_hasAnyOld_57 rfl rfl (q_zret dX11_hasAnyOld_58 rfl (by first | exact Or.inl rfl | exact Or.inr rfl | exact bI_01 _) hQ))) (fun h9 => absurd h9 (nI_ne hg (by omega) (by omega)))))))))))))))
theorem rn_X11_isLine {d : Nat} {x : Int32} (hM : mj_wM R) (hb : mB I b) (hk : bOK b) (hR : rR (I 464) A) (hA : aOK A) (hd : d < b 0 2) : Rn w l yX11_isLine dd_X11_isLine [.ref 452, .int (nI d), .int x] (472, I, J, R) (some (.int (bI ((A 7 d == 1) && inN x (b 2 d))))) (472, I, J, R) := by
  have h10 := hk.2.2.1
  have hbd := hb.2.2.2 d hd
  have hin : inN (nI d) (b 0 2) = true := (inN_iff (by omega)).mpr ⟨d, hd, rfl⟩
  refine rn_intro2 (L := [some (.ref 452), some (.int (nI d)), some (.int x)]) ⟨by decide, rfl, (fun h => by cases h)⟩ (Nat.le_refl _) (Nat.le_of_ble_eq_true rfl) rfl (fun Y Q hQ => ?_)
  refine q_aload_n (pc' := 1) dX11_isLine_0 rfl rfl (q_iload_n (pc' := 2) dX11_isLine_1 rfl rfl (q_cVi (pc' := 5) dX11_isLine_2 rfl ml_RX11_280 yv_X11_isDevice (by decide) (rn_X11_isDevice hb) ⟨by omega, rfl⟩ rfl rfl (Nat.le_of_ble_eq_true rfl) (Nat.le_refl _) (q_ifb_eq (pc' := 8) (pt := 36) dX11_isLine_5 rfl rfl (fun h9 => Bool.noConfusion (Eq.trans (Eq.symm (hin)) h9)) (fun _ => (q_aload_n (pc' := 9) dX11_isLine_8 rfl rfl (q_iload_n (pc' := 10) dX11_isLine_9 rfl rfl (q_cVi (pc' := 13) dX11_isLine_10 rfl ml_RX11_283 yv_X11_isStarted (by decide) (rn_X11_isStarted hM hR hA (by omega)) ⟨by omega, rfl⟩ rfl rfl (Nat.le_of_ble_eq_true rfl) (Nat.le_refl _) (q_ifb_eq (pc' := 16) (pt := 36) dX11_isLine_13 rfl rfl (fun h1 => ?_) (fun h1 => ?_)))))))))
  · exact q_iconst (pc' := 37) _ dX11_isLine_36 rfl kk_iconst_0 (q_zret dX11_isLine_37 rfl (by first | exact Or.inl rfl | exact Or.inr rfl | exact bI_01 _) (by rw [h1] at hQ; exact hQ))
  · refine q_iload_n (pc' := 17) dX11_isLine_16 rfl rfl (q_iconst (pc' := 18) _ dX11_isLine_17 rfl kk_iconst_0 (q_aload_n (pc' := 19) dX11_isLine_18 rfl rfl (q_getR (pc' := 22) dX11_isLine_19 rfl fr_RX11_32 ⟨by omega, rfl⟩ rfl (wM_30 hM) (by decide) (q_iload_n (pc' := 23) dX11_isLine_22 rfl rfl (q_ialde (pc' := 24) _ dX11_isLine_23 rfl (by first | exact ⟨by omega, rfl⟩ | exact okaS hi hz (by decide) rfl | assumption) rfl (by omega) hbd.2.1 (q_iconst (pc' := 25) _ dX11_isLine_24 rfl kk_iconst_1 (q_isub (pc' := 26) dX11_isLine_25 rfl (q_cSi (pc' := 29) dX11_isLine_26 rfl ml_RX11_89 ys_X11_isIn (by decide) (rn_X11_isIn) rfl rfl (Nat.le_of_ble_eq_true rfl) (Nat.le_refl _) (q_ifb_eq (pc' := 32) (pt := 36) dX11_isLine_29 rfl rfl (fun h2 => ?_) (fun h2 => ?_))))))))))
    · exact q_iconst (pc' := 37) _ dX11_isLine_36 rfl kk_iconst_0 (q_zret dX11_isLine_37 rfl (by first | exact Or.inl rfl | exact Or.inr rfl | exact bI_01 _) (by
        have h3 : inN x (b 2 d) = false := h2
        rw [h1, h3] at hQ; exact hQ))
    · exact q_iconst (pc' := 33) _ dX11_isLine_32 rfl kk_iconst_1 (q_goto (pc' := 37) dX11_isLine_33 rfl (q_zret dX11_isLine_37 rfl (by first | exact Or.inl rfl | exact Or.inr rfl | exact bI_01 _) (by
        have h3 : inN x (b 2 d) = true := h2
        rw [h1, h3] at hQ; exact hQ)))
theorem rn_X11_isLine0 {y x : Int32} (hM : mj_wM R) (hb : mB I b) (hn : inN y (b 0 2) = false) : Rn w l yX11_isLine dd_X11_isLine [.ref 452, .int y, .int x] (472, I, J, R) (some (.int (bI false))) (472, I, J, R) := by
  refine rn_intro2 (L := [some (.ref 452), some (.int y), some (.int x)]) ⟨by decide, rfl, (fun h => by cases h)⟩ (Nat.le_refl _) (Nat.le_of_ble_eq_true rfl) rfl (fun Y Q hQ => ?_)
  exact q_aload_n (pc' := 1) dX11_isLine_0 rfl rfl (q_iload_n (pc' := 2) dX11_isLine_1 rfl rfl (q_cVi (pc' := 5) dX11_isLine_2 rfl ml_RX11_280 yv_X11_isDevice (by decide) (rn_X11_isDevice hb) ⟨by omega, rfl⟩ rfl rfl (Nat.le_of_ble_eq_true rfl) (Nat.le_refl _) (q_ifb_eq (pc' := 8) (pt := 36) dX11_isLine_5 rfl rfl (fun _ => (q_iconst (pc' := 37) _ dX11_isLine_36 rfl kk_iconst_0 (q_zret dX11_isLine_37 rfl (by first | exact Or.inl rfl | exact Or.inr rfl | exact bI_01 _) hQ))) (fun h9 => Bool.noConfusion (Eq.trans (Eq.symm (hn)) h9)))))
end M11
