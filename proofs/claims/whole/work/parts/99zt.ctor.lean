/-! ===== constructors: new cells, calls that make cells ===== -/
/-- nothing lies at z and above -/
def Z0 (z : Nat) (I : mj_M) (J : mj_J) (R : mj_R) : Prop := ∀ a, z ≤ a → (∀ f, I a f = 0) ∧ (∀ f, J a f = 0) ∧ ∀ f, R a f = mj_nul
theorem Z0_mono {z z' : Nat} {I : mj_M} {J : mj_J} {R : mj_R} (h : Z0 z I J R) (hz : z ≤ z') : Z0 z' I J R := fun a ha => h a (by omega)
theorem Z0_upR {z a k x : Nat} {I : mj_M} {J : mj_J} {R : mj_R} (ha : a < z) (h : Z0 z I J R) : Z0 z I J (mj_up R a k x) := fun b hb => ⟨(h b hb).1, (h b hb).2.1, fun f => by rw [mj_up_ne (by omega)]; exact (h b hb).2.2 f⟩
theorem Z0_upI {z a k : Nat} {x : Int32} {I : mj_M} {J : mj_J} {R : mj_R} (ha : a < z) (h : Z0 z I J R) : Z0 z (mj_up I a k x) J R := fun b hb => ⟨fun f => by rw [mj_up_ne (by omega)]; exact (h b hb).1 f, (h b hb).2⟩
theorem Z0_upJ {z a k : Nat} {x : Int64} {I : mj_M} {J : mj_J} {R : mj_R} (ha : a < z) (h : Z0 z I J R) : Z0 z I (mj_up J a k x) R := fun b hb => ⟨(h b hb).1, fun f => by rw [mj_up_ne (by omega)]; exact (h b hb).2.1 f, (h b hb).2.2⟩
theorem zf_mk {w : mj_Wd} {l : Launch} {z : Nat} {Y : mj_Y} : mj_zf (mj_mk w l z Y) = z := rfl
def mj_kd (t : FieldType) : Nat := match t with
  | .int => 0 | .boolean => 0 | .byte => 0 | .long => 1 | .object _ => 2 | .array _ => 2 | _ => 3
theorem mj_kd_0 {t : FieldType} (h : mj_kd t = 0) : defaultValue t = .int 0 := by cases t <;> first | rfl | cases h
theorem mj_kd_1 {t : FieldType} (h : mj_kd t = 1) : defaultValue t = .long 0 := by cases t <;> first | rfl | cases h
theorem mj_kd_2 {t : FieldType} (h : mj_kd t = 2) : defaultValue t = .null := by cases t <;> first | rfl | cases h
theorem mj_kds {ci : Nat} {q : vw_C} (hq : vwCl[ci]? = some q) : ∀ k, k < q.2.2 → (parseFieldDescriptor (q.2.1 k).2.2.1).map mj_kd = some (mj_st ci k) ∧ mj_st ci k ≤ 2 := by
  match ci, hq with
  | 0, hq => cases hq; decide +kernel
  | 1, hq => cases hq; decide +kernel
  | 2, hq => cases hq; decide +kernel
  | 3, hq => cases hq; decide +kernel
  | 4, hq => cases hq; decide +kernel
  | 5, hq => cases hq; decide +kernel
  | 6, hq => cases hq; decide +kernel
  | 7, hq => cases hq; decide +kernel
  | 8, hq => cases hq; decide +kernel
  | 9, hq => cases hq; decide +kernel
  | 10, hq => cases hq; decide +kernel
  | 11, hq => cases hq; decide +kernel
  | n + 12, hq => cases hq
theorem mj_val0 {w : mj_Wd} {z a k : Nat} {I : mj_M} {J : mj_J} {R : mj_R} {t : FieldType} (hI : I a k = 0) (hJ : J a k = 0) (hR : R a k = mj_nul) (hk : mj_kd t = mj_st (mj_sh a).1 k) (hk3 : mj_kd t ≤ 2) : defaultValue t = mj_val w (z, I, J, R) a k := by
  unfold mj_val
  generalize mj_st (mj_sh a).1 k = n at hk
  match n, hk with
  | 0, hk => rw [mj_kd_0 hk]; show _ = Value.int (I a k); rw [hI]
  | 1, hk => rw [mj_kd_1 hk]; show _ = Value.long (J a k); rw [hJ]
  | 2, hk => rw [mj_kd_2 hk]; show _ = mj_rv w.2.1 (R a k); rw [hR]; rfl
  | n + 3, hk => omega
section QN
variable {d : mj_D} {X : mj_X} {Q : Option Value → mj_H → Prop} {pc pc' : Nat} {L : List (Option Value)} {st st0 : List Value} {z : Nat} {I : mj_M} {J : mj_J} {R : mj_R}
theorem T_objI : Cond.instanceMethod objectInit ∈ mj_T := mem_T (i := 165) (by decide +kernel) rfl
theorem T_objC : Cond.code objectInit ⟨#[0xb1]⟩ 1 none ∈ mj_T := mem_T (i := 166) (by decide +kernel) rfl
theorem q_objI {a idx : Nat} {h : mj_H} (hd : decode d.1 pc = .ok (.invokespecial idx, 3)) (hp : pc + 3 = pc') (hm : Cond.methodLink d.2.1 idx objectInit ∈ mj_T) (hlv : 0 < d.2.2.2.2.1) (hw : (st.map fun v => v.category).sum ≤ 8) (hn : Wq d X Q pc' L st h) : Wq d X Q pc L (.ref a :: st) h := by
  subst hp
  obtain ⟨w, p, l, e, Rm, s, m, args, below, meth, c, H0, z0, zf, Z⟩ := X
  intro C H locs ls cells slots hR hL hS h1 h2
  have kk := hn C H locs ls cells slots hR hL hS h1 h2
  obtain ⟨hx, hb, hml, hown, hts, hK, hz0, ⟨r1, r2, -⟩, -⟩ := C
  exact W.objInit hx hb hown (hts _ hm) (hts _ T_objI) (hts _ T_objC) (g := F0 m pc ls (.ref (mj_ra w a) :: st.map (mj_tv w))) rfl (hL.1.trans hml.symm) rfl hd (by omega) (by rw [mj_cats]; show 2 * 0 + _ + 12 ≤ _; omega) kk
/-- one more cell -/
theorem mj_rep_new {w : mj_Wd} {H H1 : Heap} {I' : mj_M} {J' : mj_J} {R' : mj_R} (hR : mj_rep w (z, I, J, R) H) (hz : z < 472) (z1 : H1.size = w.2.1 + z + 1) (o1 : ∀ q, q < w.2.1 + z → H1[q]? = H[q]?) (hv : ∀ b, b < z → mj_val w (z + 1, I', J', R') b = mj_val w (z, I, J, R) b) (hc : mj_cell w (z + 1, I', J', R') H1 z) : mj_rep w (z + 1, I', J', R') H1 := by
  refine ⟨by show H1.size = w.2.1 + (z + 1); omega, by show z + 1 ≤ 472; omega, fun k hk => ?_⟩
  have hk : k < z + 1 := hk
  by_cases e : k = z
  · subst e; exact hc
  · have h1 := hR.2.2 k (by show k < z; omega)
    have h2 : H1[w.2.1 + k]? = H[w.2.1 + k]? := o1 _ (by omega)
    unfold mj_cell at h1 ⊢
    rw [hv k (by omega)]
    by_cases hl : (mj_sh k).1 < 12
    · rw [if_pos hl] at h1 ⊢
      exact h1.kept h2
    · rw [if_neg hl] at h1 ⊢
      rw [h2]; exact h1
theorem q_new {ci idx z2 : Nat} {q : vw_C} (hd : decode d.1 pc = .ok (.new idx, 3)) (hp : pc + 3 = pc') (hz2 : z + 1 = z2) (hq : vwCl[ci]? = some q) (hcl : Cond.classLink d.2.1 idx q.1 ∈ mj_T) (hin : Cond.instantiable q.1 q.2.2 ∈ mj_T) (hini : Cond.initialized q.1 ∈ mj_T) (hs : (mj_sh z).1 = ci) (hz : z < 472) (hzf : z + 1 ≤ mj_zf X) (h0 : Z0 z I J R) (hn : Wq d X Q pc' L (.ref z :: st) (z2, I, J, R)) : Wq d X Q pc L st (z, I, J, R) := by
  subst hp; subst hz2
  obtain ⟨w, p, l, e, Rm, s, m, args, below, meth, c, H0, z0, zf, Z⟩ := X
  intro C H locs ls cells slots hR hL hS h1 h2
  have kk := fun H1 hR1 hS1 h3 h4 => hn C H1 locs ls (cells + 1) (slots + q.2.2) hR1 hL hS1 h3 h4
  obtain ⟨hx, hb, hml, hown, hts, hK, hz0, ⟨r1, r2, r3, r4⟩, -⟩ := C
  obtain ⟨hl12, hl2⟩ := mj_shn (z := z + 1) (by omega) ⟨by omega, hs⟩ hq
  have hzf : z + 1 ≤ zf := hzf
  have hsf := mj_sl_mono hzf
  have e1 : mj_sl (z + 1) = mj_sl z + q.2.2 := by rw [← hl2]; rfl
  have h1 : cells + z0 = z := h1
  have h2 : slots + mj_sl z0 = mj_sl z := h2
  have hKn := hK.1.1 ci q hq
  obtain ⟨hcf, ⟨ty, hty⟩, -⟩ := mj_cf hq
  refine W.newcK hx hb hown (hts _ hcl) (hts _ hin) (hts _ hini) (g := F0 m pc ls (st.map (mj_tv w))) rfl hd (by omega) (by omega) hKn.2.1 hR.1 (fun H1 kC hkC g1 z1 o1 => ?_)
  have hrep : mj_rep w (z + 1, I, J, R) H1 := by
    refine mj_rep_new hR hz z1 o1 (fun b _ => rfl) ?_
    unfold mj_cell
    rw [if_pos hl12, hl2, hs]
    refine (u_born ty hts hcf hKn hkC g1 hty).to (fun k hk => ?_)
    obtain ⟨hkd, hk3⟩ := mj_kds hq k hk
    rw [hty k hk] at hkd
    have hkd := Option.some.inj hkd
    exact mj_val0 ((h0 z (Nat.le_refl _)).1 k) ((h0 z (Nat.le_refl _)).2.1 k) ((h0 z (Nat.le_refl _)).2.2 k) (by rw [hs]; exact hkd) (by omega)
  have hz1 : z < 1000000 := by omega
  have k2 := kk H1 hrep ⟨Nat.le_trans hS.1 (by have := hR.1; dsimp only at this; omega), fun x g2 g3 => (o1 x (by have := hR.1; have := hS.1; dsimp only at *; omega)).trans (hS.2.1 x g2 g3), hS.2.2⟩ (by show cells + 1 + z0 = z + 1; omega) (by show slots + q.2.2 + mj_sl z0 = mj_sl (z + 1); omega)
  have e9 : (Value.ref z :: st).map (mj_tv w) = .ref (w.2.1 + z) :: st.map (mj_tv w) := by rw [List.map_cons]; show Value.ref (mj_ra w z) :: _ = _; rw [mj_ra_lo hz1]
  rw [e9] at k2
  exact k2
theorem q_newa {at9 : ArrayType} {ty : FieldType} {ki ix n : Nat} (hd : decode d.1 pc = .ok (.newarray at9, 2)) (hp : pc + 2 = pc') (hty : newarray.typeOf at9 = ty) (htr : ∀ w : mj_Wd, (mj_tys w)[ix]? = some (w.2.2.2 ki, ty)) (hra : ∀ (U : State) (cA : ClassId), va_RA U cA ty → U.vm.findClass ("[" ++ ty.toString) = some cA) (harr : Cond.arrayClass ty ∈ mj_T) (hcb : componentBytes ty ≤ 8) (hk3 : mj_kd ty ≤ 2) (hkd : ∀ k, mj_kd ty = mj_st ki k) (hki : ¬ ki < 12) (hs : mj_sh z = (ki, n)) (hn9 : n ≤ 28400) (hz : z < 472) (hzf : z + 1 ≤ mj_zf X) (h0 : Z0 z I J R) (hn : Wq d X Q pc' L (.ref z :: st) (z + 1, I, J, R)) : Wq d X Q pc L (.int (nI n) :: st) (z, I, J, R) := by
  subst hp; subst hty
  obtain ⟨w, p, l, e, Rm, s, m, args, below, meth, c, H0, z0, zf, Z⟩ := X
  intro C H locs ls cells slots hR hL hS h1 h2
  have kk := fun H1 hR1 hS1 h3 h4 => hn C H1 locs ls (cells + 1) (slots + n) hR1 hL hS1 h3 h4
  obtain ⟨hx, hb, hml, hown, hts, hK, hz0, ⟨r1, r2, r3, r4⟩, -⟩ := C
  have hzf : z + 1 ≤ zf := hzf
  have hsf := mj_sl_mono hzf
  have e1 : mj_sl (z + 1) = mj_sl z + n := by show mj_sl z + (mj_sh z).2 = _; rw [hs]
  have h1 : cells + z0 = z := h1
  have h2 : slots + mj_sl z0 = mj_sl z := h2
  have hmul : n * componentBytes (newarray.typeOf at9) ≤ n * 8 := Nat.mul_le_mul_left _ hcb
  refine va_newaK hx hb (atype := at9) (hts _ harr) (g := F0 m pc ls (.int (nI n) :: st.map (mj_tv w))) rfl hd rfl (Int32.not_lt.mpr (nI_le (a := 0) (by omega) (by omega))) (nI_clamp (by omega)) (by omega) (by omega) (by omega) hR.1 (fun H1 cA g1 z1 o1 _ g2 => ?_)
  have ec : cA = w.2.2.2 ki := Option.some.inj (g2.symm.trans (hra s _ (hK.1.2 ix _ (htr w)).2))
  have hrep : mj_rep w (z + 1, I, J, R) H1 := by
    refine mj_rep_new hR hz z1 o1 (fun b _ => rfl) ?_
    unfold mj_cell
    rw [if_neg (by rw [hs]; exact hki), hs, g1, ec]
    refine congrArg some (congrArg (arrV _ n) (funext fun k => ?_))
    exact mj_val0 ((h0 z (Nat.le_refl _)).1 k) ((h0 z (Nat.le_refl _)).2.1 k) ((h0 z (Nat.le_refl _)).2.2 k) (by rw [hs]; exact hkd k) hk3
  have hz1 : z < 1000000 := by omega
  have k2 := kk H1 hrep ⟨Nat.le_trans hS.1 (by have := hR.1; dsimp only at this; omega), fun x g2 g3 => (o1 x (by have := hR.1; have := hS.1; dsimp only at *; omega)).trans (hS.2.1 x g2 g3), hS.2.2⟩ (by show cells + 1 + z0 = z + 1; omega) (by show slots + n + mj_sl z0 = mj_sl (z + 1); omega)
  have e9 : (Value.ref z :: st).map (mj_tv w) = .ref (w.2.1 + z) :: st.map (mj_tv w) := by rw [List.map_cons]; show Value.ref (mj_ra w z) :: _ = _; rw [mj_ra_lo hz1]
  rw [e9] at k2
  exact k2
theorem T_aI : Cond.arrayClass .int ∈ mj_T := mem_T (i := 247) (by decide +kernel) rfl
theorem T_aB : Cond.arrayClass .byte ∈ mj_T := mem_T (i := 244) (by decide +kernel) rfl
theorem T_aZ : Cond.arrayClass .boolean ∈ mj_T := mem_T (i := 245) (by decide +kernel) rfl
theorem T_aJ : Cond.arrayClass .long ∈ mj_T := mem_T (i := 246) (by decide +kernel) rfl
theorem q_newI {n z2 : Nat} (hd : decode d.1 pc = .ok (.newarray .int, 2)) (hp : pc + 2 = pc') (hz2 : z + 1 = z2) (hs : mj_sh z = (12, n)) (hn9 : n ≤ 28400) (hz : z < 472) (hzf : z + 1 ≤ mj_zf X) (h0 : Z0 z I J R) (hn : Wq d X Q pc' L (.ref z :: st) (z2, I, J, R)) : Wq d X Q pc L (.int (nI n) :: st) (z, I, J, R) := by
  subst hz2
  exact q_newa (ki := 12) (ix := 0) hd hp rfl (fun _ => rfl) (fun _ _ h => h) T_aI (by decide) (by decide) (fun _ => rfl) (by decide) hs hn9 hz hzf h0 hn
theorem q_newB {n z2 : Nat} (hd : decode d.1 pc = .ok (.newarray .byte, 2)) (hp : pc + 2 = pc') (hz2 : z + 1 = z2) (hs : mj_sh z = (13, n)) (hn9 : n ≤ 28400) (hz : z < 472) (hzf : z + 1 ≤ mj_zf X) (h0 : Z0 z I J R) (hn : Wq d X Q pc' L (.ref z :: st) (z2, I, J, R)) : Wq d X Q pc L (.int (nI n) :: st) (z, I, J, R) := by
  subst hz2
  exact q_newa (ki := 13) (ix := 1) hd hp rfl (fun _ => rfl) (fun _ _ h => h) T_aB (by decide) (by decide) (fun _ => rfl) (by decide) hs hn9 hz hzf h0 hn
theorem q_newZ {n z2 : Nat} (hd : decode d.1 pc = .ok (.newarray .boolean, 2)) (hp : pc + 2 = pc') (hz2 : z + 1 = z2) (hs : mj_sh z = (14, n)) (hn9 : n ≤ 28400) (hz : z < 472) (hzf : z + 1 ≤ mj_zf X) (h0 : Z0 z I J R) (hn : Wq d X Q pc' L (.ref z :: st) (z2, I, J, R)) : Wq d X Q pc L (.int (nI n) :: st) (z, I, J, R) := by
  subst hz2
  exact q_newa (ki := 14) (ix := 2) hd hp rfl (fun _ => rfl) (fun _ _ h => h) T_aZ (by decide) (by decide) (fun _ => rfl) (by decide) hs hn9 hz hzf h0 hn
theorem q_newJ {n z2 : Nat} (hd : decode d.1 pc = .ok (.newarray .long, 2)) (hp : pc + 2 = pc') (hz2 : z + 1 = z2) (hs : mj_sh z = (15, n)) (hn9 : n ≤ 28400) (hz : z < 472) (hzf : z + 1 ≤ mj_zf X) (h0 : Z0 z I J R) (hn : Wq d X Q pc' L (.ref z :: st) (z2, I, J, R)) : Wq d X Q pc L (.int (nI n) :: st) (z, I, J, R) := by
  subst hz2
  exact q_newa (ki := 15) (ix := 3) hd hp rfl (fun _ => rfl) (fun _ _ h => h) T_aJ (by decide) (by decide) (fun _ => rfl) (by decide) hs hn9 hz hzf h0 hn
/-- an array of States -/
theorem q_newS {n idx z2 : Nat} (hd : decode d.1 pc = .ok (.anewarray idx, 3)) (hp : pc + 3 = pc') (hz2 : z + 1 = z2) (hcl : Cond.classLink d.2.1 idx "VectorDeal$State" ∈ mj_T) (hs : mj_sh z = (17, n)) (hn9 : n ≤ 28400) (hz : z < 472) (hzf : z + 1 ≤ mj_zf X) (h0 : Z0 z I J R) (hn : Wq d X Q pc' L (.ref z :: st) (z2, I, J, R)) : Wq d X Q pc L (.int (nI n) :: st) (z, I, J, R) := by
  subst hp; subst hz2
  obtain ⟨w, p, l, e, Rm, s, m, args, below, meth, c, H0, z0, zf, Z⟩ := X
  intro C H locs ls cells slots hR hL hS h1 h2
  have kk := fun H1 hR1 hS1 h3 h4 => hn C H1 locs ls (cells + 1) (slots + n) hR1 hL hS1 h3 h4
  obtain ⟨hx, hb, hml, hown, hts, hK, hz0, ⟨r1, r2, r3, r4⟩, -⟩ := C
  have hzf : z + 1 ≤ zf := hzf
  have hsf := mj_sl_mono hzf
  have e1 : mj_sl (z + 1) = mj_sl z + n := by show mj_sl z + (mj_sh z).2 = _; rw [hs]
  have h1 : cells + z0 = z := h1
  have h2 : slots + mj_sl z0 = mj_sl z := h2
  have ecl : (nI n).toNatClampNeg = n := nI_clamp (by omega)
  refine W.anew hx hb hown (hts _ hcl) (va_AO.use hK.2.1) (g := F0 m pc ls (.int (nI n) :: st.map (mj_tv w))) rfl hd rfl (Int32.not_lt.mpr (nI_le (a := 0) (by omega) (by omega))) (by omega) (by omega) (by omega) (fun cA kA comp f1 f2 f3 f4 => ?_)
  rw [ecl]
  obtain ⟨-, kA9, comp9, -, -, -, f9⟩ := hK.1.2 5 _ rfl
  have ec : cA = w.2.2.2 17 := Option.some.inj (f1.symm.trans f9)
  have hsz : H.size = w.2.1 + z := hR.1
  generalize hH1 : H.push ({ cls := cA, slots := Array.replicate n .null, vm := .none } : Cell) = H1
  have z1 : H1.size = w.2.1 + z + 1 := by rw [← hH1, Array.size_push, hsz]
  have g1 : H1[w.2.1 + z]? = some (arrV cA n (fun _ => .null)) := by rw [← hH1, ← hsz, Array.getElem?_push_size, ← arrV_new]
  have o1 : ∀ q : Nat, q < w.2.1 + z → H1[q]? = H[q]? := fun q hq => by rw [← hH1, Array.getElem?_push, if_neg (by omega)]
  have hrep : mj_rep w (z + 1, I, J, R) H1 := by
    refine mj_rep_new hR hz z1 o1 (fun b _ => rfl) ?_
    unfold mj_cell
    rw [if_neg (by rw [hs]; show ¬ 17 < 12; decide), hs, g1, ec]
    refine congrArg some (congrArg (arrV _ n) (funext fun k => ?_))
    exact mj_val0 (t := .object "") ((h0 z (Nat.le_refl _)).1 k) ((h0 z (Nat.le_refl _)).2.1 k) ((h0 z (Nat.le_refl _)).2.2 k) (by rw [hs]; rfl) (by decide)
  have hz1 : z < 1000000 := by omega
  have k2 := kk H1 hrep ⟨Nat.le_trans hS.1 (by omega), fun x g2 g3 => (o1 x (by have := hS.1; omega)).trans (hS.2.1 x g2 g3), hS.2.2⟩ (by show cells + 1 + z0 = z + 1; omega) (by show slots + n + mj_sl z0 = mj_sl (z + 1); omega)
  have e9 : (Value.ref z :: st).map (mj_tv w) = .ref H.size :: st.map (mj_tv w) := by rw [List.map_cons, hsz]; show Value.ref (mj_ra w z) :: _ = _; rw [mj_ra_lo hz1]
  rw [e9] at k2
  exact k2
/-- new int[5][8] -/
def mj_gr (R : mj_R) (z : Nat) : mj_R := fun b k => if b = z ∧ k < 5 then z + 1 + k else R b k
theorem Z0_gr {z z0 : Nat} {I : mj_M} {J : mj_J} {R : mj_R} (ha : z0 < z) (h : Z0 z I J R) : Z0 z I J (mj_gr R z0) := fun b hb => ⟨(h b hb).1, (h b hb).2.1, fun f => by rw [show mj_gr R z0 b f = R b f from if_neg (fun q => by omega)]; exact (h b hb).2.2 f⟩
theorem q_multi {idx z2 : Nat} (hd : decode d.1 pc = .ok (.multianewarray idx 2, 4)) (hp : pc + 4 = pc') (hz2 : z + 6 = z2) (hcl : Cond.classLink d.2.1 idx "[[I" ∈ mj_T) (hs : mj_sh z = (16, 5)) (hs1 : ∀ j, j < 5 → mj_sh (z + 1 + j) = (12, 8)) (hz : z + 6 ≤ 472) (hzf : z + 6 ≤ mj_zf X) (h0 : Z0 z I J R) (hn : Wq d X Q pc' L (.ref z :: st) (z2, I, J, mj_gr R z)) : Wq d X Q pc L (.int (nI 8) :: .int (nI 5) :: st) (z, I, J, R) := by
  subst hp; subst hz2
  obtain ⟨w, p, l, e, Rm, s, m, args, below, meth, c, H0, z0, zf, Z⟩ := X
  intro C H locs ls cells slots hR hL hS h1 h2 T hT Xs
  have kk := fun H1 hR1 hS1 h3 h4 => hn C H1 locs ls (cells + 6) (slots + 45) hR1 hL hS1 h3 h4
  obtain ⟨hx, hb, hml, hown, hts, hK, hz0, ⟨r1, r2, r3, r4⟩, -⟩ := C
  have hzf : z + 6 ≤ zf := hzf
  have hsf := mj_sl_mono hzf
  have e1 : mj_sl (z + 6) = mj_sl z + 5 + 5 * 8 := by
    show mj_sl z + (mj_sh z).2 + (mj_sh (z + 1 + 0)).2 + (mj_sh (z + 1 + 1)).2 + (mj_sh (z + 1 + 2)).2 + (mj_sh (z + 1 + 3)).2 + (mj_sh (z + 1 + 4)).2 = _
    rw [hs, hs1 0 (by decide), hs1 1 (by decide), hs1 2 (by decide), hs1 3 (by decide), hs1 4 (by decide)]
    show mj_sl z + 5 + 8 + 8 + 8 + 8 + 8 = _
    omega
  have h1 : cells + z0 = z := h1
  have h2 : slots + mj_sl z0 = mj_sl z := h2
  obtain ⟨vm₁, cA, comp, fA, fC, X', step⟩ := mj_multi Xs hx hown (hts _ hcl) hK.2.2.1 (hts _ T_aI) (g := F0 m pc ls (.int (nI 8) :: .int (nI 5) :: st.map (mj_tv w))) rfl (by rw [hb]; exact hd) rfl (by omega) (by omega)
  have hTh : (T.setVm vm₁).heap = H := hT
  obtain ⟨-, f1, f2, f3, f4⟩ := mj_mi_all (T.setVm vm₁) cA comp 5
  rw [hTh] at f1 f2 f3 f4
  generalize mj_mf (T.setVm vm₁) cA comp 5 = F at X' step f1 f2 f3 f4
  have hsz : H.size = w.2.1 + z := hR.1
  rw [hsz] at f1 f2 f4
  have ecA : cA = w.2.2.2 16 := Option.some.inj (fA.symm.trans (hK.1.2 4 _ rfl).2)
  have ecI : comp = w.2.2.2 12 := Option.some.inj (fC.symm.trans (hK.1.2 0 _ rfl).2)
  have vlo : ∀ b, b ≠ z → mj_val w (z + 6, I, J, mj_gr R z) b = mj_val w (z, I, J, R) b := fun b hb9 => mj_val_ne (fun _ => rfl) (fun _ => rfl) (fun k => if_neg (fun q => hb9 q.1))
  have hrep : mj_rep w (z + 6, I, J, mj_gr R z) F.heap := by
    refine ⟨by show F.heap.size = w.2.1 + (z + 6); omega, by show z + 6 ≤ 472; omega, fun k hk => ?_⟩
    have hk : k < z + 6 := hk
    by_cases ez : k = z
    · subst ez
      unfold mj_cell
      rw [if_neg (by rw [hs]; decide), hs, f2, ecA]
      refine congrArg some ?_
      refine congrArg (fun v => ({ cls := w.2.2.2 16, slots := v, vm := .none } : Cell)) ?_
      refine congrArg Array.ofFn (funext fun j => ?_)
      show (if j.val < 5 then Value.ref (w.2.1 + k + 1 + j.val) else .null) = mj_val w (k + 6, I, J, mj_gr R k) k j.val
      rw [if_pos j.isLt]
      unfold mj_val
      rw [hs]
      show _ = mj_rv w.2.1 (mj_gr R k k j.val)
      rw [show mj_gr R k k j.val = k + 1 + j.val from if_pos ⟨rfl, j.isLt⟩]
      have := j.isLt
      rw [mj_rv_ra (by omega), mj_ra_lo (by omega), Nat.add_assoc, Nat.add_assoc, Nat.add_assoc]
    · by_cases hlt : k < z
      · have g1 := hR.2.2 k hlt
        have g2 : F.heap[w.2.1 + k]? = H[w.2.1 + k]? := f3 _ (by omega)
        unfold mj_cell at g1 ⊢
        rw [vlo k ez]
        by_cases hl : (mj_sh k).1 < 12
        · rw [if_pos hl] at g1 ⊢
          exact g1.kept g2
        · rw [if_neg hl] at g1 ⊢
          rw [g2]; exact g1
      · obtain ⟨j, hj, rfl⟩ : ∃ j, j < 5 ∧ k = z + 1 + j := ⟨k - z - 1, by omega, by omega⟩
        unfold mj_cell
        have g3 := f4 j hj
        rw [show w.2.1 + z + 1 + j = w.2.1 + (z + 1 + j) by omega] at g3
        rw [if_neg (by rw [hs1 j hj]; decide), hs1 j hj, g3, ecI, vlo _ ez]
        refine congrArg some (congrArg (arrV _ 8) (funext fun k => ?_))
        have h9 := h0 (z + 1 + j) (by omega)
        exact mj_val0 (t := .int) (h9.1 k) (h9.2.1 k) (h9.2.2 k) (by rw [hs1 j hj]; rfl) (by decide)
  have hz1 : z < 1000000 := by omega
  have k2 := kk F.heap hrep ⟨Nat.le_trans hS.1 (by omega), fun x g2 g3 => (f3 x (by have := hS.1; omega)).trans (hS.2.1 x g2 g3), hS.2.2⟩ (by show cells + 6 + z0 = z + 6; omega) (by show slots + 45 + mj_sl z0 = mj_sl (z + 6); omega)
  have e9 : (Value.ref z :: st).map (mj_tv w) = .ref T.heap.size :: st.map (mj_tv w) := by rw [List.map_cons, hT, hsz]; show Value.ref (mj_ra w z) :: _ = _; rw [mj_ra_lo hz1]
  rw [e9] at k2
  obtain ⟨t, a1, b1⟩ := k2 F rfl X'
  exact ⟨t, step t a1, b1⟩
end QN
