/-! ===== constructors: the tables' words, calls, the small ones ===== -/
theorem T_cl_RX10_23 : Cond.classLink RX10 23 RX0 ∈ mj_T := mem_T (i := 169) (by decide +kernel) rfl
theorem T_in_RX10_23 : Cond.instantiable RX0 10 ∈ mj_T := mem_T (i := 170) (by decide +kernel) rfl
theorem T_ini_RX10_23 : Cond.initialized RX0 ∈ mj_T := mem_T (i := 140) (by decide +kernel) rfl
theorem T_cl_RX10_30 : Cond.classLink RX10 30 RX9 ∈ mj_T := mem_T (i := 248) (by decide +kernel) rfl
theorem T_in_RX10_30 : Cond.instantiable RX9 18 ∈ mj_T := mem_T (i := 249) (by decide +kernel) rfl
theorem T_ini_RX10_30 : Cond.initialized RX9 ∈ mj_T := mem_T (i := 141) (by decide +kernel) rfl
theorem T_cl_RX10_39 : Cond.classLink RX10 39 RX1 ∈ mj_T := mem_T (i := 374) (by decide +kernel) rfl
theorem T_in_RX10_39 : Cond.instantiable RX1 5 ∈ mj_T := mem_T (i := 375) (by decide +kernel) rfl
theorem T_ini_RX10_39 : Cond.initialized RX1 ∈ mj_T := mem_T (i := 146) (by decide +kernel) rfl
theorem T_cl_RX10_48 : Cond.classLink RX10 48 RX3 ∈ mj_T := mem_T (i := 399) (by decide +kernel) rfl
theorem T_in_RX10_48 : Cond.instantiable RX3 7 ∈ mj_T := mem_T (i := 400) (by decide +kernel) rfl
theorem T_ini_RX10_48 : Cond.initialized RX3 ∈ mj_T := mem_T (i := 147) (by decide +kernel) rfl
theorem T_cl_RX10_57 : Cond.classLink RX10 57 RX2 ∈ mj_T := mem_T (i := 432) (by decide +kernel) rfl
theorem T_in_RX10_57 : Cond.instantiable RX2 6 ∈ mj_T := mem_T (i := 433) (by decide +kernel) rfl
theorem T_ini_RX10_57 : Cond.initialized RX2 ∈ mj_T := mem_T (i := 148) (by decide +kernel) rfl
theorem T_cl_RX10_13 : Cond.classLink RX10 13 RX5 ∈ mj_T := mem_T (i := 167) (by decide +kernel) rfl
theorem T_in_RX10_13 : Cond.instantiable RX5 9 ∈ mj_T := mem_T (i := 439) (by decide +kernel) rfl
theorem T_ini_RX10_13 : Cond.initialized RX5 ∈ mj_T := mem_T (i := 149) (by decide +kernel) rfl
theorem T_cl_RX10_71 : Cond.classLink RX10 71 RX7 ∈ mj_T := mem_T (i := 601) (by decide +kernel) rfl
theorem T_in_RX10_71 : Cond.instantiable RX7 3 ∈ mj_T := mem_T (i := 602) (by decide +kernel) rfl
theorem T_ini_RX10_71 : Cond.initialized RX7 ∈ mj_T := mem_T (i := 153) (by decide +kernel) rfl
theorem T_cl_RX10_78 : Cond.classLink RX10 78 RX6 ∈ mj_T := mem_T (i := 619) (by decide +kernel) rfl
theorem T_in_RX10_78 : Cond.instantiable RX6 4 ∈ mj_T := mem_T (i := 620) (by decide +kernel) rfl
theorem T_ini_RX10_78 : Cond.initialized RX6 ∈ mj_T := mem_T (i := 154) (by decide +kernel) rfl
theorem T_cl_RX1_9 : Cond.classLink RX1 9 RX0 ∈ mj_T := mem_T (i := 380) (by decide +kernel) rfl
theorem T_in_RX1_9 : Cond.instantiable RX0 10 ∈ mj_T := mem_T (i := 170) (by decide +kernel) rfl
theorem T_ini_RX1_9 : Cond.initialized RX0 ∈ mj_T := mem_T (i := 140) (by decide +kernel) rfl
theorem T_cl_RX2_9 : Cond.classLink RX2 9 RX5 ∈ mj_T := mem_T (i := 438) (by decide +kernel) rfl
theorem T_in_RX2_9 : Cond.instantiable RX5 9 ∈ mj_T := mem_T (i := 439) (by decide +kernel) rfl
theorem T_ini_RX2_9 : Cond.initialized RX5 ∈ mj_T := mem_T (i := 149) (by decide +kernel) rfl
theorem T_cl_RX5_9 : Cond.classLink RX5 9 RX8 ∈ mj_T := mem_T (i := 444) (by decide +kernel) rfl
theorem T_in_RX5_9 : Cond.instantiable RX8 7 ∈ mj_T := mem_T (i := 445) (by decide +kernel) rfl
theorem T_ini_RX5_9 : Cond.initialized RX8 ∈ mj_T := mem_T (i := 150) (by decide +kernel) rfl
theorem T_cl_RX5_36 : Cond.classLink RX5 36 RX4 ∈ mj_T := mem_T (i := 480) (by decide +kernel) rfl
theorem T_in_RX5_36 : Cond.instantiable RX4 5 ∈ mj_T := mem_T (i := 481) (by decide +kernel) rfl
theorem T_ini_RX5_36 : Cond.initialized RX4 ∈ mj_T := mem_T (i := 151) (by decide +kernel) rfl
theorem T_cl_RL_7 : Cond.classLink RL 7 RX10 ∈ mj_T := mem_T (i := 159) (by decide +kernel) rfl
theorem T_in_RL_7 : Cond.instantiable RX10 13 ∈ mj_T := mem_T (i := 160) (by decide +kernel) rfl
theorem T_ini_RL_7 : Cond.initialized RX10 ∈ mj_T := mem_T (i := 139) (by decide +kernel) rfl
theorem T_cl_RL_10 : Cond.classLink RL 10 RX11 ∈ mj_T := mem_T (i := 1410) (by decide +kernel) rfl
theorem T_in_RL_10 : Cond.instantiable RX11 51 ∈ mj_T := mem_T (i := 1411) (by decide +kernel) rfl
theorem T_ini_RL_10 : Cond.initialized RX11 ∈ mj_T := mem_T (i := 155) (by decide +kernel) rfl
theorem T_cl_RX4_9 : Cond.classLink RX4 9 "[[I" ∈ mj_T := mem_T (i := 486) (by decide +kernel) rfl
/-- a run that makes cells -/
abbrev mj_rmG (d : mj_D) (z z2 : Nat) : Room := { frames := d.2.2.2.2.1, cells := z2 - z, slots := mj_sl z2 - mj_sl z, locals := 38 * d.2.2.2.2.1 }
def Rg (w : mj_Wd) (l : Launch) (y : MethodName) (d : mj_D) (As : List Value) (h : mj_H) (z2 : Nat) (P : mj_P) : Prop :=
  h.1 ≤ z2 ∧ Met l y (mj_ws y d) (mj_rmG d h.1 z2) (mj_Pc w As h) (mj_Qp w z2 P) (z2 - h.1) (mj_sl z2 - mj_sl h.1) (mj_A w)
abbrev RgV (w : mj_Wd) (l : Launch) (y : MethodName) (d : mj_D) (As : List Value) (h : mj_H) (z2 : Nat) (P : mj_M → mj_J → mj_R → Prop) : Prop := Rg w l y d As h z2 (fun v I J R => v = none ∧ P I J R)
section RG
variable {d : mj_D} {X : mj_X} {Q : Option Value → mj_H → Prop} {pc pc' : Nat} {L : List (Option Value)} {st st0 : List Value} {h : mj_H} {z2 : Nat} {P : mj_P}
theorem mj_afterG {w : mj_Wd} {p : Program} {l : Launch} {e : Env} {Rm : Room} {s : State} {m : MethodId} {args : Array Value} {below : List Frame} {meth : Method} {c : Code} {H0 H : Heap} {z0 zf : Nat} {Z : State → Prop} {locs : List Loc} {ls : Array Slot} {cells slots : Nat} {a9 : Array Value} {st9 : List Value}
    (hn : ∀ v I' J' R', P v I' J' R' → Wq d (w, p, l, e, Rm, s, m, args, below, meth, c, H0, z0, zf, Z) Q (pc + 3) L (v.toList ++ st) (z2, I', J', R')) (C : mj_C d (w, p, l, e, Rm, s, m, args, below, meth, c, H0, z0, zf, Z) Q) (hL : mj_lv w ls d.2.2.1 L) (hS : va_S (mj_A w) H0 H locs) (h1 : cells + z0 = h.1) (h2 : slots + mj_sl z0 = mj_sl h.1) (hle : h.1 ≤ z2)
    (hr : va_Run p l e Rm s m args below meth c H locs cells slots (z2 - h.1) (mj_sl z2 - mj_sl h.1) (F0 m pc ls st9) (st.map (mj_tv w)) (mj_Qp w z2 P a9) (mj_A w)) : W p l e Rm s m args below meth c H locs cells slots Z (F0 m pc ls st9) := by
  intro T hT Xs
  obtain ⟨v9, st₀, t, T', L9, e0, X', hL9, e1, e2, ⟨⟨v, I', J', R', ho, hP, hrep⟩, hz, hk⟩, go⟩ := hr T hT Xs
  rw [e0] at hz hk
  have hv : v9 = v.map (mj_tv w) := by
    have := Outcome.returned.inj ho
    exact this
  subst hv
  have hsl := mj_sl_mono hle
  have hS' : va_S (mj_A w) H0 T'.heap (locs ++ L9) := ⟨Nat.le_trans hS.1 (by rw [e1]; exact hz), fun q h1 h2 => by rw [e1, hk q (Nat.lt_of_lt_of_le h1 hS.1) h2]; exact hS.2.1 q h1 h2, fun q hq => by
    rcases List.mem_append.mp hq with h | h
    · exact hS.2.2 q h
    · exact hL9 q h⟩
  obtain ⟨t2, a1, b1⟩ := hn v I' J' R' hP C T'.heap (locs ++ L9) ls (cells + (z2 - h.1)) (slots + (mj_sl z2 - mj_sl h.1)) (by rw [e1]; exact hrep) hL hS' (by show _ = z2; omega) (by show _ = mj_sl z2; omega) T' rfl X'
  refine ⟨t2, go t2 ?_, b1⟩
  have e9 : (v.toList ++ st).map (mj_tv w) = (v.map (mj_tv w)).toList ++ st.map (mj_tv w) := by
    rw [List.map_append]
    cases v <;> rfl
  rw [e9] at a1
  exact a1
theorem q_gI {y : MethodName} {d' : mj_D} {idx a n : Nat} {As : List Value} {P : mj_M → mj_J → mj_R → Prop} (hd : decode d.1 pc = .ok (.invokespecial idx, 3)) (hp : pc + 3 = pc') (hm : Cond.methodLink d.2.1 idx y ∈ mj_T) (hy : mj_yI y d' n) (hlv : d'.2.2.2.2.1 < d.2.2.2.2.1) (hr : RgV X.1 X.2.2.1 y d' (.ref a :: As) h z2 P) (ha : a < 472) (hst : st0 = As.reverse ++ .ref a :: st) (hlen : As.length = n) (hw : (st.map fun v => v.category).sum ≤ 8) (hzf : z2 ≤ mj_zf X) (hn : ∀ I' J' R', P I' J' R' → Wq d X Q pc' L st (z2, I', J', R')) : Wq d X Q pc L st0 h := by
  subst hp; subst hst
  obtain ⟨w, p, l, e, Rm, s, m, args, below, meth, c, H0, z0, zf, Z⟩ := X
  intro C H locs ls cells slots hR hL hS h1 h2
  obtain ⟨hle, hM⟩ := hr
  have hsl := mj_sl_mono hle
  have C' := C
  obtain ⟨hx, hb, hml, hown, hts, hK, hz0, ⟨r1, r2, r3, r4⟩, -⟩ := C'
  obtain ⟨y1, y2, y3, ⟨y4, y5⟩, y6, y7, y8⟩ := hy
  have hzf : z2 ≤ zf := hzf
  have hsf := mj_sl_mono hzf
  have haz : a < 1000000 := by omega
  have cw : CallB Rm s args d.2.1 idx y d'.1 d'.2.2.1 none (mj_ws y d') (mj_rmG d' h.1 z2) (z2 - h.1) (mj_sl z2 - mj_sl h.1) n ∧ y.name = "<init>" ∧ (Cond.instanceMethod y).before args s = true :=
    ⟨callB_of n hts (mj_gi y1) (by rw [mj_ws, y8]) rfl rfl (hts _ y2) (hts _ hm) ⟨y4.1, y4.2, y5⟩ ⟨by show d'.2.2.2.2.1 + 1 ≤ _; omega, by show 8 + (d'.2.2.1 + 11) + 38 * d'.2.2.2.2.1 ≤ _; omega⟩, y7, hts _ y6⟩
  have hrun := va_runI (H := H) (locs := locs) (cells := cells) (slots := slots) (p := p) (e := e) (below := below) (meth := meth) (c := c) (m := m) (cc := d.1) (nL := d.2.2.1) (Ts := mj_T) (b := w.2.1 + a) (As := As.map (mj_tv w)) (rest := st.map (mj_tv w)) (g := F0 m pc ls ((As.reverse ++ .ref a :: st).map (mj_tv w))) ⟨hx, hb, hml, hown, hts⟩ hM cw
    ⟨mj_blind w _ h, fun U hU hW => ⟨by rw [List.map_cons]; show _ = (Value.ref (mj_ra w a) :: _).toArray; rw [mj_ra_lo haz], by rw [hU]; exact hR, mj_K_moved hW hK⟩⟩
    rfl (by rw [List.length_map]; exact hlen) hL.1 (by show List.map _ _ = _; rw [List.map_append, List.map_reverse, List.map_cons]; show _ ++ (Value.ref (mj_ra w a) :: _) = _; rw [mj_ra_lo haz]) (by rw [mj_cats]; show 2 * 0 + _ ≤ 8; omega) hd ⟨by omega, by omega⟩
  exact mj_afterG (fun v I' J' R' ⟨hv, hP⟩ => by subst hv; exact hn I' J' R' hP) C hL hS h1 h2 hle hrun
theorem q_gIN {y : MethodName} {d' : mj_D} {idx a n : Nat} {host : String} {As : List Value} {P : mj_M → mj_J → mj_R → Prop} (hd : decode d.1 pc = .ok (.invokespecial idx, 3)) (hp : pc + 3 = pc') (hm : ∀ (w : mj_Wd) (s : State), mj_K w s → va_Nw (.methodLinkNest d.2.1 idx y host) s) (hy : mj_yI y d' n) (hlv : d'.2.2.2.2.1 < d.2.2.2.2.1) (hr : RgV X.1 X.2.2.1 y d' (.ref a :: As) h z2 P) (ha : a < 472) (hst : st0 = As.reverse ++ .ref a :: st) (hlen : As.length = n) (hw : (st.map fun v => v.category).sum ≤ 8) (hzf : z2 ≤ mj_zf X) (hn : ∀ I' J' R', P I' J' R' → Wq d X Q pc' L st (z2, I', J', R')) : Wq d X Q pc L st0 h := by
  subst hp; subst hst
  obtain ⟨w, p, l, e, Rm, s, m, args, below, meth, c, H0, z0, zf, Z⟩ := X
  intro C H locs ls cells slots hR hL hS h1 h2
  obtain ⟨hle, hM⟩ := hr
  have hsl := mj_sl_mono hle
  have C' := C
  obtain ⟨hx, hb, hml, hown, hts, hK, hz0, ⟨r1, r2, r3, r4⟩, -⟩ := C'
  obtain ⟨y1, y2, y3, ⟨y4, y5⟩, y6, y7, y8⟩ := hy
  have hzf : z2 ≤ zf := hzf
  have hsf := mj_sl_mono hzf
  have haz : a < 1000000 := by omega
  have cw : va_CN Rm s args d.2.1 idx y host d'.1 d'.2.2.1 none (mj_ws y d') (mj_rmG d' h.1 z2) (z2 - h.1) (mj_sl z2 - mj_sl h.1) n ∧ y.name = "<init>" ∧ (Cond.instanceMethod y).before args s = true :=
    ⟨va_cnB n hts (mj_gi y1) (by rw [mj_ws, y8]) rfl rfl (hm w s hK) (hts _ y2) ⟨y4.1, y4.2, y5⟩ ⟨by show d'.2.2.2.2.1 + 1 ≤ _; omega, by show 8 + (d'.2.2.1 + 11) + 38 * d'.2.2.2.2.1 ≤ _; omega⟩, y7, hts _ y6⟩
  have hrun := va_runIN (H := H) (locs := locs) (cells := cells) (slots := slots) (p := p) (e := e) (below := below) (meth := meth) (c := c) (m := m) (cc := d.1) (nL := d.2.2.1) (Ts := mj_T) (b := w.2.1 + a) (As := As.map (mj_tv w)) (rest := st.map (mj_tv w)) (g := F0 m pc ls ((As.reverse ++ .ref a :: st).map (mj_tv w))) ⟨hx, hb, hml, hown, hts⟩ hM cw
    ⟨mj_blind w _ h, fun U hU hW => ⟨by rw [List.map_cons]; show _ = (Value.ref (mj_ra w a) :: _).toArray; rw [mj_ra_lo haz], by rw [hU]; exact hR, mj_K_moved hW hK⟩⟩
    rfl (by rw [List.length_map]; exact hlen) hL.1 (by show List.map _ _ = _; rw [List.map_append, List.map_reverse, List.map_cons]; show _ ++ (Value.ref (mj_ra w a) :: _) = _; rw [mj_ra_lo haz]) (by rw [mj_cats]; show 2 * 0 + _ ≤ 8; omega) hd ⟨by omega, by omega⟩
  exact mj_afterG (fun v I' J' R' ⟨hv, hP⟩ => by subst hv; exact hn I' J' R' hP) C hL hS h1 h2 hle hrun
theorem nest_tally : ∀ (w : mj_Wd) (s : State), mj_K w s → va_Nw (.methodLinkNest RX5 11 yX8_init RX10) s := fun _ _ h => h.2.2.2.1
end RG
theorem rg_intro {w : mj_Wd} {l : Launch} {y : MethodName} {d : mj_D} {As : List Value} {z z2 : Nat} {I : mj_M} {J : mj_J} {R : mj_R} {P : mj_P} {L : List (Option Value)} (hy : plainName y.cls = true ∧ y.cls = d.2.1 ∧ (d.2.2.2.2.2 = true → y.name = "<init>")) (hz : z ≤ z2) (hn : (As.flatMap fun v => if v.category = 2 then [some v, none] else [some v]).length ≤ d.2.2.1) (hL : mj_L0 d.2.2.1 As = L)
    (body : ∀ (Y : mj_Y) (Q : Option Value → mj_H → Prop), (∀ v I' J' R', P v I' J' R' → Q v (z2, I', J', R')) → Wq d (mj_mk w l z2 Y) Q 0 L [] (z, I, J, R)) : Rg w l y d As (z, I, J, R) z2 P := by
  subst hL
  refine ⟨hz, Met.ofW (cc := d.1) (maxL := d.2.2.1) (ret := d.2.2.2.1) hy.1 rfl ?_⟩
  intro p e s m args below meth c s₁ B hml hv
  obtain ⟨rfl, hR, hK⟩ := hv
  have hts0 := atoms_spec (ws := mj_ws y d) B.pre
  have hts : ∀ wd ∈ mj_T, wd.before (As.map (mj_tv w)).toArray s = true := fun wd h => hts0 wd (List.mem_cons_of_mem _ h)
  have hown : s.vm.findClass d.2.1 = some m.cls := hy.2.1 ▸ findClass_of_methodNamed B.named
  have hnm : meth.name = y.name := (name_of_methodNamed B.named B.method).1
  have hlk := B.notSynchronized
  have hsl := mj_sl_mono hz
  rw [lg_entry_eq]
  have hb := body (p, e, (headSpec (mj_ws y d) (mj_rmG d z z2)).room, s, m, (As.map (mj_tv w)).toArray, below, meth, c, s.heap, z, MQ below (mj_Qp w z2 P) (As.map (mj_tv w)).toArray s (z2 - z) (mj_sl z2 - mj_sl z) (mj_A w)) (mj_Pq z2 P) (fun v I' J' R' h => ⟨rfl, h⟩)
  refine hb ⟨B.exec, B.bytes, hml, hown, hts, hK, hR.1, ⟨Nat.le_refl _, Nat.le_refl _, ?_, ?_⟩, fun h9 => by rw [hnm]; exact hy.2.2 h9, ?_⟩ s.heap [] _ 0 0 hR (mj_lv0 hn) va_S.rf (Nat.zero_add _) (Nat.zero_add _)
  · show z2 ≤ (z2 - z) + z; omega
  · show mj_sl z2 ≤ (mj_sl z2 - mj_sl z) + mj_sl z; omega
  · intro v2 h2 H locs cells slots pc ls hQ hR2 hS2 hc1 hc2 hrd
    obtain ⟨z9, I2, J2, R2⟩ := h2
    obtain ⟨hz9, hP2⟩ := hQ
    have hz9 : z9 = z2 := hz9
    subst hz9
    have hc1 : cells + z = z9 := hc1
    have hc2 : slots + mj_sl z = mj_sl z9 := hc2
    have ec : z9 - z = cells := by omega
    have es : mj_sl z9 - mj_sl z = slots := by omega
    show W _ _ _ _ _ _ _ _ _ _ _ _ _ _ (MQ below (mj_Qp w z9 P) (As.map (mj_tv w)).toArray s (z9 - z) (mj_sl z9 - mj_sl z) (mj_A w)) _
    rw [ec, es]
    have hq : ∀ t : State, t.heap = H → s.WarmedH t.vm → mj_Qp w z9 P (As.map (mj_tv w)).toArray s (.returned (v2.map (mj_tv w))) t := fun t ht hW => ⟨⟨v2, I2, J2, R2, rfl, hP2, by rw [ht]; exact hR2⟩, hS2.F ht⟩
    match v2, hrd, hq with
    | none, hrd, hq => exact W.vret B.exec B.bytes (B.returns.trans hrd.2) hq hS2.2.2 hrd.1 hlk
    | some (.int x), ⟨r1, ty, r2, r3⟩, hq => exact W.zret B.exec B.bytes (B.returns.trans r2) r3 hq hS2.2.2 r1 hlk
    | some (.long x), hrd, hq => exact W.lret B.exec B.bytes (B.returns.trans hrd.2) hq hS2.2.2 hrd.1 hlk
    | some (.ref x), ⟨r1, C9, r2⟩, hq => exact W.aret B.exec B.bytes (B.returns.trans r2) (Or.inl ⟨C9, rfl⟩) (Or.inr ⟨_, rfl⟩) hq hS2.2.2 r1 hlk
theorem sh_rw {i j : Nat} (hi : i < 21) (hj : j < 5) : mj_sh (sA i 12 + 1 + j) = (12, 8) := by
  rw [show sA i 12 + 1 + j = sA i (13 + j) by unfold sA; omega, sA_sh i hi _ (by omega)]
  have h5 : j = 0 ∨ j = 1 ∨ j = 2 ∨ j = 3 ∨ j = 4 := by omega
  rcases h5 with rfl | rfl | rfl | rfl | rfl <;> rfl
