/-! ===== methods that make no cell: a run to an answer and ints, longs, references that a condition takes ===== -/
abbrev mj_P : Type := Option Value → mj_M → mj_J → mj_R → Prop
def mj_Qp (w : mj_Wd) (z : Nat) (P : mj_P) : Array Value → State → Outcome → State → Prop := fun _ st o t => (∃ (v : Option Value) (I' : mj_M) (J' : mj_J) (R' : mj_R), o = .returned (v.map (mj_tv w)) ∧ P v I' J' R' ∧ mj_rep w (z, I', J', R') t.heap) ∧ va_F (mj_A w) st t
abbrev mj_rm0 (d : mj_D) : Room := { frames := d.2.2.2.2.1, cells := 0, slots := 0, locals := 38 * d.2.2.2.2.1 }
def Rt (w : mj_Wd) (l : Launch) (y : MethodName) (d : mj_D) (As : List Value) (h : mj_H) (P : mj_P) : Prop :=
  Met l y (mj_ws y d) (mj_rm0 d) (mj_Pc w As h) (mj_Qp w h.1 P) 0 0 (mj_A w)
abbrev RtI (w : mj_Wd) (l : Launch) (y : MethodName) (d : mj_D) (As : List Value) (h : mj_H) (P : Int32 → mj_M → mj_J → mj_R → Prop) : Prop := Rt w l y d As h (fun v I J R => ∃ x, v = some (.int x) ∧ P x I J R)
abbrev RtV (w : mj_Wd) (l : Launch) (y : MethodName) (d : mj_D) (As : List Value) (h : mj_H) (P : mj_M → mj_J → mj_R → Prop) : Prop := Rt w l y d As h (fun v I J R => v = none ∧ P I J R)
def mj_Pq (z : Nat) (P : mj_P) : Option Value → mj_H → Prop := fun v h2 => h2.1 = z ∧ P v h2.2.1 h2.2.2.1 h2.2.2.2
section QU
variable {d : mj_D} {X : mj_X} {Q : Option Value → mj_H → Prop} {pc pc' : Nat} {L : List (Option Value)} {st st0 : List Value} {h : mj_H} {P : mj_P}
theorem mj_afterP {w : mj_Wd} {p : Program} {l : Launch} {e : Env} {Rm : Room} {s : State} {m : MethodId} {args : Array Value} {below : List Frame} {meth : Method} {c : Code} {H0 H : Heap} {z0 zf : Nat} {Z : State → Prop} {locs : List Loc} {ls : Array Slot} {cells slots : Nat} {a9 : Array Value} {st9 : List Value}
    (hn : ∀ v I' J' R', P v I' J' R' → Wq d (w, p, l, e, Rm, s, m, args, below, meth, c, H0, z0, zf, Z) Q (pc + 3) L (v.toList ++ st) (h.1, I', J', R')) (C : mj_C d (w, p, l, e, Rm, s, m, args, below, meth, c, H0, z0, zf, Z) Q) (hL : mj_lv w ls d.2.2.1 L) (hS : va_S (mj_A w) H0 H locs) (h1 : cells + z0 = h.1) (h2 : slots + mj_sl z0 = mj_sl h.1)
    (hr : va_Run p l e Rm s m args below meth c H locs cells slots 0 0 (F0 m pc ls st9) (st.map (mj_tv w)) (mj_Qp w h.1 P a9) (mj_A w)) : W p l e Rm s m args below meth c H locs cells slots Z (F0 m pc ls st9) := by
  intro T hT Xs
  obtain ⟨v9, st₀, t, T', L9, e0, X', hL9, e1, e2, ⟨⟨v, I', J', R', ho, hP, hrep⟩, hz, hk⟩, go⟩ := hr T hT Xs
  rw [e0] at hz hk
  have hv : v9 = v.map (mj_tv w) := by
    have := Outcome.returned.inj ho
    exact this
  subst hv
  have hS' : va_S (mj_A w) H0 T'.heap (locs ++ L9) := ⟨Nat.le_trans hS.1 (by rw [e1]; exact hz), fun q h1 h2 => by rw [e1, hk q (Nat.lt_of_lt_of_le h1 hS.1) h2]; exact hS.2.1 q h1 h2, fun q hq => by
    rcases List.mem_append.mp hq with h | h
    · exact hS.2.2 q h
    · exact hL9 q h⟩
  obtain ⟨t2, a1, b1⟩ := hn v I' J' R' hP C T'.heap (locs ++ L9) ls (cells + 0) (slots + 0) (by rw [e1]; exact hrep) hL hS' h1 h2 T' rfl X'
  refine ⟨t2, go t2 ?_, b1⟩
  have e9 : (v.toList ++ st).map (mj_tv w) = (v.map (mj_tv w)).toList ++ st.map (mj_tv w) := by
    rw [List.map_append]
    cases v <;> rfl
  rw [e9] at a1
  exact a1
theorem q_tV {y : MethodName} {d' : mj_D} {idx a ci n : Nat} {As : List Value} (hd : decode d.1 pc = .ok (.invokevirtual idx, 3)) (hp : pc + 3 = pc') (hm : Cond.methodLink d.2.1 idx y ∈ mj_T) (hy : mj_yV y d' ci n) (hlv : d'.2.2.2.2.1 < d.2.2.2.2.1) (hr : Rt X.1 X.2.2.1 y d' (.ref a :: As) h P) (ha : mj_ok h.1 a ci) (hst : st0 = As.reverse ++ .ref a :: st) (hlen : As.length = n) (hw : (st.map fun v => v.category).sum ≤ 8) (hzf : h.1 ≤ mj_zf X) (hn : ∀ v I' J' R', P v I' J' R' → Wq d X Q pc' L (v.toList ++ st) (h.1, I', J', R')) : Wq d X Q pc L st0 h := by
  subst hp; subst hst
  obtain ⟨w, p, l, e, Rm, s, m, args, below, meth, c, H0, z0, zf, Z⟩ := X
  intro C H locs ls cells slots hR hL hS h1 h2
  have hM : Met l y (mj_ws y d') (mj_rm0 d') (mj_Pc w (.ref a :: As) h) (mj_Qp w h.1 P) 0 0 (mj_A w) := hr
  have C' := C
  obtain ⟨hx, hb, hml, hown, hts, hK, hz0, ⟨r1, r2, r3, r4⟩, -⟩ := C'
  obtain ⟨y1, y2, y3, ⟨y4, y5⟩, y6, y7, q, hq, hqc⟩ := hy
  have hzf : h.1 ≤ zf := hzf
  have hsf := mj_sl_mono hzf
  have haz : a < 1000000 := by have := ha.1; have := hR.2.1; omega
  obtain ⟨cell, g1, g2, g3, -⟩ := mj_obj hR ha hq
  have cw : CallW Rm s args d.2.1 y.cls idx y d'.1 d'.2.2.1 d'.2.2.2.1 (mj_ws y d') (mj_rm0 d') 0 0 n :=
    ⟨callB_of n hts (mj_gi y1) rfl rfl rfl (hts _ y2) (hts _ hm) ⟨y4.1, y4.2, y5⟩ ⟨by show d'.2.2.2.2.1 + 1 ≤ _; omega, by show 8 + (d'.2.2.1 + 11) + 38 * d'.2.2.2.2.1 ≤ _; omega⟩, hts _ y6, hts _ y7⟩
  have hrun := va_runV (H := H) (locs := locs) (cells := cells) (slots := slots) (p := p) (e := e) (below := below) (meth := meth) (c := c) (m := m) (cc := d.1) (nL := d.2.2.1) (Ts := mj_T) (b := w.2.1 + a) (As := As.map (mj_tv w)) (rest := st.map (mj_tv w)) (g := F0 m pc ls ((As.reverse ++ .ref a :: st).map (mj_tv w))) ⟨hx, hb, hml, hown, hts⟩ hM cw
    ⟨mj_blind w _ h, ⟨cell, g1, by rw [g3]; rfl, by rw [g2, ← hqc]; exact (hK.1.1 ci q hq).2.1⟩, fun U hU hW => ⟨by rw [List.map_cons]; show _ = (Value.ref (mj_ra w a) :: _).toArray; rw [mj_ra_lo haz], by rw [hU]; exact hR, mj_K_moved hW hK⟩⟩
    rfl (by rw [List.length_map]; exact hlen) hL.1 (by show List.map _ _ = _; rw [List.map_append, List.map_reverse, List.map_cons]; show _ ++ (Value.ref (mj_ra w a) :: _) = _; rw [mj_ra_lo haz]) (by rw [mj_cats]; show 2 * 0 + _ ≤ 8; omega) hd ⟨by omega, by omega⟩
  exact mj_afterP hn C hL hS h1 h2 hrun
theorem q_tS {y : MethodName} {d' : mj_D} {idx n : Nat} {As : List Value} (hd : decode d.1 pc = .ok (.invokestatic idx, 3)) (hp : pc + 3 = pc') (hm : Cond.methodLink d.2.1 idx y ∈ mj_T) (hy : mj_yS y d' n) (hlv : d'.2.2.2.2.1 < d.2.2.2.2.1) (hr : Rt X.1 X.2.2.1 y d' As h P) (hst : st0 = As.reverse ++ st) (hlen : As.length = n) (hw : (st.map fun v => v.category).sum ≤ 8) (hzf : h.1 ≤ mj_zf X) (hn : ∀ v I' J' R', P v I' J' R' → Wq d X Q pc' L (v.toList ++ st) (h.1, I', J', R')) : Wq d X Q pc L st0 h := by
  subst hp; subst hst
  obtain ⟨w, p, l, e, Rm, s, m, args, below, meth, c, H0, z0, zf, Z⟩ := X
  intro C H locs ls cells slots hR hL hS h1 h2
  have hM : Met l y (mj_ws y d') (mj_rm0 d') (mj_Pc w As h) (mj_Qp w h.1 P) 0 0 (mj_A w) := hr
  have C' := C
  obtain ⟨hx, hb, hml, hown, hts, hK, hz0, ⟨r1, r2, r3, r4⟩, -⟩ := C'
  obtain ⟨y1, y2, y3, ⟨y4, y5⟩, y6⟩ := hy
  have hzf : h.1 ≤ zf := hzf
  have hsf := mj_sl_mono hzf
  have cw : CallB Rm s args d.2.1 idx y d'.1 d'.2.2.1 d'.2.2.2.1 (mj_ws y d') (mj_rm0 d') 0 0 n ∧ (Cond.static y).before args s = true :=
    ⟨callB_of n hts (mj_gi y1) rfl rfl rfl (hts _ y2) (hts _ hm) ⟨y4.1, y4.2, y5⟩ ⟨by show d'.2.2.2.2.1 + 1 ≤ _; omega, by show 8 + (d'.2.2.1 + 11) + 38 * d'.2.2.2.2.1 ≤ _; omega⟩, hts _ y6⟩
  have hrun := va_runS (H := H) (locs := locs) (cells := cells) (slots := slots) (p := p) (e := e) (below := below) (meth := meth) (c := c) (m := m) (cc := d.1) (nL := d.2.2.1) (Ts := mj_T) (As := As.map (mj_tv w)) (rest := st.map (mj_tv w)) (g := F0 m pc ls ((As.reverse ++ st).map (mj_tv w))) ⟨hx, hb, hml, hown, hts⟩ hM cw
    ⟨mj_blind w _ h, fun U hU hW => ⟨rfl, by rw [hU]; exact hR, mj_K_moved hW hK⟩⟩
    rfl (by rw [List.length_map]; exact hlen) hL.1 (by show List.map _ _ = _; rw [List.map_append, List.map_reverse]) (by rw [mj_cats]; show 2 * 0 + _ ≤ 8; omega) hd ⟨by omega, by omega⟩
  exact mj_afterP hn C hL hS h1 h2 hrun
end QU
section QV
variable {d : mj_D} {X : mj_X} {Q : Option Value → mj_H → Prop} {pc pc' : Nat} {L : List (Option Value)} {st st0 : List Value} {z : Nat} {I : mj_M} {J : mj_J} {R : mj_R}
theorem q_tVi {y : MethodName} {d' : mj_D} {idx a ci n : Nat} {As : List Value} {P : Int32 → mj_M → mj_J → mj_R → Prop} (hd : decode d.1 pc = .ok (.invokevirtual idx, 3)) (hp : pc + 3 = pc') (hm : Cond.methodLink d.2.1 idx y ∈ mj_T) (hy : mj_yV y d' ci n) (hlv : d'.2.2.2.2.1 < d.2.2.2.2.1) (hr : RtI X.1 X.2.2.1 y d' (.ref a :: As) (z, I, J, R) P) (ha : mj_ok z a ci) (hst : st0 = As.reverse ++ .ref a :: st) (hlen : As.length = n) (hw : (st.map fun v => v.category).sum ≤ 8) (hzf : z ≤ mj_zf X) (hn : ∀ x I' J' R', P x I' J' R' → Wq d X Q pc' L (.int x :: st) (z, I', J', R')) : Wq d X Q pc L st0 (z, I, J, R) :=
  q_tV hd hp hm hy hlv hr ha hst hlen hw hzf (fun v I' J' R' ⟨x, hv, hP⟩ => by subst hv; exact hn x I' J' R' hP)
theorem q_tVv {y : MethodName} {d' : mj_D} {idx a ci n : Nat} {As : List Value} {P : mj_M → mj_J → mj_R → Prop} (hd : decode d.1 pc = .ok (.invokevirtual idx, 3)) (hp : pc + 3 = pc') (hm : Cond.methodLink d.2.1 idx y ∈ mj_T) (hy : mj_yV y d' ci n) (hlv : d'.2.2.2.2.1 < d.2.2.2.2.1) (hr : RtV X.1 X.2.2.1 y d' (.ref a :: As) (z, I, J, R) P) (ha : mj_ok z a ci) (hst : st0 = As.reverse ++ .ref a :: st) (hlen : As.length = n) (hw : (st.map fun v => v.category).sum ≤ 8) (hzf : z ≤ mj_zf X) (hn : ∀ I' J' R', P I' J' R' → Wq d X Q pc' L st (z, I', J', R')) : Wq d X Q pc L st0 (z, I, J, R) :=
  q_tV hd hp hm hy hlv hr ha hst hlen hw hzf (fun v I' J' R' ⟨hv, hP⟩ => by subst hv; exact hn I' J' R' hP)
theorem q_tSi {y : MethodName} {d' : mj_D} {idx n : Nat} {As : List Value} {P : Int32 → mj_M → mj_J → mj_R → Prop} (hd : decode d.1 pc = .ok (.invokestatic idx, 3)) (hp : pc + 3 = pc') (hm : Cond.methodLink d.2.1 idx y ∈ mj_T) (hy : mj_yS y d' n) (hlv : d'.2.2.2.2.1 < d.2.2.2.2.1) (hr : RtI X.1 X.2.2.1 y d' As (z, I, J, R) P) (hst : st0 = As.reverse ++ st) (hlen : As.length = n) (hw : (st.map fun v => v.category).sum ≤ 8) (hzf : z ≤ mj_zf X) (hn : ∀ x I' J' R', P x I' J' R' → Wq d X Q pc' L (.int x :: st) (z, I', J', R')) : Wq d X Q pc L st0 (z, I, J, R) :=
  q_tS hd hp hm hy hlv hr hst hlen hw hzf (fun v I' J' R' ⟨x, hv, hP⟩ => by subst hv; exact hn x I' J' R' hP)
theorem q_tSv {y : MethodName} {d' : mj_D} {idx n : Nat} {As : List Value} {P : mj_M → mj_J → mj_R → Prop} (hd : decode d.1 pc = .ok (.invokestatic idx, 3)) (hp : pc + 3 = pc') (hm : Cond.methodLink d.2.1 idx y ∈ mj_T) (hy : mj_yS y d' n) (hlv : d'.2.2.2.2.1 < d.2.2.2.2.1) (hr : RtV X.1 X.2.2.1 y d' As (z, I, J, R) P) (hst : st0 = As.reverse ++ st) (hlen : As.length = n) (hw : (st.map fun v => v.category).sum ≤ 8) (hzf : z ≤ mj_zf X) (hn : ∀ I' J' R', P I' J' R' → Wq d X Q pc' L st (z, I', J', R')) : Wq d X Q pc L st0 (z, I, J, R) :=
  q_tS hd hp hm hy hlv hr hst hlen hw hzf (fun v I' J' R' ⟨hv, hP⟩ => by subst hv; exact hn I' J' R' hP)
end QV
theorem rt_intro {w : mj_Wd} {l : Launch} {y : MethodName} {d : mj_D} {As : List Value} {z : Nat} {I : mj_M} {J : mj_J} {R : mj_R} {P : mj_P} {L : List (Option Value)} (hy : plainName y.cls = true ∧ y.cls = d.2.1 ∧ (d.2.2.2.2.2 = true → y.name = "<init>")) (hn : (As.flatMap fun v => if v.category = 2 then [some v, none] else [some v]).length ≤ d.2.2.1) (hL : mj_L0 d.2.2.1 As = L)
    (body : ∀ Y : mj_Y, Wq d (mj_mk w l z Y) (mj_Pq z P) 0 L [] (z, I, J, R)) : Rt w l y d As (z, I, J, R) P := by
  subst hL
  refine Met.ofW (cc := d.1) (maxL := d.2.2.1) (ret := d.2.2.2.1) hy.1 rfl ?_
  intro p e s m args below meth c s₁ B hml hv
  obtain ⟨rfl, hR, hK⟩ := hv
  have hts0 := atoms_spec (ws := mj_ws y d) B.pre
  have hts : ∀ wd ∈ mj_T, wd.before (As.map (mj_tv w)).toArray s = true := fun wd h => hts0 wd (List.mem_cons_of_mem _ h)
  have hown : s.vm.findClass d.2.1 = some m.cls := hy.2.1 ▸ findClass_of_methodNamed B.named
  have hnm : meth.name = y.name := (name_of_methodNamed B.named B.method).1
  have hlk := B.notSynchronized
  rw [lg_entry_eq]
  have hb := body (p, e, (headSpec (mj_ws y d) (mj_rm0 d)).room, s, m, (As.map (mj_tv w)).toArray, below, meth, c, s.heap, z, MQ below (mj_Qp w z P) (As.map (mj_tv w)).toArray s 0 0 (mj_A w))
  refine hb ⟨B.exec, B.bytes, hml, hown, hts, hK, hR.1, ⟨Nat.le_refl _, Nat.le_refl _, ?_, ?_⟩, fun h9 => by rw [hnm]; exact hy.2.2 h9, ?_⟩ s.heap [] _ 0 0 hR (mj_lv0 hn) va_S.rf (Nat.zero_add _) (Nat.zero_add _)
  · show z ≤ 0 + z; omega
  · show mj_sl z ≤ 0 + mj_sl z; omega
  · intro v2 h2 H locs cells slots pc ls hQ hR2 hS2 hc1 hc2 hrd
    obtain ⟨z2, I2, J2, R2⟩ := h2
    obtain ⟨hz2, hP2⟩ := hQ
    have hz2 : z2 = z := hz2
    subst hz2
    have hc1 : cells + z2 = z2 := hc1
    have hc2 : slots + mj_sl z2 = mj_sl z2 := hc2
    have ec : cells = 0 := by omega
    have es : slots = 0 := by omega
    subst ec; subst es
    have hq : ∀ t : State, t.heap = H → s.WarmedH t.vm → mj_Qp w z2 P (As.map (mj_tv w)).toArray s (.returned (v2.map (mj_tv w))) t := fun t ht hW => ⟨⟨v2, I2, J2, R2, rfl, hP2, by rw [ht]; exact hR2⟩, hS2.F ht⟩
    match v2, hrd, hq with
    | none, hrd, hq => exact W.vret B.exec B.bytes (B.returns.trans hrd.2) hq hS2.2.2 hrd.1 hlk
    | some (.int x), ⟨r1, ty, r2, r3⟩, hq => exact W.zret B.exec B.bytes (B.returns.trans r2) r3 hq hS2.2.2 r1 hlk
    | some (.long x), hrd, hq => exact W.lret B.exec B.bytes (B.returns.trans hrd.2) hq hS2.2.2 hrd.1 hlk
    | some (.ref x), ⟨r1, C9, r2⟩, hq => exact W.aret B.exec B.bytes (B.returns.trans r2) (Or.inl ⟨C9, rfl⟩) (Or.inr ⟨_, rfl⟩) hq hS2.2.2 r1 hlk
theorem Rt.mono {w : mj_Wd} {l : Launch} {y : MethodName} {d : mj_D} {As : List Value} {h : mj_H} {P P' : mj_P} (hr : Rt w l y d As h P) (hP : ∀ v I J R, P v I J R → P' v I J R) : Rt w l y d As h P' := by
  intro p e ha hc hk s m args below hf happ hpre htr
  obtain ⟨k, o, h1, h2, h3, ⟨⟨⟨v, I', J', R', q1, q2, q3⟩, q4⟩, q5⟩⟩ := hr p e ha hc hk s m args below hf happ hpre htr
  exact ⟨k, o, h1, h2, h3, ⟨⟨⟨v, I', J', R', q1, hP _ _ _ _ q2, q3⟩, q4⟩, q5⟩⟩
