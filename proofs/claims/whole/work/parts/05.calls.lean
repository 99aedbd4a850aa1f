/-! ===== methods: a run from arguments and world to an answer and a world; calls ===== -/
def mj_Pc (w : mj_Wd) (As : List Value) (h : mj_H) : Array Value → State → Prop := fun v U => v = (As.map (mj_tv w)).toArray ∧ mj_rep w h U.heap ∧ mj_K w U
def mj_Qc (w : mj_Wd) (v : Option Value) (h' : mj_H) : Array Value → State → Outcome → State → Prop := fun _ st o t => (o = .returned (v.map (mj_tv w)) ∧ mj_rep w h' t.heap) ∧ va_F (mj_A w) st t
abbrev mj_ws (y : MethodName) (d : mj_D) : List Cond := Cond.code y d.1 d.2.2.1 d.2.2.2.1 :: mj_T
abbrev mj_rm (d : mj_D) (h h' : mj_H) : Room := { frames := d.2.2.2.2.1, cells := h'.1 - h.1, slots := mj_sl h'.1 - mj_sl h.1, locals := 38 * d.2.2.2.2.1 }
/-- the method, called with As in the world h, answers v, and the world is h' then -/
def Rn (w : mj_Wd) (l : Launch) (y : MethodName) (d : mj_D) (As : List Value) (h : mj_H) (v : Option Value) (h' : mj_H) : Prop :=
  h.1 ≤ h'.1 ∧ Met l y (mj_ws y d) (mj_rm d h h') (mj_Pc w As h) (mj_Qc w v h') (h'.1 - h.1) (mj_sl h'.1 - mj_sl h.1) (mj_A w)
theorem mj_blind (w : mj_Wd) (As : List Value) (h : mj_H) : FrameBlind (mj_Pc w As h) := fun _ _ _ _ h => h
def mj_dsc (y : MethodName) (n : Nat) : Prop := (y.cls ≠ "java/lang/invoke/MethodHandle" ∧ y.cls ≠ "java/lang/invoke/VarHandle") ∧ (parseMethodDescriptor y.desc).map (fun d => d.parameters.length) = some n
/-- what the tables say of a method that is called: virtual, static, a constructor -/
def mj_yV (y : MethodName) (d : mj_D) (ci n : Nat) : Prop := Cond.code y d.1 d.2.2.1 d.2.2.2.1 ∈ mj_T ∧ Cond.initialized y.cls ∈ mj_T ∧ d.2.2.1 ≤ 19 ∧ mj_dsc y n ∧ Cond.instanceMethod y ∈ mj_T ∧ Cond.selects y.cls y y ∈ mj_T ∧ ∃ q : vw_C, vwCl[ci]? = some q ∧ q.1 = y.cls
def mj_yS (y : MethodName) (d : mj_D) (n : Nat) : Prop := Cond.code y d.1 d.2.2.1 d.2.2.2.1 ∈ mj_T ∧ Cond.initialized y.cls ∈ mj_T ∧ d.2.2.1 ≤ 19 ∧ mj_dsc y n ∧ Cond.static y ∈ mj_T
def mj_yI (y : MethodName) (d : mj_D) (n : Nat) : Prop := Cond.code y d.1 d.2.2.1 d.2.2.2.1 ∈ mj_T ∧ Cond.initialized y.cls ∈ mj_T ∧ d.2.2.1 ≤ 19 ∧ mj_dsc y n ∧ Cond.instanceMethod y ∈ mj_T ∧ y.name = "<init>" ∧ d.2.2.2.1 = none
theorem mj_gi {y : MethodName} {d : mj_D} (hc : Cond.code y d.1 d.2.2.1 d.2.2.2.1 ∈ mj_T) : GoodIn mj_T (mj_ws y d) := by
  intro w hw
  have hm : w ∈ mj_T := by
    rcases List.mem_cons.mp hw with rfl | h
    · exact hc
    · exact h
  exact ⟨hm, good_of_word (List.mem_filter.mp hm).2⟩
def mj_pf (comp : ClassId) (x : Class) : Bool := match x.kind with | .array component _ => component == comp | _ => false
def mj_pg (s : State) (c : Nat) (k : Class) : Bool := match k.kind with | .array _ ty => decide (ty = FieldType.array .int) && decide (s.vm.findClass ("[" ++ (FieldType.array .int).toString) = some c) | _ => false
theorem mj_AOA_iff (s : State) : mj_AOA s ↔ ((s.vm.findClass (FieldType.array .int).toString).bind fun comp => (s.vm.classes.findIdx? (mj_pf comp)).bind fun c => (s.vm.classes[c]?).map (mj_pg s c)) = some true := by
  unfold mj_AOA Cond.before Cond.holds
  rw [beq_iff_eq]
  exact Iff.rfl
theorem mj_pf_bare (vm : Vm) (comp : ClassId) : vm.bare.classes.findIdx? (mj_pf comp) = vm.classes.findIdx? (mj_pf comp) := va_idx_bare vm comp
theorem mj_AOA_moved {u U : State} (hvm : u.vm.Alike U.vm) (h : mj_AOA u) : mj_AOA U := by
  rw [mj_AOA_iff] at h ⊢
  have e1 : U.vm.findClass (FieldType.array .int).toString = u.vm.findClass (FieldType.array .int).toString := by rw [hvm.findClass]
  have e2 : U.vm.findClass ("[" ++ (FieldType.array .int).toString) = u.vm.findClass ("[" ++ (FieldType.array .int).toString) := by rw [hvm.findClass]
  rw [e1]
  cases hc : u.vm.findClass (FieldType.array .int).toString with
  | none => rw [hc] at h; cases h
  | some comp =>
    rw [hc, Option.bind_some] at h
    rw [Option.bind_some]
    have hi : U.vm.classes.findIdx? (mj_pf comp) = u.vm.classes.findIdx? (mj_pf comp) := by
      rw [← mj_pf_bare U.vm, ← mj_pf_bare u.vm]
      first | rw [hvm.bare_eq] | rw [← hvm.bare_eq]
    rw [hi]
    cases hd : u.vm.classes.findIdx? (mj_pf comp) with
    | none => rw [hd] at h; cases h
    | some c9 =>
      rw [hd, Option.bind_some] at h
      rw [Option.bind_some]
      cases hk : u.vm.classes[c9]? with
      | none => rw [hk] at h; cases h
      | some k9 =>
        obtain ⟨k', hk', he⟩ := hvm.2.2 _ _ hk
        rw [hk] at h
        rw [hk']
        have hkk : k'.kind = k9.kind := by rw [he]
        simp only [Option.map_some, mj_pg, hkk, e2] at h ⊢
        exact h
theorem mj_AOA_spec {s : State} (h : mj_AOA s) : ∃ comp c k, s.vm.findClass (FieldType.array .int).toString = some comp ∧ s.vm.classes[c]? = some k ∧ k.kind = .array comp (.array .int) ∧ s.vm.findClass ("[" ++ (FieldType.array .int).toString) = some c := by
  rw [mj_AOA_iff] at h
  cases hc : s.vm.findClass (FieldType.array .int).toString with
  | none => rw [hc] at h; cases h
  | some comp =>
    rw [hc, Option.bind_some] at h
    cases hd : s.vm.classes.findIdx? (mj_pf comp) with
    | none => rw [hd] at h; cases h
    | some c9 =>
      rw [hd, Option.bind_some] at h
      cases hk : s.vm.classes[c9]? with
      | none => rw [hk] at h; cases h
      | some k9 =>
        rw [hk, Option.map_some] at h
        have h := Option.some.inj h
        have hp : mj_pf comp k9 = true := by
          obtain ⟨hlt, hp, -⟩ := Array.findIdx?_eq_some_iff_getElem.mp hd
          rw [(Array.getElem?_eq_some_iff.mp hk).2] at hp
          exact hp
        unfold mj_pf at hp
        unfold mj_pg at h
        cases hkd : k9.kind with
        | array component ty =>
          rw [hkd] at hp h
          have hp : (component == comp) = true := hp
          have h : (decide (ty = FieldType.array .int) && decide (s.vm.findClass ("[" ++ (FieldType.array .int).toString) = some c9)) = true := h
          rw [Bool.and_eq_true] at h
          have e1 := of_decide_eq_true h.1
          have e2 := eq_of_beq hp
          subst e1
          subst e2
          exact ⟨_, c9, k9, rfl, hk, hkd, of_decide_eq_true h.2⟩
        | _ => rw [hkd] at hp; cases hp
theorem mj_K_moved {w : mj_Wd} {u U : State} (hW : u.WarmedH U.vm) (h : mj_K w u) : mj_K w U := ⟨va_K.moved hW.alike h.1, h.2.1.moved hW.alike, mj_AOA_moved hW.alike h.2.2.1, h.2.2.2.1.warmM hW, h.2.2.2.2.warmM hW⟩
theorem mj_cats (w : mj_Wd) (st : List Value) : ((st.map (mj_tv w)).map fun v => v.category).sum = (st.map fun v => v.category).sum := by
  rw [List.map_map]
  congr 1
  apply List.map_congr_left
  intro v _
  exact mj_tv_cat w v
section QC
variable {d : mj_D} {X : mj_X} {Q : Option Value → mj_H → Prop} {pc pc' : Nat} {L : List (Option Value)} {st st0 : List Value} {h h' : mj_H}
/-- behind any call -/
theorem mj_after {w : mj_Wd} {p : Program} {l : Launch} {e : Env} {Rm : Room} {s : State} {m : MethodId} {args : Array Value} {below : List Frame} {meth : Method} {c : Code} {H0 H : Heap} {z0 zf : Nat} {Z : State → Prop} {locs : List Loc} {ls : Array Slot} {cells slots : Nat} {v : Option Value} {a9 : Array Value} {st9 : List Value}
    (hn : Wq d (w, p, l, e, Rm, s, m, args, below, meth, c, H0, z0, zf, Z) Q (pc + 3) L (v.toList ++ st) h') (C : mj_C d (w, p, l, e, Rm, s, m, args, below, meth, c, H0, z0, zf, Z) Q) (hL : mj_lv w ls d.2.2.1 L) (hS : va_S (mj_A w) H0 H locs) (h1 : cells + z0 = h.1) (h2 : slots + mj_sl z0 = mj_sl h.1) (hle : h.1 ≤ h'.1)
    (hr : va_Run p l e Rm s m args below meth c H locs cells slots (h'.1 - h.1) (mj_sl h'.1 - mj_sl h.1) (F0 m pc ls st9) (st.map (mj_tv w)) (mj_Qc w v h' a9) (mj_A w)) : W p l e Rm s m args below meth c H locs cells slots Z (F0 m pc ls st9) := by
  intro T hT Xs
  obtain ⟨v9, st₀, t, T', L9, e0, X', hL9, e1, e2, ⟨⟨ho, hrep⟩, hz, hk⟩, go⟩ := hr T hT Xs
  rw [e0] at hz hk
  have hv : v9 = v.map (mj_tv w) := by
    have := Outcome.returned.inj ho
    exact this
  subst hv
  have hsl := mj_sl_mono hle
  have hS' : va_S (mj_A w) H0 T'.heap (locs ++ L9) := ⟨Nat.le_trans hS.1 (by rw [e1]; exact hz), fun q h1 h2 => by rw [e1, hk q (Nat.lt_of_lt_of_le h1 hS.1) h2]; exact hS.2.1 q h1 h2, fun q hq => by
    rcases List.mem_append.mp hq with h | h
    · exact hS.2.2 q h
    · exact hL9 q h⟩
  obtain ⟨t2, a1, b1⟩ := hn C T'.heap (locs ++ L9) ls (cells + (h'.1 - h.1)) (slots + (mj_sl h'.1 - mj_sl h.1)) (by rw [e1]; exact hrep) hL hS' (by omega) (by omega) T' rfl X'
  refine ⟨t2, go t2 ?_, b1⟩
  have e9 : (v.toList ++ st).map (mj_tv w) = (v.map (mj_tv w)).toList ++ st.map (mj_tv w) := by
    rw [List.map_append]
    cases v <;> rfl
  rw [e9] at a1
  exact a1
theorem q_callV {y : MethodName} {d' : mj_D} {idx a ci n : Nat} {As : List Value} {v : Option Value} (hd : decode d.1 pc = .ok (.invokevirtual idx, 3)) (hp : pc + 3 = pc') (hm : Cond.methodLink d.2.1 idx y ∈ mj_T) (hy : mj_yV y d' ci n) (hlv : d'.2.2.2.2.1 < d.2.2.2.2.1) (hr : Rn X.1 X.2.2.1 y d' (.ref a :: As) h v h') (ha : mj_ok h.1 a ci) (hst : st0 = As.reverse ++ .ref a :: st) (hlen : As.length = n) (hw : (st.map fun v => v.category).sum ≤ 8) (hzf : h'.1 ≤ mj_zf X) (hn : Wq d X Q pc' L (v.toList ++ st) h') : Wq d X Q pc L st0 h := by
  subst hp; subst hst
  obtain ⟨w, p, l, e, Rm, s, m, args, below, meth, c, H0, z0, zf, Z⟩ := X
  intro C H locs ls cells slots hR hL hS h1 h2
  obtain ⟨hle, hM⟩ := hr
  have hsl := mj_sl_mono hle
  have C' := C
  obtain ⟨hx, hb, hml, hown, hts, hK, hz0, ⟨r1, r2, r3, r4⟩, -⟩ := C'
  obtain ⟨y1, y2, y3, ⟨y4, y5⟩, y6, y7, q, hq, hqc⟩ := hy
  have hzf : h'.1 ≤ zf := hzf
  have hsf := mj_sl_mono hzf
  have haz : a < 1000000 := by have := ha.1; have := hR.2.1; omega
  obtain ⟨cell, g1, g2, g3, -⟩ := mj_obj hR ha hq
  have cw : CallW Rm s args d.2.1 y.cls idx y d'.1 d'.2.2.1 d'.2.2.2.1 (mj_ws y d') (mj_rm d' h h') (h'.1 - h.1) (mj_sl h'.1 - mj_sl h.1) n :=
    ⟨callB_of n hts (mj_gi y1) rfl rfl rfl (hts _ y2) (hts _ hm) ⟨y4.1, y4.2, y5⟩ ⟨by show d'.2.2.2.2.1 + 1 ≤ _; omega, by show 8 + (d'.2.2.1 + 11) + 38 * d'.2.2.2.2.1 ≤ _; omega⟩, hts _ y6, hts _ y7⟩
  have hrun := va_runV (H := H) (locs := locs) (cells := cells) (slots := slots) (p := p) (e := e) (below := below) (meth := meth) (c := c) (m := m) (cc := d.1) (nL := d.2.2.1) (Ts := mj_T) (b := w.2.1 + a) (As := As.map (mj_tv w)) (rest := st.map (mj_tv w)) (g := F0 m pc ls ((As.reverse ++ .ref a :: st).map (mj_tv w))) ⟨hx, hb, hml, hown, hts⟩ hM cw
    ⟨mj_blind w _ h, ⟨cell, g1, by rw [g3]; rfl, by rw [g2, ← hqc]; exact (hK.1.1 ci q hq).2.1⟩, fun U hU hW => ⟨by rw [List.map_cons]; show _ = (Value.ref (mj_ra w a) :: _).toArray; rw [mj_ra_lo haz], by rw [hU]; exact hR, mj_K_moved hW hK⟩⟩
    rfl (by rw [List.length_map]; exact hlen) hL.1 (by show List.map _ _ = _; rw [List.map_append, List.map_reverse, List.map_cons]; show _ ++ (Value.ref (mj_ra w a) :: _) = _; rw [mj_ra_lo haz]) (by rw [mj_cats]; show 2 * 0 + _ ≤ 8; omega) hd ⟨by omega, by omega⟩
  exact mj_after hn C hL hS h1 h2 hle hrun
theorem q_callS {y : MethodName} {d' : mj_D} {idx n : Nat} {As : List Value} {v : Option Value} (hd : decode d.1 pc = .ok (.invokestatic idx, 3)) (hp : pc + 3 = pc') (hm : Cond.methodLink d.2.1 idx y ∈ mj_T) (hy : mj_yS y d' n) (hlv : d'.2.2.2.2.1 < d.2.2.2.2.1) (hr : Rn X.1 X.2.2.1 y d' As h v h') (hst : st0 = As.reverse ++ st) (hlen : As.length = n) (hw : (st.map fun v => v.category).sum ≤ 8) (hzf : h'.1 ≤ mj_zf X) (hn : Wq d X Q pc' L (v.toList ++ st) h') : Wq d X Q pc L st0 h := by
  subst hp; subst hst
  obtain ⟨w, p, l, e, Rm, s, m, args, below, meth, c, H0, z0, zf, Z⟩ := X
  intro C H locs ls cells slots hR hL hS h1 h2
  obtain ⟨hle, hM⟩ := hr
  have hsl := mj_sl_mono hle
  have C' := C
  obtain ⟨hx, hb, hml, hown, hts, hK, hz0, ⟨r1, r2, r3, r4⟩, -⟩ := C'
  obtain ⟨y1, y2, y3, ⟨y4, y5⟩, y6⟩ := hy
  have hzf : h'.1 ≤ zf := hzf
  have hsf := mj_sl_mono hzf
  have cw : CallB Rm s args d.2.1 idx y d'.1 d'.2.2.1 d'.2.2.2.1 (mj_ws y d') (mj_rm d' h h') (h'.1 - h.1) (mj_sl h'.1 - mj_sl h.1) n ∧ (Cond.static y).before args s = true :=
    ⟨callB_of n hts (mj_gi y1) rfl rfl rfl (hts _ y2) (hts _ hm) ⟨y4.1, y4.2, y5⟩ ⟨by show d'.2.2.2.2.1 + 1 ≤ _; omega, by show 8 + (d'.2.2.1 + 11) + 38 * d'.2.2.2.2.1 ≤ _; omega⟩, hts _ y6⟩
  have hrun := va_runS (H := H) (locs := locs) (cells := cells) (slots := slots) (p := p) (e := e) (below := below) (meth := meth) (c := c) (m := m) (cc := d.1) (nL := d.2.2.1) (Ts := mj_T) (As := As.map (mj_tv w)) (rest := st.map (mj_tv w)) (g := F0 m pc ls ((As.reverse ++ st).map (mj_tv w))) ⟨hx, hb, hml, hown, hts⟩ hM cw
    ⟨mj_blind w _ h, fun U hU hW => ⟨rfl, by rw [hU]; exact hR, mj_K_moved hW hK⟩⟩
    rfl (by rw [List.length_map]; exact hlen) hL.1 (by show List.map _ _ = _; rw [List.map_append, List.map_reverse]) (by rw [mj_cats]; show 2 * 0 + _ ≤ 8; omega) hd ⟨by omega, by omega⟩
  exact mj_after hn C hL hS h1 h2 hle hrun
theorem q_callI {y : MethodName} {d' : mj_D} {idx a n : Nat} {As : List Value} {v : Option Value} (hd : decode d.1 pc = .ok (.invokespecial idx, 3)) (hp : pc + 3 = pc') (hm : Cond.methodLink d.2.1 idx y ∈ mj_T) (hy : mj_yI y d' n) (hlv : d'.2.2.2.2.1 < d.2.2.2.2.1) (hr : Rn X.1 X.2.2.1 y d' (.ref a :: As) h v h') (ha : a < 472) (hst : st0 = As.reverse ++ .ref a :: st) (hlen : As.length = n) (hw : (st.map fun v => v.category).sum ≤ 8) (hzf : h'.1 ≤ mj_zf X) (hn : Wq d X Q pc' L (v.toList ++ st) h') : Wq d X Q pc L st0 h := by
  subst hp; subst hst
  obtain ⟨w, p, l, e, Rm, s, m, args, below, meth, c, H0, z0, zf, Z⟩ := X
  intro C H locs ls cells slots hR hL hS h1 h2
  obtain ⟨hle, hM⟩ := hr
  have hsl := mj_sl_mono hle
  have C' := C
  obtain ⟨hx, hb, hml, hown, hts, hK, hz0, ⟨r1, r2, r3, r4⟩, -⟩ := C'
  obtain ⟨y1, y2, y3, ⟨y4, y5⟩, y6, y7, y8⟩ := hy
  have hzf : h'.1 ≤ zf := hzf
  have hsf := mj_sl_mono hzf
  have haz : a < 1000000 := by omega
  have cw : CallB Rm s args d.2.1 idx y d'.1 d'.2.2.1 none (mj_ws y d') (mj_rm d' h h') (h'.1 - h.1) (mj_sl h'.1 - mj_sl h.1) n ∧ y.name = "<init>" ∧ (Cond.instanceMethod y).before args s = true :=
    ⟨callB_of n hts (mj_gi y1) (by rw [mj_ws, y8]) rfl rfl (hts _ y2) (hts _ hm) ⟨y4.1, y4.2, y5⟩ ⟨by show d'.2.2.2.2.1 + 1 ≤ _; omega, by show 8 + (d'.2.2.1 + 11) + 38 * d'.2.2.2.2.1 ≤ _; omega⟩, y7, hts _ y6⟩
  have hrun := va_runI (H := H) (locs := locs) (cells := cells) (slots := slots) (p := p) (e := e) (below := below) (meth := meth) (c := c) (m := m) (cc := d.1) (nL := d.2.2.1) (Ts := mj_T) (b := w.2.1 + a) (As := As.map (mj_tv w)) (rest := st.map (mj_tv w)) (g := F0 m pc ls ((As.reverse ++ .ref a :: st).map (mj_tv w))) ⟨hx, hb, hml, hown, hts⟩ hM cw
    ⟨mj_blind w _ h, fun U hU hW => ⟨by rw [List.map_cons]; show _ = (Value.ref (mj_ra w a) :: _).toArray; rw [mj_ra_lo haz], by rw [hU]; exact hR, mj_K_moved hW hK⟩⟩
    rfl (by rw [List.length_map]; exact hlen) hL.1 (by show List.map _ _ = _; rw [List.map_append, List.map_reverse, List.map_cons]; show _ ++ (Value.ref (mj_ra w a) :: _) = _; rw [mj_ra_lo haz]) (by rw [mj_cats]; show 2 * 0 + _ ≤ 8; omega) hd ⟨by omega, by omega⟩
  exact mj_after hn C hL hS h1 h2 hle hrun
end QC
/-- what a body's walk is over, but for world, launch and end size -/
abbrev mj_Y : Type := Program × Env × Room × State × MethodId × Array Value × List Frame × Method × Code × Heap × Nat × (State → Prop)
def mj_mk (w : mj_Wd) (l : Launch) (zf : Nat) (Y : mj_Y) : mj_X := (w, Y.1, l, Y.2.1, Y.2.2.1, Y.2.2.2.1, Y.2.2.2.2.1, Y.2.2.2.2.2.1, Y.2.2.2.2.2.2.1, Y.2.2.2.2.2.2.2.1, Y.2.2.2.2.2.2.2.2.1, Y.2.2.2.2.2.2.2.2.2.1, Y.2.2.2.2.2.2.2.2.2.2.1, zf, Y.2.2.2.2.2.2.2.2.2.2.2)
def mj_L0 (n : Nat) (As : List Value) : List (Option Value) := (As.flatMap fun v => if v.category = 2 then [some v, none] else [some v]) ++ List.replicate (n - (As.flatMap fun v => if v.category = 2 then [some v, none] else [some v]).length) none
theorem mj_l0_at {w : mj_Wd} {As : List Value} : ∀ (i : Nat) (v : Value), (As.flatMap fun v => if v.category = 2 then [some v, none] else [some v])[i]? = some (some v) → (lg_sl (As.map (mj_tv w)))[i]? = some (.val (mj_tv w v)) := by
  induction As with
  | nil => intro i v h; simp at h
  | cons a l ih =>
    intro i v h
    have e : lg_sl ((a :: l).map (mj_tv w)) = (if (mj_tv w a).category = 2 then [Slot.val (mj_tv w a), .second] else [.val (mj_tv w a)]) ++ lg_sl (l.map (mj_tv w)) := rfl
    rw [e, mj_tv_cat]
    rw [List.flatMap_cons] at h
    by_cases hc : a.category = 2
    · rw [if_pos hc] at h ⊢
      match i, h with
      | 0, h => cases h; rfl
      | 1, h => cases h
      | i + 2, h => exact ih i v h
    · rw [if_neg hc] at h ⊢
      match i, h with
      | 0, h => cases h; rfl
      | i + 1, h => exact ih i v h
theorem mj_l0_len {w : mj_Wd} (As : List Value) : (lg_sl (As.map (mj_tv w))).length = (As.flatMap fun v => if v.category = 2 then [some v, none] else [some v]).length := by
  induction As with
  | nil => rfl
  | cons a l ih =>
    have e : lg_sl ((a :: l).map (mj_tv w)) = (if (mj_tv w a).category = 2 then [Slot.val (mj_tv w a), .second] else [.val (mj_tv w a)]) ++ lg_sl (l.map (mj_tv w)) := rfl
    rw [e, mj_tv_cat, List.flatMap_cons, List.length_append, List.length_append, ih]
    by_cases hc : a.category = 2
    · rw [if_pos hc, if_pos hc]; rfl
    · rw [if_neg hc, if_neg hc]; rfl
theorem mj_lv0 {w : mj_Wd} {As : List Value} {n : Nat} (hn : (As.flatMap fun v => if v.category = 2 then [some v, none] else [some v]).length ≤ n) : mj_lv w ((lg_sl (As.map (mj_tv w)) ++ List.replicate (n - (lg_sl (As.map (mj_tv w))).length) Slot.unset).toArray) n (mj_L0 n As) := by
  have h := lv_entry (As.map (mj_tv w)) (n := n) (by rw [mj_l0_len]; exact hn)
  refine ⟨h.1, h.2.1, fun i v hi => ?_⟩
  unfold mj_L0 at hi
  by_cases hl : i < (As.flatMap fun v => if v.category = 2 then [some v, none] else [some v]).length
  · rw [List.getElem?_append_left hl] at hi
    rw [List.getElem?_toArray, List.getElem?_append_left (by rw [mj_l0_len]; exact hl)]
    exact mj_l0_at i v hi
  · rw [List.getElem?_append_right (by omega)] at hi
    have := List.mem_of_getElem? hi
    rw [List.mem_replicate] at this
    cases this.2
/-- a method's run out of the walk of its body -/
theorem rn_intro {w : mj_Wd} {l : Launch} {y : MethodName} {d : mj_D} {As : List Value} {h h' : mj_H} {v : Option Value} {L : List (Option Value)} (hy : plainName y.cls = true ∧ y.cls = d.2.1 ∧ (d.2.2.2.2.2 = true → y.name = "<init>")) (hz : h.1 ≤ h'.1) (hn : (As.flatMap fun v => if v.category = 2 then [some v, none] else [some v]).length ≤ d.2.2.1) (hL : mj_L0 d.2.2.1 As = L)
    (body : ∀ Y : mj_Y, Wq d (mj_mk w l h'.1 Y) (fun v2 h2 => v2 = v ∧ h2 = h') 0 L [] h) : Rn w l y d As h v h' := by
  subst hL
  refine ⟨hz, Met.ofW (cc := d.1) (maxL := d.2.2.1) (ret := d.2.2.2.1) hy.1 rfl ?_⟩
  intro p e s m args below meth c s₁ B hml hv
  obtain ⟨rfl, hR, hK⟩ := hv
  have hts0 := atoms_spec (ws := mj_ws y d) B.pre
  have hts : ∀ wd ∈ mj_T, wd.before (As.map (mj_tv w)).toArray s = true := fun wd h => hts0 wd (List.mem_cons_of_mem _ h)
  have hown : s.vm.findClass d.2.1 = some m.cls := hy.2.1 ▸ findClass_of_methodNamed B.named
  have hnm : meth.name = y.name := (name_of_methodNamed B.named B.method).1
  have hlk := B.notSynchronized
  have hsl := mj_sl_mono hz
  rw [lg_entry_eq]
  have hb := body (p, e, (headSpec (mj_ws y d) (mj_rm d h h')).room, s, m, (As.map (mj_tv w)).toArray, below, meth, c, s.heap, h.1, MQ below (mj_Qc w v h') (As.map (mj_tv w)).toArray s (h'.1 - h.1) (mj_sl h'.1 - mj_sl h.1) (mj_A w))
  refine hb ⟨B.exec, B.bytes, hml, hown, hts, hK, hR.1, ⟨Nat.le_refl _, Nat.le_refl _, ?_, ?_⟩, fun h9 => by rw [hnm]; exact hy.2.2 h9, ?_⟩ s.heap [] _ 0 0 hR (mj_lv0 hn) va_S.rf (Nat.zero_add _) (Nat.zero_add _)
  · show h'.1 ≤ (h'.1 - h.1) + h.1; omega
  · show mj_sl h'.1 ≤ (mj_sl h'.1 - mj_sl h.1) + mj_sl h.1; omega
  · intro v2 h2 H locs cells slots pc ls hQ hR2 hS2 hc1 hc2 hrd
    obtain ⟨rfl, rfl⟩ := hQ
    have hc1 : cells + h.1 = h2.1 := hc1
    have hc2 : slots + mj_sl h.1 = mj_sl h2.1 := hc2
    have ec : h2.1 - h.1 = cells := by omega
    have es : mj_sl h2.1 - mj_sl h.1 = slots := by omega
    show W _ _ _ _ _ _ _ _ _ _ _ _ _ _ (MQ below (mj_Qc w v2 h2) (As.map (mj_tv w)).toArray s (h2.1 - h.1) (mj_sl h2.1 - mj_sl h.1) (mj_A w)) _
    rw [ec, es]
    have hq : ∀ t : State, t.heap = H → s.WarmedH t.vm → mj_Qc w v2 h2 (As.map (mj_tv w)).toArray s (.returned (v2.map (mj_tv w))) t := fun t ht hW => ⟨⟨rfl, by rw [ht]; exact hR2⟩, hS2.F ht⟩
    match v2, hrd, hq with
    | none, hrd, hq => exact W.vret B.exec B.bytes (B.returns.trans hrd.2) hq hS2.2.2 hrd.1 hlk
    | some (.int x), ⟨r1, ty, r2, r3⟩, hq => exact W.zret B.exec B.bytes (B.returns.trans r2) r3 hq hS2.2.2 r1 hlk
    | some (.long x), hrd, hq => exact W.lret B.exec B.bytes (B.returns.trans hrd.2) hq hS2.2.2 hrd.1 hlk
    | some (.ref x), ⟨r1, C9, r2⟩, hq => exact W.aret B.exec B.bytes (B.returns.trans r2) (Or.inl ⟨C9, rfl⟩) (Or.inr ⟨_, rfl⟩) hq hS2.2.2 r1 hlk
section QT
variable {d : mj_D} {X : mj_X} {Q : Option Value → mj_H → Prop} {pc pc' : Nat} {L : List (Option Value)} {st : List Value} {h : mj_H}
theorem q_ret {v : Option Value} (hq : Q v h) (hr : mj_rd d v pc) : Wq d X Q pc L v.toList h := by
  obtain ⟨w, p, l, e, Rm, s, m, args, below, meth, c, H0, z0, zf, Z⟩ := X
  intro C H locs ls cells slots hR hL hS h1 h2
  have e9 : v.toList.map (mj_tv w) = (v.map (mj_tv w)).toList := by cases v <;> rfl
  rw [e9]
  exact C.2.2.2.2.2.2.2.2.2 v h H locs cells slots pc ls hq hR hS h1 h2 hr
theorem q_vret (hd : decode d.1 pc = .ok (.return_, 1)) (hr : d.2.2.2.1 = none) (hq : Q none h) : Wq d X Q pc L [] h := q_ret (v := none) hq ⟨hd, hr⟩
theorem q_iret {x : Int32} (hd : decode d.1 pc = .ok (.ireturn, 1)) (hr : d.2.2.2.1 = some .int) (hq : Q (some (.int x)) h) : Wq d X Q pc L [.int x] h := q_ret (v := some (.int x)) hq ⟨hd, .int, hr, rfl⟩
theorem q_zret {x : Int32} (hd : decode d.1 pc = .ok (.ireturn, 1)) (hr : d.2.2.2.1 = some .boolean) (hx : x = 0 ∨ x = 1) (hq : Q (some (.int x)) h) : Wq d X Q pc L [.int x] h := q_ret (v := some (.int x)) hq ⟨hd, .boolean, hr, by rcases hx with rfl | rfl <;> rfl⟩
theorem q_lret {x : Int64} (hd : decode d.1 pc = .ok (.lreturn, 1)) (hr : d.2.2.2.1 = some .long) (hq : Q (some (.long x)) h) : Wq d X Q pc L [.long x] h := q_ret (v := some (.long x)) hq ⟨hd, hr⟩
theorem q_aret {x : Nat} {C : String} (hd : decode d.1 pc = .ok (.areturn, 1)) (hr : d.2.2.2.1 = some (.object C)) (hq : Q (some (.ref x)) h) : Wq d X Q pc L [.ref x] h := q_ret (v := some (.ref x)) hq ⟨hd, C, hr⟩
end QT
