/-! ===== text: the JDK's own methods of String, at a constant ===== -/
/-- a method that changes no cell -/
def Rj (Sx : State → Heap → Prop) (l : Launch) (y : MethodName) (d : mj_D) (As : List Value) (v : Option Value) : Prop :=
  Met l y (mj_ws y d) (mj_rm0 d) (fun a U => a = As.toArray ∧ Sx U U.heap) (fun _ st o t => o = .returned v ∧ t.heap = st.heap) 0 0 (fun _ => False)
def jyV (y : MethodName) (d : mj_D) (n : Nat) : Prop := Cond.code y d.1 d.2.2.1 d.2.2.2.1 ∈ mj_T ∧ Cond.initialized y.cls ∈ mj_T ∧ d.2.2.1 ≤ 19 ∧ mj_dsc y n ∧ Cond.instanceMethod y ∈ mj_T ∧ Cond.selects y.cls y y ∈ mj_T
/-- what is known stays known when the machine warms, no cell being changed -/
def SxK (Sx : State → Heap → Prop) : Prop := (∀ (s U : State) (H : Heap), s.WarmedH U.vm → Sx s H → Sx U H) ∧ ∀ (s U : State) (H : Heap), U.vm = s.vm → Sx s H → Sx U H
section JT
variable {Sx : State → Heap → Prop} {p : Program} {l : Launch} {e : Env} {Rm : Room} {s : State} {m : MethodId} {args : Array Value} {below : List Frame} {meth : Method} {c : Code} {H : Heap} {locs : List Loc} {cells slots : Nat} {Z : State → Prop} {pc : Nat} {ls : Array Slot} {rest st9 : List Value} {d d' : mj_D} {y : MethodName} {v : Option Value} {As : List Value} {n idx a : Nat}
theorem jr_after {Qc : State → Outcome → State → Prop} (hQ : ∀ st o t, Qc st o t → o = .returned v ∧ t.heap = st.heap) (hr : va_Run p l e Rm s m args below meth c H locs cells slots 0 0 (F0 m pc ls st9) rest Qc (fun _ => False)) (kk : W p l e Rm s m args below meth c H locs cells slots Z (F0 m (pc + 3) ls (v.toList ++ rest))) : W p l e Rm s m args below meth c H locs cells slots Z (F0 m pc ls st9) := by
  intro T hT Xs
  obtain ⟨v9, st₀, t, T', L9, e0, X', hL9, e1, e2, hq, go⟩ := hr T hT Xs
  obtain ⟨ho, hheap⟩ := hQ _ _ _ hq
  have hv : v9 = v := Outcome.returned.inj ho
  subst hv
  have hL : L9 = [] := by
    cases L9 with
    | nil => rfl
    | cons a l => exact (hL9 a List.mem_cons_self).elim
  subst hL
  rw [List.append_nil] at X'
  have hH : T'.heap = H := by rw [e1, hheap, e0]
  obtain ⟨t2, a1, b1⟩ := kk T' hH X'
  exact ⟨t2, go t2 a1, b1⟩
theorem jq_virt (hx : p.tables.exec = Jvm.exec) (hb : c.code = d.1) (hml : c.maxLocals = d.2.2.1) (hown : s.vm.findClass d.2.1 = some m.cls) (hts : ∀ wd ∈ mj_T, wd.before args s = true) (hrm : d.2.2.2.2.1 ≤ Rm.frames ∧ 38 * d.2.2.2.2.1 ≤ Rm.locals ∧ cells ≤ Rm.cells ∧ slots ≤ Rm.slots) (hls : ls.size = d.2.2.1) (hd : decode d.1 pc = .ok (.invokevirtual idx, 3)) (hm : Cond.methodLink d.2.1 idx y ∈ mj_T) (hy : jyV y d' n) (hlv : d'.2.2.2.2.1 < d.2.2.2.2.1) (hr : Rj Sx l y d' (.ref a :: As) v) (hSx : SxK Sx) (hsx : Sx s H) (hrc : ∃ cell : Cell, H[a]? = some cell ∧ cell.vm.isStatics = false ∧ s.vm.findClass y.cls = some cell.cls) (hst : st9 = As.reverse ++ .ref a :: rest) (hlen : As.length = n) (hw : (rest.map fun v => v.category).sum ≤ 8) (kk : W p l e Rm s m args below meth c H locs cells slots Z (F0 m (pc + 3) ls (v.toList ++ rest))) : W p l e Rm s m args below meth c H locs cells slots Z (F0 m pc ls st9) := by
  subst hst
  obtain ⟨r1, r2, r3, r4⟩ := hrm
  obtain ⟨y1, y2, y3, ⟨y4, y5⟩, y6, y7⟩ := hy
  have hM : Met l y (mj_ws y d') (mj_rm0 d') (fun a9 U => a9 = (Value.ref a :: As).toArray ∧ Sx U U.heap) (fun _ st o t => o = .returned v ∧ t.heap = st.heap) 0 0 (fun _ => False) := hr
  have cw : CallW Rm s args d.2.1 y.cls idx y d'.1 d'.2.2.1 d'.2.2.2.1 (mj_ws y d') (mj_rm0 d') 0 0 n :=
    ⟨callB_of n hts (mj_gi y1) rfl rfl rfl (hts _ y2) (hts _ hm) ⟨y4.1, y4.2, y5⟩ ⟨by show d'.2.2.2.2.1 + 1 ≤ _; omega, by show 8 + (d'.2.2.1 + 11) + 38 * d'.2.2.2.2.1 ≤ _; omega⟩, hts _ y6, hts _ y7⟩
  have hrun := va_runV (H := H) (locs := locs) (cells := cells) (slots := slots) (p := p) (e := e) (below := below) (meth := meth) (c := c) (m := m) (cc := d.1) (nL := d.2.2.1) (Ts := mj_T) (b := a) (As := As) (rest := rest) (g := F0 m pc ls (As.reverse ++ .ref a :: rest)) ⟨hx, hb, hml, hown, hts⟩ hM cw
    ⟨fun _ U _ _ h9 => ⟨h9.1, hSx.2 U _ _ rfl h9.2⟩, hrc, fun U hU hW => ⟨rfl, by rw [hU]; exact hSx.1 s U H hW hsx⟩⟩
    rfl hlen hls rfl (by show 2 * 0 + _ ≤ 8; omega) hd ⟨by omega, by omega⟩
  exact jr_after (fun _ _ _ h => h) hrun kk
theorem jq_stat (hx : p.tables.exec = Jvm.exec) (hb : c.code = d.1) (hml : c.maxLocals = d.2.2.1) (hown : s.vm.findClass d.2.1 = some m.cls) (hts : ∀ wd ∈ mj_T, wd.before args s = true) (hrm : d.2.2.2.2.1 ≤ Rm.frames ∧ 38 * d.2.2.2.2.1 ≤ Rm.locals ∧ cells ≤ Rm.cells ∧ slots ≤ Rm.slots) (hls : ls.size = d.2.2.1) (hd : decode d.1 pc = .ok (.invokestatic idx, 3)) (hm : Cond.methodLink d.2.1 idx y ∈ mj_T) (hy : mj_yS y d' n) (hlv : d'.2.2.2.2.1 < d.2.2.2.2.1) (hr : Rj Sx l y d' As v) (hSx : SxK Sx) (hsx : Sx s H) (hst : st9 = As.reverse ++ rest) (hlen : As.length = n) (hw : (rest.map fun v => v.category).sum ≤ 8) (kk : W p l e Rm s m args below meth c H locs cells slots Z (F0 m (pc + 3) ls (v.toList ++ rest))) : W p l e Rm s m args below meth c H locs cells slots Z (F0 m pc ls st9) := by
  subst hst
  obtain ⟨r1, r2, r3, r4⟩ := hrm
  obtain ⟨y1, y2, y3, ⟨y4, y5⟩, y6⟩ := hy
  have hM : Met l y (mj_ws y d') (mj_rm0 d') (fun a9 U => a9 = As.toArray ∧ Sx U U.heap) (fun _ st o t => o = .returned v ∧ t.heap = st.heap) 0 0 (fun _ => False) := hr
  have cw : CallB Rm s args d.2.1 idx y d'.1 d'.2.2.1 d'.2.2.2.1 (mj_ws y d') (mj_rm0 d') 0 0 n ∧ (Cond.static y).before args s = true :=
    ⟨callB_of n hts (mj_gi y1) rfl rfl rfl (hts _ y2) (hts _ hm) ⟨y4.1, y4.2, y5⟩ ⟨by show d'.2.2.2.2.1 + 1 ≤ _; omega, by show 8 + (d'.2.2.1 + 11) + 38 * d'.2.2.2.2.1 ≤ _; omega⟩, hts _ y6⟩
  have hrun := va_runS (H := H) (locs := locs) (cells := cells) (slots := slots) (p := p) (e := e) (below := below) (meth := meth) (c := c) (m := m) (cc := d.1) (nL := d.2.2.1) (Ts := mj_T) (As := As) (rest := rest) (g := F0 m pc ls (As.reverse ++ rest)) ⟨hx, hb, hml, hown, hts⟩ hM cw
    ⟨fun _ U _ _ h9 => ⟨h9.1, hSx.2 U _ _ rfl h9.2⟩, fun U hU hW => ⟨rfl, by rw [hU]; exact hSx.1 s U H hW hsx⟩⟩
    rfl hlen hls rfl (by show 2 * 0 + _ ≤ 8; omega) hd ⟨by omega, by omega⟩
  exact jr_after (fun _ _ _ h => h) hrun kk
/-- a method's contract out of the walk of its body: nothing changes -/
theorem rj_intro (hy : plainFor y = true ∧ y.cls = d.2.1) (hn : (lg_sl As).length ≤ d.2.2.1)
    (body : ∀ (p : Program) (e : Env) (Rm : Room) (s : State) (m : MethodId) (args : Array Value) (below : List Frame) (meth : Method) (c : Code) (Z : State → Prop) (ls : Array Slot), p.tables.exec = Jvm.exec → c.code = d.1 → c.maxLocals = d.2.2.1 → s.vm.findClass d.2.1 = some m.cls → (∀ wd ∈ mj_T, wd.before args s = true) → (d.2.2.2.2.1 ≤ Rm.frames ∧ 38 * d.2.2.2.2.1 ≤ Rm.locals ∧ 0 ≤ Rm.cells ∧ 0 ≤ Rm.slots) → Sx s s.heap → lv_has ls d.2.2.1 (lv_args 0 As) → (∀ (pc : Nat) (ls : Array Slot), mj_rd d v pc → W p l e Rm s m args below meth c s.heap [] 0 0 Z (F0 m pc ls v.toList)) → W p l e Rm s m args below meth c s.heap [] 0 0 Z (F0 m 0 ls [])) : Rj Sx l y d As v := by
  refine mj_ofWF (cc := d.1) (maxL := d.2.2.1) (ret := d.2.2.2.1) hy.1 rfl ?_
  intro p e s m args below meth c s₁ B hml hv
  obtain ⟨rfl, hsx⟩ := hv
  have hts0 := atoms_spec (ws := mj_ws y d) B.pre
  have hts : ∀ wd ∈ mj_T, wd.before As.toArray s = true := fun wd h => hts0 wd (List.mem_cons_of_mem _ h)
  have hown : s.vm.findClass d.2.1 = some m.cls := hy.2 ▸ findClass_of_methodNamed B.named
  have hlk := B.notSynchronized
  have hl := lv_entry As hn
  rw [lg_entry_eq]
  generalize (lg_sl As ++ List.replicate (d.2.2.1 - (lg_sl As).length) Slot.unset).toArray = ls at hl ⊢
  refine body p e (headSpec (mj_ws y d) (mj_rm0 d)).room s m As.toArray below meth c (MQ below (fun _ st o t => o = .returned v ∧ t.heap = st.heap) As.toArray s 0 0 (fun _ => False)) ls B.exec B.bytes hml hown hts ⟨Nat.le_refl _, Nat.le_refl _, Nat.zero_le _, Nat.zero_le _⟩ hsx hl (fun pc ls hrd => ?_)
  have hq : ∀ t : State, t.heap = s.heap → s.WarmedH t.vm → (Outcome.returned v = .returned v ∧ t.heap = s.heap) := fun t ht _ => ⟨rfl, ht⟩
  match v, hrd, hq with
  | none, hrd, hq => exact W.vret B.exec B.bytes (B.returns.trans hrd.2) hq (fun q h => absurd h List.not_mem_nil) hrd.1 hlk
  | some (.int x), ⟨r1, ty, r2, r3⟩, hq => exact W.zret B.exec B.bytes (B.returns.trans r2) r3 hq (fun q h => absurd h List.not_mem_nil) r1 hlk
  | some (.long x), hrd, hq => exact W.lret B.exec B.bytes (B.returns.trans hrd.2) hq (fun q h => absurd h List.not_mem_nil) hrd.1 hlk
  | some (.ref x), ⟨r1, C9, r2⟩, hq => exact W.aret B.exec B.bytes (B.returns.trans r2) (Or.inl ⟨C9, rfl⟩) (Or.inr ⟨_, rfl⟩) hq (fun q h => absurd h List.not_mem_nil) r1 hlk
end JT
/-! ===== the words ===== -/
def kwT : String := "cpus vectors kept off device single group managed on start stop claim raise late move to tick plug unplug "
def kwC : List Nat := [99, 112, 117, 115, 32, 118, 101, 99, 116, 111, 114, 115, 32, 107, 101, 112, 116, 32, 111, 102, 102, 32, 100, 101, 118, 105, 99, 101, 32, 115, 105, 110, 103, 108, 101, 32, 103, 114, 111, 117, 112, 32, 109, 97, 110, 97, 103, 101, 100, 32, 111, 110, 32, 115, 116, 97, 114, 116, 32, 115, 116, 111, 112, 32, 99, 108, 97, 105, 109, 32, 114, 97, 105, 115, 101, 32, 108, 97, 116, 101, 32, 109, 111, 118, 101, 32, 116, 111, 32, 116, 105, 99, 107, 32, 112, 108, 117, 103, 32, 117, 110, 112, 108, 117, 103, 32]
def kwB (j : Nat) : Int32 := nI (kwC.getD j 0)
/-- what is known of the text, of the class String and of what checks an index -/
def sxT (a v : Nat) (f : Value) (A : Nat → Prop) (U : State) (H : Heap) : Prop := vk_R RX9 36 kwT a U ∧ va_O "java/lang/String" a A U H ∧ va_OF "java/lang/String" "coder" "B" (.int 0) a A U H ∧ va_OF "java/lang/String" "value" "[B" (.ref v) a A U H ∧ va_T .byte v 106 (fun j => .int (kwB j)) A U H ∧ va_Z "java/lang/String" "COMPACT_STRINGS" "Z" (.int 1) A U H ∧ va_Z "jdk/internal/util/Preconditions" "SIOOBE_FORMATTER" "Ljava/util/function/BiFunction;" f A U H
theorem T_fl_38 : Cond.fieldLink RJ0 38 "java/lang/String" "COMPACT_STRINGS" "Z" ∈ mj_T := mem_T (i := 263) (by decide +kernel) rfl
theorem T_fl_15 : Cond.fieldLink RJ0 15 "java/lang/String" "coder" "B" ∈ mj_T := mem_T (i := 2093) (by decide +kernel) rfl
theorem T_fl_9 : Cond.fieldLink RJ0 9 "java/lang/String" "value" "[B" ∈ mj_T := mem_T (i := 2092) (by decide +kernel) rfl
theorem T_fl_1053 : Cond.fieldLink RJ0 1053 "jdk/internal/util/Preconditions" "SIOOBE_FORMATTER" "Ljava/util/function/BiFunction;" ∈ mj_T := mem_T (i := 279) (by decide +kernel) rfl
theorem jy_length : jyV yJ0_length_8abf5 dd_J0_length_8abf5 0 := ⟨mem_T (i := 258) (by decide +kernel) rfl, mem_T (i := 142) (by decide +kernel) rfl, Nat.le_of_ble_eq_true rfl, ⟨⟨by decide, by decide⟩, by decide +kernel⟩, mem_T (i := 256) (by decide +kernel) rfl, mem_T (i := 257) (by decide +kernel) rfl⟩
theorem jy_coder : jyV yJ0_coder_7d493 dd_J0_coder_7d493 0 := ⟨mem_T (i := 262) (by decide +kernel) rfl, mem_T (i := 142) (by decide +kernel) rfl, Nat.le_of_ble_eq_true rfl, ⟨⟨by decide, by decide⟩, by decide +kernel⟩, mem_T (i := 260) (by decide +kernel) rfl, mem_T (i := 261) (by decide +kernel) rfl⟩
theorem jy_charAt : jyV yJ0_charAt_5068e dd_J0_charAt_5068e 1 := ⟨mem_T (i := 268) (by decide +kernel) rfl, mem_T (i := 142) (by decide +kernel) rfl, Nat.le_of_ble_eq_true rfl, ⟨⟨by decide, by decide⟩, by decide +kernel⟩, mem_T (i := 266) (by decide +kernel) rfl, mem_T (i := 267) (by decide +kernel) rfl⟩
theorem jy_isLatin1 : jyV yJ0_isLatin1_aae02 dd_J0_isLatin1_aae02 0 := ⟨mem_T (i := 272) (by decide +kernel) rfl, mem_T (i := 142) (by decide +kernel) rfl, Nat.le_of_ble_eq_true rfl, ⟨⟨by decide, by decide⟩, by decide +kernel⟩, mem_T (i := 270) (by decide +kernel) rfl, mem_T (i := 271) (by decide +kernel) rfl⟩
section JT2
variable {l : Launch} {a v k : Nat} {f : Value} {A : Nat → Prop}
theorem sxT_moved {u U : State} {H : Heap} (hvm : u.vm.Alike U.vm) (hr : vk_R RX9 36 kwT a u → vk_R RX9 36 kwT a U) (h : sxT a v f A u H) : sxT a v f A U H := ⟨hr h.1, va_O.moved hvm h.2.1, va_OF.moved hvm h.2.2.1, va_OF.moved hvm h.2.2.2.1, va_T.moved hvm h.2.2.2.2.1, va_Z.moved hvm h.2.2.2.2.2.1, va_Z.moved hvm h.2.2.2.2.2.2⟩
theorem alike_veq {u U : State} (h : U.vm = u.vm) : u.vm.Alike U.vm := by rw [h]; exact Vm.Alike.refl _
theorem sxT_K : SxK (sxT a v f A) := ⟨fun s U H hW h => sxT_moved hW.alike (fun q => q.warm hW) h, fun s U H hv h => sxT_moved (alike_veq hv) (fun q => q.same hv) h⟩
theorem rj_coder : Rj (sxT a v f A) l yJ0_coder_7d493 dd_J0_coder_7d493 [.ref a] (some (.int 0)) := by
  refine rj_intro ⟨by decide, rfl⟩ (Nat.le_of_ble_eq_true rfl) ?_
  intro p e Rm s m args below meth c Z ls hx hb hml hown hts hrm hsx hl ret
  obtain ⟨x1, x2, x3, x4, x5, x6, x7⟩ := hsx
  refine va_gets hx hb x6 va_S.rf hown (hts _ T_fl_38) (fun x h => h) dJ0_coder_7d493_0 ?_
  refine lv_if_eq hx hb (tgt := 13) dJ0_coder_7d493_3 rfl (fun h => absurd h (by decide)) (fun _ => ?_)
  refine lv_aload_n hx hb dJ0_coder_7d493_6 rfl (lv_at hl 0 rfl) ?_
  refine vk_getf hx hb x3 va_S.rf hown (hts _ T_fl_15) (fun x h => h) dJ0_coder_7d493_7 ?_
  refine lv_goto (tgt := 14) hx hb dJ0_coder_7d493_10 rfl ?_
  exact ret 14 ls ⟨dJ0_coder_7d493_14, .byte, rfl, rfl⟩
theorem rj_isLatin1 : Rj (sxT a v f A) l yJ0_isLatin1_aae02 dd_J0_isLatin1_aae02 [.ref a] (some (.int 1)) := by
  refine rj_intro ⟨by decide, rfl⟩ (Nat.le_of_ble_eq_true rfl) ?_
  intro p e Rm s m args below meth c Z ls hx hb hml hown hts hrm hsx hl ret
  obtain ⟨x1, x2, x3, x4, x5, x6, x7⟩ := hsx
  refine va_gets hx hb x6 va_S.rf hown (hts _ T_fl_38) (fun x h => h) dJ0_isLatin1_aae02_0 ?_
  refine lv_if_eq hx hb (tgt := 17) dJ0_isLatin1_aae02_3 rfl (fun h => absurd h (by decide)) (fun _ => ?_)
  refine lv_aload_n hx hb dJ0_isLatin1_aae02_6 rfl (lv_at hl 0 rfl) ?_
  refine vk_getf hx hb x3 va_S.rf hown (hts _ T_fl_15) (fun x h => h) dJ0_isLatin1_aae02_7 ?_
  refine lv_if_ne hx hb (tgt := 17) dJ0_isLatin1_aae02_10 rfl (fun h => absurd rfl h) (fun _ => ?_)
  refine lv_iconst (v := 1) hx hb dJ0_isLatin1_aae02_13 (by decide) ?_
  refine lv_goto (tgt := 18) hx hb dJ0_isLatin1_aae02_14 rfl ?_
  exact ret 18 ls ⟨dJ0_isLatin1_aae02_18, .boolean, rfl, rfl⟩
theorem rj_length : Rj (sxT a v f A) l yJ0_length_8abf5 dd_J0_length_8abf5 [.ref a] (some (.int (nI 106))) := by
  refine rj_intro ⟨by decide, rfl⟩ (Nat.le_of_ble_eq_true rfl) ?_
  intro p e Rm s m args below meth c Z ls hx hb hml hown hts hrm hsx hl ret
  have hsx0 := hsx
  obtain ⟨x1, x2, x3, x4, x5, x6, x7⟩ := hsx
  have hrc : ∃ cell : Cell, s.heap[a]? = some cell ∧ cell.vm.isStatics = false ∧ s.vm.findClass "java/lang/String" = some cell.cls := by
    obtain ⟨cell, h1, h2, h3, -⟩ := x2
    exact ⟨cell, h1, h2, h3⟩
  refine lv_aload_n hx hb dJ0_length_8abf5_0 rfl (lv_at hl 0 rfl) ?_
  refine vk_getf hx hb x4 va_S.rf hown (hts _ T_fl_9) (fun x h => h) dJ0_length_8abf5_1 ?_
  refine va_tlen (v := nI 106) hx hb x5 va_S.rf rfl dJ0_length_8abf5_4 ?_
  refine lv_aload_n hx hb dJ0_length_8abf5_5 rfl (lv_at hl 0 rfl) ?_
  refine jq_virt (d := dd_J0_length_8abf5) (As := []) (rest := [.int (nI 106)]) hx hb hml hown hts hrm hl.1 dJ0_length_8abf5_6 ml_RJ0_335 jy_coder (Nat.le_of_ble_eq_true rfl) rj_coder sxT_K hsx0 hrc rfl rfl (Nat.le_of_ble_eq_true rfl) ?_
  refine lv_ishr hx hb dJ0_length_8abf5_9 ?_
  rw [show nI 106 >>> ((0 : Int32) &&& 31) = nI 106 by decide]
  exact ret 10 ls ⟨dJ0_length_8abf5_10, .int, rfl, rfl⟩
theorem rj_check3 (hf : f.isRef = true) (hk : k < 106) : Rj (sxT a v f A) l yJ3_checkIndex_8e157 dd_J3_checkIndex_8e157 [.int (nI k), .int (nI 106), f] (some (.int (nI k))) := by
  have hf2 : f = .null ∨ ∃ x, f = .ref x := by
    cases f with
    | null => exact Or.inl rfl
    | ref x => exact Or.inr ⟨x, rfl⟩
    | _ => cases hf
  rcases hf2 with rfl | ⟨x, rfl⟩
  · refine rj_intro ⟨by decide, rfl⟩ (Nat.le_of_ble_eq_true rfl) ?_
    intro p e Rm s m args below meth c Z ls hx hb hml hown hts hrm hsx hl ret
    refine lv_iload_n hx hb dJ3_checkIndex_8e157_0 rfl (lv_at hl 0 rfl) ?_
    refine lv_if_lt hx hb (tgt := 9) dJ3_checkIndex_8e157_1 rfl (fun h => absurd h (Int32.not_lt.mpr (nI_le (a := 0) (by omega) (by omega)))) (fun _ => ?_)
    refine lv_iload_n hx hb dJ3_checkIndex_8e157_4 rfl (lv_at hl 0 rfl) ?_
    refine lv_iload_n hx hb dJ3_checkIndex_8e157_5 rfl (lv_at hl 1 rfl) ?_
    refine lv_icmp_lt hx hb (tgt := 16) dJ3_checkIndex_8e157_6 rfl (fun _ => ?_) (fun h => absurd (nI_lt hk (by decide)) h)
    refine lv_iload_n hx hb dJ3_checkIndex_8e157_16 rfl (lv_at hl 0 rfl) ?_
    exact ret 17 ls ⟨dJ3_checkIndex_8e157_17, .int, rfl, rfl⟩
  · refine rj_intro ⟨by decide, rfl⟩ (Nat.le_of_ble_eq_true rfl) ?_
    intro p e Rm s m args below meth c Z ls hx hb hml hown hts hrm hsx hl ret
    refine lv_iload_n hx hb dJ3_checkIndex_8e157_0 rfl (lv_at hl 0 rfl) ?_
    refine lv_if_lt hx hb (tgt := 9) dJ3_checkIndex_8e157_1 rfl (fun h => absurd h (Int32.not_lt.mpr (nI_le (a := 0) (by omega) (by omega)))) (fun _ => ?_)
    refine lv_iload_n hx hb dJ3_checkIndex_8e157_4 rfl (lv_at hl 0 rfl) ?_
    refine lv_iload_n hx hb dJ3_checkIndex_8e157_5 rfl (lv_at hl 1 rfl) ?_
    refine lv_icmp_lt hx hb (tgt := 16) dJ3_checkIndex_8e157_6 rfl (fun _ => ?_) (fun h => absurd (nI_lt hk (by decide)) h)
    refine lv_iload_n hx hb dJ3_checkIndex_8e157_16 rfl (lv_at hl 0 rfl) ?_
    exact ret 17 ls ⟨dJ3_checkIndex_8e157_17, .int, rfl, rfl⟩
theorem rj_check (hf : f.isRef = true) (hk : k < 106) : Rj (sxT a v f A) l yJ0_checkIndex_df160 dd_J0_checkIndex_df160 [.int (nI k), .int (nI 106)] none := by
  refine rj_intro ⟨by decide, rfl⟩ (Nat.le_of_ble_eq_true rfl) ?_
  intro p e Rm s m args below meth c Z ls hx hb hml hown hts hrm hsx hl ret
  have hsx0 := hsx
  obtain ⟨x1, x2, x3, x4, x5, x6, x7⟩ := hsx
  refine lv_iload_n hx hb dJ0_checkIndex_df160_0 rfl (lv_at hl 0 rfl) ?_
  refine lv_iload_n hx hb dJ0_checkIndex_df160_1 rfl (lv_at hl 1 rfl) ?_
  refine va_gets hx hb x7 va_S.rf hown (hts _ T_fl_1053) (fun x h => h) dJ0_checkIndex_df160_2 ?_
  refine jq_stat (d := dd_J0_checkIndex_df160) (As := [.int (nI k), .int (nI 106), f]) (rest := []) hx hb hml hown hts hrm hl.1 dJ0_checkIndex_df160_5 ml_RJ0_1059 ys_J3_checkIndex_8e157 (Nat.le_of_ble_eq_true rfl) (rj_check3 hf hk) sxT_K hsx0 rfl rfl (Nat.le_of_ble_eq_true rfl) ?_
  refine lv_pop hx hb dJ0_checkIndex_df160_8 rfl ?_
  exact ret 9 ls ⟨dJ0_checkIndex_df160_9, rfl⟩
theorem kw_ch : ∀ n, n < 128 → ((nI n &&& nI 255).toUInt32 % 65536).toInt32 = nI n := by decide +kernel
theorem kw_128 : ∀ j, j < 106 → kwC.getD j 0 < 128 := by decide +kernel
theorem kw_nar0 : ∀ n, n < 128 → ((nI n).toUInt32 % 65536).toInt32 = nI n := by decide +kernel
theorem kw_nar : ∀ n, n < 128 → narrow .char (.int (nI n)) = .int (nI n) := fun n hn => congrArg Value.int (kw_nar0 n hn)
theorem rj_latin (hf : f.isRef = true) (hk : k < 106) : Rj (sxT a v f A) l yJ1_charAt_3b067 dd_J1_charAt_3b067 [.ref v, .int (nI k)] (some (.int (kwB k))) := by
  refine rj_intro ⟨by decide, rfl⟩ (Nat.le_of_ble_eq_true rfl) ?_
  intro p e Rm s m args below meth c Z ls hx hb hml hown hts hrm hsx hl ret
  have hsx0 := hsx
  obtain ⟨x1, x2, x3, x4, x5, x6, x7⟩ := hsx
  refine lv_iload_n hx hb dJ1_charAt_3b067_0 rfl (lv_at hl 1 rfl) ?_
  refine lv_aload_n hx hb dJ1_charAt_3b067_1 rfl (lv_at hl 0 rfl) ?_
  refine va_tlen (v := nI 106) hx hb x5 va_S.rf rfl dJ1_charAt_3b067_2 ?_
  refine jq_stat (d := dd_J1_charAt_3b067) (As := [.int (nI k), .int (nI 106)]) (rest := []) hx hb hml hown hts hrm hl.1 dJ1_charAt_3b067_3 ml_RJ1_9 ys_J0_checkIndex_df160 (Nat.le_of_ble_eq_true rfl) (rj_check hf hk) sxT_K hsx0 rfl rfl (Nat.le_of_ble_eq_true rfl) ?_
  refine lv_aload_n hx hb dJ1_charAt_3b067_6 rfl (lv_at hl 0 rfl) ?_
  refine lv_iload_n hx hb dJ1_charAt_3b067_7 rfl (lv_at hl 1 rfl) ?_
  refine va_tb (v := .int (kwB k)) hx hb x5 va_S.rf (nI_in hk (by decide)) (by rw [nI_clamp (by omega)]) dJ1_charAt_3b067_8 ?_
  refine lv_sipush (v := nI 255) hx hb dJ1_charAt_3b067_9 (by decide) ?_
  refine lv_iand hx hb dJ1_charAt_3b067_12 ?_
  refine lv_i2c hx hb dJ1_charAt_3b067_13 (kw_ch _ (kw_128 k hk)) ?_
  exact ret 14 ls ⟨dJ1_charAt_3b067_14, .char, rfl, kw_nar _ (kw_128 k hk)⟩
theorem rj_charAt (hf : f.isRef = true) (hk : k < 106) : Rj (sxT a v f A) l yJ0_charAt_5068e dd_J0_charAt_5068e [.ref a, .int (nI k)] (some (.int (kwB k))) := by
  refine rj_intro ⟨by decide, rfl⟩ (Nat.le_of_ble_eq_true rfl) ?_
  intro p e Rm s m args below meth c Z ls hx hb hml hown hts hrm hsx hl ret
  have hsx0 := hsx
  obtain ⟨x1, x2, x3, x4, x5, x6, x7⟩ := hsx
  have hrc : ∃ cell : Cell, s.heap[a]? = some cell ∧ cell.vm.isStatics = false ∧ s.vm.findClass "java/lang/String" = some cell.cls := by
    obtain ⟨cell, h1, h2, h3, -⟩ := x2
    exact ⟨cell, h1, h2, h3⟩
  refine lv_aload_n hx hb dJ0_charAt_5068e_0 rfl (lv_at hl 0 rfl) ?_
  refine jq_virt (d := dd_J0_charAt_5068e) (As := []) (rest := []) hx hb hml hown hts hrm hl.1 dJ0_charAt_5068e_1 ml_RJ0_492 jy_isLatin1 (Nat.le_of_ble_eq_true rfl) rj_isLatin1 sxT_K hsx0 hrc rfl rfl (Nat.le_of_ble_eq_true rfl) ?_
  refine lv_if_eq hx hb (tgt := 16) dJ0_charAt_5068e_4 rfl (fun h => absurd h (by decide)) (fun _ => ?_)
  refine lv_aload_n hx hb dJ0_charAt_5068e_7 rfl (lv_at hl 0 rfl) ?_
  refine vk_getf hx hb x4 va_S.rf hown (hts _ T_fl_9) (fun x h => h) dJ0_charAt_5068e_8 ?_
  refine lv_iload_n hx hb dJ0_charAt_5068e_11 rfl (lv_at hl 1 rfl) ?_
  refine jq_stat (d := dd_J0_charAt_5068e) (As := [.ref v, .int (nI k)]) (rest := []) hx hb hml hown hts hrm hl.1 dJ0_charAt_5068e_12 ml_RJ0_495 ys_J1_charAt_3b067 (Nat.le_of_ble_eq_true rfl) (rj_latin hf hk) sxT_K hsx0 rfl rfl (Nat.le_of_ble_eq_true rfl) ?_
  exact ret 15 ls ⟨dJ0_charAt_5068e_15, .char, rfl, kw_nar _ (kw_128 k hk)⟩
end JT2
