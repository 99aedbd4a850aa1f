/-! ===== new int[5][8]: one step of the machine, over the rows as they are made ===== -/
/-- the outer row when i of its five are made; a row of eight zeros -/
abbrev mj_mo (cA : ClassId) (h0 i : Nat) : Cell := arrV cA 5 (fun j => if j < i then .ref (h0 + 1 + j) else .null)
abbrev mj_mz (comp : ClassId) : Cell := arrV comp 8 (fun _ => .int 0)
/-- the machine with i of the five made -/
def mj_mf (U : State) (cA comp : ClassId) : Nat → State
  | 0 => U.pushCell (mj_mo cA U.heap.size 0)
  | i + 1 => ((mj_mf U cA comp i).pushCell (mj_mz comp)).setCell U.heap.size ((mj_mo cA U.heap.size i).setSlot i (.ref (U.heap.size + 1 + i)))
theorem mj_mo_set {cA : ClassId} {h0 i : Nat} : (mj_mo cA h0 i).setSlot i (.ref (h0 + 1 + i)) = mj_mo cA h0 (i + 1) := by
  rw [arrV_store]
  refine congrArg (arrV cA 5) (funext fun j => ?_)
  unfold updV
  by_cases e : j = i
  · subst e
    rw [if_pos rfl, if_pos (Nat.lt_succ_self j)]
  · rw [if_neg e]
    by_cases h : j < i
    · show (if j < i then Value.ref (h0 + 1 + j) else .null) = _
      rw [if_pos h, if_pos (by omega)]
    · show (if j < i then Value.ref (h0 + 1 + j) else .null) = _
      rw [if_neg h, if_neg (by omega)]
section MULTI
variable {p : Program} {l : Launch} {e : Env} {Rm : Room} {s : State} {m : MethodId} {args : Array Value} {below : List Frame} {meth : Method} {c : Code} {T U : State} {locs : List Loc} {cells slots : Nat} {cA comp : ClassId}
/-- what stands then: tables, size, the outer row, what was there before, the inner rows -/
def mj_mi (U : State) (cA comp : ClassId) (i : Nat) (F : State) : Prop := F.vm = U.vm ∧ F.heap.size = U.heap.size + 1 + i ∧ F.heap[U.heap.size]? = some (mj_mo cA U.heap.size i) ∧ (∀ x, x < U.heap.size → F.heap[x]? = U.heap[x]?) ∧ ∀ j, j < i → F.heap[U.heap.size + 1 + j]? = some (mj_mz comp)
theorem mj_mi_all (U : State) (cA comp : ClassId) : ∀ i, mj_mi U cA comp i (mj_mf U cA comp i) := by
  intro i
  induction i with
  | zero => exact ⟨rfl, by show (U.pushCell _).heap.size = _; rw [State.heap_size_pushCell], State.heap_pushCell_size _ _, fun x hx => State.heap_pushCell_of_lt _ _ hx, fun j hj => absurd hj (Nat.not_lt_zero j)⟩
  | succ i ih =>
    obtain ⟨a1, a2, a3, a4, a5⟩ := ih
    have b1 : ((mj_mf U cA comp i).pushCell (mj_mz comp)).heap.size = U.heap.size + 1 + (i + 1) := by rw [State.heap_size_pushCell, a2]; omega
    have b2 : ∀ x, x < U.heap.size + 1 + i → ((mj_mf U cA comp i).pushCell (mj_mz comp)).heap[x]? = (mj_mf U cA comp i).heap[x]? := fun x hx => State.heap_pushCell_of_lt _ _ (by rw [a2]; exact hx)
    refine ⟨a1, ?_, ?_, fun x hx => ?_, fun j hj => ?_⟩
    · show (Array.setIfInBounds _ _ _).size = _
      rw [Array.size_setIfInBounds]; exact b1
    · show (State.setCell _ _ _).heap[_]? = _
      rw [State.heap_setCell_self (c := mj_mo cA U.heap.size i) (by rw [b2 _ (by omega)]; exact a3), mj_mo_set]
    · show (State.setCell _ _ _).heap[_]? = _
      rw [State.heap_setCell_other (show U.heap.size ≠ x by omega), b2 x (by omega)]; exact a4 x hx
    · show (State.setCell _ _ _).heap[_]? = _
      rw [State.heap_setCell_other (show U.heap.size ≠ U.heap.size + 1 + j by omega)]
      by_cases q : j = i
      · subst q
        rw [← a2]; exact State.heap_pushCell_size _ _
      · rw [b2 _ (by omega)]; exact a5 j (by omega)
theorem mj_mf_stand (X : Stand p l e Rm s m args below meth c U locs cells slots) (cA comp : ClassId) : ∀ i, Stand p l e Rm s m args below meth c (mj_mf U cA comp i) locs (cells + 1 + i) (slots + 5 + i * 8) := by
  intro i
  induction i with
  | zero =>
    have h := X.pushed (mj_mo cA U.heap.size 0)
    rw [arrV_size] at h
    rw [Nat.zero_mul]; exact h
  | succ i ih =>
    obtain ⟨-, a2, a3, -, -⟩ := mj_mi_all U cA comp i
    have h1 := ih.pushed (mj_mz comp)
    rw [arrV_size] at h1
    have h2 := h1.stored (a := U.heap.size) (cell := mj_mo cA U.heap.size i) (by rw [State.heap_pushCell_of_lt _ _ (show U.heap.size < (mj_mf U cA comp i).heap.size by rw [a2]; omega)]; exact a3) i (.ref (U.heap.size + 1 + i))
    have h3 := h2.dropFresh (fun x hx => by rw [List.mem_singleton.mp hx]; exact X.heapGrown)
    have e1 : slots + 5 + (i + 1) * 8 = slots + 5 + i * 8 + 8 := by omega
    rw [e1]; exact h3
theorem mj_mf_top (g : JFrame) : ∀ i, mj_mf (U.setTop g) cA comp i = (mj_mf U cA comp i).setTop g := by
  intro i
  induction i with
  | zero => rfl
  | succ i ih =>
    show ((mj_mf (U.setTop g) cA comp i).pushCell _).setCell _ _ = _
    rw [ih]; rfl
/-- one inner row -/
theorem mj_wp_row {E : CtlPost} {d : Bool} {acts : List Action} {Q : Addr → Pre} {kC : Class} {cc : ClassId} (hk : U.vm.classes[comp]? = some kC) (hkd : kC.kind = .array cc .int) (hl : ¬ 8 > e.platform.arrayLengthLimit) (hh : ¬ 8 * 4 > e.platform.maxHeapBytes) (h1 : U.heap.size < e.platform.maxCells) (h2 : U.slotsUsed + 8 ≤ e.platform.maxSlots) (hq : ∀ acts', Q U.heap.size d acts' (U.pushCell (mj_mz comp))) : wp (multianewarray.make comp [8]) Q E e d acts U := by
  rw [multianewarray.make]
  simp only [wp_bind', W.ite, show ¬ ((8 : Int32) < 0) by decide, if_false, wp_pure', W.theClass, hk, hkd, Option.some.injEq, exists_eq_left']
  refine W.newArray_of hk hkd hl hh h1 h2 rfl (fun acts' => ?_)
  have h := hq acts'
  rw [show mj_mz comp = _ from (arrV_new comp 8 (.int 0)).symm] at h
  exact h
theorem mj_wp_make {E : CtlPost} {d : Bool} {acts : List Action} {Q : Addr → Pre} {kA kC : Class} {cc : ClassId} (hkA : U.vm.classes[cA]? = some kA) (hkdA : kA.kind = .array comp (.array .int)) (hkC : U.vm.classes[comp]? = some kC) (hkdC : kC.kind = .array cc .int) (hl : ¬ 8 > e.platform.arrayLengthLimit) (hh : ¬ 8 * 4 > e.platform.maxHeapBytes) (hroom : ∀ i, i < 6 → (mj_mf U cA comp i).slotsUsed = U.slotsUsed + 5 + i * 8) (h1 : U.heap.size + 6 ≤ e.platform.maxCells) (h2 : U.slotsUsed + 45 ≤ e.platform.maxSlots) (hq : ∀ d' acts', Q U.heap.size d' acts' (mj_mf U cA comp 5)) : wp (multianewarray.make cA [5, 8]) Q E e d acts U := by
  have hfind : ([8] : List Int32).find? (· < 0) = none := by decide
  rw [multianewarray.make]
  simp only [wp_bind', W.ite, show ¬ ((5 : Int32) < 0) by decide, if_false, wp_pure', W.theClass, hkA, hkdA, Option.some.injEq, exists_eq_left']
  refine W.newArray_of hkA hkdA (by show ¬ 5 > _; omega) (by show ¬ 5 * 4 > _; omega) (by omega) (by show _ + 5 ≤ _; omega) rfl (fun acts' => ?_)
  simp only [hfind]
  rw [ite_self, wp_bind', Std.Legacy.Range.forIn_eq_forIn_range']
  show wp (forIn (List.range' 0 5 1) PUnit.unit _) _ E e d acts' _
  refine wp_forIn_inv (fun rest s' => ∃ i, i ≤ 5 ∧ rest = List.range' i (5 - i) ∧ s' = mj_mf U cA comp i) _ _ ⟨0, by omega, rfl, ?_⟩ ?_ ?_
  · show _ = U.pushCell _
    exact congrArg U.pushCell ((arrV_new cA 5 .null).trans (congrArg (arrV cA 5) (funext fun j => (if_neg (Nat.not_lt_zero j)).symm)))
  · rintro x rest s' d' acts2 Q' ⟨i, hi, hl9, rfl⟩ hnext
    have hi5 : i < 5 := by
      by_cases h : i < 5
      · exact h
      · rw [show 5 - i = 0 by omega] at hl9; cases hl9
    rw [show 5 - i = (5 - (i + 1)) + 1 by omega, List.range'_succ] at hl9
    obtain ⟨rfl, hr⟩ := List.cons.inj hl9
    obtain ⟨a1, a2, a3, -, -⟩ := mj_mi_all U cA comp x
    have a4 := hroom x (by omega)
    have hlt : U.heap.size < (mj_mf U cA comp x).heap.size := by rw [a2]; omega
    simp only [wp_bind']
    refine mj_wp_row (by rw [a1]; exact hkC) hkdC hl hh (by rw [a2]; omega) (by rw [a4]; omega) (fun acts3 => ?_)
    simp only [wp_bind', W.writeLoc, wp_pure']
    refine ⟨mj_mo cA U.heap.size x, by rw [State.heap_pushCell_of_lt _ _ hlt]; exact a3, (fun h => by cases h), by rw [arrV_size]; exact hi5, ?_, hnext _ _ _ ⟨x + 1, by omega, hr, ?_⟩⟩
    · simp [State.fitsSlot, State.slotType?, arrV, a1, hkA, hkdA, fits]
    · rw [a2]; rfl
  · rintro s' d' acts2 ⟨i, hi, hl9, rfl⟩
    have hi5 : i = 5 := by
      by_cases h : i < 5
      · rw [show 5 - i = (5 - (i + 1)) + 1 by omega, List.range'_succ] at hl9; cases hl9
      · omega
    subst hi5
    simp only [wp_pure']
    exact hq _ _
theorem mj_mf_used : ∀ i, (mj_mf U cA comp i).slotsUsed = U.slotsUsed + 5 + i * 8 := by
  intro i
  induction i with
  | zero =>
    show U.slotsUsed + (mj_mo cA U.heap.size 0).slots.size = _
    rw [arrV_size]
  | succ i ih =>
    show (mj_mf U cA comp i).slotsUsed + (mj_mz comp).slots.size = _
    rw [arrV_size, ih]; omega
theorem mj_multi (X : Stand p l e Rm s m args below meth c T locs cells slots) (hexec : p.tables.exec = Jvm.exec) {own : String} {index : Nat} (hown : s.vm.findClass own = some m.cls) (hclink : (Cond.classLink own index ("[" ++ (FieldType.array .int).toString)).before args s = true) (hover : mj_AOA s) (harr : (Cond.arrayClass .int).before args s = true) {g : JFrame} (hg : g.method = m) (hdg : decode c.code g.pc = .ok (.multianewarray index 2, 4)) {rest : List Value} (hstack : g.stack = .int 8 :: .int 5 :: rest) (hcells : cells + 6 ≤ Rm.cells) (hslots : slots + 45 ≤ Rm.slots) : ∃ (vm₁ : Vm) (cA comp : ClassId), s.vm.findClass ("[" ++ (FieldType.array .int).toString) = some cA ∧ s.vm.findClass (FieldType.array .int).toString = some comp ∧ Stand p l e Rm s m args below meth c (mj_mf (T.setVm vm₁) cA comp 5) locs (cells + 6) (slots + 45) ∧ ∀ target, Steps p.tables e below ((mj_mf (T.setVm vm₁) cA comp 5).setTop { g with pc := g.pc + 4, stack := .ref T.heap.size :: rest }) target → Steps p.tables e below (T.setTop g) target := by
  subst hg
  have hpl : e.platform.magicAccessors = ({} : Platform).magicAccessors := by rw [X.admits.platform]
  obtain ⟨comp, cA, kA, hcomp, hkA, hkdA, hnA⟩ := mj_AOA_spec hover
  obtain ⟨comp9, kC, cc, hcomp9, hkC, hkdC⟩ := Cond.arrayClass_spec harr
  have ec : comp9 = comp := Option.some.inj (hcomp9.symm.trans hcomp)
  subst ec
  obtain ⟨c0, hc0, hcl⟩ := Cond.classLink_spec hown hclink e.platform hpl
  have ec0 : c0 = cA := Option.some.inj (hc0.symm.trans hnA)
  subst ec0
  obtain ⟨hg1, hw1, hr1⟩ := State.classEntry (e := e) X.warmed hcl
  generalize T.vm.noted g.method.cls index (.cls c0) = vm₁ at hg1 hw1 hr1
  obtain ⟨kA1, hkA1, heA⟩ := hw1.alike.2.2 _ _ hkA
  obtain ⟨kC1, hkC1, heC⟩ := hw1.alike.2.2 _ _ hkC
  have hkdA1 : kA1.kind = .array comp9 (.array .int) := by rw [heA]; exact hkdA
  have hkdC1 : kC1.kind = .array cc .int := by rw [heC]; exact hkdC
  have X1 := X.noted hw1
  have XF := mj_mf_stand X1 c0 comp9 5
  obtain ⟨q1, q2⟩ := X.roomAbove hcells hslots
  refine ⟨vm₁, c0, comp9, hnA, hcomp, XF, fun target hrest => ?_⟩
  jvm_step X.here [hexec, hdg]
  simp only [multianewarray.sem, wp_bind', W.resolveClassAt_links (State.method?_setTop g X.here.top) hg1]
  rw [W.popN, if_neg (by decide)]
  refine ⟨g, State.topJava?_setTop' (s := T.setVm vm₁) g X.here.top, [.int 5, .int 8], rest, rfl, hstack, ?_⟩
  simp only [List.mapM_cons, List.mapM_nil, wp_bind', wp_pure']
  have eS : ((T.setTop g).setVm vm₁).setTop { g with stack := rest } = (T.setVm vm₁).setTop { g with stack := rest } := by
    show ((T.setVm vm₁).setTop g).setTop _ = _
    rw [State.setTop_setTop]
  rw [eS]
  refine mj_wp_make (kA := kA1) (kC := kC1) (cc := cc) (comp := comp9) hkA1 hkdA1 hkC1 hkdC1 (by rw [Launch.admits_arrayLengthLimit X.admits]; decide) (by rw [Launch.admits_maxHeapBytes X.admits]; decide) (fun i _ => mj_mf_used i) q1 q2 (fun d' acts' => ?_)
  rw [mj_mf_top]
  simp only [wp_bind', W.mark, W.pushRef, State.topJava?_setTop' _ XF.here.top, Option.some.injEq, exists_eq_left', State.setTop_setTop, State.heap_setTop]
  intro acts
  simp [jvm, XF.here.top]
  exact hrest
end MULTI
