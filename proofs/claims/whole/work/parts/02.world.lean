/-- the words of the tables that every state keeps -/
def mj_T : List Cond := lw_tbl.filter goodWord
/-! ===== the small world: every cell that the law's run makes, by its number; ints, longs and references apart; what each cell is, is known ahead ===== -/
abbrev mj_M : Type := Nat → Nat → Int32
abbrev mj_J : Type := Nat → Nat → Int64
abbrev mj_R : Type := Nat → Nat → Nat
/-- how many cells, ints, longs, references -/
abbrev mj_H : Type := Nat × mj_M × mj_J × mj_R
/-- the script's address, the first cell's, the classes, the arrays' classes by kind -/
abbrev mj_Wd : Type := Nat × Nat × va_G × (Nat → ClassId)
/-- code, own class, locals, answer, level, whether it is a constructor -/
abbrev mj_D : Type := ByteArray × String × Nat × Option FieldType × Nat × Bool
abbrev mj_X : Type := mj_Wd × Program × Launch × Env × Room × State × MethodId × Array Value × List Frame × Method × Code × Heap × Nat × Nat × (State → Prop)
def mj_nul : Nat := 1000000
def mj_scr : Nat := 2000000
/-- a cell of a State, by its place in the block of twenty -/
def mj_shS (c : Nat) : Nat × Nat := match c with
  | 0 => (5, 9) | 1 => (8, 7) | 2 => (12, 10) | 3 => (12, 10) | 4 => (12, 10) | 5 => (12, 8) | 6 => (12, 40) | 7 => (12, 80) | 8 => (12, 80) | 9 => (14, 80)
  | 10 => (14, 80) | 11 => (4, 5) | 12 => (16, 5) | 13 => (12, 8) | 14 => (12, 8) | 15 => (12, 8) | 16 => (12, 8) | 17 => (12, 8) | 18 => (12, 8) | _ => (12, 256)
def mj_shA (k : Nat) : Nat × Nat := match k with
  | 0 => (10, 13) | 1 => (13, 800) | 2 => (17, 2) | 3 => (14, 2) | 4 => (0, 10) | 5 => (15, 10) | 6 => (12, 10) | 7 => (12, 10) | 8 => (12, 10) | 9 => (12, 10)
  | 10 => (9, 18) | 11 => (15, 19) | 12 => (12, 801) | 13 => (12, 801) | 14 => (12, 801) | 15 => (15, 801) | 16 => (1, 5) | 17 => (0, 10) | 18 => (15, 10) | 19 => (12, 10)
  | 20 => (12, 10) | 21 => (12, 10) | 22 => (12, 10) | 23 => (3, 7) | 24 => (12, 160) | 25 => (12, 160) | 26 => (12, 160) | 27 => (12, 160) | 28 => (2, 6) | _ => (17, 16)
def mj_shB (k : Nat) : Nat × Nat := match k with
  | 0 => (7, 3) | 1 => (6, 4) | 2 => (11, 51) | 3 => (12, 800) | 4 => (12, 10) | 5 => (12, 10) | 6 => (12, 10) | 7 => (12, 10) | 8 => (12, 10) | 9 => (12, 10) | 10 => (12, 10) | 11 => (12, 10)
  | 12 => (15, 10) | 13 => (15, 10) | 14 => (12, 1775) | 15 => (12, 1775) | 16 => (12, 28400) | 17 => (12, 1775) | 18 => (12, 1600) | 19 => (12, 1775) | 20 => (12, 3550) | _ => (14, 2)
/-- what a cell is: the number of its class (below 12) and of its fields, or 12 int[], 13 byte[], 14 boolean[], 15 long[], 16 int[][], 17 State[], and its length -/
def mj_sh (k : Nat) : Nat × Nat := if k < 30 then mj_shA k else if k < 450 then mj_shS ((k - 30) % 20) else mj_shB (k - 450)
def mj_sl : Nat → Nat
  | 0 => 0
  | k + 1 => mj_sl k + (mj_sh k).2
def mj_stL (k : Nat) : List Nat := match k with
  | 0 => [0, 0, 0, 0, 0, 2, 2, 2, 2, 2] | 1 => [2, 2, 0, 0, 0] | 2 => [2, 2, 2, 0, 0, 0] | 3 => [2, 2, 0, 2, 2, 2, 2] | 4 => [2, 0, 2, 2, 2] | 5 => [2, 2, 2, 0, 0, 2, 2, 2, 2]
  | 6 => [2, 0, 0, 0] | 7 => [2, 0, 0] | 8 => [0, 0, 2, 2, 2, 2, 2] | 9 => [2, 2, 2, 2, 2, 2, 0, 0, 0, 0, 0, 0, 0, 1, 0, 0, 0, 0] | 10 => [2, 0, 2, 2, 2, 2, 2, 2, 2, 2, 2, 2, 0]
  | _ => [2, 0, 0, 0, 0, 0, 0, 0, 0, 0, 0, 0, 1, 0, 0, 0, 0, 0, 0, 0, 0, 0, 0, 0, 0, 0, 2, 2, 2, 2, 2, 2, 2, 2, 2, 2, 2, 2, 2, 2, 0, 0, 2, 0, 0, 0, 0, 0, 2, 2, 2]
/-- what a slot holds: 0 an int, 1 a long, 2 a reference -/
def mj_st (k f : Nat) : Nat := if k < 12 then (mj_stL k).getD f 0 else if k < 15 then 0 else if k < 16 then 1 else 2
def mj_rv (b0 r : Nat) : Value := if r = mj_nul then .null else .ref (b0 + r)
def mj_ra (w : mj_Wd) (r : Nat) : Nat := if r = mj_scr then w.1 else w.2.1 + r
def mj_tv (w : mj_Wd) (v : Value) : Value := match v with
  | .ref r => .ref (mj_ra w r)
  | v => v
def mj_val (w : mj_Wd) (h : mj_H) (k f : Nat) : Value := match mj_st (mj_sh k).1 f with
  | 0 => .int (h.2.1 k f)
  | 1 => .long (h.2.2.1 k f)
  | _ => mj_rv w.2.1 (h.2.2.2 k f)
def mj_cell (w : mj_Wd) (h : mj_H) (H : Heap) (k : Nat) : Prop :=
  if (mj_sh k).1 < 12 then t_OB (w.2.1 + k) (w.2.2.1.1 (mj_sh k).1) (mj_sh k).2 (w.2.2.1.2 (mj_sh k).1) H (mj_val w h k)
  else H[w.2.1 + k]? = some (arrV (w.2.2.2 (mj_sh k).1) (mj_sh k).2 (mj_val w h k))
def mj_rep (w : mj_Wd) (h : mj_H) (H : Heap) : Prop := H.size = w.2.1 + h.1 ∧ h.1 ≤ 472 ∧ ∀ k, k < h.1 → mj_cell w h H k
abbrev mj_tys (w : mj_Wd) : List (ClassId × FieldType) := [(w.2.2.2 12, .int), (w.2.2.2 13, .byte), (w.2.2.2 14, .boolean), (w.2.2.2 15, .long), (w.2.2.2 16, .array .int), (w.2.2.2 17, .object "VectorDeal$State")]
def mj_AOA (s : State) : Prop := (Cond.arrayOver (.array .int)).before #[] s = true
def mj_K (w : mj_Wd) (s : State) : Prop := va_K w.2.2.1 vwCl (mj_tys w) s ∧ va_AO "VectorDeal$State" s ∧ mj_AOA s ∧ va_Nw (.methodLinkNest RX5 11 yX8_init RX10) s ∧ va_Nw (.methodLinkNest RX1 142 yX10_isGroupSize RX10) s
/-- what may change: the cells of the small world -/
def mj_A (w : mj_Wd) : Nat → Prop := fun q => w.2.1 ≤ q
def mj_lv (w : mj_Wd) (ls : Array Slot) (nL : Nat) (L : List (Option Value)) : Prop := ls.size = nL ∧ lv_wf ls ∧ ∀ (i : Nat) (v : Value), L[i]? = some (some v) → ls[i]? = some (.val (mj_tv w v))
/-- how an answer is given -/
def mj_rd (d : mj_D) (v : Option Value) (pc : Nat) : Prop := match v with
  | none => decode d.1 pc = .ok (.return_, 1) ∧ d.2.2.2.1 = none
  | some (.int x) => decode d.1 pc = .ok (.ireturn, 1) ∧ ∃ ty, d.2.2.2.1 = some ty ∧ narrow ty (.int x) = .int x
  | some (.long _) => decode d.1 pc = .ok (.lreturn, 1) ∧ d.2.2.2.1 = some .long
  | some (.ref _) => decode d.1 pc = .ok (.areturn, 1) ∧ ∃ C, d.2.2.2.1 = some (.object C)
  | _ => False
/-- what holds at a method's entry, and what its end takes -/
def mj_C (d : mj_D) (X : mj_X) (Q : Option Value → mj_H → Prop) : Prop := match X with
  | (w, p, l, e, R, s, m, args, below, meth, c, H0, z0, zf, Z) => p.tables.exec = Jvm.exec ∧ c.code = d.1 ∧ c.maxLocals = d.2.2.1 ∧ s.vm.findClass d.2.1 = some m.cls ∧ (∀ wd ∈ mj_T, wd.before args s = true) ∧ mj_K w s ∧ H0.size = w.2.1 + z0 ∧ (d.2.2.2.2.1 ≤ R.frames ∧ 38 * d.2.2.2.2.1 ≤ R.locals ∧ zf ≤ R.cells + z0 ∧ mj_sl zf ≤ R.slots + mj_sl z0) ∧ (d.2.2.2.2.2 = true → meth.name = "<init>") ∧
    ∀ (v : Option Value) (h : mj_H) (H : Heap) (locs : List Loc) (cells slots pc : Nat) (ls : Array Slot), Q v h → mj_rep w h H → va_S (mj_A w) H0 H locs → cells + z0 = h.1 → slots + mj_sl z0 = mj_sl h.1 → mj_rd d v pc →
      W p l e R s m args below meth c H locs cells slots Z (F0 m pc ls (v.map (mj_tv w)).toList)
/-- from here the machine comes to an end that Q takes -/
def Wq (d : mj_D) (X : mj_X) (Q : Option Value → mj_H → Prop) (pc : Nat) (L : List (Option Value)) (st : List Value) (h : mj_H) : Prop := match X with
  | (w, p, l, e, R, s, m, args, below, meth, c, H0, z0, zf, Z) => mj_C d (w, p, l, e, R, s, m, args, below, meth, c, H0, z0, zf, Z) Q → ∀ (H : Heap) (locs : List Loc) (ls : Array Slot) (cells slots : Nat), mj_rep w h H → mj_lv w ls d.2.2.1 L → va_S (mj_A w) H0 H locs → cells + z0 = h.1 → slots + mj_sl z0 = mj_sl h.1 →
      W p l e R s m args below meth c H locs cells slots Z (F0 m pc ls (st.map (mj_tv w)))
section QR
variable {d : mj_D} {X : mj_X} {Q : Option Value → mj_H → Prop} {pc pc' : Nat} {L : List (Option Value)} {st : List Value} {h : mj_H}
/-- an instruction that changes the stack alone -/
theorem q_pure {st' : List Value} (hk : ∀ (w : mj_Wd) (p : Program) (l : Launch) (e : Env) (R : Room) (s : State) (m : MethodId) (args : Array Value) (below : List Frame) (meth : Method) (c : Code) (H : Heap) (locs : List Loc) (ls : Array Slot) (cells slots : Nat) (Z : State → Prop), p.tables.exec = Jvm.exec → c.code = d.1 → s.vm.findClass d.2.1 = some m.cls → (∀ wd ∈ mj_T, wd.before args s = true) → mj_lv w ls d.2.2.1 L →
    W p l e R s m args below meth c H locs cells slots Z (F0 m pc' ls (st'.map (mj_tv w))) → W p l e R s m args below meth c H locs cells slots Z (F0 m pc ls (st.map (mj_tv w)))) (hn : Wq d X Q pc' L st' h) : Wq d X Q pc L st h := by
  obtain ⟨w, p, l, e, R, s, m, args, below, meth, c, H0, z0, zf, Z⟩ := X
  intro C H locs ls cells slots hR hL hS h1 h2
  exact hk w p l e R s m args below meth c H locs ls cells slots Z C.1 C.2.1 C.2.2.2.1 C.2.2.2.2.1 hL (hn C H locs ls cells slots hR hL hS h1 h2)
theorem q_br {P N : Prop} {pt pf : Nat} {st' : List Value} (hk : ∀ (w : mj_Wd) (p : Program) (l : Launch) (e : Env) (R : Room) (s : State) (m : MethodId) (args : Array Value) (below : List Frame) (meth : Method) (c : Code) (H : Heap) (locs : List Loc) (ls : Array Slot) (cells slots : Nat) (Z : State → Prop), p.tables.exec = Jvm.exec → c.code = d.1 →
    (P → W p l e R s m args below meth c H locs cells slots Z (F0 m pt ls (st'.map (mj_tv w)))) → (N → W p l e R s m args below meth c H locs cells slots Z (F0 m pf ls (st'.map (mj_tv w)))) → W p l e R s m args below meth c H locs cells slots Z (F0 m pc ls (st.map (mj_tv w)))) (h1 : P → Wq d X Q pt L st' h) (h2 : N → Wq d X Q pf L st' h) : Wq d X Q pc L st h := by
  obtain ⟨w, p, l, e, R, s, m, args, below, meth, c, H0, z0, zf, Z⟩ := X
  intro C H locs ls cells slots hR hL hS k1 k2
  exact hk w p l e R s m args below meth c H locs ls cells slots Z C.1 C.2.1 (fun hP => h1 hP C H locs ls cells slots hR hL hS k1 k2) (fun hP => h2 hP C H locs ls cells slots hR hL hS k1 k2)
theorem q_iadd {x y : Int32} (hd : decode d.1 pc = .ok (.iadd, 1)) (hp : pc + 1 = pc') (hn : Wq d X Q pc' L (.int (x + y) :: st) h) : Wq d X Q pc L (.int y :: .int x :: st) h := by
  subst hp
  exact q_pure (fun _ _ _ _ _ _ _ _ _ _ _ _ _ _ _ _ _ hx hb ho ht hL k => lv_iadd hx hb hd k) hn
theorem q_isub {x y : Int32} (hd : decode d.1 pc = .ok (.isub, 1)) (hp : pc + 1 = pc') (hn : Wq d X Q pc' L (.int (x - y) :: st) h) : Wq d X Q pc L (.int y :: .int x :: st) h := by
  subst hp
  exact q_pure (fun _ _ _ _ _ _ _ _ _ _ _ _ _ _ _ _ _ hx hb ho ht hL k => lv_isub hx hb hd k) hn
theorem q_imul {x y : Int32} (hd : decode d.1 pc = .ok (.imul, 1)) (hp : pc + 1 = pc') (hn : Wq d X Q pc' L (.int (x * y) :: st) h) : Wq d X Q pc L (.int y :: .int x :: st) h := by
  subst hp
  exact q_pure (fun _ _ _ _ _ _ _ _ _ _ _ _ _ _ _ _ _ hx hb ho ht hL k => lv_imul hx hb hd k) hn
theorem q_iand {x y : Int32} (hd : decode d.1 pc = .ok (.iand, 1)) (hp : pc + 1 = pc') (hn : Wq d X Q pc' L (.int (x &&& y) :: st) h) : Wq d X Q pc L (.int y :: .int x :: st) h := by
  subst hp
  exact q_pure (fun _ _ _ _ _ _ _ _ _ _ _ _ _ _ _ _ _ hx hb ho ht hL k => lv_iand hx hb hd k) hn
theorem q_ior {x y : Int32} (hd : decode d.1 pc = .ok (.ior, 1)) (hp : pc + 1 = pc') (hn : Wq d X Q pc' L (.int (x ||| y) :: st) h) : Wq d X Q pc L (.int y :: .int x :: st) h := by
  subst hp
  exact q_pure (fun _ _ _ _ _ _ _ _ _ _ _ _ _ _ _ _ _ hx hb ho ht hL k => lv_ior hx hb hd k) hn
theorem q_ixor {x y : Int32} (hd : decode d.1 pc = .ok (.ixor, 1)) (hp : pc + 1 = pc') (hn : Wq d X Q pc' L (.int (x ^^^ y) :: st) h) : Wq d X Q pc L (.int y :: .int x :: st) h := by
  subst hp
  exact q_pure (fun _ _ _ _ _ _ _ _ _ _ _ _ _ _ _ _ _ hx hb ho ht hL k => lv_ixor hx hb hd k) hn
theorem q_ishl {x y : Int32} (hd : decode d.1 pc = .ok (.ishl, 1)) (hp : pc + 1 = pc') (hn : Wq d X Q pc' L (.int (x <<< (y &&& 31)) :: st) h) : Wq d X Q pc L (.int y :: .int x :: st) h := by
  subst hp
  exact q_pure (fun _ _ _ _ _ _ _ _ _ _ _ _ _ _ _ _ _ hx hb ho ht hL k => lv_ishl hx hb hd k) hn
theorem q_ishr {x y : Int32} (hd : decode d.1 pc = .ok (.ishr, 1)) (hp : pc + 1 = pc') (hn : Wq d X Q pc' L (.int (x >>> (y &&& 31)) :: st) h) : Wq d X Q pc L (.int y :: .int x :: st) h := by
  subst hp
  exact q_pure (fun _ _ _ _ _ _ _ _ _ _ _ _ _ _ _ _ _ hx hb ho ht hL k => lv_ishr hx hb hd k) hn
theorem q_iushr {x y : Int32} (hd : decode d.1 pc = .ok (.iushr, 1)) (hp : pc + 1 = pc') (hn : Wq d X Q pc' L (.int ((x.toUInt32 >>> (y.toUInt32 &&& Int32.toUInt32 31)).toInt32) :: st) h) : Wq d X Q pc L (.int y :: .int x :: st) h := by
  subst hp
  exact q_pure (fun _ _ _ _ _ _ _ _ _ _ _ _ _ _ _ _ _ hx hb ho ht hL k => lv_iushr hx hb hd rfl k) hn
theorem q_idiv {x y : Int32} (hd : decode d.1 pc = .ok (.idiv, 1)) (hp : pc + 1 = pc') (hne : ¬ y = 0) (hn : Wq d X Q pc' L (.int (x / y) :: st) h) : Wq d X Q pc L (.int y :: .int x :: st) h := by
  subst hp
  exact q_pure (fun _ _ _ _ _ _ _ _ _ _ _ _ _ _ _ _ _ hx hb ho ht hL k => lv_idiv hx hb hd hne k) hn
theorem q_irem {x y : Int32} (hd : decode d.1 pc = .ok (.irem, 1)) (hp : pc + 1 = pc') (hne : ¬ y = 0) (hn : Wq d X Q pc' L (.int (x - x / y * y) :: st) h) : Wq d X Q pc L (.int y :: .int x :: st) h := by
  subst hp
  exact q_pure (fun _ _ _ _ _ _ _ _ _ _ _ _ _ _ _ _ _ hx hb ho ht hL k => lv_irem hx hb hd hne k) hn
theorem q_lor {x y : Int64} (hd : decode d.1 pc = .ok (.lor, 1)) (hp : pc + 1 = pc') (hn : Wq d X Q pc' L (.long (x ||| y) :: st) h) : Wq d X Q pc L (.long y :: .long x :: st) h := by
  subst hp
  exact q_pure (fun _ _ _ _ _ _ _ _ _ _ _ _ _ _ _ _ _ hx hb ho ht hL k => lv_lor hx hb hd k) hn
theorem q_lshl {x : Int64} {y : Int32} (hd : decode d.1 pc = .ok (.lshl, 1)) (hp : pc + 1 = pc') (hn : Wq d X Q pc' L (.long (x <<< (y.toInt64 &&& 63)) :: st) h) : Wq d X Q pc L (.int y :: .long x :: st) h := by
  subst hp
  exact q_pure (fun _ _ _ _ _ _ _ _ _ _ _ _ _ _ _ _ _ hx hb ho ht hL k => lv_lshl hx hb hd rfl k) hn
theorem q_lshr {x : Int64} {y : Int32} (hd : decode d.1 pc = .ok (.lshr, 1)) (hp : pc + 1 = pc') (hn : Wq d X Q pc' L (.long (x >>> (y.toInt64 &&& 63)) :: st) h) : Wq d X Q pc L (.int y :: .long x :: st) h := by
  subst hp
  exact q_pure (fun _ _ _ _ _ _ _ _ _ _ _ _ _ _ _ _ _ hx hb ho ht hL k => lv_lshr hx hb hd rfl k) hn
theorem q_lushr {x : Int64} {y : Int32} (hd : decode d.1 pc = .ok (.lushr, 1)) (hp : pc + 1 = pc') (hn : Wq d X Q pc' L (.long ((x.toUInt64 >>> (y.toInt64.toUInt64 &&& Int64.toUInt64 63)).toInt64) :: st) h) : Wq d X Q pc L (.int y :: .long x :: st) h := by
  subst hp
  exact q_pure (fun _ _ _ _ _ _ _ _ _ _ _ _ _ _ _ _ _ hx hb ho ht hL k => lv_lushr hx hb hd rfl k) hn
theorem q_lcmp {x y : Int64} (hd : decode d.1 pc = .ok (.lcmp, 1)) (hp : pc + 1 = pc') (hn : Wq d X Q pc' L (.int (lg_cmp x y) :: st) h) : Wq d X Q pc L (.long y :: .long x :: st) h := by
  subst hp
  exact q_pure (fun _ _ _ _ _ _ _ _ _ _ _ _ _ _ _ _ _ hx hb ho ht hL k => W.lcmp hx hb hd k) hn
theorem q_i2l {x : Int32} (hd : decode d.1 pc = .ok (.i2l, 1)) (hp : pc + 1 = pc') (hn : Wq d X Q pc' L (.long x.toInt64 :: st) h) : Wq d X Q pc L (.int x :: st) h := by
  subst hp
  exact q_pure (fun _ _ _ _ _ _ _ _ _ _ _ _ _ _ _ _ _ hx hb ho ht hL k => lv_i2l hx hb hd rfl k) hn
theorem q_l2i {x : Int64} (hd : decode d.1 pc = .ok (.l2i, 1)) (hp : pc + 1 = pc') (hn : Wq d X Q pc' L (.int x.toInt32 :: st) h) : Wq d X Q pc L (.long x :: st) h := by
  subst hp
  exact q_pure (fun _ _ _ _ _ _ _ _ _ _ _ _ _ _ _ _ _ hx hb ho ht hL k => lv_l2i hx hb hd rfl k) hn
theorem q_i2b {x : Int32} (hd : decode d.1 pc = .ok (.i2b, 1)) (hp : pc + 1 = pc') (hn : Wq d X Q pc' L (.int x.toInt8.toInt32 :: st) h) : Wq d X Q pc L (.int x :: st) h := by
  subst hp
  exact q_pure (fun _ _ _ _ _ _ _ _ _ _ _ _ _ _ _ _ _ hx hb ho ht hL k => lv_i2b hx hb hd rfl k) hn
theorem q_dup_i {x : Int32} (hd : decode d.1 pc = .ok (.dup, 1)) (hp : pc + 1 = pc') (hn : Wq d X Q pc' L (.int x :: .int x :: st) h) : Wq d X Q pc L (.int x :: st) h := by
  subst hp
  exact q_pure (fun _ _ _ _ _ _ _ _ _ _ _ _ _ _ _ _ _ hx hb ho ht hL k => lv_dup hx hb hd rfl k) hn
theorem q_dup_a {x : Nat} (hd : decode d.1 pc = .ok (.dup, 1)) (hp : pc + 1 = pc') (hn : Wq d X Q pc' L (.ref x :: .ref x :: st) h) : Wq d X Q pc L (.ref x :: st) h := by
  subst hp
  exact q_pure (fun _ _ _ _ _ _ _ _ _ _ _ _ _ _ _ _ _ hx hb ho ht hL k => lv_dup hx hb hd rfl k) hn
theorem q_dup2 {x : Int32} {a : Nat} (hd : decode d.1 pc = .ok (.dup2, 1)) (hp : pc + 1 = pc') (hn : Wq d X Q pc' L (.int x :: .ref a :: .int x :: .ref a :: st) h) : Wq d X Q pc L (.int x :: .ref a :: st) h := by
  subst hp
  exact q_pure (fun _ _ _ _ _ _ _ _ _ _ _ _ _ _ _ _ _ hx hb ho ht hL k => lv_dup2_11 hx hb hd rfl rfl k) hn
theorem q_pop_i {x : Int32} (hd : decode d.1 pc = .ok (.pop, 1)) (hp : pc + 1 = pc') (hn : Wq d X Q pc' L (st) h) : Wq d X Q pc L (.int x :: st) h := by
  subst hp
  exact q_pure (fun _ _ _ _ _ _ _ _ _ _ _ _ _ _ _ _ _ hx hb ho ht hL k => lv_pop hx hb hd rfl k) hn
theorem q_iconst {n : Int} (v : Int32) (hd : decode d.1 pc = .ok (.iconst n, 1)) (hp : pc + 1 = pc') (hv : Int32.ofInt n = v) (hn : Wq d X Q pc' L (.int v :: st) h) : Wq d X Q pc L (st) h := by
  subst hp
  exact q_pure (fun _ _ _ _ _ _ _ _ _ _ _ _ _ _ _ _ _ hx hb ho ht hL k => lv_iconst hx hb hd hv k) hn
theorem q_bipush {n : Int} (v : Int32) (hd : decode d.1 pc = .ok (.bipush n, 2)) (hp : pc + 2 = pc') (hv : (Int8.ofInt n).toInt32 = v) (hn : Wq d X Q pc' L (.int v :: st) h) : Wq d X Q pc L (st) h := by
  subst hp
  exact q_pure (fun _ _ _ _ _ _ _ _ _ _ _ _ _ _ _ _ _ hx hb ho ht hL k => lv_bipush hx hb hd hv k) hn
theorem q_sipush {n : Int} (v : Int32) (hd : decode d.1 pc = .ok (.sipush n, 3)) (hp : pc + 3 = pc') (hv : (Int16.ofInt n).toInt32 = v) (hn : Wq d X Q pc' L (.int v :: st) h) : Wq d X Q pc L (st) h := by
  subst hp
  exact q_pure (fun _ _ _ _ _ _ _ _ _ _ _ _ _ _ _ _ _ hx hb ho ht hL k => lv_sipush hx hb hd hv k) hn
theorem q_lconst {n : Fin 2} (v : Int64) (hd : decode d.1 pc = .ok (.lconst n, 1)) (hp : pc + 1 = pc') (hv : Int64.ofNat (n : Nat) = v) (hn : Wq d X Q pc' L (.long v :: st) h) : Wq d X Q pc L (st) h := by
  subst hp
  exact q_pure (fun _ _ _ _ _ _ _ _ _ _ _ _ _ _ _ _ _ hx hb ho ht hL k => lv_lconst hx hb hd hv k) hn
theorem q_ldc {i : Nat} (v : Int32) (hd : decode d.1 pc = .ok (.ldc i, 2)) (hp : pc + 2 = pc') (hc : Cond.constant d.2.1 i v ∈ mj_T) (hn : Wq d X Q pc' L (.int v :: st) h) : Wq d X Q pc L (st) h := by
  subst hp
  exact q_pure (fun _ _ _ _ _ _ _ _ _ _ _ _ _ _ _ _ _ hx hb ho ht hL k => lv_ldc hx hb ho (ht _ hc) hd k) hn
theorem q_ldcw {i : Nat} (v : Int32) (hd : decode d.1 pc = .ok (.ldc_w i, 3)) (hp : pc + 3 = pc') (hc : Cond.constant d.2.1 i v ∈ mj_T) (hn : Wq d X Q pc' L (.int v :: st) h) : Wq d X Q pc L (st) h := by
  subst hp
  exact q_pure (fun _ _ _ _ _ _ _ _ _ _ _ _ _ _ _ _ _ hx hb ho ht hL k => lv_ldcw hx hb ho (ht _ hc) hd k) hn
theorem q_ldc2 {i : Nat} (v : Int64) (hd : decode d.1 pc = .ok (.ldc2_w i, 3)) (hp : pc + 3 = pc') (hc : Cond.constantLong d.2.1 i v ∈ mj_T) (hn : Wq d X Q pc' L (.long v :: st) h) : Wq d X Q pc L (st) h := by
  subst hp
  exact q_pure (fun _ _ _ _ _ _ _ _ _ _ _ _ _ _ _ _ _ hx hb ho ht hL k => lv_ldc2 hx hb ho (ht _ hc) hd k) hn
theorem q_iload_n {k : Fin 4} {x : Int32} (hd : decode d.1 pc = .ok (.iload_n k, 1)) (hp : pc + 1 = pc') (hl : L[(k : Nat)]? = some (some (.int x))) (hn : Wq d X Q pc' L (.int x :: st) h) : Wq d X Q pc L (st) h := by
  subst hp
  exact q_pure (fun _ _ _ _ _ _ _ _ _ _ _ _ _ _ _ _ _ hx hb ho ht hL k => lv_iload_n hx hb hd rfl (hL.2.2 _ _ hl) k) hn
theorem q_iload {k : Nat} {x : Int32} (hd : decode d.1 pc = .ok (.iload k, 2)) (hp : pc + 2 = pc') (hl : L[k]? = some (some (.int x))) (hn : Wq d X Q pc' L (.int x :: st) h) : Wq d X Q pc L (st) h := by
  subst hp
  exact q_pure (fun _ _ _ _ _ _ _ _ _ _ _ _ _ _ _ _ _ hx hb ho ht hL k => lv_iload hx hb hd (hL.2.2 _ _ hl) k) hn
theorem q_lload_n {k : Fin 4} {x : Int64} (hd : decode d.1 pc = .ok (.lload_n k, 1)) (hp : pc + 1 = pc') (hl : L[(k : Nat)]? = some (some (.long x))) (hn : Wq d X Q pc' L (.long x :: st) h) : Wq d X Q pc L (st) h := by
  subst hp
  exact q_pure (fun _ _ _ _ _ _ _ _ _ _ _ _ _ _ _ _ _ hx hb ho ht hL k => lv_lload_n hx hb hd rfl (hL.2.2 _ _ hl) k) hn
theorem q_lload {k : Nat} {x : Int64} (hd : decode d.1 pc = .ok (.lload k, 2)) (hp : pc + 2 = pc') (hl : L[k]? = some (some (.long x))) (hn : Wq d X Q pc' L (.long x :: st) h) : Wq d X Q pc L (st) h := by
  subst hp
  exact q_pure (fun _ _ _ _ _ _ _ _ _ _ _ _ _ _ _ _ _ hx hb ho ht hL k => lv_lload hx hb hd (hL.2.2 _ _ hl) k) hn
theorem q_aload_n {k : Fin 4} {x : Nat} (hd : decode d.1 pc = .ok (.aload_n k, 1)) (hp : pc + 1 = pc') (hl : L[(k : Nat)]? = some (some (.ref x))) (hn : Wq d X Q pc' L (.ref x :: st) h) : Wq d X Q pc L (st) h := by
  subst hp
  exact q_pure (fun _ _ _ _ _ _ _ _ _ _ _ _ _ _ _ _ _ hx hb ho ht hL k => lv_aload_n hx hb hd rfl (hL.2.2 _ _ hl) k) hn
theorem q_aload {k : Nat} {x : Nat} (hd : decode d.1 pc = .ok (.aload k, 2)) (hp : pc + 2 = pc') (hl : L[k]? = some (some (.ref x))) (hn : Wq d X Q pc' L (.ref x :: st) h) : Wq d X Q pc L (st) h := by
  subst hp
  exact q_pure (fun _ _ _ _ _ _ _ _ _ _ _ _ _ _ _ _ _ hx hb ho ht hL k => lv_aload hx hb hd (hL.2.2 _ _ hl) k) hn
theorem q_goto {off : Int} (hd : decode d.1 pc = .ok (.goto off, 3)) (hp : (pc : Int) + off = (pc' : Int)) (hn : Wq d X Q pc' L st h) : Wq d X Q pc L st h := q_pure (fun _ _ _ _ _ _ _ _ _ _ _ _ _ _ _ _ _ hx hb ho ht hL k => lv_goto hx hb hd hp k) hn
theorem q_tabOut {dflt lo hi : Int} {offs : Array Int} {len : Nat} {x : Int32} (hd : decode d.1 pc = .ok (.tableswitch dflt lo hi offs, len)) (hc : x.toInt < lo ∨ hi < x.toInt) (hp : (pc : Int) + dflt = (pc' : Int)) (hn : Wq d X Q pc' L st h) : Wq d X Q pc L (.int x :: st) h := q_pure (fun _ _ _ _ _ _ _ _ _ _ _ _ _ _ _ _ _ hx hb ho ht hL k => lv_tableOut hx hb hd hc hp k) hn
theorem q_tabIn {dflt lo hi : Int} {offs : Array Int} {len : Nat} {x : Int32} {off : Int} (hd : decode d.1 pc = .ok (.tableswitch dflt lo hi offs, len)) (h1 : ¬ x.toInt < lo) (h2 : ¬ hi < x.toInt) (h3 : offs[(x.toInt - lo).toNat]? = some off) (hp : (pc : Int) + off = (pc' : Int)) (hn : Wq d X Q pc' L st h) : Wq d X Q pc L (.int x :: st) h := q_pure (fun _ _ _ _ _ _ _ _ _ _ _ _ _ _ _ _ _ hx hb ho ht hL k => lv_tableIn hx hb hd h1 h2 h3 hp k) hn
theorem q_lookup {dflt : Int} {ps : Array (Int × Int)} {len : Nat} {x : Int32} {off : Int} (hd : decode d.1 pc = .ok (.lookupswitch dflt ps, len)) (h1 : (ps.toList.zip (ps.toList.drop 1)).all (fun (a, next) => a.1 < next.1) = true) (h2 : Op.lookupswitch.offset ps.toList dflt x.toInt = off) (hp : (pc : Int) + off = (pc' : Int)) (hn : Wq d X Q pc' L st h) : Wq d X Q pc L (.int x :: st) h := q_pure (fun _ _ _ _ _ _ _ _ _ _ _ _ _ _ _ _ _ hx hb ho ht hL k => lv_lookup hx hb hd h1 h2 hp k) hn
theorem q_icmp_eq {x y : Int32} {off : Int} {pt : Nat} (hd : decode d.1 pc = .ok (.if_icmp .eq off, 3)) (hp : pc + 3 = pc') (ht : (pc : Int) + off = (pt : Int)) (h1 : x = y → Wq d X Q pt L st h) (h2 : ¬ x = y → Wq d X Q pc' L st h) : Wq d X Q pc L (.int y :: .int x :: st) h := by
  subst hp
  exact q_br (fun _ _ _ _ _ _ _ _ _ _ _ _ _ _ _ _ _ hx hb k1 k2 => lv_icmp_eq hx hb hd ht k1 k2) h1 h2
theorem q_icmp_ne {x y : Int32} {off : Int} {pt : Nat} (hd : decode d.1 pc = .ok (.if_icmp .ne off, 3)) (hp : pc + 3 = pc') (ht : (pc : Int) + off = (pt : Int)) (h1 : ¬ x = y → Wq d X Q pt L st h) (h2 : x = y → Wq d X Q pc' L st h) : Wq d X Q pc L (.int y :: .int x :: st) h := by
  subst hp
  exact q_br (fun _ _ _ _ _ _ _ _ _ _ _ _ _ _ _ _ _ hx hb k1 k2 => lv_icmp_ne hx hb hd ht k1 k2) h1 h2
theorem q_icmp_lt {x y : Int32} {off : Int} {pt : Nat} (hd : decode d.1 pc = .ok (.if_icmp .lt off, 3)) (hp : pc + 3 = pc') (ht : (pc : Int) + off = (pt : Int)) (h1 : x < y → Wq d X Q pt L st h) (h2 : ¬ x < y → Wq d X Q pc' L st h) : Wq d X Q pc L (.int y :: .int x :: st) h := by
  subst hp
  exact q_br (fun _ _ _ _ _ _ _ _ _ _ _ _ _ _ _ _ _ hx hb k1 k2 => lv_icmp_lt hx hb hd ht k1 k2) h1 h2
theorem q_icmp_ge {x y : Int32} {off : Int} {pt : Nat} (hd : decode d.1 pc = .ok (.if_icmp .ge off, 3)) (hp : pc + 3 = pc') (ht : (pc : Int) + off = (pt : Int)) (h1 : y ≤ x → Wq d X Q pt L st h) (h2 : ¬ y ≤ x → Wq d X Q pc' L st h) : Wq d X Q pc L (.int y :: .int x :: st) h := by
  subst hp
  exact q_br (fun _ _ _ _ _ _ _ _ _ _ _ _ _ _ _ _ _ hx hb k1 k2 => lv_icmp_ge hx hb hd ht k1 k2) h1 h2
theorem q_icmp_gt {x y : Int32} {off : Int} {pt : Nat} (hd : decode d.1 pc = .ok (.if_icmp .gt off, 3)) (hp : pc + 3 = pc') (ht : (pc : Int) + off = (pt : Int)) (h1 : y < x → Wq d X Q pt L st h) (h2 : ¬ y < x → Wq d X Q pc' L st h) : Wq d X Q pc L (.int y :: .int x :: st) h := by
  subst hp
  exact q_br (fun _ _ _ _ _ _ _ _ _ _ _ _ _ _ _ _ _ hx hb k1 k2 => lv_icmp_gt hx hb hd ht k1 k2) h1 h2
theorem q_icmp_le {x y : Int32} {off : Int} {pt : Nat} (hd : decode d.1 pc = .ok (.if_icmp .le off, 3)) (hp : pc + 3 = pc') (ht : (pc : Int) + off = (pt : Int)) (h1 : x ≤ y → Wq d X Q pt L st h) (h2 : ¬ x ≤ y → Wq d X Q pc' L st h) : Wq d X Q pc L (.int y :: .int x :: st) h := by
  subst hp
  exact q_br (fun _ _ _ _ _ _ _ _ _ _ _ _ _ _ _ _ _ hx hb k1 k2 => lv_icmp_le hx hb hd ht k1 k2) h1 h2
theorem q_if_eq {x : Int32} {off : Int} {pt : Nat} (hd : decode d.1 pc = .ok (.ifCond .eq off, 3)) (hp : pc + 3 = pc') (ht : (pc : Int) + off = (pt : Int)) (h1 : x = 0 → Wq d X Q pt L st h) (h2 : ¬ x = 0 → Wq d X Q pc' L st h) : Wq d X Q pc L (.int x :: st) h := by
  subst hp
  exact q_br (fun _ _ _ _ _ _ _ _ _ _ _ _ _ _ _ _ _ hx hb k1 k2 => lv_if_eq hx hb hd ht k1 k2) h1 h2
theorem q_if_ne {x : Int32} {off : Int} {pt : Nat} (hd : decode d.1 pc = .ok (.ifCond .ne off, 3)) (hp : pc + 3 = pc') (ht : (pc : Int) + off = (pt : Int)) (h1 : ¬ x = 0 → Wq d X Q pt L st h) (h2 : x = 0 → Wq d X Q pc' L st h) : Wq d X Q pc L (.int x :: st) h := by
  subst hp
  exact q_br (fun _ _ _ _ _ _ _ _ _ _ _ _ _ _ _ _ _ hx hb k1 k2 => lv_if_ne hx hb hd ht k1 k2) h1 h2
theorem q_if_lt {x : Int32} {off : Int} {pt : Nat} (hd : decode d.1 pc = .ok (.ifCond .lt off, 3)) (hp : pc + 3 = pc') (ht : (pc : Int) + off = (pt : Int)) (h1 : x < 0 → Wq d X Q pt L st h) (h2 : ¬ x < 0 → Wq d X Q pc' L st h) : Wq d X Q pc L (.int x :: st) h := by
  subst hp
  exact q_br (fun _ _ _ _ _ _ _ _ _ _ _ _ _ _ _ _ _ hx hb k1 k2 => lv_if_lt hx hb hd ht k1 k2) h1 h2
theorem q_if_ge {x : Int32} {off : Int} {pt : Nat} (hd : decode d.1 pc = .ok (.ifCond .ge off, 3)) (hp : pc + 3 = pc') (ht : (pc : Int) + off = (pt : Int)) (h1 : 0 ≤ x → Wq d X Q pt L st h) (h2 : ¬ 0 ≤ x → Wq d X Q pc' L st h) : Wq d X Q pc L (.int x :: st) h := by
  subst hp
  exact q_br (fun _ _ _ _ _ _ _ _ _ _ _ _ _ _ _ _ _ hx hb k1 k2 => lv_if_ge hx hb hd ht k1 k2) h1 h2
theorem q_if_gt {x : Int32} {off : Int} {pt : Nat} (hd : decode d.1 pc = .ok (.ifCond .gt off, 3)) (hp : pc + 3 = pc') (ht : (pc : Int) + off = (pt : Int)) (h1 : 0 < x → Wq d X Q pt L st h) (h2 : ¬ 0 < x → Wq d X Q pc' L st h) : Wq d X Q pc L (.int x :: st) h := by
  subst hp
  exact q_br (fun _ _ _ _ _ _ _ _ _ _ _ _ _ _ _ _ _ hx hb k1 k2 => lv_if_gt hx hb hd ht k1 k2) h1 h2
theorem q_if_le {x : Int32} {off : Int} {pt : Nat} (hd : decode d.1 pc = .ok (.ifCond .le off, 3)) (hp : pc + 3 = pc') (ht : (pc : Int) + off = (pt : Int)) (h1 : x ≤ 0 → Wq d X Q pt L st h) (h2 : ¬ x ≤ 0 → Wq d X Q pc' L st h) : Wq d X Q pc L (.int x :: st) h := by
  subst hp
  exact q_br (fun _ _ _ _ _ _ _ _ _ _ _ _ _ _ _ _ _ hx hb k1 k2 => lv_if_le hx hb hd ht k1 k2) h1 h2
end QR
/-- no long stands just below the place -/
def mj_nl (L : List (Option Value)) (i : Nat) : Bool := match i with
  | 0 => true
  | j + 1 => match L[j]? with
    | some (some (.long _)) => false
    | some (some (.double _)) => false
    | _ => true
def mj_as (w : mj_Wd) (L : List (Option Value)) : List (Nat × Value) := L.zipIdx.filterMap (fun q => q.1.map (fun v => (q.2, mj_tv w v)))
theorem mj_as_in {w : mj_Wd} {L : List (Option Value)} {i : Nat} {v : Value} (hi : L[i]? = some (some v)) : (i, mj_tv w v) ∈ mj_as w L := by
  refine List.mem_filterMap.mpr ⟨(some v, i), ?_, rfl⟩
  exact List.mem_zipIdx_iff_getElem?.mpr hi
theorem mj_lv_has {w : mj_Wd} {ls : Array Slot} {nL : Nat} {L : List (Option Value)} (hL : mj_lv w ls nL L) : lv_has ls nL (mj_as w L) := by
  refine ⟨hL.1, hL.2.1, fun q hq => ?_⟩
  obtain ⟨⟨o, i⟩, h1, h2⟩ := List.mem_filterMap.mp hq
  have h3 := List.mem_zipIdx_iff_getElem?.mp h1
  cases o with
  | none => cases h2
  | some v => cases h2; exact hL.2.2 i v h3
theorem mj_tv_cat (w : mj_Wd) (v : Value) : (mj_tv w v).category = v.category := by cases v <;> rfl
theorem mj_lv_set {w : mj_Wd} {ls' : Array Slot} {nL i : Nat} {L : List (Option Value)} {v : Value} (hn : mj_nl L i = true) (h : lv_has ls' nL ((i, mj_tv w v) :: (mj_as w L).filter (fun q => !(q.1 == i) && !(q.1 + 1 == i && q.2.category == 2)))) : mj_lv w ls' nL (L.set i (some v)) := by
  refine ⟨h.1, h.2.1, fun j u hj => ?_⟩
  by_cases hji : j = i
  · subst hji
    rw [List.getElem?_set] at hj
    simp only [if_true] at hj
    by_cases hl : j < L.length
    · simp only [hl, if_true, Option.some.injEq] at hj
      subst hj
      exact h.2.2 (j, mj_tv w v) List.mem_cons_self
    · simp only [hl, if_false] at hj
      cases hj
  · rw [List.getElem?_set_ne (Ne.symm hji)] at hj
    refine h.2.2 (j, mj_tv w u) (List.mem_cons_of_mem _ (List.mem_filter.mpr ⟨mj_as_in hj, ?_⟩))
    simp only [Bool.and_eq_true, Bool.not_eq_true', beq_eq_false_iff_ne, ne_eq, hji, not_false_eq_true, true_and, Bool.and_eq_false_iff]
    by_cases hs : j + 1 = i
    · right
      subst hs
      simp only [mj_nl] at hn
      rw [hj] at hn
      rw [mj_tv_cat]
      cases u <;> first | (cases hn; done) | (intro h9; cases h9; done)
    · exact Or.inl hs
theorem mj_lv_set2 {w : mj_Wd} {ls' : Array Slot} {nL i : Nat} {L : List (Option Value)} {v : Value} (hn : mj_nl L i = true) (h : lv_has ls' nL ((i, mj_tv w v) :: (mj_as w L).filter (fun q => !(q.1 == i) && (!(q.1 == i + 1) && !(q.1 + 1 == i && q.2.category == 2))))) : mj_lv w ls' nL ((L.set i (some v)).set (i + 1) none) := by
  refine ⟨h.1, h.2.1, fun j u hj => ?_⟩
  by_cases hj1 : j = i + 1
  · subst hj1
    rw [List.getElem?_set] at hj
    simp only [if_true] at hj
    split at hj
    · cases hj
    · cases hj
  · rw [List.getElem?_set_ne (Ne.symm hj1)] at hj
    by_cases hji : j = i
    · subst hji
      rw [List.getElem?_set] at hj
      simp only [if_true] at hj
      by_cases hl : j < L.length
      · simp only [hl, if_true, Option.some.injEq] at hj
        subst hj
        exact h.2.2 (j, mj_tv w v) List.mem_cons_self
      · simp only [hl, if_false] at hj
        cases hj
    · rw [List.getElem?_set_ne (Ne.symm hji)] at hj
      refine h.2.2 (j, mj_tv w u) (List.mem_cons_of_mem _ (List.mem_filter.mpr ⟨mj_as_in hj, ?_⟩))
      simp only [Bool.and_eq_true, Bool.not_eq_true', beq_eq_false_iff_ne, ne_eq, hji, hj1, not_false_eq_true, true_and, Bool.and_eq_false_iff]
      by_cases hs : j + 1 = i
      · right
        subst hs
        simp only [mj_nl] at hn
        rw [hj] at hn
        rw [mj_tv_cat]
        cases u <;> first | (cases hn; done) | (intro h9; cases h9; done)
      · exact Or.inl hs
section QL
variable {d : mj_D} {X : mj_X} {Q : Option Value → mj_H → Prop} {pc pc' : Nat} {L L' : List (Option Value)} {st : List Value} {h : mj_H}
/-- an instruction that changes stack and locals -/
theorem q_loc {st' : List Value} (hk : ∀ (w : mj_Wd) (p : Program) (l : Launch) (e : Env) (R : Room) (s : State) (m : MethodId) (args : Array Value) (below : List Frame) (meth : Method) (c : Code) (H : Heap) (locs : List Loc) (ls : Array Slot) (cells slots : Nat) (Z : State → Prop), p.tables.exec = Jvm.exec → c.code = d.1 → mj_lv w ls d.2.2.1 L →
    (∀ ls', mj_lv w ls' d.2.2.1 L' → W p l e R s m args below meth c H locs cells slots Z (F0 m pc' ls' (st'.map (mj_tv w)))) → W p l e R s m args below meth c H locs cells slots Z (F0 m pc ls (st.map (mj_tv w)))) (hn : Wq d X Q pc' L' st' h) : Wq d X Q pc L st h := by
  obtain ⟨w, p, l, e, R, s, m, args, below, meth, c, H0, z0, zf, Z⟩ := X
  intro C H locs ls cells slots hR hL hS h1 h2
  exact hk w p l e R s m args below meth c H locs ls cells slots Z C.1 C.2.1 hL (fun ls' hL' => hn C H locs ls' cells slots hR hL' hS h1 h2)
theorem q_istore_n {k : Fin 4} {x : Int32} (hd : decode d.1 pc = .ok (.istore_n k, 1)) (hp : pc + 1 = pc') (hi : (k : Nat) < d.2.2.1) (hm : mj_nl L (k : Nat) = true) (hl : L.set (k : Nat) (some (.int x)) = L') (hn : Wq d X Q pc' L' st h) : Wq d X Q pc L (.int x :: st) h := by
  subst hp; subst hl
  exact q_loc (fun w _ _ _ _ _ _ _ _ _ _ _ _ _ _ _ _ hx hb hL k => lv_istore_n hx hb hd rfl (mj_lv_has hL) hi rfl (fun ls' h9 => k ls' (mj_lv_set (w := w) (v := .int x) hm h9))) hn
theorem q_istore {k : Nat} {x : Int32} (hd : decode d.1 pc = .ok (.istore k, 2)) (hp : pc + 2 = pc') (hi : k < d.2.2.1) (hm : mj_nl L k = true) (hl : L.set k (some (.int x)) = L') (hn : Wq d X Q pc' L' st h) : Wq d X Q pc L (.int x :: st) h := by
  subst hp; subst hl
  exact q_loc (fun w _ _ _ _ _ _ _ _ _ _ _ _ _ _ _ _ hx hb hL k => lv_istore hx hb hd (mj_lv_has hL) hi rfl (fun ls' h9 => k ls' (mj_lv_set (w := w) (v := .int x) hm h9))) hn
theorem q_astore_n {k : Fin 4} {x : Nat} (hd : decode d.1 pc = .ok (.astore_n k, 1)) (hp : pc + 1 = pc') (hi : (k : Nat) < d.2.2.1) (hm : mj_nl L (k : Nat) = true) (hl : L.set (k : Nat) (some (.ref x)) = L') (hn : Wq d X Q pc' L' st h) : Wq d X Q pc L (.ref x :: st) h := by
  subst hp; subst hl
  exact q_loc (fun w _ _ _ _ _ _ _ _ _ _ _ _ _ _ _ _ hx hb hL k => lv_astore_n hx hb hd rfl (mj_lv_has hL) hi rfl (fun ls' h9 => k ls' (mj_lv_set (w := w) (v := .ref x) hm h9))) hn
theorem q_astore {k : Nat} {x : Nat} (hd : decode d.1 pc = .ok (.astore k, 2)) (hp : pc + 2 = pc') (hi : k < d.2.2.1) (hm : mj_nl L k = true) (hl : L.set k (some (.ref x)) = L') (hn : Wq d X Q pc' L' st h) : Wq d X Q pc L (.ref x :: st) h := by
  subst hp; subst hl
  exact q_loc (fun w _ _ _ _ _ _ _ _ _ _ _ _ _ _ _ _ hx hb hL k => lv_astore hx hb hd (mj_lv_has hL) hi rfl (fun ls' h9 => k ls' (mj_lv_set (w := w) (v := .ref x) hm h9))) hn
theorem q_lstore_n {k : Fin 4} {x : Int64} (hd : decode d.1 pc = .ok (.lstore_n k, 1)) (hp : pc + 1 = pc') (hi : (k : Nat) + 1 < d.2.2.1) (hm : mj_nl L (k : Nat) = true) (hl : (L.set (k : Nat) (some (.long x))).set ((k : Nat) + 1) none = L') (hn : Wq d X Q pc' L' st h) : Wq d X Q pc L (.long x :: st) h := by
  subst hp; subst hl
  exact q_loc (fun w _ _ _ _ _ _ _ _ _ _ _ _ _ _ _ _ hx hb hL k => lv_lstore_n hx hb hd rfl (mj_lv_has hL) hi rfl (fun ls' h9 => k ls' (mj_lv_set2 (w := w) (v := .long x) hm h9))) hn
theorem q_lstore {k : Nat} {x : Int64} (hd : decode d.1 pc = .ok (.lstore k, 2)) (hp : pc + 2 = pc') (hi : k + 1 < d.2.2.1) (hm : mj_nl L k = true) (hl : (L.set k (some (.long x))).set (k + 1) none = L') (hn : Wq d X Q pc' L' st h) : Wq d X Q pc L (.long x :: st) h := by
  subst hp; subst hl
  exact q_loc (fun w _ _ _ _ _ _ _ _ _ _ _ _ _ _ _ _ hx hb hL k => lv_lstore hx hb hd (mj_lv_has hL) hi rfl (fun ls' h9 => k ls' (mj_lv_set2 (w := w) (v := .long x) hm h9))) hn
theorem q_iinc {k : Nat} {n : Int} {x : Int32} (v : Int32) (hd : decode d.1 pc = .ok (.iinc k n, 3)) (hp : pc + 3 = pc') (hi : k < d.2.2.1) (hg : L[k]? = some (some (.int x))) (hv : x + Int32.ofInt n = v) (hm : mj_nl L k = true) (hl : L.set k (some (.int v)) = L') (hn : Wq d X Q pc' L' st h) : Wq d X Q pc L st h := by
  subst hp; subst hl
  exact q_loc (fun w _ _ _ _ _ _ _ _ _ _ _ _ _ _ _ _ hx hb hL k9 => by
    obtain ⟨i9, h9⟩ := List.getElem?_of_mem (mj_as_in (w := w) hg)
    exact lv_iinc hx hb hd (mj_lv_has hL) h9 hv hi rfl (fun ls' h9 => k9 ls' (mj_lv_set (w := w) (v := .int v) hm h9))) hn
end QL
