/-! ===== constructors: VectorDeal, over what is known of text ===== -/
/-- what is known of old cells stays known -/
def SxM (w : mj_Wd) (Sx : State → Heap → Prop) : Prop := (∀ (s U : State) (H0 H : Heap), s.WarmedH U.vm → w.2.1 ≤ H0.size → (∀ q, q < w.2.1 → H[q]? = H0[q]?) → Sx s H0 → Sx U H) ∧ ∀ (s U : State) (H : Heap), U.vm = s.vm → Sx s H → Sx U H
def RgS (Sx : State → Heap → Prop) (w : mj_Wd) (l : Launch) (y : MethodName) (d : mj_D) (As : List Value) (h : mj_H) (z2 : Nat) (P : mj_P) : Prop :=
  h.1 ≤ z2 ∧ Met l y (mj_ws y d) (mj_rmG d h.1 z2) (fun a U => mj_Pc w As h a U ∧ Sx U U.heap) (mj_Qp w z2 P) (z2 - h.1) (mj_sl z2 - mj_sl h.1) (mj_A w)
abbrev RgSV (Sx : State → Heap → Prop) (w : mj_Wd) (l : Launch) (y : MethodName) (d : mj_D) (As : List Value) (h : mj_H) (z2 : Nat) (P : mj_M → mj_J → mj_R → Prop) : Prop := RgS Sx w l y d As h z2 (fun v I J R => v = none ∧ P I J R)
def SxX (Sx : State → Heap → Prop) (X : mj_X) : Prop := match X with
  | (w, _, _, _, _, s, _, _, _, _, _, H0, _, _, _) => SxM w Sx ∧ Sx s H0 ∧ w.2.1 ≤ H0.size
theorem sx_at {Sx : State → Heap → Prop} {w : mj_Wd} {s U : State} {H0 H : Heap} {locs : List Loc} (hM : SxM w Sx) (h : Sx s H0) (hw : w.2.1 ≤ H0.size) (hW : s.WarmedH U.vm) (hS : va_S (mj_A w) H0 H locs) : Sx U H := hM.1 s U H0 H hW hw (fun q hq => hS.2.1 q (by omega) (by unfold mj_A; omega)) h
section RGS
variable {Sx : State → Heap → Prop} {d : mj_D} {X : mj_X} {Q : Option Value → mj_H → Prop} {pc pc' : Nat} {L : List (Option Value)} {st st0 : List Value} {h : mj_H} {z2 : Nat}
theorem q_gIS {y : MethodName} {d' : mj_D} {idx a n : Nat} {As : List Value} {P : mj_M → mj_J → mj_R → Prop} (hX : SxX Sx X) (hd : decode d.1 pc = .ok (.invokespecial idx, 3)) (hp : pc + 3 = pc') (hm : Cond.methodLink d.2.1 idx y ∈ mj_T) (hy : mj_yI y d' n) (hlv : d'.2.2.2.2.1 < d.2.2.2.2.1) (hr : RgSV Sx X.1 X.2.2.1 y d' (.ref a :: As) h z2 P) (ha : a < 472) (hst : st0 = As.reverse ++ .ref a :: st) (hlen : As.length = n) (hw : (st.map fun v => v.category).sum ≤ 8) (hzf : z2 ≤ mj_zf X) (hn : ∀ I' J' R', P I' J' R' → Wq d X Q pc' L st (z2, I', J', R')) : Wq d X Q pc L st0 h := by
  subst hp; subst hst
  obtain ⟨w, p, l, e, Rm, s, m, args, below, meth, c, H0, z0, zf, Z⟩ := X
  intro C H locs ls cells slots hR hL hS h1 h2
  obtain ⟨hle, hM⟩ := hr
  obtain ⟨x1, x2, x3⟩ := hX
  have hsl := mj_sl_mono hle
  have C' := C
  obtain ⟨hx, hb, hml, hown, hts, hK, hz0, ⟨r1, r2, r3, r4⟩, -⟩ := C'
  obtain ⟨y1, y2, y3, ⟨y4, y5⟩, y6, y7, y8⟩ := hy
  have hzf : z2 ≤ zf := hzf
  have hsf := mj_sl_mono hzf
  have haz : a < 1000000 := by omega
  have cw : CallB Rm s args d.2.1 idx y d'.1 d'.2.2.1 none (mj_ws y d') (mj_rmG d' h.1 z2) (z2 - h.1) (mj_sl z2 - mj_sl h.1) n ∧ y.name = "<init>" ∧ (Cond.instanceMethod y).before args s = true :=
    ⟨callB_of n hts (mj_gi y1) (by rw [mj_ws, y8]) rfl rfl (hts _ y2) (hts _ hm) ⟨y4.1, y4.2, y5⟩ ⟨by show d'.2.2.2.2.1 + 1 ≤ _; omega, by show 8 + (d'.2.2.1 + 11) + 38 * d'.2.2.2.2.1 ≤ _; omega⟩, y7, hts _ y6⟩
  have hrun := va_runI (H := H) (locs := locs) (cells := cells) (slots := slots) (p := p) (e := e) (below := below) (meth := meth) (c := c) (m := m) (cc := d.1) (nL := d.2.2.1) (Ts := mj_T) (b := w.2.1 + a) (As := As.map (mj_tv w)) (rest := st.map (mj_tv w)) (g := F0 m pc ls ((As.reverse ++ .ref a :: st).map (mj_tv w))) ⟨hx, hb, hml, hown, hts⟩ hM cw
    ⟨fun _ U _ _ h9 => ⟨h9.1, x1.2 U _ _ rfl h9.2⟩, fun U hU hW => ⟨⟨by rw [List.map_cons]; show _ = (Value.ref (mj_ra w a) :: _).toArray; rw [mj_ra_lo haz], by rw [hU]; exact hR, mj_K_moved hW hK⟩, by rw [hU]; exact sx_at x1 x2 x3 hW hS⟩⟩
    rfl (by rw [List.length_map]; exact hlen) hL.1 (by show List.map _ _ = _; rw [List.map_append, List.map_reverse, List.map_cons]; show _ ++ (Value.ref (mj_ra w a) :: _) = _; rw [mj_ra_lo haz]) (by rw [mj_cats]; show 2 * 0 + _ ≤ 8; omega) hd ⟨by omega, by omega⟩
  exact mj_afterG (fun v I' J' R' ⟨hv, hP⟩ => by subst hv; exact hn I' J' R' hP) C hL hS h1 h2 hle hrun
end RGS
theorem rgS_intro {Sx : State → Heap → Prop} {w : mj_Wd} {l : Launch} {y : MethodName} {d : mj_D} {As : List Value} {z z2 : Nat} {I : mj_M} {J : mj_J} {R : mj_R} {P : mj_P} {L : List (Option Value)} (hSx : SxM w Sx) (hy : plainName y.cls = true ∧ y.cls = d.2.1 ∧ (d.2.2.2.2.2 = true → y.name = "<init>")) (hz : z ≤ z2) (hn : (As.flatMap fun v => if v.category = 2 then [some v, none] else [some v]).length ≤ d.2.2.1) (hL : mj_L0 d.2.2.1 As = L)
    (body : ∀ (Y : mj_Y) (Q : Option Value → mj_H → Prop), SxX Sx (mj_mk w l z2 Y) → (∀ v I' J' R', P v I' J' R' → Q v (z2, I', J', R')) → Wq d (mj_mk w l z2 Y) Q 0 L [] (z, I, J, R)) : RgS Sx w l y d As (z, I, J, R) z2 P := by
  subst hL
  refine ⟨hz, Met.ofW (cc := d.1) (maxL := d.2.2.1) (ret := d.2.2.2.1) hy.1 rfl ?_⟩
  intro p e s m args below meth c s₁ B hml hv
  obtain ⟨⟨rfl, hR, hK⟩, hsx⟩ := hv
  have hts0 := atoms_spec (ws := mj_ws y d) B.pre
  have hts : ∀ wd ∈ mj_T, wd.before (As.map (mj_tv w)).toArray s = true := fun wd h => hts0 wd (List.mem_cons_of_mem _ h)
  have hown : s.vm.findClass d.2.1 = some m.cls := hy.2.1 ▸ findClass_of_methodNamed B.named
  have hnm : meth.name = y.name := (name_of_methodNamed B.named B.method).1
  have hlk := B.notSynchronized
  have hsl := mj_sl_mono hz
  have hsz : s.heap.size = w.2.1 + z := hR.1
  rw [lg_entry_eq]
  have hb := body (p, e, (headSpec (mj_ws y d) (mj_rmG d z z2)).room, s, m, (As.map (mj_tv w)).toArray, below, meth, c, s.heap, z, MQ below (mj_Qp w z2 P) (As.map (mj_tv w)).toArray s (z2 - z) (mj_sl z2 - mj_sl z) (mj_A w)) (mj_Pq z2 P) ⟨hSx, hsx, by show w.2.1 ≤ s.heap.size; omega⟩ (fun v I' J' R' h => ⟨rfl, h⟩)
  refine hb ⟨B.exec, B.bytes, hml, hown, hts, hK, hR.1, ⟨Nat.le_refl _, Nat.le_refl _, ?_, ?_⟩, fun h9 => by rw [hnm]; exact hy.2.2 h9, ?_⟩ s.heap [] _ 0 0 hR (mj_lv0 hn) va_S.rf (Nat.zero_add _) (Nat.zero_add _)
  · show z2 ≤ (z2 - z) + z; omega
  · show mj_sl z2 ≤ (mj_sl z2 - mj_sl z) + mj_sl z; omega
  · intro v2 h2 H locs cells slots pc ls hQ hR2 hS2 hc1 hc2 hrd
    obtain ⟨z9, I2, J2, R2⟩ := h2
    obtain ⟨hz9, hP2⟩ := hQ
    have hz9 : z9 = z2 := hz9
    subst hz9
    have hc1 : cells + z = z9 := hc1
    have hc2 : slots + mj_sl z = mj_sl z9 := hc2
    have ec : z9 - z = cells := by omega
    have es : mj_sl z9 - mj_sl z = slots := by omega
    show W _ _ _ _ _ _ _ _ _ _ _ _ _ _ (MQ below (mj_Qp w z9 P) (As.map (mj_tv w)).toArray s (z9 - z) (mj_sl z9 - mj_sl z) (mj_A w)) _
    rw [ec, es]
    have hq : ∀ t : State, t.heap = H → s.WarmedH t.vm → mj_Qp w z9 P (As.map (mj_tv w)).toArray s (.returned (v2.map (mj_tv w))) t := fun t ht hW => ⟨⟨v2, I2, J2, R2, rfl, hP2, by rw [ht]; exact hR2⟩, hS2.F ht⟩
    match v2, hrd, hq with
    | none, hrd, hq => exact W.vret B.exec B.bytes (B.returns.trans hrd.2) hq hS2.2.2 hrd.1 hlk
    | some (.int x), ⟨r1, ty, r2, r3⟩, hq => exact W.zret B.exec B.bytes (B.returns.trans r2) r3 hq hS2.2.2 r1 hlk
    | some (.long x), hrd, hq => exact W.lret B.exec B.bytes (B.returns.trans hrd.2) hq hS2.2.2 hrd.1 hlk
    | some (.ref x), ⟨r1, C9, r2⟩, hq => exact W.aret B.exec B.bytes (B.returns.trans r2) (Or.inl ⟨C9, rfl⟩) (Or.inr ⟨_, rfl⟩) hq hS2.2.2 r1 hlk
/-- Tokens' references -/
def tkR (R : mj_R) : mj_R := mj_up (mj_up (mj_up (mj_up (mj_up (mj_up R 10 1 11) 10 2 12) 10 3 13) 10 4 14) 10 5 15) 10 0 1
