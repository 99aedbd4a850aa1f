/-! ===== fields, arrays, new cells ===== -/
def mj_up {α : Type} (f : Nat → Nat → α) (a j : Nat) (x : α) : Nat → Nat → α := fun b k => if b = a ∧ k = j then x else f b k
def mj_clr {α : Type} (f : Nat → Nat → α) (a : Nat) (x : α) : Nat → Nat → α := fun b k => if b = a then x else f b k
def mj_ok (z a ci : Nat) : Prop := a < z ∧ (mj_sh a).1 = ci
def mj_oka (z a ki n : Nat) : Prop := a < z ∧ mj_sh a = (ki, n)
def mj_fl (own : String) (idx ci k : Nat) (ty : FieldType) (fin : Bool) : Prop := ∃ q : vw_C, vwCl[ci]? = some q ∧ k < q.2.2 ∧ Cond.fieldLink own idx (q.2.1 k).1 (q.2.1 k).2.1 (q.2.1 k).2.2.1 ∈ mj_T ∧ parseFieldDescriptor (q.2.1 k).2.2.1 = some ty ∧ (q.2.1 k).2.2.2 = fin ∧ (fin = true → (q.2.1 k).1 = own)
def mj_flr (own : String) (idx ci k : Nat) : Prop := ∃ q : vw_C, vwCl[ci]? = some q ∧ k < q.2.2 ∧ Cond.fieldLink own idx (q.2.1 k).1 (q.2.1 k).2.1 (q.2.1 k).2.2.1 ∈ mj_T
def mj_cfok (q : vw_C) : Prop := (∀ w ∈ u_ws q.1 q.2.1 q.2.2, w ∈ mj_T) ∧ (∃ ty : Nat → FieldType, ∀ k, k < q.2.2 → parseFieldDescriptor (q.2.1 k).2.2.1 = some (ty k)) ∧ ∀ a, a < q.2.2 → ∀ b, b < q.2.2 → a ≠ b → (q.2.1 a).2.1 ≠ (q.2.1 b).2.1
theorem mj_in0 : ∀ w ∈ u_ws RX0 TX0 10, w ∈ mj_T := by decide +kernel
theorem mj_in1 : ∀ w ∈ u_ws RX1 TX1 5, w ∈ mj_T := by decide +kernel
theorem mj_in2 : ∀ w ∈ u_ws RX2 TX2 6, w ∈ mj_T := by decide +kernel
theorem mj_in3 : ∀ w ∈ u_ws RX3 TX3 7, w ∈ mj_T := by decide +kernel
theorem mj_in4 : ∀ w ∈ u_ws RX4 TX4 5, w ∈ mj_T := by decide +kernel
theorem mj_in5 : ∀ w ∈ u_ws RX5 TX5 9, w ∈ mj_T := by decide +kernel
theorem mj_in6 : ∀ w ∈ u_ws RX6 TX6 4, w ∈ mj_T := by decide +kernel
theorem mj_in7 : ∀ w ∈ u_ws RX7 TX7 3, w ∈ mj_T := by decide +kernel
theorem mj_in8 : ∀ w ∈ u_ws RX8 TX8 7, w ∈ mj_T := by decide +kernel
theorem mj_in9 : ∀ w ∈ u_ws RX9 TX9 18, w ∈ mj_T := by decide +kernel
theorem mj_in10 : ∀ w ∈ u_ws RX10 TX10 13, w ∈ mj_T := by decide +kernel
theorem mj_in11 : ∀ w ∈ u_ws RX11 TX11 51, w ∈ mj_T := by decide +kernel
theorem mj_cf {ci : Nat} {q : vw_C} (hq : vwCl[ci]? = some q) : mj_cfok q := by
  match ci, hq with
  | 0, hq => cases hq; exact ⟨mj_in0, ⟨_, tyX0_ok⟩, nmX0⟩
  | 1, hq => cases hq; exact ⟨mj_in1, ⟨_, tyX1_ok⟩, nmX1⟩
  | 2, hq => cases hq; exact ⟨mj_in2, ⟨_, tyX2_ok⟩, nmX2⟩
  | 3, hq => cases hq; exact ⟨mj_in3, ⟨_, tyX3_ok⟩, nmX3⟩
  | 4, hq => cases hq; exact ⟨mj_in4, ⟨_, tyX4_ok⟩, nmX4⟩
  | 5, hq => cases hq; exact ⟨mj_in5, ⟨_, tyX5_ok⟩, nmX5⟩
  | 6, hq => cases hq; exact ⟨mj_in6, ⟨_, tyX6_ok⟩, nmX6⟩
  | 7, hq => cases hq; exact ⟨mj_in7, ⟨_, tyX7_ok⟩, nmX7⟩
  | 8, hq => cases hq; exact ⟨mj_in8, ⟨_, tyX8_ok⟩, nmX8⟩
  | 9, hq => cases hq; exact ⟨mj_in9, ⟨_, tyX9_ok⟩, nmX9⟩
  | 10, hq => cases hq; exact ⟨mj_in10, ⟨_, tyX10_ok⟩, nmX10⟩
  | 11, hq => cases hq; exact ⟨mj_in11, ⟨_, tyX11_ok⟩, nmX11⟩
  | n + 12, hq => cases hq
theorem mj_shn_all : ∀ k, k < 472 → (mj_sh k).1 < 12 → (vwCl[(mj_sh k).1]?).map (fun q => q.2.2) = some (mj_sh k).2 := by decide +kernel
theorem mj_shn {z a ci : Nat} {q : vw_C} (hz : z ≤ 472) (ha : mj_ok z a ci) (hq : vwCl[ci]? = some q) : (mj_sh a).1 < 12 ∧ (mj_sh a).2 = q.2.2 := by
  have hl : (mj_sh a).1 < 12 := by rw [ha.2]; exact (List.getElem?_eq_some_iff.mp hq).1
  have h := mj_shn_all a (by have := ha.1; omega) hl
  rw [ha.2, hq] at h
  exact ⟨hl, (Option.some.inj h).symm⟩
theorem mj_obj {w : mj_Wd} {h : mj_H} {H : Heap} {a ci : Nat} {q : vw_C} (hR : mj_rep w h H) (ha : mj_ok h.1 a ci) (hq : vwCl[ci]? = some q) : t_OB (w.2.1 + a) (w.2.2.1.1 ci) q.2.2 (w.2.2.1.2 ci) H (mj_val w h a) := by
  have h1 := hR.2.2 a ha.1
  obtain ⟨h2, h3⟩ := mj_shn hR.2.1 ha hq
  unfold mj_cell at h1
  rw [if_pos h2, h3, ha.2] at h1
  exact h1
theorem mj_arr {w : mj_Wd} {h : mj_H} {H : Heap} {a ki n : Nat} (hR : mj_rep w h H) (ha : mj_oka h.1 a ki n) (hk : ¬ ki < 12) : H[w.2.1 + a]? = some (arrV (w.2.2.2 ki) n (mj_val w h a)) := by
  have h1 := hR.2.2 a ha.1
  unfold mj_cell at h1
  rw [ha.2] at h1
  rw [if_neg hk] at h1
  exact h1
/-- one slot of one cell is new -/
theorem mj_rep_put {w : mj_Wd} {h h' : mj_H} {H H' : Heap} {a : Nat} (hR : mj_rep w h H) (hz : h'.1 = h.1) (hs : H'.size = H.size) (ho : ∀ q, q ≠ w.2.1 + a → H'[q]? = H[q]?) (hv : ∀ b, b ≠ a → mj_val w h' b = mj_val w h b) (hc : a < h.1 → mj_cell w h' H' a) : mj_rep w h' H' := by
  refine ⟨by rw [hs, hz]; exact hR.1, by rw [hz]; exact hR.2.1, fun k hk => ?_⟩
  rw [hz] at hk
  by_cases hka : k = a
  · subst hka; exact hc hk
  · have h1 := hR.2.2 k hk
    have h2 : H'[w.2.1 + k]? = H[w.2.1 + k]? := ho _ (by omega)
    unfold mj_cell at h1 ⊢
    rw [hv k hka]
    by_cases hl : (mj_sh k).1 < 12
    · rw [if_pos hl] at h1 ⊢
      exact h1.kept h2
    · rw [if_neg hl] at h1 ⊢
      rw [h2]; exact h1
theorem mj_val_ne {w : mj_Wd} {z : Nat} {I I' : mj_M} {J J' : mj_J} {R R' : mj_R} {b : Nat} (h1 : ∀ k, I' b k = I b k) (h2 : ∀ k, J' b k = J b k) (h3 : ∀ k, R' b k = R b k) : mj_val w (z, I', J', R') b = mj_val w (z, I, J, R) b := by
  funext k
  simp only [mj_val, h1, h2, h3]
theorem mj_up_ne {α : Type} {f : Nat → Nat → α} {a j b k : Nat} {x : α} (h : b ≠ a) : mj_up f a j x b k = f b k := if_neg (fun q => h q.1)
theorem mj_up_ne2 {α : Type} {f : Nat → Nat → α} {a j b k : Nat} {x : α} (h : k ≠ j) : mj_up f a j x b k = f b k := if_neg (fun q => h q.2)
theorem mj_up_eq {α : Type} {f : Nat → Nat → α} {a j : Nat} {x : α} : mj_up f a j x a j = x := if_pos ⟨rfl, rfl⟩
theorem mj_valI {w : mj_Wd} {z : Nat} {I : mj_M} {J : mj_J} {R : mj_R} {a k : Nat} {x : Int32} (hs : mj_st (mj_sh a).1 k = 0) : mj_val w (z, mj_up I a k x, J, R) a = updV (mj_val w (z, I, J, R) a) k (.int x) := by
  funext f
  by_cases hf : f = k
  · subst hf
    simp only [mj_val, hs, mj_up_eq, updV, if_true]
  · simp only [mj_val, mj_up_ne2 hf, updV, hf, if_false]
theorem mj_valJ {w : mj_Wd} {z : Nat} {I : mj_M} {J : mj_J} {R : mj_R} {a k : Nat} {x : Int64} (hs : mj_st (mj_sh a).1 k = 1) : mj_val w (z, I, mj_up J a k x, R) a = updV (mj_val w (z, I, J, R) a) k (.long x) := by
  funext f
  by_cases hf : f = k
  · subst hf
    simp only [mj_val, hs, mj_up_eq, updV, if_true]
  · simp only [mj_val, mj_up_ne2 hf, updV, hf, if_false]
theorem mj_valR {w : mj_Wd} {z : Nat} {I : mj_M} {J : mj_J} {R : mj_R} {a k : Nat} {x : Nat} (hs : mj_st (mj_sh a).1 k = 2) (hx : x < 1000000) : mj_val w (z, I, J, mj_up R a k x) a = updV (mj_val w (z, I, J, R) a) k (.ref (mj_ra w x)) := by
  funext f
  by_cases hf : f = k
  · subst hf
    simp only [mj_val, hs, mj_up_eq, updV, if_true]
    unfold mj_rv mj_ra mj_nul mj_scr
    rw [if_neg (by omega), if_neg (by omega)]
  · simp only [mj_val, mj_up_ne2 hf, updV, hf, if_false]
theorem mj_ra_lo {w : mj_Wd} {x : Nat} (h : x < 1000000) : mj_ra w x = w.2.1 + x := if_neg (by unfold mj_scr; omega)
section QF
variable {d : mj_D} {X : mj_X} {Q : Option Value → mj_H → Prop} {pc pc' : Nat} {L : List (Option Value)} {st : List Value} {z : Nat} {I : mj_M} {J : mj_J} {R : mj_R}
theorem q_get {a ci k idx : Nat} {v : Value} (hd : decode d.1 pc = .ok (.getfield idx, 3)) (hp : pc + 3 = pc') (hlk : mj_flr d.2.1 idx ci k) (ha : mj_ok z a ci) (hv : ∀ w : mj_Wd, mj_val w (z, I, J, R) a k = mj_tv w v) (hn : Wq d X Q pc' L (v :: st) (z, I, J, R)) : Wq d X Q pc L (.ref a :: st) (z, I, J, R) := by
  subst hp
  obtain ⟨w, p, l, e, Rm, s, m, args, below, meth, c, H0, z0, zf, Z⟩ := X
  intro C H locs ls cells slots hR hL hS h1 h2
  have kk := hn C H locs ls cells slots hR hL hS h1 h2
  obtain ⟨hx, hb, hml, hown, hts, hK, -⟩ := C
  obtain ⟨q, hq, hkN, hl⟩ := hlk
  have hob := mj_obj hR ha hq
  have haz : a < 1000000 := by have := ha.1; have := hR.2.1; dsimp only at this; omega
  obtain ⟨cell, q1, q2, q3, q4⟩ := hob
  obtain ⟨hS9, hfc, kC, hkC, hkind⟩ := hK.1.1 ci q hq
  obtain ⟨cf, kf, fi, f, hi, hsl⟩ := hS9 k hkN
  have hfa := (u_facts hfc hkC (u_lays hts (mj_cf hq).1 hkN) hi).1
  show W p l e Rm s m args below meth c H locs cells slots Z (F0 m pc ls (.ref (mj_ra w a) :: st.map (mj_tv w)))
  rw [mj_ra_lo haz]
  refine W.getf hx hb hown (hts _ hl) hi hfa q1 (by rw [q3]; exact fun h => by cases h) (v := mj_tv w v) ?_ rfl rfl hd kk
  rw [hsl, q4 k hkN, hv w]
theorem q_getI {a ci k idx : Nat} (hd : decode d.1 pc = .ok (.getfield idx, 3)) (hp : pc + 3 = pc') (hlk : mj_flr d.2.1 idx ci k) (ha : mj_ok z a ci) (hs : mj_st ci k = 0) (hn : Wq d X Q pc' L (.int (I a k) :: st) (z, I, J, R)) : Wq d X Q pc L (.ref a :: st) (z, I, J, R) :=
  q_get hd hp hlk ha (fun w => by unfold mj_val; rw [ha.2, hs]; rfl) hn
theorem q_getJ {a ci k idx : Nat} (hd : decode d.1 pc = .ok (.getfield idx, 3)) (hp : pc + 3 = pc') (hlk : mj_flr d.2.1 idx ci k) (ha : mj_ok z a ci) (hs : mj_st ci k = 1) (hn : Wq d X Q pc' L (.long (J a k) :: st) (z, I, J, R)) : Wq d X Q pc L (.ref a :: st) (z, I, J, R) :=
  q_get hd hp hlk ha (fun w => by unfold mj_val; rw [ha.2, hs]; rfl) hn
theorem mj_rv_ra {w : mj_Wd} {x : Nat} (h : x < 1000000) : mj_rv w.2.1 x = .ref (mj_ra w x) := by
  unfold mj_rv mj_ra mj_nul mj_scr
  rw [if_neg (by omega), if_neg (by omega)]
theorem q_getR {a ci k idx : Nat} {r : Nat} (hd : decode d.1 pc = .ok (.getfield idx, 3)) (hp : pc + 3 = pc') (hlk : mj_flr d.2.1 idx ci k) (ha : mj_ok z a ci) (hs : mj_st ci k = 2) (hr : R a k = r) (hlt : r < 1000000) (hn : Wq d X Q pc' L (.ref r :: st) (z, I, J, R)) : Wq d X Q pc L (.ref a :: st) (z, I, J, R) :=
  q_get hd hp hlk ha (fun w => by unfold mj_val; rw [ha.2, hs]; show mj_rv w.2.1 (R a k) = _; rw [hr]; exact mj_rv_ra hlt) hn
/-- a field is written -/
theorem q_put {a ci k idx : Nat} {ty : FieldType} {fin : Bool} {v : Value} {I' : mj_M} {J' : mj_J} {R' : mj_R} (hd : decode d.1 pc = .ok (.putfield idx, 3)) (hp : pc + 3 = pc') (hlk : mj_fl d.2.1 idx ci k ty fin) (hfi : fin = true → d.2.2.2.2.2 = true) (ha : mj_ok z a ci) (hnr : ∀ w : mj_Wd, narrow ty (mj_tv w v) = mj_tv w v) (hft : ∀ w : mj_Wd, fits ty (mj_tv w v) = true)
    (hne : ∀ (w : mj_Wd) b, b ≠ a → mj_val w (z, I', J', R') b = mj_val w (z, I, J, R) b) (heq : ∀ w : mj_Wd, mj_val w (z, I', J', R') a = updV (mj_val w (z, I, J, R) a) k (mj_tv w v)) (hn : Wq d X Q pc' L st (z, I', J', R')) : Wq d X Q pc L (v :: .ref a :: st) (z, I, J, R) := by
  subst hp
  obtain ⟨w, p, l, e, Rm, s, m, args, below, meth, c, H0, z0, zf, Z⟩ := X
  intro C H locs ls cells slots hR hL hS h1 h2
  have kk := fun H' locs' hR' hS' => hn C H' locs' ls cells slots hR' hL hS' h1 h2
  obtain ⟨hx, hb, hml, hown, hts, hK, hz0, -, hini, -⟩ := C
  obtain ⟨q, hq, hkN, hl, hpd, hfin, hdecl⟩ := hlk
  have hob := mj_obj hR ha hq
  have haz : a < 1000000 := by have := ha.1; have := hR.2.1; dsimp only at this; omega
  obtain ⟨cell, q1, q2, q3, q4⟩ := hob
  obtain ⟨hcf, ⟨ty0, hty0⟩, hnm⟩ := mj_cf hq
  obtain ⟨C9, T9, N9⟩ := q
  have hap := va_apart (own := d.2.1) hts hcf ty0 hty0 hnm hK.1 hq
  obtain ⟨hS9, hfc, kC, hkC, hkind⟩ := hK.1.1 ci _ hq
  obtain ⟨cf, kf, fi, f, hi, hsl⟩ := hS9 k hkN
  have hlay := hts _ (hcf _ (u_in_lay hkN))
  have hst := (u_facts hfc hkC (u_lays hts hcf hkN) hi).1
  have hshn := mj_shn hR.2.1 ha hq
  have fin' : ∀ H' : Heap, H'[w.2.1 + a]? = some (cell.setSlot f.slot (mj_tv w v)) → H'.size = H.size → (∀ q, q ≠ w.2.1 + a → H'[q]? = H[q]?) → W p l e Rm s m args below meth c H' (locs ++ [⟨w.2.1 + a, f.slot⟩]) cells slots Z (F0 m (pc + 3) ls (st.map (mj_tv w))) := by
    intro H' e1 e2 e3
    refine kk H' _ (mj_rep_put (a := a) hR rfl e2 e3 (hne w) (fun _ => ?_)) ?_
    · unfold mj_cell
      rw [if_pos hshn.1, hshn.2, ha.2, heq w]
      rw [hsl] at e1
      exact ⟨_, e1, q2, q3, t_set q4 hap hkN _⟩
    · refine ⟨by rw [e2]; exact hS.1, fun q hq1 hq2 => ?_, fun q hq1 => ?_⟩
      · rw [e3 q (fun h => hq2 (by rw [h]; exact Nat.le_add_right _ _))]
        exact hS.2.1 q hq1 hq2
      · rcases List.mem_append.mp hq1 with h9 | h9
        · exact hS.2.2 q h9
        · rw [List.mem_singleton.mp h9]; exact Nat.le_add_right _ _
  show W p l e Rm s m args below meth c H locs cells slots Z (F0 m pc ls (mj_tv w v :: .ref (mj_ra w a) :: st.map (mj_tv w)))
  rw [mj_ra_lo haz]
  cases fin with
  | false =>
    unfold u_lay at hlay
    rw [if_neg (by rw [hfin]; decide)] at hlay
    have h6 := u_store hfc hkC hkind hlay hi hpd (hnr w) (hft w)
    exact W.putK hx hb (f := f) ⟨hown, hts _ hl, ⟨_, _, _, hi⟩, hst⟩ (by rw [q2]; exact h6) q1 q3 (by rw [hsl]; exact k2_hasslot (q4 k hkN)) rfl rfl hd fin'
  | true =>
    unfold u_lay at hlay
    rw [if_pos hfin] at hlay
    have hcf9 : m.cls = cf := by
      obtain ⟨_, _, c', _, _, _, -, -, hf', -, -, -, hown2, -⟩ := Cond.laysFinal_spec hlay
      have e1 : c' = cf := by have := hi.symm.trans hf'; simp at this; exact this.1.symm
      rw [hdecl rfl] at hown2
      rw [← e1]; exact Option.some.inj (hown.symm.trans hown2)
    have h6 := u_fits hfc hkC hkind (Or.inr hlay) hi hpd (hnr w) (hft w)
    exact W.putFinK hx hb hown (hts _ hl) hi hst hcf9 (hini (hfi rfl)) (by rw [q2]; exact h6) q1 q3 (by rw [hsl]; exact k2_hasslot (q4 k hkN)) rfl rfl hd fin'
theorem q_putI {a ci k idx : Nat} {x : Int32} (hd : decode d.1 pc = .ok (.putfield idx, 3)) (hp : pc + 3 = pc') (hlk : mj_fl d.2.1 idx ci k .int false) (ha : mj_ok z a ci) (hs : mj_st ci k = 0) (hn : Wq d X Q pc' L st (z, mj_up I a k x, J, R)) : Wq d X Q pc L (.int x :: .ref a :: st) (z, I, J, R) :=
  q_put hd hp hlk (fun h => by cases h) ha (fun w => rfl) (fun w => rfl) (fun w b hb => mj_val_ne (fun _ => mj_up_ne hb) (fun _ => rfl) (fun _ => rfl)) (fun w => mj_valI (by rw [ha.2]; exact hs)) hn
theorem q_putZ {a ci k idx : Nat} {x : Int32} (hd : decode d.1 pc = .ok (.putfield idx, 3)) (hp : pc + 3 = pc') (hlk : mj_fl d.2.1 idx ci k .boolean false) (ha : mj_ok z a ci) (hs : mj_st ci k = 0) (hx : x = 0 ∨ x = 1) (hn : Wq d X Q pc' L st (z, mj_up I a k x, J, R)) : Wq d X Q pc L (.int x :: .ref a :: st) (z, I, J, R) :=
  q_put hd hp hlk (fun h => by cases h) ha (fun w => by rcases hx with rfl | rfl <;> rfl) (fun w => by rcases hx with rfl | rfl <;> rfl) (fun w b hb => mj_val_ne (fun _ => mj_up_ne hb) (fun _ => rfl) (fun _ => rfl)) (fun w => mj_valI (by rw [ha.2]; exact hs)) hn
theorem q_putJ {a ci k idx : Nat} {x : Int64} (hd : decode d.1 pc = .ok (.putfield idx, 3)) (hp : pc + 3 = pc') (hlk : mj_fl d.2.1 idx ci k .long false) (ha : mj_ok z a ci) (hs : mj_st ci k = 1) (hn : Wq d X Q pc' L st (z, I, mj_up J a k x, R)) : Wq d X Q pc L (.long x :: .ref a :: st) (z, I, J, R) :=
  q_put hd hp hlk (fun h => by cases h) ha (fun w => rfl) (fun w => rfl) (fun w b hb => mj_val_ne (fun _ => rfl) (fun _ => mj_up_ne hb) (fun _ => rfl)) (fun w => mj_valJ (by rw [ha.2]; exact hs)) hn
theorem q_putR {a ci k idx x : Nat} {ty : FieldType} {fin : Bool} (hd : decode d.1 pc = .ok (.putfield idx, 3)) (hp : pc + 3 = pc') (hlk : mj_fl d.2.1 idx ci k ty fin) (hfi : fin = true → d.2.2.2.2.2 = true) (hty : (∃ n, ty = .object n) ∨ ∃ t, ty = .array t) (ha : mj_ok z a ci) (hs : mj_st ci k = 2) (hx : x < 1000000) (hn : Wq d X Q pc' L st (z, I, J, mj_up R a k x)) : Wq d X Q pc L (.ref x :: .ref a :: st) (z, I, J, R) :=
  q_put hd hp hlk hfi ha (fun w => by rcases hty with ⟨n, rfl⟩ | ⟨t, rfl⟩ <;> rfl) (fun w => by rcases hty with ⟨n, rfl⟩ | ⟨t, rfl⟩ <;> rfl) (fun w b hb => mj_val_ne (fun _ => rfl) (fun _ => rfl) (fun _ => mj_up_ne hb)) (fun w => mj_valR (by rw [ha.2]; exact hs) hx) hn
end QF
