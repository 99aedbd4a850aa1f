/-! ===== arrays, new cells ===== -/
theorem mj_shb_all : ∀ k, k < 472 → (mj_sh k).2 ≤ 28400 := by decide +kernel
theorem mj_ki {w : mj_Wd} {h : mj_H} {H : Heap} {a ki n : Nat} (hR : mj_rep w h H) (ha : mj_oka h.1 a ki n) : n ≤ 28400 := by
  have h1 := mj_shb_all a (by have := ha.1; have := hR.2.1; omega)
  rw [ha.2] at h1
  exact h1
def mj_zf (X : mj_X) : Nat := X.2.2.2.2.2.2.2.2.2.2.2.2.2.1
theorem mj_sl_mono {a b : Nat} (h : a ≤ b) : mj_sl a ≤ mj_sl b := by
  induction b with
  | zero => rw [Nat.le_zero.mp h]; exact Nat.le_refl _
  | succ b ih =>
    rcases Nat.lt_or_eq_of_le h with h1 | h1
    · exact Nat.le_trans (ih (Nat.le_of_lt_succ h1)) (Nat.le_add_right _ _)
    · rw [h1]; exact Nat.le_refl _
section QA
variable {d : mj_D} {X : mj_X} {Q : Option Value → mj_H → Prop} {pc pc' : Nat} {L : List (Option Value)} {st : List Value} {z : Nat} {I : mj_M} {J : mj_J} {R : mj_R}
theorem q_iald {a n : Nat} {i : Int32} (j : Nat) (hd : decode d.1 pc = .ok (.iaload, 1)) (hp : pc + 1 = pc') (ha : mj_oka z a 12 n) (hi : i = nI j) (hj : j < n) (hn : Wq d X Q pc' L (.int (I a j) :: st) (z, I, J, R)) : Wq d X Q pc L (.int i :: .ref a :: st) (z, I, J, R) := by
  subst hp; subst hi
  obtain ⟨w, p, l, e, Rm, s, m, args, below, meth, c, H0, z0, zf, Z⟩ := X
  intro C H locs ls cells slots hR hL hS h1 h2
  have kk := hn C H locs ls cells slots hR hL hS h1 h2
  obtain ⟨hx, hb, hml, hown, hts, hK, -⟩ := C
  have hc := mj_arr hR ha (by decide)
  have hN := mj_ki hR ha
  have haz : a < 1000000 := by have := ha.1; have := hR.2.1; dsimp only at this; omega
  have hcl : (nI j).toNatClampNeg = j := nI_clamp (by omega)
  show W p l e Rm s m args below meth c H locs cells slots Z (F0 m pc ls (.int (nI j) :: .ref (mj_ra w a) :: st.map (mj_tv w)))
  rw [mj_ra_lo haz]
  exact W.iald (v := .int (I a j)) hx hb hc ((hK.1.2 0 _ rfl).1 n _) (fun q => by cases q) (by rw [arrV_size]; exact nI_in hj (by omega)) (by rw [hcl, arrV_read _ _ hj]; unfold mj_val; rw [ha.2]; rfl) rfl rfl hd kk
theorem q_bald {a n : Nat} {i : Int32} (j : Nat) (hd : decode d.1 pc = .ok (.baload, 1)) (hp : pc + 1 = pc') (ha : mj_oka z a 13 n) (hi : i = nI j) (hj : j < n) (hn : Wq d X Q pc' L (.int (I a j) :: st) (z, I, J, R)) : Wq d X Q pc L (.int i :: .ref a :: st) (z, I, J, R) := by
  subst hp; subst hi
  obtain ⟨w, p, l, e, Rm, s, m, args, below, meth, c, H0, z0, zf, Z⟩ := X
  intro C H locs ls cells slots hR hL hS h1 h2
  have kk := hn C H locs ls cells slots hR hL hS h1 h2
  obtain ⟨hx, hb, hml, hown, hts, hK, -⟩ := C
  have hc := mj_arr hR ha (by decide)
  have hN := mj_ki hR ha
  have haz : a < 1000000 := by have := ha.1; have := hR.2.1; dsimp only at this; omega
  have hcl : (nI j).toNatClampNeg = j := nI_clamp (by omega)
  show W p l e Rm s m args below meth c H locs cells slots Z (F0 m pc ls (.int (nI j) :: .ref (mj_ra w a) :: st.map (mj_tv w)))
  rw [mj_ra_lo haz]
  exact W.bald (v := .int (I a j)) hx hb hc ((hK.1.2 1 _ rfl).1 n _) (fun q => by cases q) (by rw [arrV_size]; exact nI_in hj (by omega)) (by rw [hcl, arrV_read _ _ hj]; unfold mj_val; rw [ha.2]; rfl) rfl rfl hd kk
theorem q_zald {a n : Nat} {i : Int32} (j : Nat) (hd : decode d.1 pc = .ok (.baload, 1)) (hp : pc + 1 = pc') (ha : mj_oka z a 14 n) (hi : i = nI j) (hj : j < n) (hn : Wq d X Q pc' L (.int (I a j) :: st) (z, I, J, R)) : Wq d X Q pc L (.int i :: .ref a :: st) (z, I, J, R) := by
  subst hp; subst hi
  obtain ⟨w, p, l, e, Rm, s, m, args, below, meth, c, H0, z0, zf, Z⟩ := X
  intro C H locs ls cells slots hR hL hS h1 h2
  have kk := hn C H locs ls cells slots hR hL hS h1 h2
  obtain ⟨hx, hb, hml, hown, hts, hK, -⟩ := C
  have hc := mj_arr hR ha (by decide)
  have hN := mj_ki hR ha
  have haz : a < 1000000 := by have := ha.1; have := hR.2.1; dsimp only at this; omega
  have hcl : (nI j).toNatClampNeg = j := nI_clamp (by omega)
  show W p l e Rm s m args below meth c H locs cells slots Z (F0 m pc ls (.int (nI j) :: .ref (mj_ra w a) :: st.map (mj_tv w)))
  rw [mj_ra_lo haz]
  exact W.zald (v := .int (I a j)) hx hb hc ((hK.1.2 2 _ rfl).1 n _) (fun q => by cases q) (by rw [arrV_size]; exact nI_in hj (by omega)) (by rw [hcl, arrV_read _ _ hj]; unfold mj_val; rw [ha.2]; rfl) rfl rfl hd kk
theorem q_lald {a n : Nat} {i : Int32} (j : Nat) (hd : decode d.1 pc = .ok (.laload, 1)) (hp : pc + 1 = pc') (ha : mj_oka z a 15 n) (hi : i = nI j) (hj : j < n) (hn : Wq d X Q pc' L (.long (J a j) :: st) (z, I, J, R)) : Wq d X Q pc L (.int i :: .ref a :: st) (z, I, J, R) := by
  subst hp; subst hi
  obtain ⟨w, p, l, e, Rm, s, m, args, below, meth, c, H0, z0, zf, Z⟩ := X
  intro C H locs ls cells slots hR hL hS h1 h2
  have kk := hn C H locs ls cells slots hR hL hS h1 h2
  obtain ⟨hx, hb, hml, hown, hts, hK, -⟩ := C
  have hc := mj_arr hR ha (by decide)
  have hN := mj_ki hR ha
  have haz : a < 1000000 := by have := ha.1; have := hR.2.1; dsimp only at this; omega
  have hcl : (nI j).toNatClampNeg = j := nI_clamp (by omega)
  show W p l e Rm s m args below meth c H locs cells slots Z (F0 m pc ls (.int (nI j) :: .ref (mj_ra w a) :: st.map (mj_tv w)))
  rw [mj_ra_lo haz]
  exact W.lald (v := .long (J a j)) hx hb hc ((hK.1.2 3 _ rfl).1 n _) (fun q => by cases q) (by rw [arrV_size]; exact nI_in hj (by omega)) (by rw [hcl, arrV_read _ _ hj]; unfold mj_val; rw [ha.2]; rfl) rfl rfl hd kk
theorem q_aald {a ki n r : Nat} {i : Int32} (j : Nat) (hd : decode d.1 pc = .ok (.aaload, 1)) (hp : pc + 1 = pc') (ha : mj_oka z a ki n) (hki : ki = 16 ∨ ki = 17) (hi : i = nI j) (hj : j < n) (hr : R a j = r) (hlt : r < 1000000) (hn : Wq d X Q pc' L (.ref r :: st) (z, I, J, R)) : Wq d X Q pc L (.int i :: .ref a :: st) (z, I, J, R) := by
  subst hp; subst hi
  obtain ⟨w, p, l, e, Rm, s, m, args, below, meth, c, H0, z0, zf, Z⟩ := X
  intro C H locs ls cells slots hR hL hS h1 h2
  have kk := hn C H locs ls cells slots hR hL hS h1 h2
  obtain ⟨hx, hb, hml, hown, hts, hK, -⟩ := C
  have hc := mj_arr hR ha (by rcases hki with rfl | rfl <;> decide)
  have hN := mj_ki hR ha
  have haz : a < 1000000 := by have := ha.1; have := hR.2.1; dsimp only at this; omega
  have hcl : (nI j).toNatClampNeg = j := nI_clamp (by omega)
  have hv : mj_val w (z, I, J, R) a j = .ref (mj_ra w r) := by
    unfold mj_val
    rw [ha.2]
    rcases hki with rfl | rfl <;> (show mj_rv w.2.1 (R a j) = _; rw [hr]; exact mj_rv_ra hlt)
  show W p l e Rm s m args below meth c H locs cells slots Z (F0 m pc ls (.int (nI j) :: .ref (mj_ra w a) :: st.map (mj_tv w)))
  rw [mj_ra_lo haz]
  rcases hki with rfl | rfl
  · exact W.aald (ty := .array .int) (v := .ref (mj_ra w r)) hx hb hc ((hK.1.2 4 _ rfl).1 n _) rfl (fun q => by cases q) (by rw [arrV_size]; exact nI_in hj (by omega)) (by rw [hcl, arrV_read _ _ hj, hv]) rfl rfl hd kk
  · exact W.aald (ty := .object "VectorDeal$State") (v := .ref (mj_ra w r)) hx hb hc ((hK.1.2 5 _ rfl).1 n _) rfl (fun q => by cases q) (by rw [arrV_size]; exact nI_in hj (by omega)) (by rw [hcl, arrV_read _ _ hj, hv]) rfl rfl hd kk
theorem q_alen {a ki n : Nat} (v : Int32) (hd : decode d.1 pc = .ok (.arraylength, 1)) (hp : pc + 1 = pc') (ha : mj_oka z a ki n) (hki : ki = 12 ∨ ki = 13) (hv : nI n = v) (hn : Wq d X Q pc' L (.int v :: st) (z, I, J, R)) : Wq d X Q pc L (.ref a :: st) (z, I, J, R) := by
  subst hp; subst hv
  obtain ⟨w, p, l, e, Rm, s, m, args, below, meth, c, H0, z0, zf, Z⟩ := X
  intro C H locs ls cells slots hR hL hS h1 h2
  have kk := hn C H locs ls cells slots hR hL hS h1 h2
  obtain ⟨hx, hb, hml, hown, hts, hK, -⟩ := C
  have hc := mj_arr hR ha (by rcases hki with rfl | rfl <;> decide)
  have haz : a < 1000000 := by have := ha.1; have := hR.2.1; dsimp only at this; omega
  show W p l e Rm s m args below meth c H locs cells slots Z (F0 m pc ls (.ref (mj_ra w a) :: st.map (mj_tv w)))
  rw [mj_ra_lo haz]
  rcases hki with rfl | rfl
  · exact W.alen (n := nI n) hx hb hc ((hK.1.2 0 _ rfl).1 n _) (by rw [arrV_size]; rfl) rfl rfl hd kk
  · exact W.alen (n := nI n) hx hb hc ((hK.1.2 1 _ rfl).1 n _) (by rw [arrV_size]; rfl) rfl rfl hd kk
/-- behind a store into an array -/
theorem mj_ast {w : mj_Wd} {H0 H H' : Heap} {locs : List Loc} {a ki n j : Nat} {v : Value} {I' : mj_M} {J' : mj_J} {R' : mj_R} (hR : mj_rep w (z, I, J, R) H) (hS : va_S (mj_A w) H0 H locs) (ha : mj_oka z a ki n) (hki : ¬ ki < 12)
    (hne : ∀ b, b ≠ a → mj_val w (z, I', J', R') b = mj_val w (z, I, J, R) b) (heq : mj_val w (z, I', J', R') a = updV (mj_val w (z, I, J, R) a) j v)
    (e1 : H'[w.2.1 + a]? = some ((arrV (w.2.2.2 ki) n (mj_val w (z, I, J, R) a)).setSlot j v)) (e2 : H'.size = H.size) (e3 : ∀ q, q ≠ w.2.1 + a → H'[q]? = H[q]?) : mj_rep w (z, I', J', R') H' ∧ va_S (mj_A w) H0 H' (locs ++ [⟨w.2.1 + a, j⟩]) := by
  refine ⟨mj_rep_put (a := a) hR rfl e2 e3 hne (fun _ => ?_), by rw [e2]; exact hS.1, fun q hq1 hq2 => ?_, fun q hq1 => ?_⟩
  · unfold mj_cell
    rw [ha.2, if_neg hki, heq, e1, arrV_store]
  · rw [e3 q (fun h => hq2 (by rw [h]; exact Nat.le_add_right _ _))]
    exact hS.2.1 q hq1 hq2
  · rcases List.mem_append.mp hq1 with h9 | h9
    · exact hS.2.2 q h9
    · rw [List.mem_singleton.mp h9]; exact Nat.le_add_right _ _
theorem q_iast {a n : Nat} {i x : Int32} (j : Nat) (hd : decode d.1 pc = .ok (.iastore, 1)) (hp : pc + 1 = pc') (ha : mj_oka z a 12 n) (hi : i = nI j) (hj : j < n) (hn : Wq d X Q pc' L st (z, mj_up I a j x, J, R)) : Wq d X Q pc L (.int x :: .int i :: .ref a :: st) (z, I, J, R) := by
  subst hp; subst hi
  obtain ⟨w, p, l, e, Rm, s, m, args, below, meth, c, H0, z0, zf, Z⟩ := X
  intro C H locs ls cells slots hR hL hS h1 h2
  have kk := fun H' locs' hR' hS' => hn C H' locs' ls cells slots hR' hL hS' h1 h2
  obtain ⟨hx, hb, hml, hown, hts, hK, -⟩ := C
  have hc := mj_arr hR ha (by decide)
  have hN := mj_ki hR ha
  have haz : a < 1000000 := by have := ha.1; have := hR.2.1; dsimp only at this; omega
  have hcl : (nI j).toNatClampNeg = j := nI_clamp (by omega)
  show W p l e Rm s m args below meth c H locs cells slots Z (F0 m pc ls (.int x :: .int (nI j) :: .ref (mj_ra w a) :: st.map (mj_tv w)))
  rw [mj_ra_lo haz]
  refine W.iast hx hb hc ((hK.1.2 0 _ rfl).1 n _) (fun q => by cases q) (by rw [arrV_size]; exact nI_in hj (by omega)) rfl rfl hd fun H' e1 e2 e3 => ?_
  rw [hcl] at e1 ⊢
  have h9 := mj_ast hR hS ha (by decide) (I' := mj_up I a j x) (J' := J) (R' := R) (fun b hb => mj_val_ne (fun _ => mj_up_ne hb) (fun _ => rfl) (fun _ => rfl)) (mj_valI (by rw [ha.2]; rfl)) e1 e2 e3
  exact kk H' _ h9.1 h9.2
theorem q_bast {a n : Nat} {i x : Int32} (j : Nat) (hd : decode d.1 pc = .ok (.bastore, 1)) (hp : pc + 1 = pc') (ha : mj_oka z a 13 n) (hi : i = nI j) (hj : j < n) (hx8 : x.toInt8.toInt32 = x) (hn : Wq d X Q pc' L st (z, mj_up I a j x, J, R)) : Wq d X Q pc L (.int x :: .int i :: .ref a :: st) (z, I, J, R) := by
  subst hp; subst hi
  obtain ⟨w, p, l, e, Rm, s, m, args, below, meth, c, H0, z0, zf, Z⟩ := X
  intro C H locs ls cells slots hR hL hS h1 h2
  have kk := fun H' locs' hR' hS' => hn C H' locs' ls cells slots hR' hL hS' h1 h2
  obtain ⟨hx, hb, hml, hown, hts, hK, -⟩ := C
  have hc := mj_arr hR ha (by decide)
  have hN := mj_ki hR ha
  have haz : a < 1000000 := by have := ha.1; have := hR.2.1; dsimp only at this; omega
  have hcl : (nI j).toNatClampNeg = j := nI_clamp (by omega)
  show W p l e Rm s m args below meth c H locs cells slots Z (F0 m pc ls (.int x :: .int (nI j) :: .ref (mj_ra w a) :: st.map (mj_tv w)))
  rw [mj_ra_lo haz]
  refine W.bast hx hb hc ((hK.1.2 1 _ rfl).1 n _) (fun q => by cases q) (by rw [arrV_size]; exact nI_in hj (by omega)) rfl rfl hd fun H' e1 e2 e3 => ?_
  rw [hcl] at e1 ⊢
  have e1' : H'[w.2.1 + a]? = some ((arrV (w.2.2.2 13) n (mj_val w (z, I, J, R) a)).setSlot j (.int x)) := by rw [e1, show narrow .byte (.int x) = .int x by rw [narrow_byte, hx8]]
  have h9 := mj_ast hR hS ha (by decide) (I' := mj_up I a j x) (J' := J) (R' := R) (fun b hb => mj_val_ne (fun _ => mj_up_ne hb) (fun _ => rfl) (fun _ => rfl)) (mj_valI (by rw [ha.2]; rfl)) e1' e2 e3
  exact kk H' _ h9.1 h9.2
theorem q_zast {a n : Nat} {i x : Int32} (j : Nat) (hd : decode d.1 pc = .ok (.bastore, 1)) (hp : pc + 1 = pc') (ha : mj_oka z a 14 n) (hi : i = nI j) (hj : j < n) (hx1 : x = 0 ∨ x = 1) (hn : Wq d X Q pc' L st (z, mj_up I a j x, J, R)) : Wq d X Q pc L (.int x :: .int i :: .ref a :: st) (z, I, J, R) := by
  subst hp; subst hi
  obtain ⟨w, p, l, e, Rm, s, m, args, below, meth, c, H0, z0, zf, Z⟩ := X
  intro C H locs ls cells slots hR hL hS h1 h2
  have kk := fun H' locs' hR' hS' => hn C H' locs' ls cells slots hR' hL hS' h1 h2
  obtain ⟨hx, hb, hml, hown, hts, hK, -⟩ := C
  have hc := mj_arr hR ha (by decide)
  have hN := mj_ki hR ha
  have haz : a < 1000000 := by have := ha.1; have := hR.2.1; dsimp only at this; omega
  have hcl : (nI j).toNatClampNeg = j := nI_clamp (by omega)
  show W p l e Rm s m args below meth c H locs cells slots Z (F0 m pc ls (.int x :: .int (nI j) :: .ref (mj_ra w a) :: st.map (mj_tv w)))
  rw [mj_ra_lo haz]
  refine W.zast hx hb hc ((hK.1.2 2 _ rfl).1 n _) (fun q => by cases q) (by rw [arrV_size]; exact nI_in hj (by omega)) rfl rfl hd fun H' e1 e2 e3 => ?_
  rw [hcl] at e1 ⊢
  have e1' : H'[w.2.1 + a]? = some ((arrV (w.2.2.2 14) n (mj_val w (z, I, J, R) a)).setSlot j (.int x)) := by rw [e1, show narrow .boolean (.int x) = .int x by rcases hx1 with rfl | rfl <;> rfl]
  have h9 := mj_ast hR hS ha (by decide) (I' := mj_up I a j x) (J' := J) (R' := R) (fun b hb => mj_val_ne (fun _ => mj_up_ne hb) (fun _ => rfl) (fun _ => rfl)) (mj_valI (by rw [ha.2]; rfl)) e1' e2 e3
  exact kk H' _ h9.1 h9.2
theorem q_last {a n : Nat} {i : Int32} {x : Int64} (j : Nat) (hd : decode d.1 pc = .ok (.lastore, 1)) (hp : pc + 1 = pc') (ha : mj_oka z a 15 n) (hi : i = nI j) (hj : j < n) (hn : Wq d X Q pc' L st (z, I, mj_up J a j x, R)) : Wq d X Q pc L (.long x :: .int i :: .ref a :: st) (z, I, J, R) := by
  subst hp; subst hi
  obtain ⟨w, p, l, e, Rm, s, m, args, below, meth, c, H0, z0, zf, Z⟩ := X
  intro C H locs ls cells slots hR hL hS h1 h2
  have kk := fun H' locs' hR' hS' => hn C H' locs' ls cells slots hR' hL hS' h1 h2
  obtain ⟨hx, hb, hml, hown, hts, hK, -⟩ := C
  have hc := mj_arr hR ha (by decide)
  have hN := mj_ki hR ha
  have haz : a < 1000000 := by have := ha.1; have := hR.2.1; dsimp only at this; omega
  have hcl : (nI j).toNatClampNeg = j := nI_clamp (by omega)
  show W p l e Rm s m args below meth c H locs cells slots Z (F0 m pc ls (.long x :: .int (nI j) :: .ref (mj_ra w a) :: st.map (mj_tv w)))
  rw [mj_ra_lo haz]
  refine W.last hx hb hc ((hK.1.2 3 _ rfl).1 n _) (fun q => by cases q) (by rw [arrV_size]; exact nI_in hj (by omega)) rfl rfl hd fun H' e1 e2 e3 => ?_
  rw [hcl] at e1 ⊢
  have h9 := mj_ast hR hS ha (by decide) (I' := I) (J' := mj_up J a j x) (R' := R) (fun b hb => mj_val_ne (fun _ => rfl) (fun _ => mj_up_ne hb) (fun _ => rfl)) (mj_valJ (by rw [ha.2]; rfl)) e1 e2 e3
  exact kk H' _ h9.1 h9.2
/-- a State into an array of such -/
theorem q_aast {a n x : Nat} {i : Int32} (j : Nat) (hd : decode d.1 pc = .ok (.aastore, 1)) (hp : pc + 1 = pc') (ha : mj_oka z a 17 n) (hv : mj_ok z x 5) (hi : i = nI j) (hj : j < n) (hn : Wq d X Q pc' L st (z, I, J, mj_up R a j x)) : Wq d X Q pc L (.ref x :: .int i :: .ref a :: st) (z, I, J, R) := by
  subst hp; subst hi
  obtain ⟨w, p, l, e, Rm, s, m, args, below, meth, c, H0, z0, zf, Z⟩ := X
  intro C H locs ls cells slots hR hL hS h1 h2
  have kk := fun H' locs' hR' hS' => hn C H' locs' ls cells slots hR' hL hS' h1 h2
  obtain ⟨hx, hb, hml, hown, hts, hK, -⟩ := C
  have hc := mj_arr hR ha (by decide)
  have hN := mj_ki hR ha
  have hz4 : z ≤ 472 := hR.2.1
  have haz : a < 1000000 := by have := ha.1; omega
  have hxz : x < 1000000 := by have := hv.1; omega
  have hcl : (nI j).toNatClampNeg = j := nI_clamp (by omega)
  have hob := mj_obj (ci := 5) (q := (RX5, TX5, 9)) hR hv rfl
  obtain ⟨cv, g1, g2, g3, -⟩ := hob
  have hcls := (hK.1.1 5 (RX5, TX5, 9) rfl).2
  obtain ⟨kA, comp, k1, k2, k3, -⟩ := (hK.1.2 5 _ rfl).2
  have hcomp : comp = w.2.2.1.1 5 := Option.some.inj (k3.symm.trans hcls.1)
  subst hcomp
  obtain ⟨hfc, kv, hkv, hkind⟩ := hcls
  show W p l e Rm s m args below meth c H locs cells slots Z (F0 m pc ls (.ref (mj_ra w x) :: .int (nI j) :: .ref (mj_ra w a) :: st.map (mj_tv w)))
  rw [mj_ra_lo haz, mj_ra_lo hxz]
  refine W.aast hx hb hc (fun q h => by cases h) (fun h => by cases h) k1 k2 rfl hkv ⟨nI_pos (by omega), by rw [hcl, arrV_size]; exact hj⟩ g1 (fun q h => by rw [g3] at h; cases h) (by rw [g2]; exact hkv) (by rw [g2]; exact va_assign ⟨hfc, kv, hkv, hkind⟩) rfl rfl hd fun H' e1 e2 e3 => ?_
  rw [hcl] at e1 ⊢
  rw [← mj_ra_lo (w := w) hxz] at e1
  have h9 := mj_ast hR hS ha (by decide) (I' := I) (J' := J) (R' := mj_up R a j x) (fun b hb => mj_val_ne (fun _ => rfl) (fun _ => rfl) (fun _ => mj_up_ne hb)) (mj_valR (by rw [ha.2]; rfl) hxz) e1 e2 e3
  exact kk H' _ h9.1 h9.2
end QA
