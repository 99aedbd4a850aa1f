/-! ===== System.arraycopy: whole arrays of ints, booleans and longs ===== -/
theorem ml_sys_i : Cond.initialized "java/lang/System" ∈ mj_T := mem_T (i := 157) (by decide +kernel) rfl
theorem ml_sys_s : Cond.static arraycopyName ∈ mj_T := mem_T (i := 821) (by decide +kernel) rfl
theorem ml_sys_n : Cond.native arraycopyName ∈ mj_T := mem_T (i := 822) (by decide +kernel) rfl
theorem nI_nneg {n : Nat} (h : n < 2 ^ 31) : ¬ nI n < 0 := by
  intro q
  have h1 := Int32.lt_iff_toInt_lt.mp q
  rw [nI_toInt h] at h1
  have h2 : (0 : Int32).toInt = 0 := rfl
  rw [h2] at h1
  omega
section QCP
variable {d : mj_D} {X : mj_X} {Q : Option Value → mj_H → Prop} {pc pc' : Nat} {L : List (Option Value)} {st : List Value} {z : Nat} {I : mj_M} {J : mj_J} {R : mj_R}
theorem q_copy {a0 a ki n idx t : Nat} {ty : FieldType} {I' : mj_M} {J' : mj_J} {R' : mj_R} (hd : decode d.1 pc = .ok (.invokestatic idx, 3)) (hp : pc + 3 = pc') (hm : Cond.methodLink d.2.1 idx arraycopyName ∈ mj_T) (hlv : 0 < d.2.2.2.2.1) (ha0 : mj_oka z a0 ki n) (ha : mj_oka z a ki n) (hki : ¬ ki < 12) (ht : ∀ w : mj_Wd, (mj_tys w)[t]? = some (w.2.2.2 ki, ty)) (hprim : refKind ty = false) (hw : (st.map fun v => v.category).sum ≤ 8)
    (hfit : ∀ (w : mj_Wd) j, j < n → fits ty (mj_val w (z, I, J, R) a0 j) = true ∧ ((∃ x, mj_val w (z, I, J, R) a0 j = .int x) ∨ ∃ x, mj_val w (z, I, J, R) a0 j = .long x))
    (hne : ∀ (w : mj_Wd) b, b ≠ a → mj_val w (z, I', J', R') b = mj_val w (z, I, J, R) b) (heq : ∀ (w : mj_Wd) j, mj_val w (z, I', J', R') a j = if j < n then mj_val w (z, I, J, R) a0 j else mj_val w (z, I, J, R) a j)
    (hn : Wq d X Q pc' L st (z, I', J', R')) : Wq d X Q pc L (.int (nI n) :: .int (nI 0) :: .ref a :: .int (nI 0) :: .ref a0 :: st) (z, I, J, R) := by
  subst hp
  obtain ⟨w, p, l, e, Rm, s, m, args, below, meth, c, H0, z0, zf, Z⟩ := X
  intro C H locs ls cells slots hR hL hS h1 h2
  have kk := fun H' locs' hR' hS' => hn C H' locs' ls cells slots hR' hL hS' h1 h2
  obtain ⟨hx, hb, hml, hown, hts, hK, -, ⟨r1, r2, -, -⟩, -⟩ := C
  have hc0 := mj_arr hR ha0 hki
  have hc1 := mj_arr hR ha hki
  have hN := mj_ki hR ha
  have hN : n ≤ 28400 := hN
  have haz0 : a0 < 1000000 := by have := ha0.1; have := hR.2.1; dsimp only at this; omega
  have haz : a < 1000000 := by have := ha.1; have := hR.2.1; dsimp only at this; omega
  show W p l e Rm s m args below meth c H locs cells slots Z (F0 m pc ls (.int (nI n) :: .int (nI 0) :: .ref (mj_ra w a) :: .int (nI 0) :: .ref (mj_ra w a0) :: st.map (mj_tv w)))
  rw [mj_ra_lo haz, mj_ra_lo haz0]
  intro T hT Xs
  obtain ⟨-, k0, hk0, cm0, hkk0⟩ := (hK.1.2 t _ (ht w)).1 n (mj_val w (z, I, J, R) a0)
  obtain ⟨-, k1, hk1, cm1, hkk1⟩ := (hK.1.2 t _ (ht w)).1 n (mj_val w (z, I, J, R) a)
  have z1 : ¬ nI 0 < 0 := nI_nneg (by decide)
  have z2 : (nI 0).toInt = 0 := rfl
  have z3 : (nI 0).toNatClampNeg = 0 := rfl
  have z4 : (nI n).toInt = n := nI_toInt (by omega)
  have z5 : (nI n).toNatClampNeg = n := nI_clamp (by omega)
  have hcats := mj_cats w st
  obtain ⟨vm', X', step⟩ := Xs.arraycopy hx hown (hts _ hm) (hts _ ml_sys_n) (hts _ ml_sys_s) (hts _ ml_sys_i) (src := w.2.1 + a0) (dst := w.2.1 + a) (cs := arrV (w.2.2.2 ki) n (mj_val w (z, I, J, R) a0)) (cd := arrV (w.2.2.2 ki) n (mj_val w (z, I, J, R) a)) (srcPos := nI 0) (destPos := nI 0) (n := nI n) (by rw [hT]; exact hc0) (by rw [hT]; exact hc1)
    (fun _ h => by cases h) (fun _ h => by cases h) (fun h => by cases h) (fun h => by cases h) hk0 hk1 hkk0 hkk1 (by simp [hprim]) z1 z1 (nI_nneg (by omega))
    (by rw [z2, z4, arrV_size]; omega)
    (by rw [z2, z4, arrV_size]; omega)
    (fun vm₁ _ i hi => by
      rw [z5] at hi
      have e : (arrV (w.2.2.2 ki) n (mj_val w (z, I, J, R) a0)).slots.getD ((nI 0).toNatClampNeg + i) .null = mj_val w (z, I, J, R) a0 i := by
        rw [z3, Nat.zero_add, Array.getD_eq_getD_getElem?, arrV_read _ _ hi]
        rfl
      rw [e]
      obtain ⟨f1, f2⟩ := hfit w i hi
      refine ⟨f1, ?_⟩
      rcases f2 with ⟨x, hx⟩ | ⟨x, hx⟩
      · rw [hx]; exact trivial
      · rw [hx]; exact trivial)
    (g := F0 m pc ls (.int (nI n) :: .int (nI 0) :: .ref (w.2.1 + a) :: .int (nI 0) :: .ref (w.2.1 + a0) :: st.map (mj_tv w))) rfl (by rw [hml]; exact hL.1) (rest := st.map (mj_tv w)) rfl (by rw [hb]; exact hd) (by omega) (by show 2 * 0 + _ + (7 + 11) ≤ _; omega)
  have e1 : copied (arrV (w.2.2.2 ki) n (mj_val w (z, I, J, R) a0)) (arrV (w.2.2.2 ki) n (mj_val w (z, I, J, R) a)) (nI 0) (nI 0) (nI n) = arrV (w.2.2.2 ki) n (mj_val w (z, I', J', R') a) := by
    have q := va_copied (fun v : Value => v) (w.2.2.2 ki) (w.2.2.2 ki) (n0 := n) (n1 := n) (sp := 0) (dp := 0) (n := n) (mj_val w (z, I, J, R) a0) (mj_val w (z, I, J, R) a) (by omega)
    have q2 : copied (arrV (w.2.2.2 ki) n (mj_val w (z, I, J, R) a0)) (arrV (w.2.2.2 ki) n (mj_val w (z, I, J, R) a)) (nI 0) (nI 0) (nI n) = (arrV (w.2.2.2 ki) n (mj_val w (z, I, J, R) a)).storeRun 0 ((arrV (w.2.2.2 ki) n (mj_val w (z, I, J, R) a0)).stretch 0 n) := by
      unfold copied
      rw [z3, z5]
    rw [q2]
    refine q.trans ?_
    congr 1
    funext j
    rw [heq w j]
    unfold va_cpy
    by_cases hj : j < n
    · rw [if_pos ⟨Nat.zero_le _, by omega⟩, if_pos hj, Nat.zero_add, Nat.sub_zero]
    · rw [if_neg (fun q => hj (by omega)), if_neg hj]
  rw [e1] at X' step
  have hl : w.2.1 + a < H.size := (Array.getElem?_eq_some_iff.mp hc1).1
  have hheap : ((T.setVm vm').setCell (w.2.1 + a) (arrV (w.2.2.2 ki) n (mj_val w (z, I', J', R') a))).heap = H.setIfInBounds (w.2.1 + a) (arrV (w.2.2.2 ki) n (mj_val w (z, I', J', R') a)) := by rw [← hT]; rfl
  have oq : ∀ q : Nat, q ≠ w.2.1 + a → (H.setIfInBounds (w.2.1 + a) (arrV (w.2.2.2 ki) n (mj_val w (z, I', J', R') a)))[q]? = H[q]? := fun q hq => by simp [Array.getElem?_setIfInBounds, Ne.symm hq]
  have hR' : mj_rep w (z, I', J', R') (H.setIfInBounds (w.2.1 + a) (arrV (w.2.2.2 ki) n (mj_val w (z, I', J', R') a))) := by
    refine mj_rep_put (a := a) hR rfl (by simp) oq (hne w) (fun _ => ?_)
    unfold mj_cell
    rw [ha.2, if_neg hki]
    simp [Array.getElem?_setIfInBounds, hl]
  obtain ⟨t2, a1, b1⟩ := kk _ _ hR' ⟨by simp; exact hS.1, fun q g1 g2 => by
      rw [oq q (fun e => g2 (by rw [e]; exact Nat.le_add_right _ _))]
      exact hS.2.1 q g1 g2, fun q hq => by
      rcases List.mem_append.mp hq with h | h
      · exact hS.2.2 q h
      · obtain ⟨z9, -, hz⟩ := List.mem_map.mp h
        rw [← hz]
        exact Nat.le_add_right _ _⟩ _ hheap X'
  exact ⟨t2, step t2 a1, b1⟩
def mj_cpJ (J : mj_J) (a n : Nat) (f : Nat → Int64) : mj_J := fun x k => if x = a ∧ k < n then f k else J x k
theorem val_int {w : mj_Wd} {b j : Nat} (h : mj_st (mj_sh b).1 j = 0) : mj_val w (z, I, J, R) b j = .int (I b j) := by
  unfold mj_val
  rw [h]
  rfl
theorem val_long {w : mj_Wd} {b j : Nat} (h : mj_st (mj_sh b).1 j = 1) : mj_val w (z, I, J, R) b j = .long (J b j) := by
  unfold mj_val
  rw [h]
  rfl
theorem q_copyI {a0 a n idx : Nat} (hd : decode d.1 pc = .ok (.invokestatic idx, 3)) (hp : pc + 3 = pc') (hm : Cond.methodLink d.2.1 idx arraycopyName ∈ mj_T) (hlv : 0 < d.2.2.2.2.1) (ha0 : mj_oka z a0 12 n) (ha : mj_oka z a 12 n) (hw : (st.map fun v => v.category).sum ≤ 8) (hn : Wq d X Q pc' L st (z, mj_cp I a n (I a0), J, R)) : Wq d X Q pc L (.int (nI n) :: .int (nI 0) :: .ref a :: .int (nI 0) :: .ref a0 :: st) (z, I, J, R) := by
  have s0 : ∀ j, mj_st (mj_sh a0).1 j = 0 := fun j => by rw [ha0.2]; rfl
  have s1 : ∀ j, mj_st (mj_sh a).1 j = 0 := fun j => by rw [ha.2]; rfl
  refine q_copy (t := 0) (ty := .int) (I' := mj_cp I a n (I a0)) (J' := J) (R' := R) hd hp hm hlv ha0 ha (by decide) (fun w => rfl) rfl hw (fun w j _ => ?_) (fun w b hb => mj_val_ne (fun k => if_neg (fun q => hb q.1)) (fun _ => rfl) (fun _ => rfl)) (fun w j => ?_) hn
  · rw [val_int (s0 j)]
    exact ⟨rfl, Or.inl ⟨_, rfl⟩⟩
  · rw [val_int (s1 j), val_int (s0 j), val_int (s1 j)]
    unfold mj_cp
    by_cases hj : j < n
    · rw [if_pos ⟨rfl, hj⟩, if_pos hj]
    · rw [if_neg (fun q => hj q.2), if_neg hj]
theorem q_copyZ {a0 a n idx : Nat} (hd : decode d.1 pc = .ok (.invokestatic idx, 3)) (hp : pc + 3 = pc') (hm : Cond.methodLink d.2.1 idx arraycopyName ∈ mj_T) (hlv : 0 < d.2.2.2.2.1) (ha0 : mj_oka z a0 14 n) (ha : mj_oka z a 14 n) (hbo : ∀ j, j < n → I a0 j = 0 ∨ I a0 j = 1) (hw : (st.map fun v => v.category).sum ≤ 8) (hn : Wq d X Q pc' L st (z, mj_cp I a n (I a0), J, R)) : Wq d X Q pc L (.int (nI n) :: .int (nI 0) :: .ref a :: .int (nI 0) :: .ref a0 :: st) (z, I, J, R) := by
  have s0 : ∀ j, mj_st (mj_sh a0).1 j = 0 := fun j => by rw [ha0.2]; rfl
  have s1 : ∀ j, mj_st (mj_sh a).1 j = 0 := fun j => by rw [ha.2]; rfl
  refine q_copy (t := 2) (ty := .boolean) (I' := mj_cp I a n (I a0)) (J' := J) (R' := R) hd hp hm hlv ha0 ha (by decide) (fun w => rfl) rfl hw (fun w j hj => ?_) (fun w b hb => mj_val_ne (fun k => if_neg (fun q => hb q.1)) (fun _ => rfl) (fun _ => rfl)) (fun w j => ?_) hn
  · rw [val_int (s0 j)]
    refine ⟨?_, Or.inl ⟨_, rfl⟩⟩
    rcases hbo j hj with h | h <;> rw [h] <;> rfl
  · rw [val_int (s1 j), val_int (s0 j), val_int (s1 j)]
    unfold mj_cp
    by_cases hj : j < n
    · rw [if_pos ⟨rfl, hj⟩, if_pos hj]
    · rw [if_neg (fun q => hj q.2), if_neg hj]
theorem q_copyJ {a0 a n idx : Nat} (hd : decode d.1 pc = .ok (.invokestatic idx, 3)) (hp : pc + 3 = pc') (hm : Cond.methodLink d.2.1 idx arraycopyName ∈ mj_T) (hlv : 0 < d.2.2.2.2.1) (ha0 : mj_oka z a0 15 n) (ha : mj_oka z a 15 n) (hw : (st.map fun v => v.category).sum ≤ 8) (hn : Wq d X Q pc' L st (z, I, mj_cpJ J a n (J a0), R)) : Wq d X Q pc L (.int (nI n) :: .int (nI 0) :: .ref a :: .int (nI 0) :: .ref a0 :: st) (z, I, J, R) := by
  have s0 : ∀ j, mj_st (mj_sh a0).1 j = 1 := fun j => by rw [ha0.2]; rfl
  have s1 : ∀ j, mj_st (mj_sh a).1 j = 1 := fun j => by rw [ha.2]; rfl
  refine q_copy (t := 3) (ty := .long) (I' := I) (J' := mj_cpJ J a n (J a0)) (R' := R) hd hp hm hlv ha0 ha (by decide) (fun w => rfl) rfl hw (fun w j _ => ?_) (fun w b hb => mj_val_ne (fun _ => rfl) (fun k => if_neg (fun q => hb q.1)) (fun _ => rfl)) (fun w j => ?_) hn
  · rw [val_long (s0 j)]
    exact ⟨rfl, Or.inr ⟨_, rfl⟩⟩
  · rw [val_long (s1 j), val_long (s0 j), val_long (s1 j)]
    unfold mj_cpJ
    by_cases hj : j < n
    · rw [if_pos ⟨rfl, hj⟩, if_pos hj]
    · rw [if_neg (fun q => hj q.2), if_neg hj]
end QCP
