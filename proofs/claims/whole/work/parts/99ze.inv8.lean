/-! ===== what acts and questions need of the state ===== -/
section INV8
variable {b A B A' : St} {p0 p : Nat} {fl : Bool}
theorem gI_new (hR : bRd b) : gI b 8 (aNew b) := by
  have z : ∀ f k, f ≠ 0 → f ≠ 9 → aNew b f k = 0 := fun f k h0 h9 => by
    unfold aNew
    rw [if_neg h0, if_neg h9]
  have h7 : ∀ d, aNew b 7 d = 0 := fun d => z 7 d (by decide) (by decide)
  have hlk : ∀ i, ¬ lOK b (aNew b) i := fun i h => by
    have := h.2.2
    rw [h7] at this
    cases this
  refine ⟨⟨fun k _ => ⟨by rw [z 2 k (by decide) (by decide)]; decide, Or.inl ⟨z 1 k (by decide) (by decide), ?_, z 2 k (by decide) (by decide)⟩⟩, fun i _ => ?_, fun d _ => ⟨by rw [h7]; decide, by rw [z 8 d (by decide) (by decide)]; decide, fun _ _ => z 8 d (by decide) (by decide), fun _ => h7 d⟩, fun q _ => ?_⟩, fun d _ h => ?_⟩
  · unfold aNew
    rw [if_pos rfl]
    split <;> decide
  · have e3 := z 3 i (by decide) (by decide)
    have e4 := z 4 i (by decide) (by decide)
    have e5 := z 5 i (by decide) (by decide)
    have e6 := z 6 i (by decide) (by decide)
    unfold gL
    rw [e3, e4, e5, e6]
    exact ⟨⟨by decide, by decide⟩, fun _ => ⟨rfl, rfl, rfl, rfl⟩, fun q h => absurd h (by omega), fun q h => absurd h (by omega), fun h => absurd h (by decide), fun _ q r h => absurd h (by omega)⟩
  · unfold aNew
    rw [if_neg (by decide), if_pos rfl]
    split <;> decide
  · rw [h7] at h; cases h
theorem aCan_of (hk : bOK b) (hI : gI b 8 A) : aCan b A := by
  refine ⟨gC_aOK hk hI.1, gC_pOK hI.1, fun d _ _ => aHoOK_all, fun d k set hd hl => ⟨fun h3 h7 => gG_3 hI hd h7 h3, fun h3 h7 h0 h4 q hq => (move_resv hk hI hd hl h3 h7 h0 h4 q hq).2⟩, fun q hq => ⟨_, gCl_of (p0 := 8) hk hq, fun _ => ⟨gI_on hI, mj_up_eq⟩⟩, fun q hq => ⟨_, uCl_of hk hq, fun _ => ⟨gI_off hI, by rw [mj_up_eq]; decide⟩⟩⟩
theorem start_lt {d : Nat} : (aStart b A d).1 < 10 := by
  unfold aStart
  split
  · exact Nat.le_of_ble_eq_true rfl
  · split
    · exact Nat.le_of_ble_eq_true rfl
    · split <;> exact Nat.le_of_ble_eq_true rfl
theorem claim_lt {d : Nat} : (aClaim b A d).1 < 10 := by
  unfold aClaim
  split
  · exact Nat.le_of_ble_eq_true rfl
  · split <;> exact Nat.le_of_ble_eq_true rfl
theorem move_lt {d k set : Nat} : (aMove b A d k set).1 < 10 := by
  unfold aMove
  split
  · split
    · exact Nat.le_of_ble_eq_true rfl
    · split <;> exact Nat.le_of_ble_eq_true rfl
  · exact Nat.le_of_ble_eq_true rfl
theorem plug_lt : (aPlug b A p).1 < 10 := by
  unfold aPlug
  split <;> exact Nat.le_of_ble_eq_true rfl
theorem ordI_ok {r : Nat → Nat} (hk : bOK b) (h11 : ∀ d, d < b 0 2 → b 1 d = 1 → b 2 d = 1) (hI : gI b 8 A) (ho : oOK b r) : (aOrd b A r).1 < 10 ∧ gI b 8 (aOrd b A r).2 := by
  obtain ⟨o0, o1, o2, o3, o4, o5⟩ := ho
  have hr : r 0 = 0 ∨ r 0 = 1 ∨ r 0 = 2 ∨ r 0 = 3 ∨ r 0 = 4 ∨ r 0 = 5 ∨ r 0 = 6 ∨ r 0 = 7 ∨ r 0 = 8 := by omega
  unfold aOrd
  rcases hr with h | h | h | h | h | h | h | h | h
  · rw [h]; exact ⟨start_lt, gI_start hk hI (o1 (by omega)).2⟩
  · rw [h]
    show (if A 7 (r 1 - 1) = 1 then 0 else 4) < 10 ∧ gI b 8 (if A 7 (r 1 - 1) = 1 then aStop b A (r 1 - 1) else A)
    split
    · exact ⟨Nat.le_of_ble_eq_true rfl, gI_stop hk hI (o1 (by omega)).2⟩
    · exact ⟨Nat.le_of_ble_eq_true rfl, hI⟩
  · rw [h]; exact ⟨claim_lt, gI_claim hI (o1 (by omega)).2⟩
  · rw [h]
    show (if A 7 (r 1 - 1) = 1 ∧ r 2 - 1 < b 2 (r 1 - 1) then 0 else 4) < 10 ∧ gI b 8 (if A 7 (r 1 - 1) = 1 ∧ r 2 - 1 < b 2 (r 1 - 1) then (aRaise A (r 1 - 1) (r 2 - 1) false).2 else A)
    split
    · rename_i q
      exact ⟨Nat.le_of_ble_eq_true rfl, gI_raise hk hI (o1 (by omega)).2 q.1 q.2⟩
    · exact ⟨Nat.le_of_ble_eq_true rfl, hI⟩
  · rw [h]
    show (if A 7 (r 1 - 1) = 1 ∧ r 2 - 1 < b 2 (r 1 - 1) then 0 else 4) < 10 ∧ gI b 8 (if A 7 (r 1 - 1) = 1 ∧ r 2 - 1 < b 2 (r 1 - 1) then (aRaise A (r 1 - 1) (r 2 - 1) true).2 else A)
    split
    · rename_i q
      exact ⟨Nat.le_of_ble_eq_true rfl, gI_raise hk hI (o1 (by omega)).2 q.1 q.2⟩
    · exact ⟨Nat.le_of_ble_eq_true rfl, hI⟩
  · rw [h]
    show (if r 2 - 1 < b 2 (r 1 - 1) then aMove b A (r 1 - 1) (r 2 - 1) (r 3) else (4, A)).1 < 10 ∧ gI b 8 (if r 2 - 1 < b 2 (r 1 - 1) then aMove b A (r 1 - 1) (r 2 - 1) (r 3) else (4, A)).2
    split
    · rename_i q
      exact ⟨move_lt, gI_move hk hI (o1 (by omega)).2 q (h11 _ (o1 (by omega)).2)⟩
    · exact ⟨Nat.le_of_ble_eq_true rfl, hI⟩
  · rw [h]; exact ⟨Nat.le_of_ble_eq_true rfl, gI_ticks hk hI _⟩
  · rw [h]; exact ⟨plug_lt, gI_plug hk hI (o4 (by omega)).2⟩
  · rw [h]; exact ⟨aUnplug_lt, gI_unplug hk hI (o4 (by omega)).2⟩
theorem oCl_of (hk : bOK b) (h11 : ∀ d, d < b 0 2 → b 1 d = 1 → b 2 d = 1) : oCl b (gI b 8) := fun B hB => ⟨aCan_of hk hB, fun r hr => ordI_ok hk h11 hB hr⟩
theorem sCl_of (hk : bOK b) : sCl b (gI b 8) := fun B hB => ⟨⟨gC_aOK hk hB.1, gC_pOK hB.1⟩, gI_tick hk hB, fun d k hd h7 hl => gI_raise hk hB hd h7 hl⟩
theorem w6_of (hC : gC b p0 fl A) : ∀ i, 8 * b 0 2 ≤ i → i < 80 → A 6 i = 0 := fun i h8 hi => ((hC.2.1 i hi).2.1 (fun q => by have := q.1; omega)).2.2.2
theorem sC2_of (hk : bOK b) : sC2 b (gI b 8) := fun B hB => ⟨⟨gC_tI hk hB.1, gI_dI hB.1⟩, fun d k hd _ hl => by
  have hs8 := (hk.2.2.2 d hd).2.1
  have h10 := hk.2.2.1
  exact pv_3 hB.1 (by omega), w6_of hB.1⟩
theorem vOK_of (hI : gC b p0 fl A) : vOK b A := fun k hk h0 => by
  obtain ⟨_, v | ⟨w1, i, w2, w3, w4⟩⟩ := hI.1 k hk
  · omega
  · rw [w2, Nat.add_sub_cancel]
    exact ⟨Nat.succ_ne_zero _, w3.1⟩
theorem oOw_of (hI : gC b p0 fl A) (h11 : ∀ d, d < b 0 2 → b 1 d = 1 → b 2 d = 1) : oOw b A := ⟨fun k hk h0 => by
  obtain ⟨_, v | ⟨w1, i, w2, w3, w4⟩⟩ := hI.1 k hk
  · omega
  · rw [w2, Nat.add_sub_cancel]
    exact ⟨Nat.succ_ne_zero _, w3.1, w3.2.1⟩, h11⟩
theorem lwOK_of (hk : bOK b) (hI : gC b p0 fl A) : lwOK b A := by
  have hc8 := hk.1.2
  have hv32 := hk.2.1.2
  refine ⟨fun q v hq hv => ?_, fun i hi => ?_⟩
  · have h256 : 32 * q + v < 256 := by omega
    have ec : (32 * q + v) / 32 = q := by omega
    have hok := (gC_aOK hk hI).1 _ h256
    unfold lwV
    refine ⟨hok.1, fun h => ?_, fun h => ?_, fun h => ?_, fun h => ?_, fun h => ?_⟩
    · obtain ⟨f1, f2⟩ := gV_free (hI.1 _ h256) h
      exact ⟨f1, by rw [f2]; decide⟩
    · obtain ⟨_, v | ⟨w1, i, w2, w3, w4⟩⟩ := hI.1 _ h256
      · omega
      · have := lOK_lt hk w3
        rw [w2, Nat.add_sub_cancel]
        exact ⟨Nat.succ_ne_zero _, by omega, w3.1, w3.2.2⟩
    · obtain ⟨_, v | ⟨w1, i, w2, w3, w4, w5⟩⟩ := hI.1 _ h256
      · omega
      · rw [w2, Nat.add_sub_cancel]
        rcases w4 with w | w | w
        · exact w.2.1
        · omega
        · omega
    · obtain ⟨_, v | ⟨w1, i, w2, w3, w4, w5⟩⟩ := hI.1 _ h256
      · omega
      · rw [w2, Nat.add_sub_cancel]
        rcases w4 with w | w | w
        · omega
        · exact w.2.1
        · omega
    · obtain ⟨_, v | ⟨w1, i, w2, w3, w4, w5⟩⟩ := hI.1 _ h256
      · omega
      · rw [w2, Nat.add_sub_cancel]
        rcases w4 with w | w | w
        · omega
        · omega
        · have := w5 w.2.2
          rw [ec] at this
          exact ⟨w.2.2, this, by rw [w.2.1]; decide⟩
  · have hg := hI.2.1 i hi
    have hp := pv_3 hI hi
    refine ⟨fun h => ?_, fun h => ?_⟩
    · obtain ⟨z1, z2, z3⟩ := hg.2.2.1 (A 3 i - 1) (by omega)
      exact ⟨hp.1 h, z3, z2⟩
    · obtain ⟨z0, z1, z2, z3⟩ := hg.2.2.2.1 (A 4 i - 1) (by omega)
      exact ⟨hp.2 h, z3, z2⟩
theorem hld_of {i : Nat} (hI : gC b p0 fl A) (hi : i < 80) : hldL b A i := fun h => by
  obtain ⟨z1, z2, z3⟩ := (hI.2.1 i hi).2.2.1 (A 3 i - 1) (by omega)
  exact ⟨(pv_3 hI hi).1 h, z3, z2⟩
theorem h01_of (hk : bOK b) (hI : gC b p0 fl A) : ∀ k, k < 80 → A 5 k ≤ 1 ∧ A 6 k ≤ 1 := fun k hk2 => by
  have := (gC_aOK hk hI).2.1 k hk2
  omega
end INV8
/-! ===== counts ===== -/
def gN (b A : St) : Prop := A 14 1 = sumN (A 10) 10 ∧ A 14 2 = sumN (A 11) 10 ∧ A 14 3 = sumN (A 12) 10 ∧ ∀ j, j < A 14 4 → A 15 j < 40960 ∧ A 15 j / 4096 < b 0 2
section INV9
variable {b A B A' : St} {p0 p : Nat} {fl : Bool}
/-- the counts are the same -/
def hs (A B : St) : Prop := ∀ g, 10 ≤ g → g < 16 → B g = A g
theorem hs.rf : hs A A := fun _ _ _ => rfl
theorem hs.tr {C : St} (h : hs A B) (h2 : hs B C) : hs A C := fun g h1 h3 => (h2 g h1 h3).trans (h g h1 h3)
theorem hs_up {f j x : Nat} (hf : f < 10 ∨ 16 ≤ f) : hs A (mj_up A f j x) := fun g h1 h2 => up_f (by omega)
theorem gN_hs (h : hs A B) (hN : gN b A) : gN b B := by
  unfold gN
  rw [h 10 (by decide) (by decide), h 11 (by decide) (by decide), h 12 (by decide) (by decide), h 14 (by decide) (by decide), h 15 (by decide) (by decide)]
  exact hN
theorem sum_inc {f : Nat → Nat} {d x n : Nat} (hd : d < n) : sumN (fun k => if k = d then f d + x else f k) n = sumN f n + x := by
  have := sumN_up (f := f) (g := fun k => if k = d then f d + x else f k) (n := n) (v := d) hd (fun k _ hne => if_neg hne)
  rw [show (if d = d then f d + x else f d) = f d + x from if_pos rfl] at this
  omega
theorem up_fun {f j x : Nat} : mj_up A f j x f = fun k => if k = j then x else A f k := by
  funext k
  unfold mj_up
  by_cases h : k = j
  · rw [if_pos ⟨rfl, h⟩, if_pos h]
  · rw [if_neg (fun q => h q.2), if_neg h]
theorem gN_merge {d : Nat} (hd : d < 10) (hN : gN b A) : gN b (aMerge A d) := by
  obtain ⟨n1, n2, n3, n4⟩ := hN
  have e11 : aMerge A d 11 = fun k => if k = d then A 11 d + 1 else A 11 k := by
    unfold aMerge
    rw [up_f (by decide), up_fun]
  refine ⟨n1, ?_, n3, n4⟩
  rw [e11, sum_inc hd, ← n2]
  unfold aMerge
  rw [mj_up_eq]
theorem merge_144 {d : Nat} : aMerge A d 14 4 = A 14 4 := rfl
theorem gN_pends {d q : Nat} (hd : d < 10) (hN : gN b A) : gN b (aPends A d q) := by
  unfold aPends
  split
  · exact gN_merge hd hN
  · exact gN_hs (hs_up (by decide)) hN
theorem pends_144 {d q : Nat} : aPends A d q 14 4 = A 14 4 := by
  unfold aPends
  split
  · exact merge_144
  · rfl
theorem gN_raise {d k : Nat} {late : Bool} (hd : d < 10) (hN : gN b A) : gN b (aRaise A d k late).2 ∧ (aRaise A d k late).2 14 4 = A 14 4 := by
  unfold aRaise
  split
  · exact ⟨gN_pends hd hN, pends_144⟩
  · split
    · exact ⟨gN_pends hd hN, pends_144⟩
    · split
      · exact ⟨gN_merge hd hN, merge_144 (A := A) (d := d)⟩
      · exact ⟨gN_hs (hs_up (by decide)) hN, rfl⟩
theorem hs_sets {k s o : Nat} : hs A (aSets A k s o) := (hs_up (by decide)).tr (hs_up (by decide))
theorem hs_holds {i k : Nat} : hs A (aHolds A i k) := hs_sets.tr (hs_up (by decide))
theorem hs_leaves {i k : Nat} : hs A (aLeaves b A i k) := hs_sets.tr (hs_up (by decide))
theorem hs_noOld {i : Nat} : hs A (aNoOld A i) := (hs_up (by decide)).tr (hs_up (by decide))
theorem hs_moves {i k : Nat} : hs A (aMoves A i k) := ((hs_up (by decide)).tr ((hs_up (by decide)).tr (hs_up (by decide)))).tr hs_holds
theorem hs_itN {f : Nat → St → St} (h : ∀ k B, hs B (f k B)) (n : Nat) : hs A (itN f n A) := itN_P (P := fun B => hs A B) (n := n) hs.rf (fun k B _ hB => hB.tr (h k B)) n (Nat.le_refl _)
theorem hs_itO {f : Nat → St → Option St} (h : ∀ k B C, f k B = some C → hs B C) (n : Nat) (hB : itO f n A = some B) : hs A B := itO_P (P := fun B => hs A B) (n := n) hs.rf (fun k B C _ hB hC => hB.tr (h k B C hC)) n B (Nat.le_refl _) hB
theorem hs_start {d : Nat} : hs A (aStart b A d).2 := by
  have h0 : hs A (aSt0 A d) := ((hs_up (by decide)).tr (hs_up (by decide))).tr (hs_itN (fun k B => ((hs_up (by decide)).tr hs_noOld).tr (hs_up (by decide))) 8)
  unfold aStart
  split
  · exact hs.rf
  · split
    · exact hs.rf
    · rename_i X hX
      split
      · exact hs.rf
      · refine h0.tr ?_
        split at hX
        · unfold aStQ at hX
          cases hr : aRsvA b d (aSt0 A d) with
          | none => rw [hr] at hX; cases hX
          | some A1 =>
            rw [hr, Option.map_some] at hX
            cases hX
            refine hs.tr (hs_itO (fun q B C hC => hs_itO (fun k D E hE => ?_) _ hC) _ hr) (hs_itN (fun k B => ?_) _)
            · rcases rsv_step hE with ⟨e, _⟩ | ⟨_, v, _, _, e⟩
              · rw [e]; exact hs.rf
              · rw [e]; exact hs_sets
            · unfold aHoQ
              split
              · exact hs.rf
              · exact hs_holds
        · unfold aStD at hX
          cases hr : aDealt b (aSt0 A d) (b 2 d) (b 3 d) with
          | none => rw [hr] at hX; cases hX
          | some q =>
            rw [hr, Option.map_some] at hX
            cases hX
            exact hs_itN (fun k B => hs_holds) _
theorem hs_claim {d : Nat} : hs A (aClaim b A d).2 := by
  unfold aClaim
  split
  · exact hs.rf
  · split
    · exact hs.rf
    · exact hs_up (by decide)
theorem hs_move {d k set : Nat} : hs A (aMove b A d k set).2 := by
  unfold aMove
  split
  · split
    · exact hs.rf
    · split
      · exact hs.rf
      · rename_i X hX
        split at hX
        · unfold aMvQ at hX
          cases hr : aLeast b A (aOth b set ((A 3 (8 * d + k) - 1) / 32) &&& aSpread b d k) with
          | none => rw [hr] at hX; cases hX
          | some q => rw [hr, Option.map_some] at hX; cases hX; exact hs_moves
        · unfold aMvD at hX
          cases hr : aDealt b A (b 2 d) (aOth b set ((A 3 (8 * d + k) - 1) / 32)) with
          | none => rw [hr] at hX; cases hX
          | some q => rw [hr, Option.map_some] at hX; cases hX; exact hs_itN (fun k B => hs_moves) _
  · exact hs.rf
theorem hs_plug : hs A (aPlug b A p).2 := by
  unfold aPlug
  split
  · exact hs.rf
  · refine (hs_up (f := 9) (by decide)).tr (hs_itN (fun d B => ?_) _)
    unfold aPgD
    split
    · refine hs_itN (fun q C => ?_) _
      unfold aPg1
      split
      · exact (hs_holds.tr (hs_up (by decide))).tr (hs_up (by decide))
      · exact hs.rf
    · exact hs.rf
/-- counts as they may be, and no more was logged -/
def gK (b A B : St) : Prop := gN b A → gN b B ∧ B 14 4 = A 14 4
theorem gK_hs (h : hs A B) : gK b A B := fun hN => ⟨gN_hs h hN, by rw [h 14 (by decide) (by decide)]⟩
theorem gK.tr {C : St} (h : gK b A B) (h2 : gK b B C) : gK b A C := fun hN => ⟨(h2 (h hN).1).1, (h2 (h hN).1).2.trans (h hN).2⟩
theorem gK_pends {d q : Nat} (hd : d < 10) : gK b A (aPends A d q) := fun hN => ⟨gN_pends hd hN, pends_144⟩
theorem gK_oldL {id : Nat} (hid : id < 80) : gK b A (aOldL b A id p) := by
  unfold aOldL
  split
  · split
    · exact (gK_hs (hs_leaves.tr hs_noOld)).tr (gK_pends (by omega))
    · exact gK_hs (hs_leaves.tr hs_noOld)
  · exact gK_hs hs.rf
theorem gK_qend {d id to w : Nat} (hd : d < 10) : gK b A (aQend A d id to w) := by
  unfold aQend
  split
  · exact (gK_hs hs_holds).tr (gK_pends hd)
  · exact gK_hs hs_holds
theorem gK_qlv {d q : Nat} (hd : d < 10) : gK b A (aQLv b A d q p) := by
  unfold aQLv
  split
  · exact gK_hs ((hs_leaves.tr (hs_up (by decide))).tr (hs_up (by decide)))
  · split
    · exact (gK_hs (hs_leaves.tr hs_noOld)).tr (gK_qend hd)
    · exact (gK_hs hs_leaves).tr (gK_qend hd)
theorem gK_itN {f : Nat → St → St} {n : Nat} (h : ∀ k B, k < n → gK b B (f k B)) : gK b A (itN f n A) := itN_P (P := fun B => gK b A B) (n := n) (gK_hs hs.rf) (fun k B hk hB => hB.tr (h k B hk)) n (Nat.le_refl _)
theorem gK_un1 {d : Nat} (hk : bOK b) (hd : d < b 0 2) (h : aUn1 b p d A = some B) : gK b A B := by
  have hs8 := (hk.2.2.2 d hd).2.1
  have h10 := hk.2.2.1
  have ho : gK b A (itN (fun k A => aOldL b A (8 * d + k) p) (b 2 d) A) := gK_itN (fun k B hk2 => gK_oldL (by omega))
  unfold aUn1 at h
  split at h
  · unfold aClear at h
    split at h
    · cases h
      refine gK_itN (fun q B hq => ?_)
      unfold aQ1
      split
      · exact (gK_oldL (by omega)).tr (gK_qlv (by omega))
      · exact gK_oldL (by omega)
    · unfold aClD at h
      split at h
      · refine ho.tr ?_
        unfold aBro at h
        cases hr : aBrTo b (itN (fun k A => aOldL b A (8 * d + k) p) (b 2 d) A) d with
        | none => rw [hr] at h; cases h
        | some to =>
          rw [hr, Option.map_some] at h
          cases h
          exact gK_itN (fun k B _ => gK_hs ((hs_leaves.tr hs_holds).tr (hs_up (by decide))))
      · cases h
        exact ho
  · cases h
    exact gK_hs hs.rf
theorem gK_unplug (hk : bOK b) : gK b A (aUnplug b A p).2 := by
  unfold aUnplug
  split
  · exact gK_hs hs.rf
  · split
    · exact gK_hs hs.rf
    · split
      · exact gK_hs hs.rf
      · rename_i X hX
        split
        · exact gK_hs hs.rf
        · exact (gK_hs (hs_up (f := 9) (by decide))).tr (itO_P (P := fun B => gK b (mj_up A 9 p 0) B) (n := b 0 2) (gK_hs hs.rf) (fun d B C hd hB hC => hB.tr (gK_un1 hk hd hC)) (b 0 2) X (Nat.le_refl _) hX)
theorem gK_stop {d : Nat} (hd : d < 10) : gK b A (aStop b A d) := fun hN => by
  have h1 : ∀ g, 10 ≤ g → g < 16 → aStop2 d (aStop1 b d A) g = A g := fun g h1 h2 => (stop2_g (by omega) (by omega) (by omega) (by omega) (by omega)).trans (stop1_g (by omega) (by omega) (by omega) (by omega))
  have e12 : aStop b A d 12 = fun k => if k = d then A 12 d + aStop2 d (aStop1 b d A) 16 0 else A 12 k := by
    unfold aStop aStop3
    rw [up_f (by decide), up_fun, up_f (by decide), h1 12 (by decide) (by decide)]
  have e14 : ∀ j, aStop b A d 14 j = if j = 3 then A 14 3 + aStop2 d (aStop1 b d A) 16 0 else A 14 j := fun j => by
    unfold aStop aStop3
    rw [up_fun, up_f (show (14:Nat) ≠ 12 by decide), up_f (show (14:Nat) ≠ 7 by decide), h1 14 (by decide) (by decide)]
  have eg : ∀ g, 10 ≤ g → g < 16 → g ≠ 12 → g ≠ 14 → aStop b A d g = A g := fun g q1 q2 q3 q4 => by
    unfold aStop aStop3
    rw [up_f q4, up_f q3, up_f (by omega)]
    exact h1 g q1 q2
  obtain ⟨n1, n2, n3, n4⟩ := hN
  refine ⟨⟨?_, ?_, ?_, ?_⟩, ?_⟩
  · rw [e14, if_neg (by decide), eg 10 (by decide) (by decide) (by decide) (by decide)]; exact n1
  · rw [e14, if_neg (by decide), eg 11 (by decide) (by decide) (by decide) (by decide)]; exact n2
  · rw [e14, if_pos rfl, e12, sum_inc hd, n3]
  · rw [e14, if_neg (by decide), eg 15 (by decide) (by decide) (by decide) (by decide)]; exact n4
  · rw [e14, if_neg (by decide)]
theorem gN_hand {q pl : Nat} (hk : bOK b) (hC : gC b p0 fl A) (h256 : pl < 256) (h2 : A 2 pl = 1) (hN : gN b A) : gN b (aHand A q pl) := by
  obtain ⟨i, i1, i2, i3, i4, i5⟩ := gC_pk hk hC h256 h2
  have e : A 1 pl - 1 = i := by omega
  have hd := i4.1
  have h10 := hk.2.2.1
  obtain ⟨n1, n2, n3, n4⟩ := hN
  refine ⟨?_, ?_, ?_, fun j hj => ?_⟩
  · rw [hand_14, if_neg (by decide), if_pos rfl, hand_10, e, up_fun, sum_inc (by omega), n1]
  · rw [hand_14, if_neg (by decide), if_neg (by decide), hand_g (by decide) (by decide) (by decide) (by decide) (by decide) (by decide)]; exact n2
  · rw [hand_14, if_neg (by decide), if_neg (by decide), hand_g (by decide) (by decide) (by decide) (by decide) (by decide) (by decide)]; exact n3
  · rw [hand_14, if_pos rfl] at hj
    rw [hand_15, up_fun, e]
    by_cases z : j = A 14 4
    · have ho : (if A 0 pl = 3 then 1 else 0) < 2 := by split <;> decide
      generalize (if A 0 pl = 3 then 1 else 0) = o at ho
      show (if j = A 14 4 then eLog i pl o else A 15 j) < 40960 ∧ (if j = A 14 4 then eLog i pl o else A 15 j) / 4096 < b 0 2
      rw [if_pos z]
      unfold eLog
      omega
    · show (if j = A 14 4 then _ else A 15 j) < 40960 ∧ (if j = A 14 4 then _ else A 15 j) / 4096 < b 0 2
      rw [if_neg z]
      exact n4 j (by omega)
theorem gN_tick (hk : bOK b) (hI : gI b p0 A) (hN : gN b A) : gN b (aTick b A) ∧ aTick b A 14 4 ≤ A 14 4 + 8 := by
  have hc8 := hk.1.2
  have hv32 := hk.2.1.2
  have s1 := itN_ind (P := fun m B => (gC b p0 false B ∧ gN b B) ∧ B 14 4 ≤ A 14 4 + m) (f := fun p A => if A 9 p = 1 then aHandle b A p else A) (n := b 0 0) (A := A) ⟨⟨gC_fl hI.1, hN⟩, Nat.le_refl _⟩ (fun q B hq hB => by
    show (gC b p0 false (if B 9 q = 1 then aHandle b B q else B) ∧ gN b (if B 9 q = 1 then aHandle b B q else B)) ∧ (if B 9 q = 1 then aHandle b B q else B) 14 4 ≤ A 14 4 + (q + 1)
    split
    · unfold aHandle
      cases ht : aTop b B q with
      | none => exact ⟨hB.1, by have := hB.2; show B 14 4 ≤ _; omega⟩
      | some v =>
        have hv := top_pend ht
        refine ⟨⟨gC_hand hk hB.1.1 (by omega) hv.2, gN_hand hk hB.1.1 (by omega) hv.2 hB.1.2⟩, ?_⟩
        show aHand B q (32 * q + v) 14 4 ≤ _
        rw [hand_14, if_pos rfl]
        have := hB.2
        omega
    · exact ⟨hB.1, by have := hB.2; omega⟩) (b 0 0) (Nat.le_refl _)
  have s2 : hs (aTick1 b A) (aDrain b (aTick1 b A)) := hs_itN (fun d B => hs_itN (fun k C => by
    unfold aDr1
    split
    · exact hs.rf
    · exact hs_leaves.tr hs_noOld) _) _
  have s3 : gN b (aDrain b (aTick1 b A)) := gN_hs s2 s1.1.2
  refine ⟨⟨s3.1, s3.2.1, s3.2.2.1, s3.2.2.2⟩, ?_⟩
  show aDrain b (aTick1 b A) 14 4 ≤ _
  rw [s2 14 (by decide) (by decide)]
  have := s1.2
  show itN _ _ A 14 4 ≤ _
  omega
theorem gN_ticks (hk : bOK b) (hI : gI b p0 A) (hN : gN b A) (m : Nat) : gN b (aTicks b m A) ∧ aTicks b m A 14 4 ≤ A 14 4 + 8 * m := by
  have := itN_ind (P := fun m B => gI b p0 B ∧ gN b B ∧ B 14 4 ≤ A 14 4 + 8 * m) (f := fun _ A => aTick b A) (n := m) (A := A) ⟨hI, hN, Nat.le_refl _⟩ (fun k B _ hB => ⟨gI_tick hk hB.1, (gN_tick hk hB.1 hB.2.1).1, by
    have := (gN_tick hk hB.1 hB.2.1).2
    have := hB.2.2
    show aTick b B 14 4 ≤ _
    omega⟩) m (Nat.le_refl _)
  exact this.2
theorem gN_new : gN b (aNew b) := by
  have z : ∀ f k, f ≠ 0 → f ≠ 9 → aNew b f k = 0 := fun f k h0 h9 => by
    unfold aNew
    rw [if_neg h0, if_neg h9]
  have s : ∀ f, f ≠ 0 → f ≠ 9 → sumN (aNew b f) 10 = 0 := fun f h0 h9 => sumN_0 (fun k _ => z f k h0 h9)
  refine ⟨?_, ?_, ?_, fun j hj => ?_⟩
  · rw [s 10 (by decide) (by decide), z 14 1 (by decide) (by decide)]
  · rw [s 11 (by decide) (by decide), z 14 2 (by decide) (by decide)]
  · rw [s 12 (by decide) (by decide), z 14 3 (by decide) (by decide)]
  · rw [z 14 4 (by decide) (by decide)] at hj; omega
theorem gOK_of (hN : gN b A) : gOK b A := fun k hk => by
  have := (hN.2.2.2 (A 14 4 - 1 - k) (by omega)).2
  show A 15 (A 14 4 - 1 - k) / 512 / 8 < b 0 2
  omega
/-- all of it, with a bound of what was logged -/
def gA (b : St) (m : Nat) (A : St) : Prop := gI b 8 A ∧ gN b A ∧ A 14 4 ≤ m
theorem gA_mono {m m' : Nat} (h : m ≤ m') (hA : gA b m A) : gA b m' A := ⟨hA.1, hA.2.1, Nat.le_trans hA.2.2 h⟩
theorem gA_K {m : Nat} (hA : gA b m A) (hI : gI b 8 B) (hK : gK b A B) : gA b m B := ⟨hI, (hK hA.2.1).1, by rw [(hK hA.2.1).2]; exact hA.2.2⟩
theorem gA_start {d m : Nat} (hk : bOK b) (hd : d < b 0 2) (hA : gA b m A) : gA b m (aStart b A d).2 := gA_K hA (gI_start hk hA.1 hd) (gK_hs hs_start)
theorem gA_stop {d m : Nat} (hk : bOK b) (hd : d < b 0 2) (hA : gA b m A) : gA b m (aStop b A d) := gA_K hA (gI_stop hk hA.1 hd) (gK_stop (by have := hk.2.2.1; omega))
theorem gA_claim {d m : Nat} (hd : d < b 0 2) (hA : gA b m A) : gA b m (aClaim b A d).2 := gA_K hA (gI_claim hA.1 hd) (gK_hs hs_claim)
theorem gA_raise {d k m : Nat} {late : Bool} (hk : bOK b) (hd : d < b 0 2) (h7 : A 7 d = 1) (hl : k < b 2 d) (hA : gA b m A) : gA b m (aRaise A d k late).2 := gA_K hA (gI_raise hk hA.1 hd h7 hl) (fun hN => gN_raise (by have := hk.2.2.1; omega) hN)
theorem gA_move {d k set m : Nat} (hk : bOK b) (hd : d < b 0 2) (hl : k < b 2 d) (h11 : b 1 d = 1 → b 2 d = 1) (hA : gA b m A) : gA b m (aMove b A d k set).2 := gA_K hA (gI_move hk hA.1 hd hl h11) (gK_hs hs_move)
theorem gA_plug {m : Nat} (hk : bOK b) (hp : p < b 0 0) (hA : gA b m A) : gA b m (aPlug b A p).2 := gA_K hA (gI_plug hk hA.1 hp) (gK_hs hs_plug)
theorem gA_unplug {m : Nat} (hk : bOK b) (hp : p < b 0 0) (hA : gA b m A) : gA b m (aUnplug b A p).2 := gA_K hA (gI_unplug hk hA.1 hp) (gK_unplug hk)
theorem gA_ticks {n m : Nat} (hk : bOK b) (hA : gA b m A) : gA b (m + 8 * n) (aTicks b n A) := ⟨gI_ticks hk hA.1 n, (gN_ticks hk hA.1 hA.2.1 n).1, by
  have := (gN_ticks hk hA.1 hA.2.1 n).2
  have := hA.2.2
  omega⟩
theorem gA_new (hR : bRd b) (m : Nat) : gA b m (aNew b) := ⟨gI_new hR, gN_new, by
  show aNew b 14 4 ≤ m
  unfold aNew
  rw [if_neg (by decide), if_neg (by decide)]
  exact Nat.zero_le _⟩
theorem gA_ord {r : Nat → Nat} {m : Nat} (hk : bOK b) (h11 : ∀ d, d < b 0 2 → b 1 d = 1 → b 2 d = 1) (hA : gA b m A) (ho : oOK b r) : gA b (m + 800) (aOrd b A r).2 := by
  obtain ⟨o0, o1, o2, o3, o4, o5⟩ := ho
  have hr : r 0 = 0 ∨ r 0 = 1 ∨ r 0 = 2 ∨ r 0 = 3 ∨ r 0 = 4 ∨ r 0 = 5 ∨ r 0 = 6 ∨ r 0 = 7 ∨ r 0 = 8 := by omega
  have hm : m ≤ m + 800 := by omega
  unfold aOrd
  rcases hr with h | h | h | h | h | h | h | h | h
  · rw [h]; exact gA_mono hm (gA_start hk (o1 (by omega)).2 hA)
  · rw [h]
    show gA b (m + 800) (if A 7 (r 1 - 1) = 1 then aStop b A (r 1 - 1) else A)
    split
    · exact gA_mono hm (gA_stop hk (o1 (by omega)).2 hA)
    · exact gA_mono hm hA
  · rw [h]; exact gA_mono hm (gA_claim (o1 (by omega)).2 hA)
  · rw [h]
    show gA b (m + 800) (if A 7 (r 1 - 1) = 1 ∧ r 2 - 1 < b 2 (r 1 - 1) then (aRaise A (r 1 - 1) (r 2 - 1) false).2 else A)
    split
    · rename_i q
      exact gA_mono hm (gA_raise hk (o1 (by omega)).2 q.1 q.2 hA)
    · exact gA_mono hm hA
  · rw [h]
    show gA b (m + 800) (if A 7 (r 1 - 1) = 1 ∧ r 2 - 1 < b 2 (r 1 - 1) then (aRaise A (r 1 - 1) (r 2 - 1) true).2 else A)
    split
    · rename_i q
      exact gA_mono hm (gA_raise hk (o1 (by omega)).2 q.1 q.2 hA)
    · exact gA_mono hm hA
  · rw [h]
    show gA b (m + 800) (if r 2 - 1 < b 2 (r 1 - 1) then aMove b A (r 1 - 1) (r 2 - 1) (r 3) else (4, A)).2
    split
    · rename_i q
      exact gA_mono hm (gA_move hk (o1 (by omega)).2 q (h11 _ (o1 (by omega)).2) hA)
    · exact gA_mono hm hA
  · rw [h]
    have := o3 h
    exact gA_mono (by omega) (gA_ticks (n := r 2 - 1) hk hA)
  · rw [h]; exact gA_mono hm (gA_plug hk (o4 (by omega)).2 hA)
  · rw [h]; exact gA_mono hm (gA_unplug hk (o4 (by omega)).2 hA)
end INV9
