/-! ===== MOVE, PLUG keep it ===== -/
section INV5
variable {b A B A' : St} {p0 : Nat} {fl : Bool}
/-- something is RESERVED for a QUEUE where it has nothing else -/
theorem resv_ex {d q p : Nat} (hk : bOK b) (hI : gI b p0 A) (hd : d < b 0 2) (h7 : A 7 d = 1) (h3 : b 1 d = 3) (hq : q < b 2 d) (hp : p < b 0 0) (ht : (aSpread b d q).testBit p = true) (hn3 : ∀ s, A 3 (8 * d + q) = s + 1 → s / 32 ≠ p) (hn4 : ∀ s, A 4 (8 * d + q) = s + 1 → s / 32 ≠ p) : ∃ v, aResv b A (8 * d + q) p = some v := by
  have hc8 := hk.1.2
  have hv32 := hk.2.1.2
  obtain ⟨v, v1, v2⟩ := (hI.2 d hd h7).1 h3 q hq p hp ht
  obtain ⟨y2, y1, y3, y4⟩ := gV_own (hI.1.1 (32 * p + v) (by omega)) v2
  rcases y4.1 with w | w | w
  · exact absurd (show (32 * p + v) / 32 = p by omega) (hn3 _ w.2.1)
  · exact absurd (show (32 * p + v) / 32 = p by omega) (hn4 _ w.2.1)
  · exact resv_of v1 w.1 v2
theorem oth_bit {set p j : Nat} : (aOth b set p).testBit j = (decide (j < b 0 0) && (set.testBit j && (j != p))) := bitN_bit _ _ _
theorem any_4 {d k : Nat} (h : aAny b A d k = false) : A 4 (8 * d + k) = 0 := Decidable.byContradiction fun q => by
  rw [show aAny b A d k = true from by unfold aAny; rw [bne_iff_ne.mpr q]; exact Bool.true_or _] at h
  cases h
theorem any_all {d k : Nat} (h11 : b 1 d = 1 → b 2 d = 1) (hr : b 1 d = 1 ∨ b 1 d = 2) (hl : k < b 2 d) (h : aAny b A d k = false) : ∀ j, j < b 2 d → A 4 (8 * d + j) = 0 := fun j hj => Decidable.byContradiction fun q => by
  rw [any_d h11 hr hl] at h
  rw [(anyN_iff (P := fun j => A 4 (8 * d + j) != 0)).mpr ⟨j, hj, bne_iff_ne.mpr q⟩] at h
  cases h
theorem move_resv {d k set : Nat} (hk : bOK b) (hI : gI b p0 A) (hd : d < b 0 2) (hl : k < b 2 d) (h3 : b 1 d = 3) (h7 : A 7 d = 1) (h0 : A 3 (8 * d + k) ≠ 0) (h4 : A 4 (8 * d + k) = 0) : ∀ p, aLeast b A (aOth b set ((A 3 (8 * d + k) - 1) / 32) &&& aSpread b d k) = some p → (p ≠ (A 3 (8 * d + k) - 1) / 32 ∧ (aSpread b d k).testBit p = true) ∧ ∃ v, aResv b A (8 * d + k) p = some v := fun p hp => by
  obtain ⟨l1, l2, l3⟩ := least_some hp
  rw [Nat.testBit_and, Bool.and_eq_true, oth_bit] at l2
  have hne : p ≠ (A 3 (8 * d + k) - 1) / 32 := by
    have := l2.1
    rw [Bool.and_eq_true, Bool.and_eq_true, bne_iff_ne] at this
    exact this.2.2
  exact ⟨⟨hne, l2.2⟩, resv_ex hk hI hd h7 h3 hl l1 l2.2 (fun s hs q => hne (by rw [hs, Nat.add_sub_cancel]; exact q.symm)) (fun s hs => absurd hs (by omega))⟩
theorem gI_move {d k set : Nat} (hk : bOK b) (hI : gI b p0 A) (hd : d < b 0 2) (hl : k < b 2 d) (h11 : b 1 d = 1 → b 2 d = 1) : gI b p0 (aMove b A d k set).2 := by
  have hc8 := hk.1.2
  have hv32 := hk.2.1.2
  have hs := (hk.2.2.2 d hd).2.1
  have hkd := (hk.2.2.2 d hd).1
  have h10 := hk.2.2.1
  unfold aMove
  by_cases h : A 7 d = 1 ∧ A 3 (8 * d + k) ≠ 0
  · rw [if_pos h]
    by_cases ha : aAny b A d k = true
    · rw [if_pos ha]; exact hI
    · rw [if_neg ha]
      have ha := Bool.eq_false_iff.mpr ha
      have h4 := any_4 ha
      by_cases h3 : b 1 d = 3
      · rw [if_pos h3]
        unfold aMvQ
        cases hp : aLeast b A (aOth b set ((A 3 (8 * d + k) - 1) / 32) &&& aSpread b d k) with
        | none => exact hI
        | some p =>
          obtain ⟨⟨hne, hsp⟩, v, hv⟩ := move_resv hk hI hd hl h3 h.1 h.2 h4 p hp
          obtain ⟨l1, l2, l3⟩ := least_some hp
          obtain ⟨v1, v2, v3⟩ := resv_some hv
          show gI b p0 (aMoves A (8 * d + k) (32 * p + (aResv b A (8 * d + k) p).getD 0))
          rw [hv]
          show gI b p0 (aMoves A (8 * d + k) (32 * p + v))
          have ec : (32 * p + v) / 32 = p := by omega
          have e8 : (8 * d + k) / 8 = d := by omega
          have hC : gC b p0 true (aMoves A (8 * d + k) (32 * p + v)) := gC_moves (q := A 3 (8 * d + k) - 1) hI.1 (by omega) (by omega) h4 (kIn_of hk l1 v1) (by omega) (by rw [ec]; exact l3) (Or.inr ⟨v2, v3⟩) (fun _ => by rw [ec]; exact hne)
          refine gI_kp hk hI hC ⟨fun j _ _ _ => ?_, fun e j he h3e hj => ?_, moves_g (by decide) (by decide) (by decide) (by decide) (by decide)⟩
          · rw [moves_1]
            by_cases z : j = 32 * p + v
            · rw [z, mj_up_eq, v3]
            · rw [mj_up_ne2 z]
          · have he8 := (hk.2.2.2 e he).2.1
            have hed : e ≠ d := fun z => h3e (by rw [z]; exact h3)
            rw [moves_3, mj_up_ne2 (by omega)]
      · rw [if_neg h3]
        have h4a := any_all h11 (by omega) hl ha
        unfold aMvD
        cases hp : aDealt b A (b 2 d) (aOth b set ((A 3 (8 * d + k) - 1) / 32)) with
        | none => exact hI
        | some p =>
          obtain ⟨p1, p2, p3, i, hi⟩ := dealt_3 hp
          obtain ⟨f1, f2⟩ := blk_free hs.1 hi
          obtain ⟨cp, hcp⟩ := (hI.2 d hd h.1).2 h3
          show gI b p0 (itN (fun j B => aMoves B (8 * d + j) (32 * p + (b 2 d * (aBlk b A p (b 2 d)).getD 0 + j))) (b 2 d) A)
          rw [hi]
          show gI b p0 (itN (fun j B => aMoves B (8 * d + j) (32 * p + (b 2 d * i + j))) (b 2 d) A)
          have key := itN_ind (P := fun m B => (gC b p0 true B ∧ B 9 = A 9 ∧ B 7 = A 7) ∧ (∀ j, m ≤ j → j < b 2 d → B 0 (32 * p + (b 2 d * i + j)) = 0 ∧ B 3 (8 * d + j) = A 3 (8 * d + j) ∧ B 4 (8 * d + j) = 0) ∧ (∀ j, j < m → B 3 (8 * d + j) = 32 * p + (b 2 d * i + j) + 1) ∧ (∀ q, q < 256 → A 1 q ≠ 0 → B 1 q = A 1 q) ∧ ∀ t, t / 8 ≠ d → B 3 t = A 3 t) (f := fun j B => aMoves B (8 * d + j) (32 * p + (b 2 d * i + j))) (n := b 2 d) (A := A) ⟨⟨hI.1, rfl, rfl⟩, fun j _ hj => ⟨f2 j hj, rfl, h4a j hj⟩, fun j hj => absurd hj (Nat.not_lt_zero _), fun _ _ _ => rfl, fun _ _ => rfl⟩ (fun r B hrr hB => by
            obtain ⟨⟨b1, b9, b7⟩, b2, b3, b4, b5⟩ := hB
            obtain ⟨w0, w3, w4⟩ := b2 r (Nat.le_refl _) hrr
            have hk256 : 32 * p + (b 2 d * i + r) < 256 := by omega
            have w1 := (gV_free (b1.1 _ hk256) (by omega)).1
            have ec : (32 * p + (b 2 d * i + r)) / 32 = p := by omega
            have e8 : (8 * d + r) / 8 = d := by omega
            obtain ⟨s, s1, s2⟩ := hcp r hrr
            rw [s1] at w3
            obtain ⟨x1, x2, x3⟩ := (b1.2.1 (8 * d + r) (by omega)).2.2.1 s w3
            have eq : B 3 (8 * d + r) - 1 = s := by omega
            show (gC b p0 true (aMoves B (8 * d + r) (32 * p + (b 2 d * i + r))) ∧ aMoves B (8 * d + r) (32 * p + (b 2 d * i + r)) 9 = A 9 ∧ aMoves B (8 * d + r) (32 * p + (b 2 d * i + r)) 7 = A 7) ∧ (∀ j, r + 1 ≤ j → j < b 2 d → aMoves B (8 * d + r) (32 * p + (b 2 d * i + r)) 0 (32 * p + (b 2 d * i + j)) = 0 ∧ aMoves B (8 * d + r) (32 * p + (b 2 d * i + r)) 3 (8 * d + j) = A 3 (8 * d + j) ∧ aMoves B (8 * d + r) (32 * p + (b 2 d * i + r)) 4 (8 * d + j) = 0) ∧ (∀ j, j < r + 1 → aMoves B (8 * d + r) (32 * p + (b 2 d * i + r)) 3 (8 * d + j) = 32 * p + (b 2 d * i + j) + 1) ∧ (∀ q, q < 256 → A 1 q ≠ 0 → aMoves B (8 * d + r) (32 * p + (b 2 d * i + r)) 1 q = A 1 q) ∧ ∀ t, t / 8 ≠ d → aMoves B (8 * d + r) (32 * p + (b 2 d * i + r)) 3 t = A 3 t
            rw [moves_0, moves_1, moves_3, moves_4, eq, moves_g (show (9:Nat) ≠ 0 by decide) (by decide) (by decide) (by decide) (by decide), moves_g (show (7:Nat) ≠ 0 by decide) (by decide) (by decide) (by decide) (by decide)]
            refine ⟨⟨gC_moves (q := s) b1 (by omega) w3 w4 ⟨by omega, by omega⟩ hk256 (by rw [ec, b9]; exact p3) (Or.inl ⟨w0, w1, by rw [e8]; exact h3⟩) (fun z => absurd (by rw [e8] at z; exact z) h3), b9, b7⟩, fun j hj hj2 => ?_, fun j hj => ?_, fun q hq h1 => ?_, fun t ht => ?_⟩
            · obtain ⟨u0, u3, u4⟩ := b2 j (by omega) hj2
              have hne : 32 * p + (b 2 d * i + j) ≠ s := fun z => by rw [z] at u0; omega
              exact ⟨by rw [mj_up_ne2 (by omega), mj_up_ne2 hne]; exact u0, by rw [mj_up_ne2 (by omega)]; exact u3, by rw [mj_up_ne2 (by omega)]; exact u4⟩
            · by_cases z : j = r
              · rw [z, mj_up_eq]
              · rw [mj_up_ne2 (by omega)]; exact b3 j (by omega)
            · have := b4 q hq h1
              rw [mj_up_ne2 (fun z => h1 (by rw [← this, z]; exact w1))]
              exact this
            · rw [mj_up_ne2 (by omega)]; exact b5 t ht) (b 2 d) (Nat.le_refl _)
          obtain ⟨⟨s1, s9, s7⟩, _, s3, s4, s5⟩ := key
          refine ⟨s1, fun e he h7e => ?_⟩
          rw [s7] at h7e
          obtain ⟨g1, g2⟩ := hI.2 e he h7e
          refine ⟨gM_keep hk he (fun k q1 q2 _ => s4 k q1 q2) g1, ?_⟩
          have he8 := (hk.2.2.2 e he).2.1
          by_cases ed : e = d
          · subst ed
            exact fun _ => ⟨p, fun j hj => ⟨32 * p + (b 2 e * i + j), s3 j hj, by omega⟩⟩
          · exact gG_keep (fun j hj => s5 _ (by omega)) g2
  · rw [if_neg h]; exact hI
theorem gI_pg1 {d q p : Nat} (hk : bOK b) (hI : gI b p0 A) (h9 : A 9 p = 1) (hp : p < b 0 0) (hd : d < b 0 2) (h7 : A 7 d = 1) (h3 : b 1 d = 3) (hq : q < b 2 d) : gI b p0 (aPg1 b p d q A) ∧ aPg1 b p d q A 9 p = 1 := by
  have hc8 := hk.1.2
  have hv32 := hk.2.1.2
  have hs := (hk.2.2.2 d hd).2.1
  have h10 := hk.2.2.1
  unfold aPg1
  by_cases h : A 3 (8 * d + q) = 0 ∧ (aSpread b d q).testBit p = true
  · rw [if_pos h]
    have hg := hI.1.2.1 (8 * d + q) (by omega)
    obtain ⟨v, hv⟩ := resv_ex hk hI hd h7 h3 hq hp h.2 (fun s hs => absurd hs (by omega)) (fun s hs => absurd h.1 (hg.2.2.2.1 s hs).1)
    obtain ⟨v1, v2, v3⟩ := resv_some hv
    rw [hv]
    show gI b p0 (mj_up (mj_up (aHolds A (8 * d + q) (32 * p + v)) 2 (32 * p + v) (A 6 (8 * d + q))) 6 (8 * d + q) 0) ∧ A 9 p = 1
    have ec : (32 * p + v) / 32 = p := by omega
    refine ⟨gI_kp hk hI (gC_hold hI.1 (lOK_of hk hd hq h7) (by omega) h.1 (kIn_of hk hp v1) (by omega) (by rw [ec]; exact h9) (Or.inr ⟨v2, v3⟩) hg.1.2 (by decide)) ⟨fun j _ _ _ => ?_, fun e j he h3e hj => ?_, rfl⟩, h9⟩
    · rw [hld_1]
      split
      · rename_i z; rw [z, v3]
      · rfl
    · have he8 := (hk.2.2.2 e he).2.1
      have hed : e ≠ d := fun z => h3e (by rw [z]; exact h3)
      rw [hld_3, if_neg (by omega)]
  · rw [if_neg h]; exact ⟨hI, h9⟩
theorem gCl_of {p : Nat} (hk : bOK b) (hp : p < b 0 0) : gCl b p (fun B => gI b p0 B ∧ B 9 p = 1) := by
  have h10 := hk.2.2.1
  refine ⟨fun B hB => gC_aOK hk hB.1.1, fun B d q hB hd h7 h3 hq h0 ht => ?_, fun B d q hB hd h7 h3 hq => gI_pg1 hk hB.1 hB.2 hp hd h7 h3 hq⟩
  have hs := (hk.2.2.2 d hd).2.1
  exact resv_ex hk hB.1 hd h7 h3 hq hp ht (fun s hs => absurd hs (by omega)) (fun s hs2 => absurd h0 ((hB.1.1.2.1 (8 * d + q) (by omega)).2.2.2.1 s hs2).1)
theorem gC2_of {p : Nat} (hk : bOK b) (hp : p < b 0 0) : gC2 b p (fun B => gI b p0 B ∧ B 9 p = 1) := by
  have hc8 := hk.1.2
  have hv32 := hk.2.1.2
  refine ⟨fun B d q v hB hd h7 h3 hq hv => ?_, fun B k hB h256 h4 => ?_⟩
  · have hs := (hk.2.2.2 d hd).2.1
    obtain ⟨v1, v2, v3⟩ := resv_some hv
    have := (gV_own (hB.1.1.1 (32 * p + v) (by omega)) v3).2.2.2.2
    rw [show (8 * d + q) / 8 = d by omega, show (8 * d + q) % 8 = q by omega, show (32 * p + v) / 32 = p by omega] at this
    exact this h3
  · obtain ⟨_, v | ⟨w1, i, w2, w3, w4, w5⟩⟩ := hB.1.1.1 k h256
    · omega
    · rcases w4 with w | w | w
      · omega
      · omega
      · omega
theorem gI_on {p : Nat} (hI : gI b p0 A) : gI b p0 (mj_up A 9 p 1) := ⟨gC_on hI.1, hI.2⟩
theorem gI_plug {p : Nat} (hk : bOK b) (hI : gI b p0 A) (hp : p < b 0 0) : gI b p0 (aPlug b A p).2 := by
  unfold aPlug
  split
  · exact hI
  · exact (u_pgD (gCl_of hk hp) ⟨gI_on hI, mj_up_eq⟩ (b 0 2) (Nat.le_refl _)).1
end INV5
