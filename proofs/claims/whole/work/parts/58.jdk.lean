/-! ===== what the class calls of the JDK ===== -/
theorem us32 {n k : Nat} (hn : n < 2 ^ 32) (hk : k < 32) : ((nI n).toUInt32 >>> ((nI k).toUInt32 &&& Int32.toUInt32 31)).toInt32 = nI (n / 2 ^ k) := by
  have hs : ∀ k, k < 32 → ((nI k).toUInt32 &&& Int32.toUInt32 31).toBitVec % 32 = BitVec.ofNat 32 k := by decide +kernel
  apply Int32.toBitVec_inj.mp
  show ((nI n).toUInt32 >>> ((nI k).toUInt32 &&& Int32.toUInt32 31)).toBitVec = BitVec.ofNat 32 (n / 2 ^ k)
  rw [UInt32.toBitVec_shiftRight, hs k hk]
  apply BitVec.eq_of_toNat_eq
  show (BitVec.ofNat 32 n >>> (BitVec.ofNat 32 k)).toNat = _
  rw [BitVec.ushiftRight_eq', BitVec.toNat_ushiftRight, BitVec.toNat_ofNat, BitVec.toNat_ofNat, BitVec.toNat_ofNat, Nat.shiftRight_eq_div_pow, Nat.mod_eq_of_lt hn, Nat.mod_eq_of_lt (show k < 2 ^ 32 by omega), Nat.mod_eq_of_lt (Nat.lt_of_le_of_lt (Nat.div_le_self _ _) hn)]
theorem and_sp {a b c d : Nat} (ha : a < 256) (hc : c < 256) : (a + 256 * b) &&& (c + 256 * d) = (a &&& c) + 256 * (b &&& d) := by
  have h1 : ((a + 256 * b) &&& (c + 256 * d)) % 2 ^ 8 = (a &&& c) := by
    rw [Nat.and_mod_two_pow, show (a + 256 * b) % 2 ^ 8 = a by omega, show (c + 256 * d) % 2 ^ 8 = c by omega]
  have h2 : ((a + 256 * b) &&& (c + 256 * d)) / 2 ^ 8 = (b &&& d) := by
    rw [Nat.and_div_two_pow, show (a + 256 * b) / 2 ^ 8 = b by omega, show (c + 256 * d) / 2 ^ 8 = d by omega]
  have h3 := Nat.div_add_mod ((a + 256 * b) &&& (c + 256 * d)) (2 ^ 8)
  rw [h1, h2] at h3
  omega
theorem and_4 {a0 a1 a2 a3 c : Nat} (h0 : a0 < 256) (h1 : a1 < 256) (h2 : a2 < 256) (hc : c < 256) : (a0 + 256 * (a1 + 256 * (a2 + 256 * a3))) &&& (c + 256 * (c + 256 * (c + 256 * c))) = (a0 &&& c) + 256 * ((a1 &&& c) + 256 * ((a2 &&& c) + 256 * (a3 &&& c))) := by
  rw [and_sp h0 hc, and_sp h1 hc, and_sp h2 hc]
def bcA (x : Nat) : Nat := x - (x / 2 &&& 85)
def bcB (x : Nat) : Nat := (x &&& 51) + (x / 4 &&& 51)
def bcC (x : Nat) : Nat := (x + x / 16) &&& 15
def bc8 (x : Nat) : Nat := cntN (fun k => x.testBit k) 8
theorem bc_all : ∀ x, x < 256 → bcC (bcB (bcA x)) = bc8 x ∧ (x / 2 &&& 85) ≤ x ∧ bcA x < 256 ∧ bcB (bcA x) % 16 ≤ 4 ∧ bcB (bcA x) / 16 ≤ 4 ∧ bc8 x ≤ 8 := by decide +kernel
theorem bc_m1 : ∀ x, x < 256 → ∀ e, e < 2 → (x / 2 + 128 * e) &&& 85 = (x / 2 &&& 85) := by decide +kernel
theorem bc_m2 : ∀ x, x < 256 → ∀ e, e < 4 → (x / 4 + 64 * e) &&& 51 = (x / 4 &&& 51) := by decide +kernel
theorem bc_m3 : ∀ x, x < 5 → ∀ y, y < 5 → ∀ e, e < 5 → (x + 16 * y + (y + 16 * e)) &&& 15 = bcC (x + 16 * y) := by decide +kernel
theorem bc_fin {c0 c1 c2 c3 : Nat} (h0 : c0 ≤ 8) (h1 : c1 ≤ 8) (h2 : c2 ≤ 8) (h3 : c3 ≤ 8) : (c0 + 256 * (c1 + 256 * (c2 + 256 * c3)) + (c0 + 256 * (c1 + 256 * (c2 + 256 * c3))) / 256 + (c0 + 256 * (c1 + 256 * (c2 + 256 * c3)) + (c0 + 256 * (c1 + 256 * (c2 + 256 * c3))) / 256) / 65536) % 2 ^ 6 = c0 + c1 + c2 + c3 := by
  have e1 : (c0 + 256 * (c1 + 256 * (c2 + 256 * c3))) / 256 = c1 + 256 * (c2 + 256 * c3) := by omega
  rw [e1]
  have e2 : (c0 + 256 * (c1 + 256 * (c2 + 256 * c3)) + (c1 + 256 * (c2 + 256 * c3))) / 65536 = c2 + c3 + 256 * c3 := by omega
  rw [e2]
  omega
theorem bc_nat {x0 x1 x2 x3 : Nat} (h0 : x0 < 256) (h1 : x1 < 256) (h2 : x2 < 256) (h3 : x3 < 256) :
    ∃ y z v w, y = x0 + 256 * (x1 + 256 * (x2 + 256 * x3)) - ((x0 + 256 * (x1 + 256 * (x2 + 256 * x3))) / 2 &&& 1431655765) ∧ ((x0 + 256 * (x1 + 256 * (x2 + 256 * x3))) / 2 &&& 1431655765) ≤ x0 + 256 * (x1 + 256 * (x2 + 256 * x3)) ∧ y < 2 ^ 32
    ∧ z = (y &&& 858993459) + (y / 4 &&& 858993459) ∧ z < 2 ^ 32 ∧ v = ((z + z / 16) &&& 252645135) ∧ v < 2 ^ 31 ∧ w = v + v / 256 ∧ w < 2 ^ 31 ∧ (w + w / 65536) &&& 63 = bc8 x0 + bc8 x1 + bc8 x2 + bc8 x3 := by
  obtain ⟨a0, b0, c0, d0, e0, f0⟩ := bc_all x0 h0
  obtain ⟨a1, b1, c1, d1, e1, f1⟩ := bc_all x1 h1
  obtain ⟨a2, b2, c2, d2, e2, f2⟩ := bc_all x2 h2
  obtain ⟨a3, b3, c3, d3, e3, f3⟩ := bc_all x3 h3
  have s1 : (x0 + 256 * (x1 + 256 * (x2 + 256 * x3))) / 2 &&& 1431655765 = (x0 / 2 &&& 85) + 256 * ((x1 / 2 &&& 85) + 256 * ((x2 / 2 &&& 85) + 256 * (x3 / 2 &&& 85))) := by
    rw [show (x0 + 256 * (x1 + 256 * (x2 + 256 * x3))) / 2 = (x0 / 2 + 128 * (x1 % 2)) + 256 * ((x1 / 2 + 128 * (x2 % 2)) + 256 * ((x2 / 2 + 128 * (x3 % 2)) + 256 * (x3 / 2))) by omega, show (1431655765:Nat) = 85 + 256 * (85 + 256 * (85 + 256 * 85)) by decide, and_4 (by omega) (by omega) (by omega) (by decide), bc_m1 x0 h0 _ (by omega), bc_m1 x1 h1 _ (by omega), bc_m1 x2 h2 _ (by omega)]
  have y0 : bcA x0 = x0 - (x0 / 2 &&& 85) := rfl
  have y1 : bcA x1 = x1 - (x1 / 2 &&& 85) := rfl
  have y2 : bcA x2 = x2 - (x2 / 2 &&& 85) := rfl
  have y3 : bcA x3 = x3 - (x3 / 2 &&& 85) := rfl
  have s2 : x0 + 256 * (x1 + 256 * (x2 + 256 * x3)) - ((x0 / 2 &&& 85) + 256 * ((x1 / 2 &&& 85) + 256 * ((x2 / 2 &&& 85) + 256 * (x3 / 2 &&& 85)))) = bcA x0 + 256 * (bcA x1 + 256 * (bcA x2 + 256 * bcA x3)) := by omega
  have le1 : (x0 / 2 &&& 85) + 256 * ((x1 / 2 &&& 85) + 256 * ((x2 / 2 &&& 85) + 256 * (x3 / 2 &&& 85))) ≤ x0 + 256 * (x1 + 256 * (x2 + 256 * x3)) := by omega
  refine ⟨bcA x0 + 256 * (bcA x1 + 256 * (bcA x2 + 256 * bcA x3)), bcB (bcA x0) + 256 * (bcB (bcA x1) + 256 * (bcB (bcA x2) + 256 * bcB (bcA x3))), bc8 x0 + 256 * (bc8 x1 + 256 * (bc8 x2 + 256 * bc8 x3)), bc8 x0 + 256 * (bc8 x1 + 256 * (bc8 x2 + 256 * bc8 x3)) + (bc8 x0 + 256 * (bc8 x1 + 256 * (bc8 x2 + 256 * bc8 x3))) / 256, ?_, ?_, ?_, ?_, ?_, ?_, ?_, rfl, ?_, ?_⟩
  · rw [s1, s2]
  · rw [s1]; exact le1
  · omega
  · generalize bcA x0 = p0 at c0
    generalize bcA x1 = p1 at c1
    generalize bcA x2 = p2 at c2
    generalize bcA x3 = p3 at c3
    have t1 : (p0 + 256 * (p1 + 256 * (p2 + 256 * p3))) &&& 858993459 = (p0 &&& 51) + 256 * ((p1 &&& 51) + 256 * ((p2 &&& 51) + 256 * (p3 &&& 51))) := by
      rw [show (858993459:Nat) = 51 + 256 * (51 + 256 * (51 + 256 * 51)) by decide, and_4 c0 c1 c2 (by decide)]
    have t2 : (p0 + 256 * (p1 + 256 * (p2 + 256 * p3))) / 4 &&& 858993459 = (p0 / 4 &&& 51) + 256 * ((p1 / 4 &&& 51) + 256 * ((p2 / 4 &&& 51) + 256 * (p3 / 4 &&& 51))) := by
      rw [show (p0 + 256 * (p1 + 256 * (p2 + 256 * p3))) / 4 = (p0 / 4 + 64 * (p1 % 4)) + 256 * ((p1 / 4 + 64 * (p2 % 4)) + 256 * ((p2 / 4 + 64 * (p3 % 4)) + 256 * (p3 / 4))) by omega, show (858993459:Nat) = 51 + 256 * (51 + 256 * (51 + 256 * 51)) by decide, and_4 (by omega) (by omega) (by omega) (by decide), bc_m2 p0 c0 _ (by omega), bc_m2 p1 c1 _ (by omega), bc_m2 p2 c2 _ (by omega)]
    rw [t1, t2]
    unfold bcB
    omega
  · omega
  · have r0 : ∀ q : Nat, q = q % 16 + 16 * (q / 16) := fun q => by omega
    rw [← a0, ← a1, ← a2, ← a3]
    generalize bcB (bcA x0) = q0 at d0 e0
    generalize bcB (bcA x1) = q1 at d1 e1
    generalize bcB (bcA x2) = q2 at d2 e2
    generalize bcB (bcA x3) = q3 at d3 e3
    rw [show q0 + 256 * (q1 + 256 * (q2 + 256 * q3)) + (q0 + 256 * (q1 + 256 * (q2 + 256 * q3))) / 16 = (q0 % 16 + 16 * (q0 / 16) + (q0 / 16 + 16 * (q1 % 16))) + 256 * ((q1 % 16 + 16 * (q1 / 16) + (q1 / 16 + 16 * (q2 % 16))) + 256 * ((q2 % 16 + 16 * (q2 / 16) + (q2 / 16 + 16 * (q3 % 16))) + 256 * (q3 % 16 + 16 * (q3 / 16) + (q3 / 16 + 16 * 0)))) by omega, show (252645135:Nat) = 15 + 256 * (15 + 256 * (15 + 256 * 15)) by decide, and_4 (by omega) (by omega) (by omega) (by decide), bc_m3 _ (by omega) _ (by omega) _ (by omega), bc_m3 _ (by omega) _ (by omega) _ (by omega), bc_m3 _ (by omega) _ (by omega) _ (by omega), bc_m3 _ (by omega) _ (by omega) _ (by decide), ← r0 q0, ← r0 q1, ← r0 q2, ← r0 q3]
  · omega
  · omega
  · rw [show (63:Nat) = 2 ^ 6 - 1 by decide, Nat.and_two_pow_sub_one_eq_mod]
    exact bc_fin f0 f1 f2 f3
theorem cntN_add (P : Nat → Bool) (m n : Nat) : cntN P (m + n) = cntN P m + cntN (fun k => P (m + k)) n := by
  induction n with
  | zero => rfl
  | succ n ih =>
    show cntN P (m + n) + _ = _
    rw [ih]
    show _ = cntN P m + (cntN (fun k => P (m + k)) n + _)
    rw [Nat.add_assoc]
    rfl
theorem cntN_cong {P S : Nat → Bool} {n : Nat} (h : ∀ k, k < n → P k = S k) : cntN P n = cntN S n := by
  induction n with
  | zero => rfl
  | succ n ih =>
    unfold cntN
    rw [ih (fun k hk => h k (by omega)), h n (by omega)]
/-- how many bits are set -/
def bcN (x : Nat) : Nat := cntN (fun k => x.testBit k) 32
theorem bcN_4 {x0 x1 x2 x3 : Nat} (h0 : x0 < 256) (h1 : x1 < 256) (h2 : x2 < 256) : bcN (x0 + 256 * (x1 + 256 * (x2 + 256 * x3))) = bc8 x0 + bc8 x1 + bc8 x2 + bc8 x3 := by
  have hb : ∀ a b k, a < 256 → k < 8 → (a + 256 * b).testBit k = a.testBit k := fun a b k ha hk => by
    rw [show a + 256 * b = 2 ^ 8 * b + a by omega, Nat.testBit_two_pow_mul_add _ ha, if_pos hk]
  have hd : ∀ a b k, a < 256 → (a + 256 * b).testBit (8 + k) = b.testBit k := fun a b k ha => by
    rw [show a + 256 * b = 2 ^ 8 * b + a by omega, Nat.testBit_two_pow_mul_add _ ha, if_neg (by omega), Nat.add_sub_cancel_left]
  unfold bcN
  rw [show (32:Nat) = 8 + (8 + (8 + 8)) by decide, cntN_add, cntN_add _ 8 (8 + 8), cntN_add _ 8 8]
  have e0 : cntN (fun k => (x0 + 256 * (x1 + 256 * (x2 + 256 * x3))).testBit k) 8 = bc8 x0 := cntN_cong (fun k hk => hb _ _ _ h0 hk)
  have e1 : cntN (fun k => (x0 + 256 * (x1 + 256 * (x2 + 256 * x3))).testBit (8 + k)) 8 = bc8 x1 := cntN_cong (fun k hk => by rw [hd _ _ _ h0]; exact hb _ _ _ h1 hk)
  have e2 : cntN (fun k => (x0 + 256 * (x1 + 256 * (x2 + 256 * x3))).testBit (8 + (8 + k))) 8 = bc8 x2 := cntN_cong (fun k hk => by rw [hd _ _ _ h0, hd _ _ _ h1]; exact hb _ _ _ h2 hk)
  have e3 : cntN (fun k => (x0 + 256 * (x1 + 256 * (x2 + 256 * x3))).testBit (8 + (8 + (8 + k)))) 8 = bc8 x3 := cntN_cong (fun k hk => by rw [hd _ _ _ h0, hd _ _ _ h1, hd _ _ _ h2])
  rw [e0, e1, e2, e3]
  omega
theorem bcN_bitN {P : Nat → Bool} {n : Nat} (hn : n ≤ 32) : bcN (bitN P n) = cntN P n := by
  unfold bcN
  rw [show (32:Nat) = n + (32 - n) by omega, cntN_add]
  have e1 : cntN (fun k => (bitN P n).testBit k) n = cntN P n := cntN_cong (fun k hk => by rw [bitN_bit, decide_eq_true hk, Bool.true_and])
  have e2 : cntN (fun k => (bitN P n).testBit (n + k)) (32 - n) = 0 := by
    generalize 32 - n = m
    induction m with
    | zero => rfl
    | succ m ih =>
      unfold cntN
      rw [ih, bitN_bit, decide_eq_false (by omega), Bool.false_and]
      rfl
  rw [e1, e2]
  rfl
theorem mj_ofWF {l : Launch} {y : MethodName} {ws ws' : List Cond} {rm : Room} {Pc : Array Value → State → Prop} {Qc : Array Value → State → Outcome → State → Prop} {mc ms : Nat} {free : Addr → Prop} {cc : ByteArray} {maxL : Nat} {ret : Option FieldType} (hy : plainFor y = true) (hw : ws = Cond.code y cc maxL ret :: ws')
    (body : ∀ p e s m args below meth c s₁, BodyLoose p l y (headSpec ws rm) cc maxL ret e s m args below meth c s₁ → c.maxLocals = maxL → Pc args s → W p l e (headSpec ws rm).room s m args below meth c s.heap [] 0 0 (MQ below Qc args s mc ms free) (entryFrame m args maxL)) : Met l y ws rm Pc Qc mc ms free := by
  refine MetFree.of_bodySF (code := cc) (maxLocals := maxL) (ret := ret) hy (fun args s m h hn => ?_) (fun p e s m args below meth c s₁ B hml hP _ => ?_)
  · obtain ⟨meth, c, h1, h2, h3, h4, h5, h6, -, -⟩ := Cond.code_spec hn (atoms_spec (ws := ws) h _ (by rw [hw]; exact List.mem_cons_self))
    exact ⟨meth, c, h1, h2, h3, h4, h5, h6⟩
  · obtain ⟨t, a1, o, b1, b2, b3⟩ := body p e s m args below meth c s₁ B hml hP s₁ (by rw [B.state]; rfl) (Stand.of_body B)
    exact ⟨t, o, a1, b1, b2, b3⟩
/-- the same of a class of which the machine itself does some methods, but not this one -/
theorem rn_introF {w : mj_Wd} {l : Launch} {y : MethodName} {d : mj_D} {As : List Value} {h h' : mj_H} {v : Option Value} {L : List (Option Value)} (hy : plainFor y = true ∧ y.cls = d.2.1 ∧ (d.2.2.2.2.2 = true → y.name = "<init>")) (hz : h.1 ≤ h'.1) (hn : (As.flatMap fun v => if v.category = 2 then [some v, none] else [some v]).length ≤ d.2.2.1) (hL : mj_L0 d.2.2.1 As = L)
    (body : ∀ Y : mj_Y, Wq d (mj_mk w l h'.1 Y) (fun v2 h2 => v2 = v ∧ h2 = h') 0 L [] h) : Rn w l y d As h v h' := by
  subst hL
  refine ⟨hz, mj_ofWF (cc := d.1) (maxL := d.2.2.1) (ret := d.2.2.2.1) hy.1 rfl ?_⟩
  intro p e s m args below meth c s₁ B hml hv
  obtain ⟨rfl, hR, hK⟩ := hv
  have hts0 := atoms_spec (ws := mj_ws y d) B.pre
  have hts : ∀ wd ∈ mj_T, wd.before (As.map (mj_tv w)).toArray s = true := fun wd h => hts0 wd (List.mem_cons_of_mem _ h)
  have hown : s.vm.findClass d.2.1 = some m.cls := hy.2.1 ▸ findClass_of_methodNamed B.named
  have hnm : meth.name = y.name := (name_of_methodNamed B.named B.method).1
  have hlk := B.notSynchronized
  have hsl := mj_sl_mono hz
  rw [lg_entry_eq]
  have hb := body (p, e, (headSpec (mj_ws y d) (mj_rm d h h')).room, s, m, (As.map (mj_tv w)).toArray, below, meth, c, s.heap, h.1, MQ below (mj_Qc w v h') (As.map (mj_tv w)).toArray s (h'.1 - h.1) (mj_sl h'.1 - mj_sl h.1) (mj_A w))
  refine hb ⟨B.exec, B.bytes, hml, hown, hts, hK, hR.1, ⟨Nat.le_refl _, Nat.le_refl _, ?_, ?_⟩, fun h9 => by rw [hnm]; exact hy.2.2 h9, ?_⟩ s.heap [] _ 0 0 hR (mj_lv0 hn) va_S.rf (Nat.zero_add _) (Nat.zero_add _)
  · show h'.1 ≤ (h'.1 - h.1) + h.1; omega
  · show mj_sl h'.1 ≤ (mj_sl h'.1 - mj_sl h.1) + mj_sl h.1; omega
  · intro v2 h2 H locs cells slots pc ls hQ hR2 hS2 hc1 hc2 hrd
    obtain ⟨rfl, rfl⟩ := hQ
    have hc1 : cells + h.1 = h2.1 := hc1
    have hc2 : slots + mj_sl h.1 = mj_sl h2.1 := hc2
    have ec : h2.1 - h.1 = cells := by omega
    have es : mj_sl h2.1 - mj_sl h.1 = slots := by omega
    show W _ _ _ _ _ _ _ _ _ _ _ _ _ _ (MQ below (mj_Qc w v2 h2) (As.map (mj_tv w)).toArray s (h2.1 - h.1) (mj_sl h2.1 - mj_sl h.1) (mj_A w)) _
    rw [ec, es]
    have hq : ∀ t : State, t.heap = H → s.WarmedH t.vm → mj_Qc w v2 h2 (As.map (mj_tv w)).toArray s (.returned (v2.map (mj_tv w))) t := fun t ht hW => ⟨⟨rfl, by rw [ht]; exact hR2⟩, hS2.F ht⟩
    match v2, hrd, hq with
    | none, hrd, hq => exact W.vret B.exec B.bytes (B.returns.trans hrd.2) hq hS2.2.2 hrd.1 hlk
    | some (.int x), ⟨r1, ty, r2, r3⟩, hq => exact W.zret B.exec B.bytes (B.returns.trans r2) r3 hq hS2.2.2 r1 hlk
    | some (.long x), hrd, hq => exact W.lret B.exec B.bytes (B.returns.trans hrd.2) hq hS2.2.2 hrd.1 hlk
    | some (.ref x), ⟨r1, C9, r2⟩, hq => exact W.aret B.exec B.bytes (B.returns.trans r2) (Or.inl ⟨C9, rfl⟩) (Or.inr ⟨_, rfl⟩) hq hS2.2.2 r1 hlk
theorem rn_intro2F {w : mj_Wd} {l : Launch} {y : MethodName} {d : mj_D} {As : List Value} {h h' : mj_H} {v : Option Value} {L : List (Option Value)} (hy : plainFor y = true ∧ y.cls = d.2.1 ∧ (d.2.2.2.2.2 = true → y.name = "<init>")) (hz : h.1 ≤ h'.1) (hn : (As.flatMap fun v => if v.category = 2 then [some v, none] else [some v]).length ≤ d.2.2.1) (hL : mj_L0 d.2.2.1 As = L)
    (body : ∀ (Y : mj_Y) (Q : Option Value → mj_H → Prop), Q v h' → Wq d (mj_mk w l h'.1 Y) Q 0 L [] h) : Rn w l y d As h v h' := rn_introF hy hz hn hL (fun Y => body Y _ ⟨rfl, rfl⟩)
section JDK
variable {w : mj_Wd} {l : Launch} {h : mj_H}
theorem rn_bitCount {x : Nat} (hx : x < 2 ^ 32) : Rn w l yJ6_bitCount_0f7a4 dd_J6_bitCount_0f7a4 [.int (nI x)] h (some (.int (nI (bcN x)))) h := by
  obtain ⟨x0, x1, x2, x3, h0, h1, h2, h3, e⟩ : ∃ x0 x1 x2 x3, x0 < 256 ∧ x1 < 256 ∧ x2 < 256 ∧ x3 < 256 ∧ x = x0 + 256 * (x1 + 256 * (x2 + 256 * x3)) := ⟨x % 256, x / 256 % 256, x / 65536 % 256, x / 16777216, by omega, by omega, by omega, by omega, by omega⟩
  obtain ⟨y, z, v, u, ey, le1, hy, ez, hz, ev, hv, eu, hu, ef⟩ := bc_nat h0 h1 h2 h3
  rw [← bcN_4 h0 h1 h2, ← e] at ef
  rw [← e] at ey le1
  rw [← ef]
  clear e ef
  have k1 : (1431655765 : Int32) = nI 1431655765 := by decide
  have k2 : (858993459 : Int32) = nI 858993459 := by decide
  have k3 : (252645135 : Int32) = nI 252645135 := by decide
  refine rn_intro2 (L := [some (.int (nI x))]) ⟨by decide, rfl, (fun h => by cases h)⟩ (Nat.le_refl _) (Nat.le_of_ble_eq_true rfl) rfl (fun Y Q hQ => ?_)
  refine q_iload_n (pc' := 1) dJ6_bitCount_0f7a4_0 rfl rfl (q_iload_n (pc' := 2) dJ6_bitCount_0f7a4_1 rfl rfl (q_iconst (pc' := 3) _ dJ6_bitCount_0f7a4_2 rfl kk_iconst_1 (q_iushr (pc' := 4) dJ6_bitCount_0f7a4_3 rfl (q_ldcw (pc' := 7) _ dJ6_bitCount_0f7a4_4 rfl kc_RJ6_265 (q_iand (pc' := 8) dJ6_bitCount_0f7a4_7 rfl (q_isub (pc' := 9) dJ6_bitCount_0f7a4_8 rfl ?_))))))
  refine q_top (y := nI y) (by rw [k1, us32 (k := 1) hx (by decide), nI_and, nI_sb le1, ← ey]) ?_
  refine q_ist_0 (pc' := 10) dJ6_bitCount_0f7a4_9 rfl (by decide) rfl (q_iload_n (pc' := 11) dJ6_bitCount_0f7a4_10 rfl rfl (q_ldcw (pc' := 14) _ dJ6_bitCount_0f7a4_11 rfl kc_RJ6_266 (q_iand (pc' := 15) dJ6_bitCount_0f7a4_14 rfl (q_iload_n (pc' := 16) dJ6_bitCount_0f7a4_15 rfl rfl (q_iconst (pc' := 17) _ dJ6_bitCount_0f7a4_16 rfl kk_iconst_2 (q_iushr (pc' := 18) dJ6_bitCount_0f7a4_17 rfl (q_ldcw (pc' := 21) _ dJ6_bitCount_0f7a4_18 rfl kc_RJ6_266 (q_iand (pc' := 22) dJ6_bitCount_0f7a4_21 rfl (q_iadd (pc' := 23) dJ6_bitCount_0f7a4_22 rfl ?_)))))))))
  refine q_top (y := nI z) (by rw [k2, us32 (k := 2) hy (by decide), nI_and, nI_and, nI_add, ← ez]) ?_
  refine q_ist_0 (pc' := 24) dJ6_bitCount_0f7a4_23 rfl (by decide) rfl (q_iload_n (pc' := 25) dJ6_bitCount_0f7a4_24 rfl rfl (q_iload_n (pc' := 26) dJ6_bitCount_0f7a4_25 rfl rfl (q_iconst (pc' := 27) _ dJ6_bitCount_0f7a4_26 rfl kk_iconst_4 (q_iushr (pc' := 28) dJ6_bitCount_0f7a4_27 rfl (q_iadd (pc' := 29) dJ6_bitCount_0f7a4_28 rfl (q_ldcw (pc' := 32) _ dJ6_bitCount_0f7a4_29 rfl kc_RJ6_267 (q_iand (pc' := 33) dJ6_bitCount_0f7a4_32 rfl ?_)))))))
  refine q_top (y := nI v) (by rw [k3, us32 (k := 4) hz (by decide), nI_add, nI_and, ← ev]) ?_
  refine q_ist_0 (pc' := 34) dJ6_bitCount_0f7a4_33 rfl (by decide) rfl (q_iload_n (pc' := 35) dJ6_bitCount_0f7a4_34 rfl rfl (q_iload_n (pc' := 36) dJ6_bitCount_0f7a4_35 rfl rfl (q_bipush (pc' := 38) _ dJ6_bitCount_0f7a4_36 rfl kk_bipush_8 (q_iushr (pc' := 39) dJ6_bitCount_0f7a4_38 rfl (q_iadd (pc' := 40) dJ6_bitCount_0f7a4_39 rfl ?_)))))
  refine q_top (y := nI u) (by rw [us32 (k := 8) (by omega) (by decide), nI_add, ← eu]) ?_
  refine q_ist_0 (pc' := 41) dJ6_bitCount_0f7a4_40 rfl (by decide) rfl (q_iload_n (pc' := 42) dJ6_bitCount_0f7a4_41 rfl rfl (q_iload_n (pc' := 43) dJ6_bitCount_0f7a4_42 rfl rfl (q_bipush (pc' := 45) _ dJ6_bitCount_0f7a4_43 rfl kk_bipush_16 (q_iushr (pc' := 46) dJ6_bitCount_0f7a4_45 rfl (q_iadd (pc' := 47) dJ6_bitCount_0f7a4_46 rfl (q_ist_0 (pc' := 48) dJ6_bitCount_0f7a4_47 rfl (by decide) rfl (q_iload_n (pc' := 49) dJ6_bitCount_0f7a4_48 rfl rfl (q_bipush (pc' := 51) _ dJ6_bitCount_0f7a4_49 rfl kk_bipush_63 (q_iand (pc' := 52) dJ6_bitCount_0f7a4_51 rfl ?_)))))))))
  refine q_top (y := nI ((u + u / 65536) &&& 63)) (by rw [us32 (k := 16) (by omega) (by decide), nI_add, nI_and]) ?_
  exact q_iret dJ6_bitCount_0f7a4_52 rfl hQ
theorem rn_max {a b : Nat} (ha : a < 2 ^ 31) (hb : b < 2 ^ 31) : Rn w l yJ9_max_7cf53 dd_J9_max_7cf53 [.int (nI a), .int (nI b)] h (some (.int (nI (max a b)))) h := by
  refine rn_intro2F (L := [some (.int (nI a)), some (.int (nI b))]) ⟨by decide +kernel, rfl, (fun h => by cases h)⟩ (Nat.le_refl _) (Nat.le_of_ble_eq_true rfl) rfl (fun Y Q hQ => ?_)
  by_cases hc : a < b
  · rw [Nat.max_eq_right (by omega)] at hQ
    exact q_iload_n (pc' := 1) dJ9_max_7cf53_0 rfl rfl (q_iload_n (pc' := 2) dJ9_max_7cf53_1 rfl rfl (q_icmp_lt (pc' := 5) (pt := 9) dJ9_max_7cf53_2 rfl rfl (fun _ => (q_iload_n (pc' := 10) dJ9_max_7cf53_9 rfl rfl (q_iret dJ9_max_7cf53_10 rfl hQ))) (fun h9 => absurd (nI_lt hc hb) h9)))
  · rw [Nat.max_eq_left (by omega)] at hQ
    exact q_iload_n (pc' := 1) dJ9_max_7cf53_0 rfl rfl (q_iload_n (pc' := 2) dJ9_max_7cf53_1 rfl rfl (q_icmp_lt (pc' := 5) (pt := 9) dJ9_max_7cf53_2 rfl rfl (fun h9 => absurd h9 (Int32.not_lt.mpr (nI_le (by omega) ha))) (fun _ => (q_iload_n (pc' := 6) dJ9_max_7cf53_5 rfl rfl (q_goto (pc' := 10) dJ9_max_7cf53_6 rfl (q_iret dJ9_max_7cf53_10 rfl hQ))))))
theorem rn_min {a b : Nat} (ha : a < 2 ^ 31) (hb : b < 2 ^ 31) : Rn w l yJ9_min_7cf53 dd_J9_min_7cf53 [.int (nI a), .int (nI b)] h (some (.int (nI (min a b)))) h := by
  refine rn_intro2F (L := [some (.int (nI a)), some (.int (nI b))]) ⟨by decide +kernel, rfl, (fun h => by cases h)⟩ (Nat.le_refl _) (Nat.le_of_ble_eq_true rfl) rfl (fun Y Q hQ => ?_)
  by_cases hc : b < a
  · rw [Nat.min_eq_right (by omega)] at hQ
    exact q_iload_n (pc' := 1) dJ9_min_7cf53_0 rfl rfl (q_iload_n (pc' := 2) dJ9_min_7cf53_1 rfl rfl (q_icmp_gt (pc' := 5) (pt := 9) dJ9_min_7cf53_2 rfl rfl (fun _ => (q_iload_n (pc' := 10) dJ9_min_7cf53_9 rfl rfl (q_iret dJ9_min_7cf53_10 rfl hQ))) (fun h9 => absurd (nI_lt hc ha) h9)))
  · rw [Nat.min_eq_left (by omega)] at hQ
    exact q_iload_n (pc' := 1) dJ9_min_7cf53_0 rfl rfl (q_iload_n (pc' := 2) dJ9_min_7cf53_1 rfl rfl (q_icmp_gt (pc' := 5) (pt := 9) dJ9_min_7cf53_2 rfl rfl (fun h9 => absurd h9 (Int32.not_lt.mpr (nI_le (by omega) hb))) (fun _ => (q_iload_n (pc' := 6) dJ9_min_7cf53_5 rfl rfl (q_goto (pc' := 10) dJ9_min_7cf53_6 rfl (q_iret dJ9_min_7cf53_10 rfl hQ))))))
end JDK
