/-! ===== what holds at the law's entry ===== -/
section ENT
variable {s : State} {args : Array Value}
theorem ent_cls (ht : ∀ w ∈ mj_T, w.before args s = true) : ∃ G : va_G, ∀ (k : Nat) (q : vw_C), vwCl[k]? = some q → u_Kn s q.1 q.2.1 q.2.2 (G.1 k) (G.2 k) := by
  have h : ∀ k : Nat, ∃ D : ClassId × (Nat → Nat), ∀ q : vw_C, vwCl[k]? = some q → u_Kn s q.1 q.2.1 q.2.2 D.1 D.2 := by
    intro k
    have mk : ∀ {C : String} {T : u_T} {N : Nat}, (∃ (cC : ClassId) (iS : Nat → Nat), u_Kn s C T N cC iS) → ∃ D : ClassId × (Nat → Nat), ∀ q : vw_C, some (C, T, N) = some q → u_Kn s q.1 q.2.1 q.2.2 D.1 D.2 := fun ⟨cC, iS, h⟩ => ⟨(cC, iS), fun q hq => by cases hq; exact h⟩
    match k with
    | 0 => exact mk (u_known (n := 10) ht mj_in0 (ht _ T_in_RX10_23))
    | 1 => exact mk (u_known (n := 5) ht mj_in1 (ht _ T_in_RX10_39))
    | 2 => exact mk (u_known (n := 6) ht mj_in2 (ht _ T_in_RX10_57))
    | 3 => exact mk (u_known (n := 7) ht mj_in3 (ht _ T_in_RX10_48))
    | 4 => exact mk (u_known (n := 5) ht mj_in4 (ht _ T_in_RX5_36))
    | 5 => exact mk (u_known (n := 9) ht mj_in5 (ht _ T_in_RX10_13))
    | 6 => exact mk (u_known (n := 4) ht mj_in6 (ht _ T_in_RX10_78))
    | 7 => exact mk (u_known (n := 3) ht mj_in7 (ht _ T_in_RX10_71))
    | 8 => exact mk (u_known (n := 7) ht mj_in8 (ht _ T_in_RX5_9))
    | 9 => exact mk (u_known (n := 18) ht mj_in9 (ht _ T_in_RX10_30))
    | 10 => exact mk (u_known (n := 13) ht mj_in10 (ht _ T_in_RL_7))
    | 11 => exact mk (u_known (n := 51) ht mj_in11 (ht _ T_in_RL_10))
    | n + 12 => exact ⟨((u_known (n := 10) ht mj_in0 (ht _ T_in_RX10_23)).choose, fun _ => 0), fun q hq => by cases hq⟩
  obtain ⟨F, hF⟩ := Classical.axiomOfChoice h
  exact ⟨(fun k => (F k).1, fun k => (F k).2), fun k q hq => hF k q hq⟩
theorem ent_arr {ty : FieldType} (h : (Cond.arrayClass ty).before args s = true) : ∃ cA, ArrOfT s cA ty ∧ s.vm.findClass ("[" ++ ty.toString) = some cA := by
  obtain ⟨c, k, comp, h1, h2, h3⟩ := Cond.arrayClass_spec h
  exact ⟨c, fun n z => ⟨fun k h => (by cases h), k, h2, comp, h3⟩, h1⟩
theorem ent_K (hts : ∀ w ∈ lw_tbl, w.before args s = true) (b : Nat) : ∃ w : mj_Wd, w.1 = b ∧ w.2.1 = s.heap.size ∧ mj_K w s := by
  have ht : ∀ w ∈ mj_T, w.before args s = true := fun w h => hts w (List.mem_filter.mp h).1
  obtain ⟨G, hG⟩ := ent_cls ht
  obtain ⟨cI, i1, i2⟩ := ent_arr (ht _ T_aI)
  obtain ⟨cB, b1, b2⟩ := ent_arr (ht _ T_aB)
  obtain ⟨cZ, z1, z2⟩ := ent_arr (ht _ T_aZ)
  obtain ⟨cJ, j1, j2⟩ := ent_arr (ht _ T_aJ)
  have hAO : va_AO "VectorDeal$State" s := (hts (.arrayOver (.object "VectorDeal$State")) (List.mem_of_getElem? (i := 168) (by decide +kernel)) : (Cond.arrayOver (.object "VectorDeal$State")).before args s = true)
  have hAA : mj_AOA s := (hts (.arrayOver (.array .int)) (List.mem_of_getElem? (i := 487) (by decide +kernel)) : (Cond.arrayOver (.array .int)).before args s = true)
  obtain ⟨comp, cS, kS9, s1, -, s3, s4, s5⟩ := Cond.arrayOver_spec hAO
  obtain ⟨comp2, cG, kG, g1, g2, g3, g4⟩ := mj_AOA_spec hAA
  refine ⟨(b, s.heap.size, G, fun k => if k = 12 then cI else if k = 13 then cB else if k = 14 then cZ else if k = 15 then cJ else if k = 16 then cG else cS), rfl, rfl, ⟨hG, fun k q hq => ?_⟩, hAO, hAA, ?_, ?_⟩
  · match k, hq with
    | 0, hq => cases hq; exact ⟨i1, i2⟩
    | 1, hq => cases hq; exact ⟨b1, b2⟩
    | 2, hq => cases hq; exact ⟨z1, z2⟩
    | 3, hq => cases hq; exact ⟨j1, j2⟩
    | 4, hq => cases hq; exact ⟨fun n z => ⟨fun k h => (by cases h), kG, g2, comp2, g3⟩, g4⟩
    | 5, hq => cases hq; exact ⟨fun n z => ⟨fun k h => (by cases h), kS9, s3, comp, s4⟩, kS9, comp, s3, s4, s1, s5⟩
    | n + 6, hq => cases hq
  · exact va_tabs rfl rfl (hts (.methodLinkNest RX5 11 yX8_init RX10) (List.mem_of_getElem? (i := 446) (by decide +kernel)))
  · exact va_tabs rfl rfl (hts (.methodLinkNest RX1 142 yX10_isGroupSize RX10) (List.mem_of_getElem? (i := 807) (by decide +kernel)))
/-- the words' constant, by the letter -/
theorem ent_el : ∀ j, j < 106 → Cond.eq (.elem (.field (.string "VectorDeal$Tokens" 36) "java/lang/String" "value" "[B") (.int (Int32.ofNat j))) (.int (kwB j)) ∈ flatC (Jvm.Cond.and given_1 narrow_1) := by decide +kernel
theorem ent_S {b : Nat} (hts : ∀ w ∈ lw_tbl, w.before #[Value.ref b] s = true) (hgv : (Jvm.Cond.and given_1 narrow_1).before #[Value.ref b] s = true) (A : Nat → Prop) (hA : ∀ a : Nat, a < s.heap.size → ¬ A a) : ∃ (a v : Nat) (f : Value), f.isRef = true ∧ sxT a v f A s s.heap := by
  have hs := flat_of_before _ hgv
  have hex : (Cond.exactly (.string "VectorDeal$Tokens" 36) "java/lang/String").before #[Value.ref b] s = true := hs _ (by decide +kernel)
  have hco : (Cond.eq (.field (.string "VectorDeal$Tokens" 36) "java/lang/String" "coder" "B") (.int 0)).before #[Value.ref b] s = true := hs _ (by decide +kernel)
  have har : (Cond.arrayOf (.field (.string "VectorDeal$Tokens" 36) "java/lang/String" "value" "[B") .byte).before #[Value.ref b] s = true := hs _ (by decide +kernel)
  have hle : (Cond.eq (.length (.field (.string "VectorDeal$Tokens" 36) "java/lang/String" "value" "[B")) (.int (Int32.ofNat 106))).before #[Value.ref b] s = true := hs _ (by decide +kernel)
  have hcp : (Cond.eq (.static "java/lang/String" "COMPACT_STRINGS" "Z") (.int 1)).before #[Value.ref b] s = true := hs _ (by decide +kernel)
  have hfm : (Cond.isRef (.static "jdk/internal/util/Preconditions" "SIOOBE_FORMATTER" "Ljava/util/function/BiFunction;")).before #[Value.ref b] s = true := hs _ (by decide +kernel)
  obtain ⟨adK, adV, hS, hev⟩ := vk_Sof (N := 1) (tm := fun _ => .string "VectorDeal$Tokens" 36) (len := [106]) (byt := [(List.range 106).map kwB]) (A := A) (args := #[Value.ref b]) (s := s) (fun i hi => by rw [show i = 0 by omega]; decide) (fun _ _ => hex) (fun _ _ => hco) (fun _ _ => har) (fun i hi => by rw [show i = 0 by omega]; exact hle) (fun i hi j hj => by
    rw [show i = 0 by omega] at hj ⊢
    have hj : j < 106 := hj
    have e : ([(List.range 106).map kwB].getD 0 []).getD j 0 = kwB j := by
      show ((List.range 106).map kwB).getD j 0 = kwB j
      rw [List.getD_eq_getElem?_getD, List.getElem?_map, List.getElem?_range hj]
      rfl
    rw [e]
    exact hs _ (ent_el j hj)) (fun i j hi hj hne => absurd (show i = j by omega) hne) hA
  obtain ⟨f, hf1, hf2⟩ := Cond.isRef_spec hfm
  obtain ⟨o1, o2, o3, o4⟩ := hS.1 0 (by decide)
  have hr : (Cond.stringRef RX9 36 kwT).before #[Value.ref b] s = true := hts _ (List.mem_of_getElem? (i := 254) (by decide +kernel))
  refine ⟨adK 0, adV 0, f, hf2, vk_R.of hr (hev 0 (by decide)), o1, o2, o3, ?_, va_Zof (hts _ (List.mem_of_getElem? (i := 264) (by decide +kernel))) (hts _ (List.mem_of_getElem? (i := 142) (by decide +kernel))) (va_eqt hcp) hA, va_Zof (hts _ (List.mem_of_getElem? (i := 280) (by decide +kernel))) (hts _ (List.mem_of_getElem? (i := 144) (by decide +kernel))) hf1 hA⟩
  obtain ⟨cell, t1, t2, t3, t4, t5, t6, t7⟩ := o4
  exact ⟨cell, t1, t2, t3, t4, t5, fun j hj => by
    rw [t6 j hj]
    have e : ([(List.range 106).map kwB].getD 0 []).getD j 0 = kwB j := by
      show ((List.range 106).map kwB).getD j 0 = kwB j
      rw [List.getD_eq_getElem?_getD, List.getElem?_map, List.getElem?_range hj]
      rfl
    exact congrArg (fun z => some (Value.int z)) e, t7⟩
theorem sxT_M {w : mj_Wd} {a v : Nat} {f : Value} : SxM w (sxT a v f (mj_A w)) := by
  refine ⟨fun s U H0 H hW hw hk h => ?_, fun s U H hv h => sxT_K.2 s U H hv h⟩
  have h1 := sxT_K.1 s U H0 hW h
  have hq : ∀ a : Nat, a < H0.size → ¬ mj_A w a → H[a]? = H0[a]? := fun a _ h9 => hk a (by unfold mj_A at h9; omega)
  exact ⟨h1.1, h1.2.1.kept hq, h1.2.2.1.kept hq, h1.2.2.2.1.kept hq, h1.2.2.2.2.1.kept hq, h1.2.2.2.2.2.1.kept hq, h1.2.2.2.2.2.2.kept hq⟩
theorem mj_sl_472 : mj_sl 472 ≤ 100000 := by decide +kernel
end ENT
