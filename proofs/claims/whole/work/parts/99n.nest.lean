/-! ===== a static call through the nest ===== -/
section QNE
variable {d : mj_D} {X : mj_X} {Q : Option Value → mj_H → Prop} {pc pc' : Nat} {L : List (Option Value)} {st st0 : List Value} {h h' : mj_H}
theorem q_callSN {y : MethodName} {d' : mj_D} {idx n : Nat} {host : String} {As : List Value} {v : Option Value} (hd : decode d.1 pc = .ok (.invokestatic idx, 3)) (hp : pc + 3 = pc') (hm : ∀ (w : mj_Wd) (s : State), mj_K w s → va_Nw (.methodLinkNest d.2.1 idx y host) s) (hy : mj_yS y d' n) (hlv : d'.2.2.2.2.1 < d.2.2.2.2.1) (hr : Rn X.1 X.2.2.1 y d' As h v h') (hst : st0 = As.reverse ++ st) (hlen : As.length = n) (hw : (st.map fun v => v.category).sum ≤ 8) (hzf : h'.1 ≤ mj_zf X) (hn : Wq d X Q pc' L (v.toList ++ st) h') : Wq d X Q pc L st0 h := by
  subst hp; subst hst
  obtain ⟨w, p, l, e, Rm, s, m, args, below, meth, c, H0, z0, zf, Z⟩ := X
  intro C H locs ls cells slots hR hL hS h1 h2
  obtain ⟨hle, hM⟩ := hr
  have hsl := mj_sl_mono hle
  have C' := C
  obtain ⟨hx, hb, hml, hown, hts, hK, hz0, ⟨r1, r2, r3, r4⟩, -⟩ := C'
  obtain ⟨y1, y2, y3, ⟨y4, y5⟩, y6⟩ := hy
  have hzf : h'.1 ≤ zf := hzf
  have hsf := mj_sl_mono hzf
  have cw : va_CN Rm s args d.2.1 idx y host d'.1 d'.2.2.1 d'.2.2.2.1 (mj_ws y d') (mj_rm d' h h') (h'.1 - h.1) (mj_sl h'.1 - mj_sl h.1) n ∧ (Cond.static y).before args s = true ∧ True :=
    ⟨va_cnB n hts (mj_gi y1) rfl rfl rfl (hm w s hK) (hts _ y2) ⟨y4.1, y4.2, y5⟩ ⟨by show d'.2.2.2.2.1 + 1 ≤ _; omega, by show 8 + (d'.2.2.1 + 11) + 38 * d'.2.2.2.2.1 ≤ _; omega⟩, hts _ y6, trivial⟩
  have hrun := va_runSN (H := H) (locs := locs) (cells := cells) (slots := slots) (p := p) (e := e) (below := below) (meth := meth) (c := c) (m := m) (cc := d.1) (nL := d.2.2.1) (Ts := mj_T) (As := As.map (mj_tv w)) (rest := st.map (mj_tv w)) (g := F0 m pc ls ((As.reverse ++ st).map (mj_tv w))) ⟨hx, hb, hml, hown, hts⟩ hM cw
    ⟨mj_blind w _ h, fun U hU hW => ⟨rfl, by rw [hU]; exact hR, mj_K_moved hW hK⟩⟩
    rfl (by rw [List.length_map]; exact hlen) hL.1 (by show List.map _ _ = _; rw [List.map_append, List.map_reverse]) (by rw [mj_cats]; show 2 * 0 + _ ≤ 8; omega) hd ⟨by omega, by omega⟩
  exact mj_after hn C hL hS h1 h2 hle hrun
theorem nest_group : ∀ (w : mj_Wd) (s : State), mj_K w s → va_Nw (.methodLinkNest RX1 142 yX10_isGroupSize RX10) s := fun _ _ h => h.2.2.2.2
end QNE
