/-! ===== the class: a DEVICE by its name ===== -/
/-- the first DEVICE of this name, from one on: 0 if none, else its number + 1 -/
def dF (nm : Nat → Nat) (x : Nat) : Nat → Nat → Nat
  | 0, _ => 0
  | m + 1, k => if nm k = x then k + 1 else dF nm x m (k + 1)
section NAMED
variable {w : mj_Wd} {l : Launch} {I : mj_M} {J : mj_J} {R : mj_R}
theorem rn_X0_deviceNamed {a n x : Nat} {nm : Nat → Nat} (ha : mj_ok 472 a 0) (hB : mj_wB R a) (haz : a < 1000) (hoa : mj_oka 472 (a + 1) 15 10) (h4 : I a 4 = nI n) (hn : n ≤ 10) (hnm : ∀ d, d < n → J (a + 1) d = nJ (nm d) ∧ nm d < 2 ^ 63) (hx : x < 2 ^ 63) : Rn w l yX0_deviceNamed dd_X0_deviceNamed [.ref a, .long (nJ x)] (472, I, J, R) (some (.int (lD (dF nm x n 0)))) (472, I, J, R) := by
  refine rn_intro2 (L := [some (.ref a), some (.long (nJ x)), none, none]) ⟨by decide, rfl, (fun h => by cases h)⟩ (Nat.le_refl _) (Nat.le_of_ble_eq_true rfl) rfl (fun Y Q hQ => ?_)
  have loop : ∀ m k, k + m = n → dF nm x m k = dF nm x n 0 → Wq dd_X0_deviceNamed (mj_mk w l 472 Y) Q 2 [some (.ref a), some (.long (nJ x)), none, some (.int (nI k))] [] (472, I, J, R) := by
    intro m
    induction m with
    | zero =>
      intro k hkm hg
      have hkn : k = n := by omega
      subst hkn
      have hg' : (0 : Nat) = dF nm x k 0 := hg
      rw [← hg'] at hQ
      exact q_iload_n (pc' := 3) dX0_deviceNamed_2 rfl rfl (q_aload_n (pc' := 4) dX0_deviceNamed_3 rfl rfl (q_getIe (pc' := 7) dX0_deviceNamed_4 rfl fr_RX0_44 (by first | assumption | exact ⟨by omega, rfl⟩) rfl h4 (q_icmp_ge (pc' := 10) (pt := 29) dX0_deviceNamed_7 rfl rfl (fun _ => (q_iconst (pc' := 30) _ dX0_deviceNamed_29 rfl kk_iconst_m1 (q_iret dX0_deviceNamed_30 rfl hQ))) (fun h9 => absurd (by (first | assumption | exact nI_le (by omega) (by omega) | exact nI_ge (by omega) (by omega) | exact nI_lt (by omega) (by omega) | exact nI_nlt (by omega) (by omega) | exact nI_ne (by omega) (by omega) (by omega) | exact nI_e (by omega) | decide)) h9))))
    | succ m ih =>
      intro k hkm hg
      have hg' : (if nm k = x then k + 1 else dF nm x m (k + 1)) = dF nm x n 0 := hg
      have e := hnm k (by omega)
      by_cases hc : nm k = x
      · rw [if_pos hc] at hg'
        rw [← hg'] at hQ
        exact q_iload_n (pc' := 3) dX0_deviceNamed_2 rfl rfl (q_aload_n (pc' := 4) dX0_deviceNamed_3 rfl rfl (q_getIe (pc' := 7) dX0_deviceNamed_4 rfl fr_RX0_44 (by first | assumption | exact ⟨by omega, rfl⟩) rfl h4 (q_icmp_ge (pc' := 10) (pt := 29) dX0_deviceNamed_7 rfl rfl (fun h9 => absurd h9 (by (first | assumption | exact nI_le (by omega) (by omega) | exact nI_ge (by omega) (by omega) | exact nI_lt (by omega) (by omega) | exact nI_nlt (by omega) (by omega) | exact nI_ne (by omega) (by omega) (by omega) | exact nI_e (by omega) | decide))) (fun _ => (q_aload_n (pc' := 11) dX0_deviceNamed_10 rfl rfl (q_getR (pc' := 14) dX0_deviceNamed_11 rfl fr_RX0_9 (by first | assumption | exact ⟨by omega, rfl⟩) rfl (wB_5 hB) (by omega) (q_iload_n (pc' := 15) dX0_deviceNamed_14 rfl rfl (q_lalde (pc' := 16) (k) dX0_deviceNamed_15 rfl (by first | exact ⟨by omega, rfl⟩ | exact okaS hi hz (by decide) rfl | assumption) (by (first | (simp only [nI_add, pk_mul]; done) | (simp only [nI_add, pk_mul]; exact nI_e (by omega)) | exact nI_e (by omega))) (by omega) e.1 (q_lload_n (pc' := 17) dX0_deviceNamed_16 rfl rfl (q_lcmp (pc' := 18) dX0_deviceNamed_17 rfl (q_if_ne (pc' := 21) (pt := 23) dX0_deviceNamed_18 rfl rfl (fun h9 => absurd ((lg_cmp_eq _ _).mpr (by rw [hc])) h9) (fun _ => (q_iload_n (pc' := 22) dX0_deviceNamed_21 rfl rfl (q_iret dX0_deviceNamed_22 rfl hQ))))))))))))))
      · rw [if_neg hc] at hg'
        refine q_iload_n (pc' := 3) dX0_deviceNamed_2 rfl rfl (q_aload_n (pc' := 4) dX0_deviceNamed_3 rfl rfl (q_getIe (pc' := 7) dX0_deviceNamed_4 rfl fr_RX0_44 (by first | assumption | exact ⟨by omega, rfl⟩) rfl h4 (q_icmp_ge (pc' := 10) (pt := 29) dX0_deviceNamed_7 rfl rfl (fun h9 => absurd h9 (by (first | assumption | exact nI_le (by omega) (by omega) | exact nI_ge (by omega) (by omega) | exact nI_lt (by omega) (by omega) | exact nI_nlt (by omega) (by omega) | exact nI_ne (by omega) (by omega) (by omega) | exact nI_e (by omega) | decide))) (fun _ => (q_aload_n (pc' := 11) dX0_deviceNamed_10 rfl rfl (q_getR (pc' := 14) dX0_deviceNamed_11 rfl fr_RX0_9 (by first | assumption | exact ⟨by omega, rfl⟩) rfl (wB_5 hB) (by omega) (q_iload_n (pc' := 15) dX0_deviceNamed_14 rfl rfl (q_lalde (pc' := 16) (k) dX0_deviceNamed_15 rfl (by first | exact ⟨by omega, rfl⟩ | exact okaS hi hz (by decide) rfl | assumption) (by (first | (simp only [nI_add, pk_mul]; done) | (simp only [nI_add, pk_mul]; exact nI_e (by omega)) | exact nI_e (by omega))) (by omega) e.1 (q_lload_n (pc' := 17) dX0_deviceNamed_16 rfl rfl (q_lcmp (pc' := 18) dX0_deviceNamed_17 rfl (q_if_ne (pc' := 21) (pt := 23) dX0_deviceNamed_18 rfl rfl (fun _ => (q_inc_3 (pc' := 26) dX0_deviceNamed_23 rfl (by decide) rfl (q_goto (pc' := 2) dX0_deviceNamed_26 rfl ?_))) (fun h9 => absurd h9 (fun q => hc ((nJ_eq e.2 hx).mp ((lg_cmp_eq _ _).mp q)))))))))))))))
        exact ih (k + 1) (by omega) hg'
  refine q_iconst (pc' := 1) _ dX0_deviceNamed_0 rfl kk_iconst_0 (q_ist_3 (pc' := 2) dX0_deviceNamed_1 rfl (by decide) rfl ?_)
  exact loop n 0 (by omega) rfl
end NAMED
