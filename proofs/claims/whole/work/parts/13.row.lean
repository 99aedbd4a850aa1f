/-! ===== the reference's row of numbers ===== -/
/-- of what was logged (LINE * 512 + place * 2 + 1 if by an OLD one): DEVICE, LINE, CPU, VECTOR, by an OLD one -/
def eG (e j : Nat) : Nat := match j with
  | 0 => e / 512 / 8
  | 1 => e / 512 % 8
  | 2 => e / 2 % 256 / 32
  | 3 => e / 2 % 256 % 32
  | _ => e % 2
/-- which number of a state a place of the row holds, and how -/
def cL (k : Nat) : Nat × Nat × Nat :=
  if k < 256 then (0, 0, k) else
  if k < 512 then (1, 1, k - 256) else
  if k < 768 then (2, 1, k - 512) else
  if k < 1024 then (0, 2, k - 768) else
  if k < 1104 then (3, 3, k - 1024) else
  if k < 1184 then (4, 3, k - 1104) else
  if k < 1264 then (3, 4, k - 1184) else
  if k < 1344 then (4, 4, k - 1264) else
  if k < 1424 then (0, 5, k - 1344) else
  if k < 1504 then (0, 6, k - 1424) else
  if k < 1514 then (0, 7, k - 1504) else
  if k < 1524 then (0, 8, k - 1514) else
  if k < 1534 then (0, 10, k - 1524) else
  if k < 1544 then (0, 11, k - 1534) else
  if k < 1554 then (0, 12, k - 1544) else
  if k < 1562 then (0, 9, k - 1554) else
  if k < 1570 then (0, 13, k - 1562) else
  (0, 14, k - 1570)
def eN (t x : Nat) : Int32 := match t with
  | 0 => nI x
  | 1 => eD x
  | 2 => eL x
  | 3 => eC x
  | _ => eV x
/-- the reference's row of a state -/
def cE (A : St) (k : Nat) : Int32 :=
  if k < 1574 then eN (cL k).1 (A (cL k).2.1 (cL k).2.2) else
  if k < 1575 then nI (min (A 14 4) 40) else
  if (k - 1575) / 5 < A 14 4 then nI (eG (A 15 (A 14 4 - 1 - (k - 1575) / 5)) ((k - 1575) % 5)) else nI 0
def rR (c : Nat → Int32) (A : St) : Prop := ∀ k, k < 1775 → c k = cE A k
theorem cL_vs : ∀ k, k < 256 → cL k = (0, 0, k) := by decide +kernel
theorem cE_vs {A : St} {k : Nat} (h : k < 256) : cE A k = nI (A 0 k) := by unfold cE; rw [if_pos (by omega), cL_vs k h]; rfl
theorem cL_d : ∀ k, k < 256 → cL (256 + k) = (1, 1, k) := by decide +kernel
theorem cE_d {A : St} {k : Nat} (h : k < 256) : cE A (256 + k) = eD (A 1 k) := by unfold cE; rw [if_pos (by omega), cL_d k h]; rfl
theorem cL_l : ∀ k, k < 256 → cL (512 + k) = (2, 1, k) := by decide +kernel
theorem cE_l {A : St} {k : Nat} (h : k < 256) : cE A (512 + k) = eL (A 1 k) := by unfold cE; rw [if_pos (by omega), cL_l k h]; rfl
theorem cL_pd : ∀ k, k < 256 → cL (768 + k) = (0, 2, k) := by decide +kernel
theorem cE_pd {A : St} {k : Nat} (h : k < 256) : cE A (768 + k) = nI (A 2 k) := by unfold cE; rw [if_pos (by omega), cL_pd k h]; rfl
theorem cL_hc : ∀ k, k < 80 → cL (1024 + k) = (3, 3, k) := by decide +kernel
theorem cE_hc {A : St} {k : Nat} (h : k < 80) : cE A (1024 + k) = eC (A 3 k) := by unfold cE; rw [if_pos (by omega), cL_hc k h]; rfl
theorem cL_hv : ∀ k, k < 80 → cL (1104 + k) = (4, 3, k) := by decide +kernel
theorem cE_hv {A : St} {k : Nat} (h : k < 80) : cE A (1104 + k) = eV (A 3 k) := by unfold cE; rw [if_pos (by omega), cL_hv k h]; rfl
theorem cL_oc : ∀ k, k < 80 → cL (1184 + k) = (3, 4, k) := by decide +kernel
theorem cE_oc {A : St} {k : Nat} (h : k < 80) : cE A (1184 + k) = eC (A 4 k) := by unfold cE; rw [if_pos (by omega), cL_oc k h]; rfl
theorem cL_ov : ∀ k, k < 80 → cL (1264 + k) = (4, 4, k) := by decide +kernel
theorem cE_ov {A : St} {k : Nat} (h : k < 80) : cE A (1264 + k) = eV (A 4 k) := by unfold cE; rw [if_pos (by omega), cL_ov k h]; rfl
theorem cL_dr : ∀ k, k < 80 → cL (1344 + k) = (0, 5, k) := by decide +kernel
theorem cE_dr {A : St} {k : Nat} (h : k < 80) : cE A (1344 + k) = nI (A 5 k) := by unfold cE; rw [if_pos (by omega), cL_dr k h]; rfl
theorem cL_wa : ∀ k, k < 80 → cL (1424 + k) = (0, 6, k) := by decide +kernel
theorem cE_wa {A : St} {k : Nat} (h : k < 80) : cE A (1424 + k) = nI (A 6 k) := by unfold cE; rw [if_pos (by omega), cL_wa k h]; rfl
theorem cL_st : ∀ k, k < 10 → cL (1504 + k) = (0, 7, k) := by decide +kernel
theorem cE_st {A : St} {k : Nat} (h : k < 10) : cE A (1504 + k) = nI (A 7 k) := by unfold cE; rw [if_pos (by omega), cL_st k h]; rfl
theorem cL_pr : ∀ k, k < 10 → cL (1514 + k) = (0, 8, k) := by decide +kernel
theorem cE_pr {A : St} {k : Nat} (h : k < 10) : cE A (1514 + k) = nI (A 8 k) := by unfold cE; rw [if_pos (by omega), cL_pr k h]; rfl
theorem cL_de : ∀ k, k < 10 → cL (1524 + k) = (0, 10, k) := by decide +kernel
theorem cE_de {A : St} {k : Nat} (h : k < 10) : cE A (1524 + k) = nI (A 10 k) := by unfold cE; rw [if_pos (by omega), cL_de k h]; rfl
theorem cL_me : ∀ k, k < 10 → cL (1534 + k) = (0, 11, k) := by decide +kernel
theorem cE_me {A : St} {k : Nat} (h : k < 10) : cE A (1534 + k) = nI (A 11 k) := by unfold cE; rw [if_pos (by omega), cL_me k h]; rfl
theorem cL_dp : ∀ k, k < 10 → cL (1544 + k) = (0, 12, k) := by decide +kernel
theorem cE_dp {A : St} {k : Nat} (h : k < 10) : cE A (1544 + k) = nI (A 12 k) := by unfold cE; rw [if_pos (by omega), cL_dp k h]; rfl
theorem cL_on : ∀ k, k < 8 → cL (1554 + k) = (0, 9, k) := by decide +kernel
theorem cE_on {A : St} {k : Nat} (h : k < 8) : cE A (1554 + k) = nI (A 9 k) := by unfold cE; rw [if_pos (by omega), cL_on k h]; rfl
theorem cL_ha : ∀ k, k < 8 → cL (1562 + k) = (0, 13, k) := by decide +kernel
theorem cE_ha {A : St} {k : Nat} (h : k < 8) : cE A (1562 + k) = nI (A 13 k) := by unfold cE; rw [if_pos (by omega), cL_ha k h]; rfl
theorem cL_sc : ∀ k, k < 4 → cL (1570 + k) = (0, 14, k) := by decide +kernel
theorem cE_sc {A : St} {k : Nat} (h : k < 4) : cE A (1570 + k) = nI (A 14 k) := by unfold cE; rw [if_pos (by omega), cL_sc k h]; rfl
theorem cE_lg {A : St} : cE A 1574 = nI (min (A 14 4) 40) := by unfold cE; rw [if_neg (by omega), if_pos (by omega)]
theorem cE_log {A : St} {k j : Nat} (hj : j < 5) : cE A (1575 + (5 * k + j)) = if k < A 14 4 then nI (eG (A 15 (A 14 4 - 1 - k)) j) else nI 0 := by
  unfold cE
  rw [if_neg (by omega), if_neg (by omega), show (1575 + (5 * k + j) - 1575) / 5 = k by omega, show (1575 + (5 * k + j) - 1575) % 5 = j by omega]
theorem up_nf {A : St} {f g j k x : Nat} (h : g ≠ f) : mj_up A f j x g k = A g k := mj_up_ne h
theorem cE_up {A : St} {f j x : Nat} (h : f ≠ 15) (h4 : ¬ (f = 14 ∧ j = 4)) (k : Nat) : cE (mj_up A f j x) k = if k < 1574 ∧ (cL k).2.1 = f ∧ (cL k).2.2 = j then eN (cL k).1 x else cE A k := by
  have e1 : mj_up A f j x 14 4 = A 14 4 := by
    unfold mj_up
    rw [if_neg (fun q => h4 ⟨q.1.symm, q.2.symm⟩)]
  unfold cE
  rw [e1]
  by_cases hk : k < 1574
  · rw [if_pos hk, if_pos hk]
    by_cases hc : (cL k).2.1 = f ∧ (cL k).2.2 = j
    · rw [if_pos ⟨hk, hc⟩, hc.1, hc.2, mj_up_eq]
    · rw [if_neg (fun q => hc q.2)]
      unfold mj_up
      rw [if_neg hc]
  · rw [if_neg hk, if_neg hk, up_nf (Ne.symm h), if_neg (c := k < 1574 ∧ (cL k).2.1 = f ∧ (cL k).2.2 = j) (fun q => hk q.1)]
theorem cI_0 : ∀ k, k < 1574 → (cL k).2.1 = 0 → (k = 0 + (cL k).2.2 ∧ (cL k).1 = 0) := by decide +kernel
theorem cE_up0 {A : St} {j x : Nat} (h : j < 256) (k : Nat) : cE (mj_up A 0 j x) k = if k = j then nI x else cE A k := by
  by_cases h0 : k = j
  · rw [if_pos h0, h0, cE_vs h, mj_up_eq]
  rw [if_neg h0, cE_up (by decide) (by omega), if_neg]
  rintro ⟨q1, q2, q3⟩
  have q4 := cI_0 k q1 q2
  omega
theorem cI_1 : ∀ k, k < 1574 → (cL k).2.1 = 1 → (k = 256 + (cL k).2.2 ∧ (cL k).1 = 1) ∨ (k = 512 + (cL k).2.2 ∧ (cL k).1 = 2) := by decide +kernel
theorem cE_up1 {A : St} {j x : Nat} (h : j < 256) (k : Nat) : cE (mj_up A 1 j x) k = if k = 256 + j then eD x else if k = 512 + j then eL x else cE A k := by
  by_cases h0 : k = 256 + j
  · rw [if_pos h0, h0, cE_d h, mj_up_eq]
  by_cases h1 : k = 512 + j
  · rw [if_neg h0, if_pos h1, h1, cE_l h, mj_up_eq]
  rw [if_neg h0, if_neg h1, cE_up (by decide) (by omega), if_neg]
  rintro ⟨q1, q2, q3⟩
  rcases cI_1 k q1 q2 with q4 | q4 <;> omega
theorem cI_2 : ∀ k, k < 1574 → (cL k).2.1 = 2 → (k = 768 + (cL k).2.2 ∧ (cL k).1 = 0) := by decide +kernel
theorem cE_up2 {A : St} {j x : Nat} (h : j < 256) (k : Nat) : cE (mj_up A 2 j x) k = if k = 768 + j then nI x else cE A k := by
  by_cases h0 : k = 768 + j
  · rw [if_pos h0, h0, cE_pd h, mj_up_eq]
  rw [if_neg h0, cE_up (by decide) (by omega), if_neg]
  rintro ⟨q1, q2, q3⟩
  have q4 := cI_2 k q1 q2
  omega
theorem cI_3 : ∀ k, k < 1574 → (cL k).2.1 = 3 → (k = 1024 + (cL k).2.2 ∧ (cL k).1 = 3) ∨ (k = 1104 + (cL k).2.2 ∧ (cL k).1 = 4) := by decide +kernel
theorem cE_up3 {A : St} {j x : Nat} (h : j < 80) (k : Nat) : cE (mj_up A 3 j x) k = if k = 1024 + j then eC x else if k = 1104 + j then eV x else cE A k := by
  by_cases h0 : k = 1024 + j
  · rw [if_pos h0, h0, cE_hc h, mj_up_eq]
  by_cases h1 : k = 1104 + j
  · rw [if_neg h0, if_pos h1, h1, cE_hv h, mj_up_eq]
  rw [if_neg h0, if_neg h1, cE_up (by decide) (by omega), if_neg]
  rintro ⟨q1, q2, q3⟩
  rcases cI_3 k q1 q2 with q4 | q4 <;> omega
theorem cI_4 : ∀ k, k < 1574 → (cL k).2.1 = 4 → (k = 1184 + (cL k).2.2 ∧ (cL k).1 = 3) ∨ (k = 1264 + (cL k).2.2 ∧ (cL k).1 = 4) := by decide +kernel
theorem cE_up4 {A : St} {j x : Nat} (h : j < 80) (k : Nat) : cE (mj_up A 4 j x) k = if k = 1184 + j then eC x else if k = 1264 + j then eV x else cE A k := by
  by_cases h0 : k = 1184 + j
  · rw [if_pos h0, h0, cE_oc h, mj_up_eq]
  by_cases h1 : k = 1264 + j
  · rw [if_neg h0, if_pos h1, h1, cE_ov h, mj_up_eq]
  rw [if_neg h0, if_neg h1, cE_up (by decide) (by omega), if_neg]
  rintro ⟨q1, q2, q3⟩
  rcases cI_4 k q1 q2 with q4 | q4 <;> omega
theorem cI_5 : ∀ k, k < 1574 → (cL k).2.1 = 5 → (k = 1344 + (cL k).2.2 ∧ (cL k).1 = 0) := by decide +kernel
theorem cE_up5 {A : St} {j x : Nat} (h : j < 80) (k : Nat) : cE (mj_up A 5 j x) k = if k = 1344 + j then nI x else cE A k := by
  by_cases h0 : k = 1344 + j
  · rw [if_pos h0, h0, cE_dr h, mj_up_eq]
  rw [if_neg h0, cE_up (by decide) (by omega), if_neg]
  rintro ⟨q1, q2, q3⟩
  have q4 := cI_5 k q1 q2
  omega
theorem cI_6 : ∀ k, k < 1574 → (cL k).2.1 = 6 → (k = 1424 + (cL k).2.2 ∧ (cL k).1 = 0) := by decide +kernel
theorem cE_up6 {A : St} {j x : Nat} (h : j < 80) (k : Nat) : cE (mj_up A 6 j x) k = if k = 1424 + j then nI x else cE A k := by
  by_cases h0 : k = 1424 + j
  · rw [if_pos h0, h0, cE_wa h, mj_up_eq]
  rw [if_neg h0, cE_up (by decide) (by omega), if_neg]
  rintro ⟨q1, q2, q3⟩
  have q4 := cI_6 k q1 q2
  omega
theorem cI_7 : ∀ k, k < 1574 → (cL k).2.1 = 7 → (k = 1504 + (cL k).2.2 ∧ (cL k).1 = 0) := by decide +kernel
theorem cE_up7 {A : St} {j x : Nat} (h : j < 10) (k : Nat) : cE (mj_up A 7 j x) k = if k = 1504 + j then nI x else cE A k := by
  by_cases h0 : k = 1504 + j
  · rw [if_pos h0, h0, cE_st h, mj_up_eq]
  rw [if_neg h0, cE_up (by decide) (by omega), if_neg]
  rintro ⟨q1, q2, q3⟩
  have q4 := cI_7 k q1 q2
  omega
theorem cI_8 : ∀ k, k < 1574 → (cL k).2.1 = 8 → (k = 1514 + (cL k).2.2 ∧ (cL k).1 = 0) := by decide +kernel
theorem cE_up8 {A : St} {j x : Nat} (h : j < 10) (k : Nat) : cE (mj_up A 8 j x) k = if k = 1514 + j then nI x else cE A k := by
  by_cases h0 : k = 1514 + j
  · rw [if_pos h0, h0, cE_pr h, mj_up_eq]
  rw [if_neg h0, cE_up (by decide) (by omega), if_neg]
  rintro ⟨q1, q2, q3⟩
  have q4 := cI_8 k q1 q2
  omega
theorem cI_9 : ∀ k, k < 1574 → (cL k).2.1 = 9 → (k = 1554 + (cL k).2.2 ∧ (cL k).1 = 0) := by decide +kernel
theorem cE_up9 {A : St} {j x : Nat} (h : j < 8) (k : Nat) : cE (mj_up A 9 j x) k = if k = 1554 + j then nI x else cE A k := by
  by_cases h0 : k = 1554 + j
  · rw [if_pos h0, h0, cE_on h, mj_up_eq]
  rw [if_neg h0, cE_up (by decide) (by omega), if_neg]
  rintro ⟨q1, q2, q3⟩
  have q4 := cI_9 k q1 q2
  omega
theorem cI_10 : ∀ k, k < 1574 → (cL k).2.1 = 10 → (k = 1524 + (cL k).2.2 ∧ (cL k).1 = 0) := by decide +kernel
theorem cE_up10 {A : St} {j x : Nat} (h : j < 10) (k : Nat) : cE (mj_up A 10 j x) k = if k = 1524 + j then nI x else cE A k := by
  by_cases h0 : k = 1524 + j
  · rw [if_pos h0, h0, cE_de h, mj_up_eq]
  rw [if_neg h0, cE_up (by decide) (by omega), if_neg]
  rintro ⟨q1, q2, q3⟩
  have q4 := cI_10 k q1 q2
  omega
theorem cI_11 : ∀ k, k < 1574 → (cL k).2.1 = 11 → (k = 1534 + (cL k).2.2 ∧ (cL k).1 = 0) := by decide +kernel
theorem cE_up11 {A : St} {j x : Nat} (h : j < 10) (k : Nat) : cE (mj_up A 11 j x) k = if k = 1534 + j then nI x else cE A k := by
  by_cases h0 : k = 1534 + j
  · rw [if_pos h0, h0, cE_me h, mj_up_eq]
  rw [if_neg h0, cE_up (by decide) (by omega), if_neg]
  rintro ⟨q1, q2, q3⟩
  have q4 := cI_11 k q1 q2
  omega
theorem cI_12 : ∀ k, k < 1574 → (cL k).2.1 = 12 → (k = 1544 + (cL k).2.2 ∧ (cL k).1 = 0) := by decide +kernel
theorem cE_up12 {A : St} {j x : Nat} (h : j < 10) (k : Nat) : cE (mj_up A 12 j x) k = if k = 1544 + j then nI x else cE A k := by
  by_cases h0 : k = 1544 + j
  · rw [if_pos h0, h0, cE_dp h, mj_up_eq]
  rw [if_neg h0, cE_up (by decide) (by omega), if_neg]
  rintro ⟨q1, q2, q3⟩
  have q4 := cI_12 k q1 q2
  omega
theorem cI_13 : ∀ k, k < 1574 → (cL k).2.1 = 13 → (k = 1562 + (cL k).2.2 ∧ (cL k).1 = 0) := by decide +kernel
theorem cE_up13 {A : St} {j x : Nat} (h : j < 8) (k : Nat) : cE (mj_up A 13 j x) k = if k = 1562 + j then nI x else cE A k := by
  by_cases h0 : k = 1562 + j
  · rw [if_pos h0, h0, cE_ha h, mj_up_eq]
  rw [if_neg h0, cE_up (by decide) (by omega), if_neg]
  rintro ⟨q1, q2, q3⟩
  have q4 := cI_13 k q1 q2
  omega
theorem cI_14 : ∀ k, k < 1574 → (cL k).2.1 = 14 → (k = 1570 + (cL k).2.2 ∧ (cL k).1 = 0) := by decide +kernel
theorem cE_up14 {A : St} {j x : Nat} (h : j < 4) (k : Nat) : cE (mj_up A 14 j x) k = if k = 1570 + j then nI x else cE A k := by
  by_cases h0 : k = 1570 + j
  · rw [if_pos h0, h0, cE_sc h, mj_up_eq]
  rw [if_neg h0, cE_up (by decide) (by omega), if_neg]
  rintro ⟨q1, q2, q3⟩
  have q4 := cI_14 k q1 q2
  omega
