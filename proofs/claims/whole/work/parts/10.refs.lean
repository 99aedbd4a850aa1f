def mj_wS (R : mj_R) (i : Nat) : Prop := R (sA i 0) 0 = 4 ∧ R (sA i 0) 1 = sA i 11 ∧ R (sA i 0) 2 = sA i 1 ∧ R (sA i 0) 5 = sA i 7 ∧ R (sA i 0) 6 = sA i 8 ∧ R (sA i 0) 7 = sA i 9 ∧ R (sA i 0) 8 = sA i 10 ∧ R (sA i 1) 2 = sA i 2 ∧ R (sA i 1) 3 = sA i 3 ∧ R (sA i 1) 4 = sA i 4 ∧ R (sA i 1) 5 = sA i 5 ∧ R (sA i 1) 6 = sA i 6 ∧ R (sA i 11) 0 = 4 ∧ R (sA i 11) 2 = sA i 12 ∧ R (sA i 11) 3 = sA i 18 ∧ R (sA i 11) 4 = sA i 19 ∧ ∀ j, j < 5 → R (sA i 12) j = sA i (13 + j)
theorem wS_5_0 {R : mj_R} {i : Nat} (h : mj_wS R i) : R (sA i 0) 0 = 4 := h.1
theorem wS_5_1 {R : mj_R} {i : Nat} (h : mj_wS R i) : R (sA i 0) 1 = sA i 11 := h.2.1
theorem wS_5_2 {R : mj_R} {i : Nat} (h : mj_wS R i) : R (sA i 0) 2 = sA i 1 := h.2.2.1
theorem wS_5_5 {R : mj_R} {i : Nat} (h : mj_wS R i) : R (sA i 0) 5 = sA i 7 := h.2.2.2.1
theorem wS_5_6 {R : mj_R} {i : Nat} (h : mj_wS R i) : R (sA i 0) 6 = sA i 8 := h.2.2.2.2.1
theorem wS_5_7 {R : mj_R} {i : Nat} (h : mj_wS R i) : R (sA i 0) 7 = sA i 9 := h.2.2.2.2.2.1
theorem wS_5_8 {R : mj_R} {i : Nat} (h : mj_wS R i) : R (sA i 0) 8 = sA i 10 := h.2.2.2.2.2.2.1
theorem wS_8_2 {R : mj_R} {i : Nat} (h : mj_wS R i) : R (sA i 1) 2 = sA i 2 := h.2.2.2.2.2.2.2.1
theorem wS_8_3 {R : mj_R} {i : Nat} (h : mj_wS R i) : R (sA i 1) 3 = sA i 3 := h.2.2.2.2.2.2.2.2.1
theorem wS_8_4 {R : mj_R} {i : Nat} (h : mj_wS R i) : R (sA i 1) 4 = sA i 4 := h.2.2.2.2.2.2.2.2.2.1
theorem wS_8_5 {R : mj_R} {i : Nat} (h : mj_wS R i) : R (sA i 1) 5 = sA i 5 := h.2.2.2.2.2.2.2.2.2.2.1
theorem wS_8_6 {R : mj_R} {i : Nat} (h : mj_wS R i) : R (sA i 1) 6 = sA i 6 := h.2.2.2.2.2.2.2.2.2.2.2.1
theorem wS_4_0 {R : mj_R} {i : Nat} (h : mj_wS R i) : R (sA i 11) 0 = 4 := h.2.2.2.2.2.2.2.2.2.2.2.2.1
theorem wS_4_2 {R : mj_R} {i : Nat} (h : mj_wS R i) : R (sA i 11) 2 = sA i 12 := h.2.2.2.2.2.2.2.2.2.2.2.2.2.1
theorem wS_4_3 {R : mj_R} {i : Nat} (h : mj_wS R i) : R (sA i 11) 3 = sA i 18 := h.2.2.2.2.2.2.2.2.2.2.2.2.2.2.1
theorem wS_4_4 {R : mj_R} {i : Nat} (h : mj_wS R i) : R (sA i 11) 4 = sA i 19 := h.2.2.2.2.2.2.2.2.2.2.2.2.2.2.2.1
theorem wS_row {R : mj_R} {i j : Nat} (h : mj_wS R i) (hj : j < 5) : R (sA i 12) j = sA i (13 + j) := h.2.2.2.2.2.2.2.2.2.2.2.2.2.2.2.2 j hj
def mj_wB (R : mj_R) (a : Nat) : Prop := R a 5 = a + 1 ∧ R a 6 = a + 2 ∧ R a 7 = a + 3 ∧ R a 8 = a + 4 ∧ R a 9 = a + 5
theorem wB_5 {R : mj_R} {a : Nat} (h : mj_wB R a) : R a 5 = a + 1 := h.1
theorem wB_6 {R : mj_R} {a : Nat} (h : mj_wB R a) : R a 6 = a + 2 := h.2.1
theorem wB_7 {R : mj_R} {a : Nat} (h : mj_wB R a) : R a 7 = a + 3 := h.2.2.1
theorem wB_8 {R : mj_R} {a : Nat} (h : mj_wB R a) : R a 8 = a + 4 := h.2.2.2.1
theorem wB_9 {R : mj_R} {a : Nat} (h : mj_wB R a) : R a 9 = a + 5 := h.2.2.2.2
def mj_wV (R : mj_R) : Prop := R 0 0 = 1 ∧ R 0 2 = 10 ∧ R 0 3 = 4 ∧ R 0 4 = 16 ∧ R 0 5 = 23 ∧ R 0 6 = 28 ∧ R 0 7 = sA 18 0 ∧ R 0 8 = 2 ∧ R 0 9 = 3 ∧ R 0 10 = 450 ∧ R 0 11 = 451 ∧ R 10 0 = 1 ∧ R 10 1 = 11 ∧ R 10 2 = 12 ∧ R 10 3 = 13 ∧ R 10 4 = 14 ∧ R 10 5 = 15 ∧ R 16 0 = 10 ∧ R 16 1 = 17 ∧ R 23 0 = 10 ∧ R 23 1 = 4 ∧ R 23 3 = 24 ∧ R 23 4 = 25 ∧ R 23 5 = 26 ∧ R 23 6 = 27 ∧ R 28 2 = 29 ∧ R 450 0 = 4 ∧ R 451 0 = 4 ∧ R 2 0 = sA 19 0 ∧ R 2 1 = sA 20 0
theorem wV_10_0 {R : mj_R} (h : mj_wV R) : R 0 0 = 1 := h.1
theorem wV_10_2 {R : mj_R} (h : mj_wV R) : R 0 2 = 10 := h.2.1
theorem wV_10_3 {R : mj_R} (h : mj_wV R) : R 0 3 = 4 := h.2.2.1
theorem wV_10_4 {R : mj_R} (h : mj_wV R) : R 0 4 = 16 := h.2.2.2.1
theorem wV_10_5 {R : mj_R} (h : mj_wV R) : R 0 5 = 23 := h.2.2.2.2.1
theorem wV_10_6 {R : mj_R} (h : mj_wV R) : R 0 6 = 28 := h.2.2.2.2.2.1
theorem wV_10_7 {R : mj_R} (h : mj_wV R) : R 0 7 = sA 18 0 := h.2.2.2.2.2.2.1
theorem wV_10_8 {R : mj_R} (h : mj_wV R) : R 0 8 = 2 := h.2.2.2.2.2.2.2.1
theorem wV_10_9 {R : mj_R} (h : mj_wV R) : R 0 9 = 3 := h.2.2.2.2.2.2.2.2.1
theorem wV_10_10 {R : mj_R} (h : mj_wV R) : R 0 10 = 450 := h.2.2.2.2.2.2.2.2.2.1
theorem wV_10_11 {R : mj_R} (h : mj_wV R) : R 0 11 = 451 := h.2.2.2.2.2.2.2.2.2.2.1
theorem wV_9_0 {R : mj_R} (h : mj_wV R) : R 10 0 = 1 := h.2.2.2.2.2.2.2.2.2.2.2.1
theorem wV_9_1 {R : mj_R} (h : mj_wV R) : R 10 1 = 11 := h.2.2.2.2.2.2.2.2.2.2.2.2.1
theorem wV_9_2 {R : mj_R} (h : mj_wV R) : R 10 2 = 12 := h.2.2.2.2.2.2.2.2.2.2.2.2.2.1
theorem wV_9_3 {R : mj_R} (h : mj_wV R) : R 10 3 = 13 := h.2.2.2.2.2.2.2.2.2.2.2.2.2.2.1
theorem wV_9_4 {R : mj_R} (h : mj_wV R) : R 10 4 = 14 := h.2.2.2.2.2.2.2.2.2.2.2.2.2.2.2.1
theorem wV_9_5 {R : mj_R} (h : mj_wV R) : R 10 5 = 15 := h.2.2.2.2.2.2.2.2.2.2.2.2.2.2.2.2.1
theorem wV_1_0 {R : mj_R} (h : mj_wV R) : R 16 0 = 10 := h.2.2.2.2.2.2.2.2.2.2.2.2.2.2.2.2.2.1
theorem wV_1_1 {R : mj_R} (h : mj_wV R) : R 16 1 = 17 := h.2.2.2.2.2.2.2.2.2.2.2.2.2.2.2.2.2.2.1
theorem wV_3_0 {R : mj_R} (h : mj_wV R) : R 23 0 = 10 := h.2.2.2.2.2.2.2.2.2.2.2.2.2.2.2.2.2.2.2.1
theorem wV_3_1 {R : mj_R} (h : mj_wV R) : R 23 1 = 4 := h.2.2.2.2.2.2.2.2.2.2.2.2.2.2.2.2.2.2.2.2.1
theorem wV_3_3 {R : mj_R} (h : mj_wV R) : R 23 3 = 24 := h.2.2.2.2.2.2.2.2.2.2.2.2.2.2.2.2.2.2.2.2.2.1
theorem wV_3_4 {R : mj_R} (h : mj_wV R) : R 23 4 = 25 := h.2.2.2.2.2.2.2.2.2.2.2.2.2.2.2.2.2.2.2.2.2.2.1
theorem wV_3_5 {R : mj_R} (h : mj_wV R) : R 23 5 = 26 := h.2.2.2.2.2.2.2.2.2.2.2.2.2.2.2.2.2.2.2.2.2.2.2.1
theorem wV_3_6 {R : mj_R} (h : mj_wV R) : R 23 6 = 27 := h.2.2.2.2.2.2.2.2.2.2.2.2.2.2.2.2.2.2.2.2.2.2.2.2.1
theorem wV_2_2 {R : mj_R} (h : mj_wV R) : R 28 2 = 29 := h.2.2.2.2.2.2.2.2.2.2.2.2.2.2.2.2.2.2.2.2.2.2.2.2.2.1
theorem wV_7_0 {R : mj_R} (h : mj_wV R) : R 450 0 = 4 := h.2.2.2.2.2.2.2.2.2.2.2.2.2.2.2.2.2.2.2.2.2.2.2.2.2.2.1
theorem wV_6_0 {R : mj_R} (h : mj_wV R) : R 451 0 = 4 := h.2.2.2.2.2.2.2.2.2.2.2.2.2.2.2.2.2.2.2.2.2.2.2.2.2.2.2.1
theorem wV_box_0 {R : mj_R} (h : mj_wV R) : R 2 0 = sA 19 0 := h.2.2.2.2.2.2.2.2.2.2.2.2.2.2.2.2.2.2.2.2.2.2.2.2.2.2.2.2.1
theorem wV_box_1 {R : mj_R} (h : mj_wV R) : R 2 1 = sA 20 0 := h.2.2.2.2.2.2.2.2.2.2.2.2.2.2.2.2.2.2.2.2.2.2.2.2.2.2.2.2.2
def mj_wM (R : mj_R) : Prop := R 452 0 = 453 ∧ R 452 26 = 454 ∧ R 452 27 = 455 ∧ R 452 28 = 456 ∧ R 452 29 = 457 ∧ R 452 30 = 458 ∧ R 452 31 = 459 ∧ R 452 32 = 460 ∧ R 452 33 = 461 ∧ R 452 34 = 462 ∧ R 452 35 = 463 ∧ R 452 36 = 464 ∧ R 452 37 = 465 ∧ R 452 38 = 466 ∧ R 452 39 = 467 ∧ R 452 42 = 468 ∧ R 452 48 = 469 ∧ R 452 49 = 470 ∧ R 452 50 = 471
theorem wM_0 {R : mj_R} (h : mj_wM R) : R 452 0 = 453 := h.1
theorem wM_26 {R : mj_R} (h : mj_wM R) : R 452 26 = 454 := h.2.1
theorem wM_27 {R : mj_R} (h : mj_wM R) : R 452 27 = 455 := h.2.2.1
theorem wM_28 {R : mj_R} (h : mj_wM R) : R 452 28 = 456 := h.2.2.2.1
theorem wM_29 {R : mj_R} (h : mj_wM R) : R 452 29 = 457 := h.2.2.2.2.1
theorem wM_30 {R : mj_R} (h : mj_wM R) : R 452 30 = 458 := h.2.2.2.2.2.1
theorem wM_31 {R : mj_R} (h : mj_wM R) : R 452 31 = 459 := h.2.2.2.2.2.2.1
theorem wM_32 {R : mj_R} (h : mj_wM R) : R 452 32 = 460 := h.2.2.2.2.2.2.2.1
theorem wM_33 {R : mj_R} (h : mj_wM R) : R 452 33 = 461 := h.2.2.2.2.2.2.2.2.1
theorem wM_34 {R : mj_R} (h : mj_wM R) : R 452 34 = 462 := h.2.2.2.2.2.2.2.2.2.1
theorem wM_35 {R : mj_R} (h : mj_wM R) : R 452 35 = 463 := h.2.2.2.2.2.2.2.2.2.2.1
theorem wM_36 {R : mj_R} (h : mj_wM R) : R 452 36 = 464 := h.2.2.2.2.2.2.2.2.2.2.2.1
theorem wM_37 {R : mj_R} (h : mj_wM R) : R 452 37 = 465 := h.2.2.2.2.2.2.2.2.2.2.2.2.1
theorem wM_38 {R : mj_R} (h : mj_wM R) : R 452 38 = 466 := h.2.2.2.2.2.2.2.2.2.2.2.2.2.1
theorem wM_39 {R : mj_R} (h : mj_wM R) : R 452 39 = 467 := h.2.2.2.2.2.2.2.2.2.2.2.2.2.2.1
theorem wM_42 {R : mj_R} (h : mj_wM R) : R 452 42 = 468 := h.2.2.2.2.2.2.2.2.2.2.2.2.2.2.2.1
theorem wM_48 {R : mj_R} (h : mj_wM R) : R 452 48 = 469 := h.2.2.2.2.2.2.2.2.2.2.2.2.2.2.2.2.1
theorem wM_49 {R : mj_R} (h : mj_wM R) : R 452 49 = 470 := h.2.2.2.2.2.2.2.2.2.2.2.2.2.2.2.2.2.1
theorem wM_50 {R : mj_R} (h : mj_wM R) : R 452 50 = 471 := h.2.2.2.2.2.2.2.2.2.2.2.2.2.2.2.2.2.2
theorem nI_e {a b : Nat} (h : a = b) : nI a = nI b := by rw [h]
theorem pk_bb (x : Int32) : x.toInt8.toInt32.toInt8.toInt32 = x.toInt8.toInt32 := by
  have h := pk_nb x
  rw [narrow_byte] at h
  exact Value.int.inj h
