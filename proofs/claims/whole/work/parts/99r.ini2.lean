/-- a new array, set in a slot -/
def nwR (h : mH) (t n a k : Nat) : mH := sR (nw h t n) a k (some h.1.length)
theorem nwR_l (h : mH) (t n a k : Nat) : (nwR h t n a k).1.length = h.1.length + 1 := ln_nw h t n
theorem nwR_k {h : mH} {t n b k a : Nat} (l : a < h.1.length) : kd (nwR h t n b k) a = kd h a := kd_nwo l
theorem g_51_4 (C : mCall) (h : mH) (a : Nat) (l : a < h.1.length) (k1 : (kd h a).1 = 6) (k2 : (kd h a).2 = 8) : resA C 51 (4, [Sum.inr (Sum.inr (some a))], [], h) = resA C 51 (12, [Sum.inr (Sum.inr (some a))], [], nwR h 100 7 a 0) := by
  have e1 : (kd (nw h 100 7) a).1 = 6 := by rw [kd_nwo l]; exact k1
  have e2 : (kd (nw h 100 7) a).2 = 8 := by rw [kd_nwo l]; exact k2
  simp (disch := (first | omega | (simp only [kd_sI, kd_sL, kd_sR, kd_cp, kd_aI]; omega) | (unfold catV; exact rfl) | (unfold catS; exact Nat.le_of_ble_eq_true rfl) | assumption)) only [q_51_4, q_51_5, q_51_7, q_51_9, aft_i, aft_l, aft_v, Int.toNat_natCast, kd_sI, kd_sL, kd_sR, kd_cp, gI_sL, gI_sR, gL_sI, gL_sR, gR_sI, gR_sL, gL_cp, gR_cp, kd_aI, gL_aI, gR_aI, gI_aI, gI_aIn, sI_aI, gI_sIn, Int.reduceToNat, Int.reduceAdd, Int.reduceSub, Int.reduceMul, Int.reduceNeg, Int.zero_add]
  rfl
theorem g_51_12 (C : mCall) (h : mH) (a : Nat) (l : a < h.1.length) (k1 : (kd h a).1 = 6) (k2 : (kd h a).2 = 8) : resA C 51 (12, [Sum.inr (Sum.inr (some a))], [], h) = resA C 51 (20, [Sum.inr (Sum.inr (some a))], [], nwR h 100 7 a 1) := by
  have e1 : (kd (nw h 100 7) a).1 = 6 := by rw [kd_nwo l]; exact k1
  have e2 : (kd (nw h 100 7) a).2 = 8 := by rw [kd_nwo l]; exact k2
  simp (disch := (first | omega | (simp only [kd_sI, kd_sL, kd_sR, kd_cp, kd_aI]; omega) | (unfold catV; exact rfl) | (unfold catS; exact Nat.le_of_ble_eq_true rfl) | assumption)) only [q_51_12, q_51_13, q_51_15, q_51_17, aft_i, aft_l, aft_v, Int.toNat_natCast, kd_sI, kd_sL, kd_sR, kd_cp, gI_sL, gI_sR, gL_sI, gL_sR, gR_sI, gR_sL, gL_cp, gR_cp, kd_aI, gL_aI, gR_aI, gI_aI, gI_aIn, sI_aI, gI_sIn, Int.reduceToNat, Int.reduceAdd, Int.reduceSub, Int.reduceMul, Int.reduceNeg, Int.zero_add]
  rfl
theorem g_51_20 (C : mCall) (h : mH) (a : Nat) (l : a < h.1.length) (k1 : (kd h a).1 = 6) (k2 : (kd h a).2 = 8) : resA C 51 (20, [Sum.inr (Sum.inr (some a))], [], h) = resA C 51 (28, [Sum.inr (Sum.inr (some a))], [], nwR h 100 7 a 2) := by
  have e1 : (kd (nw h 100 7) a).1 = 6 := by rw [kd_nwo l]; exact k1
  have e2 : (kd (nw h 100 7) a).2 = 8 := by rw [kd_nwo l]; exact k2
  simp (disch := (first | omega | (simp only [kd_sI, kd_sL, kd_sR, kd_cp, kd_aI]; omega) | (unfold catV; exact rfl) | (unfold catS; exact Nat.le_of_ble_eq_true rfl) | assumption)) only [q_51_20, q_51_21, q_51_23, q_51_25, aft_i, aft_l, aft_v, Int.toNat_natCast, kd_sI, kd_sL, kd_sR, kd_cp, gI_sL, gI_sR, gL_sI, gL_sR, gR_sI, gR_sL, gL_cp, gR_cp, kd_aI, gL_aI, gR_aI, gI_aI, gI_aIn, sI_aI, gI_sIn, Int.reduceToNat, Int.reduceAdd, Int.reduceSub, Int.reduceMul, Int.reduceNeg, Int.zero_add]
  rfl
theorem g_51_28 (C : mCall) (h : mH) (a : Nat) (l : a < h.1.length) (k1 : (kd h a).1 = 6) (k2 : (kd h a).2 = 8) : resA C 51 (28, [Sum.inr (Sum.inr (some a))], [], h) = resA C 51 (36, [Sum.inr (Sum.inr (some a))], [], nwR h 100 40 a 3) := by
  have e1 : (kd (nw h 100 40) a).1 = 6 := by rw [kd_nwo l]; exact k1
  have e2 : (kd (nw h 100 40) a).2 = 8 := by rw [kd_nwo l]; exact k2
  simp (disch := (first | omega | (simp only [kd_sI, kd_sL, kd_sR, kd_cp, kd_aI]; omega) | (unfold catV; exact rfl) | (unfold catS; exact Nat.le_of_ble_eq_true rfl) | assumption)) only [q_51_28, q_51_29, q_51_31, q_51_33, aft_i, aft_l, aft_v, Int.toNat_natCast, kd_sI, kd_sL, kd_sR, kd_cp, gI_sL, gI_sR, gL_sI, gL_sR, gR_sI, gR_sL, gL_cp, gR_cp, kd_aI, gL_aI, gR_aI, gI_aI, gI_aIn, sI_aI, gI_sIn, Int.reduceToNat, Int.reduceAdd, Int.reduceSub, Int.reduceMul, Int.reduceNeg, Int.zero_add]
  rfl
theorem g_0_4 (C : mCall) (h : mH) (b1 b2 b3 : mV) (a : Nat) (l : a < h.1.length) (k1 : (kd h a).1 = 0) (k2 : (kd h a).2 = 9) : resA C 0 (4, [Sum.inr (Sum.inr (some a)), b1, b2, b3], [], h) = resA C 0 (12, [Sum.inr (Sum.inr (some a)), b1, b2, b3], [], nwR h 100 7 a 0) := by
  have e1 : (kd (nw h 100 7) a).1 = 0 := by rw [kd_nwo l]; exact k1
  have e2 : (kd (nw h 100 7) a).2 = 9 := by rw [kd_nwo l]; exact k2
  simp (disch := (first | omega | (simp only [kd_sI, kd_sL, kd_sR, kd_cp, kd_aI]; omega) | (unfold catV; exact rfl) | (unfold catS; exact Nat.le_of_ble_eq_true rfl) | assumption)) only [q_0_4, q_0_5, q_0_7, q_0_9, aft_i, aft_l, aft_v, Int.toNat_natCast, kd_sI, kd_sL, kd_sR, kd_cp, gI_sL, gI_sR, gL_sI, gL_sR, gR_sI, gR_sL, gL_cp, gR_cp, kd_aI, gL_aI, gR_aI, gI_aI, gI_aIn, sI_aI, gI_sIn, Int.reduceToNat, Int.reduceAdd, Int.reduceSub, Int.reduceMul, Int.reduceNeg, Int.zero_add]
  rfl
theorem g_0_12 (C : mCall) (h : mH) (b1 b2 b3 : mV) (a : Nat) (l : a < h.1.length) (k1 : (kd h a).1 = 0) (k2 : (kd h a).2 = 9) : resA C 0 (12, [Sum.inr (Sum.inr (some a)), b1, b2, b3], [], h) = resA C 0 (20, [Sum.inr (Sum.inr (some a)), b1, b2, b3], [], nwR h 100 7 a 4) := by
  have e1 : (kd (nw h 100 7) a).1 = 0 := by rw [kd_nwo l]; exact k1
  have e2 : (kd (nw h 100 7) a).2 = 9 := by rw [kd_nwo l]; exact k2
  simp (disch := (first | omega | (simp only [kd_sI, kd_sL, kd_sR, kd_cp, kd_aI]; omega) | (unfold catV; exact rfl) | (unfold catS; exact Nat.le_of_ble_eq_true rfl) | assumption)) only [q_0_12, q_0_13, q_0_15, q_0_17, aft_i, aft_l, aft_v, Int.toNat_natCast, kd_sI, kd_sL, kd_sR, kd_cp, gI_sL, gI_sR, gL_sI, gL_sR, gR_sI, gR_sL, gL_cp, gR_cp, kd_aI, gL_aI, gR_aI, gI_aI, gI_aIn, sI_aI, gI_sIn, Int.reduceToNat, Int.reduceAdd, Int.reduceSub, Int.reduceMul, Int.reduceNeg, Int.zero_add]
  rfl
theorem g_0_20 (C : mCall) (h : mH) (b1 b2 b3 : mV) (a : Nat) (l : a < h.1.length) (k1 : (kd h a).1 = 0) (k2 : (kd h a).2 = 9) : resA C 0 (20, [Sum.inr (Sum.inr (some a)), b1, b2, b3], [], h) = resA C 0 (28, [Sum.inr (Sum.inr (some a)), b1, b2, b3], [], nwR h 100 7 a 5) := by
  have e1 : (kd (nw h 100 7) a).1 = 0 := by rw [kd_nwo l]; exact k1
  have e2 : (kd (nw h 100 7) a).2 = 9 := by rw [kd_nwo l]; exact k2
  simp (disch := (first | omega | (simp only [kd_sI, kd_sL, kd_sR, kd_cp, kd_aI]; omega) | (unfold catV; exact rfl) | (unfold catS; exact Nat.le_of_ble_eq_true rfl) | assumption)) only [q_0_20, q_0_21, q_0_23, q_0_25, aft_i, aft_l, aft_v, Int.toNat_natCast, kd_sI, kd_sL, kd_sR, kd_cp, gI_sL, gI_sR, gL_sI, gL_sR, gR_sI, gR_sL, gL_cp, gR_cp, kd_aI, gL_aI, gR_aI, gI_aI, gI_aIn, sI_aI, gI_sIn, Int.reduceToNat, Int.reduceAdd, Int.reduceSub, Int.reduceMul, Int.reduceNeg, Int.zero_add]
  rfl
theorem g_8_4 (C : mCall) (h : mH) (a : Nat) (l : a < h.1.length) (k1 : (kd h a).1 = 1) (k2 : (kd h a).2 = 3) : resA C 8 (4, [Sum.inr (Sum.inr (some a))], [], h) = resA C 8 (11, [Sum.inr (Sum.inr (some a))], [], nwR h 100 3 a 0) := by
  have e1 : (kd (nw h 100 3) a).1 = 1 := by rw [kd_nwo l]; exact k1
  have e2 : (kd (nw h 100 3) a).2 = 3 := by rw [kd_nwo l]; exact k2
  simp (disch := (first | omega | (simp only [kd_sI, kd_sL, kd_sR, kd_cp, kd_aI]; omega) | (unfold catV; exact rfl) | (unfold catS; exact Nat.le_of_ble_eq_true rfl) | assumption)) only [q_8_4, q_8_5, q_8_6, q_8_8, aft_i, aft_l, aft_v, Int.toNat_natCast, kd_sI, kd_sL, kd_sR, kd_cp, gI_sL, gI_sR, gL_sI, gL_sR, gR_sI, gR_sL, gL_cp, gR_cp, kd_aI, gL_aI, gR_aI, gI_aI, gI_aIn, sI_aI, gI_sIn, Int.reduceToNat, Int.reduceAdd, Int.reduceSub, Int.reduceMul, Int.reduceNeg, Int.zero_add]
  rfl
theorem g_8_11 (C : mCall) (h : mH) (a : Nat) (l : a < h.1.length) (k1 : (kd h a).1 = 1) (k2 : (kd h a).2 = 3) : resA C 8 (11, [Sum.inr (Sum.inr (some a))], [], h) = resA C 8 (19, [Sum.inr (Sum.inr (some a))], [], nwR h 100 41 a 1) := by
  have e1 : (kd (nw h 100 41) a).1 = 1 := by rw [kd_nwo l]; exact k1
  have e2 : (kd (nw h 100 41) a).2 = 3 := by rw [kd_nwo l]; exact k2
  simp (disch := (first | omega | (simp only [kd_sI, kd_sL, kd_sR, kd_cp, kd_aI]; omega) | (unfold catV; exact rfl) | (unfold catS; exact Nat.le_of_ble_eq_true rfl) | assumption)) only [q_8_11, q_8_12, q_8_14, q_8_16, aft_i, aft_l, aft_v, Int.toNat_natCast, kd_sI, kd_sL, kd_sR, kd_cp, gI_sL, gI_sR, gL_sI, gL_sR, gR_sI, gR_sL, gL_cp, gR_cp, kd_aI, gL_aI, gR_aI, gI_aI, gI_aIn, sI_aI, gI_sIn, Int.reduceToNat, Int.reduceAdd, Int.reduceSub, Int.reduceMul, Int.reduceNeg, Int.zero_add]
  rfl
theorem g_8_19 (C : mCall) (h : mH) (a : Nat) (l : a < h.1.length) (k1 : (kd h a).1 = 1) (k2 : (kd h a).2 = 3) : resA C 8 (19, [Sum.inr (Sum.inr (some a))], [], h) = resA C 8 (27, [Sum.inr (Sum.inr (some a))], [], nwR h 100 41 a 2) := by
  have e1 : (kd (nw h 100 41) a).1 = 1 := by rw [kd_nwo l]; exact k1
  have e2 : (kd (nw h 100 41) a).2 = 3 := by rw [kd_nwo l]; exact k2
  simp (disch := (first | omega | (simp only [kd_sI, kd_sL, kd_sR, kd_cp, kd_aI]; omega) | (unfold catV; exact rfl) | (unfold catS; exact Nat.le_of_ble_eq_true rfl) | assumption)) only [q_8_19, q_8_20, q_8_22, q_8_24, aft_i, aft_l, aft_v, Int.toNat_natCast, kd_sI, kd_sL, kd_sR, kd_cp, gI_sL, gI_sR, gL_sI, gL_sR, gR_sI, gR_sL, gL_cp, gR_cp, kd_aI, gL_aI, gR_aI, gI_aI, gI_aIn, sI_aI, gI_sIn, Int.reduceToNat, Int.reduceAdd, Int.reduceSub, Int.reduceMul, Int.reduceNeg, Int.zero_add]
  rfl
theorem g_60_93 (C : mCall) (h : mH) (b1 : mV) (a : Nat) (l : a < h.1.length) (k1 : (kd h a).1 = 7) (k2 : (kd h a).2 = 17) : resA C 60 (93, [Sum.inr (Sum.inr (some a)), b1], [], h) = resA C 60 (101, [Sum.inr (Sum.inr (some a)), b1], [], nwR h 100 7 a 6) := by
  have e1 : (kd (nw h 100 7) a).1 = 7 := by rw [kd_nwo l]; exact k1
  have e2 : (kd (nw h 100 7) a).2 = 17 := by rw [kd_nwo l]; exact k2
  simp (disch := (first | omega | (simp only [kd_sI, kd_sL, kd_sR, kd_cp, kd_aI]; omega) | (unfold catV; exact rfl) | (unfold catS; exact Nat.le_of_ble_eq_true rfl) | assumption)) only [q_60_93, q_60_94, q_60_96, q_60_98, aft_i, aft_l, aft_v, Int.toNat_natCast, kd_sI, kd_sL, kd_sR, kd_cp, gI_sL, gI_sR, gL_sI, gL_sR, gR_sI, gR_sL, gL_cp, gR_cp, kd_aI, gL_aI, gR_aI, gI_aI, gI_aIn, sI_aI, gI_sIn, Int.reduceToNat, Int.reduceAdd, Int.reduceSub, Int.reduceMul, Int.reduceNeg, Int.zero_add]
  rfl
theorem g_60_138 (C : mCall) (h : mH) (b1 : mV) (a : Nat) (l : a < h.1.length) (k1 : (kd h a).1 = 7) (k2 : (kd h a).2 = 17) : resA C 60 (138, [Sum.inr (Sum.inr (some a)), b1], [], h) = resA C 60 (146, [Sum.inr (Sum.inr (some a)), b1], [], nwR h 100 6 a 11) := by
  have e1 : (kd (nw h 100 6) a).1 = 7 := by rw [kd_nwo l]; exact k1
  have e2 : (kd (nw h 100 6) a).2 = 17 := by rw [kd_nwo l]; exact k2
  simp (disch := (first | omega | (simp only [kd_sI, kd_sL, kd_sR, kd_cp, kd_aI]; omega) | (unfold catV; exact rfl) | (unfold catS; exact Nat.le_of_ble_eq_true rfl) | assumption)) only [q_60_138, q_60_139, q_60_141, q_60_143, aft_i, aft_l, aft_v, Int.toNat_natCast, kd_sI, kd_sL, kd_sR, kd_cp, gI_sL, gI_sR, gL_sI, gL_sR, gR_sI, gR_sL, gL_cp, gR_cp, kd_aI, gL_aI, gR_aI, gI_aI, gI_aIn, sI_aI, gI_sIn, Int.reduceToNat, Int.reduceAdd, Int.reduceSub, Int.reduceMul, Int.reduceNeg, Int.zero_add]
  rfl
theorem g_60_146 (C : mCall) (h : mH) (b1 : mV) (a : Nat) (l : a < h.1.length) (k1 : (kd h a).1 = 7) (k2 : (kd h a).2 = 17) : resA C 60 (146, [Sum.inr (Sum.inr (some a)), b1], [], h) = resA C 60 (154, [Sum.inr (Sum.inr (some a)), b1], [], nwR h 100 6 a 12) := by
  have e1 : (kd (nw h 100 6) a).1 = 7 := by rw [kd_nwo l]; exact k1
  have e2 : (kd (nw h 100 6) a).2 = 17 := by rw [kd_nwo l]; exact k2
  simp (disch := (first | omega | (simp only [kd_sI, kd_sL, kd_sR, kd_cp, kd_aI]; omega) | (unfold catV; exact rfl) | (unfold catS; exact Nat.le_of_ble_eq_true rfl) | assumption)) only [q_60_146, q_60_147, q_60_149, q_60_151, aft_i, aft_l, aft_v, Int.toNat_natCast, kd_sI, kd_sL, kd_sR, kd_cp, gI_sL, gI_sR, gL_sI, gL_sR, gR_sI, gR_sL, gL_cp, gR_cp, kd_aI, gL_aI, gR_aI, gI_aI, gI_aIn, sI_aI, gI_sIn, Int.reduceToNat, Int.reduceAdd, Int.reduceSub, Int.reduceMul, Int.reduceNeg, Int.zero_add]
  rfl
theorem g_60_154 (C : mCall) (h : mH) (b1 : mV) (a : Nat) (l : a < h.1.length) (k1 : (kd h a).1 = 7) (k2 : (kd h a).2 = 17) : resA C 60 (154, [Sum.inr (Sum.inr (some a)), b1], [], h) = resA C 60 (162, [Sum.inr (Sum.inr (some a)), b1], [], nwR h 100 7 a 15) := by
  have e1 : (kd (nw h 100 7) a).1 = 7 := by rw [kd_nwo l]; exact k1
  have e2 : (kd (nw h 100 7) a).2 = 17 := by rw [kd_nwo l]; exact k2
  simp (disch := (first | omega | (simp only [kd_sI, kd_sL, kd_sR, kd_cp, kd_aI]; omega) | (unfold catV; exact rfl) | (unfold catS; exact Nat.le_of_ble_eq_true rfl) | assumption)) only [q_60_154, q_60_155, q_60_157, q_60_159, aft_i, aft_l, aft_v, Int.toNat_natCast, kd_sI, kd_sL, kd_sR, kd_cp, gI_sL, gI_sR, gL_sI, gL_sR, gR_sI, gR_sL, gL_cp, gR_cp, kd_aI, gL_aI, gR_aI, gI_aI, gI_aIn, sI_aI, gI_sIn, Int.reduceToNat, Int.reduceAdd, Int.reduceSub, Int.reduceMul, Int.reduceNeg, Int.zero_add]
  rfl
theorem g_60_162 (C : mCall) (h : mH) (b1 : mV) (a : Nat) (l : a < h.1.length) (k1 : (kd h a).1 = 7) (k2 : (kd h a).2 = 17) : resA C 60 (162, [Sum.inr (Sum.inr (some a)), b1], [], h) = resA C 60 (170, [Sum.inr (Sum.inr (some a)), b1], [], nwR h 100 7 a 16) := by
  have e1 : (kd (nw h 100 7) a).1 = 7 := by rw [kd_nwo l]; exact k1
  have e2 : (kd (nw h 100 7) a).2 = 17 := by rw [kd_nwo l]; exact k2
  simp (disch := (first | omega | (simp only [kd_sI, kd_sL, kd_sR, kd_cp, kd_aI]; omega) | (unfold catV; exact rfl) | (unfold catS; exact Nat.le_of_ble_eq_true rfl) | assumption)) only [q_60_162, q_60_163, q_60_165, q_60_167, aft_i, aft_l, aft_v, Int.toNat_natCast, kd_sI, kd_sL, kd_sR, kd_cp, gI_sL, gI_sR, gL_sI, gL_sR, gR_sI, gR_sL, gL_cp, gR_cp, kd_aI, gL_aI, gR_aI, gI_aI, gI_aIn, sI_aI, gI_sIn, Int.reduceToNat, Int.reduceAdd, Int.reduceSub, Int.reduceMul, Int.reduceNeg, Int.zero_add]
  rfl
theorem g_122_4 (C : mCall) (h : mH) (a : Nat) (l : a < h.1.length) (k1 : (kd h a).1 = 8) (k2 : (kd h a).2 = 26) : resA C 122 (4, [Sum.inr (Sum.inr (some a))], [], h) = resA C 122 (13, [Sum.inr (Sum.inr (some a))], [], nwR h 101 180 a 1) := by
  have e1 : (kd (nw h 101 180) a).1 = 8 := by rw [kd_nwo l]; exact k1
  have e2 : (kd (nw h 101 180) a).2 = 26 := by rw [kd_nwo l]; exact k2
  simp (disch := (first | omega | (simp only [kd_sI, kd_sL, kd_sR, kd_cp, kd_aI]; omega) | (unfold catV; exact rfl) | (unfold catS; exact Nat.le_of_ble_eq_true rfl) | assumption)) only [q_122_4, q_122_5, q_122_8, q_122_10, aft_i, aft_l, aft_v, Int.toNat_natCast, kd_sI, kd_sL, kd_sR, kd_cp, gI_sL, gI_sR, gL_sI, gL_sR, gR_sI, gR_sL, gL_cp, gR_cp, kd_aI, gL_aI, gR_aI, gI_aI, gI_aIn, sI_aI, gI_sIn, Int.reduceToNat, Int.reduceAdd, Int.reduceSub, Int.reduceMul, Int.reduceNeg, Int.zero_add]
  rfl
theorem g_122_13 (C : mCall) (h : mH) (a : Nat) (l : a < h.1.length) (k1 : (kd h a).1 = 8) (k2 : (kd h a).2 = 26) : resA C 122 (13, [Sum.inr (Sum.inr (some a))], [], h) = resA C 122 (20, [Sum.inr (Sum.inr (some a))], [], nwR h 100 2 a 3) := by
  have e1 : (kd (nw h 100 2) a).1 = 8 := by rw [kd_nwo l]; exact k1
  have e2 : (kd (nw h 100 2) a).2 = 26 := by rw [kd_nwo l]; exact k2
  simp (disch := (first | omega | (simp only [kd_sI, kd_sL, kd_sR, kd_cp, kd_aI]; omega) | (unfold catV; exact rfl) | (unfold catS; exact Nat.le_of_ble_eq_true rfl) | assumption)) only [q_122_13, q_122_14, q_122_15, q_122_17, aft_i, aft_l, aft_v, Int.toNat_natCast, kd_sI, kd_sL, kd_sR, kd_cp, gI_sL, gI_sR, gL_sI, gL_sR, gR_sI, gR_sL, gL_cp, gR_cp, kd_aI, gL_aI, gR_aI, gI_aI, gI_aIn, sI_aI, gI_sIn, Int.reduceToNat, Int.reduceAdd, Int.reduceSub, Int.reduceMul, Int.reduceNeg, Int.zero_add]
  rfl
theorem g_122_20 (C : mCall) (h : mH) (a : Nat) (l : a < h.1.length) (k1 : (kd h a).1 = 8) (k2 : (kd h a).2 = 26) : resA C 122 (20, [Sum.inr (Sum.inr (some a))], [], h) = resA C 122 (28, [Sum.inr (Sum.inr (some a))], [], nwR h 100 7 a 4) := by
  have e1 : (kd (nw h 100 7) a).1 = 8 := by rw [kd_nwo l]; exact k1
  have e2 : (kd (nw h 100 7) a).2 = 26 := by rw [kd_nwo l]; exact k2
  simp (disch := (first | omega | (simp only [kd_sI, kd_sL, kd_sR, kd_cp, kd_aI]; omega) | (unfold catV; exact rfl) | (unfold catS; exact Nat.le_of_ble_eq_true rfl) | assumption)) only [q_122_20, q_122_21, q_122_23, q_122_25, aft_i, aft_l, aft_v, Int.toNat_natCast, kd_sI, kd_sL, kd_sR, kd_cp, gI_sL, gI_sR, gL_sI, gL_sR, gR_sI, gR_sL, gL_cp, gR_cp, kd_aI, gL_aI, gR_aI, gI_aI, gI_aIn, sI_aI, gI_sIn, Int.reduceToNat, Int.reduceAdd, Int.reduceSub, Int.reduceMul, Int.reduceNeg, Int.zero_add]
  rfl
theorem g_122_28 (C : mCall) (h : mH) (a : Nat) (l : a < h.1.length) (k1 : (kd h a).1 = 8) (k2 : (kd h a).2 = 26) : resA C 122 (28, [Sum.inr (Sum.inr (some a))], [], h) = resA C 122 (36, [Sum.inr (Sum.inr (some a))], [], nwR h 100 14 a 5) := by
  have e1 : (kd (nw h 100 14) a).1 = 8 := by rw [kd_nwo l]; exact k1
  have e2 : (kd (nw h 100 14) a).2 = 26 := by rw [kd_nwo l]; exact k2
  simp (disch := (first | omega | (simp only [kd_sI, kd_sL, kd_sR, kd_cp, kd_aI]; omega) | (unfold catV; exact rfl) | (unfold catS; exact Nat.le_of_ble_eq_true rfl) | assumption)) only [q_122_28, q_122_29, q_122_31, q_122_33, aft_i, aft_l, aft_v, Int.toNat_natCast, kd_sI, kd_sL, kd_sR, kd_cp, gI_sL, gI_sR, gL_sI, gL_sR, gR_sI, gR_sL, gL_cp, gR_cp, kd_aI, gL_aI, gR_aI, gI_aI, gI_aIn, sI_aI, gI_sIn, Int.reduceToNat, Int.reduceAdd, Int.reduceSub, Int.reduceMul, Int.reduceNeg, Int.zero_add]
  rfl
theorem g_122_36 (C : mCall) (h : mH) (a : Nat) (l : a < h.1.length) (k1 : (kd h a).1 = 8) (k2 : (kd h a).2 = 26) : resA C 122 (36, [Sum.inr (Sum.inr (some a))], [], h) = resA C 122 (44, [Sum.inr (Sum.inr (some a))], [], nwR h 100 14 a 6) := by
  have e1 : (kd (nw h 100 14) a).1 = 8 := by rw [kd_nwo l]; exact k1
  have e2 : (kd (nw h 100 14) a).2 = 26 := by rw [kd_nwo l]; exact k2
  simp (disch := (first | omega | (simp only [kd_sI, kd_sL, kd_sR, kd_cp, kd_aI]; omega) | (unfold catV; exact rfl) | (unfold catS; exact Nat.le_of_ble_eq_true rfl) | assumption)) only [q_122_36, q_122_37, q_122_39, q_122_41, aft_i, aft_l, aft_v, Int.toNat_natCast, kd_sI, kd_sL, kd_sR, kd_cp, gI_sL, gI_sR, gL_sI, gL_sR, gR_sI, gR_sL, gL_cp, gR_cp, kd_aI, gL_aI, gR_aI, gI_aI, gI_aIn, sI_aI, gI_sIn, Int.reduceToNat, Int.reduceAdd, Int.reduceSub, Int.reduceMul, Int.reduceNeg, Int.zero_add]
  rfl
theorem g_122_44 (C : mCall) (h : mH) (a : Nat) (l : a < h.1.length) (k1 : (kd h a).1 = 8) (k2 : (kd h a).2 = 26) : resA C 122 (44, [Sum.inr (Sum.inr (some a))], [], h) = resA C 122 (51, [Sum.inr (Sum.inr (some a))], [], nwR h 100 2 a 7) := by
  have e1 : (kd (nw h 100 2) a).1 = 8 := by rw [kd_nwo l]; exact k1
  have e2 : (kd (nw h 100 2) a).2 = 26 := by rw [kd_nwo l]; exact k2
  simp (disch := (first | omega | (simp only [kd_sI, kd_sL, kd_sR, kd_cp, kd_aI]; omega) | (unfold catV; exact rfl) | (unfold catS; exact Nat.le_of_ble_eq_true rfl) | assumption)) only [q_122_44, q_122_45, q_122_46, q_122_48, aft_i, aft_l, aft_v, Int.toNat_natCast, kd_sI, kd_sL, kd_sR, kd_cp, gI_sL, gI_sR, gL_sI, gL_sR, gR_sI, gR_sL, gL_cp, gR_cp, kd_aI, gL_aI, gR_aI, gI_aI, gI_aIn, sI_aI, gI_sIn, Int.reduceToNat, Int.reduceAdd, Int.reduceSub, Int.reduceMul, Int.reduceNeg, Int.zero_add]
  rfl
theorem g_122_51 (C : mCall) (h : mH) (a : Nat) (l : a < h.1.length) (k1 : (kd h a).1 = 8) (k2 : (kd h a).2 = 26) : resA C 122 (51, [Sum.inr (Sum.inr (some a))], [], h) = resA C 122 (59, [Sum.inr (Sum.inr (some a))], [], nwR h 100 80 a 8) := by
  have e1 : (kd (nw h 100 80) a).1 = 8 := by rw [kd_nwo l]; exact k1
  have e2 : (kd (nw h 100 80) a).2 = 26 := by rw [kd_nwo l]; exact k2
  simp (disch := (first | omega | (simp only [kd_sI, kd_sL, kd_sR, kd_cp, kd_aI]; omega) | (unfold catV; exact rfl) | (unfold catS; exact Nat.le_of_ble_eq_true rfl) | assumption)) only [q_122_51, q_122_52, q_122_54, q_122_56, aft_i, aft_l, aft_v, Int.toNat_natCast, kd_sI, kd_sL, kd_sR, kd_cp, gI_sL, gI_sR, gL_sI, gL_sR, gR_sI, gR_sL, gL_cp, gR_cp, kd_aI, gL_aI, gR_aI, gI_aI, gI_aIn, sI_aI, gI_sIn, Int.reduceToNat, Int.reduceAdd, Int.reduceSub, Int.reduceMul, Int.reduceNeg, Int.zero_add]
  rfl
theorem g_122_59 (C : mCall) (h : mH) (a : Nat) (l : a < h.1.length) (k1 : (kd h a).1 = 8) (k2 : (kd h a).2 = 26) : resA C 122 (59, [Sum.inr (Sum.inr (some a))], [], h) = resA C 122 (66, [Sum.inr (Sum.inr (some a))], [], nwR h 100 4 a 9) := by
  have e1 : (kd (nw h 100 4) a).1 = 8 := by rw [kd_nwo l]; exact k1
  have e2 : (kd (nw h 100 4) a).2 = 26 := by rw [kd_nwo l]; exact k2
  simp (disch := (first | omega | (simp only [kd_sI, kd_sL, kd_sR, kd_cp, kd_aI]; omega) | (unfold catV; exact rfl) | (unfold catS; exact Nat.le_of_ble_eq_true rfl) | assumption)) only [q_122_59, q_122_60, q_122_61, q_122_63, aft_i, aft_l, aft_v, Int.toNat_natCast, kd_sI, kd_sL, kd_sR, kd_cp, gI_sL, gI_sR, gL_sI, gL_sR, gR_sI, gR_sL, gL_cp, gR_cp, kd_aI, gL_aI, gR_aI, gI_aI, gI_aIn, sI_aI, gI_sIn, Int.reduceToNat, Int.reduceAdd, Int.reduceSub, Int.reduceMul, Int.reduceNeg, Int.zero_add]
  rfl
theorem g_122_66 (C : mCall) (h : mH) (a : Nat) (l : a < h.1.length) (k1 : (kd h a).1 = 8) (k2 : (kd h a).2 = 26) : resA C 122 (66, [Sum.inr (Sum.inr (some a))], [], h) = resA C 122 (75, [Sum.inr (Sum.inr (some a))], [], nwR h 100 1851 a 16) := by
  have e1 : (kd (nw h 100 1851) a).1 = 8 := by rw [kd_nwo l]; exact k1
  have e2 : (kd (nw h 100 1851) a).2 = 26 := by rw [kd_nwo l]; exact k2
  simp (disch := (first | omega | (simp only [kd_sI, kd_sL, kd_sR, kd_cp, kd_aI]; omega) | (unfold catV; exact rfl) | (unfold catS; exact Nat.le_of_ble_eq_true rfl) | assumption)) only [q_122_66, q_122_67, q_122_70, q_122_72, aft_i, aft_l, aft_v, Int.toNat_natCast, kd_sI, kd_sL, kd_sR, kd_cp, gI_sL, gI_sR, gL_sI, gL_sR, gR_sI, gR_sL, gL_cp, gR_cp, kd_aI, gL_aI, gR_aI, gI_aI, gI_aIn, sI_aI, gI_sIn, Int.reduceToNat, Int.reduceAdd, Int.reduceSub, Int.reduceMul, Int.reduceNeg, Int.zero_add]
  rfl
theorem g_122_75 (C : mCall) (h : mH) (a : Nat) (l : a < h.1.length) (k1 : (kd h a).1 = 8) (k2 : (kd h a).2 = 26) : resA C 122 (75, [Sum.inr (Sum.inr (some a))], [], h) = resA C 122 (82, [Sum.inr (Sum.inr (some a))], [], nwR h 102 2 a 17) := by
  have e1 : (kd (nw h 102 2) a).1 = 8 := by rw [kd_nwo l]; exact k1
  have e2 : (kd (nw h 102 2) a).2 = 26 := by rw [kd_nwo l]; exact k2
  simp (disch := (first | omega | (simp only [kd_sI, kd_sL, kd_sR, kd_cp, kd_aI]; omega) | (unfold catV; exact rfl) | (unfold catS; exact Nat.le_of_ble_eq_true rfl) | assumption)) only [q_122_75, q_122_76, q_122_77, q_122_79, aft_i, aft_l, aft_v, Int.toNat_natCast, kd_sI, kd_sL, kd_sR, kd_cp, gI_sL, gI_sR, gL_sI, gL_sR, gR_sI, gR_sL, gL_cp, gR_cp, kd_aI, gL_aI, gR_aI, gI_aI, gI_aIn, sI_aI, gI_sIn, Int.reduceToNat, Int.reduceAdd, Int.reduceSub, Int.reduceMul, Int.reduceNeg, Int.zero_add]
  rfl
theorem g_122_82 (C : mCall) (h : mH) (a : Nat) (l : a < h.1.length) (k1 : (kd h a).1 = 8) (k2 : (kd h a).2 = 26) : resA C 122 (82, [Sum.inr (Sum.inr (some a))], [], h) = resA C 122 (90, [Sum.inr (Sum.inr (some a))], [], nwR h 100 7 a 18) := by
  have e1 : (kd (nw h 100 7) a).1 = 8 := by rw [kd_nwo l]; exact k1
  have e2 : (kd (nw h 100 7) a).2 = 26 := by rw [kd_nwo l]; exact k2
  simp (disch := (first | omega | (simp only [kd_sI, kd_sL, kd_sR, kd_cp, kd_aI]; omega) | (unfold catV; exact rfl) | (unfold catS; exact Nat.le_of_ble_eq_true rfl) | assumption)) only [q_122_82, q_122_83, q_122_85, q_122_87, aft_i, aft_l, aft_v, Int.toNat_natCast, kd_sI, kd_sL, kd_sR, kd_cp, gI_sL, gI_sR, gL_sI, gL_sR, gR_sI, gR_sL, gL_cp, gR_cp, kd_aI, gL_aI, gR_aI, gI_aI, gI_aIn, sI_aI, gI_sIn, Int.reduceToNat, Int.reduceAdd, Int.reduceSub, Int.reduceMul, Int.reduceNeg, Int.zero_add]
  rfl
theorem g_122_90 (C : mCall) (h : mH) (a : Nat) (l : a < h.1.length) (k1 : (kd h a).1 = 8) (k2 : (kd h a).2 = 26) : resA C 122 (90, [Sum.inr (Sum.inr (some a))], [], h) = resA C 122 (98, [Sum.inr (Sum.inr (some a))], [], nwR h 100 40 a 20) := by
  have e1 : (kd (nw h 100 40) a).1 = 8 := by rw [kd_nwo l]; exact k1
  have e2 : (kd (nw h 100 40) a).2 = 26 := by rw [kd_nwo l]; exact k2
  simp (disch := (first | omega | (simp only [kd_sI, kd_sL, kd_sR, kd_cp, kd_aI]; omega) | (unfold catV; exact rfl) | (unfold catS; exact Nat.le_of_ble_eq_true rfl) | assumption)) only [q_122_90, q_122_91, q_122_93, q_122_95, aft_i, aft_l, aft_v, Int.toNat_natCast, kd_sI, kd_sL, kd_sR, kd_cp, gI_sL, gI_sR, gL_sI, gL_sR, gR_sI, gR_sL, gL_cp, gR_cp, kd_aI, gL_aI, gR_aI, gI_aI, gI_aIn, sI_aI, gI_sIn, Int.reduceToNat, Int.reduceAdd, Int.reduceSub, Int.reduceMul, Int.reduceNeg, Int.zero_add]
  rfl
theorem g_122_98 (C : mCall) (h : mH) (a : Nat) (l : a < h.1.length) (k1 : (kd h a).1 = 8) (k2 : (kd h a).2 = 26) : resA C 122 (98, [Sum.inr (Sum.inr (some a))], [], h) = resA C 122 (106, [Sum.inr (Sum.inr (some a))], [], nwR h 100 7 a 21) := by
  have e1 : (kd (nw h 100 7) a).1 = 8 := by rw [kd_nwo l]; exact k1
  have e2 : (kd (nw h 100 7) a).2 = 26 := by rw [kd_nwo l]; exact k2
  simp (disch := (first | omega | (simp only [kd_sI, kd_sL, kd_sR, kd_cp, kd_aI]; omega) | (unfold catV; exact rfl) | (unfold catS; exact Nat.le_of_ble_eq_true rfl) | assumption)) only [q_122_98, q_122_99, q_122_101, q_122_103, aft_i, aft_l, aft_v, Int.toNat_natCast, kd_sI, kd_sL, kd_sR, kd_cp, gI_sL, gI_sR, gL_sI, gL_sR, gR_sI, gR_sL, gL_cp, gR_cp, kd_aI, gL_aI, gR_aI, gI_aI, gI_aIn, sI_aI, gI_sIn, Int.reduceToNat, Int.reduceAdd, Int.reduceSub, Int.reduceMul, Int.reduceNeg, Int.zero_add]
  rfl
theorem g_122_106 (C : mCall) (h : mH) (a : Nat) (l : a < h.1.length) (k1 : (kd h a).1 = 8) (k2 : (kd h a).2 = 26) : resA C 122 (106, [Sum.inr (Sum.inr (some a))], [], h) = resA C 122 (114, [Sum.inr (Sum.inr (some a))], [], nwR h 100 7 a 22) := by
  have e1 : (kd (nw h 100 7) a).1 = 8 := by rw [kd_nwo l]; exact k1
  have e2 : (kd (nw h 100 7) a).2 = 26 := by rw [kd_nwo l]; exact k2
  simp (disch := (first | omega | (simp only [kd_sI, kd_sL, kd_sR, kd_cp, kd_aI]; omega) | (unfold catV; exact rfl) | (unfold catS; exact Nat.le_of_ble_eq_true rfl) | assumption)) only [q_122_106, q_122_107, q_122_109, q_122_111, aft_i, aft_l, aft_v, Int.toNat_natCast, kd_sI, kd_sL, kd_sR, kd_cp, gI_sL, gI_sR, gL_sI, gL_sR, gR_sI, gR_sL, gL_cp, gR_cp, kd_aI, gL_aI, gR_aI, gI_aI, gI_aIn, sI_aI, gI_sIn, Int.reduceToNat, Int.reduceAdd, Int.reduceSub, Int.reduceMul, Int.reduceNeg, Int.zero_add]
  rfl
theorem g_122_114 (C : mCall) (h : mH) (a : Nat) (l : a < h.1.length) (k1 : (kd h a).1 = 8) (k2 : (kd h a).2 = 26) : resA C 122 (114, [Sum.inr (Sum.inr (some a))], [], h) = resA C 122 (122, [Sum.inr (Sum.inr (some a))], [], nwR h 100 6 a 23) := by
  have e1 : (kd (nw h 100 6) a).1 = 8 := by rw [kd_nwo l]; exact k1
  have e2 : (kd (nw h 100 6) a).2 = 26 := by rw [kd_nwo l]; exact k2
  simp (disch := (first | omega | (simp only [kd_sI, kd_sL, kd_sR, kd_cp, kd_aI]; omega) | (unfold catV; exact rfl) | (unfold catS; exact Nat.le_of_ble_eq_true rfl) | assumption)) only [q_122_114, q_122_115, q_122_117, q_122_119, aft_i, aft_l, aft_v, Int.toNat_natCast, kd_sI, kd_sL, kd_sR, kd_cp, gI_sL, gI_sR, gL_sI, gL_sR, gR_sI, gR_sL, gL_cp, gR_cp, kd_aI, gL_aI, gR_aI, gI_aI, gI_aIn, sI_aI, gI_sIn, Int.reduceToNat, Int.reduceAdd, Int.reduceSub, Int.reduceMul, Int.reduceNeg, Int.zero_add]
  rfl
theorem g_122_122 (C : mCall) (h : mH) (a : Nat) (l : a < h.1.length) (k1 : (kd h a).1 = 8) (k2 : (kd h a).2 = 26) : resA C 122 (122, [Sum.inr (Sum.inr (some a))], [], h) = resA C 122 (130, [Sum.inr (Sum.inr (some a))], [], nwR h 100 6 a 24) := by
  have e1 : (kd (nw h 100 6) a).1 = 8 := by rw [kd_nwo l]; exact k1
  have e2 : (kd (nw h 100 6) a).2 = 26 := by rw [kd_nwo l]; exact k2
  simp (disch := (first | omega | (simp only [kd_sI, kd_sL, kd_sR, kd_cp, kd_aI]; omega) | (unfold catV; exact rfl) | (unfold catS; exact Nat.le_of_ble_eq_true rfl) | assumption)) only [q_122_122, q_122_123, q_122_125, q_122_127, aft_i, aft_l, aft_v, Int.toNat_natCast, kd_sI, kd_sL, kd_sR, kd_cp, gI_sL, gI_sR, gL_sI, gL_sR, gR_sI, gR_sL, gL_cp, gR_cp, kd_aI, gL_aI, gR_aI, gI_aI, gI_aIn, sI_aI, gI_sIn, Int.reduceToNat, Int.reduceAdd, Int.reduceSub, Int.reduceMul, Int.reduceNeg, Int.zero_add]
  rfl
