theorem kd_nwo {h : mH} {t n a : Nat} (l : a < h.1.length) : kd (nw h t n) a = kd h a := by
  unfold kd nw
  dsimp only
  rw [List.getD_eq_getElem?_getD, List.getD_eq_getElem?_getD, List.getElem?_append_left l]
theorem kd_nws (h : mH) (t n : Nat) : kd (nw h t n) h.1.length = (t, n) := by
  unfold kd nw
  dsimp only
  rw [List.getD_eq_getElem?_getD, List.getElem?_append_right (Nat.le_refl _), Nat.sub_self]
  rfl
theorem ln_nw (h : mH) (t n : Nat) : (nw h t n).1.length = h.1.length + 1 := by
  unfold nw
  dsimp only
  rw [List.length_append]
  rfl
theorem ln_sR (h : mH) (a k : Nat) (x : Option Nat) : (sR h a k x).1 = h.1 := rfl
def nghI (h : mH) (a : Nat) : mH := sR (nw (sR (nw h 100 7) a 0 (some h.1.length)) 100 7) a 1 (some (h.1.length + 1))
theorem wNgh_i (d : Nat) (h : mH) (a : Nat) (l : a < h.1.length) (k1 : (kd h a).1 = 2) (k2 : (kd h a).2 = 5) : callA (d + 1) 12 [Sum.inr (Sum.inr (some a))] h = some (none, nghI h a) := by
  have l1 : a < (sR (nw h 100 7) a 0 (some h.1.length)).1.length := by rw [ln_sR, ln_nw]; omega
  have e1 : (kd (nw h 100 7) a).1 = 2 := by rw [kd_nwo l]; exact k1
  have e2 : (kd (nw h 100 7) a).2 = 5 := by rw [kd_nwo l]; exact k2
  have e3 : (kd (nw (sR (nw h 100 7) a 0 (some h.1.length)) 100 7) a).1 = 2 := by rw [kd_nwo l1, kd_sR]; exact e1
  have e4 : (kd (nw (sR (nw h 100 7) a 0 (some h.1.length)) 100 7) a).2 = 5 := by rw [kd_nwo l1, kd_sR]; exact e2
  have e5 : (sR (nw h 100 7) a 0 (some h.1.length)).1.length = h.1.length + 1 := by rw [ln_sR, ln_nw]
  rw [en_12]
  simp (disch := (first | omega | (simp only [kd_sI, kd_sL, kd_sR, kd_cp, kd_aI]; omega) | (unfold catV; exact rfl) | (unfold catS; exact Nat.le_of_ble_eq_true rfl) | assumption)) only [q_12_0, q_12_1, q_12_4, q_12_5, q_12_7, q_12_9, q_12_12, q_12_13, q_12_15, q_12_17, q_12_20, aft_i, aft_l, aft_v, Int.toNat_natCast, kd_sI, kd_sL, kd_sR, kd_cp, gI_sL, gI_sR, gL_sI, gL_sR, gR_sI, gR_sL, gL_cp, gR_cp, kd_aI, gL_aI, gR_aI, gI_aI, gI_aIn, sI_aI, gI_sIn, Int.reduceToNat, Int.reduceAdd, Int.reduceSub, Int.reduceMul, Int.reduceNeg, Int.zero_add, e5]
  rfl
def txtI (h : mH) (a : Nat) : mH := sR (nw h 100 180) a 0 (some h.1.length)
theorem wTxt_i (d : Nat) (h : mH) (a : Nat) (l : a < h.1.length) (k1 : (kd h a).1 = 5) (k2 : (kd h a).2 = 8) : callA (d + 1) 35 [Sum.inr (Sum.inr (some a))] h = some (none, txtI h a) := by
  have e1 : (kd (nw h 100 180) a).1 = 5 := by rw [kd_nwo l]; exact k1
  have e2 : (kd (nw h 100 180) a).2 = 8 := by rw [kd_nwo l]; exact k2
  rw [en_35]
  simp (disch := (first | omega | (simp only [kd_sI, kd_sL, kd_sR, kd_cp, kd_aI]; omega) | (unfold catV; exact rfl) | (unfold catS; exact Nat.le_of_ble_eq_true rfl) | assumption)) only [q_35_0, q_35_1, q_35_4, q_35_5, q_35_8, q_35_10, q_35_13, aft_i, aft_l, aft_v, Int.toNat_natCast, kd_sI, kd_sL, kd_sR, kd_cp, gI_sL, gI_sR, gL_sI, gL_sR, gR_sI, gR_sL, gL_cp, gR_cp, kd_aI, gL_aI, gR_aI, gI_aI, gI_aIn, sI_aI, gI_sIn, Int.reduceToNat, Int.reduceAdd, Int.reduceSub, Int.reduceMul, Int.reduceNeg, Int.zero_add]
  rfl
