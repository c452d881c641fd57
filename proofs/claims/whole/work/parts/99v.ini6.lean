theorem txt_k {h : mH} {a b : Nat} (l : b < h.1.length) : kd (txtI h a) b = kd h b := kd_nwo l
theorem tld_k {h : mH} {a b : Nat} (l : b < h.1.length) : kd (tldI h a) b = kd h b := ary51_k l
theorem rmm_k {h : mH} {a b : Nat} (l : b < h.1.length) : kd (rmmI h a) b = kd h b := kd_ap (nwm_sh h 7 41) l
theorem psts_k (v : Nat) : ∀ (f i : Nat) {h : mH} {b : Nat}, b < h.1.length → kd (pstsI h v f i) b = kd h b
  | 0, _, _, _, _ => rfl
  | f + 1, i, h, b, l => by
    have p := pst_1 h v i
    have l2 : b < (pstI h v i).1.length := by rw [p, List.length_append]; omega
    show kd (pstsI (pstI h v i) v f (i + 1)) b = _
    rw [psts_k v f (i + 1) l2, kd_ap p l]
theorem scn_k {h : mH} {a b : Nat} (l : b < h.1.length) : kd (scnI h a) b = kd h b := by
  unfold scnI
  rw [psts_k _ 10 0 (by rw [scn0_1, List.length_append]; omega), kd_ap (scn0_1 h a) l]
def bstI (h : mH) (a x y z : Nat) : mH := sR (sR (sR (ary0 h a) a 6 (some x)) a 7 (some y)) a 8 (some z)
theorem wBsO_i (d : Nat) (h : mH) (a x y z : Nat) (l : a < h.1.length) (k1 : (kd h a).1 = 0) (k2 : (kd h a).2 = 9) : callA (d + 1) 0 [Sum.inr (Sum.inr (some a)), Sum.inr (Sum.inr (some x)), Sum.inr (Sum.inr (some y)), Sum.inr (Sum.inr (some z))] h = some (none, bstI h a x y z) := by
  have e1 : (kd (ary0 h a) a).1 = 0 := by rw [ary0_k l]; exact k1
  have e2 : (kd (ary0 h a) a).2 = 9 := by rw [ary0_k l]; exact k2
  rw [en_0, q_0_0, q_0_1 (Nat.le_of_ble_eq_true rfl), ary0_ok _ h _ _ _ a l k1 k2]
  simp (disch := (first | omega | (simp only [kd_sI, kd_sL, kd_sR, kd_cp, kd_aI]; omega) | (unfold catV; exact rfl) | (unfold catS; exact Nat.le_of_ble_eq_true rfl) | assumption)) only [q_0_12, q_0_13, q_0_15, q_0_17, q_0_20, q_0_21, q_0_23, q_0_25, q_0_28, q_0_29, q_0_30, q_0_33, q_0_34, q_0_35, q_0_38, q_0_39, q_0_40, q_0_43, aft_i, aft_l, aft_v, Int.toNat_natCast, kd_sI, kd_sL, kd_sR, kd_cp, gI_sL, gI_sR, gL_sI, gL_sR, gR_sI, gR_sL, gL_cp, gR_cp, kd_aI, gL_aI, gR_aI, gI_aI, gI_aIn, sI_aI, gI_sIn, Int.reduceToNat, Int.reduceAdd, Int.reduceSub, Int.reduceMul, Int.reduceNeg, Int.zero_add, e1, e2]
  rfl
theorem n60_4 (d : Nat) (h : mH) (b1 : mV) (l : 0 < h.1.length) (k1 : (kd h 0).1 = 7) (k2 : (kd h 0).2 = 17) : resA (callA (d + 3)) 60 (4, [Sum.inr (Sum.inr (some 0)), b1], [], h) = resA (callA (d + 3)) 60 (15, [Sum.inr (Sum.inr (some 0)), b1], [], sR (txtI (nw h 5 8) h.1.length) 0 0 (some h.1.length)) := by
  have e5 : kd (nw h 5 8) h.1.length = (5, 8) := kd_nws h 5 8
  have f1 : (kd (nw h 5 8) h.1.length).1 = 5 := by rw [e5]
  have f2 : (kd (nw h 5 8) h.1.length).2 = 8 := by rw [e5]
  have n1 := wTxt_i (d + 2) (nw h 5 8) h.1.length (by rw [ln_nw]; omega) f1 f2
  have g0 : kd (txtI (nw h 5 8) h.1.length) 0 = kd h 0 := by rw [txt_k (by rw [ln_nw]; omega), kd_nwo l]
  have g1 : (kd (txtI (nw h 5 8) h.1.length) 0).1 = 7 := by rw [g0]; exact k1
  have g2 : (kd (txtI (nw h 5 8) h.1.length) 0).2 = 17 := by rw [g0]; exact k2
  simp (disch := (first | omega | (simp only [kd_sI, kd_sL, kd_sR, kd_cp, kd_aI]; omega) | (unfold catV; exact rfl) | (unfold catS; exact Nat.le_of_ble_eq_true rfl) | assumption)) only [q_60_4, q_60_5, q_60_8, q_60_9, q_60_12, aft_i, aft_l, aft_v, Int.toNat_natCast, kd_sI, kd_sL, kd_sR, kd_cp, gI_sL, gI_sR, gL_sI, gL_sR, gR_sI, gR_sL, gL_cp, gR_cp, kd_aI, gL_aI, gR_aI, gI_aI, gI_aIn, sI_aI, gI_sIn, Int.reduceToNat, Int.reduceAdd, Int.reduceSub, Int.reduceMul, Int.reduceNeg, Int.zero_add, n1]
theorem n60_15 (d : Nat) (h : mH) (b1 : mV) (l : 0 < h.1.length) (k1 : (kd h 0).1 = 7) (k2 : (kd h 0).2 = 17) : resA (callA (d + 3)) 60 (15, [Sum.inr (Sum.inr (some 0)), b1], [], h) = resA (callA (d + 3)) 60 (26, [Sum.inr (Sum.inr (some 0)), b1], [], sR (tldI (nw h 6 8) h.1.length) 0 1 (some h.1.length)) := by
  have e5 : kd (nw h 6 8) h.1.length = (6, 8) := kd_nws h 6 8
  have f1 : (kd (nw h 6 8) h.1.length).1 = 6 := by rw [e5]
  have f2 : (kd (nw h 6 8) h.1.length).2 = 8 := by rw [e5]
  have n1 := wTld_i (d + 1) (nw h 6 8) h.1.length (by rw [ln_nw]; omega) f1 f2
  have g0 : kd (tldI (nw h 6 8) h.1.length) 0 = kd h 0 := by rw [tld_k (by rw [ln_nw]; omega), kd_nwo l]
  have g1 : (kd (tldI (nw h 6 8) h.1.length) 0).1 = 7 := by rw [g0]; exact k1
  have g2 : (kd (tldI (nw h 6 8) h.1.length) 0).2 = 17 := by rw [g0]; exact k2
  simp (disch := (first | omega | (simp only [kd_sI, kd_sL, kd_sR, kd_cp, kd_aI]; omega) | (unfold catV; exact rfl) | (unfold catS; exact Nat.le_of_ble_eq_true rfl) | assumption)) only [q_60_15, q_60_16, q_60_19, q_60_20, q_60_23, aft_i, aft_l, aft_v, Int.toNat_natCast, kd_sI, kd_sL, kd_sR, kd_cp, gI_sL, gI_sR, gL_sI, gL_sR, gR_sI, gR_sL, gL_cp, gR_cp, kd_aI, gL_aI, gR_aI, gI_aI, gI_aIn, sI_aI, gI_sIn, Int.reduceToNat, Int.reduceAdd, Int.reduceSub, Int.reduceMul, Int.reduceNeg, Int.zero_add, n1]
theorem n60_26 (d : Nat) (h : mH) (b1 : mV) (l : 0 < h.1.length) (k1 : (kd h 0).1 = 7) (k2 : (kd h 0).2 = 17) : resA (callA (d + 3)) 60 (26, [Sum.inr (Sum.inr (some 0)), b1], [], h) = resA (callA (d + 3)) 60 (37, [Sum.inr (Sum.inr (some 0)), b1], [], sR (tldI (nw h 6 8) h.1.length) 0 2 (some h.1.length)) := by
  have e5 : kd (nw h 6 8) h.1.length = (6, 8) := kd_nws h 6 8
  have f1 : (kd (nw h 6 8) h.1.length).1 = 6 := by rw [e5]
  have f2 : (kd (nw h 6 8) h.1.length).2 = 8 := by rw [e5]
  have n1 := wTld_i (d + 1) (nw h 6 8) h.1.length (by rw [ln_nw]; omega) f1 f2
  have g0 : kd (tldI (nw h 6 8) h.1.length) 0 = kd h 0 := by rw [tld_k (by rw [ln_nw]; omega), kd_nwo l]
  have g1 : (kd (tldI (nw h 6 8) h.1.length) 0).1 = 7 := by rw [g0]; exact k1
  have g2 : (kd (tldI (nw h 6 8) h.1.length) 0).2 = 17 := by rw [g0]; exact k2
  simp (disch := (first | omega | (simp only [kd_sI, kd_sL, kd_sR, kd_cp, kd_aI]; omega) | (unfold catV; exact rfl) | (unfold catS; exact Nat.le_of_ble_eq_true rfl) | assumption)) only [q_60_26, q_60_27, q_60_30, q_60_31, q_60_34, aft_i, aft_l, aft_v, Int.toNat_natCast, kd_sI, kd_sL, kd_sR, kd_cp, gI_sL, gI_sR, gL_sI, gL_sR, gR_sI, gR_sL, gL_cp, gR_cp, kd_aI, gL_aI, gR_aI, gI_aI, gI_aIn, sI_aI, gI_sIn, Int.reduceToNat, Int.reduceAdd, Int.reduceSub, Int.reduceMul, Int.reduceNeg, Int.zero_add, n1]
theorem n60_37 (d : Nat) (h : mH) (b1 : mV) (l : 0 < h.1.length) (k1 : (kd h 0).1 = 7) (k2 : (kd h 0).2 = 17) : resA (callA (d + 3)) 60 (37, [Sum.inr (Sum.inr (some 0)), b1], [], h) = resA (callA (d + 3)) 60 (48, [Sum.inr (Sum.inr (some 0)), b1], [], sR (scnI (nw h 4 4) h.1.length) 0 3 (some h.1.length)) := by
  have e5 : kd (nw h 4 4) h.1.length = (4, 4) := kd_nws h 4 4
  have f1 : (kd (nw h 4 4) h.1.length).1 = 4 := by rw [e5]
  have f2 : (kd (nw h 4 4) h.1.length).2 = 4 := by rw [e5]
  have n1 := wScn_i (d + 1) (nw h 4 4) h.1.length (by rw [ln_nw]; omega) f1 f2
  have g0 : kd (scnI (nw h 4 4) h.1.length) 0 = kd h 0 := by rw [scn_k (by rw [ln_nw]; omega), kd_nwo l]
  have g1 : (kd (scnI (nw h 4 4) h.1.length) 0).1 = 7 := by rw [g0]; exact k1
  have g2 : (kd (scnI (nw h 4 4) h.1.length) 0).2 = 17 := by rw [g0]; exact k2
  simp (disch := (first | omega | (simp only [kd_sI, kd_sL, kd_sR, kd_cp, kd_aI]; omega) | (unfold catV; exact rfl) | (unfold catS; exact Nat.le_of_ble_eq_true rfl) | assumption)) only [q_60_37, q_60_38, q_60_41, q_60_42, q_60_45, aft_i, aft_l, aft_v, Int.toNat_natCast, kd_sI, kd_sL, kd_sR, kd_cp, gI_sL, gI_sR, gL_sI, gL_sR, gR_sI, gR_sL, gL_cp, gR_cp, kd_aI, gL_aI, gR_aI, gI_aI, gI_aIn, sI_aI, gI_sIn, Int.reduceToNat, Int.reduceAdd, Int.reduceSub, Int.reduceMul, Int.reduceNeg, Int.zero_add, n1]
theorem n60_82 (d : Nat) (h : mH) (b1 : mV) (l : 0 < h.1.length) (k1 : (kd h 0).1 = 7) (k2 : (kd h 0).2 = 17) : resA (callA (d + 3)) 60 (82, [Sum.inr (Sum.inr (some 0)), b1], [], h) = resA (callA (d + 3)) 60 (93, [Sum.inr (Sum.inr (some 0)), b1], [], sR (rmmI (nw h 3 2) h.1.length) 0 5 (some h.1.length)) := by
  have e5 : kd (nw h 3 2) h.1.length = (3, 2) := kd_nws h 3 2
  have f1 : (kd (nw h 3 2) h.1.length).1 = 3 := by rw [e5]
  have f2 : (kd (nw h 3 2) h.1.length).2 = 2 := by rw [e5]
  have n1 := wRmm_i (d + 2) (nw h 3 2) h.1.length (by rw [ln_nw]; omega) f1 f2
  have g0 : kd (rmmI (nw h 3 2) h.1.length) 0 = kd h 0 := by rw [rmm_k (by rw [ln_nw]; omega), kd_nwo l]
  have g1 : (kd (rmmI (nw h 3 2) h.1.length) 0).1 = 7 := by rw [g0]; exact k1
  have g2 : (kd (rmmI (nw h 3 2) h.1.length) 0).2 = 17 := by rw [g0]; exact k2
  simp (disch := (first | omega | (simp only [kd_sI, kd_sL, kd_sR, kd_cp, kd_aI]; omega) | (unfold catV; exact rfl) | (unfold catS; exact Nat.le_of_ble_eq_true rfl) | assumption)) only [q_60_82, q_60_83, q_60_86, q_60_87, q_60_90, aft_i, aft_l, aft_v, Int.toNat_natCast, kd_sI, kd_sL, kd_sR, kd_cp, gI_sL, gI_sR, gL_sI, gL_sR, gR_sI, gR_sL, gL_cp, gR_cp, kd_aI, gL_aI, gR_aI, gI_aI, gI_aIn, sI_aI, gI_sIn, Int.reduceToNat, Int.reduceAdd, Int.reduceSub, Int.reduceMul, Int.reduceNeg, Int.zero_add, n1]
theorem n60_127 (d : Nat) (h : mH) (b1 : mV) (l : 0 < h.1.length) (k1 : (kd h 0).1 = 7) (k2 : (kd h 0).2 = 17) : resA (callA (d + 3)) 60 (127, [Sum.inr (Sum.inr (some 0)), b1], [], h) = resA (callA (d + 3)) 60 (138, [Sum.inr (Sum.inr (some 0)), b1], [], sR (ary8 (nw h 1 3) h.1.length) 0 10 (some h.1.length)) := by
  have e5 : kd (nw h 1 3) h.1.length = (1, 3) := kd_nws h 1 3
  have f1 : (kd (nw h 1 3) h.1.length).1 = 1 := by rw [e5]
  have f2 : (kd (nw h 1 3) h.1.length).2 = 3 := by rw [e5]
  have n1 := wBrd_i (d + 2) (nw h 1 3) h.1.length (by rw [ln_nw]; omega) f1 f2
  have g0 : kd (ary8 (nw h 1 3) h.1.length) 0 = kd h 0 := by rw [ary8_k (by rw [ln_nw]; omega), kd_nwo l]
  have g1 : (kd (ary8 (nw h 1 3) h.1.length) 0).1 = 7 := by rw [g0]; exact k1
  have g2 : (kd (ary8 (nw h 1 3) h.1.length) 0).2 = 17 := by rw [g0]; exact k2
  simp (disch := (first | omega | (simp only [kd_sI, kd_sL, kd_sR, kd_cp, kd_aI]; omega) | (unfold catV; exact rfl) | (unfold catS; exact Nat.le_of_ble_eq_true rfl) | assumption)) only [q_60_127, q_60_128, q_60_131, q_60_132, q_60_135, aft_i, aft_l, aft_v, Int.toNat_natCast, kd_sI, kd_sL, kd_sR, kd_cp, gI_sL, gI_sR, gL_sI, gL_sR, gR_sI, gR_sL, gL_cp, gR_cp, kd_aI, gL_aI, gR_aI, gI_aI, gI_aIn, sI_aI, gI_sIn, Int.reduceToNat, Int.reduceAdd, Int.reduceSub, Int.reduceMul, Int.reduceNeg, Int.zero_add, n1]
