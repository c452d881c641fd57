def tldI (h : mH) (a : Nat) : mH := sI (sI (sI (sI (ary51 h a) a 4 0) a 5 0) a 6 4) a 7 9
theorem wTld_i (d : Nat) (h : mH) (a : Nat) (l : a < h.1.length) (k1 : (kd h a).1 = 6) (k2 : (kd h a).2 = 8) : callA (d + 2) 51 [Sum.inr (Sum.inr (some a))] h = some (none, tldI h a) := by
  have e1 : (kd (ary51 h a) a).1 = 6 := by rw [ary51_k l]; exact k1
  have e2 : (kd (ary51 h a) a).2 = 8 := by rw [ary51_k l]; exact k2
  have e3 : callA (d + 1) 52 [Sum.inr (Sum.inr (some a))] (ary51 h a) = some (none, tldI h a) := by
    rw [en_52]
    simp (disch := (first | omega | (simp only [kd_sI, kd_sL, kd_sR, kd_cp, kd_aI]; omega) | (unfold catV; exact rfl) | (unfold catS; exact Nat.le_of_ble_eq_true rfl) | assumption)) only [q_52_0, q_52_1, q_52_2, q_52_5, q_52_6, q_52_7, q_52_10, q_52_11, q_52_12, q_52_15, q_52_16, q_52_18, q_52_21, aft_i, aft_l, aft_v, Int.toNat_natCast, kd_sI, kd_sL, kd_sR, kd_cp, gI_sL, gI_sR, gL_sI, gL_sR, gR_sI, gR_sL, gL_cp, gR_cp, kd_aI, gL_aI, gR_aI, gI_aI, gI_aIn, sI_aI, gI_sIn, Int.reduceToNat, Int.reduceAdd, Int.reduceSub, Int.reduceMul, Int.reduceNeg, Int.zero_add]
    rfl
  rw [en_51, q_51_0, q_51_1 (Nat.le_of_ble_eq_true rfl), ary51_ok _ h a l k1 k2]
  simp (disch := (first | omega | (simp only [kd_sI, kd_sL, kd_sR, kd_cp, kd_aI]; omega) | (unfold catV; exact rfl) | (unfold catS; exact Nat.le_of_ble_eq_true rfl) | assumption)) only [q_51_12, q_51_13, q_51_15, q_51_17, q_51_20, q_51_21, q_51_23, q_51_25, q_51_28, q_51_29, q_51_31, q_51_33, q_51_36, q_51_37, q_51_40, aft_i, aft_l, aft_v, Int.toNat_natCast, kd_sI, kd_sL, kd_sR, kd_cp, gI_sL, gI_sR, gL_sI, gL_sR, gR_sI, gR_sL, gL_cp, gR_cp, kd_aI, gL_aI, gR_aI, gI_aI, gI_aIn, sI_aI, gI_sIn, Int.reduceToNat, Int.reduceAdd, Int.reduceSub, Int.reduceMul, Int.reduceNeg, Int.zero_add, e3]
def brdI (h : mH) (a : Nat) : mH := ary8 h a
theorem wBrd_i (d : Nat) (h : mH) (a : Nat) (l : a < h.1.length) (k1 : (kd h a).1 = 1) (k2 : (kd h a).2 = 3) : callA (d + 1) 8 [Sum.inr (Sum.inr (some a))] h = some (none, ary8 h a) := by
  rw [en_8, q_8_0, q_8_1 (Nat.le_of_ble_eq_true rfl), ary8_ok _ h a l k1 k2, q_8_27]
theorem nws_1 (h : mH) (t n : Nat) : ∀ i, (nws h t n i).1 = h.1 ++ List.replicate i (t, n)
  | 0 => by rw [List.replicate_zero, List.append_nil]; rfl
  | i + 1 => by
    show (nws h t n i).1 ++ [(t, n)] = _
    rw [nws_1 h t n i, List.append_assoc, List.replicate_succ']
theorem nwm_sh (h : mH) (n k : Nat) : (nwm h n k).1 = h.1 ++ (105, n) :: List.replicate n (100, k) := by
  show (nws (nw h 105 n) 100 k n).1 = _
  rw [nws_1]
  show (h.1 ++ [(105, n)]) ++ _ = _
  rw [List.append_assoc]
  rfl
theorem kd_ap {h g : mH} {l2 : List (Nat × Nat)} (e : g.1 = h.1 ++ l2) {a : Nat} (l : a < h.1.length) : kd g a = kd h a := by
  unfold kd
  rw [e, List.getD_eq_getElem?_getD, List.getD_eq_getElem?_getD, List.getElem?_append_left l]
def rmmI (h : mH) (a : Nat) : mH := sR (nwm h 7 41) a 0 (some h.1.length)
theorem wRmm_i (d : Nat) (h : mH) (a : Nat) (l : a < h.1.length) (k1 : (kd h a).1 = 3) (k2 : (kd h a).2 = 2) : callA (d + 1) 25 [Sum.inr (Sum.inr (some a))] h = some (none, rmmI h a) := by
  have e1 : (kd (nwm h 7 41) a).1 = 3 := by rw [kd_ap (nwm_sh h 7 41) l]; exact k1
  have e2 : (kd (nwm h 7 41) a).2 = 2 := by rw [kd_ap (nwm_sh h 7 41) l]; exact k2
  rw [en_25]
  simp (disch := (first | omega | (simp only [kd_sI, kd_sL, kd_sR, kd_cp, kd_aI]; omega) | (unfold catV; exact rfl) | (unfold catS; exact Nat.le_of_ble_eq_true rfl) | assumption)) only [q_25_0, q_25_1, q_25_4, q_25_5, q_25_7, q_25_9, q_25_13, q_25_16, aft_i, aft_l, aft_v, Int.toNat_natCast, kd_sI, kd_sL, kd_sR, kd_cp, gI_sL, gI_sR, gL_sI, gL_sR, gR_sI, gR_sL, gL_cp, gR_cp, kd_aI, gL_aI, gR_aI, gI_aI, gI_aIn, sI_aI, gI_sIn, Int.reduceToNat, Int.reduceAdd, Int.reduceSub, Int.reduceMul, Int.reduceNeg, Int.zero_add]
  rfl
theorem ngh_1 (h : mH) (a : Nat) : (nghI h a).1 = h.1 ++ [(100, 7), (100, 7)] := by
  show (h.1 ++ [(100, 7)]) ++ [(100, 7)] = _
  rw [List.append_assoc]
  rfl
/-- one night of a past *)-/
def pstI (h : mH) (v i : Nat) : mH := sR (nghI (nw h 2 5) h.1.length) v i (some h.1.length)
theorem pst_1 (h : mH) (v i : Nat) : (pstI h v i).1 = h.1 ++ [(2, 5), (100, 7), (100, 7)] := by
  show (nghI (nw h 2 5) h.1.length).1 = _
  rw [ngh_1]
  show (h.1 ++ [(2, 5)]) ++ _ = _
  rw [List.append_assoc]
  rfl
def pstsI (h : mH) (v : Nat) : Nat → Nat → mH
  | 0, _ => h
  | f + 1, i => pstsI (pstI h v i) v f (i + 1)
theorem wScn_l (d : Nat) (a v : Nat) : ∀ (f i : Nat) (h : mH), i + f = 10 → a < h.1.length → v < h.1.length → (kd h a).1 = 4 → (kd h a).2 = 4 → (kd h v).1 = 103 → (kd h v).2 = 10 → gR h a 1 = some v → a ≠ v → resA (callA (d + 1)) 29 (26, [Sum.inr (Sum.inr (some a)), Sum.inl (i : Int)], [], h) = some (none, pstsI h v f i)
  | 0, i, h, hi, la, lv, k1, k2, k3, k4, r, ne => by
    have e : i = 10 := hi
    subst e
    have hc : ¬ ((10 : Nat) : Int) < 10 := by omega
    simp (disch := (first | omega | (simp only [kd_sI, kd_sL, kd_sR, kd_cp, kd_aI]; omega) | (unfold catV; exact rfl) | (unfold catS; exact Nat.le_of_ble_eq_true rfl) | assumption)) only [q_29_0, q_29_1, q_29_4, q_29_5, q_29_8, q_29_9, q_29_12, q_29_15, q_29_16, q_29_18, q_29_21, q_29_24, q_29_25, q_29_26, q_29_27, q_29_29_t, q_29_29_f, q_29_32, q_29_33, q_29_36, q_29_37, q_29_40, q_29_41, q_29_44, q_29_45, q_29_48, q_29_51, aft_i, aft_l, aft_v, Int.toNat_natCast, kd_sI, kd_sL, kd_sR, kd_cp, gI_sL, gI_sR, gL_sI, gL_sR, gR_sI, gR_sL, gL_cp, gR_cp, kd_aI, gL_aI, gR_aI, gI_aI, gI_aIn, sI_aI, gI_sIn, Int.reduceToNat, Int.reduceAdd, Int.reduceSub, Int.reduceMul, Int.reduceNeg, Int.zero_add]
    rfl
  | f + 1, i, h, hi, la, lv, k1, k2, k3, k4, r, ne => by
    have hc : (i : Int) < 10 := by omega
    have e5 : kd (nw h 2 5) h.1.length = (2, 5) := kd_nws h 2 5
    have n1 := wNgh_i d (nw h 2 5) h.1.length (by rw [ln_nw]; omega) (by rw [e5]) (by rw [e5])
    have m1 : (nghI (nw h 2 5) h.1.length).1 = h.1 ++ [(2, 5), (100, 7), (100, 7)] := pst_1 h v i
    have m2 : (kd (nghI (nw h 2 5) h.1.length) v).1 = 103 := by rw [kd_ap m1 lv]; exact k3
    have m3 : (kd (nghI (nw h 2 5) h.1.length) v).2 = 10 := by rw [kd_ap m1 lv]; exact k4
    have m4 : (kd (nghI (nw h 2 5) h.1.length) h.1.length).1 = 2 := by
      rw [kd_ap (ngh_1 (nw h 2 5) h.1.length) (by rw [ln_nw]; omega), e5]
    have f1 : (kd (nw h 2 5) h.1.length).1 = 2 := by rw [e5]
    have f2 : (kd (nw h 2 5) h.1.length).2 = 5 := by rw [e5]
    have p1 := pst_1 h v i
    have pl : (pstI h v i).1.length = h.1.length + 3 := by rw [p1, List.length_append]; rfl
    have rr : gR (pstI h v i) a 1 = some v := by
      unfold pstI nghI nw
      show (if a = v ∧ 1 = i then _ else if a = h.1.length ∧ (1 : Nat) = 1 then _ else if a = _ then none else if a = h.1.length ∧ (1 : Nat) = 0 then _ else if a = _ then none else if a = h.1.length then none else gR h a 1) = _
      rw [if_neg (by omega), if_neg (by omega), if_neg (by simp only [List.length_append, sR]; omega), if_neg (by omega), if_neg (by simp only [List.length_append]; omega), if_neg (by omega)]
      exact r
    have ih := wScn_l d a v f (i + 1) (pstI h v i) (by omega) (by omega) (by omega) (by rw [kd_ap p1 la]; exact k1) (by rw [kd_ap p1 la]; exact k2) (by rw [kd_ap p1 lv]; exact k3) (by rw [kd_ap p1 lv]; exact k4) rr ne
    have hi1 : (i : Int) + 1 = ((i + 1 : Nat) : Int) := by omega
    rw [q_29_26]
    simp (disch := (first | omega | (simp only [kd_sI, kd_sL, kd_sR, kd_cp, kd_aI]; omega) | (unfold catV; exact rfl) | (unfold catS; exact Nat.le_of_ble_eq_true rfl) | assumption)) only [q_29_0, q_29_1, q_29_4, q_29_5, q_29_8, q_29_9, q_29_12, q_29_15, q_29_16, q_29_18, q_29_21, q_29_24, q_29_25, q_29_27, q_29_29_t, q_29_29_f, q_29_32, q_29_33, q_29_36, q_29_37, q_29_40, q_29_41, q_29_44, q_29_45, q_29_48, q_29_51, aft_i, aft_l, aft_v, Int.toNat_natCast, kd_sI, kd_sL, kd_sR, kd_cp, gI_sL, gI_sR, gL_sI, gL_sR, gR_sI, gR_sL, gL_cp, gR_cp, kd_aI, gL_aI, gR_aI, gI_aI, gI_aIn, sI_aI, gI_sIn, Int.reduceToNat, Int.reduceAdd, Int.reduceSub, Int.reduceMul, Int.reduceNeg, Int.zero_add, r, n1, hi1]
    exact ih
