/-- a scene before its past is filled -/
def scn0 (h : mH) (a : Nat) : mH := sR (nw (sR (nghI (nw h 2 5) h.1.length) a 0 (some h.1.length)) 103 10) a 1 (some (h.1.length + 3))
def scnI (h : mH) (a : Nat) : mH := pstsI (scn0 h a) (h.1.length + 3) 10 0
theorem scn0_1 (h : mH) (a : Nat) : (scn0 h a).1 = h.1 ++ [(2, 5), (100, 7), (100, 7), (103, 10)] := by
  show (nghI (nw h 2 5) h.1.length).1 ++ [(103, 10)] = _
  rw [ngh_1]
  show ((h.1 ++ [(2, 5)]) ++ [(100, 7), (100, 7)]) ++ [(103, 10)] = _
  rw [List.append_assoc, List.append_assoc]
  rfl
theorem wScn_i (d : Nat) (h : mH) (a : Nat) (l : a < h.1.length) (k1 : (kd h a).1 = 4) (k2 : (kd h a).2 = 4) : callA (d + 2) 29 [Sum.inr (Sum.inr (some a))] h = some (none, scnI h a) := by
  have e5 : kd (nw h 2 5) h.1.length = (2, 5) := kd_nws h 2 5
  have n1 := wNgh_i d (nw h 2 5) h.1.length (by rw [ln_nw]; omega) (by rw [e5]) (by rw [e5])
  have m1 : (nghI (nw h 2 5) h.1.length).1 = h.1 ++ [(2, 5), (100, 7), (100, 7)] := pst_1 h 0 0
  have m2 : (kd (nghI (nw h 2 5) h.1.length) a).1 = 4 := by rw [kd_ap m1 l]; exact k1
  have m3 : (kd (nghI (nw h 2 5) h.1.length) a).2 = 4 := by rw [kd_ap m1 l]; exact k2
  have f1 : (kd (nw h 2 5) h.1.length).1 = 2 := by rw [e5]
  have f2 : (kd (nw h 2 5) h.1.length).2 = 5 := by rw [e5]
  have ml : (sR (nghI (nw h 2 5) h.1.length) a 0 (some h.1.length)).1.length = h.1.length + 3 := by
    show (nghI (nw h 2 5) h.1.length).1.length = _
    rw [m1, List.length_append]
    rfl
  have la : a < (sR (nghI (nw h 2 5) h.1.length) a 0 (some h.1.length)).1.length := by omega
  have g1 : (kd (nw (sR (nghI (nw h 2 5) h.1.length) a 0 (some h.1.length)) 103 10) a).1 = 4 := by rw [kd_nwo la, kd_sR]; exact m2
  have g2 : (kd (nw (sR (nghI (nw h 2 5) h.1.length) a 0 (some h.1.length)) 103 10) a).2 = 4 := by rw [kd_nwo la, kd_sR]; exact m3
  have s1 := scn0_1 h a
  have sl : (scn0 h a).1.length = h.1.length + 4 := by rw [s1, List.length_append]; rfl
  have kv : kd (scn0 h a) (h.1.length + 3) = (103, 10) := by
    unfold kd
    rw [s1, List.getD_eq_getElem?_getD, List.getElem?_append_right (by omega), Nat.add_sub_cancel_left]
    rfl
  have rr : gR (scn0 h a) a 1 = some (h.1.length + 3) := by
    unfold scn0
    rw [gR_sR, if_pos ⟨rfl, rfl⟩]
  have lp := wScn_l d a (h.1.length + 3) 10 0 (scn0 h a) rfl (by omega) (by omega) (by rw [kd_ap s1 l]; exact k1) (by rw [kd_ap s1 l]; exact k2) (by rw [kv]) (by rw [kv]) rr (by omega)
  have lp : resA (callA (d + 1)) 29 (26, [Sum.inr (Sum.inr (some a)), Sum.inl 0], [], scn0 h a) = some (none, scnI h a) := lp
  have t10 : (10 : Int).toNat = 10 := rfl
  rw [en_29]
  simp (disch := (first | omega | (simp only [kd_sI, kd_sL, kd_sR, kd_cp, kd_aI]; omega) | (unfold catV; exact rfl) | (unfold catS; exact Nat.le_of_ble_eq_true rfl) | assumption)) only [q_29_0, q_29_1, q_29_4, q_29_5, q_29_8, q_29_9, q_29_12, q_29_15, q_29_16, q_29_18, q_29_21, q_29_24, q_29_25, q_29_27, q_29_29_t, q_29_29_f, q_29_32, q_29_33, q_29_36, q_29_37, q_29_40, q_29_41, q_29_44, q_29_45, q_29_48, q_29_51, aft_i, aft_l, aft_v, Int.toNat_natCast, kd_sI, kd_sL, kd_sR, kd_cp, gI_sL, gI_sR, gL_sI, gL_sR, gR_sI, gR_sL, gL_cp, gR_cp, kd_aI, gL_aI, gR_aI, gI_aI, gI_aIn, sI_aI, gI_sIn, Int.reduceToNat, Int.reduceAdd, Int.reduceSub, Int.reduceMul, Int.reduceNeg, Int.zero_add, n1, ml, t10]
  exact lp
