theorem fcS_i {T : Td} {N : Nt} (wT : wfT T) (wN : wfN T N) (c : Nat) (hc : c < tN T) : -9 ≤ fcS T N c ∧ fcS T N c ≤ 40 ∧ -9 ≤ cellS T N c ∧ cellS T N c ≤ 40 ∧ (cellS T N c ≠ -9 → cellS T N c = fcS T N c ∧ 0 ≤ fcS T N c ∧ fcS T N c + nX N c ≤ tK T) := by
  have b := fcS_b wT wN c
  have k4 := wT.2.1
  unfold cellS
  by_cases z : (nL N).testBit c = true
  · rw [if_pos z]
    refine ⟨by omega, by omega, by omega, by omega, fun h => absurd rfl h⟩
  · rw [if_neg z]
    refine ⟨by omega, by omega, by omega, by omega, fun h => ⟨rfl, by omega⟩⟩
theorem wGap_ok (d : Nat) (h : mH) (a b c e : Int) (ha : -9 ≤ a ∧ a ≤ 40) (hb : 0 ≤ b ∧ b ≤ 6) (hc : -9 ≤ c ∧ c ≤ 40) (he : 0 ≤ e ∧ e ≤ 6) : callA (d + 1) 102 [Sum.inl a, Sum.inl b, Sum.inl c, Sum.inl e] h = some (some (Sum.inl (if a < c then c - a - b else a - c - e)), h) := by
  rw [en_102]
  by_cases z : a < c
  · rw [if_pos z]
    simp (disch := (first | omega | (simp only [kd_sI, kd_sL, kd_sR, kd_cp, kd_aI]; omega) | (unfold catV; exact rfl) | (unfold catS; exact Nat.le_of_ble_eq_true rfl) | assumption)) only [q_102_0, q_102_1, q_102_2_t, q_102_2_f, q_102_5, q_102_6, q_102_7, q_102_8, q_102_9, q_102_10, q_102_13, q_102_14, q_102_15, q_102_16, q_102_17, q_102_18, aft_i, aft_l, aft_v, Int.toNat_natCast, kd_sI, kd_sL, kd_sR, kd_cp, gI_sL, gI_sR, gL_sI, gL_sR, gR_sI, gR_sL, gL_cp, gR_cp, kd_aI, gL_aI, gR_aI, gI_aI, gI_aIn, sI_aI, gI_sIn, Int.reduceToNat, Int.reduceAdd, Int.reduceSub, Int.reduceMul, Int.reduceNeg, Int.zero_add]
  · rw [if_neg z]
    simp (disch := (first | omega | (simp only [kd_sI, kd_sL, kd_sR, kd_cp, kd_aI]; omega) | (unfold catV; exact rfl) | (unfold catS; exact Nat.le_of_ble_eq_true rfl) | assumption)) only [q_102_0, q_102_1, q_102_2_t, q_102_2_f, q_102_5, q_102_6, q_102_7, q_102_8, q_102_9, q_102_10, q_102_13, q_102_14, q_102_15, q_102_16, q_102_17, q_102_18, aft_i, aft_l, aft_v, Int.toNat_natCast, kd_sI, kd_sL, kd_sR, kd_cp, gI_sL, gI_sR, gL_sI, gL_sR, gR_sI, gR_sL, gL_cp, gR_cp, kd_aI, gL_aI, gR_aI, gI_aI, gI_aIn, sI_aI, gI_sIn, Int.reduceToNat, Int.reduceAdd, Int.reduceSub, Int.reduceMul, Int.reduceNeg, Int.zero_add]
theorem wBtw_ok (d : Nat) (h : mH) (L : LAY h) (T : Td) (N : Nt) (wT : wfT T) (wN : wfN T N) (q : Cq h T N) (a b : Nat) (ha : a < tN T) (hb : b < tN T) : callA (d + 3) 101 [Sum.inr (Sum.inr (some 0)), Sum.inl (a : Int), Sum.inl (b : Int)] h = some (some (Sum.inl (if cellS T N a = -9 ∨ cellS T N b = -9 then -9 else btwS T N a b)), h) := by
  have c7 := wT.1
  have e1 := wCellOf_ok d h L T N wT wN q a ha
  have e2 := wCellOf_ok d h L T N wT wN q b hb
  have fa := fcS_i wT wN a ha
  have fb := fcS_i wT wN b hb
  have xa := wN.2.2.2.1 a ha
  have xb := wN.2.2.2.1 b hb
  have ua := q.2.1.2.2.2.2 a ha
  have ub := q.2.1.2.2.2.2 b hb
  obtain ⟨k0, j0⟩ := lay_k L (a := 0) (t := 7) (n := 17) rfl; obtain ⟨k13, j13⟩ := lay_k L (a := 13) (t := 4) (n := 4) rfl; obtain ⟨k14, j14⟩ := lay_k L (a := 14) (t := 2) (n := 5) rfl; obtain ⟨k16, j16⟩ := lay_k L (a := 16) (t := 100) (n := 7) rfl; have r0_3 : gR h 0 3 = some 13 := lay_r L rfl; have r13_0 : gR h 13 0 = some 14 := lay_r L rfl; have r14_1 : gR h 14 1 = some 16 := lay_r L rfl
  rw [en_101]
  by_cases z : cellS T N a = -9
  · rw [if_pos (Or.inl z)]
    rw [z] at e1
    simp (disch := (first | omega | (simp only [kd_sI, kd_sL, kd_sR, kd_cp, kd_aI]; omega) | (unfold catV; exact rfl) | (unfold catS; exact Nat.le_of_ble_eq_true rfl) | assumption)) only [q_101_0, q_101_1, q_101_2, q_101_5, q_101_6, q_101_7, q_101_8, q_101_11, q_101_13, q_101_14, q_101_16_t, q_101_16_f, q_101_19, q_101_21, q_101_23_t, q_101_23_f, q_101_26, q_101_28, q_101_29, q_101_30, q_101_31, q_101_34, q_101_37, q_101_40, q_101_41, q_101_42, q_101_44, q_101_45, q_101_48, q_101_51, q_101_54, q_101_55, q_101_56, q_101_59, aft_i, aft_l, aft_v, Int.toNat_natCast, kd_sI, kd_sL, kd_sR, kd_cp, gI_sL, gI_sR, gL_sI, gL_sR, gR_sI, gR_sL, gL_cp, gR_cp, kd_aI, gL_aI, gR_aI, gI_aI, gI_aIn, sI_aI, gI_sIn, Int.reduceToNat, Int.reduceAdd, Int.reduceSub, Int.reduceMul, Int.reduceNeg, Int.zero_add, e1, e2]
  · by_cases y : cellS T N b = -9
    · rw [if_pos (Or.inr y)]
      rw [y] at e2
      simp (disch := (first | omega | (simp only [kd_sI, kd_sL, kd_sR, kd_cp, kd_aI]; omega) | (unfold catV; exact rfl) | (unfold catS; exact Nat.le_of_ble_eq_true rfl) | assumption)) only [q_101_0, q_101_1, q_101_2, q_101_5, q_101_6, q_101_7, q_101_8, q_101_11, q_101_13, q_101_14, q_101_16_t, q_101_16_f, q_101_19, q_101_21, q_101_23_t, q_101_23_f, q_101_26, q_101_28, q_101_29, q_101_30, q_101_31, q_101_34, q_101_37, q_101_40, q_101_41, q_101_42, q_101_44, q_101_45, q_101_48, q_101_51, q_101_54, q_101_55, q_101_56, q_101_59, aft_i, aft_l, aft_v, Int.toNat_natCast, kd_sI, kd_sL, kd_sR, kd_cp, gI_sL, gI_sR, gL_sI, gL_sR, gR_sI, gR_sL, gL_cp, gR_cp, kd_aI, gL_aI, gR_aI, gI_aI, gI_aIn, sI_aI, gI_sIn, Int.reduceToNat, Int.reduceAdd, Int.reduceSub, Int.reduceMul, Int.reduceNeg, Int.zero_add, e1, e2]
    · rw [if_neg (by omega)]
      have ga := fa.2.2.2.2 z
      have gb := fb.2.2.2.2 y
      have e3 := wGap_ok (d + 1) h (cellS T N a) (nX N a) (cellS T N b) (nX N b) (by omega) (by omega) (by omega) (by omega)
      unfold btwS
      rw [← ga.1, ← gb.1]
      simp (disch := (first | omega | (simp only [kd_sI, kd_sL, kd_sR, kd_cp, kd_aI]; omega) | (unfold catV; exact rfl) | (unfold catS; exact Nat.le_of_ble_eq_true rfl) | assumption)) only [q_101_0, q_101_1, q_101_2, q_101_5, q_101_6, q_101_7, q_101_8, q_101_11, q_101_13, q_101_14, q_101_16_t, q_101_16_f, q_101_19, q_101_21, q_101_23_t, q_101_23_f, q_101_26, q_101_28, q_101_29, q_101_30, q_101_31, q_101_34, q_101_37, q_101_40, q_101_41, q_101_42, q_101_44, q_101_45, q_101_48, q_101_51, q_101_54, q_101_55, q_101_56, q_101_59, aft_i, aft_l, aft_v, Int.toNat_natCast, kd_sI, kd_sL, kd_sR, kd_cp, gI_sL, gI_sR, gL_sI, gL_sR, gR_sI, gR_sL, gL_cp, gR_cp, kd_aI, gL_aI, gR_aI, gI_aI, gI_aIn, sI_aI, gI_sIn, Int.reduceToNat, Int.reduceAdd, Int.reduceSub, Int.reduceMul, Int.reduceNeg, Int.zero_add, e1, e2, r0_3, r13_0, r14_1, ua, ub, e3]
theorem cBtw_ok (d : Nat) (h : mH) (L : LAY h) (T : Td) (N : Nt) (wT : wfT T) (wN : wfN T N) (q : Cq h T N) (a b : Int) : callA (d + 4) 77 [Sum.inr (Sum.inr (some 0)), Sum.inl a, Sum.inl b] h = some (some (Sum.inl (twoS T N a b (btwS T N))), h) := by
  have e := wTwo_ok (d + 1) h L T q.1 a b
  unfold twoS
  obtain ⟨k0, j0⟩ := lay_k L (a := 0) (t := 7) (n := 17) rfl
  rw [en_77]
  by_cases z : (0 ≤ a ∧ a < tN T) ∧ (0 ≤ b ∧ b < tN T) ∧ a ≠ b
  · have e2 := wBtw_ok d h L T N wT wN q a.toNat b.toNat (by omega) (by omega)
    rw [Int.toNat_of_nonneg z.1.1, Int.toNat_of_nonneg z.2.1.1] at e2
    unfold twoB at e
    rw [decide_eq_true z, if_pos rfl] at e
    rw [if_pos z]
    simp (disch := (first | omega | (simp only [kd_sI, kd_sL, kd_sR, kd_cp, kd_aI]; omega) | (unfold catV; exact rfl) | (unfold catS; exact Nat.le_of_ble_eq_true rfl) | assumption)) only [q_77_0, q_77_1, q_77_2, q_77_3, q_77_6_t, q_77_6_f, q_77_9, q_77_10, q_77_11, q_77_12, q_77_15, q_77_18, q_77_19, aft_i, aft_l, aft_v, Int.toNat_natCast, kd_sI, kd_sL, kd_sR, kd_cp, gI_sL, gI_sR, gL_sI, gL_sR, gR_sI, gR_sL, gL_cp, gR_cp, kd_aI, gL_aI, gR_aI, gI_aI, gI_aIn, sI_aI, gI_sIn, Int.reduceToNat, Int.reduceAdd, Int.reduceSub, Int.reduceMul, Int.reduceNeg, Int.zero_add, e, e2]
  · unfold twoB at e
    rw [decide_eq_false z, if_neg Bool.false_ne_true] at e
    rw [if_neg z]
    simp (disch := (first | omega | (simp only [kd_sI, kd_sL, kd_sR, kd_cp, kd_aI]; omega) | (unfold catV; exact rfl) | (unfold catS; exact Nat.le_of_ble_eq_true rfl) | assumption)) only [q_77_0, q_77_1, q_77_2, q_77_3, q_77_6_t, q_77_6_f, q_77_9, q_77_10, q_77_11, q_77_12, q_77_15, q_77_18, q_77_19, aft_i, aft_l, aft_v, Int.toNat_natCast, kd_sI, kd_sL, kd_sR, kd_cp, gI_sL, gI_sR, gL_sI, gL_sR, gR_sI, gR_sL, gL_cp, gR_cp, kd_aI, gL_aI, gR_aI, gI_aI, gI_aIn, sI_aI, gI_sIn, Int.reduceToNat, Int.reduceAdd, Int.reduceSub, Int.reduceMul, Int.reduceNeg, Int.zero_add, e]
theorem cWnd_ok (d : Nat) (h : mH) (L : LAY h) (T : Td) (N : Nt) (wT : wfT T) (wN : wfN T N) (q : Cq h T N) (a b : Int) : callA (d + 3) 78 [Sum.inr (Sum.inr (some 0)), Sum.inl a, Sum.inl b] h = some (some (Sum.inl (twoS T N a b (wndS T N))), h) := by
  have e := wTwo_ok d h L T q.1 a b
  unfold twoS
  obtain ⟨k0, j0⟩ := lay_k L (a := 0) (t := 7) (n := 17) rfl
  rw [en_78]
  by_cases z : (0 ≤ a ∧ a < tN T) ∧ (0 ≤ b ∧ b < tN T) ∧ a ≠ b
  · have e1 := wCellOf_ok d h L T N wT wN q a.toNat (by omega)
    have e2 := wCellOf_ok d h L T N wT wN q b.toNat (by omega)
    have fa := fcS_i wT wN a.toNat (by omega)
    have fb := fcS_i wT wN b.toNat (by omega)
    rw [Int.toNat_of_nonneg z.1.1] at e1
    rw [Int.toNat_of_nonneg z.2.1.1] at e2
    unfold twoB at e
    rw [decide_eq_true z, if_pos rfl] at e
    rw [if_pos z]
    by_cases x : cellS T N a.toNat = -9
    · rw [if_pos (Or.inl x)]
      rw [x] at e1
      simp (disch := (first | omega | (simp only [kd_sI, kd_sL, kd_sR, kd_cp, kd_aI]; omega) | (unfold catV; exact rfl) | (unfold catS; exact Nat.le_of_ble_eq_true rfl) | assumption)) only [q_78_0, q_78_1, q_78_2, q_78_3, q_78_6_t, q_78_6_f, q_78_9, q_78_10, q_78_11, q_78_12, q_78_13, q_78_16, q_78_17, q_78_18, q_78_19, q_78_22, q_78_24, q_78_25, q_78_27_t, q_78_27_f, q_78_30, q_78_32, q_78_34_t, q_78_34_f, q_78_37, q_78_39, q_78_40, q_78_41, q_78_43_t, q_78_43_f, q_78_46, q_78_47, q_78_50, q_78_51, aft_i, aft_l, aft_v, Int.toNat_natCast, kd_sI, kd_sL, kd_sR, kd_cp, gI_sL, gI_sR, gL_sI, gL_sR, gR_sI, gR_sL, gL_cp, gR_cp, kd_aI, gL_aI, gR_aI, gI_aI, gI_aIn, sI_aI, gI_sIn, Int.reduceToNat, Int.reduceAdd, Int.reduceSub, Int.reduceMul, Int.reduceNeg, Int.zero_add, e, e1, e2]
    · by_cases y : cellS T N b.toNat = -9
      · rw [if_pos (Or.inr y)]
        rw [y] at e2
        simp (disch := (first | omega | (simp only [kd_sI, kd_sL, kd_sR, kd_cp, kd_aI]; omega) | (unfold catV; exact rfl) | (unfold catS; exact Nat.le_of_ble_eq_true rfl) | assumption)) only [q_78_0, q_78_1, q_78_2, q_78_3, q_78_6_t, q_78_6_f, q_78_9, q_78_10, q_78_11, q_78_12, q_78_13, q_78_16, q_78_17, q_78_18, q_78_19, q_78_22, q_78_24, q_78_25, q_78_27_t, q_78_27_f, q_78_30, q_78_32, q_78_34_t, q_78_34_f, q_78_37, q_78_39, q_78_40, q_78_41, q_78_43_t, q_78_43_f, q_78_46, q_78_47, q_78_50, q_78_51, aft_i, aft_l, aft_v, Int.toNat_natCast, kd_sI, kd_sL, kd_sR, kd_cp, gI_sL, gI_sR, gL_sI, gL_sR, gR_sI, gR_sL, gL_cp, gR_cp, kd_aI, gL_aI, gR_aI, gI_aI, gI_aIn, sI_aI, gI_sIn, Int.reduceToNat, Int.reduceAdd, Int.reduceSub, Int.reduceMul, Int.reduceNeg, Int.zero_add, e, e1, e2]
      · rw [if_neg (by omega)]
        unfold wndS
        rw [← (fa.2.2.2.2 x).1, ← (fb.2.2.2.2 y).1]
        by_cases v : cellS T N a.toNat < cellS T N b.toNat
        · rw [if_pos v]
          simp (disch := (first | omega | (simp only [kd_sI, kd_sL, kd_sR, kd_cp, kd_aI]; omega) | (unfold catV; exact rfl) | (unfold catS; exact Nat.le_of_ble_eq_true rfl) | assumption)) only [q_78_0, q_78_1, q_78_2, q_78_3, q_78_6_t, q_78_6_f, q_78_9, q_78_10, q_78_11, q_78_12, q_78_13, q_78_16, q_78_17, q_78_18, q_78_19, q_78_22, q_78_24, q_78_25, q_78_27_t, q_78_27_f, q_78_30, q_78_32, q_78_34_t, q_78_34_f, q_78_37, q_78_39, q_78_40, q_78_41, q_78_43_t, q_78_43_f, q_78_46, q_78_47, q_78_50, q_78_51, aft_i, aft_l, aft_v, Int.toNat_natCast, kd_sI, kd_sL, kd_sR, kd_cp, gI_sL, gI_sR, gL_sI, gL_sR, gR_sI, gR_sL, gL_cp, gR_cp, kd_aI, gL_aI, gR_aI, gI_aI, gI_aIn, sI_aI, gI_sIn, Int.reduceToNat, Int.reduceAdd, Int.reduceSub, Int.reduceMul, Int.reduceNeg, Int.zero_add, e, e1, e2]
        · rw [if_neg v]
          simp (disch := (first | omega | (simp only [kd_sI, kd_sL, kd_sR, kd_cp, kd_aI]; omega) | (unfold catV; exact rfl) | (unfold catS; exact Nat.le_of_ble_eq_true rfl) | assumption)) only [q_78_0, q_78_1, q_78_2, q_78_3, q_78_6_t, q_78_6_f, q_78_9, q_78_10, q_78_11, q_78_12, q_78_13, q_78_16, q_78_17, q_78_18, q_78_19, q_78_22, q_78_24, q_78_25, q_78_27_t, q_78_27_f, q_78_30, q_78_32, q_78_34_t, q_78_34_f, q_78_37, q_78_39, q_78_40, q_78_41, q_78_43_t, q_78_43_f, q_78_46, q_78_47, q_78_50, q_78_51, aft_i, aft_l, aft_v, Int.toNat_natCast, kd_sI, kd_sL, kd_sR, kd_cp, gI_sL, gI_sR, gL_sI, gL_sR, gR_sI, gR_sL, gL_cp, gR_cp, kd_aI, gL_aI, gR_aI, gI_aI, gI_aIn, sI_aI, gI_sIn, Int.reduceToNat, Int.reduceAdd, Int.reduceSub, Int.reduceMul, Int.reduceNeg, Int.zero_add, e, e1, e2]
  · unfold twoB at e
    rw [decide_eq_false z, if_neg Bool.false_ne_true] at e
    rw [if_neg z]
    simp (disch := (first | omega | (simp only [kd_sI, kd_sL, kd_sR, kd_cp, kd_aI]; omega) | (unfold catV; exact rfl) | (unfold catS; exact Nat.le_of_ble_eq_true rfl) | assumption)) only [q_78_0, q_78_1, q_78_2, q_78_3, q_78_6_t, q_78_6_f, q_78_9, q_78_10, q_78_11, q_78_12, q_78_13, q_78_16, q_78_17, q_78_18, q_78_19, q_78_22, q_78_24, q_78_25, q_78_27_t, q_78_27_f, q_78_30, q_78_32, q_78_34_t, q_78_34_f, q_78_37, q_78_39, q_78_40, q_78_41, q_78_43_t, q_78_43_f, q_78_46, q_78_47, q_78_50, q_78_51, aft_i, aft_l, aft_v, Int.toNat_natCast, kd_sI, kd_sL, kd_sR, kd_cp, gI_sL, gI_sR, gL_sI, gL_sR, gR_sI, gR_sL, gL_cp, gR_cp, kd_aI, gL_aI, gR_aI, gI_aI, gI_aIn, sI_aI, gI_sIn, Int.reduceToNat, Int.reduceAdd, Int.reduceSub, Int.reduceMul, Int.reduceNeg, Int.zero_add, e]
/-- does a cart take this cell -/
def tkC (T : Td) (N : Nt) (k : Int) (c : Nat) : Prop := cellS T N c ≠ -9 ∧ cellS T N c ≤ k ∧ k < cellS T N c + nX N c
theorem tkC_fc {T : Td} {N : Nt} {k : Int} {c : Nat} (h : tkC T N k c) : (nL N).testBit c = false ∧ fcS T N c ≠ -9 ∧ fcS T N c ≤ k ∧ k < fcS T N c + nX N c := by
  obtain ⟨h1, h2, h3⟩ := h
  unfold cellS at h1 h2 h3
  by_cases z : (nL N).testBit c = true
  · rw [if_pos z] at h1; exact absurd rfl h1
  · rw [if_neg z] at h1 h2 h3
    exact ⟨by simpa using z, h1, h2, h3⟩
theorem tkC_un {T : Td} {N : Nt} (w : wfN T N) {k : Int} {a b : Nat} (ha : tkC T N k a) (hb : tkC T N k b) : a = b := by
  obtain ⟨i, hi, rfl⟩ := cell_in ha.1
  obtain ⟨j, hj, rfl⟩ := cell_in hb.1
  obtain ⟨-, a1, a2, a3⟩ := tkC_fc ha
  obtain ⟨-, b1, b2, b3⟩ := tkC_fc hb
  have si := (fc_st w hi).mpr a1
  have sj := (fc_st w hj).mpr b1
  by_cases z : i < j
  · have := fc_lt w z sj; omega
  · by_cases y : j < i
    · have := fc_lt w y si; omega
    · rw [show i = j by omega]
theorem tkF_ch {T : Td} {N : Nt} {k : Int} : ∀ n, (∃ i, i < n ∧ tkC T N k (nR N i) ∧ tkF (fcS T N) (nX N) (nL N) (nR N) k n = nR N i) ∨ (tkF (fcS T N) (nX N) (nL N) (nR N) k n = -9 ∧ ∀ i, i < n → ¬ tkC T N k (nR N i))
  | 0 => Or.inr ⟨rfl, fun i h => absurd h (Nat.not_lt_zero _)⟩
  | n + 1 => by
    unfold tkF
    by_cases z : fcS T N (nR N n) ≠ -9 ∧ (nL N).testBit (nR N n) = false ∧ fcS T N (nR N n) ≤ k ∧ k ≤ fcS T N (nR N n) + nX N (nR N n) - 1
    · rw [if_pos z]
      refine Or.inl ⟨n, by omega, ?_, rfl⟩
      have ec : cellS T N (nR N n) = fcS T N (nR N n) := by unfold cellS; rw [z.2.1, if_neg Bool.false_ne_true]
      unfold tkC
      rw [ec]
      exact ⟨z.1, z.2.2.1, by omega⟩
    · rw [if_neg z]
      rcases tkF_ch (T := T) (N := N) (k := k) n with ⟨i, h1, h2, h3⟩ | ⟨h1, h2⟩
      · exact Or.inl ⟨i, by omega, h2, h3⟩
      · refine Or.inr ⟨h1, fun i hi y => ?_⟩
        by_cases x : i = n
        · subst x
          obtain ⟨a1, a2, a3, a4⟩ := tkC_fc y
          exact z ⟨a2, a1, a3, by omega⟩
        · exact h2 i (by omega) y
theorem wTk_loop (d : Nat) (h : mH) (L : LAY h) (T : Td) (N : Nt) (wT : wfT T) (wN : wfN T N) (q : Cq h T N) (k : Int) (r : Int) (hr : (∃ c : Nat, c < tN T ∧ tkC T N k c ∧ r = c) ∨ (r = -9 ∧ ∀ c, c < tN T → ¬ tkC T N k c)) : ∀ (m i : Nat) (x3 : mV), i + m = tN T → (∀ c, c < i → ¬ tkC T N k c) → resA (callA (d + 2)) 66 (12, [Sum.inr (Sum.inr (some 0)), Sum.inl k, Sum.inl (i : Int), x3], [], h) = some (some (Sum.inl r), h)
  | 0, i, x3, hi, hn => by
    have e : i = tN T := hi
    subst e
    have c7 := wT.1
    have t1 := q.1.1
    have e9 : r = -9 := by
      rcases hr with ⟨c, h1, h2, h3⟩ | h
      · exact absurd h2 (hn c h1)
      · exact h.1
    subst e9
    obtain ⟨k0, j0⟩ := lay_k L (a := 0) (t := 7) (n := 17) rfl; obtain ⟨k3, j3⟩ := lay_k L (a := 3) (t := 6) (n := 8) rfl; have r0_1 : gR h 0 1 = some 3 := lay_r L rfl
    simp (disch := (first | omega | (simp only [kd_sI, kd_sL, kd_sR, kd_cp, kd_aI]; omega) | (unfold catV; exact rfl) | (unfold catS; exact Nat.le_of_ble_eq_true rfl) | assumption)) only [q_66_0, q_66_1, q_66_2, q_66_5_t, q_66_5_f, q_66_8, q_66_9, q_66_10, q_66_11, q_66_12, q_66_13, q_66_14, q_66_17, q_66_20_t, q_66_20_f, q_66_23, q_66_24, q_66_25, q_66_28, q_66_29, q_66_30, q_66_32_t, q_66_32_f, q_66_35, q_66_36, q_66_37_t, q_66_37_f, q_66_40, q_66_41, q_66_42, q_66_43, q_66_46, q_66_49, q_66_52, q_66_53, q_66_54, q_66_55_t, q_66_55_f, q_66_58, q_66_59, q_66_60, q_66_63, q_66_66, q_66_68, aft_i, aft_l, aft_v, Int.toNat_natCast, kd_sI, kd_sL, kd_sR, kd_cp, gI_sL, gI_sR, gL_sI, gL_sR, gR_sI, gR_sL, gL_cp, gR_cp, kd_aI, gL_aI, gR_aI, gI_aI, gI_aIn, sI_aI, gI_sIn, Int.reduceToNat, Int.reduceAdd, Int.reduceSub, Int.reduceMul, Int.reduceNeg, Int.zero_add, r0_1, t1]
  | m + 1, i, x3, hi, hn => by
    have c7 := wT.1
    have t1 := q.1.1
    have e1 := wCellOf_ok d h L T N wT wN q i (by omega)
    have fi := fcS_i wT wN i (by omega)
    have ui := q.2.1.2.2.2.2 i (by omega)
    have xi := wN.2.2.2.1 i (by omega)
    by_cases z : tkC T N k i
    · have er : r = i := by
        rcases hr with ⟨c, h1, h2, h3⟩ | h
        · rw [h3, tkC_un wN h2 z]
        · exact absurd z (h.2 i (by omega))
      subst er
      obtain ⟨z1, z2, z3⟩ := z
      obtain ⟨k0, j0⟩ := lay_k L (a := 0) (t := 7) (n := 17) rfl; obtain ⟨k3, j3⟩ := lay_k L (a := 3) (t := 6) (n := 8) rfl; obtain ⟨k13, j13⟩ := lay_k L (a := 13) (t := 4) (n := 4) rfl; obtain ⟨k14, j14⟩ := lay_k L (a := 14) (t := 2) (n := 5) rfl; obtain ⟨k16, j16⟩ := lay_k L (a := 16) (t := 100) (n := 7) rfl; have r0_1 : gR h 0 1 = some 3 := lay_r L rfl; have r0_3 : gR h 0 3 = some 13 := lay_r L rfl; have r13_0 : gR h 13 0 = some 14 := lay_r L rfl; have r14_1 : gR h 14 1 = some 16 := lay_r L rfl
      simp (disch := (first | omega | (simp only [kd_sI, kd_sL, kd_sR, kd_cp, kd_aI]; omega) | (unfold catV; exact rfl) | (unfold catS; exact Nat.le_of_ble_eq_true rfl) | assumption)) only [q_66_0, q_66_1, q_66_2, q_66_5_t, q_66_5_f, q_66_8, q_66_9, q_66_10, q_66_11, q_66_12, q_66_13, q_66_14, q_66_17, q_66_20_t, q_66_20_f, q_66_23, q_66_24, q_66_25, q_66_28, q_66_29, q_66_30, q_66_32_t, q_66_32_f, q_66_35, q_66_36, q_66_37_t, q_66_37_f, q_66_40, q_66_41, q_66_42, q_66_43, q_66_46, q_66_49, q_66_52, q_66_53, q_66_54, q_66_55_t, q_66_55_f, q_66_58, q_66_59, q_66_60, q_66_63, q_66_66, q_66_68, aft_i, aft_l, aft_v, Int.toNat_natCast, kd_sI, kd_sL, kd_sR, kd_cp, gI_sL, gI_sR, gL_sI, gL_sR, gR_sI, gR_sL, gL_cp, gR_cp, kd_aI, gL_aI, gR_aI, gI_aI, gI_aIn, sI_aI, gI_sIn, Int.reduceToNat, Int.reduceAdd, Int.reduceSub, Int.reduceMul, Int.reduceNeg, Int.zero_add, r0_1, t1, e1, r0_3, r13_0, r14_1, ui]
    · have ih := wTk_loop d h L T N wT wN q k r hr m (i + 1) (Sum.inl (cellS T N i)) (by omega) (fun c hc y => by
        by_cases x : c = i
        · subst x; exact z y
        · exact hn c (by omega) y)
      obtain ⟨k0, j0⟩ := lay_k L (a := 0) (t := 7) (n := 17) rfl; obtain ⟨k3, j3⟩ := lay_k L (a := 3) (t := 6) (n := 8) rfl; obtain ⟨k13, j13⟩ := lay_k L (a := 13) (t := 4) (n := 4) rfl; obtain ⟨k14, j14⟩ := lay_k L (a := 14) (t := 2) (n := 5) rfl; obtain ⟨k16, j16⟩ := lay_k L (a := 16) (t := 100) (n := 7) rfl; have r0_1 : gR h 0 1 = some 3 := lay_r L rfl; have r0_3 : gR h 0 3 = some 13 := lay_r L rfl; have r13_0 : gR h 13 0 = some 14 := lay_r L rfl; have r14_1 : gR h 14 1 = some 16 := lay_r L rfl
      rw [q_66_12]
      by_cases y1 : cellS T N i = -9
      · rw [y1] at ih e1
        simp (disch := (first | omega | (simp only [kd_sI, kd_sL, kd_sR, kd_cp, kd_aI]; omega) | (unfold catV; exact rfl) | (unfold catS; exact Nat.le_of_ble_eq_true rfl) | assumption)) only [q_66_0, q_66_1, q_66_2, q_66_5_t, q_66_5_f, q_66_8, q_66_9, q_66_10, q_66_11, q_66_13, q_66_14, q_66_17, q_66_20_t, q_66_20_f, q_66_23, q_66_24, q_66_25, q_66_28, q_66_29, q_66_30, q_66_32_t, q_66_32_f, q_66_35, q_66_36, q_66_37_t, q_66_37_f, q_66_40, q_66_41, q_66_42, q_66_43, q_66_46, q_66_49, q_66_52, q_66_53, q_66_54, q_66_55_t, q_66_55_f, q_66_58, q_66_59, q_66_60, q_66_63, q_66_66, q_66_68, aft_i, aft_l, aft_v, Int.toNat_natCast, kd_sI, kd_sL, kd_sR, kd_cp, gI_sL, gI_sR, gL_sI, gL_sR, gR_sI, gR_sL, gL_cp, gR_cp, kd_aI, gL_aI, gR_aI, gI_aI, gI_aIn, sI_aI, gI_sIn, Int.reduceToNat, Int.reduceAdd, Int.reduceSub, Int.reduceMul, Int.reduceNeg, Int.zero_add, r0_1, t1, e1]
        exact ih
      · by_cases y2 : cellS T N i ≤ k
        · have y3 : ¬ k < cellS T N i + nX N i := fun y => z ⟨y1, y2, y⟩
          simp (disch := (first | omega | (simp only [kd_sI, kd_sL, kd_sR, kd_cp, kd_aI]; omega) | (unfold catV; exact rfl) | (unfold catS; exact Nat.le_of_ble_eq_true rfl) | assumption)) only [q_66_0, q_66_1, q_66_2, q_66_5_t, q_66_5_f, q_66_8, q_66_9, q_66_10, q_66_11, q_66_13, q_66_14, q_66_17, q_66_20_t, q_66_20_f, q_66_23, q_66_24, q_66_25, q_66_28, q_66_29, q_66_30, q_66_32_t, q_66_32_f, q_66_35, q_66_36, q_66_37_t, q_66_37_f, q_66_40, q_66_41, q_66_42, q_66_43, q_66_46, q_66_49, q_66_52, q_66_53, q_66_54, q_66_55_t, q_66_55_f, q_66_58, q_66_59, q_66_60, q_66_63, q_66_66, q_66_68, aft_i, aft_l, aft_v, Int.toNat_natCast, kd_sI, kd_sL, kd_sR, kd_cp, gI_sL, gI_sR, gL_sI, gL_sR, gR_sI, gR_sL, gL_cp, gR_cp, kd_aI, gL_aI, gR_aI, gI_aI, gI_aIn, sI_aI, gI_sIn, Int.reduceToNat, Int.reduceAdd, Int.reduceSub, Int.reduceMul, Int.reduceNeg, Int.zero_add, r0_1, t1, e1, r0_3, r13_0, r14_1, ui]
          exact ih
        · simp (disch := (first | omega | (simp only [kd_sI, kd_sL, kd_sR, kd_cp, kd_aI]; omega) | (unfold catV; exact rfl) | (unfold catS; exact Nat.le_of_ble_eq_true rfl) | assumption)) only [q_66_0, q_66_1, q_66_2, q_66_5_t, q_66_5_f, q_66_8, q_66_9, q_66_10, q_66_11, q_66_13, q_66_14, q_66_17, q_66_20_t, q_66_20_f, q_66_23, q_66_24, q_66_25, q_66_28, q_66_29, q_66_30, q_66_32_t, q_66_32_f, q_66_35, q_66_36, q_66_37_t, q_66_37_f, q_66_40, q_66_41, q_66_42, q_66_43, q_66_46, q_66_49, q_66_52, q_66_53, q_66_54, q_66_55_t, q_66_55_f, q_66_58, q_66_59, q_66_60, q_66_63, q_66_66, q_66_68, aft_i, aft_l, aft_v, Int.toNat_natCast, kd_sI, kd_sL, kd_sR, kd_cp, gI_sL, gI_sR, gL_sI, gL_sR, gR_sI, gR_sL, gL_cp, gR_cp, kd_aI, gL_aI, gR_aI, gI_aI, gI_aIn, sI_aI, gI_sIn, Int.reduceToNat, Int.reduceAdd, Int.reduceSub, Int.reduceMul, Int.reduceNeg, Int.zero_add, r0_1, t1, e1]
          exact ih
theorem cTakes_ok (d : Nat) (h : mH) (L : LAY h) (T : Td) (N : Nt) (wT : wfT T) (wN : wfN T N) (q : Cq h T N) (k : Int) : callA (d + 3) 66 [Sum.inr (Sum.inr (some 0)), Sum.inl k] h = some (some (Sum.inl (takesS T N k)), h) := by
  have e := wCell_ok (d + 1) h L T q.1 k
  unfold takesS
  obtain ⟨k0, j0⟩ := lay_k L (a := 0) (t := 7) (n := 17) rfl
  rw [en_66]
  by_cases z : 0 ≤ k ∧ k < tK T
  · rw [if_pos z] at e ⊢
    have el := wTk_loop d h L T N wT wN q k (tkF (fcS T N) (nX N) (nL N) (nR N) k (nM N)) (by
      rcases tkF_ch (T := T) (N := N) (k := k) (nM N) with ⟨i, h1, h2, h3⟩ | ⟨h1, h2⟩
      · exact Or.inl ⟨nR N i, wN.2.1 i h1, h2, h3⟩
      · refine Or.inr ⟨h1, fun c hc y => ?_⟩
        obtain ⟨i, hi, e⟩ := cell_in y.1
        subst e
        exact h2 i hi y) (tN T) 0 (Sum.inr (Sum.inr none)) (Nat.zero_add _) (fun c hc => absurd hc (Nat.not_lt_zero _))
    rw [show ((0 : Nat) : Int) = 0 from rfl] at el
    simp (disch := (first | omega | (simp only [kd_sI, kd_sL, kd_sR, kd_cp, kd_aI]; omega) | (unfold catV; exact rfl) | (unfold catS; exact Nat.le_of_ble_eq_true rfl) | assumption)) only [q_66_0, q_66_1, q_66_2, q_66_5_t, q_66_5_f, q_66_8, q_66_9, q_66_10, q_66_11, q_66_13, q_66_14, q_66_17, q_66_20_t, q_66_20_f, q_66_23, q_66_24, q_66_25, q_66_28, q_66_29, q_66_30, q_66_32_t, q_66_32_f, q_66_35, q_66_36, q_66_37_t, q_66_37_f, q_66_40, q_66_41, q_66_42, q_66_43, q_66_46, q_66_49, q_66_52, q_66_53, q_66_54, q_66_55_t, q_66_55_f, q_66_58, q_66_59, q_66_60, q_66_63, q_66_66, q_66_68, aft_i, aft_l, aft_v, Int.toNat_natCast, kd_sI, kd_sL, kd_sR, kd_cp, gI_sL, gI_sR, gL_sI, gL_sR, gR_sI, gR_sL, gL_cp, gR_cp, kd_aI, gL_aI, gR_aI, gI_aI, gI_aIn, sI_aI, gI_sIn, Int.reduceToNat, Int.reduceAdd, Int.reduceSub, Int.reduceMul, Int.reduceNeg, Int.zero_add, e]
    exact el
  · rw [if_neg z] at e ⊢
    simp (disch := (first | omega | (simp only [kd_sI, kd_sL, kd_sR, kd_cp, kd_aI]; omega) | (unfold catV; exact rfl) | (unfold catS; exact Nat.le_of_ble_eq_true rfl) | assumption)) only [q_66_0, q_66_1, q_66_2, q_66_5_t, q_66_5_f, q_66_8, q_66_9, q_66_10, q_66_11, q_66_13, q_66_14, q_66_17, q_66_20_t, q_66_20_f, q_66_23, q_66_24, q_66_25, q_66_28, q_66_29, q_66_30, q_66_32_t, q_66_32_f, q_66_35, q_66_36, q_66_37_t, q_66_37_f, q_66_40, q_66_41, q_66_42, q_66_43, q_66_46, q_66_49, q_66_52, q_66_53, q_66_54, q_66_55_t, q_66_55_f, q_66_58, q_66_59, q_66_60, q_66_63, q_66_66, q_66_68, aft_i, aft_l, aft_v, Int.toNat_natCast, kd_sI, kd_sL, kd_sR, kd_cp, gI_sL, gI_sR, gL_sI, gL_sR, gR_sI, gR_sL, gL_cp, gR_cp, kd_aI, gL_aI, gR_aI, gI_aI, gI_aIn, sI_aI, gI_sIn, Int.reduceToNat, Int.reduceAdd, Int.reduceSub, Int.reduceMul, Int.reduceNeg, Int.zero_add, e]
