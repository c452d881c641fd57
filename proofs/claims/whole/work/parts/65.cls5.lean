theorem brk_st {T : Td} {N : Nt} (w : wfN T N) : ∀ k, stN T N + k ≤ nM N → brkF (fcS T N) (nX N) (nR N) (stN T N + k) = brkF (fcS T N) (nX N) (nR N) (stN T N)
  | 0, _ => rfl
  | k + 1, h => by
    have ih := brk_st w k (by omega)
    have c := fc_st w (T := T) (show stN T N + k < nM N by omega)
    have z : fcS T N (nR N (stN T N + k)) = -9 := Decidable.byContradiction (fun y => by have := c.mpr y; omega)
    show (if 1 ≤ stN T N + k ∧ fcS T N (nR N (stN T N + k)) ≠ -9 ∧ _ then _ else brkF (fcS T N) (nX N) (nR N) (stN T N + k)) = _
    rw [if_neg (fun y => y.2.1 z)]
    exact ih
theorem wBrk_loop (d : Nat) (h : mH) (L : LAY h) (T : Td) (N : Nt) (wT : wfT T) (wN : wfN T N) (q : Cq h T N) : ∀ (k i : Nat) (x3 x4 : mV), catV x3 = 1 → i + k = stN T N → 1 ≤ i → resA (callA d) 103 (4, [Sum.inr (Sum.inr (some 0)), Sum.inl (brkF (fcS T N) (nX N) (nR N) i : Int), Sum.inl (i : Int), x3, x4], [], h) = some (some (Sum.inl (brkF (fcS T N) (nX N) (nR N) (stN T N) : Int)), h)
  | 0, i, x3, x4, c3, hi, h1 => by
    have e : i = stN T N := hi
    have p7 := q.2.2.2.1
    subst e
    obtain ⟨k0, j0⟩ := lay_k L (a := 0) (t := 7) (n := 17) rfl
    simp (disch := (first | omega | (simp only [kd_sI, kd_sL, kd_sR, kd_cp, kd_aI]; omega) | (unfold catV; exact rfl) | (unfold catS; exact Nat.le_of_ble_eq_true rfl) | assumption)) only [q_103_0, q_103_1, q_103_2, q_103_3, q_103_4, q_103_5, q_103_6, q_103_9_t, q_103_9_f, q_103_12, q_103_13, q_103_16, q_103_19, q_103_22, q_103_23, q_103_24, q_103_25, q_103_26, q_103_27, q_103_28, q_103_31, q_103_34, q_103_37, q_103_38, q_103_39, q_103_41, q_103_42, q_103_45, q_103_47, q_103_48, q_103_49, q_103_52, q_103_53, q_103_54, q_103_55, q_103_58, q_103_61, q_103_64, q_103_65, q_103_66, q_103_67_t, q_103_67_f, q_103_70, q_103_71, q_103_72, q_103_74, q_103_75, q_103_76, q_103_77, q_103_80, q_103_83, q_103_84, aft_i, aft_l, aft_v, Int.toNat_natCast, kd_sI, kd_sL, kd_sR, kd_cp, gI_sL, gI_sR, gL_sI, gL_sR, gR_sI, gR_sL, gL_cp, gR_cp, kd_aI, gL_aI, gR_aI, gI_aI, gI_aIn, sI_aI, gI_sIn, Int.reduceToNat, Int.reduceAdd, Int.reduceSub, Int.reduceMul, Int.reduceNeg, Int.zero_add, p7]
  | k + 1, i, x3, x4, c3, hi, h1 => by
    have c7 := wT.1
    have n7 : nM N ≤ 7 := Nat.le_trans wN.1 wT.1
    have le := stN_le T N
    have p7 := q.2.2.2.1
    have r1 := wN.2.1 (i - 1) (by omega)
    have r2 := wN.2.1 i (by omega)
    have u1 := q.2.1.2.2.2.1 (i - 1) (by omega)
    have u2 := q.2.1.2.2.2.1 i (by omega)
    have f1 := q.2.2.1 (nR N (i - 1)) (by omega)
    have f2 := q.2.2.1 (nR N i) (by omega)
    have x1 := q.2.1.2.2.2.2 (nR N (i - 1)) r1
    have b1 := fc_b wT wN (show i - 1 < stN T N by omega)
    have b2 := fc_b wT wN (show i < stN T N by omega)
    have ne : fcS T N (nR N i) ≠ -9 := (fc_st wN (by omega)).mp (by omega)
    have ix : ((i : Int) - 1).toNat = i - 1 := by omega
    have bb := brkF_b (F := fcS T N) (ax := nX N) (rw_ := nR N) (n := i) (fun j hj => by have := wN.2.1 j (by omega); omega)
    have k4 := wT.2.1
    have sh := shl1 (j := nR N i) (by omega)
    have p31 : 2 ^ nR N i < 2 ^ 31 := Nat.pow_lt_pow_right (by omega) (by omega)
    have o1 := orI_n (a := brkF (fcS T N) (nX N) (nR N) i) (b := 2 ^ nR N i) (by omega) p31
    have ih := wBrk_loop d h L T N wT wN q k (i + 1) (Sum.inl (nR N (i - 1) : Int)) (Sum.inl (nR N i : Int)) rfl (by omega) (by omega)
    have eB : brkF (fcS T N) (nX N) (nR N) (i + 1) = if 1 ≤ i ∧ fcS T N (nR N i) ≠ -9 ∧ fcS T N (nR N i) ≠ fcS T N (nR N (i - 1)) + nX N (nR N (i - 1)) then brkF (fcS T N) (nX N) (nR N) i ||| 2 ^ nR N i else brkF (fcS T N) (nX N) (nR N) i := rfl
    rw [eB] at ih
    obtain ⟨k0, j0⟩ := lay_k L (a := 0) (t := 7) (n := 17) rfl; obtain ⟨k13, j13⟩ := lay_k L (a := 13) (t := 4) (n := 4) rfl; obtain ⟨k14, j14⟩ := lay_k L (a := 14) (t := 2) (n := 5) rfl; obtain ⟨k15, j15⟩ := lay_k L (a := 15) (t := 100) (n := 7) rfl; obtain ⟨k16, j16⟩ := lay_k L (a := 16) (t := 100) (n := 7) rfl; obtain ⟨k128, j128⟩ := lay_k L (a := 128) (t := 100) (n := 7) rfl; have r0_3 : gR h 0 3 = some 13 := lay_r L rfl; have r13_0 : gR h 13 0 = some 14 := lay_r L rfl; have r14_0 : gR h 14 0 = some 15 := lay_r L rfl; have r14_1 : gR h 14 1 = some 16 := lay_r L rfl; have r0_6 : gR h 0 6 = some 128 := lay_r L rfl
    rw [q_103_4]
    by_cases z : fcS T N (nR N i) = fcS T N (nR N (i - 1)) + nX N (nR N (i - 1))
    · rw [if_neg (fun y => y.2.2 z)] at ih
      simp (disch := (first | omega | (simp only [kd_sI, kd_sL, kd_sR, kd_cp, kd_aI]; omega) | (unfold catV; exact rfl) | (unfold catS; exact Nat.le_of_ble_eq_true rfl) | assumption)) only [q_103_0, q_103_1, q_103_2, q_103_3, q_103_5, q_103_6, q_103_9_t, q_103_9_f, q_103_12, q_103_13, q_103_16, q_103_19, q_103_22, q_103_23, q_103_24, q_103_25, q_103_26, q_103_27, q_103_28, q_103_31, q_103_34, q_103_37, q_103_38, q_103_39, q_103_41, q_103_42, q_103_45, q_103_47, q_103_48, q_103_49, q_103_52, q_103_53, q_103_54, q_103_55, q_103_58, q_103_61, q_103_64, q_103_65, q_103_66, q_103_67_t, q_103_67_f, q_103_70, q_103_71, q_103_72, q_103_74, q_103_75, q_103_76, q_103_77, q_103_80, q_103_83, q_103_84, aft_i, aft_l, aft_v, Int.toNat_natCast, kd_sI, kd_sL, kd_sR, kd_cp, gI_sL, gI_sR, gL_sI, gL_sR, gR_sI, gR_sL, gL_cp, gR_cp, kd_aI, gL_aI, gR_aI, gI_aI, gI_aIn, sI_aI, gI_sIn, Int.reduceToNat, Int.reduceAdd, Int.reduceSub, Int.reduceMul, Int.reduceNeg, Int.zero_add, p7, r0_3, r13_0, r14_0, r14_1, r0_6, ix, u1, u2, f1, f2, x1, z]
      exact ih
    · rw [if_pos ⟨h1, ne, z⟩] at ih
      simp (disch := (first | omega | (simp only [kd_sI, kd_sL, kd_sR, kd_cp, kd_aI]; omega) | (unfold catV; exact rfl) | (unfold catS; exact Nat.le_of_ble_eq_true rfl) | assumption)) only [q_103_0, q_103_1, q_103_2, q_103_3, q_103_5, q_103_6, q_103_9_t, q_103_9_f, q_103_12, q_103_13, q_103_16, q_103_19, q_103_22, q_103_23, q_103_24, q_103_25, q_103_26, q_103_27, q_103_28, q_103_31, q_103_34, q_103_37, q_103_38, q_103_39, q_103_41, q_103_42, q_103_45, q_103_47, q_103_48, q_103_49, q_103_52, q_103_53, q_103_54, q_103_55, q_103_58, q_103_61, q_103_64, q_103_65, q_103_66, q_103_67_t, q_103_67_f, q_103_70, q_103_71, q_103_72, q_103_74, q_103_75, q_103_76, q_103_77, q_103_80, q_103_83, q_103_84, aft_i, aft_l, aft_v, Int.toNat_natCast, kd_sI, kd_sL, kd_sR, kd_cp, gI_sL, gI_sR, gL_sI, gL_sR, gR_sI, gR_sL, gL_cp, gR_cp, kd_aI, gL_aI, gR_aI, gI_aI, gI_aIn, sI_aI, gI_sIn, Int.reduceToNat, Int.reduceAdd, Int.reduceSub, Int.reduceMul, Int.reduceNeg, Int.zero_add, p7, r0_3, r13_0, r14_0, r14_1, r0_6, ix, u1, u2, f1, f2, x1, sh, o1]
      exact ih
theorem wBrk_ok (d : Nat) (h : mH) (L : LAY h) (T : Td) (N : Nt) (wT : wfT T) (wN : wfN T N) (q : Cq h T N) : callA (d + 1) 103 [Sum.inr (Sum.inr (some 0))] h = some (some (Sum.inl (brkN T N : Int)), h) := by
  have le := stN_le T N
  have e0 := brk_st wN (nM N - stN T N) (by omega)
  rw [show stN T N + (nM N - stN T N) = nM N by omega] at e0
  unfold brkN
  rw [e0, en_103]
  by_cases z : 1 ≤ stN T N
  · have e := wBrk_loop d h L T N wT wN q (stN T N - 1) 1 (Sum.inr (Sum.inr none)) (Sum.inr (Sum.inr none)) rfl (by omega) (by omega)
    have e1 : brkF (fcS T N) (nX N) (nR N) 1 = 0 := by
      show (if 1 ≤ 0 ∧ _ then _ else 0) = 0
      rw [if_neg (by omega)]
    rw [e1, show ((0 : Nat) : Int) = 0 from rfl, show ((1 : Nat) : Int) = 1 from rfl] at e
    simp (disch := (first | omega | (simp only [kd_sI, kd_sL, kd_sR, kd_cp, kd_aI]; omega) | (unfold catV; exact rfl) | (unfold catS; exact Nat.le_of_ble_eq_true rfl) | assumption)) only [q_103_0, q_103_1, q_103_2, q_103_3, q_103_5, q_103_6, q_103_9_t, q_103_9_f, q_103_12, q_103_13, q_103_16, q_103_19, q_103_22, q_103_23, q_103_24, q_103_25, q_103_26, q_103_27, q_103_28, q_103_31, q_103_34, q_103_37, q_103_38, q_103_39, q_103_41, q_103_42, q_103_45, q_103_47, q_103_48, q_103_49, q_103_52, q_103_53, q_103_54, q_103_55, q_103_58, q_103_61, q_103_64, q_103_65, q_103_66, q_103_67_t, q_103_67_f, q_103_70, q_103_71, q_103_72, q_103_74, q_103_75, q_103_76, q_103_77, q_103_80, q_103_83, q_103_84, aft_i, aft_l, aft_v, Int.toNat_natCast, kd_sI, kd_sL, kd_sR, kd_cp, gI_sL, gI_sR, gL_sI, gL_sR, gR_sI, gR_sL, gL_cp, gR_cp, kd_aI, gL_aI, gR_aI, gI_aI, gI_aIn, sI_aI, gI_sIn, Int.reduceToNat, Int.reduceAdd, Int.reduceSub, Int.reduceMul, Int.reduceNeg, Int.zero_add]
    exact e
  · have z0 : stN T N = 0 := by omega
    have p7 := q.2.2.2.1
    rw [z0] at p7
    rw [z0]
    obtain ⟨k0, j0⟩ := lay_k L (a := 0) (t := 7) (n := 17) rfl
    simp (disch := (first | omega | (simp only [kd_sI, kd_sL, kd_sR, kd_cp, kd_aI]; omega) | (unfold catV; exact rfl) | (unfold catS; exact Nat.le_of_ble_eq_true rfl) | assumption)) only [q_103_0, q_103_1, q_103_2, q_103_3, q_103_4, q_103_5, q_103_6, q_103_9_t, q_103_9_f, q_103_12, q_103_13, q_103_16, q_103_19, q_103_22, q_103_23, q_103_24, q_103_25, q_103_26, q_103_27, q_103_28, q_103_31, q_103_34, q_103_37, q_103_38, q_103_39, q_103_41, q_103_42, q_103_45, q_103_47, q_103_48, q_103_49, q_103_52, q_103_53, q_103_54, q_103_55, q_103_58, q_103_61, q_103_64, q_103_65, q_103_66, q_103_67_t, q_103_67_f, q_103_70, q_103_71, q_103_72, q_103_74, q_103_75, q_103_76, q_103_77, q_103_80, q_103_83, q_103_84, aft_i, aft_l, aft_v, Int.toNat_natCast, kd_sI, kd_sL, kd_sR, kd_cp, gI_sL, gI_sR, gL_sI, gL_sR, gR_sI, gR_sL, gL_cp, gR_cp, kd_aI, gL_aI, gR_aI, gI_aI, gI_aIn, sI_aI, gI_sIn, Int.reduceToNat, Int.reduceAdd, Int.reduceSub, Int.reduceMul, Int.reduceNeg, Int.zero_add, p7]
    rfl
theorem wLst_loop (d : Nat) (h : mH) (L : LAY h) (T : Td) (N : Nt) (wT : wfT T) (wN : wfN T N) (q : Cq h T N) : ∀ (n : Nat) (x2 : mV), n ≤ stN T N → (∀ j, n ≤ j → j < nM N → lstV (fcS T N) (nX N) (nL N) (nR N j) = -9) → resA (callA (d + 1)) 107 (7, [Sum.inr (Sum.inr (some 0)), Sum.inl ((n : Int) - 1), x2], [], h) = some (some (Sum.inl (lastS T N)), h)
  | 0, x2, hn, hz => by
    have e : lastS T N = -9 := last_st wN 0 (Nat.zero_le _) hz
    rw [e, show ((0 : Nat) : Int) - 1 = -1 from rfl]
    simp (disch := (first | omega | (simp only [kd_sI, kd_sL, kd_sR, kd_cp, kd_aI]; omega) | (unfold catV; exact rfl) | (unfold catS; exact Nat.le_of_ble_eq_true rfl) | assumption)) only [q_107_0, q_107_1, q_107_4, q_107_5, q_107_6, q_107_7, q_107_8_t, q_107_8_f, q_107_11, q_107_12, q_107_15, q_107_18, q_107_21, q_107_22, q_107_23, q_107_24, q_107_25, q_107_28, q_107_31, q_107_32, q_107_35_t, q_107_35_f, q_107_38, q_107_39, q_107_42, q_107_43, q_107_44, q_107_45, q_107_48, q_107_51, q_107_54, q_107_55, q_107_56, q_107_57, q_107_58, q_107_59, q_107_60, q_107_63, q_107_66, q_107_68, aft_i, aft_l, aft_v, Int.toNat_natCast, kd_sI, kd_sL, kd_sR, kd_cp, gI_sL, gI_sR, gL_sI, gL_sR, gR_sI, gR_sL, gL_cp, gR_cp, kd_aI, gL_aI, gR_aI, gI_aI, gI_aIn, sI_aI, gI_sIn, Int.reduceToNat, Int.reduceAdd, Int.reduceSub, Int.reduceMul, Int.reduceNeg, Int.zero_add]
  | n + 1, x2, hn, hz => by
    have c7 := wT.1
    have k4 := wT.2.1
    have n7 : nM N ≤ 7 := Nat.le_trans wN.1 wT.1
    have le := stN_le T N
    have r2 := wN.2.1 n (by omega)
    have u2 := q.2.1.2.2.2.1 n (by omega)
    have f2 := q.2.2.1 (nR N n) (by omega)
    have x1 := q.2.1.2.2.2.2 (nR N n) r2
    have b2 := fc_b wT wN (show n < stN T N by omega)
    have xb := wN.2.2.2.1 (nR N n) r2
    have el := wLate_ok d h L T N wN q.2.1 (nR N n) (by omega)
    have e0 : ((n + 1 : Nat) : Int) - 1 = (n : Int) := by omega
    rw [e0]
    have ne : fcS T N (nR N n) ≠ -9 := (fc_st wN (by omega)).mp (by omega)
    by_cases z : (nL N).testBit (nR N n) = true
    · rw [if_pos z] at el
      have ih := wLst_loop d h L T N wT wN q n (Sum.inl (nR N n : Int)) (by omega) (fun j h1 h2 => by
        by_cases y : j = n
        · subst y; unfold lstV; rw [if_pos (Or.inr z)]
        · exact hz j (by omega) h2)
      have e1 : (n : Int) + -1 = (n : Int) - 1 := by omega
      obtain ⟨k0, j0⟩ := lay_k L (a := 0) (t := 7) (n := 17) rfl; obtain ⟨k13, j13⟩ := lay_k L (a := 13) (t := 4) (n := 4) rfl; obtain ⟨k14, j14⟩ := lay_k L (a := 14) (t := 2) (n := 5) rfl; obtain ⟨k15, j15⟩ := lay_k L (a := 15) (t := 100) (n := 7) rfl; have r0_3 : gR h 0 3 = some 13 := lay_r L rfl; have r13_0 : gR h 13 0 = some 14 := lay_r L rfl; have r14_0 : gR h 14 0 = some 15 := lay_r L rfl
      rw [q_107_7]
      simp (disch := (first | omega | (simp only [kd_sI, kd_sL, kd_sR, kd_cp, kd_aI]; omega) | (unfold catV; exact rfl) | (unfold catS; exact Nat.le_of_ble_eq_true rfl) | assumption)) only [q_107_0, q_107_1, q_107_4, q_107_5, q_107_6, q_107_8_t, q_107_8_f, q_107_11, q_107_12, q_107_15, q_107_18, q_107_21, q_107_22, q_107_23, q_107_24, q_107_25, q_107_28, q_107_31, q_107_32, q_107_35_t, q_107_35_f, q_107_38, q_107_39, q_107_42, q_107_43, q_107_44, q_107_45, q_107_48, q_107_51, q_107_54, q_107_55, q_107_56, q_107_57, q_107_58, q_107_59, q_107_60, q_107_63, q_107_66, q_107_68, aft_i, aft_l, aft_v, Int.toNat_natCast, kd_sI, kd_sL, kd_sR, kd_cp, gI_sL, gI_sR, gL_sI, gL_sR, gR_sI, gR_sL, gL_cp, gR_cp, kd_aI, gL_aI, gR_aI, gI_aI, gI_aIn, sI_aI, gI_sIn, Int.reduceToNat, Int.reduceAdd, Int.reduceSub, Int.reduceMul, Int.reduceNeg, Int.zero_add, r0_3, r13_0, r14_0, u2, el, e1]
      exact ih
    · rw [if_neg z] at el
      have e : lastS T N = fcS T N (nR N n) + nX N (nR N n) - 1 := by
        rw [last_st wN (n + 1) (by omega) hz]
        have up := last_up wT wN (show n < stN T N by omega)
        have lv : lstV (fcS T N) (nX N) (nL N) (nR N n) = fcS T N (nR N n) + nX N (nR N n) - 1 := by
          unfold lstV
          rw [if_neg (fun y => y.elim ne z)]
        show (if mxI (fun i => lstV (fcS T N) (nX N) (nL N) (nR N i)) n < lstV (fcS T N) (nX N) (nL N) (nR N n) then lstV (fcS T N) (nX N) (nL N) (nR N n) else _) = _
        rw [lv, if_pos up]
      rw [e]
      obtain ⟨k0, j0⟩ := lay_k L (a := 0) (t := 7) (n := 17) rfl; obtain ⟨k13, j13⟩ := lay_k L (a := 13) (t := 4) (n := 4) rfl; obtain ⟨k14, j14⟩ := lay_k L (a := 14) (t := 2) (n := 5) rfl; obtain ⟨k15, j15⟩ := lay_k L (a := 15) (t := 100) (n := 7) rfl; obtain ⟨k16, j16⟩ := lay_k L (a := 16) (t := 100) (n := 7) rfl; obtain ⟨k128, j128⟩ := lay_k L (a := 128) (t := 100) (n := 7) rfl; have r0_3 : gR h 0 3 = some 13 := lay_r L rfl; have r13_0 : gR h 13 0 = some 14 := lay_r L rfl; have r14_0 : gR h 14 0 = some 15 := lay_r L rfl; have r14_1 : gR h 14 1 = some 16 := lay_r L rfl; have r0_6 : gR h 0 6 = some 128 := lay_r L rfl
      simp (disch := (first | omega | (simp only [kd_sI, kd_sL, kd_sR, kd_cp, kd_aI]; omega) | (unfold catV; exact rfl) | (unfold catS; exact Nat.le_of_ble_eq_true rfl) | assumption)) only [q_107_0, q_107_1, q_107_4, q_107_5, q_107_6, q_107_7, q_107_8_t, q_107_8_f, q_107_11, q_107_12, q_107_15, q_107_18, q_107_21, q_107_22, q_107_23, q_107_24, q_107_25, q_107_28, q_107_31, q_107_32, q_107_35_t, q_107_35_f, q_107_38, q_107_39, q_107_42, q_107_43, q_107_44, q_107_45, q_107_48, q_107_51, q_107_54, q_107_55, q_107_56, q_107_57, q_107_58, q_107_59, q_107_60, q_107_63, q_107_66, q_107_68, aft_i, aft_l, aft_v, Int.toNat_natCast, kd_sI, kd_sL, kd_sR, kd_cp, gI_sL, gI_sR, gL_sI, gL_sR, gR_sI, gR_sL, gL_cp, gR_cp, kd_aI, gL_aI, gR_aI, gI_aI, gI_aIn, sI_aI, gI_sIn, Int.reduceToNat, Int.reduceAdd, Int.reduceSub, Int.reduceMul, Int.reduceNeg, Int.zero_add, r0_3, r13_0, r14_0, r14_1, r0_6, u2, el, f2, x1]
theorem wLst_ok (d : Nat) (h : mH) (L : LAY h) (T : Td) (N : Nt) (wT : wfT T) (wN : wfN T N) (q : Cq h T N) : callA (d + 2) 107 [Sum.inr (Sum.inr (some 0))] h = some (some (Sum.inl (lastS T N)), h) := by
  have p7 := q.2.2.2.1
  have le := stN_le T N
  have n7 : nM N ≤ 7 := Nat.le_trans wN.1 wT.1
  have e := wLst_loop d h L T N wT wN q (stN T N) (Sum.inr (Sum.inr none)) (Nat.le_refl _) (fun j h1 h2 => by
    have c := fc_st wN (T := T) h2
    unfold lstV
    rw [if_pos (Or.inl (Decidable.byContradiction (fun y => by have := c.mpr y; omega)))])
  obtain ⟨k0, j0⟩ := lay_k L (a := 0) (t := 7) (n := 17) rfl
  rw [en_107]
  simp (disch := (first | omega | (simp only [kd_sI, kd_sL, kd_sR, kd_cp, kd_aI]; omega) | (unfold catV; exact rfl) | (unfold catS; exact Nat.le_of_ble_eq_true rfl) | assumption)) only [q_107_0, q_107_1, q_107_4, q_107_5, q_107_6, q_107_8_t, q_107_8_f, q_107_11, q_107_12, q_107_15, q_107_18, q_107_21, q_107_22, q_107_23, q_107_24, q_107_25, q_107_28, q_107_31, q_107_32, q_107_35_t, q_107_35_f, q_107_38, q_107_39, q_107_42, q_107_43, q_107_44, q_107_45, q_107_48, q_107_51, q_107_54, q_107_55, q_107_56, q_107_57, q_107_58, q_107_59, q_107_60, q_107_63, q_107_66, q_107_68, aft_i, aft_l, aft_v, Int.toNat_natCast, kd_sI, kd_sL, kd_sR, kd_cp, gI_sL, gI_sR, gL_sI, gL_sR, gR_sI, gR_sL, gL_cp, gR_cp, kd_aI, gL_aI, gR_aI, gI_aI, gI_aIn, sI_aI, gI_sIn, Int.reduceToNat, Int.reduceAdd, Int.reduceSub, Int.reduceMul, Int.reduceNeg, Int.zero_add, p7]
  exact e
theorem wWid_loop (d : Nat) (h : mH) (L : LAY h) (T : Td) (N : Nt) (wT : wfT T) (wN : wfN T N) (u : ntA h 14 T N) : ∀ (k i : Nat), i + k = nM N → 0 ≤ sumI (fun i => (nX N (nR N i) : Int)) i ∧ sumI (fun i => (nX N (nR N i) : Int)) i ≤ 6 * i → resA (callA d) 23 (4, [Sum.inr (Sum.inr (some 14)), Sum.inl (sumI (fun i => (nX N (nR N i) : Int)) i), Sum.inl (i : Int)], [], h) = some (some (Sum.inl (leastS N)), h)
  | 0, i, hi, hb => by
    have e : i = nM N := hi
    have n7 : nM N ≤ 7 := Nat.le_trans wN.1 wT.1
    have u1 := u.1
    subst e
    obtain ⟨k14, j14⟩ := lay_k L (a := 14) (t := 2) (n := 5) rfl
    simp (disch := (first | omega | (simp only [kd_sI, kd_sL, kd_sR, kd_cp, kd_aI]; omega) | (unfold catV; exact rfl) | (unfold catS; exact Nat.le_of_ble_eq_true rfl) | assumption)) only [q_23_0, q_23_1, q_23_2, q_23_3, q_23_4, q_23_5, q_23_6, q_23_9_t, q_23_9_f, q_23_12, q_23_13, q_23_14, q_23_17, q_23_18, q_23_21, q_23_22, q_23_23, q_23_24, q_23_25, q_23_26, q_23_29, q_23_32, q_23_33, aft_i, aft_l, aft_v, Int.toNat_natCast, kd_sI, kd_sL, kd_sR, kd_cp, gI_sL, gI_sR, gL_sI, gL_sR, gR_sI, gR_sL, gL_cp, gR_cp, kd_aI, gL_aI, gR_aI, gI_aI, gI_aIn, sI_aI, gI_sIn, Int.reduceToNat, Int.reduceAdd, Int.reduceSub, Int.reduceMul, Int.reduceNeg, Int.zero_add, u1]
    rfl
  | k + 1, i, hi, hb => by
    have c7 := wT.1
    have n7 : nM N ≤ 7 := Nat.le_trans wN.1 wT.1
    have u1 := u.1
    have r2 := wN.2.1 i (by omega)
    have u2 := u.2.2.2.1 i (by omega)
    have x1 := u.2.2.2.2 (nR N i) r2
    have xb := wN.2.2.2.1 (nR N i) r2
    have eS : sumI (fun i => (nX N (nR N i) : Int)) (i + 1) = sumI (fun i => (nX N (nR N i) : Int)) i + nX N (nR N i) := rfl
    have ih := wWid_loop d h L T N wT wN u k (i + 1) (by omega) (by rw [eS]; omega)
    rw [eS] at ih
    obtain ⟨k14, j14⟩ := lay_k L (a := 14) (t := 2) (n := 5) rfl; obtain ⟨k15, j15⟩ := lay_k L (a := 15) (t := 100) (n := 7) rfl; obtain ⟨k16, j16⟩ := lay_k L (a := 16) (t := 100) (n := 7) rfl; have r14_0 : gR h 14 0 = some 15 := lay_r L rfl; have r14_1 : gR h 14 1 = some 16 := lay_r L rfl
    rw [q_23_4]
    simp (disch := (first | omega | (simp only [kd_sI, kd_sL, kd_sR, kd_cp, kd_aI]; omega) | (unfold catV; exact rfl) | (unfold catS; exact Nat.le_of_ble_eq_true rfl) | assumption)) only [q_23_0, q_23_1, q_23_2, q_23_3, q_23_5, q_23_6, q_23_9_t, q_23_9_f, q_23_12, q_23_13, q_23_14, q_23_17, q_23_18, q_23_21, q_23_22, q_23_23, q_23_24, q_23_25, q_23_26, q_23_29, q_23_32, q_23_33, aft_i, aft_l, aft_v, Int.toNat_natCast, kd_sI, kd_sL, kd_sR, kd_cp, gI_sL, gI_sR, gL_sI, gL_sR, gR_sI, gR_sL, gL_cp, gR_cp, kd_aI, gL_aI, gR_aI, gI_aI, gI_aIn, sI_aI, gI_sIn, Int.reduceToNat, Int.reduceAdd, Int.reduceSub, Int.reduceMul, Int.reduceNeg, Int.zero_add, u1, r14_0, r14_1, u2, x1]
    exact ih
theorem wWid_ok (d : Nat) (h : mH) (L : LAY h) (T : Td) (N : Nt) (wT : wfT T) (wN : wfN T N) (u : ntA h 14 T N) : callA (d + 1) 23 [Sum.inr (Sum.inr (some 14))] h = some (some (Sum.inl (leastS N)), h) := by
  have e := wWid_loop d h L T N wT wN u (nM N) 0 (Nat.zero_add _) ⟨Int.le_refl _, Int.le_refl _⟩
  have e : resA (callA d) 23 (4, [Sum.inr (Sum.inr (some 14)), Sum.inl 0, Sum.inl 0], [], h) = some (some (Sum.inl (leastS N)), h) := e
  rw [en_23]
  simp (disch := (first | omega | (simp only [kd_sI, kd_sL, kd_sR, kd_cp, kd_aI]; omega) | (unfold catV; exact rfl) | (unfold catS; exact Nat.le_of_ble_eq_true rfl) | assumption)) only [q_23_0, q_23_1, q_23_2, q_23_3, q_23_5, q_23_6, q_23_9_t, q_23_9_f, q_23_12, q_23_13, q_23_14, q_23_17, q_23_18, q_23_21, q_23_22, q_23_23, q_23_24, q_23_25, q_23_26, q_23_29, q_23_32, q_23_33, aft_i, aft_l, aft_v, Int.toNat_natCast, kd_sI, kd_sL, kd_sR, kd_cp, gI_sL, gI_sR, gL_sI, gL_sR, gR_sI, gR_sL, gL_cp, gR_cp, kd_aI, gL_aI, gR_aI, gI_aI, gI_aIn, sI_aI, gI_sIn, Int.reduceToNat, Int.reduceAdd, Int.reduceSub, Int.reduceMul, Int.reduceNeg, Int.zero_add]
  exact e
