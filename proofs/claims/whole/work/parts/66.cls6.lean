theorem wHas_loop (d : Nat) (h : mH) (L : LAY h) (T : Td) (N : Nt) (wT : wfT T) (wN : wfN T N) (q : Cq h T N) (f w : Nat) (hf : f + w ≤ tK T) : ∀ (k j : Nat), j + k = w → (∀ i, i < j → lnd T N (f + i) ≠ 1) → resA (callA (d + 2)) 106 (2, [Sum.inr (Sum.inr (some 0)), Sum.inl (f : Int), Sum.inl (w : Int), Sum.inl ((f + j : Nat) : Int)], [], h) = some (some (Sum.inl (if hillB (lnd T N) f w = true then 1 else 0)), h)
  | 0, j, hj, hn => by
    have e : j = w := hj
    have k4 := wT.2.1
    subst e
    have hh : ¬ hillB (lnd T N) f j = true := by
      unfold hillB
      intro y
      rw [List.any_eq_true] at y
      obtain ⟨x, hx, hx2⟩ := y
      exact hn x (List.mem_range.mp hx) (of_decide_eq_true hx2)
    rw [if_neg hh]
    have hc : ¬ ((f + j : Nat) : Int) < (f : Int) + j := by omega
    simp (disch := (first | omega | (simp only [kd_sI, kd_sL, kd_sR, kd_cp, kd_aI]; omega) | (unfold catV; exact rfl) | (unfold catS; exact Nat.le_of_ble_eq_true rfl) | assumption)) only [q_106_0, q_106_1, q_106_2, q_106_3, q_106_4, q_106_5, q_106_6_t, q_106_6_f, q_106_9, q_106_10, q_106_11, q_106_14, q_106_17_t, q_106_17_f, q_106_20, q_106_21, q_106_22, q_106_25, q_106_26_t, q_106_26_f, q_106_29, q_106_30, q_106_31, q_106_34, q_106_37, q_106_38, aft_i, aft_l, aft_v, Int.toNat_natCast, kd_sI, kd_sL, kd_sR, kd_cp, gI_sL, gI_sR, gL_sI, gL_sR, gR_sI, gR_sL, gL_cp, gR_cp, kd_aI, gL_aI, gR_aI, gI_aI, gI_aIn, sI_aI, gI_sIn, Int.reduceToNat, Int.reduceAdd, Int.reduceSub, Int.reduceMul, Int.reduceNeg, Int.zero_add]
  | k + 1, j, hj, hn => by
    have k4 := wT.2.1
    have t2 := q.1.2.1
    have e1 := wGrd_ok d h L T N wT wN q.1 q.2.1 (f + j) (by omega)
    have hc : ((f + j : Nat) : Int) < (f : Int) + w := by omega
    obtain ⟨k0, j0⟩ := lay_k L (a := 0) (t := 7) (n := 17) rfl; obtain ⟨k3, j3⟩ := lay_k L (a := 3) (t := 6) (n := 8) rfl; have r0_1 : gR h 0 1 = some 3 := lay_r L rfl
    by_cases z : lnd T N (f + j) = 1
    · have hh : hillB (lnd T N) f w = true := by
        unfold hillB
        rw [List.any_eq_true]
        exact ⟨j, List.mem_range.mpr (by omega), decide_eq_true z⟩
      rw [if_pos hh]
      rw [z] at e1
      simp (disch := (first | omega | (simp only [kd_sI, kd_sL, kd_sR, kd_cp, kd_aI]; omega) | (unfold catV; exact rfl) | (unfold catS; exact Nat.le_of_ble_eq_true rfl) | assumption)) only [q_106_0, q_106_1, q_106_2, q_106_3, q_106_4, q_106_5, q_106_6_t, q_106_6_f, q_106_9, q_106_10, q_106_11, q_106_14, q_106_17_t, q_106_17_f, q_106_20, q_106_21, q_106_22, q_106_25, q_106_26_t, q_106_26_f, q_106_29, q_106_30, q_106_31, q_106_34, q_106_37, q_106_38, aft_i, aft_l, aft_v, Int.toNat_natCast, kd_sI, kd_sL, kd_sR, kd_cp, gI_sL, gI_sR, gL_sI, gL_sR, gR_sI, gR_sL, gL_cp, gR_cp, kd_aI, gL_aI, gR_aI, gI_aI, gI_aIn, sI_aI, gI_sIn, Int.reduceToNat, Int.reduceAdd, Int.reduceSub, Int.reduceMul, Int.reduceNeg, Int.zero_add, r0_1, t2, e1]
    · have ih := wHas_loop d h L T N wT wN q f w hf k (j + 1) (by omega) (fun i hi => by
        by_cases y : i = j
        · subst y; exact z
        · exact hn i (by omega))
      have e0 : ((f + j : Nat) : Int) + 1 = ((f + (j + 1) : Nat) : Int) := by omega
      rw [q_106_2]
      simp (disch := (first | omega | (simp only [kd_sI, kd_sL, kd_sR, kd_cp, kd_aI]; omega) | (unfold catV; exact rfl) | (unfold catS; exact Nat.le_of_ble_eq_true rfl) | assumption)) only [q_106_0, q_106_1, q_106_3, q_106_4, q_106_5, q_106_6_t, q_106_6_f, q_106_9, q_106_10, q_106_11, q_106_14, q_106_17_t, q_106_17_f, q_106_20, q_106_21, q_106_22, q_106_25, q_106_26_t, q_106_26_f, q_106_29, q_106_30, q_106_31, q_106_34, q_106_37, q_106_38, aft_i, aft_l, aft_v, Int.toNat_natCast, kd_sI, kd_sL, kd_sR, kd_cp, gI_sL, gI_sR, gL_sI, gL_sR, gR_sI, gR_sL, gL_cp, gR_cp, kd_aI, gL_aI, gR_aI, gI_aI, gI_aIn, sI_aI, gI_sIn, Int.reduceToNat, Int.reduceAdd, Int.reduceSub, Int.reduceMul, Int.reduceNeg, Int.zero_add, r0_1, t2, e1, e0]
      exact ih
theorem wHas_ok (d : Nat) (h : mH) (L : LAY h) (T : Td) (N : Nt) (wT : wfT T) (wN : wfN T N) (q : Cq h T N) (f w : Nat) (hf : f + w ≤ tK T) : callA (d + 3) 106 [Sum.inr (Sum.inr (some 0)), Sum.inl (f : Int), Sum.inl (w : Int)] h = some (some (Sum.inl (if hillB (lnd T N) f w = true then 1 else 0)), h) := by
  have e := wHas_loop d h L T N wT wN q f w hf w 0 (Nat.zero_add _) (fun i hi => absurd hi (Nat.not_lt_zero _))
  rw [Nat.add_zero] at e
  rw [en_106]
  simp (disch := (first | omega | (simp only [kd_sI, kd_sL, kd_sR, kd_cp, kd_aI]; omega) | (unfold catV; exact rfl) | (unfold catS; exact Nat.le_of_ble_eq_true rfl) | assumption)) only [q_106_0, q_106_1, q_106_3, q_106_4, q_106_5, q_106_6_t, q_106_6_f, q_106_9, q_106_10, q_106_11, q_106_14, q_106_17_t, q_106_17_f, q_106_20, q_106_21, q_106_22, q_106_25, q_106_26_t, q_106_26_f, q_106_29, q_106_30, q_106_31, q_106_34, q_106_37, q_106_38, aft_i, aft_l, aft_v, Int.toNat_natCast, kd_sI, kd_sL, kd_sR, kd_cp, gI_sL, gI_sR, gL_sI, gL_sR, gR_sI, gR_sL, gL_cp, gR_cp, kd_aI, gL_aI, gR_aI, gI_aI, gI_aIn, sI_aI, gI_sIn, Int.reduceToNat, Int.reduceAdd, Int.reduceSub, Int.reduceMul, Int.reduceNeg, Int.zero_add]
  exact e
/-- which carts take some hill, by their numbers -/
def hlB (T : Td) (N : Nt) (c : Nat) : Bool := decide (cellS T N c ≠ -9) && hillB (lnd T N) (cellS T N c) (nX N c)
def hlC (T : Td) (N : Nt) : Nat → Nat
  | 0 => 0
  | c + 1 => hlC T N c ||| if hlB T N c = true then 2 ^ c else 0
theorem hlC_bit (T : Td) (N : Nt) : ∀ (m k : Nat), (hlC T N m).testBit k = decide (k < m ∧ hlB T N k = true)
  | 0, k => by
    rw [decide_eq_false (by omega)]
    exact Nat.zero_testBit k
  | m + 1, k => by
    show (hlC T N m ||| if hlB T N m = true then 2 ^ m else 0).testBit k = _
    rw [Nat.testBit_or, hlC_bit T N m k]
    by_cases z : hlB T N m = true
    · rw [if_pos z, Nat.testBit_two_pow, ← Bool.decide_or, decide_eq_decide]
      constructor
      · rintro (h | h)
        · exact ⟨by omega, h.2⟩
        · subst h; exact ⟨by omega, z⟩
      · rintro ⟨h1, h2⟩
        by_cases y : k = m
        · exact Or.inr y.symm
        · exact Or.inl ⟨by omega, h2⟩
    · rw [if_neg z, Nat.zero_testBit, Bool.or_false, decide_eq_decide]
      constructor
      · rintro ⟨h1, h2⟩; exact ⟨by omega, h2⟩
      · rintro ⟨h1, h2⟩
        refine ⟨?_, h2⟩
        by_cases y : k = m
        · subst y; exact absurd h2 z
        · omega
theorem hlC_lt (T : Td) (N : Nt) : ∀ m : Nat, hlC T N m < 2 ^ m
  | 0 => Nat.one_pos
  | m + 1 => by
    show (hlC T N m ||| if hlB T N m = true then 2 ^ m else 0) < 2 ^ (m + 1)
    have a := hlC_lt T N m
    have b : (2 : Nat) ^ m < 2 ^ (m + 1) := Nat.pow_lt_pow_right (by omega) (by omega)
    refine Nat.or_lt_two_pow (by omega) ?_
    split <;> omega
theorem hilF_bit {T : Td} {N : Nt} (k : Nat) : ∀ n, (hilF (lnd T N) (fcS T N) (nX N) (nL N) (nR N) n).testBit k = true ↔ ∃ i, i < n ∧ nR N i = k ∧ hlB T N k = true
  | 0 => by
    constructor
    · intro h
      have h : (0 : Nat).testBit k = true := h
      rw [Nat.zero_testBit] at h
      cases h
    · rintro ⟨i, h, _⟩
      exact absurd h (Nat.not_lt_zero _)
  | n + 1 => by
    have key : (fcS T N (nR N n) ≠ -9 ∧ (nL N).testBit (nR N n) = false ∧ hillB (lnd T N) (fcS T N (nR N n)) (nX N (nR N n)) = true) ↔ hlB T N (nR N n) = true := by
      unfold hlB cellS
      rw [Bool.and_eq_true, decide_eq_true_iff]
      by_cases z : (nL N).testBit (nR N n) = true
      · rw [if_pos z]
        constructor
        · rintro ⟨a, b, c⟩; rw [z] at b; cases b
        · rintro ⟨a, b⟩; exact absurd rfl a
      · rw [if_neg z]
        have z2 : (nL N).testBit (nR N n) = false := by simpa using z
        constructor
        · rintro ⟨a, b, c⟩; exact ⟨a, c⟩
        · rintro ⟨a, b⟩; exact ⟨a, z2, b⟩
    have ih := hilF_bit (T := T) (N := N) k n
    unfold hilF
    by_cases z : fcS T N (nR N n) ≠ -9 ∧ (nL N).testBit (nR N n) = false ∧ hillB (lnd T N) (fcS T N (nR N n)) (nX N (nR N n)) = true
    · rw [if_pos z, Nat.testBit_or, Bool.or_eq_true, ih, Nat.testBit_two_pow, decide_eq_true_iff]
      constructor
      · rintro (⟨i, h1, h2⟩ | h)
        · exact ⟨i, by omega, h2⟩
        · exact ⟨n, by omega, h, by rw [← h]; exact key.mp z⟩
      · rintro ⟨i, h1, h2, h3⟩
        by_cases y : i = n
        · subst y; exact Or.inr h2
        · exact Or.inl ⟨i, by omega, h2, h3⟩
    · rw [if_neg z, ih]
      constructor
      · rintro ⟨i, h1, h2⟩; exact ⟨i, by omega, h2⟩
      · rintro ⟨i, h1, h2, h3⟩
        refine ⟨i, ?_, h2, h3⟩
        by_cases y : i = n
        · subst y; rw [← h2] at h3; exact absurd (key.mpr h3) z
        · omega
theorem hil_eq {T : Td} {N : Nt} (w : wfN T N) : hilN T N = hlC T N (tN T) := by
  refine Nat.eq_of_testBit_eq (fun k => ?_)
  rw [hlC_bit, Bool.eq_iff_iff, decide_eq_true_iff]
  unfold hilN
  rw [hilF_bit]
  constructor
  · rintro ⟨i, h1, h2, h3⟩
    subst h2
    exact ⟨w.2.1 i h1, h3⟩
  · rintro ⟨h1, h2⟩
    have h3 := h2
    unfold hlB at h3
    rw [Bool.and_eq_true, decide_eq_true_iff] at h3
    obtain ⟨i, hi, e⟩ := cell_in h3.1
    exact ⟨i, hi, e, h2⟩
theorem wHil_loop (d : Nat) (h : mH) (L : LAY h) (T : Td) (N : Nt) (wT : wfT T) (wN : wfN T N) (q : Cq h T N) : ∀ (k c : Nat) (x3 : mV), c + k = tN T → resA (callA (d + 3)) 105 (4, [Sum.inr (Sum.inr (some 0)), Sum.inl (hlC T N c : Int), Sum.inl (c : Int), x3], [], h) = some (some (Sum.inl (hlC T N (tN T) : Int)), h)
  | 0, c, x3, hc => by
    have e : c = tN T := hc
    have c7 := wT.1
    have t1 := q.1.1
    subst e
    obtain ⟨k0, j0⟩ := lay_k L (a := 0) (t := 7) (n := 17) rfl; obtain ⟨k3, j3⟩ := lay_k L (a := 3) (t := 6) (n := 8) rfl; have r0_1 : gR h 0 1 = some 3 := lay_r L rfl
    simp (disch := (first | omega | (simp only [kd_sI, kd_sL, kd_sR, kd_cp, kd_aI]; omega) | (unfold catV; exact rfl) | (unfold catS; exact Nat.le_of_ble_eq_true rfl) | assumption)) only [q_105_0, q_105_1, q_105_2, q_105_3, q_105_4, q_105_5, q_105_6, q_105_9, q_105_12_t, q_105_12_f, q_105_15, q_105_16, q_105_17, q_105_20, q_105_21, q_105_22, q_105_24_t, q_105_24_f, q_105_27, q_105_28, q_105_29, q_105_30, q_105_33, q_105_36, q_105_39, q_105_40, q_105_41, q_105_44_t, q_105_44_f, q_105_47, q_105_48, q_105_49, q_105_50, q_105_51, q_105_52, q_105_53, q_105_56, q_105_59, q_105_60, aft_i, aft_l, aft_v, Int.toNat_natCast, kd_sI, kd_sL, kd_sR, kd_cp, gI_sL, gI_sR, gL_sI, gL_sR, gR_sI, gR_sL, gL_cp, gR_cp, kd_aI, gL_aI, gR_aI, gI_aI, gI_aIn, sI_aI, gI_sIn, Int.reduceToNat, Int.reduceAdd, Int.reduceSub, Int.reduceMul, Int.reduceNeg, Int.zero_add, r0_1, t1]
  | k + 1, c, x3, hc => by
    have c7 := wT.1
    have t1 := q.1.1
    have e1 := wCellOf_ok (d + 1) h L T N wT wN q c (by omega)
    have fi := fcS_i wT wN c (by omega)
    have ui := q.2.1.2.2.2.2 c (by omega)
    have b := hlC_lt T N c
    have p7 : 2 ^ c ≤ 2 ^ 7 := Nat.pow_le_pow_right (by omega) (by omega)
    have p7 : 2 ^ c ≤ 128 := p7
    have sh := shl1 (j := c) (by omega)
    have o1 := orI_n (a := hlC T N c) (b := 2 ^ c) (by omega) (by omega)
    have ih := wHil_loop d h L T N wT wN q k (c + 1) (Sum.inl (cellS T N c)) (by omega)
    have eC : hlC T N (c + 1) = hlC T N c ||| if hlB T N c = true then 2 ^ c else 0 := rfl
    rw [eC] at ih
    obtain ⟨k0, j0⟩ := lay_k L (a := 0) (t := 7) (n := 17) rfl; obtain ⟨k3, j3⟩ := lay_k L (a := 3) (t := 6) (n := 8) rfl; obtain ⟨k13, j13⟩ := lay_k L (a := 13) (t := 4) (n := 4) rfl; obtain ⟨k14, j14⟩ := lay_k L (a := 14) (t := 2) (n := 5) rfl; obtain ⟨k16, j16⟩ := lay_k L (a := 16) (t := 100) (n := 7) rfl; have r0_1 : gR h 0 1 = some 3 := lay_r L rfl; have r0_3 : gR h 0 3 = some 13 := lay_r L rfl; have r13_0 : gR h 13 0 = some 14 := lay_r L rfl; have r14_1 : gR h 14 1 = some 16 := lay_r L rfl
    rw [q_105_4]
    by_cases z : cellS T N c = -9
    · have hb : ¬ hlB T N c = true := by
        unfold hlB
        rw [Bool.and_eq_true, decide_eq_true_iff]
        exact fun y => y.1 z
      rw [if_neg hb, Nat.or_zero, z] at ih
      rw [z] at e1
      simp (disch := (first | omega | (simp only [kd_sI, kd_sL, kd_sR, kd_cp, kd_aI]; omega) | (unfold catV; exact rfl) | (unfold catS; exact Nat.le_of_ble_eq_true rfl) | assumption)) only [q_105_0, q_105_1, q_105_2, q_105_3, q_105_5, q_105_6, q_105_9, q_105_12_t, q_105_12_f, q_105_15, q_105_16, q_105_17, q_105_20, q_105_21, q_105_22, q_105_24_t, q_105_24_f, q_105_27, q_105_28, q_105_29, q_105_30, q_105_33, q_105_36, q_105_39, q_105_40, q_105_41, q_105_44_t, q_105_44_f, q_105_47, q_105_48, q_105_49, q_105_50, q_105_51, q_105_52, q_105_53, q_105_56, q_105_59, q_105_60, aft_i, aft_l, aft_v, Int.toNat_natCast, kd_sI, kd_sL, kd_sR, kd_cp, gI_sL, gI_sR, gL_sI, gL_sR, gR_sI, gR_sL, gL_cp, gR_cp, kd_aI, gL_aI, gR_aI, gI_aI, gI_aIn, sI_aI, gI_sIn, Int.reduceToNat, Int.reduceAdd, Int.reduceSub, Int.reduceMul, Int.reduceNeg, Int.zero_add, r0_1, t1, e1]
      exact ih
    · have g := fi.2.2.2.2 z
      have e2 := wHas_ok d h L T N wT wN q (cellS T N c).toNat (nX N c) (by omega)
      rw [Int.toNat_of_nonneg (by omega)] at e2
      by_cases y : hillB (lnd T N) (cellS T N c) (nX N c) = true
      · have hb : hlB T N c = true := by
          unfold hlB
          rw [Bool.and_eq_true, decide_eq_true_iff]
          exact ⟨z, y⟩
        rw [if_pos y] at e2
        rw [if_pos hb] at ih
        simp (disch := (first | omega | (simp only [kd_sI, kd_sL, kd_sR, kd_cp, kd_aI]; omega) | (unfold catV; exact rfl) | (unfold catS; exact Nat.le_of_ble_eq_true rfl) | assumption)) only [q_105_0, q_105_1, q_105_2, q_105_3, q_105_5, q_105_6, q_105_9, q_105_12_t, q_105_12_f, q_105_15, q_105_16, q_105_17, q_105_20, q_105_21, q_105_22, q_105_24_t, q_105_24_f, q_105_27, q_105_28, q_105_29, q_105_30, q_105_33, q_105_36, q_105_39, q_105_40, q_105_41, q_105_44_t, q_105_44_f, q_105_47, q_105_48, q_105_49, q_105_50, q_105_51, q_105_52, q_105_53, q_105_56, q_105_59, q_105_60, aft_i, aft_l, aft_v, Int.toNat_natCast, kd_sI, kd_sL, kd_sR, kd_cp, gI_sL, gI_sR, gL_sI, gL_sR, gR_sI, gR_sL, gL_cp, gR_cp, kd_aI, gL_aI, gR_aI, gI_aI, gI_aIn, sI_aI, gI_sIn, Int.reduceToNat, Int.reduceAdd, Int.reduceSub, Int.reduceMul, Int.reduceNeg, Int.zero_add, r0_1, t1, e1, r0_3, r13_0, r14_1, ui, e2, sh, o1]
        exact ih
      · have hb : ¬ hlB T N c = true := by
          unfold hlB
          rw [Bool.and_eq_true, decide_eq_true_iff]
          exact fun x => y x.2
        rw [if_neg y] at e2
        rw [if_neg hb, Nat.or_zero] at ih
        simp (disch := (first | omega | (simp only [kd_sI, kd_sL, kd_sR, kd_cp, kd_aI]; omega) | (unfold catV; exact rfl) | (unfold catS; exact Nat.le_of_ble_eq_true rfl) | assumption)) only [q_105_0, q_105_1, q_105_2, q_105_3, q_105_5, q_105_6, q_105_9, q_105_12_t, q_105_12_f, q_105_15, q_105_16, q_105_17, q_105_20, q_105_21, q_105_22, q_105_24_t, q_105_24_f, q_105_27, q_105_28, q_105_29, q_105_30, q_105_33, q_105_36, q_105_39, q_105_40, q_105_41, q_105_44_t, q_105_44_f, q_105_47, q_105_48, q_105_49, q_105_50, q_105_51, q_105_52, q_105_53, q_105_56, q_105_59, q_105_60, aft_i, aft_l, aft_v, Int.toNat_natCast, kd_sI, kd_sL, kd_sR, kd_cp, gI_sL, gI_sR, gL_sI, gL_sR, gR_sI, gR_sL, gL_cp, gR_cp, kd_aI, gL_aI, gR_aI, gI_aI, gI_aIn, sI_aI, gI_sIn, Int.reduceToNat, Int.reduceAdd, Int.reduceSub, Int.reduceMul, Int.reduceNeg, Int.zero_add, r0_1, t1, e1, r0_3, r13_0, r14_1, ui, e2]
        exact ih
theorem wHil_ok (d : Nat) (h : mH) (L : LAY h) (T : Td) (N : Nt) (wT : wfT T) (wN : wfN T N) (q : Cq h T N) : callA (d + 4) 105 [Sum.inr (Sum.inr (some 0))] h = some (some (Sum.inl (hilN T N : Int)), h) := by
  have e := wHil_loop d h L T N wT wN q (tN T) 0 (Sum.inr (Sum.inr none)) (Nat.zero_add _)
  have e : resA (callA (d + 3)) 105 (4, [Sum.inr (Sum.inr (some 0)), Sum.inl 0, Sum.inl 0, Sum.inr (Sum.inr none)], [], h) = some (some (Sum.inl (hlC T N (tN T) : Int)), h) := e
  rw [hil_eq wN, en_105]
  simp (disch := (first | omega | (simp only [kd_sI, kd_sL, kd_sR, kd_cp, kd_aI]; omega) | (unfold catV; exact rfl) | (unfold catS; exact Nat.le_of_ble_eq_true rfl) | assumption)) only [q_105_0, q_105_1, q_105_2, q_105_3, q_105_5, q_105_6, q_105_9, q_105_12_t, q_105_12_f, q_105_15, q_105_16, q_105_17, q_105_20, q_105_21, q_105_22, q_105_24_t, q_105_24_f, q_105_27, q_105_28, q_105_29, q_105_30, q_105_33, q_105_36, q_105_39, q_105_40, q_105_41, q_105_44_t, q_105_44_f, q_105_47, q_105_48, q_105_49, q_105_50, q_105_51, q_105_52, q_105_53, q_105_56, q_105_59, q_105_60, aft_i, aft_l, aft_v, Int.toNat_natCast, kd_sI, kd_sL, kd_sR, kd_cp, gI_sL, gI_sR, gL_sI, gL_sR, gR_sI, gR_sL, gL_cp, gR_cp, kd_aI, gL_aI, gR_aI, gI_aI, gI_aIn, sI_aI, gI_sIn, Int.reduceToNat, Int.reduceAdd, Int.reduceSub, Int.reduceMul, Int.reduceNeg, Int.zero_add]
  exact e
theorem cNow_ok (d : Nat) (h : mH) (L : LAY h) (T : Td) (N : Nt) (wT : wfT T) (wN : wfN T N) (q : Cq h T N) (w : Int) : callA (d + 5) 75 [Sum.inr (Sum.inr (some 0)), Sum.inl w] h = some (some (Sum.inl (nowS T N w)), h) := by
  have n7 : nM N ≤ 7 := Nat.le_trans wN.1 wT.1
  have le := stN_le T N
  have u1 := q.2.1.1
  have u3 := q.2.1.2.1
  have p7 := q.2.2.2.1
  have o := out_st (T := T) wN
  unfold nowS
  obtain ⟨k0, j0⟩ := lay_k L (a := 0) (t := 7) (n := 17) rfl; obtain ⟨k13, j13⟩ := lay_k L (a := 13) (t := 4) (n := 4) rfl; obtain ⟨k14, j14⟩ := lay_k L (a := 14) (t := 2) (n := 5) rfl; have r0_3 : gR h 0 3 = some 13 := lay_r L rfl; have r13_0 : gR h 13 0 = some 14 := lay_r L rfl
  rw [en_75]
  by_cases w0 : w = 0
  · subst w0; simp (disch := (first | omega | (simp only [kd_sI, kd_sL, kd_sR, kd_cp, kd_aI]; omega) | (unfold catV; exact rfl) | (unfold catS; exact Nat.le_of_ble_eq_true rfl) | assumption)) only [q_75_0, q_75_1_0, q_75_1_1, q_75_1_2, q_75_1_3, q_75_1_4, q_75_1_5, q_75_1_6, q_75_1_7, q_75_1_d, q_75_48, q_75_49, q_75_52, q_75_55, q_75_58, q_75_59, q_75_60, q_75_63, q_75_66, q_75_69, q_75_70, q_75_73, q_75_74, q_75_75, q_75_76, q_75_79, q_75_80, q_75_81, q_75_84, q_75_85, q_75_86, q_75_89, q_75_90, q_75_91, q_75_94, q_75_95, q_75_96, q_75_99, q_75_102, q_75_105, q_75_106, q_75_107, q_75_110, q_75_113, q_75_116, q_75_117, q_75_118, aft_i, aft_l, aft_v, Int.toNat_natCast, kd_sI, kd_sL, kd_sR, kd_cp, gI_sL, gI_sR, gL_sI, gL_sR, gR_sI, gR_sL, gL_cp, gR_cp, kd_aI, gL_aI, gR_aI, gI_aI, gI_aIn, sI_aI, gI_sIn, Int.reduceToNat, Int.reduceAdd, Int.reduceSub, Int.reduceMul, Int.reduceNeg, Int.zero_add, r0_3, r13_0, u1]; rfl
  by_cases w1 : w = 1
  · subst w1
    rw [o]
    simp (disch := (first | omega | (simp only [kd_sI, kd_sL, kd_sR, kd_cp, kd_aI]; omega) | (unfold catV; exact rfl) | (unfold catS; exact Nat.le_of_ble_eq_true rfl) | assumption)) only [q_75_0, q_75_1_0, q_75_1_1, q_75_1_2, q_75_1_3, q_75_1_4, q_75_1_5, q_75_1_6, q_75_1_7, q_75_1_d, q_75_48, q_75_49, q_75_52, q_75_55, q_75_58, q_75_59, q_75_60, q_75_63, q_75_66, q_75_69, q_75_70, q_75_73, q_75_74, q_75_75, q_75_76, q_75_79, q_75_80, q_75_81, q_75_84, q_75_85, q_75_86, q_75_89, q_75_90, q_75_91, q_75_94, q_75_95, q_75_96, q_75_99, q_75_102, q_75_105, q_75_106, q_75_107, q_75_110, q_75_113, q_75_116, q_75_117, q_75_118, aft_i, aft_l, aft_v, Int.toNat_natCast, kd_sI, kd_sL, kd_sR, kd_cp, gI_sL, gI_sR, gL_sI, gL_sR, gR_sI, gR_sL, gL_cp, gR_cp, kd_aI, gL_aI, gR_aI, gI_aI, gI_aIn, sI_aI, gI_sIn, Int.reduceToNat, Int.reduceAdd, Int.reduceSub, Int.reduceMul, Int.reduceNeg, Int.zero_add, r0_3, r13_0, u1, p7]; rfl
  by_cases w2 : w = 2
  · subst w2
    have e := wBrk_ok (d + 3) h L T N wT wN q
    simp (disch := (first | omega | (simp only [kd_sI, kd_sL, kd_sR, kd_cp, kd_aI]; omega) | (unfold catV; exact rfl) | (unfold catS; exact Nat.le_of_ble_eq_true rfl) | assumption)) only [q_75_0, q_75_1_0, q_75_1_1, q_75_1_2, q_75_1_3, q_75_1_4, q_75_1_5, q_75_1_6, q_75_1_7, q_75_1_d, q_75_48, q_75_49, q_75_52, q_75_55, q_75_58, q_75_59, q_75_60, q_75_63, q_75_66, q_75_69, q_75_70, q_75_73, q_75_74, q_75_75, q_75_76, q_75_79, q_75_80, q_75_81, q_75_84, q_75_85, q_75_86, q_75_89, q_75_90, q_75_91, q_75_94, q_75_95, q_75_96, q_75_99, q_75_102, q_75_105, q_75_106, q_75_107, q_75_110, q_75_113, q_75_116, q_75_117, q_75_118, aft_i, aft_l, aft_v, Int.toNat_natCast, kd_sI, kd_sL, kd_sR, kd_cp, gI_sL, gI_sR, gL_sI, gL_sR, gR_sI, gR_sL, gL_cp, gR_cp, kd_aI, gL_aI, gR_aI, gI_aI, gI_aIn, sI_aI, gI_sIn, Int.reduceToNat, Int.reduceAdd, Int.reduceSub, Int.reduceMul, Int.reduceNeg, Int.zero_add, e]; rfl
  by_cases w3 : w = 3
  · subst w3
    have e := wNear_ok d h L T N wT wN q
    simp (disch := (first | omega | (simp only [kd_sI, kd_sL, kd_sR, kd_cp, kd_aI]; omega) | (unfold catV; exact rfl) | (unfold catS; exact Nat.le_of_ble_eq_true rfl) | assumption)) only [q_75_0, q_75_1_0, q_75_1_1, q_75_1_2, q_75_1_3, q_75_1_4, q_75_1_5, q_75_1_6, q_75_1_7, q_75_1_d, q_75_48, q_75_49, q_75_52, q_75_55, q_75_58, q_75_59, q_75_60, q_75_63, q_75_66, q_75_69, q_75_70, q_75_73, q_75_74, q_75_75, q_75_76, q_75_79, q_75_80, q_75_81, q_75_84, q_75_85, q_75_86, q_75_89, q_75_90, q_75_91, q_75_94, q_75_95, q_75_96, q_75_99, q_75_102, q_75_105, q_75_106, q_75_107, q_75_110, q_75_113, q_75_116, q_75_117, q_75_118, aft_i, aft_l, aft_v, Int.toNat_natCast, kd_sI, kd_sL, kd_sR, kd_cp, gI_sL, gI_sR, gL_sI, gL_sR, gR_sI, gR_sL, gL_cp, gR_cp, kd_aI, gL_aI, gR_aI, gI_aI, gI_aIn, sI_aI, gI_sIn, Int.reduceToNat, Int.reduceAdd, Int.reduceSub, Int.reduceMul, Int.reduceNeg, Int.zero_add, e]; rfl
  by_cases w4 : w = 4
  · subst w4
    have e := wHil_ok d h L T N wT wN q
    simp (disch := (first | omega | (simp only [kd_sI, kd_sL, kd_sR, kd_cp, kd_aI]; omega) | (unfold catV; exact rfl) | (unfold catS; exact Nat.le_of_ble_eq_true rfl) | assumption)) only [q_75_0, q_75_1_0, q_75_1_1, q_75_1_2, q_75_1_3, q_75_1_4, q_75_1_5, q_75_1_6, q_75_1_7, q_75_1_d, q_75_48, q_75_49, q_75_52, q_75_55, q_75_58, q_75_59, q_75_60, q_75_63, q_75_66, q_75_69, q_75_70, q_75_73, q_75_74, q_75_75, q_75_76, q_75_79, q_75_80, q_75_81, q_75_84, q_75_85, q_75_86, q_75_89, q_75_90, q_75_91, q_75_94, q_75_95, q_75_96, q_75_99, q_75_102, q_75_105, q_75_106, q_75_107, q_75_110, q_75_113, q_75_116, q_75_117, q_75_118, aft_i, aft_l, aft_v, Int.toNat_natCast, kd_sI, kd_sL, kd_sR, kd_cp, gI_sL, gI_sR, gL_sI, gL_sR, gR_sI, gR_sL, gL_cp, gR_cp, kd_aI, gL_aI, gR_aI, gI_aI, gI_aIn, sI_aI, gI_sIn, Int.reduceToNat, Int.reduceAdd, Int.reduceSub, Int.reduceMul, Int.reduceNeg, Int.zero_add, e]; rfl
  by_cases w5 : w = 5
  · subst w5
    have e := wLst_ok (d + 2) h L T N wT wN q
    simp (disch := (first | omega | (simp only [kd_sI, kd_sL, kd_sR, kd_cp, kd_aI]; omega) | (unfold catV; exact rfl) | (unfold catS; exact Nat.le_of_ble_eq_true rfl) | assumption)) only [q_75_0, q_75_1_0, q_75_1_1, q_75_1_2, q_75_1_3, q_75_1_4, q_75_1_5, q_75_1_6, q_75_1_7, q_75_1_d, q_75_48, q_75_49, q_75_52, q_75_55, q_75_58, q_75_59, q_75_60, q_75_63, q_75_66, q_75_69, q_75_70, q_75_73, q_75_74, q_75_75, q_75_76, q_75_79, q_75_80, q_75_81, q_75_84, q_75_85, q_75_86, q_75_89, q_75_90, q_75_91, q_75_94, q_75_95, q_75_96, q_75_99, q_75_102, q_75_105, q_75_106, q_75_107, q_75_110, q_75_113, q_75_116, q_75_117, q_75_118, aft_i, aft_l, aft_v, Int.toNat_natCast, kd_sI, kd_sL, kd_sR, kd_cp, gI_sL, gI_sR, gL_sI, gL_sR, gR_sI, gR_sL, gL_cp, gR_cp, kd_aI, gL_aI, gR_aI, gI_aI, gI_aIn, sI_aI, gI_sIn, Int.reduceToNat, Int.reduceAdd, Int.reduceSub, Int.reduceMul, Int.reduceNeg, Int.zero_add, e]; rfl
  by_cases w6 : w = 6
  · subst w6
    have e := wWid_ok (d + 3) h L T N wT wN q.2.1
    simp (disch := (first | omega | (simp only [kd_sI, kd_sL, kd_sR, kd_cp, kd_aI]; omega) | (unfold catV; exact rfl) | (unfold catS; exact Nat.le_of_ble_eq_true rfl) | assumption)) only [q_75_0, q_75_1_0, q_75_1_1, q_75_1_2, q_75_1_3, q_75_1_4, q_75_1_5, q_75_1_6, q_75_1_7, q_75_1_d, q_75_48, q_75_49, q_75_52, q_75_55, q_75_58, q_75_59, q_75_60, q_75_63, q_75_66, q_75_69, q_75_70, q_75_73, q_75_74, q_75_75, q_75_76, q_75_79, q_75_80, q_75_81, q_75_84, q_75_85, q_75_86, q_75_89, q_75_90, q_75_91, q_75_94, q_75_95, q_75_96, q_75_99, q_75_102, q_75_105, q_75_106, q_75_107, q_75_110, q_75_113, q_75_116, q_75_117, q_75_118, aft_i, aft_l, aft_v, Int.toNat_natCast, kd_sI, kd_sL, kd_sR, kd_cp, gI_sL, gI_sR, gL_sI, gL_sR, gR_sI, gR_sL, gL_cp, gR_cp, kd_aI, gL_aI, gR_aI, gI_aI, gI_aIn, sI_aI, gI_sIn, Int.reduceToNat, Int.reduceAdd, Int.reduceSub, Int.reduceMul, Int.reduceNeg, Int.zero_add, r0_3, r13_0, e]; rfl
  by_cases w7 : w = 7
  · subst w7; simp (disch := (first | omega | (simp only [kd_sI, kd_sL, kd_sR, kd_cp, kd_aI]; omega) | (unfold catV; exact rfl) | (unfold catS; exact Nat.le_of_ble_eq_true rfl) | assumption)) only [q_75_0, q_75_1_0, q_75_1_1, q_75_1_2, q_75_1_3, q_75_1_4, q_75_1_5, q_75_1_6, q_75_1_7, q_75_1_d, q_75_48, q_75_49, q_75_52, q_75_55, q_75_58, q_75_59, q_75_60, q_75_63, q_75_66, q_75_69, q_75_70, q_75_73, q_75_74, q_75_75, q_75_76, q_75_79, q_75_80, q_75_81, q_75_84, q_75_85, q_75_86, q_75_89, q_75_90, q_75_91, q_75_94, q_75_95, q_75_96, q_75_99, q_75_102, q_75_105, q_75_106, q_75_107, q_75_110, q_75_113, q_75_116, q_75_117, q_75_118, aft_i, aft_l, aft_v, Int.toNat_natCast, kd_sI, kd_sL, kd_sR, kd_cp, gI_sL, gI_sR, gL_sI, gL_sR, gR_sI, gR_sL, gL_cp, gR_cp, kd_aI, gL_aI, gR_aI, gI_aI, gI_aIn, sI_aI, gI_sIn, Int.reduceToNat, Int.reduceAdd, Int.reduceSub, Int.reduceMul, Int.reduceNeg, Int.zero_add, r0_3, r13_0, u3]; rfl
  · rw [if_neg w0, if_neg w1, if_neg w2, if_neg w3, if_neg w4, if_neg w5, if_neg w6, if_neg w7]
    simp (disch := (first | omega | (simp only [kd_sI, kd_sL, kd_sR, kd_cp, kd_aI]; omega) | (unfold catV; exact rfl) | (unfold catS; exact Nat.le_of_ble_eq_true rfl) | assumption)) only [q_75_0, q_75_1_0, q_75_1_1, q_75_1_2, q_75_1_3, q_75_1_4, q_75_1_5, q_75_1_6, q_75_1_7, q_75_1_d, q_75_48, q_75_49, q_75_52, q_75_55, q_75_58, q_75_59, q_75_60, q_75_63, q_75_66, q_75_69, q_75_70, q_75_73, q_75_74, q_75_75, q_75_76, q_75_79, q_75_80, q_75_81, q_75_84, q_75_85, q_75_86, q_75_89, q_75_90, q_75_91, q_75_94, q_75_95, q_75_96, q_75_99, q_75_102, q_75_105, q_75_106, q_75_107, q_75_110, q_75_113, q_75_116, q_75_117, q_75_118, aft_i, aft_l, aft_v, Int.toNat_natCast, kd_sI, kd_sL, kd_sR, kd_cp, gI_sL, gI_sR, gL_sI, gL_sR, gR_sI, gR_sL, gL_cp, gR_cp, kd_aI, gL_aI, gR_aI, gI_aI, gI_aIn, sI_aI, gI_sIn, Int.reduceToNat, Int.reduceAdd, Int.reduceSub, Int.reduceMul, Int.reduceNeg, Int.zero_add]
