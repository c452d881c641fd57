/-- how many stand: from the first that is OUT on all are -/
def plN (l : Nat → Int) (cells : Nat) (ax rw_ : Nat → Nat) : Nat → Nat
  | 0 => 0
  | i + 1 => if plN l cells ax rw_ i = i ∧ (suP l cells ax rw_ i).isSome = true then i + 1 else plN l cells ax rw_ i
def stN (T : Td) (N : Nt) : Nat := plN (lnd T N) (tK T) (nX N) (nR N) (nM N)
/-- the first room from a cell on -/
def rmF (T : Td) (N : Nt) (w k : Nat) : Int := vO (fstF (lnd T N) (tK T) w (40 - k) k)
def cT (h : mH) (T : Td) : Prop := gI h 3 4 = tN T ∧ gI h 3 5 = tK T ∧ gI h 3 6 = tA T ∧ gI h 3 7 = tM T ∧ (∀ c, c < tN T → gI h 5 c = tP T c ∧ gI h 6 c = tF T c) ∧ ∀ k, k < tK T → gI h 7 k = tG T k
/-- a night of the class -/
def ntA (h : mH) (a : Nat) (T : Td) (N : Nt) : Prop := gI h a 2 = nM N ∧ gI h a 3 = nL N ∧ gL h a 4 = nV N ∧ (∀ i, i < nM N → gI h (a + 1) i = nR N i) ∧ ∀ c, c < tN T → gI h (a + 2) c = nX N c
def cC (h : mH) (T : Td) (N : Nt) : Prop := (∀ c, c < 7 → gI h 128 c = fcS T N c) ∧ gI h 0 7 = stN T N ∧ gI h 119 1 = tK T ∧ ∀ w k, 1 ≤ w → w ≤ 6 → k ≤ tK T → gI h (121 + w) k = rmF T N w k
def Cq (h : mH) (T : Td) (N : Nt) : Prop := cT h T ∧ ntA h 14 T N ∧ cC h T N
theorem wCart_ok (d : Nat) (h : mH) (L : LAY h) (T : Td) (t : cT h T) (c : Int) : callA (d + 1) 92 [Sum.inr (Sum.inr (some 0)), Sum.inl c] h = some (some (Sum.inl (if 0 ≤ c ∧ c < tN T then 1 else 0)), h) := by
  have t1 := t.1
  obtain ⟨k0, j0⟩ := lay_k L (a := 0) (t := 7) (n := 17) rfl; obtain ⟨k3, j3⟩ := lay_k L (a := 3) (t := 6) (n := 8) rfl; have r0_1 : gR h 0 1 = some 3 := lay_r L rfl
  rw [en_92]
  by_cases z : 0 ≤ c
  · by_cases y : c < tN T
    · rw [if_pos ⟨z, y⟩]
      simp (disch := (first | omega | (simp only [kd_sI, kd_sL, kd_sR, kd_cp, kd_aI]; omega) | (unfold catV; exact rfl) | (unfold catS; exact Nat.le_of_ble_eq_true rfl) | assumption)) only [q_92_0, q_92_1_t, q_92_1_f, q_92_4, q_92_5, q_92_6, q_92_9, q_92_12_t, q_92_12_f, q_92_15, q_92_16, q_92_19, q_92_20, aft_i, aft_l, aft_v, Int.toNat_natCast, kd_sI, kd_sL, kd_sR, kd_cp, gI_sL, gI_sR, gL_sI, gL_sR, gR_sI, gR_sL, gL_cp, gR_cp, kd_aI, gL_aI, gR_aI, gI_aI, gI_aIn, sI_aI, gI_sIn, Int.reduceToNat, Int.reduceAdd, Int.reduceSub, Int.reduceMul, Int.reduceNeg, Int.zero_add, r0_1, t1]
    · rw [if_neg (fun q => y q.2)]
      simp (disch := (first | omega | (simp only [kd_sI, kd_sL, kd_sR, kd_cp, kd_aI]; omega) | (unfold catV; exact rfl) | (unfold catS; exact Nat.le_of_ble_eq_true rfl) | assumption)) only [q_92_0, q_92_1_t, q_92_1_f, q_92_4, q_92_5, q_92_6, q_92_9, q_92_12_t, q_92_12_f, q_92_15, q_92_16, q_92_19, q_92_20, aft_i, aft_l, aft_v, Int.toNat_natCast, kd_sI, kd_sL, kd_sR, kd_cp, gI_sL, gI_sR, gL_sI, gL_sR, gR_sI, gR_sL, gL_cp, gR_cp, kd_aI, gL_aI, gR_aI, gI_aI, gI_aIn, sI_aI, gI_sIn, Int.reduceToNat, Int.reduceAdd, Int.reduceSub, Int.reduceMul, Int.reduceNeg, Int.zero_add, r0_1, t1]
  · rw [if_neg (fun q => z q.1)]
    simp (disch := (first | omega | (simp only [kd_sI, kd_sL, kd_sR, kd_cp, kd_aI]; omega) | (unfold catV; exact rfl) | (unfold catS; exact Nat.le_of_ble_eq_true rfl) | assumption)) only [q_92_0, q_92_1_t, q_92_1_f, q_92_4, q_92_5, q_92_6, q_92_9, q_92_12_t, q_92_12_f, q_92_15, q_92_16, q_92_19, q_92_20, aft_i, aft_l, aft_v, Int.toNat_natCast, kd_sI, kd_sL, kd_sR, kd_cp, gI_sL, gI_sR, gL_sI, gL_sR, gR_sI, gR_sL, gL_cp, gR_cp, kd_aI, gL_aI, gR_aI, gI_aI, gI_aIn, sI_aI, gI_sIn, Int.reduceToNat, Int.reduceAdd, Int.reduceSub, Int.reduceMul, Int.reduceNeg, Int.zero_add]
theorem wCell_ok (d : Nat) (h : mH) (L : LAY h) (T : Td) (t : cT h T) (c : Int) : callA (d + 1) 94 [Sum.inr (Sum.inr (some 0)), Sum.inl c] h = some (some (Sum.inl (if 0 ≤ c ∧ c < tK T then 1 else 0)), h) := by
  have t1 := t.2.1
  obtain ⟨k0, j0⟩ := lay_k L (a := 0) (t := 7) (n := 17) rfl; obtain ⟨k3, j3⟩ := lay_k L (a := 3) (t := 6) (n := 8) rfl; have r0_1 : gR h 0 1 = some 3 := lay_r L rfl
  rw [en_94]
  by_cases z : 0 ≤ c
  · by_cases y : c < tK T
    · rw [if_pos ⟨z, y⟩]
      simp (disch := (first | omega | (simp only [kd_sI, kd_sL, kd_sR, kd_cp, kd_aI]; omega) | (unfold catV; exact rfl) | (unfold catS; exact Nat.le_of_ble_eq_true rfl) | assumption)) only [q_94_0, q_94_1_t, q_94_1_f, q_94_4, q_94_5, q_94_6, q_94_9, q_94_12_t, q_94_12_f, q_94_15, q_94_16, q_94_19, q_94_20, aft_i, aft_l, aft_v, Int.toNat_natCast, kd_sI, kd_sL, kd_sR, kd_cp, gI_sL, gI_sR, gL_sI, gL_sR, gR_sI, gR_sL, gL_cp, gR_cp, kd_aI, gL_aI, gR_aI, gI_aI, gI_aIn, sI_aI, gI_sIn, Int.reduceToNat, Int.reduceAdd, Int.reduceSub, Int.reduceMul, Int.reduceNeg, Int.zero_add, r0_1, t1]
    · rw [if_neg (fun q => y q.2)]
      simp (disch := (first | omega | (simp only [kd_sI, kd_sL, kd_sR, kd_cp, kd_aI]; omega) | (unfold catV; exact rfl) | (unfold catS; exact Nat.le_of_ble_eq_true rfl) | assumption)) only [q_94_0, q_94_1_t, q_94_1_f, q_94_4, q_94_5, q_94_6, q_94_9, q_94_12_t, q_94_12_f, q_94_15, q_94_16, q_94_19, q_94_20, aft_i, aft_l, aft_v, Int.toNat_natCast, kd_sI, kd_sL, kd_sR, kd_cp, gI_sL, gI_sR, gL_sI, gL_sR, gR_sI, gR_sL, gL_cp, gR_cp, kd_aI, gL_aI, gR_aI, gI_aI, gI_aIn, sI_aI, gI_sIn, Int.reduceToNat, Int.reduceAdd, Int.reduceSub, Int.reduceMul, Int.reduceNeg, Int.zero_add, r0_1, t1]
  · rw [if_neg (fun q => z q.1)]
    simp (disch := (first | omega | (simp only [kd_sI, kd_sL, kd_sR, kd_cp, kd_aI]; omega) | (unfold catV; exact rfl) | (unfold catS; exact Nat.le_of_ble_eq_true rfl) | assumption)) only [q_94_0, q_94_1_t, q_94_1_f, q_94_4, q_94_5, q_94_6, q_94_9, q_94_12_t, q_94_12_f, q_94_15, q_94_16, q_94_19, q_94_20, aft_i, aft_l, aft_v, Int.toNat_natCast, kd_sI, kd_sL, kd_sR, kd_cp, gI_sL, gI_sR, gL_sI, gL_sR, gR_sI, gR_sL, gL_cp, gR_cp, kd_aI, gL_aI, gR_aI, gI_aI, gI_aIn, sI_aI, gI_sIn, Int.reduceToNat, Int.reduceAdd, Int.reduceSub, Int.reduceMul, Int.reduceNeg, Int.zero_add]
theorem wFlag_ok (d : Nat) (h : mH) (c : Int) : callA (d + 1) 95 [Sum.inl c] h = some (some (Sum.inl (if c = 0 ∨ c = 1 then 1 else 0)), h) := by
  rw [en_95]
  by_cases z : c = 0
  · subst z
    simp (disch := (first | omega | (simp only [kd_sI, kd_sL, kd_sR, kd_cp, kd_aI]; omega) | (unfold catV; exact rfl) | (unfold catS; exact Nat.le_of_ble_eq_true rfl) | assumption)) only [q_95_0, q_95_1_t, q_95_1_f, q_95_4, q_95_5, q_95_6_t, q_95_6_f, q_95_9, q_95_10, q_95_13, q_95_14, aft_i, aft_l, aft_v, Int.toNat_natCast, kd_sI, kd_sL, kd_sR, kd_cp, gI_sL, gI_sR, gL_sI, gL_sR, gR_sI, gR_sL, gL_cp, gR_cp, kd_aI, gL_aI, gR_aI, gI_aI, gI_aIn, sI_aI, gI_sIn, Int.reduceToNat, Int.reduceAdd, Int.reduceSub, Int.reduceMul, Int.reduceNeg, Int.zero_add]
    rfl
  · by_cases y : c = 1
    · subst y
      simp (disch := (first | omega | (simp only [kd_sI, kd_sL, kd_sR, kd_cp, kd_aI]; omega) | (unfold catV; exact rfl) | (unfold catS; exact Nat.le_of_ble_eq_true rfl) | assumption)) only [q_95_0, q_95_1_t, q_95_1_f, q_95_4, q_95_5, q_95_6_t, q_95_6_f, q_95_9, q_95_10, q_95_13, q_95_14, aft_i, aft_l, aft_v, Int.toNat_natCast, kd_sI, kd_sL, kd_sR, kd_cp, gI_sL, gI_sR, gL_sI, gL_sR, gR_sI, gR_sL, gL_cp, gR_cp, kd_aI, gL_aI, gR_aI, gI_aI, gI_aIn, sI_aI, gI_sIn, Int.reduceToNat, Int.reduceAdd, Int.reduceSub, Int.reduceMul, Int.reduceNeg, Int.zero_add]
      rfl
    · rw [if_neg (by omega)]
      simp (disch := (first | omega | (simp only [kd_sI, kd_sL, kd_sR, kd_cp, kd_aI]; omega) | (unfold catV; exact rfl) | (unfold catS; exact Nat.le_of_ble_eq_true rfl) | assumption)) only [q_95_0, q_95_1_t, q_95_1_f, q_95_4, q_95_5, q_95_6_t, q_95_6_f, q_95_9, q_95_10, q_95_13, q_95_14, aft_i, aft_l, aft_v, Int.toNat_natCast, kd_sI, kd_sL, kd_sR, kd_cp, gI_sL, gI_sR, gL_sI, gL_sR, gR_sI, gR_sL, gL_cp, gR_cp, kd_aI, gL_aI, gR_aI, gI_aI, gI_aIn, sI_aI, gI_sIn, Int.reduceToNat, Int.reduceAdd, Int.reduceSub, Int.reduceMul, Int.reduceNeg, Int.zero_add]
theorem wHour_ok (d : Nat) (h : mH) (c : Int) : callA (d + 1) 96 [Sum.inl c] h = some (some (Sum.inl (if 1 ≤ c ∧ c ≤ 60 then 1 else 0)), h) := by
  rw [en_96]
  by_cases z : 1 ≤ c
  · by_cases y : c ≤ 60
    · rw [if_pos ⟨z, y⟩]
      simp (disch := (first | omega | (simp only [kd_sI, kd_sL, kd_sR, kd_cp, kd_aI]; omega) | (unfold catV; exact rfl) | (unfold catS; exact Nat.le_of_ble_eq_true rfl) | assumption)) only [q_96_0, q_96_1, q_96_2_t, q_96_2_f, q_96_5, q_96_6, q_96_8_t, q_96_8_f, q_96_11, q_96_12, q_96_15, q_96_16, aft_i, aft_l, aft_v, Int.toNat_natCast, kd_sI, kd_sL, kd_sR, kd_cp, gI_sL, gI_sR, gL_sI, gL_sR, gR_sI, gR_sL, gL_cp, gR_cp, kd_aI, gL_aI, gR_aI, gI_aI, gI_aIn, sI_aI, gI_sIn, Int.reduceToNat, Int.reduceAdd, Int.reduceSub, Int.reduceMul, Int.reduceNeg, Int.zero_add]
    · rw [if_neg (fun q => y q.2)]
      simp (disch := (first | omega | (simp only [kd_sI, kd_sL, kd_sR, kd_cp, kd_aI]; omega) | (unfold catV; exact rfl) | (unfold catS; exact Nat.le_of_ble_eq_true rfl) | assumption)) only [q_96_0, q_96_1, q_96_2_t, q_96_2_f, q_96_5, q_96_6, q_96_8_t, q_96_8_f, q_96_11, q_96_12, q_96_15, q_96_16, aft_i, aft_l, aft_v, Int.toNat_natCast, kd_sI, kd_sL, kd_sR, kd_cp, gI_sL, gI_sR, gL_sI, gL_sR, gR_sI, gR_sL, gL_cp, gR_cp, kd_aI, gL_aI, gR_aI, gI_aI, gI_aIn, sI_aI, gI_sIn, Int.reduceToNat, Int.reduceAdd, Int.reduceSub, Int.reduceMul, Int.reduceNeg, Int.zero_add]
  · rw [if_neg (fun q => z q.1)]
    simp (disch := (first | omega | (simp only [kd_sI, kd_sL, kd_sR, kd_cp, kd_aI]; omega) | (unfold catV; exact rfl) | (unfold catS; exact Nat.le_of_ble_eq_true rfl) | assumption)) only [q_96_0, q_96_1, q_96_2_t, q_96_2_f, q_96_5, q_96_6, q_96_8_t, q_96_8_f, q_96_11, q_96_12, q_96_15, q_96_16, aft_i, aft_l, aft_v, Int.toNat_natCast, kd_sI, kd_sL, kd_sR, kd_cp, gI_sL, gI_sR, gL_sI, gL_sR, gR_sI, gR_sL, gL_cp, gR_cp, kd_aI, gL_aI, gR_aI, gI_aI, gI_aIn, sI_aI, gI_sIn, Int.reduceToNat, Int.reduceAdd, Int.reduceSub, Int.reduceMul, Int.reduceNeg, Int.zero_add]
def twoB (T : Td) (a b : Int) : Bool := decide ((0 ≤ a ∧ a < tN T) ∧ (0 ≤ b ∧ b < tN T) ∧ a ≠ b)
theorem wTwo_ok (d : Nat) (h : mH) (L : LAY h) (T : Td) (t : cT h T) (a b : Int) : callA (d + 2) 93 [Sum.inr (Sum.inr (some 0)), Sum.inl a, Sum.inl b] h = some (some (Sum.inl (if twoB T a b = true then 1 else 0)), h) := by
  have e1 := wCart_ok d h L T t a
  have e2 := wCart_ok d h L T t b
  obtain ⟨k0, j0⟩ := lay_k L (a := 0) (t := 7) (n := 17) rfl
  unfold twoB
  rw [en_93]
  by_cases z : 0 ≤ a ∧ a < tN T
  · rw [if_pos z] at e1
    by_cases y : 0 ≤ b ∧ b < tN T
    · rw [if_pos y] at e2
      by_cases x : a = b
      · rw [decide_eq_false (fun q => q.2.2 x), if_neg Bool.false_ne_true]
        subst x
        simp (disch := (first | omega | (simp only [kd_sI, kd_sL, kd_sR, kd_cp, kd_aI]; omega) | (unfold catV; exact rfl) | (unfold catS; exact Nat.le_of_ble_eq_true rfl) | assumption)) only [q_93_0, q_93_1, q_93_2, q_93_5_t, q_93_5_f, q_93_8, q_93_9, q_93_10, q_93_13_t, q_93_13_f, q_93_16, q_93_17, q_93_18_t, q_93_18_f, q_93_21, q_93_22, q_93_25, q_93_26, aft_i, aft_l, aft_v, Int.toNat_natCast, kd_sI, kd_sL, kd_sR, kd_cp, gI_sL, gI_sR, gL_sI, gL_sR, gR_sI, gR_sL, gL_cp, gR_cp, kd_aI, gL_aI, gR_aI, gI_aI, gI_aIn, sI_aI, gI_sIn, Int.reduceToNat, Int.reduceAdd, Int.reduceSub, Int.reduceMul, Int.reduceNeg, Int.zero_add, e1, e2]
      · rw [decide_eq_true ⟨z, y, x⟩, if_pos rfl]
        simp (disch := (first | omega | (simp only [kd_sI, kd_sL, kd_sR, kd_cp, kd_aI]; omega) | (unfold catV; exact rfl) | (unfold catS; exact Nat.le_of_ble_eq_true rfl) | assumption)) only [q_93_0, q_93_1, q_93_2, q_93_5_t, q_93_5_f, q_93_8, q_93_9, q_93_10, q_93_13_t, q_93_13_f, q_93_16, q_93_17, q_93_18_t, q_93_18_f, q_93_21, q_93_22, q_93_25, q_93_26, aft_i, aft_l, aft_v, Int.toNat_natCast, kd_sI, kd_sL, kd_sR, kd_cp, gI_sL, gI_sR, gL_sI, gL_sR, gR_sI, gR_sL, gL_cp, gR_cp, kd_aI, gL_aI, gR_aI, gI_aI, gI_aIn, sI_aI, gI_sIn, Int.reduceToNat, Int.reduceAdd, Int.reduceSub, Int.reduceMul, Int.reduceNeg, Int.zero_add, e1, e2]
    · rw [if_neg y] at e2
      rw [decide_eq_false (fun q => y q.2.1), if_neg Bool.false_ne_true]
      simp (disch := (first | omega | (simp only [kd_sI, kd_sL, kd_sR, kd_cp, kd_aI]; omega) | (unfold catV; exact rfl) | (unfold catS; exact Nat.le_of_ble_eq_true rfl) | assumption)) only [q_93_0, q_93_1, q_93_2, q_93_5_t, q_93_5_f, q_93_8, q_93_9, q_93_10, q_93_13_t, q_93_13_f, q_93_16, q_93_17, q_93_18_t, q_93_18_f, q_93_21, q_93_22, q_93_25, q_93_26, aft_i, aft_l, aft_v, Int.toNat_natCast, kd_sI, kd_sL, kd_sR, kd_cp, gI_sL, gI_sR, gL_sI, gL_sR, gR_sI, gR_sL, gL_cp, gR_cp, kd_aI, gL_aI, gR_aI, gI_aI, gI_aIn, sI_aI, gI_sIn, Int.reduceToNat, Int.reduceAdd, Int.reduceSub, Int.reduceMul, Int.reduceNeg, Int.zero_add, e1, e2]
  · rw [if_neg z] at e1
    rw [decide_eq_false (fun q => z q.1), if_neg Bool.false_ne_true]
    simp (disch := (first | omega | (simp only [kd_sI, kd_sL, kd_sR, kd_cp, kd_aI]; omega) | (unfold catV; exact rfl) | (unfold catS; exact Nat.le_of_ble_eq_true rfl) | assumption)) only [q_93_0, q_93_1, q_93_2, q_93_5_t, q_93_5_f, q_93_8, q_93_9, q_93_10, q_93_13_t, q_93_13_f, q_93_16, q_93_17, q_93_18_t, q_93_18_f, q_93_21, q_93_22, q_93_25, q_93_26, aft_i, aft_l, aft_v, Int.toNat_natCast, kd_sI, kd_sL, kd_sR, kd_cp, gI_sL, gI_sR, gL_sI, gL_sR, gR_sI, gR_sL, gL_cp, gR_cp, kd_aI, gL_aI, gR_aI, gI_aI, gI_aIn, sI_aI, gI_sIn, Int.reduceToNat, Int.reduceAdd, Int.reduceSub, Int.reduceMul, Int.reduceNeg, Int.zero_add, e1]
theorem wPlace_loop (d : Nat) (h : mH) (L : LAY h) (c : Int) (n : Nat) (hn : gI h 14 2 = n) (hm : n ≤ 7) : ∀ (k i : Nat), i + k = n → resA (callA d) 15 (2, [Sum.inr (Sum.inr (some 14)), Sum.inl c, Sum.inl (i : Int)], [], h) = some (some (Sum.inl (plF (gI h 15) c k i)), h)
  | 0, i, hi => by
    have e : i = n := hi
    subst e
    obtain ⟨k14, j14⟩ := lay_k L (a := 14) (t := 2) (n := 5) rfl
    simp (disch := (first | omega | (simp only [kd_sI, kd_sL, kd_sR, kd_cp, kd_aI]; omega) | (unfold catV; exact rfl) | (unfold catS; exact Nat.le_of_ble_eq_true rfl) | assumption)) only [q_15_0, q_15_1, q_15_2, q_15_3, q_15_4, q_15_7_t, q_15_7_f, q_15_10, q_15_11, q_15_14, q_15_15, q_15_16, q_15_17_t, q_15_17_f, q_15_20, q_15_21, q_15_22, q_15_25, q_15_28, q_15_30, aft_i, aft_l, aft_v, Int.toNat_natCast, kd_sI, kd_sL, kd_sR, kd_cp, gI_sL, gI_sR, gL_sI, gL_sR, gR_sI, gR_sL, gL_cp, gR_cp, kd_aI, gL_aI, gR_aI, gI_aI, gI_aIn, sI_aI, gI_sIn, Int.reduceToNat, Int.reduceAdd, Int.reduceSub, Int.reduceMul, Int.reduceNeg, Int.zero_add, hn]
    rfl
  | k + 1, i, hi => by
    have ih := wPlace_loop d h L c n hn hm k (i + 1) (by omega)
    obtain ⟨k14, j14⟩ := lay_k L (a := 14) (t := 2) (n := 5) rfl; obtain ⟨k15, j15⟩ := lay_k L (a := 15) (t := 100) (n := 7) rfl; have r14_0 : gR h 14 0 = some 15 := lay_r L rfl
    rw [q_15_2]
    unfold plF
    by_cases q : gI h 15 i = c
    · rw [if_pos q]
      simp (disch := (first | omega | (simp only [kd_sI, kd_sL, kd_sR, kd_cp, kd_aI]; omega) | (unfold catV; exact rfl) | (unfold catS; exact Nat.le_of_ble_eq_true rfl) | assumption)) only [q_15_0, q_15_1, q_15_3, q_15_4, q_15_7_t, q_15_7_f, q_15_10, q_15_11, q_15_14, q_15_15, q_15_16, q_15_17_t, q_15_17_f, q_15_20, q_15_21, q_15_22, q_15_25, q_15_28, q_15_30, aft_i, aft_l, aft_v, Int.toNat_natCast, kd_sI, kd_sL, kd_sR, kd_cp, gI_sL, gI_sR, gL_sI, gL_sR, gR_sI, gR_sL, gL_cp, gR_cp, kd_aI, gL_aI, gR_aI, gI_aI, gI_aIn, sI_aI, gI_sIn, Int.reduceToNat, Int.reduceAdd, Int.reduceSub, Int.reduceMul, Int.reduceNeg, Int.zero_add, hn, r14_0, q]
    · rw [if_neg q]
      simp (disch := (first | omega | (simp only [kd_sI, kd_sL, kd_sR, kd_cp, kd_aI]; omega) | (unfold catV; exact rfl) | (unfold catS; exact Nat.le_of_ble_eq_true rfl) | assumption)) only [q_15_0, q_15_1, q_15_3, q_15_4, q_15_7_t, q_15_7_f, q_15_10, q_15_11, q_15_14, q_15_15, q_15_16, q_15_17_t, q_15_17_f, q_15_20, q_15_21, q_15_22, q_15_25, q_15_28, q_15_30, aft_i, aft_l, aft_v, Int.toNat_natCast, kd_sI, kd_sL, kd_sR, kd_cp, gI_sL, gI_sR, gL_sI, gL_sR, gR_sI, gR_sL, gL_cp, gR_cp, kd_aI, gL_aI, gR_aI, gI_aI, gI_aIn, sI_aI, gI_sIn, Int.reduceToNat, Int.reduceAdd, Int.reduceSub, Int.reduceMul, Int.reduceNeg, Int.zero_add, hn, r14_0]
      exact ih
theorem wPlace_ok (d : Nat) (h : mH) (L : LAY h) (T : Td) (N : Nt) (wT : wfT T) (wN : wfN T N) (u : ntA h 14 T N) (c : Int) : callA (d + 1) 15 [Sum.inr (Sum.inr (some 14)), Sum.inl c] h = some (some (Sum.inl (plF (fun i => (nR N i : Int)) c (nM N) 0)), h) := by
  have n7 : nM N ≤ 7 := Nat.le_trans wN.1 wT.1
  have e := wPlace_loop d h L c (nM N) u.1 n7 (nM N) 0 (Nat.zero_add _)
  rw [plF_congr (g := fun i => (nR N i : Int)) (fun i _ hi => u.2.2.2.1 i (by omega)), show ((0 : Nat) : Int) = 0 from rfl] at e
  rw [en_15]
  simp (disch := (first | omega | (simp only [kd_sI, kd_sL, kd_sR, kd_cp, kd_aI]; omega) | (unfold catV; exact rfl) | (unfold catS; exact Nat.le_of_ble_eq_true rfl) | assumption)) only [q_15_0, q_15_1, q_15_3, q_15_4, q_15_7_t, q_15_7_f, q_15_10, q_15_11, q_15_14, q_15_15, q_15_16, q_15_17_t, q_15_17_f, q_15_20, q_15_21, q_15_22, q_15_25, q_15_28, q_15_30, aft_i, aft_l, aft_v, Int.toNat_natCast, kd_sI, kd_sL, kd_sR, kd_cp, gI_sL, gI_sR, gL_sI, gL_sR, gR_sI, gR_sL, gL_cp, gR_cp, kd_aI, gL_aI, gR_aI, gI_aI, gI_aIn, sI_aI, gI_sIn, Int.reduceToNat, Int.reduceAdd, Int.reduceSub, Int.reduceMul, Int.reduceNeg, Int.zero_add]
  exact e
theorem wLost_ok (d : Nat) (h : mH) (L : LAY h) (T : Td) (N : Nt) (wT : wfT T) (wN : wfN T N) (u : ntA h 14 T N) (c : Int) : callA (d + 2) 16 [Sum.inr (Sum.inr (some 14)), Sum.inl c] h = some (some (Sum.inl (if plF (fun i => (nR N i : Int)) c (nM N) 0 = -9 then 1 else 0)), h) := by
  have e := wPlace_ok d h L T N wT wN u c
  obtain ⟨k14, j14⟩ := lay_k L (a := 14) (t := 2) (n := 5) rfl
  rw [en_16]
  by_cases z : plF (fun i => (nR N i : Int)) c (nM N) 0 = -9
  · rw [if_pos z]
    simp (disch := (first | omega | (simp only [kd_sI, kd_sL, kd_sR, kd_cp, kd_aI]; omega) | (unfold catV; exact rfl) | (unfold catS; exact Nat.le_of_ble_eq_true rfl) | assumption)) only [q_16_0, q_16_1, q_16_2, q_16_5, q_16_7_t, q_16_7_f, q_16_10, q_16_11, q_16_14, q_16_15, aft_i, aft_l, aft_v, Int.toNat_natCast, kd_sI, kd_sL, kd_sR, kd_cp, gI_sL, gI_sR, gL_sI, gL_sR, gR_sI, gR_sL, gL_cp, gR_cp, kd_aI, gL_aI, gR_aI, gI_aI, gI_aIn, sI_aI, gI_sIn, Int.reduceToNat, Int.reduceAdd, Int.reduceSub, Int.reduceMul, Int.reduceNeg, Int.zero_add, e, z]
  · rw [if_neg z]
    simp (disch := (first | omega | (simp only [kd_sI, kd_sL, kd_sR, kd_cp, kd_aI]; omega) | (unfold catV; exact rfl) | (unfold catS; exact Nat.le_of_ble_eq_true rfl) | assumption)) only [q_16_0, q_16_1, q_16_2, q_16_5, q_16_7_t, q_16_7_f, q_16_10, q_16_11, q_16_14, q_16_15, aft_i, aft_l, aft_v, Int.toNat_natCast, kd_sI, kd_sL, kd_sR, kd_cp, gI_sL, gI_sR, gL_sI, gL_sR, gR_sI, gR_sL, gL_cp, gR_cp, kd_aI, gL_aI, gR_aI, gI_aI, gI_aIn, sI_aI, gI_sIn, Int.reduceToNat, Int.reduceAdd, Int.reduceSub, Int.reduceMul, Int.reduceNeg, Int.zero_add, e]
theorem wLate_ok (d : Nat) (h : mH) (L : LAY h) (T : Td) (N : Nt) (wN : wfN T N) (u : ntA h 14 T N) (c : Nat) (hc : c < 32) : callA (d + 1) 17 [Sum.inr (Sum.inr (some 14)), Sum.inl (c : Int)] h = some (some (Sum.inl (if (nL N).testBit c = true then 1 else 0)), h) := by
  have e := u.2.1
  have l7 := wN.2.2.2.2.1
  have b := bitI (a := nL N) (c := c) hc (by omega)
  obtain ⟨k14, j14⟩ := lay_k L (a := 14) (t := 2) (n := 5) rfl
  rw [en_17]
  by_cases z : (nL N).testBit c = true
  · rw [if_pos z] at b ⊢
    simp (disch := (first | omega | (simp only [kd_sI, kd_sL, kd_sR, kd_cp, kd_aI]; omega) | (unfold catV; exact rfl) | (unfold catS; exact Nat.le_of_ble_eq_true rfl) | assumption)) only [q_17_0, q_17_1, q_17_4, q_17_5, q_17_6, q_17_7, q_17_8, q_17_9_t, q_17_9_f, q_17_12, q_17_13, q_17_16, q_17_17, aft_i, aft_l, aft_v, Int.toNat_natCast, kd_sI, kd_sL, kd_sR, kd_cp, gI_sL, gI_sR, gL_sI, gL_sR, gR_sI, gR_sL, gL_cp, gR_cp, kd_aI, gL_aI, gR_aI, gI_aI, gI_aIn, sI_aI, gI_sIn, Int.reduceToNat, Int.reduceAdd, Int.reduceSub, Int.reduceMul, Int.reduceNeg, Int.zero_add, e, b]
  · rw [if_neg z] at b ⊢
    simp (disch := (first | omega | (simp only [kd_sI, kd_sL, kd_sR, kd_cp, kd_aI]; omega) | (unfold catV; exact rfl) | (unfold catS; exact Nat.le_of_ble_eq_true rfl) | assumption)) only [q_17_0, q_17_1, q_17_4, q_17_5, q_17_6, q_17_7, q_17_8, q_17_9_t, q_17_9_f, q_17_12, q_17_13, q_17_16, q_17_17, aft_i, aft_l, aft_v, Int.toNat_natCast, kd_sI, kd_sL, kd_sR, kd_cp, gI_sL, gI_sR, gL_sI, gL_sR, gR_sI, gR_sL, gL_cp, gR_cp, kd_aI, gL_aI, gR_aI, gI_aI, gI_aIn, sI_aI, gI_sIn, Int.reduceToNat, Int.reduceAdd, Int.reduceSub, Int.reduceMul, Int.reduceNeg, Int.zero_add, e, b]
theorem cmp11 : cmpL 1 1 = 0 := by decide +kernel
theorem cmp01 : cmpL 0 1 = -1 := by decide +kernel
theorem wRiver_ok (d : Nat) (h : mH) (L : LAY h) (T : Td) (N : Nt) (wN : wfN T N) (u : ntA h 14 T N) (c : Nat) (hc : c < 64) : callA (d + 1) 19 [Sum.inr (Sum.inr (some 14)), Sum.inl (c : Int)] h = some (some (Sum.inl (if (nV N).testBit c = true then 1 else 0)), h) := by
  have e := u.2.2.1
  have l7 := wN.2.2.2.2.2.2
  have b := bitL (a := nV N) (c := c) hc (by omega)
  obtain ⟨k14, j14⟩ := lay_k L (a := 14) (t := 2) (n := 5) rfl
  rw [en_19]
  by_cases z : (nV N).testBit c = true
  · rw [if_pos z] at b ⊢
    simp (disch := (first | omega | (simp only [kd_sI, kd_sL, kd_sR, kd_cp, kd_aI]; omega) | (unfold catV; exact rfl) | (unfold catS; exact Nat.le_of_ble_eq_true rfl) | assumption)) only [q_19_0, q_19_1, q_19_4, q_19_5, q_19_6, q_19_7, q_19_8, q_19_9, q_19_10_t, q_19_10_f, q_19_13, q_19_14, q_19_17, q_19_18, aft_i, aft_l, aft_v, Int.toNat_natCast, kd_sI, kd_sL, kd_sR, kd_cp, gI_sL, gI_sR, gL_sI, gL_sR, gR_sI, gR_sL, gL_cp, gR_cp, kd_aI, gL_aI, gR_aI, gI_aI, gI_aIn, sI_aI, gI_sIn, Int.reduceToNat, Int.reduceAdd, Int.reduceSub, Int.reduceMul, Int.reduceNeg, Int.zero_add, e, b, cmp11]
  · rw [if_neg z] at b ⊢
    simp (disch := (first | omega | (simp only [kd_sI, kd_sL, kd_sR, kd_cp, kd_aI]; omega) | (unfold catV; exact rfl) | (unfold catS; exact Nat.le_of_ble_eq_true rfl) | assumption)) only [q_19_0, q_19_1, q_19_4, q_19_5, q_19_6, q_19_7, q_19_8, q_19_9, q_19_10_t, q_19_10_f, q_19_13, q_19_14, q_19_17, q_19_18, aft_i, aft_l, aft_v, Int.toNat_natCast, kd_sI, kd_sL, kd_sR, kd_cp, gI_sL, gI_sR, gL_sI, gL_sR, gR_sI, gR_sL, gL_cp, gR_cp, kd_aI, gL_aI, gR_aI, gI_aI, gI_aIn, sI_aI, gI_sIn, Int.reduceToNat, Int.reduceAdd, Int.reduceSub, Int.reduceMul, Int.reduceNeg, Int.zero_add, e, b, cmp01]
theorem wFeud_ok (d : Nat) (h : mH) (L : LAY h) (T : Td) (wT : wfT T) (t : cT h T) (a b : Nat) (ha : a < tN T) (hb : b < 32) : callA (d + 1) 57 [Sum.inr (Sum.inr (some 3)), Sum.inl (a : Int), Sum.inl (b : Int)] h = some (some (Sum.inl (if (tF T a).testBit b = true then 1 else 0)), h) := by
  have e := (t.2.2.2.2.1 a ha).2
  have l7 := wT.2.2.2.2.2.1 a ha
  have c7 := wT.1
  have bb := bitI (a := tF T a) (c := b) hb (by omega)
  obtain ⟨k3, j3⟩ := lay_k L (a := 3) (t := 6) (n := 8) rfl; obtain ⟨k6, j6⟩ := lay_k L (a := 6) (t := 100) (n := 7) rfl; have r3_2 : gR h 3 2 = some 6 := lay_r L rfl
  rw [en_57]
  by_cases z : (tF T a).testBit b = true
  · rw [if_pos z] at bb ⊢
    simp (disch := (first | omega | (simp only [kd_sI, kd_sL, kd_sR, kd_cp, kd_aI]; omega) | (unfold catV; exact rfl) | (unfold catS; exact Nat.le_of_ble_eq_true rfl) | assumption)) only [q_57_0, q_57_1, q_57_4, q_57_5, q_57_6, q_57_7, q_57_8, q_57_9, q_57_10, q_57_11_t, q_57_11_f, q_57_14, q_57_15, q_57_18, q_57_19, aft_i, aft_l, aft_v, Int.toNat_natCast, kd_sI, kd_sL, kd_sR, kd_cp, gI_sL, gI_sR, gL_sI, gL_sR, gR_sI, gR_sL, gL_cp, gR_cp, kd_aI, gL_aI, gR_aI, gI_aI, gI_aIn, sI_aI, gI_sIn, Int.reduceToNat, Int.reduceAdd, Int.reduceSub, Int.reduceMul, Int.reduceNeg, Int.zero_add, r3_2, e, bb]
  · rw [if_neg z] at bb ⊢
    simp (disch := (first | omega | (simp only [kd_sI, kd_sL, kd_sR, kd_cp, kd_aI]; omega) | (unfold catV; exact rfl) | (unfold catS; exact Nat.le_of_ble_eq_true rfl) | assumption)) only [q_57_0, q_57_1, q_57_4, q_57_5, q_57_6, q_57_7, q_57_8, q_57_9, q_57_10, q_57_11_t, q_57_11_f, q_57_14, q_57_15, q_57_18, q_57_19, aft_i, aft_l, aft_v, Int.toNat_natCast, kd_sI, kd_sL, kd_sR, kd_cp, gI_sL, gI_sR, gL_sI, gL_sR, gR_sI, gR_sL, gL_cp, gR_cp, kd_aI, gL_aI, gR_aI, gI_aI, gI_aIn, sI_aI, gI_sIn, Int.reduceToNat, Int.reduceAdd, Int.reduceSub, Int.reduceMul, Int.reduceNeg, Int.zero_add, r3_2, e, bb]
theorem wHours_ok (d : Nat) (h : mH) (L : LAY h) (T : Td) (wT : wfT T) (t : cT h T) (c : Nat) (hc : c < tN T) : callA (d + 1) 58 [Sum.inr (Sum.inr (some 3)), Sum.inl (c : Int)] h = some (some (Sum.inl (hrs T c : Int)), h) := by
  have e := (t.2.2.2.2.1 c hc).1
  have e2 := t.2.2.2.1
  have p := wT.2.2.2.2.1 c hc
  have m := wT.2.2.2.1
  have c7 := wT.1
  have i := hrs_i wT hc
  obtain ⟨k3, j3⟩ := lay_k L (a := 3) (t := 6) (n := 8) rfl; obtain ⟨k5, j5⟩ := lay_k L (a := 5) (t := 100) (n := 7) rfl; have r3_1 : gR h 3 1 = some 5 := lay_r L rfl
  rw [en_58]
  simp (disch := (first | omega | (simp only [kd_sI, kd_sL, kd_sR, kd_cp, kd_aI]; omega) | (unfold catV; exact rfl) | (unfold catS; exact Nat.le_of_ble_eq_true rfl) | assumption)) only [q_58_0, q_58_1, q_58_4, q_58_5, q_58_6, q_58_7, q_58_8, q_58_9_t, q_58_9_f, q_58_12, q_58_14, q_58_17, q_58_18, q_58_21, q_58_22, q_58_23, q_58_24, q_58_25, q_58_26, q_58_27, aft_i, aft_l, aft_v, Int.toNat_natCast, kd_sI, kd_sL, kd_sR, kd_cp, gI_sL, gI_sR, gL_sI, gL_sR, gR_sI, gR_sL, gL_cp, gR_cp, kd_aI, gL_aI, gR_aI, gI_aI, gI_aIn, sI_aI, gI_sIn, Int.reduceToNat, Int.reduceAdd, Int.reduceSub, Int.reduceMul, Int.reduceNeg, Int.zero_add, r3_1, e, e2, i]
theorem wCellOf_ok (d : Nat) (h : mH) (L : LAY h) (T : Td) (N : Nt) (wT : wfT T) (wN : wfN T N) (q : Cq h T N) (c : Nat) (hc : c < tN T) : callA (d + 2) 100 [Sum.inr (Sum.inr (some 0)), Sum.inl (c : Int)] h = some (some (Sum.inl (cellS T N c)), h) := by
  have c7 := wT.1
  have e := wLate_ok d h L T N wN q.2.1 c (by omega)
  have f := q.2.2.1 c (by omega)
  unfold cellS
  obtain ⟨k0, j0⟩ := lay_k L (a := 0) (t := 7) (n := 17) rfl; obtain ⟨k13, j13⟩ := lay_k L (a := 13) (t := 4) (n := 4) rfl; obtain ⟨k14, j14⟩ := lay_k L (a := 14) (t := 2) (n := 5) rfl; obtain ⟨k128, j128⟩ := lay_k L (a := 128) (t := 100) (n := 7) rfl; have r0_3 : gR h 0 3 = some 13 := lay_r L rfl; have r13_0 : gR h 13 0 = some 14 := lay_r L rfl; have r0_6 : gR h 0 6 = some 128 := lay_r L rfl
  rw [en_100]
  by_cases z : (nL N).testBit c = true
  · rw [if_pos z] at e ⊢
    simp (disch := (first | omega | (simp only [kd_sI, kd_sL, kd_sR, kd_cp, kd_aI]; omega) | (unfold catV; exact rfl) | (unfold catS; exact Nat.le_of_ble_eq_true rfl) | assumption)) only [q_100_0, q_100_1, q_100_4, q_100_7, q_100_8, q_100_11_t, q_100_11_f, q_100_14, q_100_16, q_100_19, q_100_20, q_100_23, q_100_24, q_100_25, aft_i, aft_l, aft_v, Int.toNat_natCast, kd_sI, kd_sL, kd_sR, kd_cp, gI_sL, gI_sR, gL_sI, gL_sR, gR_sI, gR_sL, gL_cp, gR_cp, kd_aI, gL_aI, gR_aI, gI_aI, gI_aIn, sI_aI, gI_sIn, Int.reduceToNat, Int.reduceAdd, Int.reduceSub, Int.reduceMul, Int.reduceNeg, Int.zero_add, r0_3, r13_0, e]
  · rw [if_neg z] at e ⊢
    simp (disch := (first | omega | (simp only [kd_sI, kd_sL, kd_sR, kd_cp, kd_aI]; omega) | (unfold catV; exact rfl) | (unfold catS; exact Nat.le_of_ble_eq_true rfl) | assumption)) only [q_100_0, q_100_1, q_100_4, q_100_7, q_100_8, q_100_11_t, q_100_11_f, q_100_14, q_100_16, q_100_19, q_100_20, q_100_23, q_100_24, q_100_25, aft_i, aft_l, aft_v, Int.toNat_natCast, kd_sI, kd_sL, kd_sR, kd_cp, gI_sL, gI_sR, gL_sI, gL_sR, gR_sI, gR_sL, gL_cp, gR_cp, kd_aI, gL_aI, gR_aI, gI_aI, gI_aIn, sI_aI, gI_sIn, Int.reduceToNat, Int.reduceAdd, Int.reduceSub, Int.reduceMul, Int.reduceNeg, Int.zero_add, r0_3, r13_0, r0_6, e, f]
theorem wGrd_ok (d : Nat) (h : mH) (L : LAY h) (T : Td) (N : Nt) (wT : wfT T) (wN : wfN T N) (t : cT h T) (u : ntA h 14 T N) (k : Nat) (hk : k < tK T) : callA (d + 2) 99 [Sum.inr (Sum.inr (some 0)), Sum.inl (k : Int)] h = some (some (Sum.inl (lnd T N k)), h) := by
  have k4 := wT.2.1
  have e := wRiver_ok d h L T N wN u k (by omega)
  have f := t.2.2.2.2.2 k hk
  unfold lnd
  obtain ⟨k0, j0⟩ := lay_k L (a := 0) (t := 7) (n := 17) rfl; obtain ⟨k3, j3⟩ := lay_k L (a := 3) (t := 6) (n := 8) rfl; obtain ⟨k7, j7⟩ := lay_k L (a := 7) (t := 100) (n := 40) rfl; obtain ⟨k13, j13⟩ := lay_k L (a := 13) (t := 4) (n := 4) rfl; obtain ⟨k14, j14⟩ := lay_k L (a := 14) (t := 2) (n := 5) rfl; have r0_1 : gR h 0 1 = some 3 := lay_r L rfl; have r0_3 : gR h 0 3 = some 13 := lay_r L rfl; have r13_0 : gR h 13 0 = some 14 := lay_r L rfl; have r3_3 : gR h 3 3 = some 7 := lay_r L rfl
  rw [en_99]
  by_cases z : (nV N).testBit k = true
  · rw [if_pos z] at e ⊢
    simp (disch := (first | omega | (simp only [kd_sI, kd_sL, kd_sR, kd_cp, kd_aI]; omega) | (unfold catV; exact rfl) | (unfold catS; exact Nat.le_of_ble_eq_true rfl) | assumption)) only [q_99_0, q_99_1, q_99_4, q_99_7, q_99_8, q_99_11_t, q_99_11_f, q_99_14, q_99_15, q_99_16, q_99_17, q_99_20, q_99_23, q_99_24, q_99_25, q_99_26_t, q_99_26_f, q_99_29, q_99_30, q_99_33, q_99_34, aft_i, aft_l, aft_v, Int.toNat_natCast, kd_sI, kd_sL, kd_sR, kd_cp, gI_sL, gI_sR, gL_sI, gL_sR, gR_sI, gR_sL, gL_cp, gR_cp, kd_aI, gL_aI, gR_aI, gI_aI, gI_aIn, sI_aI, gI_sIn, Int.reduceToNat, Int.reduceAdd, Int.reduceSub, Int.reduceMul, Int.reduceNeg, Int.zero_add, r0_3, r13_0, e]
  · rw [if_neg z] at e ⊢
    by_cases y : tG T k = 1
    · rw [if_pos y]
      rw [y] at f
      have f : gI h 7 k = 1 := f
      simp (disch := (first | omega | (simp only [kd_sI, kd_sL, kd_sR, kd_cp, kd_aI]; omega) | (unfold catV; exact rfl) | (unfold catS; exact Nat.le_of_ble_eq_true rfl) | assumption)) only [q_99_0, q_99_1, q_99_4, q_99_7, q_99_8, q_99_11_t, q_99_11_f, q_99_14, q_99_15, q_99_16, q_99_17, q_99_20, q_99_23, q_99_24, q_99_25, q_99_26_t, q_99_26_f, q_99_29, q_99_30, q_99_33, q_99_34, aft_i, aft_l, aft_v, Int.toNat_natCast, kd_sI, kd_sL, kd_sR, kd_cp, gI_sL, gI_sR, gL_sI, gL_sR, gR_sI, gR_sL, gL_cp, gR_cp, kd_aI, gL_aI, gR_aI, gI_aI, gI_aIn, sI_aI, gI_sIn, Int.reduceToNat, Int.reduceAdd, Int.reduceSub, Int.reduceMul, Int.reduceNeg, Int.zero_add, r0_3, r13_0, r0_1, r3_3, e, f]
    · rw [if_neg y]
      have f2 : gI h 7 k ≠ 1 := by omega
      simp (disch := (first | omega | (simp only [kd_sI, kd_sL, kd_sR, kd_cp, kd_aI]; omega) | (unfold catV; exact rfl) | (unfold catS; exact Nat.le_of_ble_eq_true rfl) | assumption)) only [q_99_0, q_99_1, q_99_4, q_99_7, q_99_8, q_99_11_t, q_99_11_f, q_99_14, q_99_15, q_99_16, q_99_17, q_99_20, q_99_23, q_99_24, q_99_25, q_99_26_t, q_99_26_f, q_99_29, q_99_30, q_99_33, q_99_34, aft_i, aft_l, aft_v, Int.toNat_natCast, kd_sI, kd_sL, kd_sR, kd_cp, gI_sL, gI_sR, gL_sI, gL_sR, gR_sI, gR_sL, gL_cp, gR_cp, kd_aI, gL_aI, gR_aI, gI_aI, gI_aIn, sI_aI, gI_sIn, Int.reduceToNat, Int.reduceAdd, Int.reduceSub, Int.reduceMul, Int.reduceNeg, Int.zero_add, r0_3, r13_0, r0_1, r3_3, e, f2]
theorem cGround_ok (d : Nat) (h : mH) (L : LAY h) (T : Td) (N : Nt) (wT : wfT T) (wN : wfN T N) (q : Cq h T N) (k : Int) : callA (d + 3) 65 [Sum.inr (Sum.inr (some 0)), Sum.inl k] h = some (some (Sum.inl (groundS T N k)), h) := by
  have e := wCell_ok (d + 1) h L T q.1 k
  unfold groundS
  obtain ⟨k0, j0⟩ := lay_k L (a := 0) (t := 7) (n := 17) rfl
  rw [en_65]
  by_cases z : 0 ≤ k ∧ k < tK T
  · rw [if_pos z] at e ⊢
    have e2 := wGrd_ok d h L T N wT wN q.1 q.2.1 k.toNat (by omega)
    rw [Int.toNat_of_nonneg z.1] at e2
    simp (disch := (first | omega | (simp only [kd_sI, kd_sL, kd_sR, kd_cp, kd_aI]; omega) | (unfold catV; exact rfl) | (unfold catS; exact Nat.le_of_ble_eq_true rfl) | assumption)) only [q_65_0, q_65_1, q_65_2, q_65_5_t, q_65_5_f, q_65_8, q_65_9, q_65_10, q_65_13, q_65_16, q_65_17, aft_i, aft_l, aft_v, Int.toNat_natCast, kd_sI, kd_sL, kd_sR, kd_cp, gI_sL, gI_sR, gL_sI, gL_sR, gR_sI, gR_sL, gL_cp, gR_cp, kd_aI, gL_aI, gR_aI, gI_aI, gI_aIn, sI_aI, gI_sIn, Int.reduceToNat, Int.reduceAdd, Int.reduceSub, Int.reduceMul, Int.reduceNeg, Int.zero_add, e, e2]
  · rw [if_neg z] at e ⊢
    simp (disch := (first | omega | (simp only [kd_sI, kd_sL, kd_sR, kd_cp, kd_aI]; omega) | (unfold catV; exact rfl) | (unfold catS; exact Nat.le_of_ble_eq_true rfl) | assumption)) only [q_65_0, q_65_1, q_65_2, q_65_5_t, q_65_5_f, q_65_8, q_65_9, q_65_10, q_65_13, q_65_16, q_65_17, aft_i, aft_l, aft_v, Int.toNat_natCast, kd_sI, kd_sL, kd_sR, kd_cp, gI_sL, gI_sR, gL_sI, gL_sR, gR_sI, gR_sL, gL_cp, gR_cp, kd_aI, gL_aI, gR_aI, gI_aI, gI_aIn, sI_aI, gI_sIn, Int.reduceToNat, Int.reduceAdd, Int.reduceSub, Int.reduceMul, Int.reduceNeg, Int.zero_add, e]
theorem cOrder_ok (d : Nat) (h : mH) (L : LAY h) (T : Td) (N : Nt) (wT : wfT T) (wN : wfN T N) (q : Cq h T N) (i : Int) : callA (d + 1) 76 [Sum.inr (Sum.inr (some 0)), Sum.inl i] h = some (some (Sum.inl (orderS N i)), h) := by
  have n7 : nM N ≤ 7 := Nat.le_trans wN.1 wT.1
  have m := q.2.1.1
  unfold orderS
  obtain ⟨k0, j0⟩ := lay_k L (a := 0) (t := 7) (n := 17) rfl; obtain ⟨k13, j13⟩ := lay_k L (a := 13) (t := 4) (n := 4) rfl; obtain ⟨k14, j14⟩ := lay_k L (a := 14) (t := 2) (n := 5) rfl; obtain ⟨k15, j15⟩ := lay_k L (a := 15) (t := 100) (n := 7) rfl; have r0_3 : gR h 0 3 = some 13 := lay_r L rfl; have r13_0 : gR h 13 0 = some 14 := lay_r L rfl; have r14_0 : gR h 14 0 = some 15 := lay_r L rfl
  rw [en_76]
  by_cases z : 0 ≤ i
  · by_cases y : i < nM N
    · rw [if_pos ⟨z, y⟩]
      have f := q.2.1.2.2.2.1 i.toNat (by omega)
      simp (disch := (first | omega | (simp only [kd_sI, kd_sL, kd_sR, kd_cp, kd_aI]; omega) | (unfold catV; exact rfl) | (unfold catS; exact Nat.le_of_ble_eq_true rfl) | assumption)) only [q_76_0, q_76_1_t, q_76_1_f, q_76_4, q_76_5, q_76_6, q_76_9, q_76_12, q_76_15_t, q_76_15_f, q_76_18, q_76_19, q_76_22, q_76_25, q_76_28, q_76_29, q_76_30, q_76_33, q_76_34, aft_i, aft_l, aft_v, Int.toNat_natCast, kd_sI, kd_sL, kd_sR, kd_cp, gI_sL, gI_sR, gL_sI, gL_sR, gR_sI, gR_sL, gL_cp, gR_cp, kd_aI, gL_aI, gR_aI, gI_aI, gI_aIn, sI_aI, gI_sIn, Int.reduceToNat, Int.reduceAdd, Int.reduceSub, Int.reduceMul, Int.reduceNeg, Int.zero_add, r0_3, r13_0, r14_0, m, f]
    · rw [if_neg (fun q => y q.2)]
      simp (disch := (first | omega | (simp only [kd_sI, kd_sL, kd_sR, kd_cp, kd_aI]; omega) | (unfold catV; exact rfl) | (unfold catS; exact Nat.le_of_ble_eq_true rfl) | assumption)) only [q_76_0, q_76_1_t, q_76_1_f, q_76_4, q_76_5, q_76_6, q_76_9, q_76_12, q_76_15_t, q_76_15_f, q_76_18, q_76_19, q_76_22, q_76_25, q_76_28, q_76_29, q_76_30, q_76_33, q_76_34, aft_i, aft_l, aft_v, Int.toNat_natCast, kd_sI, kd_sL, kd_sR, kd_cp, gI_sL, gI_sR, gL_sI, gL_sR, gR_sI, gR_sL, gL_cp, gR_cp, kd_aI, gL_aI, gR_aI, gI_aI, gI_aIn, sI_aI, gI_sIn, Int.reduceToNat, Int.reduceAdd, Int.reduceSub, Int.reduceMul, Int.reduceNeg, Int.zero_add, r0_3, r13_0, m]
  · rw [if_neg (fun q => z q.1)]
    simp (disch := (first | omega | (simp only [kd_sI, kd_sL, kd_sR, kd_cp, kd_aI]; omega) | (unfold catV; exact rfl) | (unfold catS; exact Nat.le_of_ble_eq_true rfl) | assumption)) only [q_76_0, q_76_1_t, q_76_1_f, q_76_4, q_76_5, q_76_6, q_76_9, q_76_12, q_76_15_t, q_76_15_f, q_76_18, q_76_19, q_76_22, q_76_25, q_76_28, q_76_29, q_76_30, q_76_33, q_76_34, aft_i, aft_l, aft_v, Int.toNat_natCast, kd_sI, kd_sL, kd_sR, kd_cp, gI_sL, gI_sR, gL_sI, gL_sR, gR_sI, gR_sL, gL_cp, gR_cp, kd_aI, gL_aI, gR_aI, gI_aI, gI_aIn, sI_aI, gI_sIn, Int.reduceToNat, Int.reduceAdd, Int.reduceSub, Int.reduceMul, Int.reduceNeg, Int.zero_add]
theorem cCart_ok (d : Nat) (h : mH) (L : LAY h) (T : Td) (N : Nt) (wT : wfT T) (wN : wfN T N) (q : Cq h T N) (c w : Int) : callA (d + 3) 64 [Sum.inr (Sum.inr (some 0)), Sum.inl c, Sum.inl w] h = some (some (Sum.inl (cartS T N c w)), h) := by
  have c7 := wT.1
  have e := wCart_ok (d + 1) h L T q.1 c
  unfold cartS
  obtain ⟨k0, j0⟩ := lay_k L (a := 0) (t := 7) (n := 17) rfl; obtain ⟨k3, j3⟩ := lay_k L (a := 3) (t := 6) (n := 8) rfl; obtain ⟨k5, j5⟩ := lay_k L (a := 5) (t := 100) (n := 7) rfl; obtain ⟨k6, j6⟩ := lay_k L (a := 6) (t := 100) (n := 7) rfl; obtain ⟨k13, j13⟩ := lay_k L (a := 13) (t := 4) (n := 4) rfl; obtain ⟨k14, j14⟩ := lay_k L (a := 14) (t := 2) (n := 5) rfl; obtain ⟨k16, j16⟩ := lay_k L (a := 16) (t := 100) (n := 7) rfl; have r0_1 : gR h 0 1 = some 3 := lay_r L rfl; have r0_3 : gR h 0 3 = some 13 := lay_r L rfl; have r13_0 : gR h 13 0 = some 14 := lay_r L rfl; have r14_1 : gR h 14 1 = some 16 := lay_r L rfl; have r3_1 : gR h 3 1 = some 5 := lay_r L rfl; have r3_2 : gR h 3 2 = some 6 := lay_r L rfl
  rw [en_64]
  by_cases z : 0 ≤ c ∧ c < tN T
  · rw [if_pos z] at e ⊢
    obtain ⟨j, rfl⟩ : ∃ j : Nat, c = j := ⟨c.toNat, by omega⟩
    rw [Int.toNat_natCast]
    have hj : j < tN T := by omega
    have u4 := q.2.1.2.2.2.2 j hj
    have t5 := q.1.2.2.2.2.1 j hj
    by_cases w0 : w = 0
    · subst w0
      simp (disch := (first | omega | (simp only [kd_sI, kd_sL, kd_sR, kd_cp, kd_aI]; omega) | (unfold catV; exact rfl) | (unfold catS; exact Nat.le_of_ble_eq_true rfl) | assumption)) only [q_64_0, q_64_1, q_64_2, q_64_5_t, q_64_5_f, q_64_8, q_64_9, q_64_10, q_64_11_0, q_64_11_1, q_64_11_2, q_64_11_3, q_64_11_4, q_64_11_5, q_64_11_6, q_64_11_d, q_64_52, q_64_53, q_64_56, q_64_59, q_64_62, q_64_63, q_64_64, q_64_65, q_64_66, q_64_69, q_64_72, q_64_73, q_64_74, q_64_75, q_64_76, q_64_79, q_64_82, q_64_83, q_64_86_t, q_64_86_f, q_64_89, q_64_90, q_64_93, q_64_94, q_64_95, q_64_96, q_64_99, q_64_102, q_64_103, q_64_106_t, q_64_106_f, q_64_109, q_64_110, q_64_113, q_64_114, q_64_115, q_64_116, q_64_119, q_64_122, q_64_123, q_64_124, q_64_125, q_64_126, q_64_127, q_64_130, q_64_131, q_64_132, q_64_135, q_64_138, q_64_139, q_64_142, q_64_143, q_64_144, aft_i, aft_l, aft_v, Int.toNat_natCast, kd_sI, kd_sL, kd_sR, kd_cp, gI_sL, gI_sR, gL_sI, gL_sR, gR_sI, gR_sL, gL_cp, gR_cp, kd_aI, gL_aI, gR_aI, gI_aI, gI_aIn, sI_aI, gI_sIn, Int.reduceToNat, Int.reduceAdd, Int.reduceSub, Int.reduceMul, Int.reduceNeg, Int.zero_add, e, r0_3, r13_0, r14_1, u4]
      rfl
    by_cases w1 : w = 1
    · subst w1
      simp (disch := (first | omega | (simp only [kd_sI, kd_sL, kd_sR, kd_cp, kd_aI]; omega) | (unfold catV; exact rfl) | (unfold catS; exact Nat.le_of_ble_eq_true rfl) | assumption)) only [q_64_0, q_64_1, q_64_2, q_64_5_t, q_64_5_f, q_64_8, q_64_9, q_64_10, q_64_11_0, q_64_11_1, q_64_11_2, q_64_11_3, q_64_11_4, q_64_11_5, q_64_11_6, q_64_11_d, q_64_52, q_64_53, q_64_56, q_64_59, q_64_62, q_64_63, q_64_64, q_64_65, q_64_66, q_64_69, q_64_72, q_64_73, q_64_74, q_64_75, q_64_76, q_64_79, q_64_82, q_64_83, q_64_86_t, q_64_86_f, q_64_89, q_64_90, q_64_93, q_64_94, q_64_95, q_64_96, q_64_99, q_64_102, q_64_103, q_64_106_t, q_64_106_f, q_64_109, q_64_110, q_64_113, q_64_114, q_64_115, q_64_116, q_64_119, q_64_122, q_64_123, q_64_124, q_64_125, q_64_126, q_64_127, q_64_130, q_64_131, q_64_132, q_64_135, q_64_138, q_64_139, q_64_142, q_64_143, q_64_144, aft_i, aft_l, aft_v, Int.toNat_natCast, kd_sI, kd_sL, kd_sR, kd_cp, gI_sL, gI_sR, gL_sI, gL_sR, gR_sI, gR_sL, gL_cp, gR_cp, kd_aI, gL_aI, gR_aI, gI_aI, gI_aIn, sI_aI, gI_sIn, Int.reduceToNat, Int.reduceAdd, Int.reduceSub, Int.reduceMul, Int.reduceNeg, Int.zero_add, e, r0_1, r3_1, t5.1]
      rfl
    by_cases w2 : w = 2
    · subst w2
      rw [if_neg (by decide), if_neg (by decide), if_pos rfl]
      have el := wLate_ok (d + 1) h L T N wN q.2.1 j (by omega)
      by_cases y : (nL N).testBit j = true
      · rw [if_pos y] at el ⊢
        simp (disch := (first | omega | (simp only [kd_sI, kd_sL, kd_sR, kd_cp, kd_aI]; omega) | (unfold catV; exact rfl) | (unfold catS; exact Nat.le_of_ble_eq_true rfl) | assumption)) only [q_64_0, q_64_1, q_64_2, q_64_5_t, q_64_5_f, q_64_8, q_64_9, q_64_10, q_64_11_0, q_64_11_1, q_64_11_2, q_64_11_3, q_64_11_4, q_64_11_5, q_64_11_6, q_64_11_d, q_64_52, q_64_53, q_64_56, q_64_59, q_64_62, q_64_63, q_64_64, q_64_65, q_64_66, q_64_69, q_64_72, q_64_73, q_64_74, q_64_75, q_64_76, q_64_79, q_64_82, q_64_83, q_64_86_t, q_64_86_f, q_64_89, q_64_90, q_64_93, q_64_94, q_64_95, q_64_96, q_64_99, q_64_102, q_64_103, q_64_106_t, q_64_106_f, q_64_109, q_64_110, q_64_113, q_64_114, q_64_115, q_64_116, q_64_119, q_64_122, q_64_123, q_64_124, q_64_125, q_64_126, q_64_127, q_64_130, q_64_131, q_64_132, q_64_135, q_64_138, q_64_139, q_64_142, q_64_143, q_64_144, aft_i, aft_l, aft_v, Int.toNat_natCast, kd_sI, kd_sL, kd_sR, kd_cp, gI_sL, gI_sR, gL_sI, gL_sR, gR_sI, gR_sL, gL_cp, gR_cp, kd_aI, gL_aI, gR_aI, gI_aI, gI_aIn, sI_aI, gI_sIn, Int.reduceToNat, Int.reduceAdd, Int.reduceSub, Int.reduceMul, Int.reduceNeg, Int.zero_add, e, r0_3, r13_0, el]
      · rw [if_neg y] at el ⊢
        simp (disch := (first | omega | (simp only [kd_sI, kd_sL, kd_sR, kd_cp, kd_aI]; omega) | (unfold catV; exact rfl) | (unfold catS; exact Nat.le_of_ble_eq_true rfl) | assumption)) only [q_64_0, q_64_1, q_64_2, q_64_5_t, q_64_5_f, q_64_8, q_64_9, q_64_10, q_64_11_0, q_64_11_1, q_64_11_2, q_64_11_3, q_64_11_4, q_64_11_5, q_64_11_6, q_64_11_d, q_64_52, q_64_53, q_64_56, q_64_59, q_64_62, q_64_63, q_64_64, q_64_65, q_64_66, q_64_69, q_64_72, q_64_73, q_64_74, q_64_75, q_64_76, q_64_79, q_64_82, q_64_83, q_64_86_t, q_64_86_f, q_64_89, q_64_90, q_64_93, q_64_94, q_64_95, q_64_96, q_64_99, q_64_102, q_64_103, q_64_106_t, q_64_106_f, q_64_109, q_64_110, q_64_113, q_64_114, q_64_115, q_64_116, q_64_119, q_64_122, q_64_123, q_64_124, q_64_125, q_64_126, q_64_127, q_64_130, q_64_131, q_64_132, q_64_135, q_64_138, q_64_139, q_64_142, q_64_143, q_64_144, aft_i, aft_l, aft_v, Int.toNat_natCast, kd_sI, kd_sL, kd_sR, kd_cp, gI_sL, gI_sR, gL_sI, gL_sR, gR_sI, gR_sL, gL_cp, gR_cp, kd_aI, gL_aI, gR_aI, gI_aI, gI_aIn, sI_aI, gI_sIn, Int.reduceToNat, Int.reduceAdd, Int.reduceSub, Int.reduceMul, Int.reduceNeg, Int.zero_add, e, r0_3, r13_0, el]
    by_cases w3 : w = 3
    · subst w3
      rw [if_neg (by decide), if_neg (by decide), if_neg (by decide), if_pos rfl]
      have el := wLost_ok d h L T N wT wN q.2.1 j
      by_cases y : plF (fun i => (nR N i : Int)) j (nM N) 0 = -9
      · rw [if_pos y] at el ⊢
        simp (disch := (first | omega | (simp only [kd_sI, kd_sL, kd_sR, kd_cp, kd_aI]; omega) | (unfold catV; exact rfl) | (unfold catS; exact Nat.le_of_ble_eq_true rfl) | assumption)) only [q_64_0, q_64_1, q_64_2, q_64_5_t, q_64_5_f, q_64_8, q_64_9, q_64_10, q_64_11_0, q_64_11_1, q_64_11_2, q_64_11_3, q_64_11_4, q_64_11_5, q_64_11_6, q_64_11_d, q_64_52, q_64_53, q_64_56, q_64_59, q_64_62, q_64_63, q_64_64, q_64_65, q_64_66, q_64_69, q_64_72, q_64_73, q_64_74, q_64_75, q_64_76, q_64_79, q_64_82, q_64_83, q_64_86_t, q_64_86_f, q_64_89, q_64_90, q_64_93, q_64_94, q_64_95, q_64_96, q_64_99, q_64_102, q_64_103, q_64_106_t, q_64_106_f, q_64_109, q_64_110, q_64_113, q_64_114, q_64_115, q_64_116, q_64_119, q_64_122, q_64_123, q_64_124, q_64_125, q_64_126, q_64_127, q_64_130, q_64_131, q_64_132, q_64_135, q_64_138, q_64_139, q_64_142, q_64_143, q_64_144, aft_i, aft_l, aft_v, Int.toNat_natCast, kd_sI, kd_sL, kd_sR, kd_cp, gI_sL, gI_sR, gL_sI, gL_sR, gR_sI, gR_sL, gL_cp, gR_cp, kd_aI, gL_aI, gR_aI, gI_aI, gI_aIn, sI_aI, gI_sIn, Int.reduceToNat, Int.reduceAdd, Int.reduceSub, Int.reduceMul, Int.reduceNeg, Int.zero_add, e, r0_3, r13_0, el]
      · rw [if_neg y] at el ⊢
        simp (disch := (first | omega | (simp only [kd_sI, kd_sL, kd_sR, kd_cp, kd_aI]; omega) | (unfold catV; exact rfl) | (unfold catS; exact Nat.le_of_ble_eq_true rfl) | assumption)) only [q_64_0, q_64_1, q_64_2, q_64_5_t, q_64_5_f, q_64_8, q_64_9, q_64_10, q_64_11_0, q_64_11_1, q_64_11_2, q_64_11_3, q_64_11_4, q_64_11_5, q_64_11_6, q_64_11_d, q_64_52, q_64_53, q_64_56, q_64_59, q_64_62, q_64_63, q_64_64, q_64_65, q_64_66, q_64_69, q_64_72, q_64_73, q_64_74, q_64_75, q_64_76, q_64_79, q_64_82, q_64_83, q_64_86_t, q_64_86_f, q_64_89, q_64_90, q_64_93, q_64_94, q_64_95, q_64_96, q_64_99, q_64_102, q_64_103, q_64_106_t, q_64_106_f, q_64_109, q_64_110, q_64_113, q_64_114, q_64_115, q_64_116, q_64_119, q_64_122, q_64_123, q_64_124, q_64_125, q_64_126, q_64_127, q_64_130, q_64_131, q_64_132, q_64_135, q_64_138, q_64_139, q_64_142, q_64_143, q_64_144, aft_i, aft_l, aft_v, Int.toNat_natCast, kd_sI, kd_sL, kd_sR, kd_cp, gI_sL, gI_sR, gL_sI, gL_sR, gR_sI, gR_sL, gL_cp, gR_cp, kd_aI, gL_aI, gR_aI, gI_aI, gI_aIn, sI_aI, gI_sIn, Int.reduceToNat, Int.reduceAdd, Int.reduceSub, Int.reduceMul, Int.reduceNeg, Int.zero_add, e, r0_3, r13_0, el]
    by_cases w4 : w = 4
    · subst w4
      simp (disch := (first | omega | (simp only [kd_sI, kd_sL, kd_sR, kd_cp, kd_aI]; omega) | (unfold catV; exact rfl) | (unfold catS; exact Nat.le_of_ble_eq_true rfl) | assumption)) only [q_64_0, q_64_1, q_64_2, q_64_5_t, q_64_5_f, q_64_8, q_64_9, q_64_10, q_64_11_0, q_64_11_1, q_64_11_2, q_64_11_3, q_64_11_4, q_64_11_5, q_64_11_6, q_64_11_d, q_64_52, q_64_53, q_64_56, q_64_59, q_64_62, q_64_63, q_64_64, q_64_65, q_64_66, q_64_69, q_64_72, q_64_73, q_64_74, q_64_75, q_64_76, q_64_79, q_64_82, q_64_83, q_64_86_t, q_64_86_f, q_64_89, q_64_90, q_64_93, q_64_94, q_64_95, q_64_96, q_64_99, q_64_102, q_64_103, q_64_106_t, q_64_106_f, q_64_109, q_64_110, q_64_113, q_64_114, q_64_115, q_64_116, q_64_119, q_64_122, q_64_123, q_64_124, q_64_125, q_64_126, q_64_127, q_64_130, q_64_131, q_64_132, q_64_135, q_64_138, q_64_139, q_64_142, q_64_143, q_64_144, aft_i, aft_l, aft_v, Int.toNat_natCast, kd_sI, kd_sL, kd_sR, kd_cp, gI_sL, gI_sR, gL_sI, gL_sR, gR_sI, gR_sL, gL_cp, gR_cp, kd_aI, gL_aI, gR_aI, gI_aI, gI_aIn, sI_aI, gI_sIn, Int.reduceToNat, Int.reduceAdd, Int.reduceSub, Int.reduceMul, Int.reduceNeg, Int.zero_add, e, r0_1, r3_2, t5.2]
      rfl
    by_cases w5 : w = 5
    · subst w5
      have el := wCellOf_ok d h L T N wT wN q j hj
      simp (disch := (first | omega | (simp only [kd_sI, kd_sL, kd_sR, kd_cp, kd_aI]; omega) | (unfold catV; exact rfl) | (unfold catS; exact Nat.le_of_ble_eq_true rfl) | assumption)) only [q_64_0, q_64_1, q_64_2, q_64_5_t, q_64_5_f, q_64_8, q_64_9, q_64_10, q_64_11_0, q_64_11_1, q_64_11_2, q_64_11_3, q_64_11_4, q_64_11_5, q_64_11_6, q_64_11_d, q_64_52, q_64_53, q_64_56, q_64_59, q_64_62, q_64_63, q_64_64, q_64_65, q_64_66, q_64_69, q_64_72, q_64_73, q_64_74, q_64_75, q_64_76, q_64_79, q_64_82, q_64_83, q_64_86_t, q_64_86_f, q_64_89, q_64_90, q_64_93, q_64_94, q_64_95, q_64_96, q_64_99, q_64_102, q_64_103, q_64_106_t, q_64_106_f, q_64_109, q_64_110, q_64_113, q_64_114, q_64_115, q_64_116, q_64_119, q_64_122, q_64_123, q_64_124, q_64_125, q_64_126, q_64_127, q_64_130, q_64_131, q_64_132, q_64_135, q_64_138, q_64_139, q_64_142, q_64_143, q_64_144, aft_i, aft_l, aft_v, Int.toNat_natCast, kd_sI, kd_sL, kd_sR, kd_cp, gI_sL, gI_sR, gL_sI, gL_sR, gR_sI, gR_sL, gL_cp, gR_cp, kd_aI, gL_aI, gR_aI, gI_aI, gI_aIn, sI_aI, gI_sIn, Int.reduceToNat, Int.reduceAdd, Int.reduceSub, Int.reduceMul, Int.reduceNeg, Int.zero_add, e, el]
      rfl
    by_cases w6 : w = 6
    · subst w6
      have el := wPlace_ok (d + 1) h L T N wT wN q.2.1 j
      simp (disch := (first | omega | (simp only [kd_sI, kd_sL, kd_sR, kd_cp, kd_aI]; omega) | (unfold catV; exact rfl) | (unfold catS; exact Nat.le_of_ble_eq_true rfl) | assumption)) only [q_64_0, q_64_1, q_64_2, q_64_5_t, q_64_5_f, q_64_8, q_64_9, q_64_10, q_64_11_0, q_64_11_1, q_64_11_2, q_64_11_3, q_64_11_4, q_64_11_5, q_64_11_6, q_64_11_d, q_64_52, q_64_53, q_64_56, q_64_59, q_64_62, q_64_63, q_64_64, q_64_65, q_64_66, q_64_69, q_64_72, q_64_73, q_64_74, q_64_75, q_64_76, q_64_79, q_64_82, q_64_83, q_64_86_t, q_64_86_f, q_64_89, q_64_90, q_64_93, q_64_94, q_64_95, q_64_96, q_64_99, q_64_102, q_64_103, q_64_106_t, q_64_106_f, q_64_109, q_64_110, q_64_113, q_64_114, q_64_115, q_64_116, q_64_119, q_64_122, q_64_123, q_64_124, q_64_125, q_64_126, q_64_127, q_64_130, q_64_131, q_64_132, q_64_135, q_64_138, q_64_139, q_64_142, q_64_143, q_64_144, aft_i, aft_l, aft_v, Int.toNat_natCast, kd_sI, kd_sL, kd_sR, kd_cp, gI_sL, gI_sR, gL_sI, gL_sR, gR_sI, gR_sL, gL_cp, gR_cp, kd_aI, gL_aI, gR_aI, gI_aI, gI_aIn, sI_aI, gI_sIn, Int.reduceToNat, Int.reduceAdd, Int.reduceSub, Int.reduceMul, Int.reduceNeg, Int.zero_add, e, r0_3, r13_0, el]
      rfl
    · rw [if_neg w0, if_neg w1, if_neg w2, if_neg w3, if_neg w4, if_neg w5, if_neg w6]
      simp (disch := (first | omega | (simp only [kd_sI, kd_sL, kd_sR, kd_cp, kd_aI]; omega) | (unfold catV; exact rfl) | (unfold catS; exact Nat.le_of_ble_eq_true rfl) | assumption)) only [q_64_0, q_64_1, q_64_2, q_64_5_t, q_64_5_f, q_64_8, q_64_9, q_64_10, q_64_11_0, q_64_11_1, q_64_11_2, q_64_11_3, q_64_11_4, q_64_11_5, q_64_11_6, q_64_11_d, q_64_52, q_64_53, q_64_56, q_64_59, q_64_62, q_64_63, q_64_64, q_64_65, q_64_66, q_64_69, q_64_72, q_64_73, q_64_74, q_64_75, q_64_76, q_64_79, q_64_82, q_64_83, q_64_86_t, q_64_86_f, q_64_89, q_64_90, q_64_93, q_64_94, q_64_95, q_64_96, q_64_99, q_64_102, q_64_103, q_64_106_t, q_64_106_f, q_64_109, q_64_110, q_64_113, q_64_114, q_64_115, q_64_116, q_64_119, q_64_122, q_64_123, q_64_124, q_64_125, q_64_126, q_64_127, q_64_130, q_64_131, q_64_132, q_64_135, q_64_138, q_64_139, q_64_142, q_64_143, q_64_144, aft_i, aft_l, aft_v, Int.toNat_natCast, kd_sI, kd_sL, kd_sR, kd_cp, gI_sL, gI_sR, gL_sI, gL_sR, gR_sI, gR_sL, gL_cp, gR_cp, kd_aI, gL_aI, gR_aI, gI_aI, gI_aIn, sI_aI, gI_sIn, Int.reduceToNat, Int.reduceAdd, Int.reduceSub, Int.reduceMul, Int.reduceNeg, Int.zero_add, e]
  · rw [if_neg z] at e ⊢
    simp (disch := (first | omega | (simp only [kd_sI, kd_sL, kd_sR, kd_cp, kd_aI]; omega) | (unfold catV; exact rfl) | (unfold catS; exact Nat.le_of_ble_eq_true rfl) | assumption)) only [q_64_0, q_64_1, q_64_2, q_64_5_t, q_64_5_f, q_64_8, q_64_9, q_64_10, q_64_11_0, q_64_11_1, q_64_11_2, q_64_11_3, q_64_11_4, q_64_11_5, q_64_11_6, q_64_11_d, q_64_52, q_64_53, q_64_56, q_64_59, q_64_62, q_64_63, q_64_64, q_64_65, q_64_66, q_64_69, q_64_72, q_64_73, q_64_74, q_64_75, q_64_76, q_64_79, q_64_82, q_64_83, q_64_86_t, q_64_86_f, q_64_89, q_64_90, q_64_93, q_64_94, q_64_95, q_64_96, q_64_99, q_64_102, q_64_103, q_64_106_t, q_64_106_f, q_64_109, q_64_110, q_64_113, q_64_114, q_64_115, q_64_116, q_64_119, q_64_122, q_64_123, q_64_124, q_64_125, q_64_126, q_64_127, q_64_130, q_64_131, q_64_132, q_64_135, q_64_138, q_64_139, q_64_142, q_64_143, q_64_144, aft_i, aft_l, aft_v, Int.toNat_natCast, kd_sI, kd_sL, kd_sR, kd_cp, gI_sL, gI_sR, gL_sI, gL_sR, gR_sI, gR_sL, gL_cp, gR_cp, kd_aI, gL_aI, gR_aI, gI_aI, gI_aIn, sI_aI, gI_sIn, Int.reduceToNat, Int.reduceAdd, Int.reduceSub, Int.reduceMul, Int.reduceNeg, Int.zero_add, e]
