def plF (f : Nat → Int) (c : Int) : Nat → Nat → Int
  | 0, _ => -9
  | k + 1, i => if f i = c then (i : Int) else plF f c k (i + 1)
theorem in_t (d : Nat) (h : mH) (v lo hi : Int) (q : lo ≤ v ∧ v ≤ hi) : callA (d + 1) 123 [Sum.inl v, Sum.inl lo, Sum.inl hi] h = some (some (Sum.inl 1), h) := by
  rw [en_123]
  simp (disch := (first | omega | (simp only [kd_sI, kd_sL, kd_sR, kd_cp, kd_aI]; omega) | (unfold catV; exact rfl) | (unfold catS; exact Nat.le_of_ble_eq_true rfl) | assumption)) only [q_123_0, q_123_1, q_123_2_t, q_123_2_f, q_123_5, q_123_6, q_123_7_t, q_123_7_f, q_123_10, q_123_11, q_123_14, q_123_15, aft_i, aft_l, aft_v, Int.toNat_natCast, kd_sI, kd_sL, kd_sR, kd_cp, gI_sL, gI_sR, gL_sI, gL_sR, gR_sI, gR_sL, gL_cp, gR_cp, kd_aI, gL_aI, gR_aI, gI_aI, gI_aIn, sI_aI, gI_sIn, Int.reduceToNat, Int.reduceAdd, Int.reduceSub, Int.reduceMul, Int.reduceNeg, Int.zero_add]
theorem in_f (d : Nat) (h : mH) (v lo hi : Int) (q : ¬ (lo ≤ v ∧ v ≤ hi)) : callA (d + 1) 123 [Sum.inl v, Sum.inl lo, Sum.inl hi] h = some (some (Sum.inl 0), h) := by
  rw [en_123]
  by_cases q1 : lo ≤ v
  · simp (disch := (first | omega | (simp only [kd_sI, kd_sL, kd_sR, kd_cp, kd_aI]; omega) | (unfold catV; exact rfl) | (unfold catS; exact Nat.le_of_ble_eq_true rfl) | assumption)) only [q_123_0, q_123_1, q_123_2_t, q_123_2_f, q_123_5, q_123_6, q_123_7_t, q_123_7_f, q_123_10, q_123_11, q_123_14, q_123_15, aft_i, aft_l, aft_v, Int.toNat_natCast, kd_sI, kd_sL, kd_sR, kd_cp, gI_sL, gI_sR, gL_sI, gL_sR, gR_sI, gR_sL, gL_cp, gR_cp, kd_aI, gL_aI, gR_aI, gI_aI, gI_aIn, sI_aI, gI_sIn, Int.reduceToNat, Int.reduceAdd, Int.reduceSub, Int.reduceMul, Int.reduceNeg, Int.zero_add]
  · simp (disch := (first | omega | (simp only [kd_sI, kd_sL, kd_sR, kd_cp, kd_aI]; omega) | (unfold catV; exact rfl) | (unfold catS; exact Nat.le_of_ble_eq_true rfl) | assumption)) only [q_123_0, q_123_1, q_123_2_t, q_123_2_f, q_123_5, q_123_6, q_123_7_t, q_123_7_f, q_123_10, q_123_11, q_123_14, q_123_15, aft_i, aft_l, aft_v, Int.toNat_natCast, kd_sI, kd_sL, kd_sR, kd_cp, gI_sL, gI_sR, gL_sI, gL_sR, gR_sI, gR_sL, gL_cp, gR_cp, kd_aI, gL_aI, gR_aI, gI_aI, gI_aIn, sI_aI, gI_sIn, Int.reduceToNat, Int.reduceAdd, Int.reduceSub, Int.reduceMul, Int.reduceNeg, Int.zero_add]
theorem mCart_t (d : Nat) (h : mH) (L : LAY h) (c : Int) (n : Nat) (hn : gI h 143 0 = n) (hc : 0 ≤ c ∧ c < n) (h7 : n ≤ 7) : callA (d + 2) 137 [Sum.inr (Sum.inr (some 141)), Sum.inl c] h = some (some (Sum.inl 1), h) := by
  obtain ⟨k141, j141⟩ := lay_k L (a := 141) (t := 8) (n := 26) rfl; obtain ⟨k143, j143⟩ := lay_k L (a := 143) (t := 100) (n := 2) rfl; have r141_3 : gR h 141 3 = some 143 := lay_r L rfl
  rw [en_137]
  simp (disch := (first | omega | (simp only [kd_sI, kd_sL, kd_sR, kd_cp, kd_aI]; omega) | (unfold catV; exact rfl) | (unfold catS; exact Nat.le_of_ble_eq_true rfl) | assumption)) only [q_137_0, q_137_1, q_137_2, q_137_3, q_137_6, q_137_7, q_137_8, q_137_9, q_137_10, q_137_13, aft_i, aft_l, aft_v, Int.toNat_natCast, kd_sI, kd_sL, kd_sR, kd_cp, gI_sL, gI_sR, gL_sI, gL_sR, gR_sI, gR_sL, gL_cp, gR_cp, kd_aI, gL_aI, gR_aI, gI_aI, gI_aIn, sI_aI, gI_sIn, Int.reduceToNat, Int.reduceAdd, Int.reduceSub, Int.reduceMul, Int.reduceNeg, Int.zero_add, r141_3, in_t, Int.toNat_zero]
theorem mCart_f (d : Nat) (h : mH) (L : LAY h) (c : Int) (n : Nat) (hn : gI h 143 0 = n) (hc : ¬ (0 ≤ c ∧ c < n)) (h7 : n ≤ 7) : callA (d + 2) 137 [Sum.inr (Sum.inr (some 141)), Sum.inl c] h = some (some (Sum.inl 0), h) := by
  obtain ⟨k141, j141⟩ := lay_k L (a := 141) (t := 8) (n := 26) rfl; obtain ⟨k143, j143⟩ := lay_k L (a := 143) (t := 100) (n := 2) rfl; have r141_3 : gR h 141 3 = some 143 := lay_r L rfl
  rw [en_137]
  simp (disch := (first | omega | (simp only [kd_sI, kd_sL, kd_sR, kd_cp, kd_aI]; omega) | (unfold catV; exact rfl) | (unfold catS; exact Nat.le_of_ble_eq_true rfl) | assumption)) only [q_137_0, q_137_1, q_137_2, q_137_3, q_137_6, q_137_7, q_137_8, q_137_9, q_137_10, q_137_13, aft_i, aft_l, aft_v, Int.toNat_natCast, kd_sI, kd_sL, kd_sR, kd_cp, gI_sL, gI_sR, gL_sI, gL_sR, gR_sI, gR_sL, gL_cp, gR_cp, kd_aI, gL_aI, gR_aI, gI_aI, gI_aIn, sI_aI, gI_sIn, Int.reduceToNat, Int.reduceAdd, Int.reduceSub, Int.reduceMul, Int.reduceNeg, Int.zero_add, r141_3, in_f, Int.toNat_zero]
theorem mCell_t (d : Nat) (h : mH) (L : LAY h) (c : Int) (n : Nat) (hn : gI h 147 0 = n) (hc : 0 ≤ c ∧ c < n) (h7 : n ≤ 40) : callA (d + 2) 138 [Sum.inr (Sum.inr (some 141)), Sum.inl c] h = some (some (Sum.inl 1), h) := by
  obtain ⟨k141, j141⟩ := lay_k L (a := 141) (t := 8) (n := 26) rfl; obtain ⟨k147, j147⟩ := lay_k L (a := 147) (t := 100) (n := 2) rfl; have r141_7 : gR h 141 7 = some 147 := lay_r L rfl
  rw [en_138]
  simp (disch := (first | omega | (simp only [kd_sI, kd_sL, kd_sR, kd_cp, kd_aI]; omega) | (unfold catV; exact rfl) | (unfold catS; exact Nat.le_of_ble_eq_true rfl) | assumption)) only [q_138_0, q_138_1, q_138_2, q_138_3, q_138_6, q_138_7, q_138_8, q_138_9, q_138_10, q_138_13, aft_i, aft_l, aft_v, Int.toNat_natCast, kd_sI, kd_sL, kd_sR, kd_cp, gI_sL, gI_sR, gL_sI, gL_sR, gR_sI, gR_sL, gL_cp, gR_cp, kd_aI, gL_aI, gR_aI, gI_aI, gI_aIn, sI_aI, gI_sIn, Int.reduceToNat, Int.reduceAdd, Int.reduceSub, Int.reduceMul, Int.reduceNeg, Int.zero_add, r141_7, in_t, Int.toNat_zero]
theorem mCell_f (d : Nat) (h : mH) (L : LAY h) (c : Int) (n : Nat) (hn : gI h 147 0 = n) (hc : ¬ (0 ≤ c ∧ c < n)) (h7 : n ≤ 40) : callA (d + 2) 138 [Sum.inr (Sum.inr (some 141)), Sum.inl c] h = some (some (Sum.inl 0), h) := by
  obtain ⟨k141, j141⟩ := lay_k L (a := 141) (t := 8) (n := 26) rfl; obtain ⟨k147, j147⟩ := lay_k L (a := 147) (t := 100) (n := 2) rfl; have r141_7 : gR h 141 7 = some 147 := lay_r L rfl
  rw [en_138]
  simp (disch := (first | omega | (simp only [kd_sI, kd_sL, kd_sR, kd_cp, kd_aI]; omega) | (unfold catV; exact rfl) | (unfold catS; exact Nat.le_of_ble_eq_true rfl) | assumption)) only [q_138_0, q_138_1, q_138_2, q_138_3, q_138_6, q_138_7, q_138_8, q_138_9, q_138_10, q_138_13, aft_i, aft_l, aft_v, Int.toNat_natCast, kd_sI, kd_sL, kd_sR, kd_cp, gI_sL, gI_sR, gL_sI, gL_sR, gR_sI, gR_sL, gL_cp, gR_cp, kd_aI, gL_aI, gR_aI, gI_aI, gI_aIn, sI_aI, gI_sIn, Int.reduceToNat, Int.reduceAdd, Int.reduceSub, Int.reduceMul, Int.reduceNeg, Int.zero_add, r141_7, in_f, Int.toNat_zero]
theorem mLate_t (d : Nat) (h : mH) (L : LAY h) (c l : Nat) (hl : gI h 150 8 = l) (h7 : l < 128) (hc : c < 32) (q : l.testBit c = true) : callA (d + 1) 139 [Sum.inr (Sum.inr (some 141)), Sum.inl (c : Int)] h = some (some (Sum.inl 1), h) := by
  obtain ⟨k141, j141⟩ := lay_k L (a := 141) (t := 8) (n := 26) rfl; obtain ⟨k150, j150⟩ := lay_k L (a := 150) (t := 100) (n := 1851) rfl; have r141_16 : gR h 141 16 = some 150 := lay_r L rfl
  have e : andI (shrI (gI h 150 8) c) 1 = 1 := by rw [hl, bitI hc (by omega), if_pos q]
  rw [en_139]
  simp (disch := (first | omega | (simp only [kd_sI, kd_sL, kd_sR, kd_cp, kd_aI]; omega) | (unfold catV; exact rfl) | (unfold catS; exact Nat.le_of_ble_eq_true rfl) | assumption)) only [q_139_0, q_139_1, q_139_4, q_139_6, q_139_7, q_139_8, q_139_9, q_139_10, q_139_11, q_139_12_t, q_139_12_f, q_139_15, q_139_16, q_139_19, q_139_20, aft_i, aft_l, aft_v, Int.toNat_natCast, kd_sI, kd_sL, kd_sR, kd_cp, gI_sL, gI_sR, gL_sI, gL_sR, gR_sI, gR_sL, gL_cp, gR_cp, kd_aI, gL_aI, gR_aI, gI_aI, gI_aIn, sI_aI, gI_sIn, Int.reduceToNat, Int.reduceAdd, Int.reduceSub, Int.reduceMul, Int.reduceNeg, Int.zero_add, r141_16, e, show (8 : Int).toNat = 8 from rfl]
theorem mLate_f (d : Nat) (h : mH) (L : LAY h) (c l : Nat) (hl : gI h 150 8 = l) (h7 : l < 128) (hc : c < 32) (q : l.testBit c = false) : callA (d + 1) 139 [Sum.inr (Sum.inr (some 141)), Sum.inl (c : Int)] h = some (some (Sum.inl 0), h) := by
  obtain ⟨k141, j141⟩ := lay_k L (a := 141) (t := 8) (n := 26) rfl; obtain ⟨k150, j150⟩ := lay_k L (a := 150) (t := 100) (n := 1851) rfl; have r141_16 : gR h 141 16 = some 150 := lay_r L rfl
  have e : andI (shrI (gI h 150 8) c) 1 = 0 := by rw [hl, bitI hc (by omega), q]; rfl
  rw [en_139]
  simp (disch := (first | omega | (simp only [kd_sI, kd_sL, kd_sR, kd_cp, kd_aI]; omega) | (unfold catV; exact rfl) | (unfold catS; exact Nat.le_of_ble_eq_true rfl) | assumption)) only [q_139_0, q_139_1, q_139_4, q_139_6, q_139_7, q_139_8, q_139_9, q_139_10, q_139_11, q_139_12_t, q_139_12_f, q_139_15, q_139_16, q_139_19, q_139_20, aft_i, aft_l, aft_v, Int.toNat_natCast, kd_sI, kd_sL, kd_sR, kd_cp, gI_sL, gI_sR, gL_sI, gL_sR, gR_sI, gR_sL, gL_cp, gR_cp, kd_aI, gL_aI, gR_aI, gI_aI, gI_aIn, sI_aI, gI_sIn, Int.reduceToNat, Int.reduceAdd, Int.reduceSub, Int.reduceMul, Int.reduceNeg, Int.zero_add, r141_16, e, show (8 : Int).toNat = 8 from rfl]
/-- how many of the first k bits -/
def cntB (m : Nat) : Nat → Nat
  | 0 => 0
  | k + 1 => cntB m k + if m.testBit k then 1 else 0
theorem cntB_le (m : Nat) : ∀ k, cntB m k ≤ k
  | 0 => Nat.le_refl _
  | k + 1 => by have := cntB_le m k; unfold cntB; split <;> omega
theorem manyOf_loop (d : Nat) (h : mH) (m : Nat) (hm : m < 128) : ∀ (k i : Nat), i + k = 7 → resA (callA d) 140 (4, [Sum.inl (m : Int), Sum.inl ((cntB m i : Nat) : Int), Sum.inl (i : Int)], [], h) = some (some (Sum.inl ((cntB m 7 : Nat) : Int)), h)
  | 0, i, hi => by
    have e : i = 7 := by omega
    subst e
    simp (disch := (first | omega | (simp only [kd_sI, kd_sL, kd_sR, kd_cp, kd_aI]; omega) | (unfold catV; exact rfl) | (unfold catS; exact Nat.le_of_ble_eq_true rfl) | assumption)) only [q_140_0, q_140_1, q_140_2, q_140_3, q_140_4, q_140_5, q_140_7_t, q_140_7_f, q_140_10, q_140_11, q_140_12, q_140_13, q_140_14, q_140_15, q_140_16, q_140_17, q_140_18, q_140_21, q_140_24, q_140_25, aft_i, aft_l, aft_v, Int.toNat_natCast, kd_sI, kd_sL, kd_sR, kd_cp, gI_sL, gI_sR, gL_sI, gL_sR, gR_sI, gR_sL, gL_cp, gR_cp, kd_aI, gL_aI, gR_aI, gI_aI, gI_aIn, sI_aI, gI_sIn, Int.reduceToNat, Int.reduceAdd, Int.reduceSub, Int.reduceMul, Int.reduceNeg, Int.zero_add]
  | k + 1, i, hi => by
    have ih := manyOf_loop d h m hm k (i + 1) (by omega)
    have e : andI (shrI (m : Int) i) 1 = ((if m.testBit i then 1 else 0 : Nat) : Int) := by rw [bitI (by omega) (by omega)]; split <;> rfl
    have e2 : (cntB m (i + 1) : Int) = (cntB m i : Int) + ((if m.testBit i then 1 else 0 : Nat) : Int) := by rw [show cntB m (i + 1) = cntB m i + (if m.testBit i then 1 else 0) from rfl]; exact Int.natCast_add _ _
    have e3 := cntB_le m i
    have e4 : (if m.testBit i then 1 else 0 : Nat) ≤ 1 := by split <;> omega
    generalize (if m.testBit i then 1 else 0 : Nat) = b at e e2 e4
    rw [q_140_4]
    simp (disch := (first | omega | (simp only [kd_sI, kd_sL, kd_sR, kd_cp, kd_aI]; omega) | (unfold catV; exact rfl) | (unfold catS; exact Nat.le_of_ble_eq_true rfl) | assumption)) only [q_140_0, q_140_1, q_140_2, q_140_3, q_140_5, q_140_7_t, q_140_7_f, q_140_10, q_140_11, q_140_12, q_140_13, q_140_14, q_140_15, q_140_16, q_140_17, q_140_18, q_140_21, q_140_24, q_140_25, aft_i, aft_l, aft_v, Int.toNat_natCast, kd_sI, kd_sL, kd_sR, kd_cp, gI_sL, gI_sR, gL_sI, gL_sR, gR_sI, gR_sL, gL_cp, gR_cp, kd_aI, gL_aI, gR_aI, gI_aI, gI_aIn, sI_aI, gI_sIn, Int.reduceToNat, Int.reduceAdd, Int.reduceSub, Int.reduceMul, Int.reduceNeg, Int.zero_add, e]
    rw [e2] at ih
    exact ih
theorem manyOf_ok (d : Nat) (h : mH) (m : Nat) (hm : m < 128) : callA (d + 1) 140 [Sum.inl (m : Int)] h = some (some (Sum.inl ((cntB m 7 : Nat) : Int)), h) := by
  rw [en_140]
  simp (disch := (first | omega | (simp only [kd_sI, kd_sL, kd_sR, kd_cp, kd_aI]; omega) | (unfold catV; exact rfl) | (unfold catS; exact Nat.le_of_ble_eq_true rfl) | assumption)) only [q_140_0, q_140_1, q_140_2, q_140_3, q_140_5, q_140_7_t, q_140_7_f, q_140_10, q_140_11, q_140_12, q_140_13, q_140_14, q_140_15, q_140_16, q_140_17, q_140_18, q_140_21, q_140_24, q_140_25, aft_i, aft_l, aft_v, Int.toNat_natCast, kd_sI, kd_sL, kd_sR, kd_cp, gI_sL, gI_sR, gL_sI, gL_sR, gR_sI, gR_sL, gL_cp, gR_cp, kd_aI, gL_aI, gR_aI, gI_aI, gI_aIn, sI_aI, gI_sIn, Int.reduceToNat, Int.reduceAdd, Int.reduceSub, Int.reduceMul, Int.reduceNeg, Int.zero_add]
  exact manyOf_loop d h m hm 7 0 rfl
theorem mPlace_loop (d : Nat) (h : mH) (L : LAY h) (c : Int) (hm : gI h 150 7 ≤ 7) : ∀ (k i : Nat), gI h 150 7 = ((i + k : Nat) : Int) → resA (callA d) 141 (2, [Sum.inr (Sum.inr (some 141)), Sum.inl c, Sum.inl (i : Int)], [], h) = some (some (Sum.inl (plF (gI h 150) c k i)), h)
  | 0, i, hi => by
    obtain ⟨k141, j141⟩ := lay_k L (a := 141) (t := 8) (n := 26) rfl; obtain ⟨k150, j150⟩ := lay_k L (a := 150) (t := 100) (n := 1851) rfl; have r141_16 : gR h 141 16 = some 150 := lay_r L rfl
    simp (disch := (first | omega | (simp only [kd_sI, kd_sL, kd_sR, kd_cp, kd_aI]; omega) | (unfold catV; exact rfl) | (unfold catS; exact Nat.le_of_ble_eq_true rfl) | assumption)) only [q_141_0, q_141_1, q_141_2, q_141_3, q_141_4, q_141_7, q_141_9, q_141_10_t, q_141_10_f, q_141_13, q_141_14, q_141_17, q_141_18, q_141_19, q_141_20, q_141_21, q_141_22_t, q_141_22_f, q_141_25, q_141_26, q_141_27, q_141_30, q_141_33, q_141_35, aft_i, aft_l, aft_v, Int.toNat_natCast, kd_sI, kd_sL, kd_sR, kd_cp, gI_sL, gI_sR, gL_sI, gL_sR, gR_sI, gR_sL, gL_cp, gR_cp, kd_aI, gL_aI, gR_aI, gI_aI, gI_aIn, sI_aI, gI_sIn, Int.reduceToNat, Int.reduceAdd, Int.reduceSub, Int.reduceMul, Int.reduceNeg, Int.zero_add, r141_16, plF, show (7 : Int).toNat = 7 from rfl]
  | k + 1, i, hi => by
    obtain ⟨k141, j141⟩ := lay_k L (a := 141) (t := 8) (n := 26) rfl; obtain ⟨k150, j150⟩ := lay_k L (a := 150) (t := 100) (n := 1851) rfl; have r141_16 : gR h 141 16 = some 150 := lay_r L rfl
    have ih := mPlace_loop d h L c hm k (i + 1) (by omega)
    rw [q_141_2]
    unfold plF
    by_cases q : gI h 150 i = c
    · rw [if_pos q]
      simp (disch := (first | omega | (simp only [kd_sI, kd_sL, kd_sR, kd_cp, kd_aI]; omega) | (unfold catV; exact rfl) | (unfold catS; exact Nat.le_of_ble_eq_true rfl) | assumption)) only [q_141_0, q_141_1, q_141_3, q_141_4, q_141_7, q_141_9, q_141_10_t, q_141_10_f, q_141_13, q_141_14, q_141_17, q_141_18, q_141_19, q_141_20, q_141_21, q_141_22_t, q_141_22_f, q_141_25, q_141_26, q_141_27, q_141_30, q_141_33, q_141_35, aft_i, aft_l, aft_v, Int.toNat_natCast, kd_sI, kd_sL, kd_sR, kd_cp, gI_sL, gI_sR, gL_sI, gL_sR, gR_sI, gR_sL, gL_cp, gR_cp, kd_aI, gL_aI, gR_aI, gI_aI, gI_aIn, sI_aI, gI_sIn, Int.reduceToNat, Int.reduceAdd, Int.reduceSub, Int.reduceMul, Int.reduceNeg, Int.zero_add, r141_16, Int.zero_add, show (7 : Int).toNat = 7 from rfl]
    · rw [if_neg q]
      simp (disch := (first | omega | (simp only [kd_sI, kd_sL, kd_sR, kd_cp, kd_aI]; omega) | (unfold catV; exact rfl) | (unfold catS; exact Nat.le_of_ble_eq_true rfl) | assumption)) only [q_141_0, q_141_1, q_141_3, q_141_4, q_141_7, q_141_9, q_141_10_t, q_141_10_f, q_141_13, q_141_14, q_141_17, q_141_18, q_141_19, q_141_20, q_141_21, q_141_22_t, q_141_22_f, q_141_25, q_141_26, q_141_27, q_141_30, q_141_33, q_141_35, aft_i, aft_l, aft_v, Int.toNat_natCast, kd_sI, kd_sL, kd_sR, kd_cp, gI_sL, gI_sR, gL_sI, gL_sR, gR_sI, gR_sL, gL_cp, gR_cp, kd_aI, gL_aI, gR_aI, gI_aI, gI_aIn, sI_aI, gI_sIn, Int.reduceToNat, Int.reduceAdd, Int.reduceSub, Int.reduceMul, Int.reduceNeg, Int.zero_add, r141_16, Int.zero_add, show (7 : Int).toNat = 7 from rfl]
      exact ih
theorem mPlace_ok (d : Nat) (h : mH) (L : LAY h) (c : Int) (n : Nat) (hn : gI h 150 7 = n) (hm : n ≤ 7) : callA (d + 1) 141 [Sum.inr (Sum.inr (some 141)), Sum.inl c] h = some (some (Sum.inl (plF (gI h 150) c n 0)), h) := by
  rw [en_141]
  simp (disch := (first | omega | (simp only [kd_sI, kd_sL, kd_sR, kd_cp, kd_aI]; omega) | (unfold catV; exact rfl) | (unfold catS; exact Nat.le_of_ble_eq_true rfl) | assumption)) only [q_141_0, q_141_1, q_141_3, q_141_4, q_141_7, q_141_9, q_141_10_t, q_141_10_f, q_141_13, q_141_14, q_141_17, q_141_18, q_141_19, q_141_20, q_141_21, q_141_22_t, q_141_22_f, q_141_25, q_141_26, q_141_27, q_141_30, q_141_33, q_141_35, aft_i, aft_l, aft_v, Int.toNat_natCast, kd_sI, kd_sL, kd_sR, kd_cp, gI_sL, gI_sR, gL_sI, gL_sR, gR_sI, gR_sL, gL_cp, gR_cp, kd_aI, gL_aI, gR_aI, gI_aI, gI_aIn, sI_aI, gI_sIn, Int.reduceToNat, Int.reduceAdd, Int.reduceSub, Int.reduceMul, Int.reduceNeg, Int.zero_add]
  exact mPlace_loop d h L c (by omega) n 0 (by omega)
