theorem mLand_loop (d : Nat) (h : mH) (L : LAY h) : ∀ (k i : Nat), i + k = 40 → resA (callA d) 142 (2, [Sum.inr (Sum.inr (some 141)), Sum.inl (i : Int)], [], aI h 153 (mixI i (fun j => gI h 150 (16 + j)) (gI h 153))) = some (none, aI h 153 (mixI 40 (fun j => gI h 150 (16 + j)) (gI h 153)))
  | 0, i, hi => by
    have e : i = 40 := by omega
    subst e
    simp (disch := (first | omega | (simp only [kd_sI, kd_sL, kd_sR, kd_cp, kd_aI]; omega) | (unfold catV; exact rfl) | (unfold catS; exact Nat.le_of_ble_eq_true rfl) | assumption)) only [q_142_0, q_142_1, q_142_2, q_142_3, q_142_5_t, q_142_5_f, q_142_8, q_142_9, q_142_12, q_142_13, q_142_14, q_142_17, q_142_19, q_142_20, q_142_21, q_142_22, q_142_23, q_142_26, q_142_29, aft_i, aft_l, aft_v, Int.toNat_natCast, kd_sI, kd_sL, kd_sR, kd_cp, gI_sL, gI_sR, gL_sI, gL_sR, gR_sI, gR_sL, gL_cp, gR_cp, kd_aI, gL_aI, gR_aI, gI_aI, gI_aIn, sI_aI, gI_sIn, Int.reduceToNat, Int.reduceAdd, Int.reduceSub, Int.reduceMul, Int.reduceNeg, Int.zero_add]
  | k + 1, i, hi => by
    obtain ⟨k141, j141⟩ := lay_k L (a := 141) (t := 8) (n := 26) rfl; obtain ⟨k150, j150⟩ := lay_k L (a := 150) (t := 100) (n := 1851) rfl; obtain ⟨k153, j153⟩ := lay_k L (a := 153) (t := 100) (n := 40) rfl; have r141_16 : gR h 141 16 = some 150 := lay_r L rfl; have r141_20 : gR h 141 20 = some 153 := lay_r L rfl
    have ih := mLand_loop d h L k (i + 1) (by omega)
    rw [q_142_2]
    simp (disch := (first | omega | (simp only [kd_sI, kd_sL, kd_sR, kd_cp, kd_aI]; omega) | (unfold catV; exact rfl) | (unfold catS; exact Nat.le_of_ble_eq_true rfl) | assumption)) only [q_142_0, q_142_1, q_142_3, q_142_5_t, q_142_5_f, q_142_8, q_142_9, q_142_12, q_142_13, q_142_14, q_142_17, q_142_19, q_142_20, q_142_21, q_142_22, q_142_23, q_142_26, q_142_29, aft_i, aft_l, aft_v, Int.toNat_natCast, kd_sI, kd_sL, kd_sR, kd_cp, gI_sL, gI_sR, gL_sI, gL_sR, gR_sI, gR_sL, gL_cp, gR_cp, kd_aI, gL_aI, gR_aI, gI_aI, gI_aIn, sI_aI, gI_sIn, Int.reduceToNat, Int.reduceAdd, Int.reduceSub, Int.reduceMul, Int.reduceNeg, Int.zero_add, r141_16, r141_20, show (16 + (i : Int)).toNat = 16 + i by omega]
    rw [← mixI_up i] at ih
    exact ih
/-- LAND is the ground of the night -/
theorem mLand_ok (d : Nat) (h : mH) (L : LAY h) : callA (d + 1) 142 [Sum.inr (Sum.inr (some 141))] h = some (none, aI h 153 (mixI 40 (fun j => gI h 150 (16 + j)) (gI h 153))) := by
  rw [en_142]
  simp (disch := (first | omega | (simp only [kd_sI, kd_sL, kd_sR, kd_cp, kd_aI]; omega) | (unfold catV; exact rfl) | (unfold catS; exact Nat.le_of_ble_eq_true rfl) | assumption)) only [q_142_0, q_142_1, q_142_3, q_142_5_t, q_142_5_f, q_142_8, q_142_9, q_142_12, q_142_13, q_142_14, q_142_17, q_142_19, q_142_20, q_142_21, q_142_22, q_142_23, q_142_26, q_142_29, aft_i, aft_l, aft_v, Int.toNat_natCast, kd_sI, kd_sL, kd_sR, kd_cp, gI_sL, gI_sR, gL_sI, gL_sR, gR_sI, gR_sL, gL_cp, gR_cp, kd_aI, gL_aI, gR_aI, gI_aI, gI_aIn, sI_aI, gI_sIn, Int.reduceToNat, Int.reduceAdd, Int.reduceSub, Int.reduceMul, Int.reduceNeg, Int.zero_add]
  have e := mLand_loop d h L 40 0 rfl
  rw [mixI_0, aI_id] at e
  exact e
theorem mRow_loop (d : Nat) (h : mH) (L : LAY h) (n : Nat) (hm : n ≤ 7) (e0 : gI h 141 19 = n) : ∀ (k i : Nat), i + k = n → resA (callA d) 143 (13, [Sum.inr (Sum.inr (some 141)), Sum.inl (i : Int)], [], aI h 152 (mixI i (gI h 150) (gI h 152))) = some (none, aI h 152 (mixI n (gI h 150) (gI h 152)))
  | 0, i, hi => by
    have e : i = n := by omega
    obtain ⟨k141, j141⟩ := lay_k L (a := 141) (t := 8) (n := 26) rfl
    rw [q_143_13]
    simp (disch := (first | omega | (simp only [kd_sI, kd_sL, kd_sR, kd_cp, kd_aI]; omega) | (unfold catV; exact rfl) | (unfold catS; exact Nat.le_of_ble_eq_true rfl) | assumption)) only [q_143_0, q_143_1, q_143_2, q_143_5, q_143_7, q_143_8, q_143_11, q_143_12, q_143_14, q_143_15, q_143_18_t, q_143_18_f, q_143_21, q_143_22, q_143_25, q_143_26, q_143_27, q_143_30, q_143_31, q_143_32, q_143_33, q_143_34, q_143_35, q_143_38, q_143_41, aft_i, aft_l, aft_v, Int.toNat_natCast, kd_sI, kd_sL, kd_sR, kd_cp, gI_sL, gI_sR, gL_sI, gL_sR, gR_sI, gR_sL, gL_cp, gR_cp, kd_aI, gL_aI, gR_aI, gI_aI, gI_aIn, sI_aI, gI_sIn, Int.reduceToNat, Int.reduceAdd, Int.reduceSub, Int.reduceMul, Int.reduceNeg, Int.zero_add, e0]
    rw [e]
  | k + 1, i, hi => by
    have ih := mRow_loop d h L n hm e0 k (i + 1) (by omega)
    obtain ⟨k141, j141⟩ := lay_k L (a := 141) (t := 8) (n := 26) rfl; obtain ⟨k150, j150⟩ := lay_k L (a := 150) (t := 100) (n := 1851) rfl; obtain ⟨k152, j152⟩ := lay_k L (a := 152) (t := 100) (n := 7) rfl; have r141_16 : gR h 141 16 = some 150 := lay_r L rfl; have r141_18 : gR h 141 18 = some 152 := lay_r L rfl
    rw [q_143_13]
    simp (disch := (first | omega | (simp only [kd_sI, kd_sL, kd_sR, kd_cp, kd_aI]; omega) | (unfold catV; exact rfl) | (unfold catS; exact Nat.le_of_ble_eq_true rfl) | assumption)) only [q_143_0, q_143_1, q_143_2, q_143_5, q_143_7, q_143_8, q_143_11, q_143_12, q_143_14, q_143_15, q_143_18_t, q_143_18_f, q_143_21, q_143_22, q_143_25, q_143_26, q_143_27, q_143_30, q_143_31, q_143_32, q_143_33, q_143_34, q_143_35, q_143_38, q_143_41, aft_i, aft_l, aft_v, Int.toNat_natCast, kd_sI, kd_sL, kd_sR, kd_cp, gI_sL, gI_sR, gL_sI, gL_sR, gR_sI, gR_sL, gL_cp, gR_cp, kd_aI, gL_aI, gR_aI, gI_aI, gI_aIn, sI_aI, gI_sIn, Int.reduceToNat, Int.reduceAdd, Int.reduceSub, Int.reduceMul, Int.reduceNeg, Int.zero_add, r141_16, r141_18, e0]
    rw [← mixI_up i] at ih
    exact ih
/-- ROW is THE ORDER of the night -/
theorem mRow_ok (d : Nat) (h : mH) (L : LAY h) (n : Nat) (hn : gI h 150 7 = n) (hm : n ≤ 7) : callA (d + 1) 143 [Sum.inr (Sum.inr (some 141))] h = some (none, aI (sI h 141 19 n) 152 (mixI n (gI h 150) (gI h 152))) := by
  obtain ⟨k141, j141⟩ := lay_k L (a := 141) (t := 8) (n := 26) rfl; obtain ⟨k150, j150⟩ := lay_k L (a := 150) (t := 100) (n := 1851) rfl; have r141_16 : gR h 141 16 = some 150 := lay_r L rfl
  rw [en_143]
  simp (disch := (first | omega | (simp only [kd_sI, kd_sL, kd_sR, kd_cp, kd_aI]; omega) | (unfold catV; exact rfl) | (unfold catS; exact Nat.le_of_ble_eq_true rfl) | assumption)) only [q_143_0, q_143_1, q_143_2, q_143_5, q_143_7, q_143_8, q_143_11, q_143_12, q_143_14, q_143_15, q_143_18_t, q_143_18_f, q_143_21, q_143_22, q_143_25, q_143_26, q_143_27, q_143_30, q_143_31, q_143_32, q_143_33, q_143_34, q_143_35, q_143_38, q_143_41, aft_i, aft_l, aft_v, Int.toNat_natCast, kd_sI, kd_sL, kd_sR, kd_cp, gI_sL, gI_sR, gL_sI, gL_sR, gR_sI, gR_sL, gL_cp, gR_cp, kd_aI, gL_aI, gR_aI, gI_aI, gI_aIn, sI_aI, gI_sIn, Int.reduceToNat, Int.reduceAdd, Int.reduceSub, Int.reduceMul, Int.reduceNeg, Int.zero_add, r141_16, hn]
  have e := mRow_loop d (sI h 141 19 n) (lay_sI L _ _ _) n hm (by rw [gI_sI, if_pos ⟨rfl, rfl⟩]) n 0 (by omega)
  rw [mixI_0, aI_id, gI_sIn (by omega), gI_sIn (by omega)] at e
  exact e
/-- so many cells side by side that are no river -/
def freeB (land : Nat → Int) (cells k w : Nat) : Bool := decide (k + w ≤ cells) && (List.range w).all (fun j => decide (land (k + j) ≠ 2))
theorem mFree_loop (d : Nat) (h : mH) (L : LAY h) (k w : Nat) (hk : k + w ≤ 40) : ∀ (f i : Nat), i + f = w → (∀ j, j < i → gI h 153 (k + j) ≠ 2) → resA (callA d) 144 (21, [Sum.inr (Sum.inr (some 141)), Sum.inl (k : Int), Sum.inl (w : Int), Sum.inl 1, Sum.inl ((k + i : Nat) : Int)], [], h) = some (some (Sum.inl (if (List.range w).all (fun j => decide (gI h 153 (k + j) ≠ 2)) = true then 1 else 0)), h)
  | 0, i, hi, hj => by
    have e : (List.range w).all (fun j => decide (gI h 153 (k + j) ≠ 2)) = true := by
      rw [List.all_eq_true]
      intro j q
      exact decide_eq_true (hj j (by have := List.mem_range.mp q; omega))
    rw [if_pos e]
    simp (disch := (first | omega | (simp only [kd_sI, kd_sL, kd_sR, kd_cp, kd_aI]; omega) | (unfold catV; exact rfl) | (unfold catS; exact Nat.le_of_ble_eq_true rfl) | assumption)) only [q_144_0, q_144_1, q_144_2, q_144_3, q_144_4, q_144_7, q_144_8, q_144_9_t, q_144_9_f, q_144_12, q_144_13, q_144_16, q_144_17, q_144_18, q_144_19, q_144_21, q_144_23, q_144_24, q_144_25, q_144_26_t, q_144_26_f, q_144_29, q_144_30_t, q_144_30_f, q_144_33, q_144_34, q_144_37, q_144_39, q_144_40, q_144_41_t, q_144_41_f, q_144_44, q_144_45, q_144_48, q_144_49, q_144_50, q_144_53, q_144_56, q_144_57, aft_i, aft_l, aft_v, Int.toNat_natCast, kd_sI, kd_sL, kd_sR, kd_cp, gI_sL, gI_sR, gL_sI, gL_sR, gR_sI, gR_sL, gL_cp, gR_cp, kd_aI, gL_aI, gR_aI, gI_aI, gI_aIn, sI_aI, gI_sIn, Int.reduceToNat, Int.reduceAdd, Int.reduceSub, Int.reduceMul, Int.reduceNeg, Int.zero_add]
  | f + 1, i, hi, hj => by
    obtain ⟨k141, j141⟩ := lay_k L (a := 141) (t := 8) (n := 26) rfl; obtain ⟨k153, j153⟩ := lay_k L (a := 153) (t := 100) (n := 40) rfl; have r141_20 : gR h 141 20 = some 153 := lay_r L rfl
    rw [q_144_21]
    by_cases q : gI h 153 (k + i) = 2
    · have e : ¬ (List.range w).all (fun j => decide (gI h 153 (k + j) ≠ 2)) = true := by
        rw [List.all_eq_true]
        intro z
        exact of_decide_eq_true (z i (List.mem_range.mpr (by omega))) q
      rw [if_neg e]
      simp (disch := (first | omega | (simp only [kd_sI, kd_sL, kd_sR, kd_cp, kd_aI]; omega) | (unfold catV; exact rfl) | (unfold catS; exact Nat.le_of_ble_eq_true rfl) | assumption)) only [q_144_0, q_144_1, q_144_2, q_144_3, q_144_4, q_144_7, q_144_8, q_144_9_t, q_144_9_f, q_144_12, q_144_13, q_144_16, q_144_17, q_144_18, q_144_19, q_144_23, q_144_24, q_144_25, q_144_26_t, q_144_26_f, q_144_29, q_144_30_t, q_144_30_f, q_144_33, q_144_34, q_144_37, q_144_39, q_144_40, q_144_41_t, q_144_41_f, q_144_44, q_144_45, q_144_48, q_144_49, q_144_50, q_144_53, q_144_56, q_144_57, aft_i, aft_l, aft_v, Int.toNat_natCast, kd_sI, kd_sL, kd_sR, kd_cp, gI_sL, gI_sR, gL_sI, gL_sR, gR_sI, gR_sL, gL_cp, gR_cp, kd_aI, gL_aI, gR_aI, gI_aI, gI_aIn, sI_aI, gI_sIn, Int.reduceToNat, Int.reduceAdd, Int.reduceSub, Int.reduceMul, Int.reduceNeg, Int.zero_add, r141_20]
      rw [q_144_21]
      by_cases z : i + 1 < w
      · simp (disch := (first | omega | (simp only [kd_sI, kd_sL, kd_sR, kd_cp, kd_aI]; omega) | (unfold catV; exact rfl) | (unfold catS; exact Nat.le_of_ble_eq_true rfl) | assumption)) only [q_144_0, q_144_1, q_144_2, q_144_3, q_144_4, q_144_7, q_144_8, q_144_9_t, q_144_9_f, q_144_12, q_144_13, q_144_16, q_144_17, q_144_18, q_144_19, q_144_23, q_144_24, q_144_25, q_144_26_t, q_144_26_f, q_144_29, q_144_30_t, q_144_30_f, q_144_33, q_144_34, q_144_37, q_144_39, q_144_40, q_144_41_t, q_144_41_f, q_144_44, q_144_45, q_144_48, q_144_49, q_144_50, q_144_53, q_144_56, q_144_57, aft_i, aft_l, aft_v, Int.toNat_natCast, kd_sI, kd_sL, kd_sR, kd_cp, gI_sL, gI_sR, gL_sI, gL_sR, gR_sI, gR_sL, gL_cp, gR_cp, kd_aI, gL_aI, gR_aI, gI_aI, gI_aIn, sI_aI, gI_sIn, Int.reduceToNat, Int.reduceAdd, Int.reduceSub, Int.reduceMul, Int.reduceNeg, Int.zero_add, r141_20]
      · simp (disch := (first | omega | (simp only [kd_sI, kd_sL, kd_sR, kd_cp, kd_aI]; omega) | (unfold catV; exact rfl) | (unfold catS; exact Nat.le_of_ble_eq_true rfl) | assumption)) only [q_144_0, q_144_1, q_144_2, q_144_3, q_144_4, q_144_7, q_144_8, q_144_9_t, q_144_9_f, q_144_12, q_144_13, q_144_16, q_144_17, q_144_18, q_144_19, q_144_23, q_144_24, q_144_25, q_144_26_t, q_144_26_f, q_144_29, q_144_30_t, q_144_30_f, q_144_33, q_144_34, q_144_37, q_144_39, q_144_40, q_144_41_t, q_144_41_f, q_144_44, q_144_45, q_144_48, q_144_49, q_144_50, q_144_53, q_144_56, q_144_57, aft_i, aft_l, aft_v, Int.toNat_natCast, kd_sI, kd_sL, kd_sR, kd_cp, gI_sL, gI_sR, gL_sI, gL_sR, gR_sI, gR_sL, gL_cp, gR_cp, kd_aI, gL_aI, gR_aI, gI_aI, gI_aIn, sI_aI, gI_sIn, Int.reduceToNat, Int.reduceAdd, Int.reduceSub, Int.reduceMul, Int.reduceNeg, Int.zero_add, r141_20]
    · have ih := mFree_loop d h L k w hk f (i + 1) (by omega) (fun j z => by
        by_cases e : j = i
        · rw [e]; exact q
        · exact hj j (by omega))
      simp (disch := (first | omega | (simp only [kd_sI, kd_sL, kd_sR, kd_cp, kd_aI]; omega) | (unfold catV; exact rfl) | (unfold catS; exact Nat.le_of_ble_eq_true rfl) | assumption)) only [q_144_0, q_144_1, q_144_2, q_144_3, q_144_4, q_144_7, q_144_8, q_144_9_t, q_144_9_f, q_144_12, q_144_13, q_144_16, q_144_17, q_144_18, q_144_19, q_144_23, q_144_24, q_144_25, q_144_26_t, q_144_26_f, q_144_29, q_144_30_t, q_144_30_f, q_144_33, q_144_34, q_144_37, q_144_39, q_144_40, q_144_41_t, q_144_41_f, q_144_44, q_144_45, q_144_48, q_144_49, q_144_50, q_144_53, q_144_56, q_144_57, aft_i, aft_l, aft_v, Int.toNat_natCast, kd_sI, kd_sL, kd_sR, kd_cp, gI_sL, gI_sR, gL_sI, gL_sR, gR_sI, gR_sL, gL_cp, gR_cp, kd_aI, gL_aI, gR_aI, gI_aI, gI_aIn, sI_aI, gI_sIn, Int.reduceToNat, Int.reduceAdd, Int.reduceSub, Int.reduceMul, Int.reduceNeg, Int.zero_add, r141_20]
      rw [show (((k + i : Nat) : Int) + 1) = ((k + (i + 1) : Nat) : Int) by omega]
      exact ih
theorem mFree_ok (d : Nat) (h : mH) (L : LAY h) (cells k w : Nat) (hc : gI h 147 0 = cells) (h4 : cells ≤ 40) (hk : k ≤ 100) (hw : w ≤ 6) : callA (d + 1) 144 [Sum.inr (Sum.inr (some 141)), Sum.inl (k : Int), Sum.inl (w : Int)] h = some (some (Sum.inl (if freeB (gI h 153) cells k w = true then 1 else 0)), h) := by
  obtain ⟨k141, j141⟩ := lay_k L (a := 141) (t := 8) (n := 26) rfl; obtain ⟨k147, j147⟩ := lay_k L (a := 147) (t := 100) (n := 2) rfl; have r141_7 : gR h 141 7 = some 147 := lay_r L rfl
  rw [en_144]
  unfold freeB
  by_cases q : k + w ≤ cells
  · have e := mFree_loop d h L k w (by omega) w 0 (by omega) (fun j z => by omega)
    simp (disch := (first | omega | (simp only [kd_sI, kd_sL, kd_sR, kd_cp, kd_aI]; omega) | (unfold catV; exact rfl) | (unfold catS; exact Nat.le_of_ble_eq_true rfl) | assumption)) only [q_144_0, q_144_1, q_144_2, q_144_3, q_144_4, q_144_7, q_144_8, q_144_9_t, q_144_9_f, q_144_12, q_144_13, q_144_16, q_144_17, q_144_18, q_144_19, q_144_23, q_144_24, q_144_25, q_144_26_t, q_144_26_f, q_144_29, q_144_30_t, q_144_30_f, q_144_33, q_144_34, q_144_37, q_144_39, q_144_40, q_144_41_t, q_144_41_f, q_144_44, q_144_45, q_144_48, q_144_49, q_144_50, q_144_53, q_144_56, q_144_57, aft_i, aft_l, aft_v, Int.toNat_natCast, kd_sI, kd_sL, kd_sR, kd_cp, gI_sL, gI_sR, gL_sI, gL_sR, gR_sI, gR_sL, gL_cp, gR_cp, kd_aI, gL_aI, gR_aI, gI_aI, gI_aIn, sI_aI, gI_sIn, Int.reduceToNat, Int.reduceAdd, Int.reduceSub, Int.reduceMul, Int.reduceNeg, Int.zero_add, r141_7]
    rw [decide_eq_true q, Bool.true_and]
    exact e
  · rw [decide_eq_false q, Bool.false_and, if_neg (by decide)]
    simp (disch := (first | omega | (simp only [kd_sI, kd_sL, kd_sR, kd_cp, kd_aI]; omega) | (unfold catV; exact rfl) | (unfold catS; exact Nat.le_of_ble_eq_true rfl) | assumption)) only [q_144_0, q_144_1, q_144_2, q_144_3, q_144_4, q_144_7, q_144_8, q_144_9_t, q_144_9_f, q_144_12, q_144_13, q_144_16, q_144_17, q_144_18, q_144_19, q_144_23, q_144_24, q_144_25, q_144_26_t, q_144_26_f, q_144_29, q_144_30_t, q_144_30_f, q_144_33, q_144_34, q_144_37, q_144_39, q_144_40, q_144_41_t, q_144_41_f, q_144_44, q_144_45, q_144_48, q_144_49, q_144_50, q_144_53, q_144_56, q_144_57, aft_i, aft_l, aft_v, Int.toNat_natCast, kd_sI, kd_sL, kd_sR, kd_cp, gI_sL, gI_sR, gL_sI, gL_sR, gR_sI, gR_sL, gL_cp, gR_cp, kd_aI, gL_aI, gR_aI, gI_aI, gI_aIn, sI_aI, gI_sIn, Int.reduceToNat, Int.reduceAdd, Int.reduceSub, Int.reduceMul, Int.reduceNeg, Int.zero_add, r141_7]
    rw [q_144_21]
    by_cases z : (k : Int) < k + w
    · simp (disch := (first | omega | (simp only [kd_sI, kd_sL, kd_sR, kd_cp, kd_aI]; omega) | (unfold catV; exact rfl) | (unfold catS; exact Nat.le_of_ble_eq_true rfl) | assumption)) only [q_144_0, q_144_1, q_144_2, q_144_3, q_144_4, q_144_7, q_144_8, q_144_9_t, q_144_9_f, q_144_12, q_144_13, q_144_16, q_144_17, q_144_18, q_144_19, q_144_23, q_144_24, q_144_25, q_144_26_t, q_144_26_f, q_144_29, q_144_30_t, q_144_30_f, q_144_33, q_144_34, q_144_37, q_144_39, q_144_40, q_144_41_t, q_144_41_f, q_144_44, q_144_45, q_144_48, q_144_49, q_144_50, q_144_53, q_144_56, q_144_57, aft_i, aft_l, aft_v, Int.toNat_natCast, kd_sI, kd_sL, kd_sR, kd_cp, gI_sL, gI_sR, gL_sI, gL_sR, gR_sI, gR_sL, gL_cp, gR_cp, kd_aI, gL_aI, gR_aI, gI_aI, gI_aIn, sI_aI, gI_sIn, Int.reduceToNat, Int.reduceAdd, Int.reduceSub, Int.reduceMul, Int.reduceNeg, Int.zero_add, r141_7]
    · simp (disch := (first | omega | (simp only [kd_sI, kd_sL, kd_sR, kd_cp, kd_aI]; omega) | (unfold catV; exact rfl) | (unfold catS; exact Nat.le_of_ble_eq_true rfl) | assumption)) only [q_144_0, q_144_1, q_144_2, q_144_3, q_144_4, q_144_7, q_144_8, q_144_9_t, q_144_9_f, q_144_12, q_144_13, q_144_16, q_144_17, q_144_18, q_144_19, q_144_23, q_144_24, q_144_25, q_144_26_t, q_144_26_f, q_144_29, q_144_30_t, q_144_30_f, q_144_33, q_144_34, q_144_37, q_144_39, q_144_40, q_144_41_t, q_144_41_f, q_144_44, q_144_45, q_144_48, q_144_49, q_144_50, q_144_53, q_144_56, q_144_57, aft_i, aft_l, aft_v, Int.toNat_natCast, kd_sI, kd_sL, kd_sR, kd_cp, gI_sL, gI_sR, gL_sI, gL_sR, gR_sI, gR_sL, gL_cp, gR_cp, kd_aI, gL_aI, gR_aI, gI_aI, gI_aIn, sI_aI, gI_sIn, Int.reduceToNat, Int.reduceAdd, Int.reduceSub, Int.reduceMul, Int.reduceNeg, Int.zero_add, r141_7]
theorem mFree_t (d : Nat) (h : mH) (L : LAY h) (cells k w : Nat) (hc : gI h 147 0 = cells) (h4 : cells ≤ 40) (hk : k ≤ 100) (hw : w ≤ 6) (q : freeB (gI h 153) cells k w = true) : callA (d + 1) 144 [Sum.inr (Sum.inr (some 141)), Sum.inl (k : Int), Sum.inl (w : Int)] h = some (some (Sum.inl 1), h) := by
  rw [mFree_ok d h L cells k w hc h4 hk hw, if_pos q]
theorem mFree_f (d : Nat) (h : mH) (L : LAY h) (cells k w : Nat) (hc : gI h 147 0 = cells) (h4 : cells ≤ 40) (hk : k ≤ 100) (hw : w ≤ 6) (q : ¬ freeB (gI h 153) cells k w = true) : callA (d + 1) 144 [Sum.inr (Sum.inr (some 141)), Sum.inl (k : Int), Sum.inl (w : Int)] h = some (some (Sum.inl 0), h) := by
  rw [mFree_ok d h L cells k w hc h4 hk hw, if_neg q]
