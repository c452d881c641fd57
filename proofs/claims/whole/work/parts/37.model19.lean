theorem mKeepRow_loop (d : Nat) (h : mH) (L : LAY h) (n : Nat) (hn : gI h 141 19 = n) (n7 : n ≤ 7) : ∀ (k i : Nat), i + k = n → resA (callA d) 175 (2, [Sum.inr (Sum.inr (some 141)), Sum.inl (i : Int)], [], aI h 155 (mixI i (gI h 152) (gI h 155))) = some (none, aI h 155 (mixI n (gI h 152) (gI h 155)))
  | 0, i, hi => by
    have e : i = n := by omega
    subst e
    obtain ⟨k141, j141⟩ := lay_k L (a := 141) (t := 8) (n := 26) rfl
    simp (disch := (first | omega | (simp only [kd_sI, kd_sL, kd_sR, kd_cp, kd_aI]; omega) | (unfold catV; exact rfl) | (unfold catS; exact Nat.le_of_ble_eq_true rfl) | assumption)) only [q_175_0, q_175_1, q_175_2, q_175_3, q_175_4, q_175_7_t, q_175_7_f, q_175_10, q_175_11, q_175_14, q_175_15, q_175_16, q_175_19, q_175_20, q_175_21, q_175_22, q_175_25, q_175_28, aft_i, aft_l, aft_v, Int.toNat_natCast, kd_sI, kd_sL, kd_sR, kd_cp, gI_sL, gI_sR, gL_sI, gL_sR, gR_sI, gR_sL, gL_cp, gR_cp, kd_aI, gL_aI, gR_aI, gI_aI, gI_aIn, sI_aI, gI_sIn, Int.reduceToNat, Int.reduceAdd, Int.reduceSub, Int.reduceMul, Int.reduceNeg, Int.zero_add, hn]
  | k + 1, i, hi => by
    have ih := mKeepRow_loop d h L n hn n7 k (i + 1) (by omega)
    obtain ⟨k141, j141⟩ := lay_k L (a := 141) (t := 8) (n := 26) rfl; obtain ⟨k152, j152⟩ := lay_k L (a := 152) (t := 100) (n := 7) rfl; obtain ⟨k155, j155⟩ := lay_k L (a := 155) (t := 100) (n := 7) rfl; have r141_18 : gR h 141 18 = some 152 := lay_r L rfl; have r141_22 : gR h 141 22 = some 155 := lay_r L rfl
    rw [q_175_2]
    simp (disch := (first | omega | (simp only [kd_sI, kd_sL, kd_sR, kd_cp, kd_aI]; omega) | (unfold catV; exact rfl) | (unfold catS; exact Nat.le_of_ble_eq_true rfl) | assumption)) only [q_175_0, q_175_1, q_175_3, q_175_4, q_175_7_t, q_175_7_f, q_175_10, q_175_11, q_175_14, q_175_15, q_175_16, q_175_19, q_175_20, q_175_21, q_175_22, q_175_25, q_175_28, aft_i, aft_l, aft_v, Int.toNat_natCast, kd_sI, kd_sL, kd_sR, kd_cp, gI_sL, gI_sR, gL_sI, gL_sR, gR_sI, gR_sL, gL_cp, gR_cp, kd_aI, gL_aI, gR_aI, gI_aI, gI_aIn, sI_aI, gI_sIn, Int.reduceToNat, Int.reduceAdd, Int.reduceSub, Int.reduceMul, Int.reduceNeg, Int.zero_add, r141_18, r141_22, hn]
    rw [← mixI_up i] at ih
    exact ih
theorem mKeepRow_ok (d : Nat) (h : mH) (L : LAY h) (n : Nat) (hn : gI h 141 19 = n) (n7 : n ≤ 7) : callA (d + 1) 175 [Sum.inr (Sum.inr (some 141))] h = some (none, aI h 155 (mixI n (gI h 152) (gI h 155))) := by
  have e := mKeepRow_loop d h L n hn n7 n 0 (Nat.zero_add _)
  rw [mixI_0, aI_id, show ((0 : Nat) : Int) = 0 from rfl] at e
  rw [en_175]
  simp (disch := (first | omega | (simp only [kd_sI, kd_sL, kd_sR, kd_cp, kd_aI]; omega) | (unfold catV; exact rfl) | (unfold catS; exact Nat.le_of_ble_eq_true rfl) | assumption)) only [q_175_0, q_175_1, q_175_3, q_175_4, q_175_7_t, q_175_7_f, q_175_10, q_175_11, q_175_14, q_175_15, q_175_16, q_175_19, q_175_20, q_175_21, q_175_22, q_175_25, q_175_28, aft_i, aft_l, aft_v, Int.toNat_natCast, kd_sI, kd_sL, kd_sR, kd_cp, gI_sL, gI_sR, gL_sI, gL_sR, gR_sI, gR_sL, gL_cp, gR_cp, kd_aI, gL_aI, gR_aI, gI_aI, gI_aIn, sI_aI, gI_sIn, Int.reduceToNat, Int.reduceAdd, Int.reduceSub, Int.reduceMul, Int.reduceNeg, Int.zero_add, e]
/-- those that are not lost, by their numbers -/
def notLost (N : Nt) (n : Nat) : List Nat := (List.range n).filter (fun c => decide (c ∈ rowL N))
theorem plF_in {N : Nt} {c : Nat} : plF (fun i => (nR N i : Int)) c (nM N) 0 ≠ -9 ↔ c ∈ rowL N := by
  rw [rowL_mem]
  refine ⟨fun z => ?_, fun ⟨i, hi, e⟩ z => ?_⟩
  · obtain ⟨p, -, p2, p3, -⟩ := plF_yes z
    exact ⟨p, by omega, by have : (nR N p : Int) = c := p3; omega⟩
  · exact plF_no z i (Nat.zero_le _) (by omega) (by show (nR N i : Int) = c; omega)
