theorem mKeepRow_loop (d : Nat) (h : mH) (L : LAY h) (n : Nat) (hn : gI h 141 19 = n) (n7 : n ≤ 7) : ∀ (k i : Nat), i + k = n → resA (callA d) 175 (2, [Sum.inr (Sum.inr (some 141)), Sum.inl (i : Int)], [], aI h 155 (mixI i (gI h 152) (gI h 155))) = some (none, aI h 155 (mixI n (gI h 152) (gI h 155)))
  | 0, i, hi => by
    have e : i = n := by omega
    subst e
    obtain ⟨k141, j141⟩ := lay_k L (a := 141) (t := 8) (n := 26) rfl
    simp (disch := (first | omega | (simp only [kd_sI, kd_sL, kd_sR, kd_cp, kd_aI]; omega) | (unfold catV; exact rfl) | (unfold catS; exact Nat.le_of_ble_eq_true rfl) | assumption)) only [q_175_0, q_175_1, q_175_2, q_175_3, q_175_4, q_175_7_t, q_175_7_f, q_175_10, q_175_11, q_175_14, q_175_15, q_175_16, q_175_19, q_175_20, q_175_21, q_175_22, q_175_25, q_175_28, aft_i, aft_l, aft_v, Int.toNat_natCast, kd_sI, kd_sL, kd_sR, kd_cp, gI_sL, gI_sR, gL_sI, gL_sR, gR_sI, gR_sL, gL_cp, gR_cp, kd_aI, gL_aI, gR_aI, gI_aI, gI_aIn, sI_aI, gI_sIn, Int.reduceToNat, Int.reduceAdd, Int.reduceSub, Int.reduceMul, Int.reduceNeg, Int.zero_add, hn]
  | k + 1, i, hi => by
    have ih := mKeepRow_loop d h L n hn n7 k (i + 1) (by omega)
    obtain ⟨k141, j141⟩ := lay_k L (a := 141) (t := 8) (n := 26) rfl; obtain ⟨k152, j152⟩ := lay_k L (a := 152) (t := 100) (n := 7) rfl; obtain ⟨k155, j155⟩ := lay_k L (a := 155) (t := 100) (n := 7) rfl; have r141_18 : gR h 141 18 = some 152 := lay_r L rfl; have r141_22 : gR h 141 22 = some 155 := lay_r L rfl
    rw [q_175_2]
    simp (disch := (first | omega | (simp only [kd_sI, kd_sL, kd_sR, kd_cp, kd_aI]; omega) | (unfold catV; exact rfl) | (unfold catS; exact Nat.le_of_ble_eq_true rfl) | assumption)) only [q_175_0, q_175_1, q_175_3, q_175_4, q_175_7_t, q_175_7_f, q_175_10, q_175_11, q_175_14, q_175_15, q_175_16, q_175_19, q_175_20, q_175_21, q_175_22, q_175_25, q_175_28, aft_i, aft_l, aft_v, Int.toNat_natCast, kd_sI, kd_sL, kd_sR, kd_cp, gI_sL, gI_sR, gL_sI, gL_sR, gR_sI, gR_sL, gL_cp, gR_cp, kd_aI, gL_aI, gR_aI, gI_aI, gI_aIn, sI_aI, gI_sIn, Int.reduceToNat, Int.reduceAdd, Int.reduceSub, Int.reduceMul, Int.reduceNeg, Int.zero_add, r141_18, r141_22, hn]
    rw [← mixI_up i] at ih
    exact ih
theorem mKeepRow_ok (d : Nat) (h : mH) (L : LAY h) (n : Nat) (hn : gI h 141 19 = n) (n7 : n ≤ 7) : callA (d + 1) 175 [Sum.inr (Sum.inr (some 141))] h = some (none, aI h 155 (mixI n (gI h 152) (gI h 155))) := by
  have e := mKeepRow_loop d h L n hn n7 n 0 (Nat.zero_add _)
  rw [mixI_0, aI_id, show ((0 : Nat) : Int) = 0 from rfl] at e
  rw [en_175]
  simp (disch := (first | omega | (simp only [kd_sI, kd_sL, kd_sR, kd_cp, kd_aI]; omega) | (unfold catV; exact rfl) | (unfold catS; exact Nat.le_of_ble_eq_true rfl) | assumption)) only [q_175_0, q_175_1, q_175_3, q_175_4, q_175_7_t, q_175_7_f, q_175_10, q_175_11, q_175_14, q_175_15, q_175_16, q_175_19, q_175_20, q_175_21, q_175_22, q_175_25, q_175_28, aft_i, aft_l, aft_v, Int.toNat_natCast, kd_sI, kd_sL, kd_sR, kd_cp, gI_sL, gI_sR, gL_sI, gL_sR, gR_sI, gR_sL, gL_cp, gR_cp, kd_aI, gL_aI, gR_aI, gI_aI, gI_aIn, sI_aI, gI_sIn, Int.reduceToNat, Int.reduceAdd, Int.reduceSub, Int.reduceMul, Int.reduceNeg, Int.zero_add, e]
/-- those that are not lost, by their numbers -/
def notLost (N : Nt) (n : Nat) : List Nat := (List.range n).filter (fun c => decide (c ∈ rowL N))
theorem plF_in {N : Nt} {c : Nat} : plF (fun i => (nR N i : Int)) c (nM N) 0 ≠ -9 ↔ c ∈ rowL N := by
  rw [rowL_mem]
  refine ⟨fun z => ?_, fun ⟨i, hi, e⟩ z => ?_⟩
  · obtain ⟨p, -, p2, p3, -⟩ := plF_yes z
    exact ⟨p, by omega, by have : (nR N p : Int) = c := p3; omega⟩
  · exact plF_no z i (Nat.zero_le _) (by omega) (by show (nR N i : Int) = c; omega)
theorem notLost_s {N : Nt} {n : Nat} : notLost N (n + 1) = notLost N n ++ if n ∈ rowL N then [n] else [] := by
  unfold notLost
  rw [List.range_succ, List.filter_append]
  congr 1
  by_cases z : n ∈ rowL N
  · simp only [List.filter_cons, List.filter_nil, z, decide_true, if_true]
  · simp only [List.filter_cons, List.filter_nil, z, decide_false, Bool.false_eq_true, if_false]
theorem notLost_le {N : Nt} {n : Nat} : (notLost N n).length ≤ n := by
  have := List.length_filter_le (fun c => decide (c ∈ rowL N)) (List.range n)
  rw [List.length_range] at this
  exact this
theorem mFirst_loop (d : Nat) (h : mH) (L0 : LAY h) (T : Td) (N : Nt) (wT : wfT T) (wN : wfN T N) (t : mT h T) (u : mNow h T N) : ∀ (k i : Nat) (g : mH), scr h g → i + k = tN T → gI g 141 19 = (notLost N i).length → rwO (gI g 152) 0 (notLost N i) → ∃ g2, scr h g2 ∧ gI g2 141 19 = (notLost N (tN T)).length ∧ rwO (gI g2 152) 0 (notLost N (tN T)) ∧ resA (callA (d + 1)) 173 (7, [Sum.inr (Sum.inr (some 141)), Sum.inl (i : Int)], [], g) = some (none, g2) ∧ gI g2 153 = gI g 153
  | 0, i, g, sg, hi, h19, hr => by
    have c7 := wT.1
    have e : i = tN T := by omega
    subst e
    have tg := (scr_mT sg t).1
    have Lg := scr_L sg L0
    obtain ⟨k141, j141⟩ := lay_k Lg (a := 141) (t := 8) (n := 26) rfl; obtain ⟨k143, j143⟩ := lay_k Lg (a := 143) (t := 100) (n := 2) rfl; have r141_3 : gR g 141 3 = some 143 := lay_r Lg rfl
    refine ⟨g, sg, h19, hr, ?_, rfl⟩
    simp (disch := (first | omega | (simp only [kd_sI, kd_sL, kd_sR, kd_cp, kd_aI]; omega) | (unfold catV; exact rfl) | (unfold catS; exact Nat.le_of_ble_eq_true rfl) | assumption)) only [q_173_0, q_173_1, q_173_2, q_173_5, q_173_6, q_173_7, q_173_8, q_173_9, q_173_12, q_173_13, q_173_14_t, q_173_14_f, q_173_17, q_173_18, q_173_19, q_173_22, q_173_24_t, q_173_24_f, q_173_27, q_173_28, q_173_31, q_173_32, q_173_35, q_173_36, q_173_37, q_173_38, q_173_39, q_173_42, q_173_43, q_173_44, q_173_47, q_173_50, q_173_53, aft_i, aft_l, aft_v, Int.toNat_natCast, kd_sI, kd_sL, kd_sR, kd_cp, gI_sL, gI_sR, gL_sI, gL_sR, gR_sI, gR_sL, gL_cp, gR_cp, kd_aI, gL_aI, gR_aI, gI_aI, gI_aIn, sI_aI, gI_sIn, Int.reduceToNat, Int.reduceAdd, Int.reduceSub, Int.reduceMul, Int.reduceNeg, Int.zero_add, r141_3, tg]
  | k + 1, i, g, sg, hi, h19, hr => by
    have c7 := wT.1
    have n7 : nM N ≤ 7 := Nat.le_trans wN.1 wT.1
    have tg := (scr_mT sg t).1
    have Lg := scr_L sg L0
    have ug := scr_mN sg u
    have le := notLost_le (N := N) (n := i)
    have ep := mPlace_ok d g Lg i (nM N) ug.1 n7
    rw [plF_congr (g := fun i => (nR N i : Int)) (fun i _ hi => ug.2.1 i (by omega))] at ep
    have es := notLost_s (N := N) (n := i)
    obtain ⟨k141, j141⟩ := lay_k Lg (a := 141) (t := 8) (n := 26) rfl; obtain ⟨k143, j143⟩ := lay_k Lg (a := 143) (t := 100) (n := 2) rfl; obtain ⟨k152, j152⟩ := lay_k Lg (a := 152) (t := 100) (n := 7) rfl; have r141_3 : gR g 141 3 = some 143 := lay_r Lg rfl; have r141_18 : gR g 141 18 = some 152 := lay_r Lg rfl
    by_cases z : i ∈ rowL N
    · rw [if_pos z] at es
      have z2 := plF_in.mpr z
      have sg2 : scr h (sI (sI g 152 (notLost N i).length i) 141 19 (((notLost N i).length : Int) + 1)) := by
        rw [sI_is g 152]
        exact scr_tr sg (scr_tr (scr_aI (by omega)) scr_r)
      obtain ⟨g2, s2, h2, r2, e2, f2⟩ := mFirst_loop d h L0 T N wT wN t u k (i + 1) _ sg2 (by omega) (by rw [gI_sIs, es, List.length_append, List.length_singleton]; rfl) (by
        rw [gI_sIn (by omega), gI_sIu, es]
        refine rwO_app.mpr ⟨rwO_congr (fun i hi => upI_n (by omega)) hr, rwO_cons.mpr ⟨?_, rwO_nil _ _⟩⟩
        rw [Nat.zero_add, upI_s])
      refine ⟨g2, s2, h2, r2, ?_, by rw [f2, gI_sIn (by omega), gI_sIn (by omega)]⟩
      rw [q_173_7]
      simp (disch := (first | omega | (simp only [kd_sI, kd_sL, kd_sR, kd_cp, kd_aI]; omega) | (unfold catV; exact rfl) | (unfold catS; exact Nat.le_of_ble_eq_true rfl) | assumption)) only [q_173_0, q_173_1, q_173_2, q_173_5, q_173_6, q_173_8, q_173_9, q_173_12, q_173_13, q_173_14_t, q_173_14_f, q_173_17, q_173_18, q_173_19, q_173_22, q_173_24_t, q_173_24_f, q_173_27, q_173_28, q_173_31, q_173_32, q_173_35, q_173_36, q_173_37, q_173_38, q_173_39, q_173_42, q_173_43, q_173_44, q_173_47, q_173_50, q_173_53, aft_i, aft_l, aft_v, Int.toNat_natCast, kd_sI, kd_sL, kd_sR, kd_cp, gI_sL, gI_sR, gL_sI, gL_sR, gR_sI, gR_sL, gL_cp, gR_cp, kd_aI, gL_aI, gR_aI, gI_aI, gI_aIn, sI_aI, gI_sIn, Int.reduceToNat, Int.reduceAdd, Int.reduceSub, Int.reduceMul, Int.reduceNeg, Int.zero_add, r141_3, r141_18, tg, ep, z2, h19, gI_sIs]
      exact e2
    · rw [if_neg z, List.append_nil] at es
      have z2 : plF (fun i => (nR N i : Int)) i (nM N) 0 = -9 := Decidable.byContradiction (fun y => z (plF_in.mp y))
      obtain ⟨g2, s2, h2, r2, e2, f2⟩ := mFirst_loop d h L0 T N wT wN t u k (i + 1) g sg (by omega) (by rw [es]; exact h19) (by rw [es]; exact hr)
      refine ⟨g2, s2, h2, r2, ?_, f2⟩
      rw [z2] at ep
      rw [q_173_7]
      simp (disch := (first | omega | (simp only [kd_sI, kd_sL, kd_sR, kd_cp, kd_aI]; omega) | (unfold catV; exact rfl) | (unfold catS; exact Nat.le_of_ble_eq_true rfl) | assumption)) only [q_173_0, q_173_1, q_173_2, q_173_5, q_173_6, q_173_8, q_173_9, q_173_12, q_173_13, q_173_14_t, q_173_14_f, q_173_17, q_173_18, q_173_19, q_173_22, q_173_24_t, q_173_24_f, q_173_27, q_173_28, q_173_31, q_173_32, q_173_35, q_173_36, q_173_37, q_173_38, q_173_39, q_173_42, q_173_43, q_173_44, q_173_47, q_173_50, q_173_53, aft_i, aft_l, aft_v, Int.toNat_natCast, kd_sI, kd_sL, kd_sR, kd_cp, gI_sL, gI_sR, gL_sI, gL_sR, gR_sI, gR_sL, gL_cp, gR_cp, kd_aI, gL_aI, gR_aI, gI_aI, gI_aIn, sI_aI, gI_sIn, Int.reduceToNat, Int.reduceAdd, Int.reduceSub, Int.reduceMul, Int.reduceNeg, Int.zero_add, r141_3, r141_18, tg, ep]
      exact e2
theorem mFirst_ok (d : Nat) (h : mH) (L0 : LAY h) (T : Td) (N : Nt) (wT : wfT T) (wN : wfN T N) (t : mT h T) (u : mNow h T N) : ∃ g, callA (d + 2) 173 [Sum.inr (Sum.inr (some 141))] h = some (none, g) ∧ scr h g ∧ gI g 141 19 = (notLost N (tN T)).length ∧ rwO (gI g 152) 0 (notLost N (tN T)) ∧ gI g 153 = gI h 153 := by
  obtain ⟨g2, s2, h2, r2, e2, f2⟩ := mFirst_loop d h L0 T N wT wN t u (tN T) 0 (sI h 141 19 0) scr_r (Nat.zero_add _) (by rw [gI_sIs]; rfl) (rwO_nil _ _)
  have e2 : resA (callA (d + 1)) 173 (7, [Sum.inr (Sum.inr (some 141)), Sum.inl 0], [], sI h 141 19 0) = some (none, g2) := e2
  refine ⟨g2, ?_, s2, h2, r2, by rw [f2, gI_sIn (by omega)]⟩
  obtain ⟨k141, j141⟩ := lay_k L0 (a := 141) (t := 8) (n := 26) rfl
  rw [en_173]
  simp (disch := (first | omega | (simp only [kd_sI, kd_sL, kd_sR, kd_cp, kd_aI]; omega) | (unfold catV; exact rfl) | (unfold catS; exact Nat.le_of_ble_eq_true rfl) | assumption)) only [q_173_0, q_173_1, q_173_2, q_173_5, q_173_6, q_173_8, q_173_9, q_173_12, q_173_13, q_173_14_t, q_173_14_f, q_173_17, q_173_18, q_173_19, q_173_22, q_173_24_t, q_173_24_f, q_173_27, q_173_28, q_173_31, q_173_32, q_173_35, q_173_36, q_173_37, q_173_38, q_173_39, q_173_42, q_173_43, q_173_44, q_173_47, q_173_50, q_173_53, aft_i, aft_l, aft_v, Int.toNat_natCast, kd_sI, kd_sL, kd_sR, kd_cp, gI_sL, gI_sR, gL_sI, gL_sR, gR_sI, gR_sL, gL_cp, gR_cp, kd_aI, gL_aI, gR_aI, gI_aI, gI_aIn, sI_aI, gI_sIn, Int.reduceToNat, Int.reduceAdd, Int.reduceSub, Int.reduceMul, Int.reduceNeg, Int.zero_add, e2]
theorem mRiv_ok (d : Nat) (h : mH) (L : LAY h) (T : Td) (N : Nt) (wT : wfT T) (u : mNow h T N) (k : Nat) (hk : k < tK T) : callA (d + 1) 178 [Sum.inr (Sum.inr (some 141)), Sum.inl (k : Int)] h = some (some (Sum.inl (bI ((nV N).testBit k))), h) := by
  have k4 := wT.2.1
  have ul := u.2.2.2.2 k hk
  have ix : (16 + (k : Int)).toNat = 16 + k := by omega
  obtain ⟨k141, j141⟩ := lay_k L (a := 141) (t := 8) (n := 26) rfl; obtain ⟨k150, j150⟩ := lay_k L (a := 150) (t := 100) (n := 1851) rfl; have r141_16 : gR h 141 16 = some 150 := lay_r L rfl
  rw [en_178]
  by_cases z : (nV N).testBit k = true
  · have e := lnd_two (T := T) |>.mpr z
    rw [z]
    simp (disch := (first | omega | (simp only [kd_sI, kd_sL, kd_sR, kd_cp, kd_aI]; omega) | (unfold catV; exact rfl) | (unfold catS; exact Nat.le_of_ble_eq_true rfl) | assumption)) only [q_178_0, q_178_1, q_178_4, q_178_6, q_178_7, q_178_8, q_178_9, q_178_10_t, q_178_10_f, q_178_13, q_178_14, q_178_17, q_178_18, aft_i, aft_l, aft_v, Int.toNat_natCast, kd_sI, kd_sL, kd_sR, kd_cp, gI_sL, gI_sR, gL_sI, gL_sR, gR_sI, gR_sL, gL_cp, gR_cp, kd_aI, gL_aI, gR_aI, gI_aI, gI_aIn, sI_aI, gI_sIn, Int.reduceToNat, Int.reduceAdd, Int.reduceSub, Int.reduceMul, Int.reduceNeg, Int.zero_add, r141_16, ix, ul, e]
    rfl
  · have e : lnd T N k ≠ 2 := fun y => z (lnd_two.mp y)
    rw [Bool.eq_false_iff.mpr z]
    simp (disch := (first | omega | (simp only [kd_sI, kd_sL, kd_sR, kd_cp, kd_aI]; omega) | (unfold catV; exact rfl) | (unfold catS; exact Nat.le_of_ble_eq_true rfl) | assumption)) only [q_178_0, q_178_1, q_178_4, q_178_6, q_178_7, q_178_8, q_178_9, q_178_10_t, q_178_10_f, q_178_13, q_178_14, q_178_17, q_178_18, aft_i, aft_l, aft_v, Int.toNat_natCast, kd_sI, kd_sL, kd_sR, kd_cp, gI_sL, gI_sR, gL_sI, gL_sR, gR_sI, gR_sL, gL_cp, gR_cp, kd_aI, gL_aI, gR_aI, gI_aI, gI_aIn, sI_aI, gI_sIn, Int.reduceToNat, Int.reduceAdd, Int.reduceSub, Int.reduceMul, Int.reduceNeg, Int.zero_add, r141_16, ix, ul, e]
    rfl
