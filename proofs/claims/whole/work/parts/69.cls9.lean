def pcB (T : Td) (N : Nt) (hh : Int) (b : Bool) (c : Nat) : Bool := decide (c ∈ rowL N) && (qkB T hh c == b)
theorem qkL_f (T : Td) (N : Nt) (hh : Int) (b : Bool) : qkL T N hh b = (List.range' 0 (tN T)).filter (pcB T N hh b) := by
  unfold qkL notLost pcB
  rw [List.filter_filter, List.range_eq_range']
  refine List.filter_congr (fun x _ => ?_)
  exact Bool.and_comm _ _
def giO (l : List Nat) (i : Nat) : Int := vO l[i]?
theorem giO_is (l : List Nat) (j : Nat) : (if (j : Int) < l.length then (ofL l j : Int) else -9) = giO l j := by
  unfold giO
  by_cases z : j < l.length
  · rw [if_pos (by omega), List.getElem?_eq_getElem z, ofL_at z]
    rfl
  · rw [if_neg (by omega), List.getElem?_eq_none (by omega)]
    rfl
theorem wQk_ok (d : Nat) (h : mH) (L : LAY h) (T : Td) (wT : wfT T) (t : cT h T) (c : Nat) (hc : c < tN T) (hh : Int) : callA (d + 2) 109 [Sum.inr (Sum.inr (some 0)), Sum.inl (c : Int), Sum.inl hh] h = some (some (Sum.inl (if qkB T hh c = true then 1 else 0)), h) := by
  have e := wHours_ok d h L T wT t c hc
  unfold qkB
  obtain ⟨k0, j0⟩ := lay_k L (a := 0) (t := 7) (n := 17) rfl; obtain ⟨k3, j3⟩ := lay_k L (a := 3) (t := 6) (n := 8) rfl; have r0_1 : gR h 0 1 = some 3 := lay_r L rfl
  rw [en_109]
  by_cases z : (hrs T c : Int) ≤ hh
  · rw [decide_eq_true z]
    simp (disch := (first | omega | (simp only [kd_sI, kd_sL, kd_sR, kd_cp, kd_aI]; omega) | (unfold catV; exact rfl) | (unfold catS; exact Nat.le_of_ble_eq_true rfl) | assumption)) only [q_109_0, q_109_1, q_109_4, q_109_5, q_109_8, q_109_9_t, q_109_9_f, q_109_12, q_109_13, q_109_16, q_109_17, aft_i, aft_l, aft_v, Int.toNat_natCast, kd_sI, kd_sL, kd_sR, kd_cp, gI_sL, gI_sR, gL_sI, gL_sR, gR_sI, gR_sL, gL_cp, gR_cp, kd_aI, gL_aI, gR_aI, gI_aI, gI_aIn, sI_aI, gI_sIn, Int.reduceToNat, Int.reduceAdd, Int.reduceSub, Int.reduceMul, Int.reduceNeg, Int.zero_add, r0_1, e]
    rfl
  · rw [decide_eq_false z]
    simp (disch := (first | omega | (simp only [kd_sI, kd_sL, kd_sR, kd_cp, kd_aI]; omega) | (unfold catV; exact rfl) | (unfold catS; exact Nat.le_of_ble_eq_true rfl) | assumption)) only [q_109_0, q_109_1, q_109_4, q_109_5, q_109_8, q_109_9_t, q_109_9_f, q_109_12, q_109_13, q_109_16, q_109_17, aft_i, aft_l, aft_v, Int.toNat_natCast, kd_sI, kd_sL, kd_sR, kd_cp, gI_sL, gI_sR, gL_sI, gL_sR, gR_sI, gR_sL, gL_cp, gR_cp, kd_aI, gL_aI, gR_aI, gI_aI, gI_aIn, sI_aI, gI_sIn, Int.reduceToNat, Int.reduceAdd, Int.reduceSub, Int.reduceMul, Int.reduceNeg, Int.zero_add, r0_1, e]
    rfl
theorem wSo_loop (d : Nat) (h : mH) (L : LAY h) (T : Td) (N : Nt) (wT : wfT T) (wN : wfN T N) (q : Cq h T N) (hh i : Int) (S : Nat) : ∀ (k c acc : Nat), acc ≤ c → c + k = tN T → acc + ((List.range' c k).filter (pcB T N hh true)).length = S → resA (callA (d + 2)) 82 (25, [Sum.inr (Sum.inr (some 0)), Sum.inl hh, Sum.inl i, Sum.inl (acc : Int), Sum.inl (c : Int)], [], h) = resA (callA (d + 2)) 82 (71, [Sum.inr (Sum.inr (some 0)), Sum.inl hh, Sum.inl i, Sum.inl (S : Int), Sum.inl (tN T : Int)], [], h)
  | 0, c, acc, ha, hc, hs => by
    have e : c = tN T := hc
    have c7 := wT.1
    have t1 := q.1.1
    have hs : acc + 0 = S := hs
    rw [Nat.add_zero] at hs
    subst e
    subst hs
    obtain ⟨k0, j0⟩ := lay_k L (a := 0) (t := 7) (n := 17) rfl; obtain ⟨k3, j3⟩ := lay_k L (a := 3) (t := 6) (n := 8) rfl; have r0_1 : gR h 0 1 = some 3 := lay_r L rfl
    simp (disch := (first | omega | (simp only [kd_sI, kd_sL, kd_sR, kd_cp, kd_aI]; omega) | (unfold catV; exact rfl) | (unfold catS; exact Nat.le_of_ble_eq_true rfl) | assumption)) only [q_82_0, q_82_1, q_82_4_t, q_82_4_f, q_82_7, q_82_8, q_82_9_t, q_82_9_f, q_82_12, q_82_13, q_82_15_t, q_82_15_f, q_82_18, q_82_19, q_82_20, q_82_21, q_82_22, q_82_23, q_82_25, q_82_27, q_82_28, q_82_31, q_82_34_t, q_82_34_f, q_82_37, q_82_38, q_82_40, q_82_41, q_82_44_t, q_82_44_f, q_82_47, q_82_48, q_82_51, q_82_54, q_82_56, q_82_59_t, q_82_59_f, q_82_62, q_82_65, q_82_68, q_82_72, q_82_73_t, q_82_73_f, q_82_76, q_82_77, q_82_78, q_82_79, q_82_80_t, q_82_80_f, q_82_83, q_82_84, q_82_85, q_82_86, q_82_87, q_82_90, q_82_93, q_82_94, q_82_95, q_82_96, q_82_97, q_82_98, q_82_99, q_82_102, aft_i, aft_l, aft_v, Int.toNat_natCast, kd_sI, kd_sL, kd_sR, kd_cp, gI_sL, gI_sR, gL_sI, gL_sR, gR_sI, gR_sL, gL_cp, gR_cp, kd_aI, gL_aI, gR_aI, gI_aI, gI_aIn, sI_aI, gI_sIn, Int.reduceToNat, Int.reduceAdd, Int.reduceSub, Int.reduceMul, Int.reduceNeg, Int.zero_add, r0_1, t1]
    rfl
  | k + 1, c, acc, ha, hc, hs => by
    have c7 := wT.1
    have t1 := q.1.1
    have e1 := wQk_ok d h L T wT q.1 c (by omega) hh
    have e2 := wLost_ok d h L T N wT wN q.2.1 c
    have fl : ∀ l : List Nat, (l.filter (pcB T N hh true)).length ≤ l.length := fun l => List.length_filter_le _ _
    have fl1 := fl (List.range' (c + 1) k)
    rw [List.length_range'] at fl1
    rw [List.range'_succ, List.filter_cons] at hs
    obtain ⟨k0, j0⟩ := lay_k L (a := 0) (t := 7) (n := 17) rfl; obtain ⟨k3, j3⟩ := lay_k L (a := 3) (t := 6) (n := 8) rfl; obtain ⟨k13, j13⟩ := lay_k L (a := 13) (t := 4) (n := 4) rfl; obtain ⟨k14, j14⟩ := lay_k L (a := 14) (t := 2) (n := 5) rfl; have r0_1 : gR h 0 1 = some 3 := lay_r L rfl; have r0_3 : gR h 0 3 = some 13 := lay_r L rfl; have r13_0 : gR h 13 0 = some 14 := lay_r L rfl
    rw [q_82_25]
    by_cases z : pcB T N hh true c = true
    · rw [if_pos z, List.length_cons] at hs
      have z2 := z
      unfold pcB at z2
      rw [Bool.and_eq_true, decide_eq_true_iff] at z2
      have y1 : qkB T hh c = true := by simpa using z2.2
      have y2 := plF_in.mpr z2.1
      have ih := wSo_loop d h L T N wT wN q hh i S k (c + 1) (acc + 1) (by omega) (by omega) (by omega)
      rw [if_pos y1] at e1
      rw [if_neg y2] at e2
      simp (disch := (first | omega | (simp only [kd_sI, kd_sL, kd_sR, kd_cp, kd_aI]; omega) | (unfold catV; exact rfl) | (unfold catS; exact Nat.le_of_ble_eq_true rfl) | assumption)) only [q_82_0, q_82_1, q_82_4_t, q_82_4_f, q_82_7, q_82_8, q_82_9_t, q_82_9_f, q_82_12, q_82_13, q_82_15_t, q_82_15_f, q_82_18, q_82_19, q_82_20, q_82_21, q_82_22, q_82_23, q_82_27, q_82_28, q_82_31, q_82_34_t, q_82_34_f, q_82_37, q_82_38, q_82_40, q_82_41, q_82_44_t, q_82_44_f, q_82_47, q_82_48, q_82_51, q_82_54, q_82_56, q_82_59_t, q_82_59_f, q_82_62, q_82_65, q_82_68, q_82_72, q_82_73_t, q_82_73_f, q_82_76, q_82_77, q_82_78, q_82_79, q_82_80_t, q_82_80_f, q_82_83, q_82_84, q_82_85, q_82_86, q_82_87, q_82_90, q_82_93, q_82_94, q_82_95, q_82_96, q_82_97, q_82_98, q_82_99, q_82_102, aft_i, aft_l, aft_v, Int.toNat_natCast, kd_sI, kd_sL, kd_sR, kd_cp, gI_sL, gI_sR, gL_sI, gL_sR, gR_sI, gR_sL, gL_cp, gR_cp, kd_aI, gL_aI, gR_aI, gI_aI, gI_aIn, sI_aI, gI_sIn, Int.reduceToNat, Int.reduceAdd, Int.reduceSub, Int.reduceMul, Int.reduceNeg, Int.zero_add, r0_1, t1, e1, r0_3, r13_0, e2]
      exact ih
    · rw [if_neg z] at hs
      have ih := wSo_loop d h L T N wT wN q hh i S k (c + 1) acc (by omega) (by omega) hs
      by_cases y1 : qkB T hh c = true
      · rw [if_pos y1] at e1
        have y2 : plF (fun i => (nR N i : Int)) c (nM N) 0 = -9 := Decidable.byContradiction (fun y => z (by
          unfold pcB
          rw [y1, decide_eq_true (plF_in.mp y)]
          rfl))
        rw [if_pos y2] at e2
        simp (disch := (first | omega | (simp only [kd_sI, kd_sL, kd_sR, kd_cp, kd_aI]; omega) | (unfold catV; exact rfl) | (unfold catS; exact Nat.le_of_ble_eq_true rfl) | assumption)) only [q_82_0, q_82_1, q_82_4_t, q_82_4_f, q_82_7, q_82_8, q_82_9_t, q_82_9_f, q_82_12, q_82_13, q_82_15_t, q_82_15_f, q_82_18, q_82_19, q_82_20, q_82_21, q_82_22, q_82_23, q_82_27, q_82_28, q_82_31, q_82_34_t, q_82_34_f, q_82_37, q_82_38, q_82_40, q_82_41, q_82_44_t, q_82_44_f, q_82_47, q_82_48, q_82_51, q_82_54, q_82_56, q_82_59_t, q_82_59_f, q_82_62, q_82_65, q_82_68, q_82_72, q_82_73_t, q_82_73_f, q_82_76, q_82_77, q_82_78, q_82_79, q_82_80_t, q_82_80_f, q_82_83, q_82_84, q_82_85, q_82_86, q_82_87, q_82_90, q_82_93, q_82_94, q_82_95, q_82_96, q_82_97, q_82_98, q_82_99, q_82_102, aft_i, aft_l, aft_v, Int.toNat_natCast, kd_sI, kd_sL, kd_sR, kd_cp, gI_sL, gI_sR, gL_sI, gL_sR, gR_sI, gR_sL, gL_cp, gR_cp, kd_aI, gL_aI, gR_aI, gI_aI, gI_aIn, sI_aI, gI_sIn, Int.reduceToNat, Int.reduceAdd, Int.reduceSub, Int.reduceMul, Int.reduceNeg, Int.zero_add, r0_1, t1, e1, r0_3, r13_0, e2]
        exact ih
      · rw [if_neg y1] at e1
        simp (disch := (first | omega | (simp only [kd_sI, kd_sL, kd_sR, kd_cp, kd_aI]; omega) | (unfold catV; exact rfl) | (unfold catS; exact Nat.le_of_ble_eq_true rfl) | assumption)) only [q_82_0, q_82_1, q_82_4_t, q_82_4_f, q_82_7, q_82_8, q_82_9_t, q_82_9_f, q_82_12, q_82_13, q_82_15_t, q_82_15_f, q_82_18, q_82_19, q_82_20, q_82_21, q_82_22, q_82_23, q_82_27, q_82_28, q_82_31, q_82_34_t, q_82_34_f, q_82_37, q_82_38, q_82_40, q_82_41, q_82_44_t, q_82_44_f, q_82_47, q_82_48, q_82_51, q_82_54, q_82_56, q_82_59_t, q_82_59_f, q_82_62, q_82_65, q_82_68, q_82_72, q_82_73_t, q_82_73_f, q_82_76, q_82_77, q_82_78, q_82_79, q_82_80_t, q_82_80_f, q_82_83, q_82_84, q_82_85, q_82_86, q_82_87, q_82_90, q_82_93, q_82_94, q_82_95, q_82_96, q_82_97, q_82_98, q_82_99, q_82_102, aft_i, aft_l, aft_v, Int.toNat_natCast, kd_sI, kd_sL, kd_sR, kd_cp, gI_sL, gI_sR, gL_sI, gL_sR, gR_sI, gR_sL, gL_cp, gR_cp, kd_aI, gL_aI, gR_aI, gI_aI, gI_aIn, sI_aI, gI_sIn, Int.reduceToNat, Int.reduceAdd, Int.reduceSub, Int.reduceMul, Int.reduceNeg, Int.zero_add, r0_1, t1, e1]
        exact ih
theorem wIth_loop (d : Nat) (h : mH) (L : LAY h) (T : Td) (N : Nt) (wT : wfT T) (wN : wfN T N) (q : Cq h T N) (hh : Int) (b : Bool) (i : Int) : ∀ (k c left : Nat), left ≤ 100 → c + k = tN T → resA (callA (d + 2)) 110 (6, [Sum.inr (Sum.inr (some 0)), Sum.inl hh, Sum.inl (if b = true then 1 else 0), Sum.inl i, Sum.inl (left : Int), Sum.inl (c : Int)], [], h) = some (some (Sum.inl (giO ((List.range' c k).filter (pcB T N hh b)) left)), h)
  | 0, c, left, hl, hc => by
    have e : c = tN T := hc
    have c7 := wT.1
    have t1 := q.1.1
    subst e
    obtain ⟨k0, j0⟩ := lay_k L (a := 0) (t := 7) (n := 17) rfl; obtain ⟨k3, j3⟩ := lay_k L (a := 3) (t := 6) (n := 8) rfl; have r0_1 : gR h 0 1 = some 3 := lay_r L rfl
    simp (disch := (first | omega | (simp only [kd_sI, kd_sL, kd_sR, kd_cp, kd_aI]; omega) | (unfold catV; exact rfl) | (unfold catS; exact Nat.le_of_ble_eq_true rfl) | assumption)) only [q_110_0, q_110_1, q_110_3, q_110_4, q_110_6, q_110_8, q_110_9, q_110_12, q_110_15_t, q_110_15_f, q_110_18, q_110_19, q_110_21, q_110_22, q_110_25, q_110_26_t, q_110_26_f, q_110_29, q_110_30, q_110_33, q_110_36, q_110_38, q_110_41_t, q_110_41_f, q_110_44, q_110_46_t, q_110_46_f, q_110_49, q_110_51, q_110_52, q_110_55, q_110_58, q_110_61, q_110_63, aft_i, aft_l, aft_v, Int.toNat_natCast, kd_sI, kd_sL, kd_sR, kd_cp, gI_sL, gI_sR, gL_sI, gL_sR, gR_sI, gR_sL, gL_cp, gR_cp, kd_aI, gL_aI, gR_aI, gI_aI, gI_aIn, sI_aI, gI_sIn, Int.reduceToNat, Int.reduceAdd, Int.reduceSub, Int.reduceMul, Int.reduceNeg, Int.zero_add, r0_1, t1]
    rfl
  | k + 1, c, left, hl, hc => by
    have c7 := wT.1
    have t1 := q.1.1
    have e1 := wQk_ok d h L T wT q.1 c (by omega) hh
    have e2 := wLost_ok d h L T N wT wN q.2.1 c
    rw [List.range'_succ, List.filter_cons]
    obtain ⟨k0, j0⟩ := lay_k L (a := 0) (t := 7) (n := 17) rfl; obtain ⟨k3, j3⟩ := lay_k L (a := 3) (t := 6) (n := 8) rfl; obtain ⟨k13, j13⟩ := lay_k L (a := 13) (t := 4) (n := 4) rfl; obtain ⟨k14, j14⟩ := lay_k L (a := 14) (t := 2) (n := 5) rfl; have r0_1 : gR h 0 1 = some 3 := lay_r L rfl; have r0_3 : gR h 0 3 = some 13 := lay_r L rfl; have r13_0 : gR h 13 0 = some 14 := lay_r L rfl
    by_cases y1 : qkB T hh c = b
    · have e1 : callA (d + 2) 109 [Sum.inr (Sum.inr (some 0)), Sum.inl (c : Int), Sum.inl hh] h = some (some (Sum.inl (if b = true then 1 else 0)), h) := by rw [← y1]; exact e1
      by_cases y2 : plF (fun i => (nR N i : Int)) c (nM N) 0 = -9
      · rw [if_pos y2] at e2
        have z : ¬ pcB T N hh b c = true := fun x => by
          unfold pcB at x
          rw [Bool.and_eq_true, decide_eq_true_iff] at x
          exact plF_in.mpr x.1 y2
        rw [if_neg z]
        have ih := wIth_loop d h L T N wT wN q hh b i k (c + 1) left hl (by omega)
        rw [q_110_6]
        simp (disch := (first | omega | (simp only [kd_sI, kd_sL, kd_sR, kd_cp, kd_aI]; omega) | (unfold catV; exact rfl) | (unfold catS; exact Nat.le_of_ble_eq_true rfl) | assumption)) only [q_110_0, q_110_1, q_110_3, q_110_4, q_110_8, q_110_9, q_110_12, q_110_15_t, q_110_15_f, q_110_18, q_110_19, q_110_21, q_110_22, q_110_25, q_110_26_t, q_110_26_f, q_110_29, q_110_30, q_110_33, q_110_36, q_110_38, q_110_41_t, q_110_41_f, q_110_44, q_110_46_t, q_110_46_f, q_110_49, q_110_51, q_110_52, q_110_55, q_110_58, q_110_61, q_110_63, aft_i, aft_l, aft_v, Int.toNat_natCast, kd_sI, kd_sL, kd_sR, kd_cp, gI_sL, gI_sR, gL_sI, gL_sR, gR_sI, gR_sL, gL_cp, gR_cp, kd_aI, gL_aI, gR_aI, gI_aI, gI_aIn, sI_aI, gI_sIn, Int.reduceToNat, Int.reduceAdd, Int.reduceSub, Int.reduceMul, Int.reduceNeg, Int.zero_add, r0_1, t1, e1, r0_3, r13_0, e2]
        exact ih
      · rw [if_neg y2] at e2
        have z : pcB T N hh b c = true := by
          unfold pcB
          rw [Bool.and_eq_true, decide_eq_true_iff]
          exact ⟨plF_in.mp y2, by rw [y1]; exact beq_self_eq_true b⟩
        rw [if_pos z]
        cases left with
        | zero =>
          simp (disch := (first | omega | (simp only [kd_sI, kd_sL, kd_sR, kd_cp, kd_aI]; omega) | (unfold catV; exact rfl) | (unfold catS; exact Nat.le_of_ble_eq_true rfl) | assumption)) only [q_110_0, q_110_1, q_110_3, q_110_4, q_110_6, q_110_8, q_110_9, q_110_12, q_110_15_t, q_110_15_f, q_110_18, q_110_19, q_110_21, q_110_22, q_110_25, q_110_26_t, q_110_26_f, q_110_29, q_110_30, q_110_33, q_110_36, q_110_38, q_110_41_t, q_110_41_f, q_110_44, q_110_46_t, q_110_46_f, q_110_49, q_110_51, q_110_52, q_110_55, q_110_58, q_110_61, q_110_63, aft_i, aft_l, aft_v, Int.toNat_natCast, kd_sI, kd_sL, kd_sR, kd_cp, gI_sL, gI_sR, gL_sI, gL_sR, gR_sI, gR_sL, gL_cp, gR_cp, kd_aI, gL_aI, gR_aI, gI_aI, gI_aIn, sI_aI, gI_sIn, Int.reduceToNat, Int.reduceAdd, Int.reduceSub, Int.reduceMul, Int.reduceNeg, Int.zero_add, r0_1, t1, e1, r0_3, r13_0, e2]
          rfl
        | succ left =>
          have ih := wIth_loop d h L T N wT wN q hh b i k (c + 1) left (by omega) (by omega)
          have e0 : ((left + 1 : Nat) : Int) + -1 = (left : Int) := by omega
          have n0 : ((left + 1 : Nat) : Int) ≠ 0 := by omega
          rw [q_110_6]
          simp (disch := (first | omega | (simp only [kd_sI, kd_sL, kd_sR, kd_cp, kd_aI]; omega) | (unfold catV; exact rfl) | (unfold catS; exact Nat.le_of_ble_eq_true rfl) | assumption)) only [q_110_0, q_110_1, q_110_3, q_110_4, q_110_8, q_110_9, q_110_12, q_110_15_t, q_110_15_f, q_110_18, q_110_19, q_110_21, q_110_22, q_110_25, q_110_26_t, q_110_26_f, q_110_29, q_110_30, q_110_33, q_110_36, q_110_38, q_110_41_t, q_110_41_f, q_110_44, q_110_46_t, q_110_46_f, q_110_49, q_110_51, q_110_52, q_110_55, q_110_58, q_110_61, q_110_63, aft_i, aft_l, aft_v, Int.toNat_natCast, kd_sI, kd_sL, kd_sR, kd_cp, gI_sL, gI_sR, gL_sI, gL_sR, gR_sI, gR_sL, gL_cp, gR_cp, kd_aI, gL_aI, gR_aI, gI_aI, gI_aIn, sI_aI, gI_sIn, Int.reduceToNat, Int.reduceAdd, Int.reduceSub, Int.reduceMul, Int.reduceNeg, Int.zero_add, r0_1, t1, e1, r0_3, r13_0, e2, e0]
          exact ih
    · have z : ¬ pcB T N hh b c = true := fun x => by
        unfold pcB at x
        rw [Bool.and_eq_true] at x
        exact y1 (eq_of_beq x.2)
      rw [if_neg z]
      have ih := wIth_loop d h L T N wT wN q hh b i k (c + 1) left hl (by omega)
      have ne : (if qkB T hh c = true then (1 : Int) else 0) ≠ (if b = true then 1 else 0) := by
        cases h1 : qkB T hh c with
        | true =>
          cases b with
          | true => exact absurd h1 y1
          | false => rw [if_pos rfl, if_neg Bool.false_ne_true]; decide
        | false =>
          cases b with
          | true => rw [if_neg Bool.false_ne_true, if_pos rfl]; decide
          | false => exact absurd h1 y1
      rw [q_110_6]
      generalize (if qkB T hh c = true then (1 : Int) else 0) = v1 at ne e1
      generalize (if b = true then (1 : Int) else 0) = v2 at ne ih ⊢
      simp (disch := (first | omega | (simp only [kd_sI, kd_sL, kd_sR, kd_cp, kd_aI]; omega) | (unfold catV; exact rfl) | (unfold catS; exact Nat.le_of_ble_eq_true rfl) | assumption)) only [q_110_0, q_110_1, q_110_3, q_110_4, q_110_8, q_110_9, q_110_12, q_110_15_t, q_110_15_f, q_110_18, q_110_19, q_110_21, q_110_22, q_110_25, q_110_26_t, q_110_26_f, q_110_29, q_110_30, q_110_33, q_110_36, q_110_38, q_110_41_t, q_110_41_f, q_110_44, q_110_46_t, q_110_46_f, q_110_49, q_110_51, q_110_52, q_110_55, q_110_58, q_110_61, q_110_63, aft_i, aft_l, aft_v, Int.toNat_natCast, kd_sI, kd_sL, kd_sR, kd_cp, gI_sL, gI_sR, gL_sI, gL_sR, gR_sI, gR_sL, gL_cp, gR_cp, kd_aI, gL_aI, gR_aI, gI_aI, gI_aIn, sI_aI, gI_sIn, Int.reduceToNat, Int.reduceAdd, Int.reduceSub, Int.reduceMul, Int.reduceNeg, Int.zero_add, r0_1, t1, e1]
      exact ih
theorem wIth_ok (d : Nat) (h : mH) (L : LAY h) (T : Td) (N : Nt) (wT : wfT T) (wN : wfN T N) (q : Cq h T N) (hh : Int) (b : Bool) (i : Nat) (hi : i ≤ 100) : callA (d + 3) 110 [Sum.inr (Sum.inr (some 0)), Sum.inl hh, Sum.inl (if b = true then 1 else 0), Sum.inl (i : Int)] h = some (some (Sum.inl (giO (qkL T N hh b) i)), h) := by
  have e := wIth_loop d h L T N wT wN q hh b i (tN T) 0 i hi (Nat.zero_add _)
  rw [← qkL_f, show ((0 : Nat) : Int) = 0 from rfl] at e
  rw [en_110]
  simp (disch := (first | omega | (simp only [kd_sI, kd_sL, kd_sR, kd_cp, kd_aI]; omega) | (unfold catV; exact rfl) | (unfold catS; exact Nat.le_of_ble_eq_true rfl) | assumption)) only [q_110_0, q_110_1, q_110_3, q_110_4, q_110_8, q_110_9, q_110_12, q_110_15_t, q_110_15_f, q_110_18, q_110_19, q_110_21, q_110_22, q_110_25, q_110_26_t, q_110_26_f, q_110_29, q_110_30, q_110_33, q_110_36, q_110_38, q_110_41_t, q_110_41_f, q_110_44, q_110_46_t, q_110_46_f, q_110_49, q_110_51, q_110_52, q_110_55, q_110_58, q_110_61, q_110_63, aft_i, aft_l, aft_v, Int.toNat_natCast, kd_sI, kd_sL, kd_sR, kd_cp, gI_sL, gI_sR, gL_sI, gL_sR, gR_sI, gR_sL, gL_cp, gR_cp, kd_aI, gL_aI, gR_aI, gI_aI, gI_aIn, sI_aI, gI_sIn, Int.reduceToNat, Int.reduceAdd, Int.reduceSub, Int.reduceMul, Int.reduceNeg, Int.zero_add]
  exact e
theorem cSoon_ok (d : Nat) (h : mH) (L : LAY h) (T : Td) (N : Nt) (wT : wfT T) (wN : wfN T N) (q : Cq h T N) (hh i : Int) : callA (d + 4) 82 [Sum.inr (Sum.inr (some 0)), Sum.inl hh, Sum.inl i] h = some (some (Sum.inl (sooA T hh i (qkL T N hh true ++ qkL T N hh false))), h) := by
  have c7 := wT.1
  have e := wHour_ok (d + 2) h hh
  have lq : (qkL T N hh true).length ≤ 7 := by
    rw [qkL_f]
    have := List.length_filter_le (pcB T N hh true) (List.range' 0 (tN T))
    rw [List.length_range'] at this
    omega
  unfold sooA
  obtain ⟨k0, j0⟩ := lay_k L (a := 0) (t := 7) (n := 17) rfl
  rw [en_82]
  by_cases z : 1 ≤ hh ∧ hh ≤ 60
  · rw [if_pos z] at e
    by_cases y : -1 ≤ i ∧ i ≤ 6
    · rw [if_pos ⟨z, y⟩]
      have el := wSo_loop (d + 1) h L T N wT wN q hh i (qkL T N hh true).length (tN T) 0 0 (Nat.le_refl _) (Nat.zero_add _) (by rw [Nat.zero_add, ← qkL_f])
      rw [show ((0 : Nat) : Int) = 0 from rfl] at el
      by_cases x : i = -1
      · rw [if_pos x]
        have ei : inC T (ofL (qkL T N hh true ++ qkL T N hh false)) hh (qkL T N hh true ++ qkL T N hh false).length = (qkL T N hh true).length := soon_in z.1
        rw [ei]
        subst x
        simp (disch := (first | omega | (simp only [kd_sI, kd_sL, kd_sR, kd_cp, kd_aI]; omega) | (unfold catV; exact rfl) | (unfold catS; exact Nat.le_of_ble_eq_true rfl) | assumption)) only [q_82_0, q_82_1, q_82_4_t, q_82_4_f, q_82_7, q_82_8, q_82_9_t, q_82_9_f, q_82_12, q_82_13, q_82_15_t, q_82_15_f, q_82_18, q_82_19, q_82_20, q_82_21, q_82_22, q_82_23, q_82_27, q_82_28, q_82_31, q_82_34_t, q_82_34_f, q_82_37, q_82_38, q_82_40, q_82_41, q_82_44_t, q_82_44_f, q_82_47, q_82_48, q_82_51, q_82_54, q_82_56, q_82_59_t, q_82_59_f, q_82_62, q_82_65, q_82_68, q_82_72, q_82_73_t, q_82_73_f, q_82_76, q_82_77, q_82_78, q_82_79, q_82_80_t, q_82_80_f, q_82_83, q_82_84, q_82_85, q_82_86, q_82_87, q_82_90, q_82_93, q_82_94, q_82_95, q_82_96, q_82_97, q_82_98, q_82_99, q_82_102, aft_i, aft_l, aft_v, Int.toNat_natCast, kd_sI, kd_sL, kd_sR, kd_cp, gI_sL, gI_sR, gL_sI, gL_sR, gR_sI, gR_sL, gL_cp, gR_cp, kd_aI, gL_aI, gR_aI, gI_aI, gI_aIn, sI_aI, gI_sIn, Int.reduceToNat, Int.reduceAdd, Int.reduceSub, Int.reduceMul, Int.reduceNeg, Int.zero_add, e]
        rw [el]
        simp (disch := (first | omega | (simp only [kd_sI, kd_sL, kd_sR, kd_cp, kd_aI]; omega) | (unfold catV; exact rfl) | (unfold catS; exact Nat.le_of_ble_eq_true rfl) | assumption)) only [q_82_0, q_82_1, q_82_4_t, q_82_4_f, q_82_7, q_82_8, q_82_9_t, q_82_9_f, q_82_12, q_82_13, q_82_15_t, q_82_15_f, q_82_18, q_82_19, q_82_20, q_82_21, q_82_22, q_82_23, q_82_27, q_82_28, q_82_31, q_82_34_t, q_82_34_f, q_82_37, q_82_38, q_82_40, q_82_41, q_82_44_t, q_82_44_f, q_82_47, q_82_48, q_82_51, q_82_54, q_82_56, q_82_59_t, q_82_59_f, q_82_62, q_82_65, q_82_68, q_82_71, q_82_72, q_82_73_t, q_82_73_f, q_82_76, q_82_77, q_82_78, q_82_79, q_82_80_t, q_82_80_f, q_82_83, q_82_84, q_82_85, q_82_86, q_82_87, q_82_90, q_82_93, q_82_94, q_82_95, q_82_96, q_82_97, q_82_98, q_82_99, q_82_102, aft_i, aft_l, aft_v, Int.toNat_natCast, kd_sI, kd_sL, kd_sR, kd_cp, gI_sL, gI_sR, gL_sI, gL_sR, gR_sI, gR_sL, gL_cp, gR_cp, kd_aI, gL_aI, gR_aI, gI_aI, gI_aIn, sI_aI, gI_sIn, Int.reduceToNat, Int.reduceAdd, Int.reduceSub, Int.reduceMul, Int.reduceNeg, Int.zero_add]
      · rw [if_neg x]
        obtain ⟨j, rfl⟩ : ∃ j : Nat, i = j := ⟨i.toNat, by omega⟩
        rw [Int.toNat_natCast]
        have eG : (if (j : Int) < (qkL T N hh true ++ qkL T N hh false).length then (ofL (qkL T N hh true ++ qkL T N hh false) j : Int) else -9) = giO (qkL T N hh true ++ qkL T N hh false) j := giO_is _ _
        rw [eG]
        unfold giO
        by_cases v : j < (qkL T N hh true).length
        · have e3 := wIth_ok d h L T N wT wN q hh true j (by omega)
          rw [if_pos rfl] at e3
          rw [List.getElem?_append_left v]
          simp (disch := (first | omega | (simp only [kd_sI, kd_sL, kd_sR, kd_cp, kd_aI]; omega) | (unfold catV; exact rfl) | (unfold catS; exact Nat.le_of_ble_eq_true rfl) | assumption)) only [q_82_0, q_82_1, q_82_4_t, q_82_4_f, q_82_7, q_82_8, q_82_9_t, q_82_9_f, q_82_12, q_82_13, q_82_15_t, q_82_15_f, q_82_18, q_82_19, q_82_20, q_82_21, q_82_22, q_82_23, q_82_27, q_82_28, q_82_31, q_82_34_t, q_82_34_f, q_82_37, q_82_38, q_82_40, q_82_41, q_82_44_t, q_82_44_f, q_82_47, q_82_48, q_82_51, q_82_54, q_82_56, q_82_59_t, q_82_59_f, q_82_62, q_82_65, q_82_68, q_82_72, q_82_73_t, q_82_73_f, q_82_76, q_82_77, q_82_78, q_82_79, q_82_80_t, q_82_80_f, q_82_83, q_82_84, q_82_85, q_82_86, q_82_87, q_82_90, q_82_93, q_82_94, q_82_95, q_82_96, q_82_97, q_82_98, q_82_99, q_82_102, aft_i, aft_l, aft_v, Int.toNat_natCast, kd_sI, kd_sL, kd_sR, kd_cp, gI_sL, gI_sR, gL_sI, gL_sR, gR_sI, gR_sL, gL_cp, gR_cp, kd_aI, gL_aI, gR_aI, gI_aI, gI_aIn, sI_aI, gI_sIn, Int.reduceToNat, Int.reduceAdd, Int.reduceSub, Int.reduceMul, Int.reduceNeg, Int.zero_add, e]
          rw [el]
          simp (disch := (first | omega | (simp only [kd_sI, kd_sL, kd_sR, kd_cp, kd_aI]; omega) | (unfold catV; exact rfl) | (unfold catS; exact Nat.le_of_ble_eq_true rfl) | assumption)) only [q_82_0, q_82_1, q_82_4_t, q_82_4_f, q_82_7, q_82_8, q_82_9_t, q_82_9_f, q_82_12, q_82_13, q_82_15_t, q_82_15_f, q_82_18, q_82_19, q_82_20, q_82_21, q_82_22, q_82_23, q_82_27, q_82_28, q_82_31, q_82_34_t, q_82_34_f, q_82_37, q_82_38, q_82_40, q_82_41, q_82_44_t, q_82_44_f, q_82_47, q_82_48, q_82_51, q_82_54, q_82_56, q_82_59_t, q_82_59_f, q_82_62, q_82_65, q_82_68, q_82_71, q_82_72, q_82_73_t, q_82_73_f, q_82_76, q_82_77, q_82_78, q_82_79, q_82_80_t, q_82_80_f, q_82_83, q_82_84, q_82_85, q_82_86, q_82_87, q_82_90, q_82_93, q_82_94, q_82_95, q_82_96, q_82_97, q_82_98, q_82_99, q_82_102, aft_i, aft_l, aft_v, Int.toNat_natCast, kd_sI, kd_sL, kd_sR, kd_cp, gI_sL, gI_sR, gL_sI, gL_sR, gR_sI, gR_sL, gL_cp, gR_cp, kd_aI, gL_aI, gR_aI, gI_aI, gI_aIn, sI_aI, gI_sIn, Int.reduceToNat, Int.reduceAdd, Int.reduceSub, Int.reduceMul, Int.reduceNeg, Int.zero_add, e3]
          rfl
        · have e3 := wIth_ok d h L T N wT wN q hh false (j - (qkL T N hh true).length) (by omega)
          rw [if_neg Bool.false_ne_true] at e3
          have ej : ((j - (qkL T N hh true).length : Nat) : Int) = (j : Int) - ((qkL T N hh true).length : Int) := by omega
          rw [ej] at e3
          rw [List.getElem?_append_right (by omega)]
          simp (disch := (first | omega | (simp only [kd_sI, kd_sL, kd_sR, kd_cp, kd_aI]; omega) | (unfold catV; exact rfl) | (unfold catS; exact Nat.le_of_ble_eq_true rfl) | assumption)) only [q_82_0, q_82_1, q_82_4_t, q_82_4_f, q_82_7, q_82_8, q_82_9_t, q_82_9_f, q_82_12, q_82_13, q_82_15_t, q_82_15_f, q_82_18, q_82_19, q_82_20, q_82_21, q_82_22, q_82_23, q_82_27, q_82_28, q_82_31, q_82_34_t, q_82_34_f, q_82_37, q_82_38, q_82_40, q_82_41, q_82_44_t, q_82_44_f, q_82_47, q_82_48, q_82_51, q_82_54, q_82_56, q_82_59_t, q_82_59_f, q_82_62, q_82_65, q_82_68, q_82_72, q_82_73_t, q_82_73_f, q_82_76, q_82_77, q_82_78, q_82_79, q_82_80_t, q_82_80_f, q_82_83, q_82_84, q_82_85, q_82_86, q_82_87, q_82_90, q_82_93, q_82_94, q_82_95, q_82_96, q_82_97, q_82_98, q_82_99, q_82_102, aft_i, aft_l, aft_v, Int.toNat_natCast, kd_sI, kd_sL, kd_sR, kd_cp, gI_sL, gI_sR, gL_sI, gL_sR, gR_sI, gR_sL, gL_cp, gR_cp, kd_aI, gL_aI, gR_aI, gI_aI, gI_aIn, sI_aI, gI_sIn, Int.reduceToNat, Int.reduceAdd, Int.reduceSub, Int.reduceMul, Int.reduceNeg, Int.zero_add, e]
          rw [el]
          simp (disch := (first | omega | (simp only [kd_sI, kd_sL, kd_sR, kd_cp, kd_aI]; omega) | (unfold catV; exact rfl) | (unfold catS; exact Nat.le_of_ble_eq_true rfl) | assumption)) only [q_82_0, q_82_1, q_82_4_t, q_82_4_f, q_82_7, q_82_8, q_82_9_t, q_82_9_f, q_82_12, q_82_13, q_82_15_t, q_82_15_f, q_82_18, q_82_19, q_82_20, q_82_21, q_82_22, q_82_23, q_82_27, q_82_28, q_82_31, q_82_34_t, q_82_34_f, q_82_37, q_82_38, q_82_40, q_82_41, q_82_44_t, q_82_44_f, q_82_47, q_82_48, q_82_51, q_82_54, q_82_56, q_82_59_t, q_82_59_f, q_82_62, q_82_65, q_82_68, q_82_71, q_82_72, q_82_73_t, q_82_73_f, q_82_76, q_82_77, q_82_78, q_82_79, q_82_80_t, q_82_80_f, q_82_83, q_82_84, q_82_85, q_82_86, q_82_87, q_82_90, q_82_93, q_82_94, q_82_95, q_82_96, q_82_97, q_82_98, q_82_99, q_82_102, aft_i, aft_l, aft_v, Int.toNat_natCast, kd_sI, kd_sL, kd_sR, kd_cp, gI_sL, gI_sR, gL_sI, gL_sR, gR_sI, gR_sL, gL_cp, gR_cp, kd_aI, gL_aI, gR_aI, gI_aI, gI_aIn, sI_aI, gI_sIn, Int.reduceToNat, Int.reduceAdd, Int.reduceSub, Int.reduceMul, Int.reduceNeg, Int.zero_add, e3]
          rfl
    · rw [if_neg (fun x => y x.2)]
      by_cases x : i < -1
      · simp (disch := (first | omega | (simp only [kd_sI, kd_sL, kd_sR, kd_cp, kd_aI]; omega) | (unfold catV; exact rfl) | (unfold catS; exact Nat.le_of_ble_eq_true rfl) | assumption)) only [q_82_0, q_82_1, q_82_4_t, q_82_4_f, q_82_7, q_82_8, q_82_9_t, q_82_9_f, q_82_12, q_82_13, q_82_15_t, q_82_15_f, q_82_18, q_82_19, q_82_20, q_82_21, q_82_22, q_82_23, q_82_27, q_82_28, q_82_31, q_82_34_t, q_82_34_f, q_82_37, q_82_38, q_82_40, q_82_41, q_82_44_t, q_82_44_f, q_82_47, q_82_48, q_82_51, q_82_54, q_82_56, q_82_59_t, q_82_59_f, q_82_62, q_82_65, q_82_68, q_82_71, q_82_72, q_82_73_t, q_82_73_f, q_82_76, q_82_77, q_82_78, q_82_79, q_82_80_t, q_82_80_f, q_82_83, q_82_84, q_82_85, q_82_86, q_82_87, q_82_90, q_82_93, q_82_94, q_82_95, q_82_96, q_82_97, q_82_98, q_82_99, q_82_102, aft_i, aft_l, aft_v, Int.toNat_natCast, kd_sI, kd_sL, kd_sR, kd_cp, gI_sL, gI_sR, gL_sI, gL_sR, gR_sI, gR_sL, gL_cp, gR_cp, kd_aI, gL_aI, gR_aI, gI_aI, gI_aIn, sI_aI, gI_sIn, Int.reduceToNat, Int.reduceAdd, Int.reduceSub, Int.reduceMul, Int.reduceNeg, Int.zero_add, e]
      · simp (disch := (first | omega | (simp only [kd_sI, kd_sL, kd_sR, kd_cp, kd_aI]; omega) | (unfold catV; exact rfl) | (unfold catS; exact Nat.le_of_ble_eq_true rfl) | assumption)) only [q_82_0, q_82_1, q_82_4_t, q_82_4_f, q_82_7, q_82_8, q_82_9_t, q_82_9_f, q_82_12, q_82_13, q_82_15_t, q_82_15_f, q_82_18, q_82_19, q_82_20, q_82_21, q_82_22, q_82_23, q_82_27, q_82_28, q_82_31, q_82_34_t, q_82_34_f, q_82_37, q_82_38, q_82_40, q_82_41, q_82_44_t, q_82_44_f, q_82_47, q_82_48, q_82_51, q_82_54, q_82_56, q_82_59_t, q_82_59_f, q_82_62, q_82_65, q_82_68, q_82_71, q_82_72, q_82_73_t, q_82_73_f, q_82_76, q_82_77, q_82_78, q_82_79, q_82_80_t, q_82_80_f, q_82_83, q_82_84, q_82_85, q_82_86, q_82_87, q_82_90, q_82_93, q_82_94, q_82_95, q_82_96, q_82_97, q_82_98, q_82_99, q_82_102, aft_i, aft_l, aft_v, Int.toNat_natCast, kd_sI, kd_sL, kd_sR, kd_cp, gI_sL, gI_sR, gL_sI, gL_sR, gR_sI, gR_sL, gL_cp, gR_cp, kd_aI, gL_aI, gR_aI, gI_aI, gI_aIn, sI_aI, gI_sIn, Int.reduceToNat, Int.reduceAdd, Int.reduceSub, Int.reduceMul, Int.reduceNeg, Int.zero_add, e]
  · rw [if_neg z] at e
    rw [if_neg (fun x => z x.1)]
    simp (disch := (first | omega | (simp only [kd_sI, kd_sL, kd_sR, kd_cp, kd_aI]; omega) | (unfold catV; exact rfl) | (unfold catS; exact Nat.le_of_ble_eq_true rfl) | assumption)) only [q_82_0, q_82_1, q_82_4_t, q_82_4_f, q_82_7, q_82_8, q_82_9_t, q_82_9_f, q_82_12, q_82_13, q_82_15_t, q_82_15_f, q_82_18, q_82_19, q_82_20, q_82_21, q_82_22, q_82_23, q_82_27, q_82_28, q_82_31, q_82_34_t, q_82_34_f, q_82_37, q_82_38, q_82_40, q_82_41, q_82_44_t, q_82_44_f, q_82_47, q_82_48, q_82_51, q_82_54, q_82_56, q_82_59_t, q_82_59_f, q_82_62, q_82_65, q_82_68, q_82_71, q_82_72, q_82_73_t, q_82_73_f, q_82_76, q_82_77, q_82_78, q_82_79, q_82_80_t, q_82_80_f, q_82_83, q_82_84, q_82_85, q_82_86, q_82_87, q_82_90, q_82_93, q_82_94, q_82_95, q_82_96, q_82_97, q_82_98, q_82_99, q_82_102, aft_i, aft_l, aft_v, Int.toNat_natCast, kd_sI, kd_sL, kd_sR, kd_cp, gI_sL, gI_sR, gL_sI, gL_sR, gR_sI, gR_sL, gL_cp, gR_cp, kd_aI, gL_aI, gR_aI, gI_aI, gI_aIn, sI_aI, gI_sIn, Int.reduceToNat, Int.reduceAdd, Int.reduceSub, Int.reduceMul, Int.reduceNeg, Int.zero_add, e]
