def prtL (N : Nt) (b : Nat) : List Nat := (rowL N).filter (fun c => !b.testBit c) ++ (rowL N).filter (fun c => b.testBit c)
theorem prt_perm (N : Nt) (b : Nat) : (prtL N b).Perm (rowL N) := (List.perm_append_comm).trans (List.filter_append_perm _ _)
theorem wPr_in (d : Nat) (h : mH) (L : LAY h) (T : Td) (N : Nt) (wT : wfT T) (wN : wfN T N) (u1 : gI h 14 2 = nM N) (u2 : ∀ i, i < nM N → gI h 15 i = nR N i) (b : Nat) (hb : b < 128) (t : Bool) : ∀ (k i : Nat) (F : List Nat) (G : Nat → Int) (x5 : mV), i + k = nM N → F.length + (((List.range' i k).map (nR N)).filter (fun c => b.testBit c == t)).length ≤ 7 → rwO G 0 F → ∃ G2 y5, resA (callA d) 108 (12, [Sum.inr (Sum.inr (some 0)), Sum.inl (b : Int), Sum.inl (F.length : Int), Sum.inl (if t = true then 1 else 0), Sum.inl (i : Int), x5], [], aI h 139 G) = resA (callA d) 108 (69, [Sum.inr (Sum.inr (some 0)), Sum.inl (b : Int), Sum.inl ((F ++ ((List.range' i k).map (nR N)).filter (fun c => b.testBit c == t)).length : Int), Sum.inl (if t = true then 1 else 0), Sum.inl (nM N : Int), y5], [], aI h 139 G2) ∧ rwO G2 0 (F ++ ((List.range' i k).map (nR N)).filter (fun c => b.testBit c == t))
  | 0, i, F, G, x5, hi, hl, hr => by
    have n7 : nM N ≤ 7 := Nat.le_trans wN.1 wT.1
    have e : i = nM N := hi
    subst e
    have e0 : F ++ ((List.range' (nM N) 0).map (nR N)).filter (fun c => b.testBit c == t) = F := List.append_nil F
    rw [e0]
    refine ⟨G, x5, ?_, hr⟩
    obtain ⟨k0, j0⟩ := lay_k L (a := 0) (t := 7) (n := 17) rfl; obtain ⟨k13, j13⟩ := lay_k L (a := 13) (t := 4) (n := 4) rfl; obtain ⟨k14, j14⟩ := lay_k L (a := 14) (t := 2) (n := 5) rfl; have r0_3 : gR h 0 3 = some 13 := lay_r L rfl; have r13_0 : gR h 13 0 = some 14 := lay_r L rfl
    simp (disch := (first | omega | (simp only [kd_sI, kd_sL, kd_sR, kd_cp, kd_aI]; omega) | (unfold catV; exact rfl) | (unfold catS; exact Nat.le_of_ble_eq_true rfl) | assumption)) only [q_108_0, q_108_1, q_108_2, q_108_3, q_108_4, q_108_5, q_108_6_t, q_108_6_f, q_108_9, q_108_10, q_108_12, q_108_14, q_108_15, q_108_18, q_108_21, q_108_24_t, q_108_24_f, q_108_27, q_108_28, q_108_31, q_108_34, q_108_37, q_108_39, q_108_40, q_108_42, q_108_43, q_108_45, q_108_46, q_108_47, q_108_48, q_108_49_t, q_108_49_f, q_108_52, q_108_53, q_108_56, q_108_57, q_108_59, q_108_60, q_108_63, q_108_66, q_108_72, q_108_75, aft_i, aft_l, aft_v, Int.toNat_natCast, kd_sI, kd_sL, kd_sR, kd_cp, gI_sL, gI_sR, gL_sI, gL_sR, gR_sI, gR_sL, gL_cp, gR_cp, kd_aI, gL_aI, gR_aI, gI_aI, gI_aIn, sI_aI, gI_sIn, Int.reduceToNat, Int.reduceAdd, Int.reduceSub, Int.reduceMul, Int.reduceNeg, Int.zero_add, r0_3, r13_0, u1]
  | k + 1, i, F, G, x5, hi, hl, hr => by
    have c7 := wT.1
    have n7 : nM N ≤ 7 := Nat.le_trans wN.1 wT.1
    have ri := wN.2.1 i (by omega)
    have u2i := u2 i (by omega)
    have bt := bitI (a := b) (c := nR N i) (by omega) (by omega)
    rw [List.range'_succ, List.map_cons, List.filter_cons] at hl ⊢
    obtain ⟨k0, j0⟩ := lay_k L (a := 0) (t := 7) (n := 17) rfl; obtain ⟨k13, j13⟩ := lay_k L (a := 13) (t := 4) (n := 4) rfl; obtain ⟨k14, j14⟩ := lay_k L (a := 14) (t := 2) (n := 5) rfl; obtain ⟨k15, j15⟩ := lay_k L (a := 15) (t := 100) (n := 7) rfl; obtain ⟨k139, j139⟩ := lay_k L (a := 139) (t := 100) (n := 7) rfl; have r0_3 : gR h 0 3 = some 13 := lay_r L rfl; have r13_0 : gR h 13 0 = some 14 := lay_r L rfl; have r14_0 : gR h 14 0 = some 15 := lay_r L rfl; have r0_15 : gR h 0 15 = some 139 := lay_r L rfl
    by_cases z : b.testBit (nR N i) = t
    · have zb : (b.testBit (nR N i) == t) = true := by rw [z]; exact beq_self_eq_true t
      rw [if_pos zb] at hl ⊢
      rw [List.length_cons] at hl
      have lF : (F ++ [nR N i]).length = F.length + 1 := by rw [List.length_append, List.length_singleton]
      obtain ⟨G2, y5, e, r2⟩ := wPr_in d h L T N wT wN u1 u2 b hb t k (i + 1) (F ++ [nR N i]) (upI G F.length (nR N i)) (Sum.inl (nR N i : Int)) (by omega) (by omega) (by
        refine rwO_app.mpr ⟨rwO_congr (fun i hi => upI_n (by omega)) hr, rwO_cons.mpr ⟨?_, rwO_nil _ _⟩⟩
        rw [Nat.zero_add, upI_s])
      have eA : F ++ nR N i :: ((List.range' (i + 1) k).map (nR N)).filter (fun c => b.testBit c == t) = F ++ [nR N i] ++ ((List.range' (i + 1) k).map (nR N)).filter (fun c => b.testBit c == t) := by simp
      rw [eA]
      refine ⟨G2, y5, ?_, r2⟩
      rw [lF] at e
      rw [q_108_12]
      cases t with
      | true =>
        rw [z, if_pos rfl] at bt
        rw [if_pos rfl] at e ⊢
        simp (disch := (first | omega | (simp only [kd_sI, kd_sL, kd_sR, kd_cp, kd_aI]; omega) | (unfold catV; exact rfl) | (unfold catS; exact Nat.le_of_ble_eq_true rfl) | assumption)) only [q_108_0, q_108_1, q_108_2, q_108_3, q_108_4, q_108_5, q_108_6_t, q_108_6_f, q_108_9, q_108_10, q_108_14, q_108_15, q_108_18, q_108_21, q_108_24_t, q_108_24_f, q_108_27, q_108_28, q_108_31, q_108_34, q_108_37, q_108_39, q_108_40, q_108_42, q_108_43, q_108_45, q_108_46, q_108_47, q_108_48, q_108_49_t, q_108_49_f, q_108_52, q_108_53, q_108_56, q_108_57, q_108_59, q_108_60, q_108_63, q_108_66, q_108_72, q_108_75, aft_i, aft_l, aft_v, Int.toNat_natCast, kd_sI, kd_sL, kd_sR, kd_cp, gI_sL, gI_sR, gL_sI, gL_sR, gR_sI, gR_sL, gL_cp, gR_cp, kd_aI, gL_aI, gR_aI, gI_aI, gI_aIn, sI_aI, gI_sIn, Int.reduceToNat, Int.reduceAdd, Int.reduceSub, Int.reduceMul, Int.reduceNeg, Int.zero_add, r0_3, r13_0, r14_0, r0_15, u1, u2i, bt]
        exact e
      | false =>
        rw [z, if_neg Bool.false_ne_true] at bt
        rw [if_neg Bool.false_ne_true] at e ⊢
        simp (disch := (first | omega | (simp only [kd_sI, kd_sL, kd_sR, kd_cp, kd_aI]; omega) | (unfold catV; exact rfl) | (unfold catS; exact Nat.le_of_ble_eq_true rfl) | assumption)) only [q_108_0, q_108_1, q_108_2, q_108_3, q_108_4, q_108_5, q_108_6_t, q_108_6_f, q_108_9, q_108_10, q_108_14, q_108_15, q_108_18, q_108_21, q_108_24_t, q_108_24_f, q_108_27, q_108_28, q_108_31, q_108_34, q_108_37, q_108_39, q_108_40, q_108_42, q_108_43, q_108_45, q_108_46, q_108_47, q_108_48, q_108_49_t, q_108_49_f, q_108_52, q_108_53, q_108_56, q_108_57, q_108_59, q_108_60, q_108_63, q_108_66, q_108_72, q_108_75, aft_i, aft_l, aft_v, Int.toNat_natCast, kd_sI, kd_sL, kd_sR, kd_cp, gI_sL, gI_sR, gL_sI, gL_sR, gR_sI, gR_sL, gL_cp, gR_cp, kd_aI, gL_aI, gR_aI, gI_aI, gI_aIn, sI_aI, gI_sIn, Int.reduceToNat, Int.reduceAdd, Int.reduceSub, Int.reduceMul, Int.reduceNeg, Int.zero_add, r0_3, r13_0, r14_0, r0_15, u1, u2i, bt]
        exact e
    · have zb : ¬ (b.testBit (nR N i) == t) = true := fun y => z (eq_of_beq y)
      rw [if_neg zb] at hl ⊢
      obtain ⟨G2, y5, e, r2⟩ := wPr_in d h L T N wT wN u1 u2 b hb t k (i + 1) F G (Sum.inl (nR N i : Int)) (by omega) hl hr
      refine ⟨G2, y5, ?_, r2⟩
      rw [q_108_12]
      cases t with
      | true =>
        rw [if_neg z] at bt
        rw [if_pos rfl] at e ⊢
        simp (disch := (first | omega | (simp only [kd_sI, kd_sL, kd_sR, kd_cp, kd_aI]; omega) | (unfold catV; exact rfl) | (unfold catS; exact Nat.le_of_ble_eq_true rfl) | assumption)) only [q_108_0, q_108_1, q_108_2, q_108_3, q_108_4, q_108_5, q_108_6_t, q_108_6_f, q_108_9, q_108_10, q_108_14, q_108_15, q_108_18, q_108_21, q_108_24_t, q_108_24_f, q_108_27, q_108_28, q_108_31, q_108_34, q_108_37, q_108_39, q_108_40, q_108_42, q_108_43, q_108_45, q_108_46, q_108_47, q_108_48, q_108_49_t, q_108_49_f, q_108_52, q_108_53, q_108_56, q_108_57, q_108_59, q_108_60, q_108_63, q_108_66, q_108_72, q_108_75, aft_i, aft_l, aft_v, Int.toNat_natCast, kd_sI, kd_sL, kd_sR, kd_cp, gI_sL, gI_sR, gL_sI, gL_sR, gR_sI, gR_sL, gL_cp, gR_cp, kd_aI, gL_aI, gR_aI, gI_aI, gI_aIn, sI_aI, gI_sIn, Int.reduceToNat, Int.reduceAdd, Int.reduceSub, Int.reduceMul, Int.reduceNeg, Int.zero_add, r0_3, r13_0, r14_0, u1, u2i, bt]
        exact e
      | false =>
        have z2 : b.testBit (nR N i) = true := by
          cases q : b.testBit (nR N i) with
          | true => rfl
          | false => exact absurd q z
        rw [if_pos z2] at bt
        rw [if_neg Bool.false_ne_true] at e ⊢
        simp (disch := (first | omega | (simp only [kd_sI, kd_sL, kd_sR, kd_cp, kd_aI]; omega) | (unfold catV; exact rfl) | (unfold catS; exact Nat.le_of_ble_eq_true rfl) | assumption)) only [q_108_0, q_108_1, q_108_2, q_108_3, q_108_4, q_108_5, q_108_6_t, q_108_6_f, q_108_9, q_108_10, q_108_14, q_108_15, q_108_18, q_108_21, q_108_24_t, q_108_24_f, q_108_27, q_108_28, q_108_31, q_108_34, q_108_37, q_108_39, q_108_40, q_108_42, q_108_43, q_108_45, q_108_46, q_108_47, q_108_48, q_108_49_t, q_108_49_f, q_108_52, q_108_53, q_108_56, q_108_57, q_108_59, q_108_60, q_108_63, q_108_66, q_108_72, q_108_75, aft_i, aft_l, aft_v, Int.toNat_natCast, kd_sI, kd_sL, kd_sR, kd_cp, gI_sL, gI_sR, gL_sI, gL_sR, gR_sI, gR_sL, gL_cp, gR_cp, kd_aI, gL_aI, gR_aI, gI_aI, gI_aIn, sI_aI, gI_sIn, Int.reduceToNat, Int.reduceAdd, Int.reduceSub, Int.reduceMul, Int.reduceNeg, Int.zero_add, r0_3, r13_0, r14_0, u1, u2i, bt]
        exact e
theorem wPart_ok (d : Nat) (h : mH) (L : LAY h) (T : Td) (N : Nt) (wT : wfT T) (wN : wfN T N) (u1 : gI h 14 2 = nM N) (u2 : ∀ i, i < nM N → gI h 15 i = nR N i) (b : Nat) (hb : b < 128) : ∃ G, callA (d + 1) 108 [Sum.inr (Sum.inr (some 0)), Sum.inl (b : Int)] h = some (none, aI h 139 G) ∧ rwO G 0 (prtL N b) := by
  have n7 : nM N ≤ 7 := Nat.le_trans wN.1 wT.1
  have ef : (fun c => b.testBit c == true) = fun c => b.testBit c := funext (fun c => by cases b.testBit c <;> rfl)
  have eg : (fun c => b.testBit c == false) = fun c => !b.testBit c := funext (fun c => by cases b.testBit c <;> rfl)
  have er : (List.range' 0 (nM N)).map (nR N) = rowL N := by unfold rowL; rw [List.range_eq_range']
  have lp := (prt_perm N b).length_eq
  rw [rowL_len] at lp
  unfold prtL at lp ⊢
  rw [List.length_append] at lp
  obtain ⟨G1, y1, e1, r1⟩ := wPr_in d h L T N wT wN u1 u2 b hb false (nM N) 0 [] (gI h 139) (Sum.inr (Sum.inr none)) (Nat.zero_add _) (by rw [er, eg, List.length_nil]; omega) (rwO_nil _ _)
  rw [er, eg, List.nil_append] at e1 r1
  obtain ⟨G2, y2, e2, r2⟩ := wPr_in d h L T N wT wN u1 u2 b hb true (nM N) 0 ((rowL N).filter (fun c => !b.testBit c)) G1 y1 (Nat.zero_add _) (by rw [er, ef]; omega) r1
  rw [er, ef] at e2 r2
  refine ⟨G2, ?_, r2⟩
  rw [aI_id, if_neg Bool.false_ne_true, show ((0 : Nat) : Int) = 0 from rfl] at e1
  rw [if_pos rfl, show ((0 : Nat) : Int) = 0 from rfl] at e2
  have e1 : resA (callA d) 108 (12, [Sum.inr (Sum.inr (some 0)), Sum.inl (b : Int), Sum.inl 0, Sum.inl 0, Sum.inl 0, Sum.inr (Sum.inr none)], [], h) = _ := e1
  rw [en_108]
  simp (disch := (first | omega | (simp only [kd_sI, kd_sL, kd_sR, kd_cp, kd_aI]; omega) | (unfold catV; exact rfl) | (unfold catS; exact Nat.le_of_ble_eq_true rfl) | assumption)) only [q_108_0, q_108_1, q_108_2, q_108_3, q_108_4, q_108_5, q_108_6_t, q_108_6_f, q_108_9, q_108_10, q_108_14, q_108_15, q_108_18, q_108_21, q_108_24_t, q_108_24_f, q_108_27, q_108_28, q_108_31, q_108_34, q_108_37, q_108_39, q_108_40, q_108_42, q_108_43, q_108_45, q_108_46, q_108_47, q_108_48, q_108_49_t, q_108_49_f, q_108_52, q_108_53, q_108_56, q_108_57, q_108_59, q_108_60, q_108_63, q_108_66, q_108_72, q_108_75, aft_i, aft_l, aft_v, Int.toNat_natCast, kd_sI, kd_sL, kd_sR, kd_cp, gI_sL, gI_sR, gL_sI, gL_sR, gR_sI, gR_sL, gL_cp, gR_cp, kd_aI, gL_aI, gR_aI, gI_aI, gI_aIn, sI_aI, gI_sIn, Int.reduceToNat, Int.reduceAdd, Int.reduceSub, Int.reduceMul, Int.reduceNeg, Int.zero_add]
  rw [e1]
  simp (disch := (first | omega | (simp only [kd_sI, kd_sL, kd_sR, kd_cp, kd_aI]; omega) | (unfold catV; exact rfl) | (unfold catS; exact Nat.le_of_ble_eq_true rfl) | assumption)) only [q_108_0, q_108_1, q_108_2, q_108_3, q_108_4, q_108_5, q_108_6_t, q_108_6_f, q_108_9, q_108_10, q_108_14, q_108_15, q_108_18, q_108_21, q_108_24_t, q_108_24_f, q_108_27, q_108_28, q_108_31, q_108_34, q_108_37, q_108_39, q_108_40, q_108_42, q_108_43, q_108_45, q_108_46, q_108_47, q_108_48, q_108_49_t, q_108_49_f, q_108_52, q_108_53, q_108_56, q_108_57, q_108_59, q_108_60, q_108_63, q_108_66, q_108_69, q_108_72, q_108_75, aft_i, aft_l, aft_v, Int.toNat_natCast, kd_sI, kd_sL, kd_sR, kd_cp, gI_sL, gI_sR, gL_sI, gL_sR, gR_sI, gR_sL, gL_cp, gR_cp, kd_aI, gL_aI, gR_aI, gI_aI, gI_aIn, sI_aI, gI_sIn, Int.reduceToNat, Int.reduceAdd, Int.reduceSub, Int.reduceMul, Int.reduceNeg, Int.zero_add]
  rw [e2]
  simp (disch := (first | omega | (simp only [kd_sI, kd_sL, kd_sR, kd_cp, kd_aI]; omega) | (unfold catV; exact rfl) | (unfold catS; exact Nat.le_of_ble_eq_true rfl) | assumption)) only [q_108_0, q_108_1, q_108_2, q_108_3, q_108_4, q_108_5, q_108_6_t, q_108_6_f, q_108_9, q_108_10, q_108_14, q_108_15, q_108_18, q_108_21, q_108_24_t, q_108_24_f, q_108_27, q_108_28, q_108_31, q_108_34, q_108_37, q_108_39, q_108_40, q_108_42, q_108_43, q_108_45, q_108_46, q_108_47, q_108_48, q_108_49_t, q_108_49_f, q_108_52, q_108_53, q_108_56, q_108_57, q_108_59, q_108_60, q_108_63, q_108_66, q_108_69, q_108_72, q_108_75, aft_i, aft_l, aft_v, Int.toNat_natCast, kd_sI, kd_sL, kd_sR, kd_cp, gI_sL, gI_sR, gL_sI, gL_sR, gR_sI, gR_sL, gL_cp, gR_cp, kd_aI, gL_aI, gR_aI, gI_aI, gI_aIn, sI_aI, gI_sIn, Int.reduceToNat, Int.reduceAdd, Int.reduceSub, Int.reduceMul, Int.reduceNeg, Int.zero_add]
theorem wTo_loop (d : Nat) (c n : Nat) (n7 : n ≤ 7) : ∀ (D F : List Nat) (i : Nat) (h : mH) (L : LAY h), F.length ≤ i → i + D.length = n → gI h 14 2 = n → (∀ x, x ∈ D → x < 7) → rwO (gI h 15) 0 F → rwO (gI h 15) i D → ∃ G, resA (callA d) 20 (4, [Sum.inr (Sum.inr (some 14)), Sum.inl (c : Int), Sum.inl (F.length : Int), Sum.inl (i : Int)], [], h) = some (none, sI (aI h 15 G) 14 2 ((F ++ D.filter (fun x => decide (x ≠ c))).length : Nat)) ∧ rwO G 0 (F ++ D.filter (fun x => decide (x ≠ c)))
  | [], F, i, h, L, hF, hi, hn, hD, rF, rD => by
    have e : i = n := hi
    subst e
    rw [show F ++ ([] : List Nat).filter (fun x => decide (x ≠ c)) = F from List.append_nil F]
    refine ⟨gI h 15, ?_, rF⟩
    rw [aI_id]
    obtain ⟨k14, j14⟩ := lay_k L (a := 14) (t := 2) (n := 5) rfl
    simp (disch := (first | omega | (simp only [kd_sI, kd_sL, kd_sR, kd_cp, kd_aI]; omega) | (unfold catV; exact rfl) | (unfold catS; exact Nat.le_of_ble_eq_true rfl) | assumption)) only [q_20_0, q_20_1, q_20_2, q_20_3, q_20_4, q_20_5, q_20_6, q_20_9_t, q_20_9_f, q_20_12, q_20_13, q_20_16, q_20_17, q_20_18, q_20_19_t, q_20_19_f, q_20_22, q_20_23, q_20_26, q_20_27, q_20_28, q_20_31, q_20_32, q_20_33, q_20_34, q_20_37, q_20_40, q_20_43, q_20_44, q_20_45, q_20_48, aft_i, aft_l, aft_v, Int.toNat_natCast, kd_sI, kd_sL, kd_sR, kd_cp, gI_sL, gI_sR, gL_sI, gL_sR, gR_sI, gR_sL, gL_cp, gR_cp, kd_aI, gL_aI, gR_aI, gI_aI, gI_aIn, sI_aI, gI_sIn, Int.reduceToNat, Int.reduceAdd, Int.reduceSub, Int.reduceMul, Int.reduceNeg, Int.zero_add, hn]
  | x :: D, F, i, h, L, hF, hi, hn, hD, rF, rD => by
    have L0 := L
    rw [List.length_cons] at hi
    have hx := hD x List.mem_cons_self
    obtain ⟨ex, rD2⟩ := rwO_cons.mp rD
    rw [List.filter_cons]
    by_cases z : x = c
    · rw [if_neg (by rw [decide_eq_false (fun y => y z)]; exact Bool.false_ne_true)]
      obtain ⟨G, e, r⟩ := wTo_loop d c n n7 D F (i + 1) h L (by omega) (by omega) hn (fun y hy => hD y (List.mem_cons_of_mem _ hy)) rF rD2
      refine ⟨G, ?_, r⟩
      subst z
      obtain ⟨k14, j14⟩ := lay_k L0 (a := 14) (t := 2) (n := 5) rfl; obtain ⟨k15, j15⟩ := lay_k L0 (a := 15) (t := 100) (n := 7) rfl; have r14_0 : gR h 14 0 = some 15 := lay_r L0 rfl
      rw [q_20_4]
      simp (disch := (first | omega | (simp only [kd_sI, kd_sL, kd_sR, kd_cp, kd_aI]; omega) | (unfold catV; exact rfl) | (unfold catS; exact Nat.le_of_ble_eq_true rfl) | assumption)) only [q_20_0, q_20_1, q_20_2, q_20_3, q_20_5, q_20_6, q_20_9_t, q_20_9_f, q_20_12, q_20_13, q_20_16, q_20_17, q_20_18, q_20_19_t, q_20_19_f, q_20_22, q_20_23, q_20_26, q_20_27, q_20_28, q_20_31, q_20_32, q_20_33, q_20_34, q_20_37, q_20_40, q_20_43, q_20_44, q_20_45, q_20_48, aft_i, aft_l, aft_v, Int.toNat_natCast, kd_sI, kd_sL, kd_sR, kd_cp, gI_sL, gI_sR, gL_sI, gL_sR, gR_sI, gR_sL, gL_cp, gR_cp, kd_aI, gL_aI, gR_aI, gI_aI, gI_aIn, sI_aI, gI_sIn, Int.reduceToNat, Int.reduceAdd, Int.reduceSub, Int.reduceMul, Int.reduceNeg, Int.zero_add, hn, r14_0, ex]
      exact e
    · rw [if_pos (decide_eq_true z)]
      have lF : (F ++ [x]).length = F.length + 1 := by rw [List.length_append, List.length_singleton]
      obtain ⟨G, e, r⟩ := wTo_loop d c n n7 D (F ++ [x]) (i + 1) (sI h 15 F.length x) (lay_sI L _ _ _) (by omega) (by omega) (by rw [gI_sIn (by omega)]; exact hn) (fun y hy => hD y (List.mem_cons_of_mem _ hy)) (by
        rw [gI_sIu]
        refine rwO_app.mpr ⟨rwO_congr (fun j hj => upI_n (by omega)) rF, rwO_cons.mpr ⟨?_, rwO_nil _ _⟩⟩
        rw [Nat.zero_add, upI_s]) (by
        rw [gI_sIu]
        exact rwO_congr (fun j hj => upI_n (by omega)) rD2)
      have eA : F ++ x :: D.filter (fun x => decide (x ≠ c)) = F ++ [x] ++ D.filter (fun x => decide (x ≠ c)) := by simp
      rw [eA]
      refine ⟨G, ?_, r⟩
      rw [lF] at e
      rw [sI_is h, aI_aI] at e
      have ne : (x : Int) ≠ c := by omega
      obtain ⟨k14, j14⟩ := lay_k L0 (a := 14) (t := 2) (n := 5) rfl; obtain ⟨k15, j15⟩ := lay_k L0 (a := 15) (t := 100) (n := 7) rfl; have r14_0 : gR h 14 0 = some 15 := lay_r L0 rfl
      rw [q_20_4]
      simp (disch := (first | omega | (simp only [kd_sI, kd_sL, kd_sR, kd_cp, kd_aI]; omega) | (unfold catV; exact rfl) | (unfold catS; exact Nat.le_of_ble_eq_true rfl) | assumption)) only [q_20_0, q_20_1, q_20_2, q_20_3, q_20_5, q_20_6, q_20_9_t, q_20_9_f, q_20_12, q_20_13, q_20_16, q_20_17, q_20_18, q_20_19_t, q_20_19_f, q_20_22, q_20_23, q_20_26, q_20_27, q_20_28, q_20_31, q_20_32, q_20_33, q_20_34, q_20_37, q_20_40, q_20_43, q_20_44, q_20_45, q_20_48, aft_i, aft_l, aft_v, Int.toNat_natCast, kd_sI, kd_sL, kd_sR, kd_cp, gI_sL, gI_sR, gL_sI, gL_sR, gR_sI, gR_sL, gL_cp, gR_cp, kd_aI, gL_aI, gR_aI, gI_aI, gI_aIn, sI_aI, gI_sIn, Int.reduceToNat, Int.reduceAdd, Int.reduceSub, Int.reduceMul, Int.reduceNeg, Int.zero_add, hn, r14_0, ex]
      rw [sI_is h]
      exact e
theorem rwO_rowL {h : mH} {a : Nat} {T : Td} {N : Nt} (u : ntA h a T N) : rwO (gI h (a + 1)) 0 (rowL N) := fun i q => by
  rw [rowL_at q, Nat.zero_add]
  rw [rowL_len] at q
  exact u.2.2.2.1 i q
theorem wTo_ok (d : Nat) (h : mH) (L : LAY h) (T : Td) (N : Nt) (wT : wfT T) (wN : wfN T N) (u : ntA h 14 T N) (c : Nat) : ∃ G, callA (d + 1) 20 [Sum.inr (Sum.inr (some 14)), Sum.inl (c : Int)] h = some (none, sI (aI h 15 G) 14 2 (((rowL N).filter (fun x => decide (x ≠ c))).length : Nat)) ∧ rwO G 0 ((rowL N).filter (fun x => decide (x ≠ c))) := by
  have c7 := wT.1
  have n7 : nM N ≤ 7 := Nat.le_trans wN.1 wT.1
  obtain ⟨G, e, r⟩ := wTo_loop d c (nM N) n7 (rowL N) [] 0 h L (Nat.le_refl _) (by rw [rowL_len, Nat.zero_add]) u.1 (fun x hx => by have := rowL_lt wN hx; omega) (rwO_nil _ _) (rwO_rowL u)
  rw [List.nil_append] at e r
  refine ⟨G, ?_, r⟩
  rw [en_20]
  simp (disch := (first | omega | (simp only [kd_sI, kd_sL, kd_sR, kd_cp, kd_aI]; omega) | (unfold catV; exact rfl) | (unfold catS; exact Nat.le_of_ble_eq_true rfl) | assumption)) only [q_20_0, q_20_1, q_20_2, q_20_3, q_20_5, q_20_6, q_20_9_t, q_20_9_f, q_20_12, q_20_13, q_20_16, q_20_17, q_20_18, q_20_19_t, q_20_19_f, q_20_22, q_20_23, q_20_26, q_20_27, q_20_28, q_20_31, q_20_32, q_20_33, q_20_34, q_20_37, q_20_40, q_20_43, q_20_44, q_20_45, q_20_48, aft_i, aft_l, aft_v, Int.toNat_natCast, kd_sI, kd_sL, kd_sR, kd_cp, gI_sL, gI_sR, gL_sI, gL_sR, gR_sI, gR_sL, gL_cp, gR_cp, kd_aI, gL_aI, gR_aI, gI_aI, gI_aIn, sI_aI, gI_sIn, Int.reduceToNat, Int.reduceAdd, Int.reduceSub, Int.reduceMul, Int.reduceNeg, Int.zero_add]
  exact e
theorem wAb_ok (d : Nat) (h : mH) (L : LAY h) (n c : Nat) (hn : gI h 14 2 = n) (n7 : n < 7) : callA (d + 1) 21 [Sum.inr (Sum.inr (some 14)), Sum.inl (c : Int)] h = some (none, sI (sI h 15 n c) 14 2 ((n : Int) + 1)) := by
  have g2 : gI (sI h 15 n c) 14 2 = n := by rw [gI_sIn (by omega)]; exact hn
  obtain ⟨k14, j14⟩ := lay_k L (a := 14) (t := 2) (n := 5) rfl; obtain ⟨k15, j15⟩ := lay_k L (a := 15) (t := 100) (n := 7) rfl; have r14_0 : gR h 14 0 = some 15 := lay_r L rfl
  rw [en_21]
  simp (disch := (first | omega | (simp only [kd_sI, kd_sL, kd_sR, kd_cp, kd_aI]; omega) | (unfold catV; exact rfl) | (unfold catS; exact Nat.le_of_ble_eq_true rfl) | assumption)) only [q_21_0, q_21_1, q_21_4, q_21_6_t, q_21_6_f, q_21_9, q_21_10, q_21_13, q_21_14, q_21_17, q_21_18, q_21_19, q_21_20, q_21_21, q_21_24, q_21_25, q_21_26, q_21_29, aft_i, aft_l, aft_v, Int.toNat_natCast, kd_sI, kd_sL, kd_sR, kd_cp, gI_sL, gI_sR, gL_sI, gL_sR, gR_sI, gR_sL, gL_cp, gR_cp, kd_aI, gL_aI, gR_aI, gI_aI, gI_aIn, sI_aI, gI_sIn, Int.reduceToNat, Int.reduceAdd, Int.reduceSub, Int.reduceMul, Int.reduceNeg, Int.zero_add, hn, r14_0, g2]
theorem wTa_loop (d : Nat) (h : mH) (L : LAY h) (n : Nat) (hn : gI h 14 2 = n) (n7 : n ≤ 7) : ∀ (k i : Nat) (a2 : mV), i + k = n / 2 → resA (callA d) 22 (2, [Sum.inr (Sum.inr (some 14)), Sum.inl (i : Int), a2], [], aI h 15 (revF (gI h 15) n i)) = some (none, aI h 15 (revF (gI h 15) n (n / 2)))
  | 0, i, a2, hi => by
    have e : i = n / 2 := by omega
    subst e
    have ed : (n : Int) / 2 = ((n / 2 : Nat) : Int) := rfl
    obtain ⟨k14, j14⟩ := lay_k L (a := 14) (t := 2) (n := 5) rfl
    simp (disch := (first | omega | (simp only [kd_sI, kd_sL, kd_sR, kd_cp, kd_aI]; omega) | (unfold catV; exact rfl) | (unfold catS; exact Nat.le_of_ble_eq_true rfl) | assumption)) only [q_22_0, q_22_1, q_22_2, q_22_3, q_22_4, q_22_7, q_22_8, q_22_9_t, q_22_9_f, q_22_12, q_22_13, q_22_16, q_22_17, q_22_18, q_22_19, q_22_20, q_22_23, q_22_24, q_22_25, q_22_28, q_22_29, q_22_32, q_22_33, q_22_34, q_22_35, q_22_36, q_22_37, q_22_38, q_22_39, q_22_42, q_22_43, q_22_46, q_22_47, q_22_48, q_22_49, q_22_50, q_22_51, q_22_52, q_22_55, q_22_58, aft_i, aft_l, aft_v, Int.toNat_natCast, kd_sI, kd_sL, kd_sR, kd_cp, gI_sL, gI_sR, gL_sI, gL_sR, gR_sI, gR_sL, gL_cp, gR_cp, kd_aI, gL_aI, gR_aI, gI_aI, gI_aIn, sI_aI, gI_sIn, Int.reduceToNat, Int.reduceAdd, Int.reduceSub, Int.reduceMul, Int.reduceNeg, Int.zero_add, hn, ed]
  | k + 1, i, a2, hi => by
    have ih := wTa_loop d h L n hn n7 k (i + 1) (Sum.inl (gI h 15 i)) (by omega)
    have ed : (n : Int) / 2 = ((n / 2 : Nat) : Int) := rfl
    have e1 : ((n : Int) - 1 - (i : Int)).toNat = n - 1 - i := by omega
    have e2 : revF (gI h 15) n i i = gI h 15 i := revF_mid (by omega) (by omega)
    have e3 : revF (gI h 15) n i (n - 1 - i) = gI h 15 (n - 1 - i) := revF_mid (by omega) (by omega)
    obtain ⟨k14, j14⟩ := lay_k L (a := 14) (t := 2) (n := 5) rfl; obtain ⟨k15, j15⟩ := lay_k L (a := 15) (t := 100) (n := 7) rfl; have r14_0 : gR h 14 0 = some 15 := lay_r L rfl
    rw [q_22_2]
    simp (disch := (first | omega | (simp only [kd_sI, kd_sL, kd_sR, kd_cp, kd_aI]; omega) | (unfold catV; exact rfl) | (unfold catS; exact Nat.le_of_ble_eq_true rfl) | assumption)) only [q_22_0, q_22_1, q_22_3, q_22_4, q_22_7, q_22_8, q_22_9_t, q_22_9_f, q_22_12, q_22_13, q_22_16, q_22_17, q_22_18, q_22_19, q_22_20, q_22_23, q_22_24, q_22_25, q_22_28, q_22_29, q_22_32, q_22_33, q_22_34, q_22_35, q_22_36, q_22_37, q_22_38, q_22_39, q_22_42, q_22_43, q_22_46, q_22_47, q_22_48, q_22_49, q_22_50, q_22_51, q_22_52, q_22_55, q_22_58, aft_i, aft_l, aft_v, Int.toNat_natCast, kd_sI, kd_sL, kd_sR, kd_cp, gI_sL, gI_sR, gL_sI, gL_sR, gR_sI, gR_sL, gL_cp, gR_cp, kd_aI, gL_aI, gR_aI, gI_aI, gI_aIn, sI_aI, gI_sIn, Int.reduceToNat, Int.reduceAdd, Int.reduceSub, Int.reduceMul, Int.reduceNeg, Int.zero_add, hn, ed, r14_0, e1, e2, e3]
    rw [← revF_up (by omega)] at ih
    exact ih
theorem wTa_ok (d : Nat) (h : mH) (L : LAY h) (n : Nat) (hn : gI h 14 2 = n) (n7 : n ≤ 7) : callA (d + 1) 22 [Sum.inr (Sum.inr (some 14))] h = some (none, aI h 15 (revF (gI h 15) n (n / 2))) := by
  have e := wTa_loop d h L n hn n7 (n / 2) 0 (Sum.inr (Sum.inr none)) (Nat.zero_add _)
  rw [revF_0, aI_id, show ((0 : Nat) : Int) = 0 from rfl] at e
  rw [en_22]
  simp (disch := (first | omega | (simp only [kd_sI, kd_sL, kd_sR, kd_cp, kd_aI]; omega) | (unfold catV; exact rfl) | (unfold catS; exact Nat.le_of_ble_eq_true rfl) | assumption)) only [q_22_0, q_22_1, q_22_3, q_22_4, q_22_7, q_22_8, q_22_9_t, q_22_9_f, q_22_12, q_22_13, q_22_16, q_22_17, q_22_18, q_22_19, q_22_20, q_22_23, q_22_24, q_22_25, q_22_28, q_22_29, q_22_32, q_22_33, q_22_34, q_22_35, q_22_36, q_22_37, q_22_38, q_22_39, q_22_42, q_22_43, q_22_46, q_22_47, q_22_48, q_22_49, q_22_50, q_22_51, q_22_52, q_22_55, q_22_58, aft_i, aft_l, aft_v, Int.toNat_natCast, kd_sI, kd_sL, kd_sR, kd_cp, gI_sL, gI_sR, gL_sI, gL_sR, gR_sI, gR_sL, gL_cp, gR_cp, kd_aI, gL_aI, gR_aI, gI_aI, gI_aIn, sI_aI, gI_sIn, Int.reduceToNat, Int.reduceAdd, Int.reduceSub, Int.reduceMul, Int.reduceNeg, Int.zero_add]
  exact e
