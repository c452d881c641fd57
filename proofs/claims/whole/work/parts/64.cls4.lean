theorem nv_btw {T : Td} {N : Nt} (a b : Nat) (ha : a < tN T) (hb : b < tN T) : nvG T N a b = if (tF T a).testBit b = true ∧ (¬ (cellS T N a = -9 ∨ cellS T N b = -9)) ∧ btwS T N a b < tA T then 1 else 0 := by
  unfold nvG
  rw [if_pos ⟨ha, hb⟩]
  unfold nearV btwS cellS
  by_cases za : (nL N).testBit a = true
  · rw [if_pos za, if_neg (fun y => by rw [y.2.2.1] at za; cases za), if_neg (fun y => y.2.1 (Or.inl rfl))]
  · by_cases zb : (nL N).testBit b = true
    · rw [if_pos zb, if_neg (fun y => by rw [y.2.2.2.1] at zb; cases zb), if_neg (fun y => y.2.1 (Or.inr rfl))]
    · rw [if_neg za, if_neg zb]
      have fa : (nL N).testBit a = false := by simpa using za
      have fb : (nL N).testBit b = false := by simpa using zb
      by_cases y1 : fcS T N a = -9
      · rw [if_neg (fun y => y.1 y1), if_neg (fun y => y.2.1 (Or.inl y1))]
      · by_cases y2 : fcS T N b = -9
        · rw [if_neg (fun y => y.2.1 y2), if_neg (fun y => y.2.1 (Or.inr y2))]
        · by_cases y3 : (tF T a).testBit b = true ∧ (if fcS T N a < fcS T N b then fcS T N b - fcS T N a - nX N a else fcS T N a - fcS T N b - nX N b) < tA T
          · rw [if_pos ⟨y1, y2, fa, fb, y3⟩, if_pos ⟨y3.1, fun y => y.elim y1 y2, y3.2⟩]
          · rw [if_neg (fun y => y3 y.2.2.2.2), if_neg (fun y => y3 ⟨y.1, y.2.2⟩)]
theorem lsS_b {f : Nat → Int} (h : ∀ x, 0 ≤ f x ∧ f x ≤ 1) : ∀ l : List Nat, 0 ≤ lsS f l ∧ lsS f l ≤ l.length
  | [] => ⟨Int.le_refl _, Int.le_refl _⟩
  | c :: l => by
    have a := lsS_b h l
    have b := h c
    show 0 ≤ f c + lsS f l ∧ f c + lsS f l ≤ ((l.length + 1 : Nat) : Int)
    omega
theorem nvG_b (T : Td) (N : Nt) (a b : Nat) : 0 ≤ nvG T N a b ∧ nvG T N a b ≤ 1 := by
  unfold nvG
  split
  · exact nearV_b _ _ _ _ _ _ _
  · omega
theorem wNr_in (d : Nat) (h : mH) (L : LAY h) (T : Td) (N : Nt) (wT : wfT T) (wN : wfN T N) (q : Cq h T N) (a : Nat) (ha : a < tN T) (S : Int) (hS : 0 ≤ S ∧ S ≤ 100) : ∀ (k b : Nat) (acc : Int) (x4 : mV), b + k = tN T → acc + lsS (nvG T N a) (List.range' b k) = S → 0 ≤ acc → ∃ y4, resA (callA (d + 3)) 104 (19, [Sum.inr (Sum.inr (some 0)), Sum.inl acc, Sum.inl (a : Int), Sum.inl (b : Int), x4], [], h) = resA (callA (d + 3)) 104 (83, [Sum.inr (Sum.inr (some 0)), Sum.inl S, Sum.inl (a : Int), Sum.inl (tN T : Int), y4], [], h)
  | 0, b, acc, x4, hb, hs, h0 => by
    have e : b = tN T := hb
    subst e
    have c7 := wT.1
    have t1 := q.1.1
    have hs : acc + 0 = S := hs
    rw [Int.add_zero] at hs
    subst hs
    refine ⟨x4, ?_⟩
    obtain ⟨k0, j0⟩ := lay_k L (a := 0) (t := 7) (n := 17) rfl; obtain ⟨k3, j3⟩ := lay_k L (a := 3) (t := 6) (n := 8) rfl; have r0_1 : gR h 0 1 = some 3 := lay_r L rfl
    simp (disch := (first | omega | (simp only [kd_sI, kd_sL, kd_sR, kd_cp, kd_aI]; omega) | (unfold catV; exact rfl) | (unfold catS; exact Nat.le_of_ble_eq_true rfl) | assumption)) only [q_104_0, q_104_1, q_104_2, q_104_3, q_104_4, q_104_5, q_104_6, q_104_9, q_104_12_t, q_104_12_f, q_104_15, q_104_16, q_104_17, q_104_18, q_104_19, q_104_20, q_104_21, q_104_24, q_104_27_t, q_104_27_f, q_104_30, q_104_31, q_104_34, q_104_35, q_104_36, q_104_39_t, q_104_39_f, q_104_42, q_104_43, q_104_44, q_104_45, q_104_48, q_104_50, q_104_51, q_104_53, q_104_55_t, q_104_55_f, q_104_58, q_104_60, q_104_61, q_104_64, q_104_67_t, q_104_67_f, q_104_70, q_104_71, q_104_74, q_104_75, q_104_76, q_104_77, q_104_80, q_104_86, q_104_89, q_104_90, aft_i, aft_l, aft_v, Int.toNat_natCast, kd_sI, kd_sL, kd_sR, kd_cp, gI_sL, gI_sR, gL_sI, gL_sR, gR_sI, gR_sL, gL_cp, gR_cp, kd_aI, gL_aI, gR_aI, gI_aI, gI_aIn, sI_aI, gI_sIn, Int.reduceToNat, Int.reduceAdd, Int.reduceSub, Int.reduceMul, Int.reduceNeg, Int.zero_add, r0_1, t1]
  | k + 1, b, acc, x4, hb, hs, h0 => by
    have c7 := wT.1
    have t1 := q.1.1
    have t3 := q.1.2.2.1
    have e1 := wFeud_ok (d + 2) h L T wT q.1 a b ha (by omega)
    have e2 := wBtw_ok d h L T N wT wN q a b ha (by omega)
    have nb := nv_btw (T := T) (N := N) a b ha (by omega)
    have hs : acc + (nvG T N a b + lsS (nvG T N a) (List.range' (b + 1) k)) = S := by rw [List.range'_succ] at hs; exact hs
    have sb := lsS_b (f := nvG T N a) (fun x => nvG_b T N a x) (List.range' (b + 1) k)
    have vb := nvG_b T N a b
    obtain ⟨k0, j0⟩ := lay_k L (a := 0) (t := 7) (n := 17) rfl; obtain ⟨k3, j3⟩ := lay_k L (a := 3) (t := 6) (n := 8) rfl; have r0_1 : gR h 0 1 = some 3 := lay_r L rfl
    by_cases z1 : (tF T a).testBit b = true
    · rw [if_pos z1] at e1
      by_cases z2 : cellS T N a = -9 ∨ cellS T N b = -9
      · rw [if_neg (fun y => y.2.1 z2)] at nb
        rw [if_pos z2] at e2
        rw [nb] at hs
        obtain ⟨y4, ih⟩ := wNr_in d h L T N wT wN q a ha S hS k (b + 1) acc (Sum.inl (-9)) (by omega) (by omega) h0
        refine ⟨y4, ?_⟩
        rw [q_104_19, ← ih]
        simp (disch := (first | omega | (simp only [kd_sI, kd_sL, kd_sR, kd_cp, kd_aI]; omega) | (unfold catV; exact rfl) | (unfold catS; exact Nat.le_of_ble_eq_true rfl) | assumption)) only [q_104_0, q_104_1, q_104_2, q_104_3, q_104_4, q_104_5, q_104_6, q_104_9, q_104_12_t, q_104_12_f, q_104_15, q_104_16, q_104_17, q_104_18, q_104_20, q_104_21, q_104_24, q_104_27_t, q_104_27_f, q_104_30, q_104_31, q_104_34, q_104_35, q_104_36, q_104_39_t, q_104_39_f, q_104_42, q_104_43, q_104_44, q_104_45, q_104_48, q_104_50, q_104_51, q_104_53, q_104_55_t, q_104_55_f, q_104_58, q_104_60, q_104_61, q_104_64, q_104_67_t, q_104_67_f, q_104_70, q_104_71, q_104_74, q_104_75, q_104_76, q_104_77, q_104_80, q_104_86, q_104_89, q_104_90, aft_i, aft_l, aft_v, Int.toNat_natCast, kd_sI, kd_sL, kd_sR, kd_cp, gI_sL, gI_sR, gL_sI, gL_sR, gR_sI, gR_sL, gL_cp, gR_cp, kd_aI, gL_aI, gR_aI, gI_aI, gI_aIn, sI_aI, gI_sIn, Int.reduceToNat, Int.reduceAdd, Int.reduceSub, Int.reduceMul, Int.reduceNeg, Int.zero_add, r0_1, t1, e1, e2, Int.add_zero]
        rfl
      · rw [if_neg z2] at e2
        by_cases z3 : btwS T N a b < tA T
        · rw [if_pos ⟨z1, z2, z3⟩] at nb
          rw [nb] at hs
          obtain ⟨y4, ih⟩ := wNr_in d h L T N wT wN q a ha S hS k (b + 1) (acc + 1) (Sum.inl (btwS T N a b)) (by omega) (by omega) (by omega)
          refine ⟨y4, ?_⟩
          have n9 : btwS T N a b ≠ -9 := by
            have fa := fcS_i wT wN a ha
            have fb := fcS_i wT wN b (by omega)
            have xa := wN.2.2.2.1 a ha
            have xb := wN.2.2.2.1 b (by omega)
            unfold btwS
            have ga := fa.2.2.2.2 (fun y => z2 (Or.inl y))
            have gb := fb.2.2.2.2 (fun y => z2 (Or.inr y))
            by_cases v : fcS T N a < fcS T N b
            · rw [if_pos v]; omega
            · rw [if_neg v]; omega
          rw [q_104_19, ← ih]
          simp (disch := (first | omega | (simp only [kd_sI, kd_sL, kd_sR, kd_cp, kd_aI]; omega) | (unfold catV; exact rfl) | (unfold catS; exact Nat.le_of_ble_eq_true rfl) | assumption)) only [q_104_0, q_104_1, q_104_2, q_104_3, q_104_4, q_104_5, q_104_6, q_104_9, q_104_12_t, q_104_12_f, q_104_15, q_104_16, q_104_17, q_104_18, q_104_20, q_104_21, q_104_24, q_104_27_t, q_104_27_f, q_104_30, q_104_31, q_104_34, q_104_35, q_104_36, q_104_39_t, q_104_39_f, q_104_42, q_104_43, q_104_44, q_104_45, q_104_48, q_104_50, q_104_51, q_104_53, q_104_55_t, q_104_55_f, q_104_58, q_104_60, q_104_61, q_104_64, q_104_67_t, q_104_67_f, q_104_70, q_104_71, q_104_74, q_104_75, q_104_76, q_104_77, q_104_80, q_104_86, q_104_89, q_104_90, aft_i, aft_l, aft_v, Int.toNat_natCast, kd_sI, kd_sL, kd_sR, kd_cp, gI_sL, gI_sR, gL_sI, gL_sR, gR_sI, gR_sL, gL_cp, gR_cp, kd_aI, gL_aI, gR_aI, gI_aI, gI_aIn, sI_aI, gI_sIn, Int.reduceToNat, Int.reduceAdd, Int.reduceSub, Int.reduceMul, Int.reduceNeg, Int.zero_add, r0_1, t1, e1, e2, t3]
          rfl
        · rw [if_neg (fun y => z3 y.2.2)] at nb
          rw [nb] at hs
          obtain ⟨y4, ih⟩ := wNr_in d h L T N wT wN q a ha S hS k (b + 1) acc (Sum.inl (btwS T N a b)) (by omega) (by omega) h0
          refine ⟨y4, ?_⟩
          rw [q_104_19, ← ih]
          have n9 : btwS T N a b ≠ -9 := by omega
          simp (disch := (first | omega | (simp only [kd_sI, kd_sL, kd_sR, kd_cp, kd_aI]; omega) | (unfold catV; exact rfl) | (unfold catS; exact Nat.le_of_ble_eq_true rfl) | assumption)) only [q_104_0, q_104_1, q_104_2, q_104_3, q_104_4, q_104_5, q_104_6, q_104_9, q_104_12_t, q_104_12_f, q_104_15, q_104_16, q_104_17, q_104_18, q_104_20, q_104_21, q_104_24, q_104_27_t, q_104_27_f, q_104_30, q_104_31, q_104_34, q_104_35, q_104_36, q_104_39_t, q_104_39_f, q_104_42, q_104_43, q_104_44, q_104_45, q_104_48, q_104_50, q_104_51, q_104_53, q_104_55_t, q_104_55_f, q_104_58, q_104_60, q_104_61, q_104_64, q_104_67_t, q_104_67_f, q_104_70, q_104_71, q_104_74, q_104_75, q_104_76, q_104_77, q_104_80, q_104_86, q_104_89, q_104_90, aft_i, aft_l, aft_v, Int.toNat_natCast, kd_sI, kd_sL, kd_sR, kd_cp, gI_sL, gI_sR, gL_sI, gL_sR, gR_sI, gR_sL, gL_cp, gR_cp, kd_aI, gL_aI, gR_aI, gI_aI, gI_aIn, sI_aI, gI_sIn, Int.reduceToNat, Int.reduceAdd, Int.reduceSub, Int.reduceMul, Int.reduceNeg, Int.zero_add, r0_1, t1, e1, e2, t3, Int.add_zero]
          rfl
    · rw [if_neg z1] at e1
      rw [if_neg (fun y => z1 y.1)] at nb
      rw [nb] at hs
      obtain ⟨y4, ih⟩ := wNr_in d h L T N wT wN q a ha S hS k (b + 1) acc x4 (by omega) (by omega) h0
      refine ⟨y4, ?_⟩
      rw [q_104_19, ← ih]
      simp (disch := (first | omega | (simp only [kd_sI, kd_sL, kd_sR, kd_cp, kd_aI]; omega) | (unfold catV; exact rfl) | (unfold catS; exact Nat.le_of_ble_eq_true rfl) | assumption)) only [q_104_0, q_104_1, q_104_2, q_104_3, q_104_4, q_104_5, q_104_6, q_104_9, q_104_12_t, q_104_12_f, q_104_15, q_104_16, q_104_17, q_104_18, q_104_20, q_104_21, q_104_24, q_104_27_t, q_104_27_f, q_104_30, q_104_31, q_104_34, q_104_35, q_104_36, q_104_39_t, q_104_39_f, q_104_42, q_104_43, q_104_44, q_104_45, q_104_48, q_104_50, q_104_51, q_104_53, q_104_55_t, q_104_55_f, q_104_58, q_104_60, q_104_61, q_104_64, q_104_67_t, q_104_67_f, q_104_70, q_104_71, q_104_74, q_104_75, q_104_76, q_104_77, q_104_80, q_104_86, q_104_89, q_104_90, aft_i, aft_l, aft_v, Int.toNat_natCast, kd_sI, kd_sL, kd_sR, kd_cp, gI_sL, gI_sR, gL_sI, gL_sR, gR_sI, gR_sL, gL_cp, gR_cp, kd_aI, gL_aI, gR_aI, gI_aI, gI_aIn, sI_aI, gI_sIn, Int.reduceToNat, Int.reduceAdd, Int.reduceSub, Int.reduceMul, Int.reduceNeg, Int.zero_add, r0_1, t1, e1]
      rfl
theorem wNr_out (d : Nat) (h : mH) (L : LAY h) (T : Td) (N : Nt) (wT : wfT T) (wN : wfN T N) (q : Cq h T N) (S : Int) (hS : 0 ≤ S ∧ S ≤ 100) : ∀ (k a : Nat) (acc : Int) (x3 x4 : mV), a + k = tN T → acc + prS (nvG T N) (List.range' a k) = S → 0 ≤ acc → resA (callA (d + 3)) 104 (4, [Sum.inr (Sum.inr (some 0)), Sum.inl acc, Sum.inl (a : Int), x3, x4], [], h) = some (some (Sum.inl S), h)
  | 0, a, acc, x3, x4, ha, hs, h0 => by
    have e : a = tN T := ha
    subst e
    have c7 := wT.1
    have t1 := q.1.1
    have hs : acc + 0 = S := hs
    rw [Int.add_zero] at hs
    subst hs
    obtain ⟨k0, j0⟩ := lay_k L (a := 0) (t := 7) (n := 17) rfl; obtain ⟨k3, j3⟩ := lay_k L (a := 3) (t := 6) (n := 8) rfl; have r0_1 : gR h 0 1 = some 3 := lay_r L rfl
    simp (disch := (first | omega | (simp only [kd_sI, kd_sL, kd_sR, kd_cp, kd_aI]; omega) | (unfold catV; exact rfl) | (unfold catS; exact Nat.le_of_ble_eq_true rfl) | assumption)) only [q_104_0, q_104_1, q_104_2, q_104_3, q_104_4, q_104_5, q_104_6, q_104_9, q_104_12_t, q_104_12_f, q_104_15, q_104_16, q_104_17, q_104_18, q_104_19, q_104_20, q_104_21, q_104_24, q_104_27_t, q_104_27_f, q_104_30, q_104_31, q_104_34, q_104_35, q_104_36, q_104_39_t, q_104_39_f, q_104_42, q_104_43, q_104_44, q_104_45, q_104_48, q_104_50, q_104_51, q_104_53, q_104_55_t, q_104_55_f, q_104_58, q_104_60, q_104_61, q_104_64, q_104_67_t, q_104_67_f, q_104_70, q_104_71, q_104_74, q_104_75, q_104_76, q_104_77, q_104_80, q_104_83, q_104_86, q_104_89, q_104_90, aft_i, aft_l, aft_v, Int.toNat_natCast, kd_sI, kd_sL, kd_sR, kd_cp, gI_sL, gI_sR, gL_sI, gL_sR, gR_sI, gR_sL, gL_cp, gR_cp, kd_aI, gL_aI, gR_aI, gI_aI, gI_aIn, sI_aI, gI_sIn, Int.reduceToNat, Int.reduceAdd, Int.reduceSub, Int.reduceMul, Int.reduceNeg, Int.zero_add, r0_1, t1]
  | k + 1, a, acc, x3, x4, ha, hs, h0 => by
    have c7 := wT.1
    have t1 := q.1.1
    have hs : acc + (lsS (nvG T N a) (List.range' (a + 1) k) + prS (nvG T N) (List.range' (a + 1) k)) = S := by rw [List.range'_succ] at hs; exact hs
    have sb := lsS_b (f := nvG T N a) (fun x => nvG_b T N a x) (List.range' (a + 1) k)
    have pb : ∀ l : List Nat, 0 ≤ prS (nvG T N) l := by
      intro l
      induction l with
      | nil => exact Int.le_refl _
      | cons x l ih =>
        have := lsS_b (f := nvG T N x) (fun y => nvG_b T N x y) l
        show 0 ≤ lsS (nvG T N x) l + prS (nvG T N) l
        omega
    have pb1 := pb (List.range' (a + 1) k)
    obtain ⟨y4, e1⟩ := wNr_in d h L T N wT wN q a (by omega) (acc + lsS (nvG T N a) (List.range' (a + 1) k)) (by omega) k (a + 1) acc x4 (by omega) rfl h0
    have ih := wNr_out d h L T N wT wN q S hS k (a + 1) (acc + lsS (nvG T N a) (List.range' (a + 1) k)) (Sum.inl (tN T : Int)) y4 (by omega) (by omega) (by omega)
    obtain ⟨k0, j0⟩ := lay_k L (a := 0) (t := 7) (n := 17) rfl; obtain ⟨k3, j3⟩ := lay_k L (a := 3) (t := 6) (n := 8) rfl; have r0_1 : gR h 0 1 = some 3 := lay_r L rfl
    rw [q_104_4]
    simp (disch := (first | omega | (simp only [kd_sI, kd_sL, kd_sR, kd_cp, kd_aI]; omega) | (unfold catV; exact rfl) | (unfold catS; exact Nat.le_of_ble_eq_true rfl) | assumption)) only [q_104_0, q_104_1, q_104_2, q_104_3, q_104_5, q_104_6, q_104_9, q_104_12_t, q_104_12_f, q_104_15, q_104_16, q_104_17, q_104_18, q_104_20, q_104_21, q_104_24, q_104_27_t, q_104_27_f, q_104_30, q_104_31, q_104_34, q_104_35, q_104_36, q_104_39_t, q_104_39_f, q_104_42, q_104_43, q_104_44, q_104_45, q_104_48, q_104_50, q_104_51, q_104_53, q_104_55_t, q_104_55_f, q_104_58, q_104_60, q_104_61, q_104_64, q_104_67_t, q_104_67_f, q_104_70, q_104_71, q_104_74, q_104_75, q_104_76, q_104_77, q_104_80, q_104_86, q_104_89, q_104_90, aft_i, aft_l, aft_v, Int.toNat_natCast, kd_sI, kd_sL, kd_sR, kd_cp, gI_sL, gI_sR, gL_sI, gL_sR, gR_sI, gR_sL, gL_cp, gR_cp, kd_aI, gL_aI, gR_aI, gI_aI, gI_aIn, sI_aI, gI_sIn, Int.reduceToNat, Int.reduceAdd, Int.reduceSub, Int.reduceMul, Int.reduceNeg, Int.zero_add, r0_1, t1]
    refine Eq.trans e1 ?_
    simp (disch := (first | omega | (simp only [kd_sI, kd_sL, kd_sR, kd_cp, kd_aI]; omega) | (unfold catV; exact rfl) | (unfold catS; exact Nat.le_of_ble_eq_true rfl) | assumption)) only [q_104_0, q_104_1, q_104_2, q_104_3, q_104_5, q_104_6, q_104_9, q_104_12_t, q_104_12_f, q_104_15, q_104_16, q_104_17, q_104_18, q_104_20, q_104_21, q_104_24, q_104_27_t, q_104_27_f, q_104_30, q_104_31, q_104_34, q_104_35, q_104_36, q_104_39_t, q_104_39_f, q_104_42, q_104_43, q_104_44, q_104_45, q_104_48, q_104_50, q_104_51, q_104_53, q_104_55_t, q_104_55_f, q_104_58, q_104_60, q_104_61, q_104_64, q_104_67_t, q_104_67_f, q_104_70, q_104_71, q_104_74, q_104_75, q_104_76, q_104_77, q_104_80, q_104_83, q_104_86, q_104_89, q_104_90, aft_i, aft_l, aft_v, Int.toNat_natCast, kd_sI, kd_sL, kd_sR, kd_cp, gI_sL, gI_sR, gL_sI, gL_sR, gR_sI, gR_sL, gL_cp, gR_cp, kd_aI, gL_aI, gR_aI, gI_aI, gI_aIn, sI_aI, gI_sIn, Int.reduceToNat, Int.reduceAdd, Int.reduceSub, Int.reduceMul, Int.reduceNeg, Int.zero_add]
    exact ih
theorem nearS_i {T : Td} {N : Nt} (wT : wfT T) (wN : wfN T N) : 0 ≤ nearS T N ∧ nearS T N ≤ 49 := by
  have n7 : nM N ≤ 7 := Nat.le_trans wN.1 wT.1
  have := nearS_b T N (nM N) n7
  unfold nearS
  omega
theorem wNear_ok (d : Nat) (h : mH) (L : LAY h) (T : Td) (N : Nt) (wT : wfT T) (wN : wfN T N) (q : Cq h T N) : callA (d + 4) 104 [Sum.inr (Sum.inr (some 0))] h = some (some (Sum.inl (nearS T N)), h) := by
  have b := nearS_i wT wN
  have e := wNr_out d h L T N wT wN q (nearS T N) (by omega) (tN T) 0 0 (Sum.inr (Sum.inr none)) (Sum.inr (Sum.inr none)) (Nat.zero_add _) (by rw [← List.range_eq_range', ← near_pr wT wN]; omega) (Int.le_refl _)
  rw [show ((0 : Nat) : Int) = 0 from rfl] at e
  rw [en_104]
  simp (disch := (first | omega | (simp only [kd_sI, kd_sL, kd_sR, kd_cp, kd_aI]; omega) | (unfold catV; exact rfl) | (unfold catS; exact Nat.le_of_ble_eq_true rfl) | assumption)) only [q_104_0, q_104_1, q_104_2, q_104_3, q_104_5, q_104_6, q_104_9, q_104_12_t, q_104_12_f, q_104_15, q_104_16, q_104_17, q_104_18, q_104_19, q_104_20, q_104_21, q_104_24, q_104_27_t, q_104_27_f, q_104_30, q_104_31, q_104_34, q_104_35, q_104_36, q_104_39_t, q_104_39_f, q_104_42, q_104_43, q_104_44, q_104_45, q_104_48, q_104_50, q_104_51, q_104_53, q_104_55_t, q_104_55_f, q_104_58, q_104_60, q_104_61, q_104_64, q_104_67_t, q_104_67_f, q_104_70, q_104_71, q_104_74, q_104_75, q_104_76, q_104_77, q_104_80, q_104_83, q_104_86, q_104_89, q_104_90, aft_i, aft_l, aft_v, Int.toNat_natCast, kd_sI, kd_sL, kd_sR, kd_cp, gI_sL, gI_sR, gL_sI, gL_sR, gR_sI, gR_sL, gL_cp, gR_cp, kd_aI, gL_aI, gR_aI, gI_aI, gI_aIn, sI_aI, gI_sIn, Int.reduceToNat, Int.reduceAdd, Int.reduceSub, Int.reduceMul, Int.reduceNeg, Int.zero_add]
  exact e
