def undS (N : Nt) (P : List Nt) : Int × Nt × List Nt := match P.getLast? with
  | none => (-2, N, P)
  | some Q => ((P.length - 1 : Nat), Q, P.dropLast)
theorem mUnd_loop (d : Nat) (h : mH) (L : LAY h) (m : Nat) (hm : m ≤ 9) (e56 : gI h 150 56 = m) : ∀ (k i : Nat), i + k = 56 → resA (callA d) 167 (26, [Sum.inr (Sum.inr (some 141)), Sum.inl (i : Int)], [], aI h 150 (cpF (gI h 150) (57 + 56 * m) 0 i)) = some (some (Sum.inl (m : Int)), aI h 150 (cpF (gI h 150) (57 + 56 * m) 0 56))
  | 0, i, hi => by
    have e : i = 56 := by omega
    subst e
    obtain ⟨k141, j141⟩ := lay_k L (a := 141) (t := 8) (n := 26) rfl; obtain ⟨k150, j150⟩ := lay_k L (a := 150) (t := 100) (n := 1851) rfl; have r141_16 : gR h 141 16 = some 150 := lay_r L rfl
    have e3 : cpF (gI h 150) (57 + 56 * m) 0 56 56 = m := by rw [cpF_out (by omega)]; exact e56
    simp (disch := (first | omega | (simp only [kd_sI, kd_sL, kd_sR, kd_cp, kd_aI]; omega) | (unfold catV; exact rfl) | (unfold catS; exact Nat.le_of_ble_eq_true rfl) | assumption)) only [q_167_0, q_167_1, q_167_4, q_167_6, q_167_7_t, q_167_7_f, q_167_10, q_167_12, q_167_13, q_167_14, q_167_17, q_167_19, q_167_20, q_167_21, q_167_22, q_167_23, q_167_24, q_167_25, q_167_26, q_167_27, q_167_29_t, q_167_29_f, q_167_32, q_167_33, q_167_36, q_167_37, q_167_38, q_167_41, q_167_43, q_167_45, q_167_46, q_167_49, q_167_51, q_167_52, q_167_53, q_167_54, q_167_55, q_167_56, q_167_57, q_167_58, q_167_61, q_167_64, q_167_65, q_167_68, q_167_70, q_167_71, aft_i, aft_l, aft_v, Int.toNat_natCast, kd_sI, kd_sL, kd_sR, kd_cp, gI_sL, gI_sR, gL_sI, gL_sR, gR_sI, gR_sL, gL_cp, gR_cp, kd_aI, gL_aI, gR_aI, gI_aI, gI_aIn, sI_aI, gI_sIn, Int.reduceToNat, Int.reduceAdd, Int.reduceSub, Int.reduceMul, Int.reduceNeg, Int.zero_add, r141_16, e3]
  | k + 1, i, hi => by
    have ih := mUnd_loop d h L m hm e56 k (i + 1) (by omega)
    obtain ⟨k141, j141⟩ := lay_k L (a := 141) (t := 8) (n := 26) rfl; obtain ⟨k150, j150⟩ := lay_k L (a := 150) (t := 100) (n := 1851) rfl; have r141_16 : gR h 141 16 = some 150 := lay_r L rfl
    have e3 : cpF (gI h 150) (57 + 56 * m) 0 i 56 = m := by rw [cpF_out (by omega)]; exact e56
    have e1 : (57 + 56 * (m : Int) + (i : Int)).toNat = 57 + 56 * m + i := by omega
    rw [q_167_26]
    simp (disch := (first | omega | (simp only [kd_sI, kd_sL, kd_sR, kd_cp, kd_aI]; omega) | (unfold catV; exact rfl) | (unfold catS; exact Nat.le_of_ble_eq_true rfl) | assumption)) only [q_167_0, q_167_1, q_167_4, q_167_6, q_167_7_t, q_167_7_f, q_167_10, q_167_12, q_167_13, q_167_14, q_167_17, q_167_19, q_167_20, q_167_21, q_167_22, q_167_23, q_167_24, q_167_25, q_167_27, q_167_29_t, q_167_29_f, q_167_32, q_167_33, q_167_36, q_167_37, q_167_38, q_167_41, q_167_43, q_167_45, q_167_46, q_167_49, q_167_51, q_167_52, q_167_53, q_167_54, q_167_55, q_167_56, q_167_57, q_167_58, q_167_61, q_167_64, q_167_65, q_167_68, q_167_70, q_167_71, aft_i, aft_l, aft_v, Int.toNat_natCast, kd_sI, kd_sL, kd_sR, kd_cp, gI_sL, gI_sR, gL_sI, gL_sR, gR_sI, gR_sL, gL_cp, gR_cp, kd_aI, gL_aI, gR_aI, gI_aI, gI_aIn, sI_aI, gI_sIn, Int.reduceToNat, Int.reduceAdd, Int.reduceSub, Int.reduceMul, Int.reduceNeg, Int.zero_add, r141_16, e3, e1]
    have e4 := cpF_up (G := gI h 150) (src := 57 + 56 * m) (dst := 0) (n := i) (by omega)
    rw [Nat.zero_add] at e4
    rw [← e4] at ih
    exact ih
theorem mUnd_ok (d : Nat) (h : mH) (L : LAY h) (T : Td) (N : Nt) (P : List Nt) (wT : wfT T) (wW : wfW T N P) (s : whG (gI h 150) 0 T N P) : evOK (d + 6) 167 [] h T (undS N P) := by
  have s2 : gI h 150 56 = P.length := s.2.1
  have s3 := s.2.2.1
  obtain ⟨k141, j141⟩ := lay_k L (a := 141) (t := 8) (n := 26) rfl; obtain ⟨k150, j150⟩ := lay_k L (a := 150) (t := 100) (n := 1851) rfl; have r141_16 : gR h 141 16 = some 150 := lay_r L rfl
  rcases List.eq_nil_or_concat P with z | ⟨P', Q, z⟩
  · subst z
    refine evOK_st wW s ?_
    have s2 : gI h 150 56 = 0 := s2
    rw [en_167]
    simp (disch := (first | omega | (simp only [kd_sI, kd_sL, kd_sR, kd_cp, kd_aI]; omega) | (unfold catV; exact rfl) | (unfold catS; exact Nat.le_of_ble_eq_true rfl) | assumption)) only [q_167_0, q_167_1, q_167_4, q_167_6, q_167_7_t, q_167_7_f, q_167_10, q_167_12, q_167_13, q_167_14, q_167_17, q_167_19, q_167_20, q_167_21, q_167_22, q_167_23, q_167_24, q_167_25, q_167_26, q_167_27, q_167_29_t, q_167_29_f, q_167_32, q_167_33, q_167_36, q_167_37, q_167_38, q_167_41, q_167_43, q_167_45, q_167_46, q_167_49, q_167_51, q_167_52, q_167_53, q_167_54, q_167_55, q_167_56, q_167_57, q_167_58, q_167_61, q_167_64, q_167_65, q_167_68, q_167_70, q_167_71, aft_i, aft_l, aft_v, Int.toNat_natCast, kd_sI, kd_sL, kd_sR, kd_cp, gI_sL, gI_sR, gL_sI, gL_sR, gR_sI, gR_sL, gL_cp, gR_cp, kd_aI, gL_aI, gR_aI, gI_aI, gI_aIn, sI_aI, gI_sIn, Int.reduceToNat, Int.reduceAdd, Int.reduceSub, Int.reduceMul, Int.reduceNeg, Int.zero_add, r141_16, s2]
  · rw [List.concat_eq_append] at z
    subst z
    rw [List.length_append, List.length_singleton] at s2 s3
    have eU : undS N (P' ++ [Q]) = ((P'.length : Int), Q, P') := by
      unfold undS
      rw [List.getLast?_concat, List.dropLast_concat]
      simp only [List.length_append, List.length_singleton, Nat.add_sub_cancel]
    rw [eU]
    generalize eg : aI h 150 (upI (gI h 150) 56 P'.length) = g
    have gg : gI g 150 = upI (gI h 150) 56 P'.length := by rw [← eg, gI_aI]
    have L2 : LAY g := by rw [← eg]; exact lay_aI L _ _
    have e := mUnd_loop (d + 5) g L2 P'.length (by omega) (by rw [gg, upI_s]) 56 0 rfl
    rw [cpF_0, aI_id, gg, ← eg, aI_aI, show ((0 : Nat) : Int) = 0 from rfl] at e
    have wQ : wfN T Q := wW.2 _ (List.mem_append_right _ (List.mem_singleton.mpr rfl))
    have wP : ∀ X, X ∈ P' → wfN T X := fun X hX => wW.2 _ (List.mem_append_left _ hX)
    have s4 := s.2.2.2
    have ee : ∀ i, 57 ≤ i → cpF (upI (gI h 150) 56 P'.length) (57 + 56 * P'.length) 0 56 i = gI h 150 i := fun i hi => by
      rw [cpF_out (by omega), upI_n (by omega)]
    refine ⟨_, ?_, evA_aI (G := cpF (upI (gI h 150) 56 P'.length) (57 + 56 * P'.length) 0 56) (fun k hk => ee k (by omega)), ⟨wQ, wP⟩, ?_⟩
    · have e9 : gI h 150 56 - 1 = (P'.length : Int) := by omega
      have e8 : gI h 150 56 ≠ 0 := by omega
      have e7 : ((P'.length + 1 : Nat) : Int) - 1 = P'.length := by omega
      rw [en_167]
      simp (disch := (first | omega | (simp only [kd_sI, kd_sL, kd_sR, kd_cp, kd_aI]; omega) | (unfold catV; exact rfl) | (unfold catS; exact Nat.le_of_ble_eq_true rfl) | assumption)) only [q_167_0, q_167_1, q_167_4, q_167_6, q_167_7_t, q_167_7_f, q_167_10, q_167_12, q_167_13, q_167_14, q_167_17, q_167_19, q_167_20, q_167_21, q_167_22, q_167_23, q_167_24, q_167_25, q_167_27, q_167_29_t, q_167_29_f, q_167_32, q_167_33, q_167_36, q_167_37, q_167_38, q_167_41, q_167_43, q_167_45, q_167_46, q_167_49, q_167_51, q_167_52, q_167_53, q_167_54, q_167_55, q_167_56, q_167_57, q_167_58, q_167_61, q_167_64, q_167_65, q_167_68, q_167_70, q_167_71, aft_i, aft_l, aft_v, Int.toNat_natCast, kd_sI, kd_sL, kd_sR, kd_cp, gI_sL, gI_sR, gL_sI, gL_sR, gR_sI, gR_sL, gL_cp, gR_cp, kd_aI, gL_aI, gR_aI, gI_aI, gI_aIn, sI_aI, gI_sIn, Int.reduceToNat, Int.reduceAdd, Int.reduceSub, Int.reduceMul, Int.reduceNeg, Int.zero_add, r141_16, e8, sI_is, s2, e7]
      exact e
    · rw [gI_aI]
      refine ⟨?_, ?_, by show P'.length ≤ 10; omega, fun j q => ?_⟩
      · have := s4 P'.length (by rw [List.length_append, List.length_singleton]; omega)
        rw [List.getElem_concat_length rfl] at this
        refine slG_congr wT wQ (fun i hi => ?_) this
        have e := cpF_in (G := upI (gI h 150) 56 P'.length) (src := 57 + 56 * P'.length) (dst := 0) (n := 56) hi
        rw [e, upI_n (by omega), Nat.zero_add]
      · show cpF (upI (gI h 150) 56 P'.length) (57 + 56 * P'.length) 0 56 (0 + 56) = P'.length
        rw [cpF_out (by omega), show (0 : Nat) + 56 = 56 from rfl, upI_s]
      · have q : j < P'.length := q
        have := s4 j (by rw [List.length_append, List.length_singleton]; omega)
        rw [List.getElem_append_left q] at this
        refine slG_congr wT (wP _ (List.getElem_mem q)) (fun i hi => ee _ (by omega)) this
/-- a row at an offset -/
def rwO (G : Nat → Int) (o : Nat) (l : List Nat) : Prop := ∀ i (q : i < l.length), G (o + i) = l[i]
theorem rwO_nil (G : Nat → Int) (o : Nat) : rwO G o [] := fun i q => absurd q (Nat.not_lt_zero _)
theorem rwO_cons {G : Nat → Int} {o c : Nat} {l : List Nat} : rwO G o (c :: l) ↔ G o = c ∧ rwO G (o + 1) l := by
  refine ⟨fun h => ⟨h 0 (Nat.succ_pos _), fun i q => ?_⟩, fun h i q => ?_⟩
  · have := h (i + 1) (Nat.succ_lt_succ q)
    rw [List.getElem_cons_succ, show o + (i + 1) = o + 1 + i by omega] at this
    exact this
  · cases i with
    | zero => exact h.1
    | succ i =>
      have := h.2 i (Nat.lt_of_succ_lt_succ q)
      rw [List.getElem_cons_succ, show o + (i + 1) = o + 1 + i by omega]
      exact this
theorem rwO_app {G : Nat → Int} {o : Nat} {A B : List Nat} : rwO G o (A ++ B) ↔ rwO G o A ∧ rwO G (o + A.length) B := by
  induction A generalizing o with
  | nil => exact ⟨fun h => ⟨rwO_nil _ _, h⟩, fun h => h.2⟩
  | cons c A ih =>
    rw [List.cons_append, rwO_cons, rwO_cons, ih, List.length_cons, show o + (A.length + 1) = o + 1 + A.length by omega]
    exact ⟨fun h => ⟨⟨h.1, h.2.1⟩, h.2.2⟩, fun h => ⟨h.1.1, h.1.2, h.2⟩⟩
theorem rwO_congr {G G2 : Nat → Int} {o o2 : Nat} {l : List Nat} (e : ∀ i, i < l.length → G2 (o2 + i) = G (o + i)) (h : rwO G o l) : rwO G2 o2 l := fun i q => (e i q).trans (h i q)
theorem mBeh_loop (d : Nat) (h : mH) (L : LAY h) (p b : Nat) (hm : p + 1 + b ≤ 7) (h7 : gI h 150 7 = ((p + 1 + b : Nat) : Int)) (a2 : Int) : ∀ (r n : Nat), n + r = b → resA (callA d) 159 (11, [Sum.inr (Sum.inr (some 141)), Sum.inl (p : Int), Sum.inl a2, Sum.inl ((p + n : Nat) : Int)], [], aI h 150 (cpF (gI h 150) (p + 1) p n)) = resA (callA d) 159 (48, [Sum.inr (Sum.inr (some 141)), Sum.inl (p : Int), Sum.inl a2, Sum.inl ((p + b : Nat) : Int)], [], aI h 150 (cpF (gI h 150) (p + 1) p b))
  | 0, n, hn => by
    have e : n = b := by omega
    subst e
    obtain ⟨k141, j141⟩ := lay_k L (a := 141) (t := 8) (n := 26) rfl; obtain ⟨k150, j150⟩ := lay_k L (a := 150) (t := 100) (n := 1851) rfl; have r141_16 : gR h 141 16 = some 150 := lay_r L rfl
    have e3 : cpF (gI h 150) (p + 1) p n 7 = ((p + 1 + n : Nat) : Int) := by rw [cpF_out (by omega)]; exact h7
    simp (disch := (first | omega | (simp only [kd_sI, kd_sL, kd_sR, kd_cp, kd_aI]; omega) | (unfold catV; exact rfl) | (unfold catS; exact Nat.le_of_ble_eq_true rfl) | assumption)) only [q_159_0, q_159_1, q_159_4, q_159_5, q_159_6, q_159_7, q_159_8, q_159_9, q_159_10, q_159_11, q_159_12, q_159_13, q_159_14, q_159_15, q_159_18, q_159_20, q_159_21_t, q_159_21_f, q_159_24, q_159_25, q_159_28, q_159_29, q_159_30, q_159_31, q_159_32, q_159_35, q_159_36, q_159_37, q_159_38, q_159_39, q_159_40, q_159_41, q_159_42, q_159_45, q_159_49, q_159_52, q_159_53, q_159_54, q_159_57, q_159_59, q_159_60, q_159_61, q_159_62, q_159_63, q_159_64, q_159_65, aft_i, aft_l, aft_v, Int.toNat_natCast, kd_sI, kd_sL, kd_sR, kd_cp, gI_sL, gI_sR, gL_sI, gL_sR, gR_sI, gR_sL, gL_cp, gR_cp, kd_aI, gL_aI, gR_aI, gI_aI, gI_aIn, sI_aI, gI_sIn, Int.reduceToNat, Int.reduceAdd, Int.reduceSub, Int.reduceMul, Int.reduceNeg, Int.zero_add, r141_16, e3]
  | r + 1, n, hn => by
    have ih := mBeh_loop d h L p b hm h7 a2 r (n + 1) (by omega)
    obtain ⟨k141, j141⟩ := lay_k L (a := 141) (t := 8) (n := 26) rfl; obtain ⟨k150, j150⟩ := lay_k L (a := 150) (t := 100) (n := 1851) rfl; have r141_16 : gR h 141 16 = some 150 := lay_r L rfl
    have e3 : cpF (gI h 150) (p + 1) p n 7 = ((p + 1 + b : Nat) : Int) := by rw [cpF_out (by omega)]; exact h7
    have e1 : (((p + n : Nat) : Int) + 1).toNat = p + 1 + n := by omega
    have e5 : ((p + n : Nat) : Int) + 1 = ((p + (n + 1) : Nat) : Int) := by omega
    rw [q_159_11]
    rw [← e5] at ih
    simp (disch := (first | omega | (simp only [kd_sI, kd_sL, kd_sR, kd_cp, kd_aI]; omega) | (unfold catV; exact rfl) | (unfold catS; exact Nat.le_of_ble_eq_true rfl) | assumption)) only [q_159_0, q_159_1, q_159_4, q_159_5, q_159_6, q_159_7, q_159_8, q_159_9, q_159_10, q_159_12, q_159_13, q_159_14, q_159_15, q_159_18, q_159_20, q_159_21_t, q_159_21_f, q_159_24, q_159_25, q_159_28, q_159_29, q_159_30, q_159_31, q_159_32, q_159_35, q_159_36, q_159_37, q_159_38, q_159_39, q_159_40, q_159_41, q_159_42, q_159_45, q_159_49, q_159_52, q_159_53, q_159_54, q_159_57, q_159_59, q_159_60, q_159_61, q_159_62, q_159_63, q_159_64, q_159_65, aft_i, aft_l, aft_v, Int.toNat_natCast, kd_sI, kd_sL, kd_sR, kd_cp, gI_sL, gI_sR, gL_sI, gL_sR, gR_sI, gR_sL, gL_cp, gR_cp, kd_aI, gL_aI, gR_aI, gI_aI, gI_aIn, sI_aI, gI_sIn, Int.reduceToNat, Int.reduceAdd, Int.reduceSub, Int.reduceMul, Int.reduceNeg, Int.zero_add, r141_16, e3, e1]
    rw [← cpF_up (G := gI h 150) (src := p + 1) (dst := p) (n := n) (by omega)] at ih
    exact ih
/-- the one at the end of A, behind all -/
theorem mBeh_ok (d : Nat) (h : mH) (L : LAY h) (A B : List Nat) (c : Nat) (hm : A.length + 1 + B.length ≤ 7) (h7 : gI h 150 7 = ((A.length + 1 + B.length : Nat) : Int)) (hr : rwO (gI h 150) 0 (A ++ c :: B)) : ∃ G, callA (d + 1) 159 [Sum.inr (Sum.inr (some 141)), Sum.inl (A.length : Int)] h = some (none, aI h 150 G) ∧ rwO G 0 (A ++ B ++ [c]) ∧ ∀ k, 7 ≤ k → G k = gI h 150 k := by
  obtain ⟨rA, rC⟩ := rwO_app.mp hr
  obtain ⟨rc, rB⟩ := rwO_cons.mp rC
  rw [Nat.zero_add] at rc rB
  have e := mBeh_loop d h L A.length B.length hm h7 (gI h 150 A.length) B.length 0 (Nat.zero_add _)
  rw [cpF_0, aI_id, Nat.add_zero, rc] at e
  obtain ⟨k141, j141⟩ := lay_k L (a := 141) (t := 8) (n := 26) rfl; obtain ⟨k150, j150⟩ := lay_k L (a := 150) (t := 100) (n := 1851) rfl; have r141_16 : gR h 141 16 = some 150 := lay_r L rfl
  have e3 : cpF (gI h 150) (A.length + 1) A.length B.length 7 = ((A.length + 1 + B.length : Nat) : Int) := by rw [cpF_out (by omega)]; exact h7
  have e4 : (((A.length + 1 + B.length : Nat) : Int) - 1).toNat = A.length + B.length := by omega
  refine ⟨upI (cpF (gI h 150) (A.length + 1) A.length B.length) (A.length + B.length) c, ?_, ?_, fun k hk => ?_⟩
  · rw [en_159]
    simp (disch := (first | omega | (simp only [kd_sI, kd_sL, kd_sR, kd_cp, kd_aI]; omega) | (unfold catV; exact rfl) | (unfold catS; exact Nat.le_of_ble_eq_true rfl) | assumption)) only [q_159_0, q_159_1, q_159_4, q_159_5, q_159_6, q_159_7, q_159_8, q_159_9, q_159_10, q_159_12, q_159_13, q_159_14, q_159_15, q_159_18, q_159_20, q_159_21_t, q_159_21_f, q_159_24, q_159_25, q_159_28, q_159_29, q_159_30, q_159_31, q_159_32, q_159_35, q_159_36, q_159_37, q_159_38, q_159_39, q_159_40, q_159_41, q_159_42, q_159_45, q_159_48, q_159_49, q_159_52, q_159_53, q_159_54, q_159_57, q_159_59, q_159_60, q_159_61, q_159_62, q_159_63, q_159_64, q_159_65, aft_i, aft_l, aft_v, Int.toNat_natCast, kd_sI, kd_sL, kd_sR, kd_cp, gI_sL, gI_sR, gL_sI, gL_sR, gR_sI, gR_sL, gL_cp, gR_cp, kd_aI, gL_aI, gR_aI, gI_aI, gI_aIn, sI_aI, gI_sIn, Int.reduceToNat, Int.reduceAdd, Int.reduceSub, Int.reduceMul, Int.reduceNeg, Int.zero_add, r141_16, e, e3, e4, rc]
  · refine rwO_app.mpr ⟨rwO_app.mpr ⟨rwO_congr (fun i hi => ?_) rA, rwO_congr (fun i hi => ?_) rB⟩, ?_⟩
    · rw [upI_n (by omega), cpF_out (by omega)]
    · rw [Nat.zero_add, upI_n (by omega), cpF_in hi]
    · rw [List.length_append, Nat.zero_add]
      exact rwO_cons.mpr ⟨upI_s _ _ _, rwO_nil _ _⟩
  · rw [upI_n (by omega), cpF_out (by omega)]
