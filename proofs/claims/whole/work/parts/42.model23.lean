theorem rwO_at {G : Nat → Int} {A B : List Nat} {x : Nat} (r : rwO G 0 (A ++ x :: B)) : G A.length = x := by
  have := (rwO_cons.mp (rwO_app.mp r).2).1
  rwa [Nat.zero_add] at this
theorem rwO_set {G : Nat → Int} {A B : List Nat} {x : Nat} (y : Nat) (r : rwO G 0 (A ++ x :: B)) : rwO (upI G A.length y) 0 (A ++ y :: B) := by
  obtain ⟨rA, rC⟩ := rwO_app.mp r
  obtain ⟨rx, rB⟩ := rwO_cons.mp rC
  refine rwO_app.mpr ⟨rwO_congr (fun i hi => upI_n (by omega)) rA, rwO_cons.mpr ⟨?_, rwO_congr (fun i hi => upI_n (by omega)) rB⟩⟩
  rw [Nat.zero_add, upI_s]
theorem mNxt_i (d : Nat) (h : mH) (L : LAY h) (G : Nat → Int) (e : gI h 152 = G) (x2 x3 x4 x5 : mV) (t : Int) (ht : -1 ≤ t) : ∀ (k : Nat), t + k ≤ 5 → (∀ j : Nat, t < j → (j : Int) ≤ t + k → G (j + 1) < G j) → resA (callA d) 174 (7, [Sum.inr (Sum.inr (some 141)), Sum.inl (t + k), x2, x3, x4, x5], [], h) = resA (callA d) 174 (7, [Sum.inr (Sum.inr (some 141)), Sum.inl t, x2, x3, x4, x5], [], h)
  | 0, hk, hd => by
    rw [show t + ((0 : Nat) : Int) = t by omega]
  | k + 1, hk, hd => by
    have ih := mNxt_i d h L G e x2 x3 x4 x5 t ht k (by omega) (fun j h1 h2 => hd j h1 (by omega))
    have q := hd (t + k + 1).toNat (by omega) (by omega)
    rw [← e] at q
    have ix : (t + ((k + 1 : Nat) : Int)).toNat = (t + k + 1).toNat := by omega
    have iy : (t + ((k + 1 : Nat) : Int) + 1).toNat = (t + k + 1).toNat + 1 := by omega
    have e0 : t + ((k + 1 : Nat) : Int) + -1 = t + k := by omega
    obtain ⟨k141, j141⟩ := lay_k L (a := 141) (t := 8) (n := 26) rfl; obtain ⟨k152, j152⟩ := lay_k L (a := 152) (t := 100) (n := 7) rfl; have r141_18 : gR h 141 18 = some 152 := lay_r L rfl
    rw [q_174_7]
    simp (disch := (first | omega | (simp only [kd_sI, kd_sL, kd_sR, kd_cp, kd_aI]; omega) | (unfold catV; exact rfl) | (unfold catS; exact Nat.le_of_ble_eq_true rfl) | assumption)) only [q_174_0, q_174_1, q_174_4, q_174_5, q_174_6, q_174_8_t, q_174_8_f, q_174_11, q_174_12, q_174_15, q_174_16, q_174_17, q_174_18, q_174_21, q_174_22, q_174_23, q_174_24, q_174_25_t, q_174_25_f, q_174_28, q_174_31, q_174_34, q_174_35_t, q_174_35_f, q_174_38, q_174_39, q_174_40, q_174_41, q_174_44, q_174_45, q_174_46, q_174_47, q_174_48, q_174_51, q_174_52, q_174_53, q_174_54, q_174_57, q_174_58, q_174_59_t, q_174_59_f, q_174_62, q_174_65, q_174_68, q_174_69, q_174_72, q_174_73, q_174_74, q_174_75, q_174_76, q_174_79, q_174_80, q_174_81, q_174_84, q_174_85, q_174_86, q_174_87, q_174_88, q_174_91, q_174_92, q_174_93, q_174_94, q_174_95, q_174_96, q_174_97, q_174_99, q_174_100, q_174_103, q_174_104, q_174_105, q_174_107, q_174_109, q_174_111_t, q_174_111_f, q_174_114, q_174_115, q_174_118, q_174_120, q_174_121, q_174_122, q_174_123, q_174_126, q_174_128, q_174_129, q_174_132, q_174_134, q_174_135, q_174_136, q_174_137, q_174_140, q_174_142, q_174_143, q_174_144, q_174_147, q_174_150, q_174_153, q_174_154, aft_i, aft_l, aft_v, Int.toNat_natCast, kd_sI, kd_sL, kd_sR, kd_cp, gI_sL, gI_sR, gL_sI, gL_sR, gR_sI, gR_sL, gL_cp, gR_cp, kd_aI, gL_aI, gR_aI, gI_aI, gI_aIn, sI_aI, gI_sIn, Int.reduceToNat, Int.reduceAdd, Int.reduceSub, Int.reduceMul, Int.reduceNeg, Int.zero_add, r141_18, ix, iy, q, e0]
    rw [← ih]
theorem mNxt_j (d : Nat) (h : mH) (L : LAY h) (G : Nat → Int) (e : gI h 152 = G) (i : Nat) (hi : i < 7) (x3 x4 x5 : mV) (t : Nat) : ∀ (k : Nat), t + k ≤ 6 → (∀ j : Nat, t < j → j ≤ t + k → G j < G i) → resA (callA d) 174 (47, [Sum.inr (Sum.inr (some 141)), Sum.inl (i : Int), Sum.inl ((t + k : Nat) : Int), x3, x4, x5], [], h) = resA (callA d) 174 (47, [Sum.inr (Sum.inr (some 141)), Sum.inl (i : Int), Sum.inl (t : Int), x3, x4, x5], [], h)
  | 0, hk, hd => rfl
  | k + 1, hk, hd => by
    have ih := mNxt_j d h L G e i hi x3 x4 x5 t k (by omega) (fun j h1 h2 => hd j h1 (by omega))
    have q := hd (t + (k + 1)) (by omega) (by omega)
    rw [← e] at q
    have e0 : ((t + (k + 1) : Nat) : Int) + -1 = ((t + k : Nat) : Int) := by omega
    obtain ⟨k141, j141⟩ := lay_k L (a := 141) (t := 8) (n := 26) rfl; obtain ⟨k152, j152⟩ := lay_k L (a := 152) (t := 100) (n := 7) rfl; have r141_18 : gR h 141 18 = some 152 := lay_r L rfl
    rw [q_174_47]
    simp (disch := (first | omega | (simp only [kd_sI, kd_sL, kd_sR, kd_cp, kd_aI]; omega) | (unfold catV; exact rfl) | (unfold catS; exact Nat.le_of_ble_eq_true rfl) | assumption)) only [q_174_0, q_174_1, q_174_4, q_174_5, q_174_6, q_174_7, q_174_8_t, q_174_8_f, q_174_11, q_174_12, q_174_15, q_174_16, q_174_17, q_174_18, q_174_21, q_174_22, q_174_23, q_174_24, q_174_25_t, q_174_25_f, q_174_28, q_174_31, q_174_34, q_174_35_t, q_174_35_f, q_174_38, q_174_39, q_174_40, q_174_41, q_174_44, q_174_45, q_174_46, q_174_48, q_174_51, q_174_52, q_174_53, q_174_54, q_174_57, q_174_58, q_174_59_t, q_174_59_f, q_174_62, q_174_65, q_174_68, q_174_69, q_174_72, q_174_73, q_174_74, q_174_75, q_174_76, q_174_79, q_174_80, q_174_81, q_174_84, q_174_85, q_174_86, q_174_87, q_174_88, q_174_91, q_174_92, q_174_93, q_174_94, q_174_95, q_174_96, q_174_97, q_174_99, q_174_100, q_174_103, q_174_104, q_174_105, q_174_107, q_174_109, q_174_111_t, q_174_111_f, q_174_114, q_174_115, q_174_118, q_174_120, q_174_121, q_174_122, q_174_123, q_174_126, q_174_128, q_174_129, q_174_132, q_174_134, q_174_135, q_174_136, q_174_137, q_174_140, q_174_142, q_174_143, q_174_144, q_174_147, q_174_150, q_174_153, q_174_154, aft_i, aft_l, aft_v, Int.toNat_natCast, kd_sI, kd_sL, kd_sR, kd_cp, gI_sL, gI_sR, gL_sI, gL_sR, gR_sI, gR_sL, gL_cp, gR_cp, kd_aI, gL_aI, gR_aI, gI_aI, gI_aIn, sI_aI, gI_sIn, Int.reduceToNat, Int.reduceAdd, Int.reduceSub, Int.reduceMul, Int.reduceNeg, Int.zero_add, r141_18, q, e0]
    exact ih
theorem mNxt_r (d : Nat) (i : Int) : ∀ (f : Nat) (mid P Q : List Nat) (h : mH) (L : LAY h) (x2 x3 : mV), catV x2 = 1 → mid.length ≤ f → P.length + mid.length + Q.length ≤ 7 → rwO (gI h 152) 0 (P ++ mid ++ Q) → ∃ G, resA (callA d) 174 (107, [Sum.inr (Sum.inr (some 141)), Sum.inl i, x2, x3, Sum.inl (P.length : Int), Sum.inl ((P.length + mid.length : Nat) - 1 : Int)], [], h) = some (some (Sum.inl 1), aI h 152 G) ∧ rwO G 0 (P ++ mid.reverse ++ Q)
  | 0, mid, P, Q, h, L, x2, x3, c2, hf, hl, r => by
    have e : mid = [] := List.eq_nil_of_length_eq_zero (by omega)
    subst e
    refine ⟨gI h 152, ?_, r⟩
    rw [aI_id]
    have hc : ((P.length + ([] : List Nat).length : Nat) : Int) - 1 ≤ (P.length : Int) := by simp only [List.length_nil]; omega
    simp (disch := (first | omega | (simp only [kd_sI, kd_sL, kd_sR, kd_cp, kd_aI]; omega) | (unfold catV; exact rfl) | (unfold catS; exact Nat.le_of_ble_eq_true rfl) | assumption)) only [q_174_0, q_174_1, q_174_4, q_174_5, q_174_6, q_174_7, q_174_8_t, q_174_8_f, q_174_11, q_174_12, q_174_15, q_174_16, q_174_17, q_174_18, q_174_21, q_174_22, q_174_23, q_174_24, q_174_25_t, q_174_25_f, q_174_28, q_174_31, q_174_34, q_174_35_t, q_174_35_f, q_174_38, q_174_39, q_174_40, q_174_41, q_174_44, q_174_45, q_174_46, q_174_47, q_174_48, q_174_51, q_174_52, q_174_53, q_174_54, q_174_57, q_174_58, q_174_59_t, q_174_59_f, q_174_62, q_174_65, q_174_68, q_174_69, q_174_72, q_174_73, q_174_74, q_174_75, q_174_76, q_174_79, q_174_80, q_174_81, q_174_84, q_174_85, q_174_86, q_174_87, q_174_88, q_174_91, q_174_92, q_174_93, q_174_94, q_174_95, q_174_96, q_174_97, q_174_99, q_174_100, q_174_103, q_174_104, q_174_105, q_174_107, q_174_109, q_174_111_t, q_174_111_f, q_174_114, q_174_115, q_174_118, q_174_120, q_174_121, q_174_122, q_174_123, q_174_126, q_174_128, q_174_129, q_174_132, q_174_134, q_174_135, q_174_136, q_174_137, q_174_140, q_174_142, q_174_143, q_174_144, q_174_147, q_174_150, q_174_153, q_174_154, aft_i, aft_l, aft_v, Int.toNat_natCast, kd_sI, kd_sL, kd_sR, kd_cp, gI_sL, gI_sR, gL_sI, gL_sR, gR_sI, gR_sL, gL_cp, gR_cp, kd_aI, gL_aI, gR_aI, gI_aI, gI_aIn, sI_aI, gI_sIn, Int.reduceToNat, Int.reduceAdd, Int.reduceSub, Int.reduceMul, Int.reduceNeg, Int.zero_add, hc]
  | f + 1, [], P, Q, h, L, x2, x3, c2, hf, hl, r => by
    refine ⟨gI h 152, ?_, r⟩
    rw [aI_id]
    have hc : ((P.length + ([] : List Nat).length : Nat) : Int) - 1 ≤ (P.length : Int) := by simp only [List.length_nil]; omega
    simp (disch := (first | omega | (simp only [kd_sI, kd_sL, kd_sR, kd_cp, kd_aI]; omega) | (unfold catV; exact rfl) | (unfold catS; exact Nat.le_of_ble_eq_true rfl) | assumption)) only [q_174_0, q_174_1, q_174_4, q_174_5, q_174_6, q_174_7, q_174_8_t, q_174_8_f, q_174_11, q_174_12, q_174_15, q_174_16, q_174_17, q_174_18, q_174_21, q_174_22, q_174_23, q_174_24, q_174_25_t, q_174_25_f, q_174_28, q_174_31, q_174_34, q_174_35_t, q_174_35_f, q_174_38, q_174_39, q_174_40, q_174_41, q_174_44, q_174_45, q_174_46, q_174_47, q_174_48, q_174_51, q_174_52, q_174_53, q_174_54, q_174_57, q_174_58, q_174_59_t, q_174_59_f, q_174_62, q_174_65, q_174_68, q_174_69, q_174_72, q_174_73, q_174_74, q_174_75, q_174_76, q_174_79, q_174_80, q_174_81, q_174_84, q_174_85, q_174_86, q_174_87, q_174_88, q_174_91, q_174_92, q_174_93, q_174_94, q_174_95, q_174_96, q_174_97, q_174_99, q_174_100, q_174_103, q_174_104, q_174_105, q_174_107, q_174_109, q_174_111_t, q_174_111_f, q_174_114, q_174_115, q_174_118, q_174_120, q_174_121, q_174_122, q_174_123, q_174_126, q_174_128, q_174_129, q_174_132, q_174_134, q_174_135, q_174_136, q_174_137, q_174_140, q_174_142, q_174_143, q_174_144, q_174_147, q_174_150, q_174_153, q_174_154, aft_i, aft_l, aft_v, Int.toNat_natCast, kd_sI, kd_sL, kd_sR, kd_cp, gI_sL, gI_sR, gL_sI, gL_sR, gR_sI, gR_sL, gL_cp, gR_cp, kd_aI, gL_aI, gR_aI, gI_aI, gI_aIn, sI_aI, gI_sIn, Int.reduceToNat, Int.reduceAdd, Int.reduceSub, Int.reduceMul, Int.reduceNeg, Int.zero_add, hc]
  | f + 1, x :: m2, P, Q, h, L, x2, x3, c2, hf, hl, r => by
    rcases List.eq_nil_or_concat m2 with z | ⟨m, y, z⟩
    · subst z
      refine ⟨gI h 152, ?_, r⟩
      rw [aI_id]
      have hc : ((P.length + [x].length : Nat) : Int) - 1 ≤ (P.length : Int) := by simp only [List.length_singleton]; omega
      simp (disch := (first | omega | (simp only [kd_sI, kd_sL, kd_sR, kd_cp, kd_aI]; omega) | (unfold catV; exact rfl) | (unfold catS; exact Nat.le_of_ble_eq_true rfl) | assumption)) only [q_174_0, q_174_1, q_174_4, q_174_5, q_174_6, q_174_7, q_174_8_t, q_174_8_f, q_174_11, q_174_12, q_174_15, q_174_16, q_174_17, q_174_18, q_174_21, q_174_22, q_174_23, q_174_24, q_174_25_t, q_174_25_f, q_174_28, q_174_31, q_174_34, q_174_35_t, q_174_35_f, q_174_38, q_174_39, q_174_40, q_174_41, q_174_44, q_174_45, q_174_46, q_174_47, q_174_48, q_174_51, q_174_52, q_174_53, q_174_54, q_174_57, q_174_58, q_174_59_t, q_174_59_f, q_174_62, q_174_65, q_174_68, q_174_69, q_174_72, q_174_73, q_174_74, q_174_75, q_174_76, q_174_79, q_174_80, q_174_81, q_174_84, q_174_85, q_174_86, q_174_87, q_174_88, q_174_91, q_174_92, q_174_93, q_174_94, q_174_95, q_174_96, q_174_97, q_174_99, q_174_100, q_174_103, q_174_104, q_174_105, q_174_107, q_174_109, q_174_111_t, q_174_111_f, q_174_114, q_174_115, q_174_118, q_174_120, q_174_121, q_174_122, q_174_123, q_174_126, q_174_128, q_174_129, q_174_132, q_174_134, q_174_135, q_174_136, q_174_137, q_174_140, q_174_142, q_174_143, q_174_144, q_174_147, q_174_150, q_174_153, q_174_154, aft_i, aft_l, aft_v, Int.toNat_natCast, kd_sI, kd_sL, kd_sR, kd_cp, gI_sL, gI_sR, gL_sI, gL_sR, gR_sI, gR_sL, gL_cp, gR_cp, kd_aI, gL_aI, gR_aI, gI_aI, gI_aIn, sI_aI, gI_sIn, Int.reduceToNat, Int.reduceAdd, Int.reduceSub, Int.reduceMul, Int.reduceNeg, Int.zero_add, hc]
    · subst z
      rw [List.concat_eq_append] at hf hl r ⊢
      simp only [List.length_cons, List.length_append, List.length_nil] at hf hl
      have r1 : rwO (gI h 152) 0 (P ++ x :: (m ++ y :: Q)) := by simpa using r
      have r2 : rwO (gI h 152) 0 ((P ++ x :: m) ++ y :: Q) := by simpa using r
      have ex := rwO_at r1
      have ey := rwO_at r2
      have lb : (P ++ x :: m).length = P.length + m.length + 1 := by rw [List.length_append, List.length_cons]; omega
      rw [lb] at ey
      have r3 := rwO_set y r1
      have r4 := rwO_set (G := upI (gI h 152) P.length y) (A := P ++ y :: m) (B := Q) (x := y) x (by simpa using r3)
      have lb2 : (P ++ y :: m).length = P.length + m.length + 1 := by rw [List.length_append, List.length_cons]; omega
      rw [lb2] at r4
      obtain ⟨G, ih, ir⟩ := mNxt_r d i f m (P ++ [y]) (x :: Q) (aI h 152 (upI (upI (gI h 152) P.length y) (P.length + m.length + 1) x)) (lay_aI L _ _) x2 (Sum.inl (x : Int)) c2 (by omega) (by simp only [List.length_append, List.length_cons, List.length_nil]; omega) (by rw [gI_aI]; simpa using r4)
      refine ⟨G, ?_, by simpa using ir⟩
      rw [aI_aI] at ih
      have e1 : (((P ++ [y]).length : Nat) : Int) = (P.length : Int) + 1 := by rw [List.length_append]; rfl
      have e2 : (((P ++ [y]).length + m.length : Nat) : Int) - 1 = (((P.length + (x :: (m ++ [y])).length : Nat)) : Int) - 1 + -1 := by
        simp only [List.length_append, List.length_cons, List.length_nil]
        omega
      rw [e1, e2] at ih
      have ib : ((((P.length + (x :: (m ++ [y])).length : Nat)) : Int) - 1).toNat = P.length + m.length + 1 := by
        simp only [List.length_append, List.length_cons, List.length_nil]
        omega
      have hc : ¬ (((P.length + (x :: (m ++ [y])).length : Nat) : Int) - 1 ≤ (P.length : Int)) := by
        simp only [List.length_append, List.length_cons, List.length_nil]
        omega
      have hz : 0 ≤ (((P.length + (x :: (m ++ [y])).length : Nat)) : Int) - 1 ∧ (((P.length + (x :: (m ++ [y])).length : Nat)) : Int) - 1 < 7 := by
        simp only [List.length_append, List.length_cons, List.length_nil]
        omega
      generalize (((P.length + (x :: (m ++ [y])).length : Nat)) : Int) - 1 = bb at ih ib hc hz ⊢
      obtain ⟨k141, j141⟩ := lay_k L (a := 141) (t := 8) (n := 26) rfl; obtain ⟨k152, j152⟩ := lay_k L (a := 152) (t := 100) (n := 7) rfl; have r141_18 : gR h 141 18 = some 152 := lay_r L rfl
      rw [q_174_107]
      simp (disch := (first | omega | (simp only [kd_sI, kd_sL, kd_sR, kd_cp, kd_aI]; omega) | (unfold catV; exact rfl) | (unfold catS; exact Nat.le_of_ble_eq_true rfl) | assumption)) only [q_174_0, q_174_1, q_174_4, q_174_5, q_174_6, q_174_7, q_174_8_t, q_174_8_f, q_174_11, q_174_12, q_174_15, q_174_16, q_174_17, q_174_18, q_174_21, q_174_22, q_174_23, q_174_24, q_174_25_t, q_174_25_f, q_174_28, q_174_31, q_174_34, q_174_35_t, q_174_35_f, q_174_38, q_174_39, q_174_40, q_174_41, q_174_44, q_174_45, q_174_46, q_174_47, q_174_48, q_174_51, q_174_52, q_174_53, q_174_54, q_174_57, q_174_58, q_174_59_t, q_174_59_f, q_174_62, q_174_65, q_174_68, q_174_69, q_174_72, q_174_73, q_174_74, q_174_75, q_174_76, q_174_79, q_174_80, q_174_81, q_174_84, q_174_85, q_174_86, q_174_87, q_174_88, q_174_91, q_174_92, q_174_93, q_174_94, q_174_95, q_174_96, q_174_97, q_174_99, q_174_100, q_174_103, q_174_104, q_174_105, q_174_109, q_174_111_t, q_174_111_f, q_174_114, q_174_115, q_174_118, q_174_120, q_174_121, q_174_122, q_174_123, q_174_126, q_174_128, q_174_129, q_174_132, q_174_134, q_174_135, q_174_136, q_174_137, q_174_140, q_174_142, q_174_143, q_174_144, q_174_147, q_174_150, q_174_153, q_174_154, aft_i, aft_l, aft_v, Int.toNat_natCast, kd_sI, kd_sL, kd_sR, kd_cp, gI_sL, gI_sR, gL_sI, gL_sR, gR_sI, gR_sL, gL_cp, gR_cp, kd_aI, gL_aI, gR_aI, gI_aI, gI_aIn, sI_aI, gI_sIn, Int.reduceToNat, Int.reduceAdd, Int.reduceSub, Int.reduceMul, Int.reduceNeg, Int.zero_add, r141_18, ib, ex, ey, hc]
      rw [sI_is h, sI_aI]
      exact ih
theorem desc_at {G : Nat → Int} {A s : List Nat} (r : rwO G 0 (A ++ s)) (hd : Desc s) {j : Nat} (h1 : A.length ≤ j) (h2 : j + 1 < A.length + s.length) : G (j + 1) < G j := by
  have r2 := (rwO_app.mp r).2
  have a := r2 (j - A.length) (by omega)
  have b := r2 (j + 1 - A.length) (by omega)
  rw [show 0 + A.length + (j - A.length) = j by omega] at a
  rw [show 0 + A.length + (j + 1 - A.length) = j + 1 by omega] at b
  have := List.pairwise_iff_getElem.mp hd (j - A.length) (j + 1 - A.length) (by omega) (by omega) (by omega)
  omega
theorem mNext_ok (d : Nat) (h : mH) (L : LAY h) (l : List Nat) (hn : l.Nodup) (hb : b8 l) (h7 : l.length ≤ 7) (h19 : gI h 141 19 = l.length) (r : rwO (gI h 152) 0 l) : (Desc l ∧ callA (d + 1) 174 [Sum.inr (Sum.inr (some 141))] h = some (some (Sum.inl 0), h)) ∨ ∃ l2 G, NX l l2 ∧ callA (d + 1) 174 [Sum.inr (Sum.inr (some 141))] h = some (some (Sum.inl 1), aI h 152 G) ∧ rwO G 0 l2 := by
  have L0 := L
  rcases desc_split hn with hd | ⟨p, x, s, e, hd, hs⟩
  · refine Or.inl ⟨hd, ?_⟩
    obtain ⟨k141, j141⟩ := lay_k L (a := 141) (t := 8) (n := 26) rfl; obtain ⟨k152, j152⟩ := lay_k L (a := 152) (t := 100) (n := 7) rfl; have r141_18 : gR h 141 18 = some 152 := lay_r L rfl
    rw [en_174]
    by_cases z : l.length = 0
    · have z2 : (gI h 141 19) = 0 := by rw [h19, z]; rfl
      simp (disch := (first | omega | (simp only [kd_sI, kd_sL, kd_sR, kd_cp, kd_aI]; omega) | (unfold catV; exact rfl) | (unfold catS; exact Nat.le_of_ble_eq_true rfl) | assumption)) only [q_174_0, q_174_1, q_174_4, q_174_5, q_174_6, q_174_7, q_174_8_t, q_174_8_f, q_174_11, q_174_12, q_174_15, q_174_16, q_174_17, q_174_18, q_174_21, q_174_22, q_174_23, q_174_24, q_174_25_t, q_174_25_f, q_174_28, q_174_31, q_174_34, q_174_35_t, q_174_35_f, q_174_38, q_174_39, q_174_40, q_174_41, q_174_44, q_174_45, q_174_46, q_174_47, q_174_48, q_174_51, q_174_52, q_174_53, q_174_54, q_174_57, q_174_58, q_174_59_t, q_174_59_f, q_174_62, q_174_65, q_174_68, q_174_69, q_174_72, q_174_73, q_174_74, q_174_75, q_174_76, q_174_79, q_174_80, q_174_81, q_174_84, q_174_85, q_174_86, q_174_87, q_174_88, q_174_91, q_174_92, q_174_93, q_174_94, q_174_95, q_174_96, q_174_97, q_174_99, q_174_100, q_174_103, q_174_104, q_174_105, q_174_107, q_174_109, q_174_111_t, q_174_111_f, q_174_114, q_174_115, q_174_118, q_174_120, q_174_121, q_174_122, q_174_123, q_174_126, q_174_128, q_174_129, q_174_132, q_174_134, q_174_135, q_174_136, q_174_137, q_174_140, q_174_142, q_174_143, q_174_144, q_174_147, q_174_150, q_174_153, q_174_154, aft_i, aft_l, aft_v, Int.toNat_natCast, kd_sI, kd_sL, kd_sR, kd_cp, gI_sL, gI_sR, gL_sI, gL_sR, gR_sI, gR_sL, gL_cp, gR_cp, kd_aI, gL_aI, gR_aI, gI_aI, gI_aIn, sI_aI, gI_sIn, Int.reduceToNat, Int.reduceAdd, Int.reduceSub, Int.reduceMul, Int.reduceNeg, Int.zero_add, z2]
    · have e1 := mNxt_i d h L0 (gI h 152) rfl (Sum.inr (Sum.inr none)) (Sum.inr (Sum.inr none)) (Sum.inr (Sum.inr none)) (Sum.inr (Sum.inr none)) (-1) (by omega) (l.length - 1) (by omega) (fun j h1 h2 => desc_at (A := []) r hd (Nat.zero_le _) (by simp only [List.length_nil]; omega))
      rw [show (-1 : Int) + ((l.length - 1 : Nat) : Int) = (l.length : Int) - 2 by omega] at e1
      simp (disch := (first | omega | (simp only [kd_sI, kd_sL, kd_sR, kd_cp, kd_aI]; omega) | (unfold catV; exact rfl) | (unfold catS; exact Nat.le_of_ble_eq_true rfl) | assumption)) only [q_174_0, q_174_1, q_174_4, q_174_5, q_174_6, q_174_8_t, q_174_8_f, q_174_11, q_174_12, q_174_15, q_174_16, q_174_17, q_174_18, q_174_21, q_174_22, q_174_23, q_174_24, q_174_25_t, q_174_25_f, q_174_28, q_174_31, q_174_34, q_174_35_t, q_174_35_f, q_174_38, q_174_39, q_174_40, q_174_41, q_174_44, q_174_45, q_174_46, q_174_47, q_174_48, q_174_51, q_174_52, q_174_53, q_174_54, q_174_57, q_174_58, q_174_59_t, q_174_59_f, q_174_62, q_174_65, q_174_68, q_174_69, q_174_72, q_174_73, q_174_74, q_174_75, q_174_76, q_174_79, q_174_80, q_174_81, q_174_84, q_174_85, q_174_86, q_174_87, q_174_88, q_174_91, q_174_92, q_174_93, q_174_94, q_174_95, q_174_96, q_174_97, q_174_99, q_174_100, q_174_103, q_174_104, q_174_105, q_174_107, q_174_109, q_174_111_t, q_174_111_f, q_174_114, q_174_115, q_174_118, q_174_120, q_174_121, q_174_122, q_174_123, q_174_126, q_174_128, q_174_129, q_174_132, q_174_134, q_174_135, q_174_136, q_174_137, q_174_140, q_174_142, q_174_143, q_174_144, q_174_147, q_174_150, q_174_153, q_174_154, aft_i, aft_l, aft_v, Int.toNat_natCast, kd_sI, kd_sL, kd_sR, kd_cp, gI_sL, gI_sR, gL_sI, gL_sR, gR_sI, gR_sL, gL_cp, gR_cp, kd_aI, gL_aI, gR_aI, gI_aI, gI_aIn, sI_aI, gI_sIn, Int.reduceToNat, Int.reduceAdd, Int.reduceSub, Int.reduceMul, Int.reduceNeg, Int.zero_add, h19, e1]
      rw [q_174_7]
      simp (disch := (first | omega | (simp only [kd_sI, kd_sL, kd_sR, kd_cp, kd_aI]; omega) | (unfold catV; exact rfl) | (unfold catS; exact Nat.le_of_ble_eq_true rfl) | assumption)) only [q_174_0, q_174_1, q_174_4, q_174_5, q_174_6, q_174_8_t, q_174_8_f, q_174_11, q_174_12, q_174_15, q_174_16, q_174_17, q_174_18, q_174_21, q_174_22, q_174_23, q_174_24, q_174_25_t, q_174_25_f, q_174_28, q_174_31, q_174_34, q_174_35_t, q_174_35_f, q_174_38, q_174_39, q_174_40, q_174_41, q_174_44, q_174_45, q_174_46, q_174_47, q_174_48, q_174_51, q_174_52, q_174_53, q_174_54, q_174_57, q_174_58, q_174_59_t, q_174_59_f, q_174_62, q_174_65, q_174_68, q_174_69, q_174_72, q_174_73, q_174_74, q_174_75, q_174_76, q_174_79, q_174_80, q_174_81, q_174_84, q_174_85, q_174_86, q_174_87, q_174_88, q_174_91, q_174_92, q_174_93, q_174_94, q_174_95, q_174_96, q_174_97, q_174_99, q_174_100, q_174_103, q_174_104, q_174_105, q_174_107, q_174_109, q_174_111_t, q_174_111_f, q_174_114, q_174_115, q_174_118, q_174_120, q_174_121, q_174_122, q_174_123, q_174_126, q_174_128, q_174_129, q_174_132, q_174_134, q_174_135, q_174_136, q_174_137, q_174_140, q_174_142, q_174_143, q_174_144, q_174_147, q_174_150, q_174_153, q_174_154, aft_i, aft_l, aft_v, Int.toNat_natCast, kd_sI, kd_sL, kd_sR, kd_cp, gI_sL, gI_sR, gL_sI, gL_sR, gR_sI, gR_sL, gL_cp, gR_cp, kd_aI, gL_aI, gR_aI, gI_aI, gI_aIn, sI_aI, gI_sIn, Int.reduceToNat, Int.reduceAdd, Int.reduceSub, Int.reduceMul, Int.reduceNeg, Int.zero_add]
  · obtain ⟨s1, y, s2, es, hy, h2⟩ := last_gt hd hs (fun m => by
      rw [e] at hn
      exact (List.nodup_cons.mp (List.nodup_append.mp hn).2.1).1 m)
    subst es
    subst e
    have nx := nxt_pre (nxt_ok hd hy h2 (fun z hz => hb z (List.mem_append_right _ hz))) p hb
    simp only [List.length_append, List.length_cons] at h7 h19
    have ri : rwO (gI h 152) 0 ((p ++ [x]) ++ (s1 ++ y :: s2)) := by simpa using r
    have rj : rwO (gI h 152) 0 ((p ++ x :: s1) ++ y :: s2) := by simpa using r
    have e1 := mNxt_i d h L0 (gI h 152) rfl (Sum.inr (Sum.inr none)) (Sum.inr (Sum.inr none)) (Sum.inr (Sum.inr none)) (Sum.inr (Sum.inr none)) p.length (by omega) (s1.length + s2.length) (by omega) (fun j h1 h2 => desc_at ri hd (by simp only [List.length_append, List.length_cons, List.length_nil]; omega) (by simp only [List.length_append, List.length_cons, List.length_nil]; omega))
    have gi := rwO_at r
    have gj := rwO_at rj
    rw [List.length_append, List.length_cons] at gj
    have gn : x < gI h 152 (p.length + 1) := by
      obtain ⟨y2, t, e3, hy2⟩ := hs
      rw [e3] at ri
      have := rwO_at ri
      rw [List.length_append, List.length_singleton] at this
      omega
    have e2 := mNxt_j d h L0 (gI h 152) rfl p.length (by omega) (Sum.inr (Sum.inr none)) (Sum.inr (Sum.inr none)) (Sum.inr (Sum.inr none)) (p.length + (s1.length + 1)) s2.length (by omega) (fun j h3 h4 => by
      have rk : rwO (gI h 152) 0 ((p ++ x :: (s1 ++ [y])) ++ s2) := by simpa using r
      have := (rwO_app.mp rk).2 (j - (p.length + (s1.length + 1) + 1)) (by omega)
      rw [show 0 + (p ++ x :: (s1 ++ [y])).length + (j - (p.length + (s1.length + 1) + 1)) = j by
        simp only [List.length_append, List.length_cons, List.length_nil]; omega] at this
      rw [this, gi]
      have := h2 _ (List.getElem_mem (l := s2) (n := j - (p.length + (s1.length + 1) + 1)) (by omega))
      omega)
    have rs := rwO_set y r
    have rt := rwO_set (G := upI (gI h 152) p.length y) (A := p ++ y :: s1) (B := s2) (x := y) x (by simpa using rs)
    rw [List.length_append, List.length_cons] at rt
    obtain ⟨G, e4, rG⟩ := mNxt_r d p.length 7 (s1 ++ x :: s2) (p ++ [y]) [] (aI h 152 (upI (upI (gI h 152) p.length y) (p.length + (s1.length + 1)) x)) (lay_aI L0 _ _) (Sum.inl ((p.length + (s1.length + 1) : Nat) : Int)) (Sum.inl (x : Int)) rfl (by simp only [List.length_append, List.length_cons]; omega) (by simp only [List.length_append, List.length_cons, List.length_nil]; omega) (by rw [gI_aI]; simpa using rt)
    refine Or.inr ⟨_, G, nx, ?_, by simpa using rG⟩
    rw [aI_aI] at e4
    have f1 : (((p ++ [y]).length : Nat) : Int) = (p.length : Int) + 1 := by rw [List.length_append]; rfl
    have f2 : ((((p ++ [y]).length + (s1 ++ x :: s2).length : Nat)) : Int) - 1 = ((p.length + (s1.length + (s2.length + 1) + 1) : Nat) : Int) - 1 := by
      simp only [List.length_append, List.length_cons, List.length_nil]
      omega
    rw [f1, f2] at e4
    rw [show ((p.length : Int) + ((s1.length + s2.length : Nat) : Int)) = ((p.length + (s1.length + (s2.length + 1) + 1) : Nat) : Int) - 2 by omega] at e1
    rw [show ((p.length + (s1.length + 1) + s2.length : Nat) : Int) = ((p.length + (s1.length + (s2.length + 1) + 1) : Nat) : Int) - 1 by omega] at e2
    have ix : ((p.length : Int) + 1).toNat = p.length + 1 := by omega
    obtain ⟨k141, j141⟩ := lay_k L (a := 141) (t := 8) (n := 26) rfl; obtain ⟨k152, j152⟩ := lay_k L (a := 152) (t := 100) (n := 7) rfl; have r141_18 : gR h 141 18 = some 152 := lay_r L rfl
    rw [en_174]
    simp (disch := (first | omega | (simp only [kd_sI, kd_sL, kd_sR, kd_cp, kd_aI]; omega) | (unfold catV; exact rfl) | (unfold catS; exact Nat.le_of_ble_eq_true rfl) | assumption)) only [q_174_0, q_174_1, q_174_4, q_174_5, q_174_6, q_174_8_t, q_174_8_f, q_174_11, q_174_12, q_174_15, q_174_16, q_174_17, q_174_18, q_174_21, q_174_22, q_174_23, q_174_24, q_174_25_t, q_174_25_f, q_174_28, q_174_31, q_174_34, q_174_35_t, q_174_35_f, q_174_38, q_174_39, q_174_40, q_174_41, q_174_44, q_174_45, q_174_46, q_174_47, q_174_48, q_174_51, q_174_52, q_174_53, q_174_54, q_174_57, q_174_58, q_174_59_t, q_174_59_f, q_174_62, q_174_65, q_174_68, q_174_69, q_174_72, q_174_73, q_174_74, q_174_75, q_174_76, q_174_79, q_174_80, q_174_81, q_174_84, q_174_85, q_174_86, q_174_87, q_174_88, q_174_91, q_174_92, q_174_93, q_174_94, q_174_95, q_174_96, q_174_97, q_174_99, q_174_100, q_174_103, q_174_104, q_174_105, q_174_107, q_174_109, q_174_111_t, q_174_111_f, q_174_114, q_174_115, q_174_118, q_174_120, q_174_121, q_174_122, q_174_123, q_174_126, q_174_128, q_174_129, q_174_132, q_174_134, q_174_135, q_174_136, q_174_137, q_174_140, q_174_142, q_174_143, q_174_144, q_174_147, q_174_150, q_174_153, q_174_154, aft_i, aft_l, aft_v, Int.toNat_natCast, kd_sI, kd_sL, kd_sR, kd_cp, gI_sL, gI_sR, gL_sI, gL_sR, gR_sI, gR_sL, gL_cp, gR_cp, kd_aI, gL_aI, gR_aI, gI_aI, gI_aIn, sI_aI, gI_sIn, Int.reduceToNat, Int.reduceAdd, Int.reduceSub, Int.reduceMul, Int.reduceNeg, Int.zero_add, h19, e1]
    rw [q_174_7]
    simp (disch := (first | omega | (simp only [kd_sI, kd_sL, kd_sR, kd_cp, kd_aI]; omega) | (unfold catV; exact rfl) | (unfold catS; exact Nat.le_of_ble_eq_true rfl) | assumption)) only [q_174_0, q_174_1, q_174_4, q_174_5, q_174_6, q_174_8_t, q_174_8_f, q_174_11, q_174_12, q_174_15, q_174_16, q_174_17, q_174_18, q_174_21, q_174_22, q_174_23, q_174_24, q_174_25_t, q_174_25_f, q_174_28, q_174_31, q_174_34, q_174_35_t, q_174_35_f, q_174_38, q_174_39, q_174_40, q_174_41, q_174_44, q_174_45, q_174_46, q_174_48, q_174_51, q_174_52, q_174_53, q_174_54, q_174_57, q_174_58, q_174_59_t, q_174_59_f, q_174_62, q_174_65, q_174_68, q_174_69, q_174_72, q_174_73, q_174_74, q_174_75, q_174_76, q_174_79, q_174_80, q_174_81, q_174_84, q_174_85, q_174_86, q_174_87, q_174_88, q_174_91, q_174_92, q_174_93, q_174_94, q_174_95, q_174_96, q_174_97, q_174_99, q_174_100, q_174_103, q_174_104, q_174_105, q_174_109, q_174_111_t, q_174_111_f, q_174_114, q_174_115, q_174_118, q_174_120, q_174_121, q_174_122, q_174_123, q_174_126, q_174_128, q_174_129, q_174_132, q_174_134, q_174_135, q_174_136, q_174_137, q_174_140, q_174_142, q_174_143, q_174_144, q_174_147, q_174_150, q_174_153, q_174_154, aft_i, aft_l, aft_v, Int.toNat_natCast, kd_sI, kd_sL, kd_sR, kd_cp, gI_sL, gI_sR, gL_sI, gL_sR, gR_sI, gR_sL, gL_cp, gR_cp, kd_aI, gL_aI, gR_aI, gI_aI, gI_aIn, sI_aI, gI_sIn, Int.reduceToNat, Int.reduceAdd, Int.reduceSub, Int.reduceMul, Int.reduceNeg, Int.zero_add, r141_18, gi, gn, ix, h19, e2]
    rw [q_174_47]
    simp (disch := (first | omega | (simp only [kd_sI, kd_sL, kd_sR, kd_cp, kd_aI]; omega) | (unfold catV; exact rfl) | (unfold catS; exact Nat.le_of_ble_eq_true rfl) | assumption)) only [q_174_0, q_174_1, q_174_4, q_174_5, q_174_6, q_174_8_t, q_174_8_f, q_174_11, q_174_12, q_174_15, q_174_16, q_174_17, q_174_18, q_174_21, q_174_22, q_174_23, q_174_24, q_174_25_t, q_174_25_f, q_174_28, q_174_31, q_174_34, q_174_35_t, q_174_35_f, q_174_38, q_174_39, q_174_40, q_174_41, q_174_44, q_174_45, q_174_46, q_174_48, q_174_51, q_174_52, q_174_53, q_174_54, q_174_57, q_174_58, q_174_59_t, q_174_59_f, q_174_62, q_174_65, q_174_68, q_174_69, q_174_72, q_174_73, q_174_74, q_174_75, q_174_76, q_174_79, q_174_80, q_174_81, q_174_84, q_174_85, q_174_86, q_174_87, q_174_88, q_174_91, q_174_92, q_174_93, q_174_94, q_174_95, q_174_96, q_174_97, q_174_99, q_174_100, q_174_103, q_174_104, q_174_105, q_174_109, q_174_111_t, q_174_111_f, q_174_114, q_174_115, q_174_118, q_174_120, q_174_121, q_174_122, q_174_123, q_174_126, q_174_128, q_174_129, q_174_132, q_174_134, q_174_135, q_174_136, q_174_137, q_174_140, q_174_142, q_174_143, q_174_144, q_174_147, q_174_150, q_174_153, q_174_154, aft_i, aft_l, aft_v, Int.toNat_natCast, kd_sI, kd_sL, kd_sR, kd_cp, gI_sL, gI_sR, gL_sI, gL_sR, gR_sI, gR_sL, gL_cp, gR_cp, kd_aI, gL_aI, gR_aI, gI_aI, gI_aIn, sI_aI, gI_sIn, Int.reduceToNat, Int.reduceAdd, Int.reduceSub, Int.reduceMul, Int.reduceNeg, Int.zero_add, r141_18, gi, gj, h19]
    rw [sI_is h, sI_aI]
    exact e4
