theorem mKeep_loop (d : Nat) (h : mH) (L : LAY h) (j : Nat) (hj : j < 2) : ∀ (k i : Nat), i + k = 617 → resA (callA d) 189 (13, [Sum.inr (Sum.inr (some 141)), Sum.inl (j : Int), Sum.inl (i : Int)], [], aI h 150 (cpF (gI h 150) 0 (617 * (j + 1)) i)) = resA (callA d) 189 (46, [Sum.inr (Sum.inr (some 141)), Sum.inl (j : Int), Sum.inl 617], [], aI h 150 (cpF (gI h 150) 0 (617 * (j + 1)) 617))
  | 0, i, hi => by
    have e : i = 617 := by omega
    subst e
    simp (disch := (first | omega | (simp only [kd_sI, kd_sL, kd_sR, kd_cp, kd_aI]; omega) | (unfold catV; exact rfl) | (unfold catS; exact Nat.le_of_ble_eq_true rfl) | assumption)) only [q_189_0, q_189_1, q_189_2, q_189_3, q_189_6_t, q_189_6_f, q_189_9, q_189_10, q_189_11, q_189_12, q_189_13, q_189_14, q_189_17_t, q_189_17_f, q_189_20, q_189_21, q_189_24, q_189_27, q_189_28, q_189_29, q_189_30, q_189_31, q_189_32, q_189_33, q_189_34, q_189_37, q_189_38, q_189_39, q_189_40, q_189_43, q_189_47, q_189_50, q_189_51, q_189_52, q_189_53, q_189_54, q_189_57, q_189_59, q_189_60, aft_i, aft_l, aft_v, Int.toNat_natCast, kd_sI, kd_sL, kd_sR, kd_cp, gI_sL, gI_sR, gL_sI, gL_sR, gR_sI, gR_sL, gL_cp, gR_cp, kd_aI, gL_aI, gR_aI, gI_aI, gI_aIn, sI_aI, gI_sIn, Int.reduceToNat, Int.reduceAdd, Int.reduceSub, Int.reduceMul, Int.reduceNeg, Int.zero_add]
    rfl
  | k + 1, i, hi => by
    have ih := mKeep_loop d h L j hj k (i + 1) (by omega)
    obtain ⟨k141, j141⟩ := lay_k L (a := 141) (t := 8) (n := 26) rfl; obtain ⟨k150, j150⟩ := lay_k L (a := 150) (t := 100) (n := 1851) rfl; have r141_16 : gR h 141 16 = some 150 := lay_r L rfl
    have e1 : (617 * (1 + (j : Int)) + (i : Int)).toNat = 617 * (j + 1) + i := by omega
    rw [q_189_13]
    simp (disch := (first | omega | (simp only [kd_sI, kd_sL, kd_sR, kd_cp, kd_aI]; omega) | (unfold catV; exact rfl) | (unfold catS; exact Nat.le_of_ble_eq_true rfl) | assumption)) only [q_189_0, q_189_1, q_189_2, q_189_3, q_189_6_t, q_189_6_f, q_189_9, q_189_10, q_189_11, q_189_12, q_189_14, q_189_17_t, q_189_17_f, q_189_20, q_189_21, q_189_24, q_189_27, q_189_28, q_189_29, q_189_30, q_189_31, q_189_32, q_189_33, q_189_34, q_189_37, q_189_38, q_189_39, q_189_40, q_189_43, q_189_47, q_189_50, q_189_51, q_189_52, q_189_53, q_189_54, q_189_57, q_189_59, q_189_60, aft_i, aft_l, aft_v, Int.toNat_natCast, kd_sI, kd_sL, kd_sR, kd_cp, gI_sL, gI_sR, gL_sI, gL_sR, gR_sI, gR_sL, gL_cp, gR_cp, kd_aI, gL_aI, gR_aI, gI_aI, gI_aIn, sI_aI, gI_sIn, Int.reduceToNat, Int.reduceAdd, Int.reduceSub, Int.reduceMul, Int.reduceNeg, Int.zero_add, r141_16, e1]
    have e4 := cpF_up (G := gI h 150) (src := 0) (dst := 617 * (j + 1)) (n := i) (by omega)
    rw [Nat.zero_add] at e4
    rw [← e4] at ih
    exact ih
theorem mBack_loop (d : Nat) (h : mH) (L : LAY h) (j : Nat) (hj : j < 2) : ∀ (k i : Nat), i + k = 617 → resA (callA d) 190 (25, [Sum.inr (Sum.inr (some 141)), Sum.inl (j : Int), Sum.inl (i : Int)], [], aI h 150 (cpF (gI h 150) (617 * (j + 1)) 0 i)) = resA (callA d) 190 (58, [Sum.inr (Sum.inr (some 141)), Sum.inl (j : Int), Sum.inl 617], [], aI h 150 (cpF (gI h 150) (617 * (j + 1)) 0 617))
  | 0, i, hi => by
    have e : i = 617 := by omega
    subst e
    simp (disch := (first | omega | (simp only [kd_sI, kd_sL, kd_sR, kd_cp, kd_aI]; omega) | (unfold catV; exact rfl) | (unfold catS; exact Nat.le_of_ble_eq_true rfl) | assumption)) only [q_190_0, q_190_1, q_190_2, q_190_3, q_190_6_t, q_190_6_f, q_190_9, q_190_10, q_190_11, q_190_12, q_190_15, q_190_16, q_190_17_t, q_190_17_f, q_190_20, q_190_22, q_190_23, q_190_24, q_190_25, q_190_26, q_190_29_t, q_190_29_f, q_190_32, q_190_33, q_190_36, q_190_37, q_190_38, q_190_41, q_190_44, q_190_45, q_190_46, q_190_47, q_190_48, q_190_49, q_190_50, q_190_51, q_190_52, q_190_55, q_190_59, q_190_62, q_190_64, q_190_65, aft_i, aft_l, aft_v, Int.toNat_natCast, kd_sI, kd_sL, kd_sR, kd_cp, gI_sL, gI_sR, gL_sI, gL_sR, gR_sI, gR_sL, gL_cp, gR_cp, kd_aI, gL_aI, gR_aI, gI_aI, gI_aIn, sI_aI, gI_sIn, Int.reduceToNat, Int.reduceAdd, Int.reduceSub, Int.reduceMul, Int.reduceNeg, Int.zero_add]
    rfl
  | k + 1, i, hi => by
    have ih := mBack_loop d h L j hj k (i + 1) (by omega)
    obtain ⟨k141, j141⟩ := lay_k L (a := 141) (t := 8) (n := 26) rfl; obtain ⟨k150, j150⟩ := lay_k L (a := 150) (t := 100) (n := 1851) rfl; have r141_16 : gR h 141 16 = some 150 := lay_r L rfl
    have e1 : (617 * (1 + (j : Int)) + (i : Int)).toNat = 617 * (j + 1) + i := by omega
    rw [q_190_25]
    simp (disch := (first | omega | (simp only [kd_sI, kd_sL, kd_sR, kd_cp, kd_aI]; omega) | (unfold catV; exact rfl) | (unfold catS; exact Nat.le_of_ble_eq_true rfl) | assumption)) only [q_190_0, q_190_1, q_190_2, q_190_3, q_190_6_t, q_190_6_f, q_190_9, q_190_10, q_190_11, q_190_12, q_190_15, q_190_16, q_190_17_t, q_190_17_f, q_190_20, q_190_22, q_190_23, q_190_24, q_190_26, q_190_29_t, q_190_29_f, q_190_32, q_190_33, q_190_36, q_190_37, q_190_38, q_190_41, q_190_44, q_190_45, q_190_46, q_190_47, q_190_48, q_190_49, q_190_50, q_190_51, q_190_52, q_190_55, q_190_59, q_190_62, q_190_64, q_190_65, aft_i, aft_l, aft_v, Int.toNat_natCast, kd_sI, kd_sL, kd_sR, kd_cp, gI_sL, gI_sR, gL_sI, gL_sR, gR_sI, gR_sL, gL_cp, gR_cp, kd_aI, gL_aI, gR_aI, gI_aI, gI_aIn, sI_aI, gI_sIn, Int.reduceToNat, Int.reduceAdd, Int.reduceSub, Int.reduceMul, Int.reduceNeg, Int.zero_add, r141_16, e1]
    have e4 := cpF_up (G := gI h 150) (src := 617 * (j + 1)) (dst := 0) (n := i) (by omega)
    rw [Nat.zero_add] at e4
    rw [← e4] at ih
    exact ih
def upM (f : Im) (j : Nat) (x : Option (Nt × List Nt)) : Im := fun i => if i = j then x else f i
def zim (σ : Sg) (I : Im) : Sg := (zX σ, zT σ, (zN σ, zP σ), I, zS σ, zR σ)
def keeS (σ : Sg) (i : Int) : Int × Sg := if 0 ≤ i ∧ i ≤ 1 then (nM (zN σ), zim σ (upM (zI σ) i.toNat (some (zN σ, zP σ)))) else (-1, σ)
theorem mKeep_ok (d : Nat) (h : mH) (L : LAY h) (σ : Sg) (w : wfS σ) (m : MI h σ) (i : Int) : mOK (d + 2) 189 [Sum.inl i] h (Sum.inl (keeS σ i).1) (keeS σ i).2 := by
  have L0 := L
  unfold keeS
  by_cases q : 0 ≤ i ∧ i ≤ 1
  · have e := in_t d h i 0 1 q
    rw [if_pos q]
    obtain ⟨j, rfl⟩ : ∃ j : Nat, i = j := ⟨i.toNat, by omega⟩
    rw [Int.toNat_natCast]
    have hj : j < 2 := by omega
    obtain ⟨m1, m2, m3, m4, m5, m6, m7, m8, m9⟩ := m
    have el := mKeep_loop (d + 1) h L j hj 617 0 rfl
    rw [cpF_0, aI_id, show ((0 : Nat) : Int) = 0 from rfl] at el
    have e7 : cpF (gI h 150) 0 (617 * (j + 1)) 617 7 = nM (zN σ) := by rw [cpF_out (by omega)]; exact m2.1.1
    obtain ⟨k141, j141⟩ := lay_k L (a := 141) (t := 8) (n := 26) rfl; obtain ⟨k150, j150⟩ := lay_k L (a := 150) (t := 100) (n := 1851) rfl; obtain ⟨k151, j151⟩ := lay_k L (a := 151) (t := 102) (n := 2) rfl; have r141_16 : gR h 141 16 = some 150 := lay_r L rfl; have r141_17 : gR h 141 17 = some 151 := lay_r L rfl
    refine mOK_w (g := sI (aI h 150 (cpF (gI h 150) 0 (617 * (j + 1)) 617)) 151 j 1) ?_ (frm_tr (frm_aI (by omega) (by omega)) (frm_sI (by omega) (by omega))) (lay_sI (lay_aI L0 _ _) _ _ _) ?_
    · have hb : ((kd (aI h 150 (cpF (gI h 150) 0 (617 * (j + 1)) 617)) 151).1 = 101 ∧ -128 ≤ (1 : Int) ∧ (1 : Int) < 128) ∨ ((kd (aI h 150 (cpF (gI h 150) 0 (617 * (j + 1)) 617)) 151).1 = 102 ∧ ((1 : Int) = 0 ∨ (1 : Int) = 1)) := Or.inr ⟨k151, Or.inr rfl⟩
      rw [en_189]
      simp (disch := (first | omega | (simp only [kd_sI, kd_sL, kd_sR, kd_cp, kd_aI]; omega) | (unfold catV; exact rfl) | (unfold catS; exact Nat.le_of_ble_eq_true rfl) | assumption)) only [q_189_0, q_189_1, q_189_2, q_189_3, q_189_6_t, q_189_6_f, q_189_9, q_189_10, q_189_11, q_189_12, q_189_14, q_189_17_t, q_189_17_f, q_189_20, q_189_21, q_189_24, q_189_27, q_189_28, q_189_29, q_189_30, q_189_31, q_189_32, q_189_33, q_189_34, q_189_37, q_189_38, q_189_39, q_189_40, q_189_43, q_189_46, q_189_47, q_189_50, q_189_51, q_189_52, q_189_53, q_189_54, q_189_57, q_189_59, q_189_60, aft_i, aft_l, aft_v, Int.toNat_natCast, kd_sI, kd_sL, kd_sR, kd_cp, gI_sL, gI_sR, gL_sI, gL_sR, gR_sI, gR_sL, gL_cp, gR_cp, kd_aI, gL_aI, gR_aI, gI_aI, gI_aIn, sI_aI, gI_sIn, Int.reduceToNat, Int.reduceAdd, Int.reduceSub, Int.reduceMul, Int.reduceNeg, Int.zero_add, e, el, r141_16, r141_17, e7]
    · refine ⟨?_, ?_, fun i hi => ?_, fun i N P hi e => ?_, ?_, fun k q => ?_, ?_, fun k q => ?_, m9⟩
      · show mT _ (zT σ)
        unfold mT at m1 ⊢
        simp only [gI_sIn, gI_aIn, Nat.reduceEqDiff, ne_eq, not_false_eq_true]
        exact m1
      · rw [gI_sIn (by omega), gI_aI]
        exact whG_congr w.1 w.2.1 (fun k hk => by rw [cpF_out (by omega)]) m2
      · show _ = if (upM (zI σ) j (some (zN σ, zP σ)) i).isSome = true then 1 else 0
        unfold upM
        rw [gI_sI]
        by_cases y : i = j
        · rw [if_pos ⟨rfl, y⟩, if_pos y]; rfl
        · rw [if_neg (fun z => y z.2), if_neg y, gI_aIn (by omega)]
          exact m3 i hi
      · have e : (if i = j then some (zN σ, zP σ) else zI σ i) = some (N, P) := e
        rw [gI_sIn (by omega), gI_aI]
        by_cases y : i = j
        · subst y
          rw [if_pos rfl] at e
          cases e
          refine whG_congr w.1 w.2.1 (fun k hk => ?_) m2
          rw [cpF_in hk]
        · rw [if_neg y] at e
          refine whG_congr w.1 (w.2.2.1 i N P hi e).1 (fun k hk => ?_) (m4 i N P hi e)
          rw [cpF_out (by omega)]
      · rw [gI_sIn (by omega), gI_aIn (by omega)]; exact m5
      · rw [gI_sIn (by omega), gI_aIn (by omega), gI_sIn (by omega), gI_aIn (by omega)]; exact m6 k q
      · rw [gI_sIn (by omega), gI_aIn (by omega)]; exact m7
      · rw [gI_sIn (by omega), gI_aIn (by omega)]; exact m8 k q
  · have e := in_f d h i 0 1 q
    rw [if_neg q]
    obtain ⟨k141, j141⟩ := lay_k L (a := 141) (t := 8) (n := 26) rfl
    refine mOK_s L0 m ?_
    rw [en_189]
    simp (disch := (first | omega | (simp only [kd_sI, kd_sL, kd_sR, kd_cp, kd_aI]; omega) | (unfold catV; exact rfl) | (unfold catS; exact Nat.le_of_ble_eq_true rfl) | assumption)) only [q_189_0, q_189_1, q_189_2, q_189_3, q_189_6_t, q_189_6_f, q_189_9, q_189_10, q_189_11, q_189_12, q_189_13, q_189_14, q_189_17_t, q_189_17_f, q_189_20, q_189_21, q_189_24, q_189_27, q_189_28, q_189_29, q_189_30, q_189_31, q_189_32, q_189_33, q_189_34, q_189_37, q_189_38, q_189_39, q_189_40, q_189_43, q_189_46, q_189_47, q_189_50, q_189_51, q_189_52, q_189_53, q_189_54, q_189_57, q_189_59, q_189_60, aft_i, aft_l, aft_v, Int.toNat_natCast, kd_sI, kd_sL, kd_sR, kd_cp, gI_sL, gI_sR, gL_sI, gL_sR, gR_sI, gR_sL, gL_cp, gR_cp, kd_aI, gL_aI, gR_aI, gI_aI, gI_aIn, sI_aI, gI_sIn, Int.reduceToNat, Int.reduceAdd, Int.reduceSub, Int.reduceMul, Int.reduceNeg, Int.zero_add, e]
def bacS (σ : Sg) (i : Int) : Int × Sg := if 0 ≤ i ∧ i ≤ 1 then (match zI σ i.toNat with
  | none => (-2, σ)
  | some (N, P) => (nM N, zev σ N P)) else (-1, σ)
theorem mBack_ok (d : Nat) (h : mH) (L : LAY h) (σ : Sg) (w : wfS σ) (m : MI h σ) (i : Int) : mOK (d + 2) 190 [Sum.inl i] h (Sum.inl (bacS σ i).1) (bacS σ i).2 := by
  have L0 := L
  obtain ⟨k141, j141⟩ := lay_k L (a := 141) (t := 8) (n := 26) rfl; obtain ⟨k150, j150⟩ := lay_k L (a := 150) (t := 100) (n := 1851) rfl; obtain ⟨k151, j151⟩ := lay_k L (a := 151) (t := 102) (n := 2) rfl; have r141_16 : gR h 141 16 = some 150 := lay_r L rfl; have r141_17 : gR h 141 17 = some 151 := lay_r L rfl
  unfold bacS
  by_cases q : 0 ≤ i ∧ i ≤ 1
  · have e := in_t d h i 0 1 q
    rw [if_pos q]
    obtain ⟨j, rfl⟩ : ∃ j : Nat, i = j := ⟨i.toNat, by omega⟩
    rw [Int.toNat_natCast]
    have hj : j < 2 := by omega
    have m3 := m.2.2.1 j hj
    have m4 := m.2.2.2.1 j
    cases y : zI σ j with
    | none =>
      rw [y] at m3
      have m3 : gI h 151 j = 0 := m3
      refine mOK_s L0 m ?_
      rw [en_190]
      simp (disch := (first | omega | (simp only [kd_sI, kd_sL, kd_sR, kd_cp, kd_aI]; omega) | (unfold catV; exact rfl) | (unfold catS; exact Nat.le_of_ble_eq_true rfl) | assumption)) only [q_190_0, q_190_1, q_190_2, q_190_3, q_190_6_t, q_190_6_f, q_190_9, q_190_10, q_190_11, q_190_12, q_190_15, q_190_16, q_190_17_t, q_190_17_f, q_190_20, q_190_22, q_190_23, q_190_24, q_190_25, q_190_26, q_190_29_t, q_190_29_f, q_190_32, q_190_33, q_190_36, q_190_37, q_190_38, q_190_41, q_190_44, q_190_45, q_190_46, q_190_47, q_190_48, q_190_49, q_190_50, q_190_51, q_190_52, q_190_55, q_190_58, q_190_59, q_190_62, q_190_64, q_190_65, aft_i, aft_l, aft_v, Int.toNat_natCast, kd_sI, kd_sL, kd_sR, kd_cp, gI_sL, gI_sR, gL_sI, gL_sR, gR_sI, gR_sL, gL_cp, gR_cp, kd_aI, gL_aI, gR_aI, gI_aI, gI_aIn, sI_aI, gI_sIn, Int.reduceToNat, Int.reduceAdd, Int.reduceSub, Int.reduceMul, Int.reduceNeg, Int.zero_add, e, r141_17, m3]
    | some X =>
      obtain ⟨N, P⟩ := X
      rw [y] at m3
      have m3 : gI h 151 j = 1 := m3
      have s := m4 N P hj y
      have el := mBack_loop (d + 1) h L j hj 617 0 rfl
      rw [cpF_0, aI_id, show ((0 : Nat) : Int) = 0 from rfl] at el
      have s2 : whG (cpF (gI h 150) (617 * (j + 1)) 0 617) 0 (zT σ) N P := whG_congr w.1 (w.2.2.1 j N P hj y).1 (fun k hk => by rw [cpF_in hk]) s
      have e7 : cpF (gI h 150) (617 * (j + 1)) 0 617 7 = nM N := s2.1.1
      have v : evA h (aI h 150 (cpF (gI h 150) (617 * (j + 1)) 0 617)) := evA_aI (fun k hk => cpF_out (by omega))
      refine mOK_w (g := aI h 150 (cpF (gI h 150) (617 * (j + 1)) 0 617)) ?_ (evA_frm v) (lay_aI L0 _ _) (MI_evA w m v (by rw [gI_aI]; exact s2))
      rw [en_190]
      simp (disch := (first | omega | (simp only [kd_sI, kd_sL, kd_sR, kd_cp, kd_aI]; omega) | (unfold catV; exact rfl) | (unfold catS; exact Nat.le_of_ble_eq_true rfl) | assumption)) only [q_190_0, q_190_1, q_190_2, q_190_3, q_190_6_t, q_190_6_f, q_190_9, q_190_10, q_190_11, q_190_12, q_190_15, q_190_16, q_190_17_t, q_190_17_f, q_190_20, q_190_22, q_190_23, q_190_24, q_190_26, q_190_29_t, q_190_29_f, q_190_32, q_190_33, q_190_36, q_190_37, q_190_38, q_190_41, q_190_44, q_190_45, q_190_46, q_190_47, q_190_48, q_190_49, q_190_50, q_190_51, q_190_52, q_190_55, q_190_58, q_190_59, q_190_62, q_190_64, q_190_65, aft_i, aft_l, aft_v, Int.toNat_natCast, kd_sI, kd_sL, kd_sR, kd_cp, gI_sL, gI_sR, gL_sI, gL_sR, gR_sI, gR_sL, gL_cp, gR_cp, kd_aI, gL_aI, gR_aI, gI_aI, gI_aIn, sI_aI, gI_sIn, Int.reduceToNat, Int.reduceAdd, Int.reduceSub, Int.reduceMul, Int.reduceNeg, Int.zero_add, e, el, r141_16, r141_17, e7, m3]
  · have e := in_f d h i 0 1 q
    rw [if_neg q]
    refine mOK_s L0 m ?_
    rw [en_190]
    simp (disch := (first | omega | (simp only [kd_sI, kd_sL, kd_sR, kd_cp, kd_aI]; omega) | (unfold catV; exact rfl) | (unfold catS; exact Nat.le_of_ble_eq_true rfl) | assumption)) only [q_190_0, q_190_1, q_190_2, q_190_3, q_190_6_t, q_190_6_f, q_190_9, q_190_10, q_190_11, q_190_12, q_190_15, q_190_16, q_190_17_t, q_190_17_f, q_190_20, q_190_22, q_190_23, q_190_24, q_190_25, q_190_26, q_190_29_t, q_190_29_f, q_190_32, q_190_33, q_190_36, q_190_37, q_190_38, q_190_41, q_190_44, q_190_45, q_190_46, q_190_47, q_190_48, q_190_49, q_190_50, q_190_51, q_190_52, q_190_55, q_190_58, q_190_59, q_190_62, q_190_64, q_190_65, aft_i, aft_l, aft_v, Int.toNat_natCast, kd_sI, kd_sL, kd_sR, kd_cp, gI_sL, gI_sR, gL_sI, gL_sR, gR_sI, gR_sL, gL_cp, gR_cp, kd_aI, gL_aI, gR_aI, gI_aI, gI_aIn, sI_aI, gI_sIn, Int.reduceToNat, Int.reduceAdd, Int.reduceSub, Int.reduceMul, Int.reduceNeg, Int.zero_add, e]
