theorem fndB_t {r : Nat → Int} {a b : Int} : ∀ {n : Nat}, fndB r a b n = true ↔ ∃ i, i < n ∧ r i = a ∧ r (i + 1) = b
  | 0 => by
    constructor
    · intro h; cases h
    · rintro ⟨i, h, _⟩; exact absurd h (Nat.not_lt_zero _)
  | n + 1 => by
    unfold fndB
    rw [Bool.or_eq_true, fndB_t (n := n), Bool.and_eq_true, decide_eq_true_iff, decide_eq_true_iff]
    constructor
    · rintro (⟨i, h1, h2⟩ | ⟨h1, h2⟩)
      · exact ⟨i, by omega, h2⟩
      · exact ⟨n, by omega, h1, h2⟩
    · rintro ⟨i, h1, h2, h3⟩
      by_cases z : i = n
      · subst z; exact Or.inr ⟨h2, h3⟩
      · exact Or.inl ⟨i, by omega, h2, h3⟩
theorem wRt_loop (d : Nat) (h : mH) (L : LAY h) (n p : Nat) (hn : gI h 14 2 = n) (n7 : n ≤ 7) (k1 : (kd h p).1 = 100) (k2 : (kd h p).2 = 7) (a b : Int) : ∀ (k i : Nat), i + 1 + k = n → (∀ j, j < i → ¬ (gI h p j = a ∧ gI h p (j + 1) = b)) → resA (callA d) 112 (3, [Sum.inr (Sum.inr (some 0)), Sum.inr (Sum.inr (some p)), Sum.inl a, Sum.inl b, Sum.inl ((i : Int) + 1)], [], h) = some (some (Sum.inl (bI (fndB (gI h p) a b (n - 1)))), h)
  | 0, i, hi, hz => by
    have e : n = i + 1 := by omega
    subst e
    have hf : fndB (gI h p) a b (i + 1 - 1) = false := by
      cases q : fndB (gI h p) a b (i + 1 - 1) with
      | false => rfl
      | true =>
        obtain ⟨j, h1, h2⟩ := fndB_t.mp q
        exact absurd h2 (hz j (by omega))
    rw [hf]
    have e1 : ((i + 1 : Nat) : Int) = (i : Int) + 1 := rfl
    obtain ⟨k0, j0⟩ := lay_k L (a := 0) (t := 7) (n := 17) rfl; obtain ⟨k13, j13⟩ := lay_k L (a := 13) (t := 4) (n := 4) rfl; obtain ⟨k14, j14⟩ := lay_k L (a := 14) (t := 2) (n := 5) rfl; have r0_3 : gR h 0 3 = some 13 := lay_r L rfl; have r13_0 : gR h 13 0 = some 14 := lay_r L rfl
    simp (disch := (first | omega | (simp only [kd_sI, kd_sL, kd_sR, kd_cp, kd_aI]; omega) | (unfold catV; exact rfl) | (unfold catS; exact Nat.le_of_ble_eq_true rfl) | assumption)) only [q_112_0, q_112_1, q_112_3, q_112_5, q_112_6, q_112_9, q_112_12, q_112_15_t, q_112_15_f, q_112_18, q_112_19, q_112_21, q_112_22, q_112_23, q_112_24, q_112_25_t, q_112_25_f, q_112_28, q_112_29, q_112_31, q_112_32, q_112_33_t, q_112_33_f, q_112_36, q_112_37, q_112_38, q_112_41, q_112_44, q_112_45, aft_i, aft_l, aft_v, Int.toNat_natCast, kd_sI, kd_sL, kd_sR, kd_cp, gI_sL, gI_sR, gL_sI, gL_sR, gR_sI, gR_sL, gL_cp, gR_cp, kd_aI, gL_aI, gR_aI, gI_aI, gI_aIn, sI_aI, gI_sIn, Int.reduceToNat, Int.reduceAdd, Int.reduceSub, Int.reduceMul, Int.reduceNeg, Int.zero_add, r0_3, r13_0, hn, e1]
    rfl
  | k + 1, i, hi, hz => by
    have e1 : ((i : Int) + 1 - 1).toNat = i := by omega
    have e2 : ((i : Int) + 1).toNat = i + 1 := by omega
    obtain ⟨k0, j0⟩ := lay_k L (a := 0) (t := 7) (n := 17) rfl; obtain ⟨k13, j13⟩ := lay_k L (a := 13) (t := 4) (n := 4) rfl; obtain ⟨k14, j14⟩ := lay_k L (a := 14) (t := 2) (n := 5) rfl; have r0_3 : gR h 0 3 = some 13 := lay_r L rfl; have r13_0 : gR h 13 0 = some 14 := lay_r L rfl
    by_cases z : gI h p i = a ∧ gI h p (i + 1) = b
    · have hf : fndB (gI h p) a b (n - 1) = true := fndB_t.mpr ⟨i, by omega, z⟩
      rw [hf]
      obtain ⟨z1, z2⟩ := z
      simp (disch := (first | omega | (simp only [kd_sI, kd_sL, kd_sR, kd_cp, kd_aI]; omega) | (unfold catV; exact rfl) | (unfold catS; exact Nat.le_of_ble_eq_true rfl) | assumption)) only [q_112_0, q_112_1, q_112_3, q_112_5, q_112_6, q_112_9, q_112_12, q_112_15_t, q_112_15_f, q_112_18, q_112_19, q_112_21, q_112_22, q_112_23, q_112_24, q_112_25_t, q_112_25_f, q_112_28, q_112_29, q_112_31, q_112_32, q_112_33_t, q_112_33_f, q_112_36, q_112_37, q_112_38, q_112_41, q_112_44, q_112_45, aft_i, aft_l, aft_v, Int.toNat_natCast, kd_sI, kd_sL, kd_sR, kd_cp, gI_sL, gI_sR, gL_sI, gL_sR, gR_sI, gR_sL, gL_cp, gR_cp, kd_aI, gL_aI, gR_aI, gI_aI, gI_aIn, sI_aI, gI_sIn, Int.reduceToNat, Int.reduceAdd, Int.reduceSub, Int.reduceMul, Int.reduceNeg, Int.zero_add, r0_3, r13_0, hn, e1, e2, z1, z2]
      rfl
    · have ih := wRt_loop d h L n p hn n7 k1 k2 a b k (i + 1) (by omega) (fun j hj => by
        by_cases y : j = i
        · subst y; exact z
        · exact hz j (by omega))
      rw [q_112_3]
      by_cases z1 : gI h p i = a
      · have z2 : gI h p (i + 1) ≠ b := fun y => z ⟨z1, y⟩
        simp (disch := (first | omega | (simp only [kd_sI, kd_sL, kd_sR, kd_cp, kd_aI]; omega) | (unfold catV; exact rfl) | (unfold catS; exact Nat.le_of_ble_eq_true rfl) | assumption)) only [q_112_0, q_112_1, q_112_5, q_112_6, q_112_9, q_112_12, q_112_15_t, q_112_15_f, q_112_18, q_112_19, q_112_21, q_112_22, q_112_23, q_112_24, q_112_25_t, q_112_25_f, q_112_28, q_112_29, q_112_31, q_112_32, q_112_33_t, q_112_33_f, q_112_36, q_112_37, q_112_38, q_112_41, q_112_44, q_112_45, aft_i, aft_l, aft_v, Int.toNat_natCast, kd_sI, kd_sL, kd_sR, kd_cp, gI_sL, gI_sR, gL_sI, gL_sR, gR_sI, gR_sL, gL_cp, gR_cp, kd_aI, gL_aI, gR_aI, gI_aI, gI_aIn, sI_aI, gI_sIn, Int.reduceToNat, Int.reduceAdd, Int.reduceSub, Int.reduceMul, Int.reduceNeg, Int.zero_add, r0_3, r13_0, hn, e1, e2, z1]
        exact ih
      · simp (disch := (first | omega | (simp only [kd_sI, kd_sL, kd_sR, kd_cp, kd_aI]; omega) | (unfold catV; exact rfl) | (unfold catS; exact Nat.le_of_ble_eq_true rfl) | assumption)) only [q_112_0, q_112_1, q_112_5, q_112_6, q_112_9, q_112_12, q_112_15_t, q_112_15_f, q_112_18, q_112_19, q_112_21, q_112_22, q_112_23, q_112_24, q_112_25_t, q_112_25_f, q_112_28, q_112_29, q_112_31, q_112_32, q_112_33_t, q_112_33_f, q_112_36, q_112_37, q_112_38, q_112_41, q_112_44, q_112_45, aft_i, aft_l, aft_v, Int.toNat_natCast, kd_sI, kd_sL, kd_sR, kd_cp, gI_sL, gI_sR, gL_sI, gL_sR, gR_sI, gR_sL, gL_cp, gR_cp, kd_aI, gL_aI, gR_aI, gI_aI, gI_aIn, sI_aI, gI_sIn, Int.reduceToNat, Int.reduceAdd, Int.reduceSub, Int.reduceMul, Int.reduceNeg, Int.zero_add, r0_3, r13_0, hn, e1, e2]
        exact ih
theorem wRt_ok (d : Nat) (h : mH) (L : LAY h) (n p : Nat) (hn : gI h 14 2 = n) (n7 : n ≤ 7) (k1 : (kd h p).1 = 100) (k2 : (kd h p).2 = 7) (a b : Int) : callA (d + 1) 112 [Sum.inr (Sum.inr (some 0)), Sum.inr (Sum.inr (some p)), Sum.inl a, Sum.inl b] h = some (some (Sum.inl (bI (fndB (gI h p) a b (n - 1)))), h) := by
  rw [en_112]
  by_cases z : n = 0
  · subst z
    have hn : gI h 14 2 = 0 := hn
    obtain ⟨k0, j0⟩ := lay_k L (a := 0) (t := 7) (n := 17) rfl; obtain ⟨k13, j13⟩ := lay_k L (a := 13) (t := 4) (n := 4) rfl; obtain ⟨k14, j14⟩ := lay_k L (a := 14) (t := 2) (n := 5) rfl; have r0_3 : gR h 0 3 = some 13 := lay_r L rfl; have r13_0 : gR h 13 0 = some 14 := lay_r L rfl
    simp (disch := (first | omega | (simp only [kd_sI, kd_sL, kd_sR, kd_cp, kd_aI]; omega) | (unfold catV; exact rfl) | (unfold catS; exact Nat.le_of_ble_eq_true rfl) | assumption)) only [q_112_0, q_112_1, q_112_3, q_112_5, q_112_6, q_112_9, q_112_12, q_112_15_t, q_112_15_f, q_112_18, q_112_19, q_112_21, q_112_22, q_112_23, q_112_24, q_112_25_t, q_112_25_f, q_112_28, q_112_29, q_112_31, q_112_32, q_112_33_t, q_112_33_f, q_112_36, q_112_37, q_112_38, q_112_41, q_112_44, q_112_45, aft_i, aft_l, aft_v, Int.toNat_natCast, kd_sI, kd_sL, kd_sR, kd_cp, gI_sL, gI_sR, gL_sI, gL_sR, gR_sI, gR_sL, gL_cp, gR_cp, kd_aI, gL_aI, gR_aI, gI_aI, gI_aIn, sI_aI, gI_sIn, Int.reduceToNat, Int.reduceAdd, Int.reduceSub, Int.reduceMul, Int.reduceNeg, Int.zero_add, r0_3, r13_0, hn]
    rfl
  · have e := wRt_loop d h L n p hn n7 k1 k2 a b (n - 1) 0 (by omega) (fun j hj => absurd hj (Nat.not_lt_zero _))
    have e : resA (callA d) 112 (3, [Sum.inr (Sum.inr (some 0)), Sum.inr (Sum.inr (some p)), Sum.inl a, Sum.inl b, Sum.inl 1], [], h) = _ := e
    simp (disch := (first | omega | (simp only [kd_sI, kd_sL, kd_sR, kd_cp, kd_aI]; omega) | (unfold catV; exact rfl) | (unfold catS; exact Nat.le_of_ble_eq_true rfl) | assumption)) only [q_112_0, q_112_1, q_112_5, q_112_6, q_112_9, q_112_12, q_112_15_t, q_112_15_f, q_112_18, q_112_19, q_112_21, q_112_22, q_112_23, q_112_24, q_112_25_t, q_112_25_f, q_112_28, q_112_29, q_112_31, q_112_32, q_112_33_t, q_112_33_f, q_112_36, q_112_37, q_112_38, q_112_41, q_112_44, q_112_45, aft_i, aft_l, aft_v, Int.toNat_natCast, kd_sI, kd_sL, kd_sR, kd_cp, gI_sL, gI_sR, gL_sI, gL_sR, gR_sI, gR_sL, gL_cp, gR_cp, kd_aI, gL_aI, gR_aI, gI_aI, gI_aIn, sI_aI, gI_sIn, Int.reduceToNat, Int.reduceAdd, Int.reduceSub, Int.reduceMul, Int.reduceNeg, Int.zero_add]
    exact e
theorem fndB_cg {r q : Nat → Int} {a b : Int} : ∀ {n : Nat}, (∀ i, i ≤ n → r i = q i) → fndB r a b n = fndB q a b n
  | 0, _ => rfl
  | n + 1, h => by
    unfold fndB
    rw [fndB_cg (n := n) (fun i hi => h i (by omega)), h n (by omega), h (n + 1) (by omega)]
theorem fndB_ofL {r : Nat → Int} {a b : Int} {l : List Nat} (h : rwO r 0 l) : fndB r a b (l.length - 1) = fndB (fun i => (ofL l i : Int)) a b (l.length - 1) := by
  cases q : l.length with
  | zero => rfl
  | succ m =>
    refine fndB_cg (fun i hi => ?_)
    have hi2 : i < l.length := by omega
    have := h i hi2
    rw [Nat.zero_add] at this
    rw [this, ofL_at hi2]
def seF (h : mH) (S : List (Nat × Nat)) : Prop := gI h 0 13 = S.length ∧ ∀ k (q : k < S.length), gI h 137 k = S[k].1 ∧ gI h 138 k = S[k].2
theorem wAs_loop (d : Nat) (h : mH) (L : LAY h) (S : List (Nat × Nat)) (s6 : S.length ≤ 6) (se : seF h S) (l : List Nat) (p : Nat) (hn : gI h 14 2 = l.length) (n7 : l.length ≤ 7) (k1 : (kd h p).1 = 100) (k2 : (kd h p).2 = 7) (r : rwO (gI h p) 0 l) : ∀ (m k : Nat), k + m = S.length → resA (callA (d + 1)) 111 (2, [Sum.inr (Sum.inr (some 0)), Sum.inr (Sum.inr (some p)), Sum.inl (k : Int)], [], h) = some (some (Sum.inl (bI (isSoB (S.drop k) l))), h)
  | 0, k, hk => by
    have e : k = S.length := hk
    have s1 := se.1
    subst e
    rw [List.drop_length]
    obtain ⟨k0, j0⟩ := lay_k L (a := 0) (t := 7) (n := 17) rfl
    simp (disch := (first | omega | (simp only [kd_sI, kd_sL, kd_sR, kd_cp, kd_aI]; omega) | (unfold catV; exact rfl) | (unfold catS; exact Nat.le_of_ble_eq_true rfl) | assumption)) only [q_111_0, q_111_1, q_111_2, q_111_3, q_111_4, q_111_7_t, q_111_7_f, q_111_10, q_111_11, q_111_12, q_111_13, q_111_16, q_111_17, q_111_18, q_111_19, q_111_22, q_111_23, q_111_24, q_111_27_t, q_111_27_f, q_111_30, q_111_31, q_111_32, q_111_35, q_111_38, q_111_39, aft_i, aft_l, aft_v, Int.toNat_natCast, kd_sI, kd_sL, kd_sR, kd_cp, gI_sL, gI_sR, gL_sI, gL_sR, gR_sI, gR_sL, gL_cp, gR_cp, kd_aI, gL_aI, gR_aI, gI_aI, gI_aIn, sI_aI, gI_sIn, Int.reduceToNat, Int.reduceAdd, Int.reduceSub, Int.reduceMul, Int.reduceNeg, Int.zero_add, s1]
    rfl
  | m + 1, k, hk => by
    have s1 := se.1
    have hk2 : k < S.length := by omega
    obtain ⟨a1, a2⟩ := se.2 k hk2
    have e1 := wRt_ok d h L l.length p hn n7 k1 k2 (S[k].1 : Int) (S[k].2 : Int)
    rw [fndB_ofL r] at e1
    rw [List.drop_eq_getElem_cons hk2]
    have eS : isSoB (S[k] :: S.drop (k + 1)) l = (fndB (fun i => (ofL l i : Int)) S[k].1 S[k].2 (l.length - 1) && isSoB (S.drop (k + 1)) l) := rfl
    rw [eS]
    obtain ⟨k0, j0⟩ := lay_k L (a := 0) (t := 7) (n := 17) rfl; obtain ⟨k137, j137⟩ := lay_k L (a := 137) (t := 100) (n := 6) rfl; obtain ⟨k138, j138⟩ := lay_k L (a := 138) (t := 100) (n := 6) rfl; have r0_11 : gR h 0 11 = some 137 := lay_r L rfl; have r0_12 : gR h 0 12 = some 138 := lay_r L rfl
    cases z : fndB (fun i => (ofL l i : Int)) S[k].1 S[k].2 (l.length - 1) with
    | true =>
      rw [z] at e1
      have e1 : callA (d + 1) 112 [Sum.inr (Sum.inr (some 0)), Sum.inr (Sum.inr (some p)), Sum.inl (S[k].1 : Int), Sum.inl (S[k].2 : Int)] h = some (some (Sum.inl 1), h) := e1
      have ih := wAs_loop d h L S s6 se l p hn n7 k1 k2 r m (k + 1) (by omega)
      rw [Bool.true_and, q_111_2]
      simp (disch := (first | omega | (simp only [kd_sI, kd_sL, kd_sR, kd_cp, kd_aI]; omega) | (unfold catV; exact rfl) | (unfold catS; exact Nat.le_of_ble_eq_true rfl) | assumption)) only [q_111_0, q_111_1, q_111_3, q_111_4, q_111_7_t, q_111_7_f, q_111_10, q_111_11, q_111_12, q_111_13, q_111_16, q_111_17, q_111_18, q_111_19, q_111_22, q_111_23, q_111_24, q_111_27_t, q_111_27_f, q_111_30, q_111_31, q_111_32, q_111_35, q_111_38, q_111_39, aft_i, aft_l, aft_v, Int.toNat_natCast, kd_sI, kd_sL, kd_sR, kd_cp, gI_sL, gI_sR, gL_sI, gL_sR, gR_sI, gR_sL, gL_cp, gR_cp, kd_aI, gL_aI, gR_aI, gI_aI, gI_aIn, sI_aI, gI_sIn, Int.reduceToNat, Int.reduceAdd, Int.reduceSub, Int.reduceMul, Int.reduceNeg, Int.zero_add, s1, r0_11, r0_12, a1, a2, e1]
      exact ih
    | false =>
      rw [z] at e1
      have e1 : callA (d + 1) 112 [Sum.inr (Sum.inr (some 0)), Sum.inr (Sum.inr (some p)), Sum.inl (S[k].1 : Int), Sum.inl (S[k].2 : Int)] h = some (some (Sum.inl 0), h) := e1
      rw [Bool.false_and]
      simp (disch := (first | omega | (simp only [kd_sI, kd_sL, kd_sR, kd_cp, kd_aI]; omega) | (unfold catV; exact rfl) | (unfold catS; exact Nat.le_of_ble_eq_true rfl) | assumption)) only [q_111_0, q_111_1, q_111_2, q_111_3, q_111_4, q_111_7_t, q_111_7_f, q_111_10, q_111_11, q_111_12, q_111_13, q_111_16, q_111_17, q_111_18, q_111_19, q_111_22, q_111_23, q_111_24, q_111_27_t, q_111_27_f, q_111_30, q_111_31, q_111_32, q_111_35, q_111_38, q_111_39, aft_i, aft_l, aft_v, Int.toNat_natCast, kd_sI, kd_sL, kd_sR, kd_cp, gI_sL, gI_sR, gL_sI, gL_sR, gR_sI, gR_sL, gL_cp, gR_cp, kd_aI, gL_aI, gR_aI, gI_aI, gI_aIn, sI_aI, gI_sIn, Int.reduceToNat, Int.reduceAdd, Int.reduceSub, Int.reduceMul, Int.reduceNeg, Int.zero_add, s1, r0_11, r0_12, a1, a2, e1]
      rfl
theorem wAs_ok (d : Nat) (h : mH) (L : LAY h) (S : List (Nat × Nat)) (s6 : S.length ≤ 6) (se : seF h S) (l : List Nat) (p : Nat) (hn : gI h 14 2 = l.length) (n7 : l.length ≤ 7) (k1 : (kd h p).1 = 100) (k2 : (kd h p).2 = 7) (r : rwO (gI h p) 0 l) : callA (d + 2) 111 [Sum.inr (Sum.inr (some 0)), Sum.inr (Sum.inr (some p))] h = some (some (Sum.inl (bI (isSoB S l))), h) := by
  have e := wAs_loop d h L S s6 se l p hn n7 k1 k2 r S.length 0 (Nat.zero_add _)
  rw [List.drop_zero, show ((0 : Nat) : Int) = 0 from rfl] at e
  rw [en_111]
  simp (disch := (first | omega | (simp only [kd_sI, kd_sL, kd_sR, kd_cp, kd_aI]; omega) | (unfold catV; exact rfl) | (unfold catS; exact Nat.le_of_ble_eq_true rfl) | assumption)) only [q_111_0, q_111_1, q_111_3, q_111_4, q_111_7_t, q_111_7_f, q_111_10, q_111_11, q_111_12, q_111_13, q_111_16, q_111_17, q_111_18, q_111_19, q_111_22, q_111_23, q_111_24, q_111_27_t, q_111_27_f, q_111_30, q_111_31, q_111_32, q_111_35, q_111_38, q_111_39, aft_i, aft_l, aft_v, Int.toNat_natCast, kd_sI, kd_sL, kd_sR, kd_cp, gI_sL, gI_sR, gL_sI, gL_sR, gR_sI, gR_sL, gL_cp, gR_cp, kd_aI, gL_aI, gR_aI, gI_aI, gI_aIn, sI_aI, gI_sIn, Int.reduceToNat, Int.reduceAdd, Int.reduceSub, Int.reduceMul, Int.reduceNeg, Int.zero_add]
  exact e
theorem prt_wL {T : Td} {N : Nt} (w : wfN T N) {i : Nat} (hi : i < nM N) : prtL N (2 ^ nR N i) = wL N (nR N i) := by
  have nd := rowL_nd w
  have hm : nR N i ∈ rowL N := rowL_mem.mpr ⟨i, hi, rfl⟩
  generalize nR N i = c at hm
  unfold prtL wL flG
  rw [if_neg (by omega), Int.toNat_natCast]
  have e1 : (rowL N).filter (fun x => !(2 ^ c).testBit x) = (rowL N).filter (fun x : Nat => decide ((x : Int) ≠ c)) := List.filter_congr (fun x _ => by
    rw [Nat.testBit_two_pow]
    by_cases z : c = x
    · subst z; simp
    · rw [decide_eq_false z, decide_eq_true (by omega)]; rfl)
  have e2 : (rowL N).filter (fun x => (2 ^ c).testBit x) = [c] := by
    have key : ∀ l : List Nat, l.Nodup → c ∈ l → l.filter (fun x => (2 ^ c).testBit x) = [c] := by
      intro l
      induction l with
      | nil => intro _ h; exact absurd h List.not_mem_nil
      | cons a l ih =>
        intro n h
        have n := List.nodup_cons.mp n
        rw [List.filter_cons, Nat.testBit_two_pow]
        by_cases z : c = a
        · subst z
          rw [if_pos (decide_eq_true rfl)]
          congr 1
          refine List.filter_eq_nil_iff.mpr (fun x hx y => ?_)
          rw [Nat.testBit_two_pow, decide_eq_true_iff] at y
          subst y
          exact n.1 hx
        · rw [if_neg (by rw [decide_eq_false z]; exact Bool.false_ne_true)]
          rcases List.mem_cons.mp h with e | e
          · exact absurd e z
          · exact ih n.2 e
    exact key _ nd hm
  rw [e1, e2]
def wcF (S : List (Nat × Nat)) (N : Nt) : Nat → Nat
  | 0 => 0
  | i + 1 => wcF S N i ||| if isSoB S (wL N (nR N i)) = true then 2 ^ nR N i else 0
theorem wcF_w (S : List (Nat × Nat)) (N : Nt) : ∀ i, whF S N i = wcF S N i ||| if isSoB S (wL N (-9)) = true then 128 else 0
  | 0 => by
    show (if isSoB S (wL N (-9)) = true then 128 else 0) = 0 ||| _
    rw [Nat.zero_or]
  | i + 1 => by
    show (whF S N i ||| _) = (wcF S N i ||| _) ||| _
    rw [wcF_w S N i, Nat.or_assoc, Nat.or_assoc]
    congr 1
    exact Nat.or_comm _ _
theorem wcF_b {T : Td} {S : List (Nat × Nat)} {N : Nt} (wT : wfT T) (w : wfN T N) : ∀ {i : Nat}, i ≤ nM N → wcF S N i < 128
  | 0, _ => by show 0 < 128; omega
  | i + 1, h => by
    have a := wcF_b (S := S) wT w (i := i) (by omega)
    have b := w.2.1 i (by omega)
    have c7 := wT.1
    show wcF S N i ||| _ < 2 ^ 7
    refine Nat.or_lt_two_pow a ?_
    split
    · exact Nat.pow_lt_pow_right (by omega) (by omega)
    · exact Nat.pos_of_ne_zero (by decide)
theorem cWho_ok (d : Nat) (h : mH) (L : LAY h) (σ : Sg) (w : wfS σ) (c : CI h σ) : cOK (d + 3) 85 [] h (Sum.inl (whF (zS σ) (zN σ) (nM (zN σ)) : Int)) σ := by
  have wT := w.1
  have c7 := wT.1
  have wN := w.2.1.1
  have n7 : nM (zN σ) ≤ 7 := Nat.le_trans wN.1 wT.1
  have q := CI_q c
  have u1 := q.2.1.1
  have rl := rwO_rowL q.2.1
  have s6 := w.2.2.2.1
  have loop : ∀ (k i : Nat) (G : Nat → Int) (x3 : mV), i + k = nM (zN σ) → ∃ G2 y3, resA (callA (d + 2)) 85 (4, [Sum.inr (Sum.inr (some 0)), Sum.inl (wcF (zS σ) (zN σ) i : Int), Sum.inl (i : Int), x3], [], aI h 139 G) = resA (callA (d + 2)) 85 (61, [Sum.inr (Sum.inr (some 0)), Sum.inl (wcF (zS σ) (zN σ) (nM (zN σ)) : Int), Sum.inl (nM (zN σ) : Int), y3], [], aI h 139 G2) := by
    intro k
    induction k with
    | zero =>
      intro i G x3 hi
      have e : i = nM (zN σ) := hi
      subst e
      refine ⟨G, x3, ?_⟩
      obtain ⟨k0, j0⟩ := lay_k L (a := 0) (t := 7) (n := 17) rfl; obtain ⟨k13, j13⟩ := lay_k L (a := 13) (t := 4) (n := 4) rfl; obtain ⟨k14, j14⟩ := lay_k L (a := 14) (t := 2) (n := 5) rfl; have r0_3 : gR h 0 3 = some 13 := lay_r L rfl; have r13_0 : gR h 13 0 = some 14 := lay_r L rfl
      simp (disch := (first | omega | (simp only [kd_sI, kd_sL, kd_sR, kd_cp, kd_aI]; omega) | (unfold catV; exact rfl) | (unfold catS; exact Nat.le_of_ble_eq_true rfl) | assumption)) only [q_85_0, q_85_1, q_85_2, q_85_3, q_85_4, q_85_5, q_85_6, q_85_9, q_85_12, q_85_15_t, q_85_15_f, q_85_18, q_85_19, q_85_22, q_85_25, q_85_28, q_85_29, q_85_30, q_85_31, q_85_32, q_85_33, q_85_34, q_85_35, q_85_38, q_85_39, q_85_40, q_85_43, q_85_46_t, q_85_46_f, q_85_49, q_85_50, q_85_51, q_85_52, q_85_53, q_85_54, q_85_55, q_85_58, q_85_62, q_85_63, q_85_66, q_85_69, q_85_72, q_85_75_t, q_85_75_f, q_85_78, q_85_79, q_85_82, q_85_83, q_85_86, q_85_87, aft_i, aft_l, aft_v, Int.toNat_natCast, kd_sI, kd_sL, kd_sR, kd_cp, gI_sL, gI_sR, gL_sI, gL_sR, gR_sI, gR_sL, gL_cp, gR_cp, kd_aI, gL_aI, gR_aI, gI_aI, gI_aIn, sI_aI, gI_sIn, Int.reduceToNat, Int.reduceAdd, Int.reduceSub, Int.reduceMul, Int.reduceNeg, Int.zero_add, r0_3, r13_0, u1]
    | succ k ih =>
      intro i G x3 hi
      have r7 := wN.2.1 i (by omega)
      have u2 := q.2.1.2.2.2.1 i (by omega)
      have sh := shl1 (j := nR (zN σ) i) (by omega)
      have p7 : 2 ^ nR (zN σ) i < 2 ^ 7 := Nat.pow_lt_pow_right (by omega) (by omega)
      have L1 : LAY (aI h 139 G) := lay_aI L _ _
      obtain ⟨G1, e1, r1⟩ := wPart_ok (d + 1) (aI h 139 G) L1 (zT σ) (zN σ) wT wN (by rw [gI_aIn (by omega)]; exact u1) (fun j hj => by rw [gI_aIn (by omega)]; exact q.2.1.2.2.2.1 j hj) (2 ^ nR (zN σ) i) p7
      rw [aI_aI] at e1
      rw [prt_wL wN (by omega)] at r1
      have pl := (prt_perm (zN σ) (2 ^ nR (zN σ) i)).length_eq
      rw [rowL_len, prt_wL wN (by omega)] at pl
      have L2 : LAY (aI h 139 G1) := lay_aI L _ _
      obtain ⟨m1, m2⟩ := lay_k L2 (a := 139) (t := 100) (n := 7) rfl
      have e2 := wAs_ok d (aI h 139 G1) L2 (zS σ) s6 ⟨by rw [gI_aIn (by omega)]; exact c.1.2.2.2.1, fun k q => by rw [gI_aIn (by omega), gI_aIn (by omega)]; exact c.1.2.2.2.2.1 k q⟩ (wL (zN σ) (nR (zN σ) i)) 139 (by rw [gI_aIn (by omega), pl]; exact u1) (by omega) m1 m2 (by rw [gI_aI]; exact r1)
      obtain ⟨G2, y3, e3⟩ := ih (i + 1) G1 (Sum.inl (nR (zN σ) i : Int)) (by omega)
      refine ⟨G2, y3, ?_⟩
      have wb := wcF_b (S := zS σ) wT wN (i := i) (by omega)
      have o1 := orI_n (a := wcF (zS σ) (zN σ) i) (b := 2 ^ nR (zN σ) i) (by omega) (by omega)
      have eW : wcF (zS σ) (zN σ) (i + 1) = wcF (zS σ) (zN σ) i ||| if isSoB (zS σ) (wL (zN σ) (nR (zN σ) i)) = true then 2 ^ nR (zN σ) i else 0 := rfl
      rw [eW] at e3
      rw [← e3]
      obtain ⟨k0, j0⟩ := lay_k L (a := 0) (t := 7) (n := 17) rfl; obtain ⟨k13, j13⟩ := lay_k L (a := 13) (t := 4) (n := 4) rfl; obtain ⟨k14, j14⟩ := lay_k L (a := 14) (t := 2) (n := 5) rfl; obtain ⟨k15, j15⟩ := lay_k L (a := 15) (t := 100) (n := 7) rfl; obtain ⟨k139, j139⟩ := lay_k L (a := 139) (t := 100) (n := 7) rfl; have r0_3 : gR h 0 3 = some 13 := lay_r L rfl; have r13_0 : gR h 13 0 = some 14 := lay_r L rfl; have r14_0 : gR h 14 0 = some 15 := lay_r L rfl; have r0_15 : gR h 0 15 = some 139 := lay_r L rfl
      rw [q_85_4]
      cases z : isSoB (zS σ) (wL (zN σ) (nR (zN σ) i)) with
      | true =>
        rw [z] at e2
        have e2 : callA (d + 2) 111 [Sum.inr (Sum.inr (some 0)), Sum.inr (Sum.inr (some 139))] (aI h 139 G1) = some (some (Sum.inl 1), aI h 139 G1) := e2
        rw [if_pos rfl]
        simp (disch := (first | omega | (simp only [kd_sI, kd_sL, kd_sR, kd_cp, kd_aI]; omega) | (unfold catV; exact rfl) | (unfold catS; exact Nat.le_of_ble_eq_true rfl) | assumption)) only [q_85_0, q_85_1, q_85_2, q_85_3, q_85_5, q_85_6, q_85_9, q_85_12, q_85_15_t, q_85_15_f, q_85_18, q_85_19, q_85_22, q_85_25, q_85_28, q_85_29, q_85_30, q_85_31, q_85_32, q_85_33, q_85_34, q_85_35, q_85_38, q_85_39, q_85_40, q_85_43, q_85_46_t, q_85_46_f, q_85_49, q_85_50, q_85_51, q_85_52, q_85_53, q_85_54, q_85_55, q_85_58, q_85_62, q_85_63, q_85_66, q_85_69, q_85_72, q_85_75_t, q_85_75_f, q_85_78, q_85_79, q_85_82, q_85_83, q_85_86, q_85_87, aft_i, aft_l, aft_v, Int.toNat_natCast, kd_sI, kd_sL, kd_sR, kd_cp, gI_sL, gI_sR, gL_sI, gL_sR, gR_sI, gR_sL, gL_cp, gR_cp, kd_aI, gL_aI, gR_aI, gI_aI, gI_aIn, sI_aI, gI_sIn, Int.reduceToNat, Int.reduceAdd, Int.reduceSub, Int.reduceMul, Int.reduceNeg, Int.zero_add, r0_3, r13_0, r14_0, r0_15, u1, u2, sh, e1, e2, o1]
        rfl
      | false =>
        rw [z] at e2
        have e2 : callA (d + 2) 111 [Sum.inr (Sum.inr (some 0)), Sum.inr (Sum.inr (some 139))] (aI h 139 G1) = some (some (Sum.inl 0), aI h 139 G1) := e2
        rw [if_neg Bool.false_ne_true, Nat.or_zero]
        simp (disch := (first | omega | (simp only [kd_sI, kd_sL, kd_sR, kd_cp, kd_aI]; omega) | (unfold catV; exact rfl) | (unfold catS; exact Nat.le_of_ble_eq_true rfl) | assumption)) only [q_85_0, q_85_1, q_85_2, q_85_3, q_85_5, q_85_6, q_85_9, q_85_12, q_85_15_t, q_85_15_f, q_85_18, q_85_19, q_85_22, q_85_25, q_85_28, q_85_29, q_85_30, q_85_31, q_85_32, q_85_33, q_85_34, q_85_35, q_85_38, q_85_39, q_85_40, q_85_43, q_85_46_t, q_85_46_f, q_85_49, q_85_50, q_85_51, q_85_52, q_85_53, q_85_54, q_85_55, q_85_58, q_85_62, q_85_63, q_85_66, q_85_69, q_85_72, q_85_75_t, q_85_75_f, q_85_78, q_85_79, q_85_82, q_85_83, q_85_86, q_85_87, aft_i, aft_l, aft_v, Int.toNat_natCast, kd_sI, kd_sL, kd_sR, kd_cp, gI_sL, gI_sR, gL_sI, gL_sR, gR_sI, gR_sL, gL_cp, gR_cp, kd_aI, gL_aI, gR_aI, gI_aI, gI_aIn, sI_aI, gI_sIn, Int.reduceToNat, Int.reduceAdd, Int.reduceSub, Int.reduceMul, Int.reduceNeg, Int.zero_add, r0_3, r13_0, r14_0, r0_15, u1, u2, sh, e1, e2]
        rfl
  obtain ⟨G, y3, el⟩ := loop (nM (zN σ)) 0 (gI h 139) (Sum.inr (Sum.inr none)) (Nat.zero_add _)
  rw [aI_id] at el
  have el : resA (callA (d + 2)) 85 (4, [Sum.inr (Sum.inr (some 0)), Sum.inl 0, Sum.inl 0, Sum.inr (Sum.inr none)], [], h) = _ := el
  have L2 : LAY (aI h 139 G) := lay_aI L _ _
  have q2 : qt h (aI h 139 G) := qt_a (fun k => by unfold qtc; omega)
  obtain ⟨m1, m2⟩ := lay_k L2 (a := 15) (t := 100) (n := 7) rfl
  have e2 := wAs_ok d (aI h 139 G) L2 (zS σ) s6 ⟨by rw [gI_aIn (by omega)]; exact c.1.2.2.2.1, fun k q => by rw [gI_aIn (by omega), gI_aIn (by omega)]; exact c.1.2.2.2.2.1 k q⟩ (rowL (zN σ)) 15 (by rw [gI_aIn (by omega), rowL_len]; exact u1) (by rw [rowL_len]; exact n7) m1 m2 (by rw [gI_aIn (by omega)]; exact rl)
  have eN : wL (zN σ) (-9) = rowL (zN σ) := by
    unfold wL flG
    rw [if_pos rfl, List.append_nil]
    exact List.filter_eq_self.mpr (fun x _ => decide_eq_true (by omega))
  have wb := wcF_b (S := zS σ) wT wN (i := nM (zN σ)) (Nat.le_refl _)
  have o1 := orI_n (a := wcF (zS σ) (zN σ) (nM (zN σ))) (b := 128) (by omega) (by omega)
  have o1 : orI (wcF (zS σ) (zN σ) (nM (zN σ)) : Int) 128 = ((wcF (zS σ) (zN σ) (nM (zN σ)) ||| 128 : Nat) : Int) := o1
  obtain ⟨c0, cc, bk⟩ := c
  refine ⟨aI h 139 G, ?_, qt_frm q2, L2, qt_CI0 q2 c0, ?_, ?_⟩
  · rw [wcF_w, eN]
    obtain ⟨k0, j0⟩ := lay_k L (a := 0) (t := 7) (n := 17) rfl; obtain ⟨k13, j13⟩ := lay_k L (a := 13) (t := 4) (n := 4) rfl; obtain ⟨k14, j14⟩ := lay_k L (a := 14) (t := 2) (n := 5) rfl; have r0_3 : gR h 0 3 = some 13 := lay_r L rfl; have r13_0 : gR h 13 0 = some 14 := lay_r L rfl; have r14_0 : gR h 14 0 = some 15 := lay_r L rfl
    rw [en_85]
    simp (disch := (first | omega | (simp only [kd_sI, kd_sL, kd_sR, kd_cp, kd_aI]; omega) | (unfold catV; exact rfl) | (unfold catS; exact Nat.le_of_ble_eq_true rfl) | assumption)) only [q_85_0, q_85_1, q_85_2, q_85_3, q_85_5, q_85_6, q_85_9, q_85_12, q_85_15_t, q_85_15_f, q_85_18, q_85_19, q_85_22, q_85_25, q_85_28, q_85_29, q_85_30, q_85_31, q_85_32, q_85_33, q_85_34, q_85_35, q_85_38, q_85_39, q_85_40, q_85_43, q_85_46_t, q_85_46_f, q_85_49, q_85_50, q_85_51, q_85_52, q_85_53, q_85_54, q_85_55, q_85_58, q_85_62, q_85_63, q_85_66, q_85_69, q_85_72, q_85_75_t, q_85_75_f, q_85_78, q_85_79, q_85_82, q_85_83, q_85_86, q_85_87, aft_i, aft_l, aft_v, Int.toNat_natCast, kd_sI, kd_sL, kd_sR, kd_cp, gI_sL, gI_sR, gL_sI, gL_sR, gR_sI, gR_sL, gL_cp, gR_cp, kd_aI, gL_aI, gR_aI, gI_aI, gI_aIn, sI_aI, gI_sIn, Int.reduceToNat, Int.reduceAdd, Int.reduceSub, Int.reduceMul, Int.reduceNeg, Int.zero_add]
    rw [el]
    cases z : isSoB (zS σ) (rowL (zN σ)) with
    | true =>
      rw [z] at e2
      have e2 : callA (d + 2) 111 [Sum.inr (Sum.inr (some 0)), Sum.inr (Sum.inr (some 15))] (aI h 139 G) = some (some (Sum.inl 1), aI h 139 G) := e2
      rw [if_pos rfl]
      simp (disch := (first | omega | (simp only [kd_sI, kd_sL, kd_sR, kd_cp, kd_aI]; omega) | (unfold catV; exact rfl) | (unfold catS; exact Nat.le_of_ble_eq_true rfl) | assumption)) only [q_85_0, q_85_1, q_85_2, q_85_3, q_85_5, q_85_6, q_85_9, q_85_12, q_85_15_t, q_85_15_f, q_85_18, q_85_19, q_85_22, q_85_25, q_85_28, q_85_29, q_85_30, q_85_31, q_85_32, q_85_33, q_85_34, q_85_35, q_85_38, q_85_39, q_85_40, q_85_43, q_85_46_t, q_85_46_f, q_85_49, q_85_50, q_85_51, q_85_52, q_85_53, q_85_54, q_85_55, q_85_58, q_85_61, q_85_62, q_85_63, q_85_66, q_85_69, q_85_72, q_85_75_t, q_85_75_f, q_85_78, q_85_79, q_85_82, q_85_83, q_85_86, q_85_87, aft_i, aft_l, aft_v, Int.toNat_natCast, kd_sI, kd_sL, kd_sR, kd_cp, gI_sL, gI_sR, gL_sI, gL_sR, gR_sI, gR_sL, gL_cp, gR_cp, kd_aI, gL_aI, gR_aI, gI_aI, gI_aIn, sI_aI, gI_sIn, Int.reduceToNat, Int.reduceAdd, Int.reduceSub, Int.reduceMul, Int.reduceNeg, Int.zero_add, r0_3, r13_0, r14_0, e2, o1]
    | false =>
      rw [z] at e2
      have e2 : callA (d + 2) 111 [Sum.inr (Sum.inr (some 0)), Sum.inr (Sum.inr (some 15))] (aI h 139 G) = some (some (Sum.inl 0), aI h 139 G) := e2
      rw [if_neg Bool.false_ne_true, Nat.or_zero]
      simp (disch := (first | omega | (simp only [kd_sI, kd_sL, kd_sR, kd_cp, kd_aI]; omega) | (unfold catV; exact rfl) | (unfold catS; exact Nat.le_of_ble_eq_true rfl) | assumption)) only [q_85_0, q_85_1, q_85_2, q_85_3, q_85_5, q_85_6, q_85_9, q_85_12, q_85_15_t, q_85_15_f, q_85_18, q_85_19, q_85_22, q_85_25, q_85_28, q_85_29, q_85_30, q_85_31, q_85_32, q_85_33, q_85_34, q_85_35, q_85_38, q_85_39, q_85_40, q_85_43, q_85_46_t, q_85_46_f, q_85_49, q_85_50, q_85_51, q_85_52, q_85_53, q_85_54, q_85_55, q_85_58, q_85_61, q_85_62, q_85_63, q_85_66, q_85_69, q_85_72, q_85_75_t, q_85_75_f, q_85_78, q_85_79, q_85_82, q_85_83, q_85_86, q_85_87, aft_i, aft_l, aft_v, Int.toNat_natCast, kd_sI, kd_sL, kd_sR, kd_cp, gI_sL, gI_sR, gL_sI, gL_sR, gR_sI, gR_sL, gL_cp, gR_cp, kd_aI, gL_aI, gR_aI, gI_aI, gI_aIn, sI_aI, gI_sIn, Int.reduceToNat, Int.reduceAdd, Int.reduceSub, Int.reduceMul, Int.reduceNeg, Int.zero_add, r0_3, r13_0, r14_0, e2]
  · obtain ⟨b1, b2, b3, b4⟩ := cc
    refine ⟨fun k hk => ?_, ?_, ?_, fun w k x y f => ?_⟩
    · rw [gI_aIn (by omega)]; exact b1 k hk
    · rw [gI_aIn (by omega)]; exact b2
    · rw [gI_aIn (by omega)]; exact b3
    · rw [gI_aIn (by omega)]; exact b4 w k x y f
  · unfold bKn at bk ⊢
    rw [gI_aIn (by omega), gI_aIn (by omega), gI_aIn (by omega)]
    exact bk
