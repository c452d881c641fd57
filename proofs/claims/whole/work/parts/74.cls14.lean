theorem refT_17 (k : Nat) : refT 17 k = none := by
  unfold refT
  have : refL.find? (fun e => e.1.1 == 17 && e.1.2 == k) = none := by
    rw [List.find?_eq_none]
    intro e he
    have key : ∀ e ∈ refL, e.1.1 ≠ 17 := by decide +kernel
    have := key e he
    simp [this]
  rw [this]
  rfl
theorem lay_R {h g : mH} (L : LAY h) (e1 : g.1 = h.1) (e2 : ∀ q k, q ≠ 17 → gR g q k = gR h q k) : LAY g := by
  refine ⟨by rw [e1]; exact L.1, fun q k b e => ?_⟩
  by_cases z : q = 17
  · subst z
    rw [refT_17] at e
    cases e
  · rw [e2 q k z]
    exact L.2 q k b e
theorem wLo_loop (d : Nat) (π : Nat → Nat) (o : Nat) : ∀ (k i : Nat) (h : mH), LAY h → i + k = 10 → 1 ≤ i → (∀ j, j < 10 → π j < 10 ∧ gR h 17 j = some (18 + 3 * if j < i - 1 then π (j + 1) else π j)) → ∃ g, resA (callA d) 33 (9, [Sum.inr (Sum.inr (some 13)), Sum.inr (Sum.inr (some o)), Sum.inl (i : Int)], [], h) = resA (callA d) 33 (35, [Sum.inr (Sum.inr (some 13)), Sum.inr (Sum.inr (some o)), Sum.inl 10], [], g) ∧ (g.1 = h.1 ∧ gI g = gI h ∧ gL g = gL h) ∧ (∀ q k, q ≠ 17 → gR g q k = gR h q k) ∧ ∀ j, j < 9 → gR g 17 j = some (18 + 3 * π (j + 1))
  | 0, i, h, L, hi, h1, hp => by
    have e : i = 10 := hi
    subst e
    refine ⟨h, ?_, ⟨rfl, rfl, rfl⟩, fun _ _ _ => rfl, fun j hj => ?_⟩
    · simp (disch := (first | omega | (simp only [kd_sI, kd_sL, kd_sR, kd_cp, kd_aI]; omega) | (unfold catV; exact rfl) | (unfold catS; exact Nat.le_of_ble_eq_true rfl) | assumption)) only [q_33_0, q_33_1, q_33_4, q_33_5, q_33_6, q_33_7, q_33_8, q_33_9, q_33_10, q_33_12_t, q_33_12_f, q_33_15, q_33_16, q_33_19, q_33_20, q_33_21, q_33_22, q_33_23, q_33_26, q_33_27, q_33_28, q_33_29, q_33_32, q_33_36, q_33_39, q_33_41, q_33_42, q_33_43, q_33_44, q_33_46, q_33_49, aft_i, aft_l, aft_v, Int.toNat_natCast, kd_sI, kd_sL, kd_sR, kd_cp, gI_sL, gI_sR, gL_sI, gL_sR, gR_sI, gR_sL, gL_cp, gR_cp, kd_aI, gL_aI, gR_aI, gI_aI, gI_aIn, sI_aI, gI_sIn, Int.reduceToNat, Int.reduceAdd, Int.reduceSub, Int.reduceMul, Int.reduceNeg, Int.zero_add]
      rfl
    · have := (hp j (by omega)).2
      rw [if_pos (by omega)] at this
      exact this
  | k + 1, i, h, L, hi, h1, hp => by
    have pi := (hp i (by omega)).1
    have ri := (hp i (by omega)).2
    rw [if_neg (by omega)] at ri
    have nd := (nAd_past L (b := 13) (Or.inl rfl) pi).1
    have L1 : LAY (sR h 17 (i - 1) (some (18 + 3 * π i))) := lay_R L rfl (fun q k n => by rw [gR_sR, if_neg (fun y => n y.1)])
    obtain ⟨g, e, ⟨s1, s2, s3⟩, f, v⟩ := wLo_loop d π o k (i + 1) _ L1 (by omega) (by omega) (fun j hj => ⟨(hp j hj).1, by
      rw [gR_sR]
      by_cases z : j = i - 1
      · rw [if_pos ⟨rfl, z⟩, if_pos (by omega), z, show i - 1 + 1 = i by omega]
      · rw [if_neg (fun y => z y.2), (hp j hj).2]
        by_cases y : j < i - 1
        · rw [if_pos y, if_pos (by omega)]
        · rw [if_neg y, if_neg (by omega)]⟩)
    refine ⟨g, ?_, ⟨s1, s2, s3⟩, fun q k n => ?_, v⟩
    · have ix : ((i : Int) - 1).toNat = i - 1 := by omega
      have ad : (kd h (18 + 3 * π i)).1 = 2 := nd.1
      obtain ⟨k13, j13⟩ := lay_k L (a := 13) (t := 4) (n := 4) rfl; obtain ⟨k17, j17⟩ := lay_k L (a := 17) (t := 103) (n := 10) rfl; have r13_1 : gR h 13 1 = some 17 := lay_r L rfl
      rw [q_33_9]
      simp (disch := (first | omega | (simp only [kd_sI, kd_sL, kd_sR, kd_cp, kd_aI]; omega) | (unfold catV; exact rfl) | (unfold catS; exact Nat.le_of_ble_eq_true rfl) | assumption)) only [q_33_0, q_33_1, q_33_4, q_33_5, q_33_6, q_33_7, q_33_8, q_33_10, q_33_12_t, q_33_12_f, q_33_15, q_33_16, q_33_19, q_33_20, q_33_21, q_33_22, q_33_23, q_33_26, q_33_27, q_33_28, q_33_29, q_33_32, q_33_36, q_33_39, q_33_41, q_33_42, q_33_43, q_33_44, q_33_46, q_33_49, aft_i, aft_l, aft_v, Int.toNat_natCast, kd_sI, kd_sL, kd_sR, kd_cp, gI_sL, gI_sR, gL_sI, gL_sR, gR_sI, gR_sL, gL_cp, gR_cp, kd_aI, gL_aI, gR_aI, gI_aI, gI_aIn, sI_aI, gI_sIn, Int.reduceToNat, Int.reduceAdd, Int.reduceSub, Int.reduceMul, Int.reduceNeg, Int.zero_add, r13_1, ix, ri]
      exact e
    · rw [f q k n, gR_sR, if_neg (fun y => n y.1)]
theorem wLo_ok (d : Nat) (h : mH) (L : LAY h) (π : Nat → Nat) (p : pmA h 13 π) : ∃ g π2, callA (d + 1) 33 [Sum.inr (Sum.inr (some 13))] h = some (none, sI g 13 2 9) ∧ (g.1 = h.1 ∧ gI g = gI h ∧ gL g = gL h) ∧ (∀ q k, q ≠ 17 → gR g q k = gR h q k) ∧ pmA g 13 π2 ∧ ∀ j, j < 9 → π2 j = π (j + 1) := by
  obtain ⟨p1, p2⟩ := p
  have r0 := (p1 0 (by omega)).2
  have n0 := (p1 0 (by omega)).1
  have r0 : gR h 17 0 = some (18 + 3 * π 0) := r0
  have nd := (nAd_past L (b := 13) (Or.inl rfl) n0).1
  have ad : (kd h (18 + 3 * π 0)).1 = 2 := nd.1
  obtain ⟨g1, e1, ⟨s1, s2, s3⟩, f, v⟩ := wLo_loop d π (18 + 3 * π 0) 9 1 h L rfl (Nat.le_refl _) (fun j hj => ⟨(p1 j hj).1, by rw [if_neg (by omega)]; exact (p1 j hj).2⟩)
  have L1 := lay_R L s1 f
  rw [show ((1 : Nat) : Int) = 1 from rfl] at e1
  refine ⟨sR g1 17 9 (some (18 + 3 * π 0)), fun i => if i = 9 then π 0 else π (i + 1), ?_, ⟨s1, s2, s3⟩, fun q k n => ?_, ⟨fun i hi => ⟨?_, ?_⟩, fun i j hi hj e => ?_⟩, fun j hj => if_neg (by omega)⟩
  · have ad1 : (kd g1 (18 + 3 * π 0)).1 = 2 := by
      unfold kd at *
      rw [s1]
      exact ad
    obtain ⟨m1, m2⟩ := lay_k L1 (a := 13) (t := 4) (n := 4) rfl
    obtain ⟨m3, m4⟩ := lay_k L1 (a := 17) (t := 103) (n := 10) rfl
    have r1 : gR g1 13 1 = some 17 := lay_r L1 rfl
    obtain ⟨k13, j13⟩ := lay_k L (a := 13) (t := 4) (n := 4) rfl; obtain ⟨k17, j17⟩ := lay_k L (a := 17) (t := 103) (n := 10) rfl; have r13_1 : gR h 13 1 = some 17 := lay_r L rfl
    rw [en_33]
    simp (disch := (first | omega | (simp only [kd_sI, kd_sL, kd_sR, kd_cp, kd_aI]; omega) | (unfold catV; exact rfl) | (unfold catS; exact Nat.le_of_ble_eq_true rfl) | assumption)) only [q_33_0, q_33_1, q_33_4, q_33_5, q_33_6, q_33_7, q_33_8, q_33_10, q_33_12_t, q_33_12_f, q_33_15, q_33_16, q_33_19, q_33_20, q_33_21, q_33_22, q_33_23, q_33_26, q_33_27, q_33_28, q_33_29, q_33_32, q_33_36, q_33_39, q_33_41, q_33_42, q_33_43, q_33_44, q_33_46, q_33_49, aft_i, aft_l, aft_v, Int.toNat_natCast, kd_sI, kd_sL, kd_sR, kd_cp, gI_sL, gI_sR, gL_sI, gL_sR, gR_sI, gR_sL, gL_cp, gR_cp, kd_aI, gL_aI, gR_aI, gI_aI, gI_aIn, sI_aI, gI_sIn, Int.reduceToNat, Int.reduceAdd, Int.reduceSub, Int.reduceMul, Int.reduceNeg, Int.zero_add, r13_1, r0]
    rw [e1]
    simp (disch := (first | omega | (simp only [kd_sI, kd_sL, kd_sR, kd_cp, kd_aI]; omega) | (unfold catV; exact rfl) | (unfold catS; exact Nat.le_of_ble_eq_true rfl) | assumption)) only [q_33_0, q_33_1, q_33_4, q_33_5, q_33_6, q_33_7, q_33_8, q_33_10, q_33_12_t, q_33_12_f, q_33_15, q_33_16, q_33_19, q_33_20, q_33_21, q_33_22, q_33_23, q_33_26, q_33_27, q_33_28, q_33_29, q_33_32, q_33_35, q_33_36, q_33_39, q_33_41, q_33_42, q_33_43, q_33_44, q_33_46, q_33_49, aft_i, aft_l, aft_v, Int.toNat_natCast, kd_sI, kd_sL, kd_sR, kd_cp, gI_sL, gI_sR, gL_sI, gL_sR, gR_sI, gR_sL, gL_cp, gR_cp, kd_aI, gL_aI, gR_aI, gI_aI, gI_aIn, sI_aI, gI_sIn, Int.reduceToNat, Int.reduceAdd, Int.reduceSub, Int.reduceMul, Int.reduceNeg, Int.zero_add, r1]
  · rw [gR_sR, if_neg (fun y => n y.1)]; exact f q k n
  · show (if i = 9 then π 0 else π (i + 1)) < 10
    split
    · exact n0
    · exact (p1 (i + 1) (by omega)).1
  · show gR (sR g1 17 9 (some (18 + 3 * π 0))) 17 i = some (18 + 3 * if i = 9 then π 0 else π (i + 1))
    rw [gR_sR]
    by_cases z : i = 9
    · rw [if_pos ⟨rfl, z⟩, if_pos z]
    · rw [if_neg (fun y => z y.2), if_neg z]
      exact v i (by omega)
  · dsimp only at e
    by_cases z : i = 9
    · by_cases y : j = 9
      · omega
      · rw [if_pos z, if_neg y] at e
        have := p2 0 (j + 1) (by omega) (by omega) e
        omega
    · by_cases y : j = 9
      · rw [if_neg z, if_pos y] at e
        have := p2 (i + 1) 0 (by omega) (by omega) e
        omega
      · rw [if_neg z, if_neg y] at e
        have := p2 (i + 1) (j + 1) (by omega) (by omega) e
        omega
