theorem wRb_loop (d : Nat) (h : mH) (L : LAY h) (T : Td) (t : cT h T) (k4 : tK T ≤ 40) : ∀ (m k : Nat), k + m = tK T → resA (callA d) 59 (4, [Sum.inr (Sum.inr (some 3)), Sum.inr (Sum.inl (rvN T k : Int)), Sum.inr (Sum.inr none), Sum.inl (k : Int)], [], h) = some (some (Sum.inr (Sum.inl (rvN T (tK T) : Int))), h)
  | 0, k, hk => by
    have e : k = tK T := hk
    have t2 := t.2.1
    subst e
    obtain ⟨k3, j3⟩ := lay_k L (a := 3) (t := 6) (n := 8) rfl
    simp (disch := (first | omega | (simp only [kd_sI, kd_sL, kd_sR, kd_cp, kd_aI]; omega) | (unfold catV; exact rfl) | (unfold catS; exact Nat.le_of_ble_eq_true rfl) | assumption)) only [q_59_0, q_59_1, q_59_2, q_59_3, q_59_4, q_59_5, q_59_6, q_59_9_t, q_59_9_f, q_59_12, q_59_13, q_59_16, q_59_17, q_59_18, q_59_19_t, q_59_19_f, q_59_22, q_59_23, q_59_24, q_59_25, q_59_26, q_59_27, q_59_28, q_59_31, q_59_34, q_59_35, aft_i, aft_l, aft_v, Int.toNat_natCast, kd_sI, kd_sL, kd_sR, kd_cp, gI_sL, gI_sR, gL_sI, gL_sR, gR_sI, gR_sL, gL_cp, gR_cp, kd_aI, gL_aI, gR_aI, gI_aI, gI_aIn, sI_aI, gI_sIn, Int.reduceToNat, Int.reduceAdd, Int.reduceSub, Int.reduceMul, Int.reduceNeg, Int.zero_add, t2]
  | m + 1, k, hk => by
    have t2 := t.2.1
    have g := t.2.2.2.2.2 k (by omega)
    have b := rvN_lt T k
    have p40 : 2 ^ k < 2 ^ 40 := Nat.pow_lt_pow_right (by omega) (by omega)
    have p40 : 2 ^ k < 1099511627776 := p40
    have sh := shlL1 (k := k) (by omega)
    have o := orL_n (a := rvN T k) (b := 2 ^ k) (by omega) (by omega)
    have ih := wRb_loop d h L T t k4 m (k + 1) (by omega)
    have eR : rvN T (k + 1) = rvN T k ||| if tG T k = 2 then 2 ^ k else 0 := rfl
    rw [eR] at ih
    obtain ⟨k3, j3⟩ := lay_k L (a := 3) (t := 6) (n := 8) rfl; obtain ⟨k7, j7⟩ := lay_k L (a := 7) (t := 100) (n := 40) rfl; have r3_3 : gR h 3 3 = some 7 := lay_r L rfl
    rw [q_59_4]
    by_cases z : tG T k = 2
    · rw [if_pos z] at ih
      rw [z] at g
      have g : gI h 7 k = 2 := g
      simp (disch := (first | omega | (simp only [kd_sI, kd_sL, kd_sR, kd_cp, kd_aI]; omega) | (unfold catV; exact rfl) | (unfold catS; exact Nat.le_of_ble_eq_true rfl) | assumption)) only [q_59_0, q_59_1, q_59_2, q_59_3, q_59_5, q_59_6, q_59_9_t, q_59_9_f, q_59_12, q_59_13, q_59_16, q_59_17, q_59_18, q_59_19_t, q_59_19_f, q_59_22, q_59_23, q_59_24, q_59_25, q_59_26, q_59_27, q_59_28, q_59_31, q_59_34, q_59_35, aft_i, aft_l, aft_v, Int.toNat_natCast, kd_sI, kd_sL, kd_sR, kd_cp, gI_sL, gI_sR, gL_sI, gL_sR, gR_sI, gR_sL, gL_cp, gR_cp, kd_aI, gL_aI, gR_aI, gI_aI, gI_aIn, sI_aI, gI_sIn, Int.reduceToNat, Int.reduceAdd, Int.reduceSub, Int.reduceMul, Int.reduceNeg, Int.zero_add, t2, r3_3, g, sh, o]
      exact ih
    · rw [if_neg z, Nat.or_zero] at ih
      have g2 : gI h 7 k ≠ 2 := by omega
      simp (disch := (first | omega | (simp only [kd_sI, kd_sL, kd_sR, kd_cp, kd_aI]; omega) | (unfold catV; exact rfl) | (unfold catS; exact Nat.le_of_ble_eq_true rfl) | assumption)) only [q_59_0, q_59_1, q_59_2, q_59_3, q_59_5, q_59_6, q_59_9_t, q_59_9_f, q_59_12, q_59_13, q_59_16, q_59_17, q_59_18, q_59_19_t, q_59_19_f, q_59_22, q_59_23, q_59_24, q_59_25, q_59_26, q_59_27, q_59_28, q_59_31, q_59_34, q_59_35, aft_i, aft_l, aft_v, Int.toNat_natCast, kd_sI, kd_sL, kd_sR, kd_cp, gI_sL, gI_sR, gL_sI, gL_sR, gR_sI, gR_sL, gL_cp, gR_cp, kd_aI, gL_aI, gR_aI, gI_aI, gI_aIn, sI_aI, gI_sIn, Int.reduceToNat, Int.reduceAdd, Int.reduceSub, Int.reduceMul, Int.reduceNeg, Int.zero_add, t2, r3_3, g2]
      exact ih
theorem wRb_ok (d : Nat) (h : mH) (L : LAY h) (T : Td) (t : cT h T) (k4 : tK T ≤ 40) : callA (d + 1) 59 [Sum.inr (Sum.inr (some 3))] h = some (some (Sum.inr (Sum.inl (rvN T (tK T) : Int))), h) := by
  have e := wRb_loop d h L T t k4 (tK T) 0 (Nat.zero_add _)
  have e : resA (callA d) 59 (4, [Sum.inr (Sum.inr (some 3)), Sum.inr (Sum.inl 0), Sum.inr (Sum.inr none), Sum.inl 0], [], h) = _ := e
  rw [en_59]
  simp (disch := (first | omega | (simp only [kd_sI, kd_sL, kd_sR, kd_cp, kd_aI]; omega) | (unfold catV; exact rfl) | (unfold catS; exact Nat.le_of_ble_eq_true rfl) | assumption)) only [q_59_0, q_59_1, q_59_2, q_59_3, q_59_5, q_59_6, q_59_9_t, q_59_9_f, q_59_12, q_59_13, q_59_16, q_59_17, q_59_18, q_59_19_t, q_59_19_f, q_59_22, q_59_23, q_59_24, q_59_25, q_59_26, q_59_27, q_59_28, q_59_31, q_59_34, q_59_35, aft_i, aft_l, aft_v, Int.toNat_natCast, kd_sI, kd_sL, kd_sR, kd_cp, gI_sL, gI_sR, gL_sI, gL_sR, gR_sI, gR_sL, gL_cp, gR_cp, kd_aI, gL_aI, gR_aI, gI_aI, gI_aIn, sI_aI, gI_sIn, Int.reduceToNat, Int.reduceAdd, Int.reduceSub, Int.reduceMul, Int.reduceNeg, Int.zero_add]
  exact e
theorem wNb_loop (d : Nat) (n : Nat) (n7 : n ≤ 7) : ∀ (k i : Nat) (h : mH) (L : LAY h), gI h 3 4 = n → i + k = n → ∃ g, resA (callA d) 13 (2, [Sum.inr (Sum.inr (some 14)), Sum.inr (Sum.inr (some 3)), Sum.inl (i : Int)], [], h) = resA (callA d) 13 (35, [Sum.inr (Sum.inr (some 14)), Sum.inr (Sum.inr (some 3)), Sum.inl (n : Int)], [], g) ∧ agF h g 15 16 ∧ (∀ j, j < i → gI g 15 j = gI h 15 j ∧ gI g 16 j = gI h 16 j) ∧ ∀ j, i ≤ j → j < n → gI g 15 j = j ∧ gI g 16 j = gI h 4 j
  | 0, i, h, L, hn, hi => by
    have e : i = n := hi
    subst e
    refine ⟨h, ?_, ⟨⟨rfl, rfl, rfl⟩, fun _ _ _ => rfl⟩, fun _ _ => ⟨rfl, rfl⟩, fun j a b => absurd a (by omega)⟩
    obtain ⟨k3, j3⟩ := lay_k L (a := 3) (t := 6) (n := 8) rfl
    simp (disch := (first | omega | (simp only [kd_sI, kd_sL, kd_sR, kd_cp, kd_aI]; omega) | (unfold catV; exact rfl) | (unfold catS; exact Nat.le_of_ble_eq_true rfl) | assumption)) only [q_13_0, q_13_1, q_13_2, q_13_3, q_13_4, q_13_7_t, q_13_7_f, q_13_10, q_13_11, q_13_14, q_13_15, q_13_16, q_13_17, q_13_18, q_13_21, q_13_22, q_13_23, q_13_26, q_13_27, q_13_28, q_13_29, q_13_32, q_13_36, q_13_37, q_13_40, q_13_43, q_13_44, q_13_45, q_13_48, q_13_49, q_13_50, q_13_53, q_13_56, aft_i, aft_l, aft_v, Int.toNat_natCast, kd_sI, kd_sL, kd_sR, kd_cp, gI_sL, gI_sR, gL_sI, gL_sR, gR_sI, gR_sL, gL_cp, gR_cp, kd_aI, gL_aI, gR_aI, gI_aI, gI_aIn, sI_aI, gI_sIn, Int.reduceToNat, Int.reduceAdd, Int.reduceSub, Int.reduceMul, Int.reduceNeg, Int.zero_add, hn]
  | k + 1, i, h, L, hn, hi => by
    have L0 := L
    have a1 : agF h (sI (sI h 15 i i) 16 i (gI h 4 i)) 15 16 := agF_tr (agF_s (by omega)) (agF_s (by omega))
    have L1 := agF_L a1 L
    obtain ⟨g, e, a2, v1, v2⟩ := wNb_loop d n n7 k (i + 1) _ L1 (by rw [a1.2 3 4 (by omega)]; exact hn) (by omega)
    have f15 : ∀ j, gI (sI (sI h 15 i i) 16 i (gI h 4 i)) 15 j = upI (gI h 15) i i j := fun j => by rw [gI_sIn (by omega), gI_sIu]
    have f16 : ∀ j, gI (sI (sI h 15 i i) 16 i (gI h 4 i)) 16 j = upI (gI h 16) i (gI h 4 i) j := fun j => by rw [gI_sIu, gI_sIn (by omega)]
    refine ⟨g, ?_, agF_tr a1 a2, fun j hj => ?_, fun j x y => ?_⟩
    · have x4 : gI (sI h 15 i i) 4 i = gI h 4 i := by rw [gI_sIn (by omega)]
      obtain ⟨k3, j3⟩ := lay_k L0 (a := 3) (t := 6) (n := 8) rfl; obtain ⟨k4, j4⟩ := lay_k L0 (a := 4) (t := 100) (n := 7) rfl; obtain ⟨k14, j14⟩ := lay_k L0 (a := 14) (t := 2) (n := 5) rfl; obtain ⟨k15, j15⟩ := lay_k L0 (a := 15) (t := 100) (n := 7) rfl; obtain ⟨k16, j16⟩ := lay_k L0 (a := 16) (t := 100) (n := 7) rfl; have r3_0 : gR h 3 0 = some 4 := lay_r L0 rfl; have r14_0 : gR h 14 0 = some 15 := lay_r L0 rfl; have r14_1 : gR h 14 1 = some 16 := lay_r L0 rfl
      rw [q_13_2]
      simp (disch := (first | omega | (simp only [kd_sI, kd_sL, kd_sR, kd_cp, kd_aI]; omega) | (unfold catV; exact rfl) | (unfold catS; exact Nat.le_of_ble_eq_true rfl) | assumption)) only [q_13_0, q_13_1, q_13_3, q_13_4, q_13_7_t, q_13_7_f, q_13_10, q_13_11, q_13_14, q_13_15, q_13_16, q_13_17, q_13_18, q_13_21, q_13_22, q_13_23, q_13_26, q_13_27, q_13_28, q_13_29, q_13_32, q_13_36, q_13_37, q_13_40, q_13_43, q_13_44, q_13_45, q_13_48, q_13_49, q_13_50, q_13_53, q_13_56, aft_i, aft_l, aft_v, Int.toNat_natCast, kd_sI, kd_sL, kd_sR, kd_cp, gI_sL, gI_sR, gL_sI, gL_sR, gR_sI, gR_sL, gL_cp, gR_cp, kd_aI, gL_aI, gR_aI, gI_aI, gI_aIn, sI_aI, gI_sIn, Int.reduceToNat, Int.reduceAdd, Int.reduceSub, Int.reduceMul, Int.reduceNeg, Int.zero_add, hn, r3_0, r14_0, r14_1, x4]
      exact e
    · obtain ⟨u1, u2⟩ := v1 j (by omega)
      rw [u1, u2, f15, f16, upI_n (by omega), upI_n (by omega)]
      exact ⟨rfl, rfl⟩
    · by_cases z : j = i
      · subst z
        obtain ⟨u1, u2⟩ := v1 j (by omega)
        rw [u1, u2, f15, f16, upI_s, upI_s]
        exact ⟨rfl, rfl⟩
      · obtain ⟨u1, u2⟩ := v2 j (by omega) y
        rw [u1, u2, a1.2 4 j (by omega)]
        exact ⟨rfl, rfl⟩
theorem wSc0_ok (d : Nat) (h : mH) (L : LAY h) (D : Dr) (w : wfD D) (t : cT h (dT D)) (x : ∀ c, c < tN (dT D) → gI h 4 c = dX D c) : ∃ g, callA (d + 3) 30 [Sum.inr (Sum.inr (some 13)), Sum.inr (Sum.inr (some 3))] h = some (none, g) ∧ lvF h g ∧ gR g = gR h ∧ ntA g 14 (dT D) (nwN D) ∧ gI g 13 2 = 0 := by
  have L0 := L
  have c7 := w.1.1
  have k4 := w.1.2.1
  obtain ⟨g1, e1, a1, -, v1⟩ := wNb_loop (d + 1) (tN (dT D)) c7 (tN (dT D)) 0 h L t.1 (Nat.zero_add _)
  have L1 := agF_L a1 L
  rw [show ((0 : Nat) : Int) = 0 from rfl] at e1
  have g2L : LAY (sI (sI g1 14 2 (tN (dT D))) 14 3 0) := lay_sI (lay_sI L1 _ _ _) _ _ _
  have y0 : gI g1 3 4 = tN (dT D) := by rw [a1.2 3 4 (by omega)]; exact t.1
  have eq : ∀ q k, ¬ (14 ≤ q ∧ q ≤ 16) → gI (sI (sI g1 14 2 (tN (dT D))) 14 3 0) q k = gI h q k := fun q k n => by rw [gI_sIn (by omega), gI_sIn (by omega), a1.2 q k (by omega)]
  have t2 : cT (sI (sI g1 14 2 (tN (dT D))) 14 3 0) (dT D) := by
    obtain ⟨b1, b2, b3, b4, b5, b6⟩ := t
    refine ⟨?_, ?_, ?_, ?_, fun c hc => ?_, fun k hk => ?_⟩
    · rw [eq 3 4 (by omega)]; exact b1
    · rw [eq 3 5 (by omega)]; exact b2
    · rw [eq 3 6 (by omega)]; exact b3
    · rw [eq 3 7 (by omega)]; exact b4
    · rw [eq 5 c (by omega), eq 6 c (by omega)]; exact b5 c hc
    · rw [eq 7 k (by omega)]; exact b6 k hk
  have e2 := wRb_ok d _ g2L (dT D) t2 k4
  have e3 : callA (d + 2) 13 [Sum.inr (Sum.inr (some 14)), Sum.inr (Sum.inr (some 3))] h = some (none, sL (sI (sI g1 14 2 (tN (dT D))) 14 3 0) 14 4 (rvN (dT D) (tK (dT D)) : Int)) := by
    obtain ⟨u1, u2⟩ := lay_k L1 (a := 14) (t := 2) (n := 5) rfl
    obtain ⟨u3, u4⟩ := lay_k L1 (a := 3) (t := 6) (n := 8) rfl
    rw [en_13]
    simp (disch := (first | omega | (simp only [kd_sI, kd_sL, kd_sR, kd_cp, kd_aI]; omega) | (unfold catV; exact rfl) | (unfold catS; exact Nat.le_of_ble_eq_true rfl) | assumption)) only [q_13_0, q_13_1, q_13_3, q_13_4, q_13_7_t, q_13_7_f, q_13_10, q_13_11, q_13_14, q_13_15, q_13_16, q_13_17, q_13_18, q_13_21, q_13_22, q_13_23, q_13_26, q_13_27, q_13_28, q_13_29, q_13_32, q_13_36, q_13_37, q_13_40, q_13_43, q_13_44, q_13_45, q_13_48, q_13_49, q_13_50, q_13_53, q_13_56, aft_i, aft_l, aft_v, Int.toNat_natCast, kd_sI, kd_sL, kd_sR, kd_cp, gI_sL, gI_sR, gL_sI, gL_sR, gR_sI, gR_sL, gL_cp, gR_cp, kd_aI, gL_aI, gR_aI, gI_aI, gI_aIn, sI_aI, gI_sIn, Int.reduceToNat, Int.reduceAdd, Int.reduceSub, Int.reduceMul, Int.reduceNeg, Int.zero_add]
    rw [e1]
    simp (disch := (first | omega | (simp only [kd_sI, kd_sL, kd_sR, kd_cp, kd_aI]; omega) | (unfold catV; exact rfl) | (unfold catS; exact Nat.le_of_ble_eq_true rfl) | assumption)) only [q_13_0, q_13_1, q_13_3, q_13_4, q_13_7_t, q_13_7_f, q_13_10, q_13_11, q_13_14, q_13_15, q_13_16, q_13_17, q_13_18, q_13_21, q_13_22, q_13_23, q_13_26, q_13_27, q_13_28, q_13_29, q_13_32, q_13_35, q_13_36, q_13_37, q_13_40, q_13_43, q_13_44, q_13_45, q_13_48, q_13_49, q_13_50, q_13_53, q_13_56, aft_i, aft_l, aft_v, Int.toNat_natCast, kd_sI, kd_sL, kd_sR, kd_cp, gI_sL, gI_sR, gL_sI, gL_sR, gR_sI, gR_sL, gL_cp, gR_cp, kd_aI, gL_aI, gR_aI, gI_aI, gI_aIn, sI_aI, gI_sIn, Int.reduceToNat, Int.reduceAdd, Int.reduceSub, Int.reduceMul, Int.reduceNeg, Int.zero_add, y0, e2]
  refine ⟨sI (sL (sI (sI g1 14 2 (tN (dT D))) 14 3 0) 14 4 (rvN (dT D) (tK (dT D)) : Int)) 13 2 0, ?_, ⟨a1.1.1, fun q k n m => ?_, fun q k m => ?_, fun q k _ => ?_⟩, a1.1.2.2, ?_, gI_sIs _ _ _ _⟩
  · obtain ⟨u1, u2⟩ := lay_k L1 (a := 13) (t := 4) (n := 4) rfl
    obtain ⟨k13, j13⟩ := lay_k L0 (a := 13) (t := 4) (n := 4) rfl; obtain ⟨k14, j14⟩ := lay_k L0 (a := 14) (t := 2) (n := 5) rfl; have r13_0 : gR h 13 0 = some 14 := lay_r L0 rfl
    rw [en_30]
    simp (disch := (first | omega | (simp only [kd_sI, kd_sL, kd_sR, kd_cp, kd_aI]; omega) | (unfold catV; exact rfl) | (unfold catS; exact Nat.le_of_ble_eq_true rfl) | assumption)) only [q_30_0, q_30_1, q_30_4, q_30_5, q_30_8, q_30_9, q_30_10, q_30_13, aft_i, aft_l, aft_v, Int.toNat_natCast, kd_sI, kd_sL, kd_sR, kd_cp, gI_sL, gI_sR, gL_sI, gL_sR, gR_sI, gR_sL, gL_cp, gR_cp, kd_aI, gL_aI, gR_aI, gI_aI, gI_aIn, sI_aI, gI_sIn, Int.reduceToNat, Int.reduceAdd, Int.reduceSub, Int.reduceMul, Int.reduceNeg, Int.zero_add, r13_0, e3]
  · rw [gI_sI, if_neg n]
    exact eq q k (by omega)
  · show gL (sL _ 14 4 _) q k = gL h q k
    rw [gL_sL, if_neg (by omega)]
    show gL g1 q k = _
    rw [a1.1.2.1]
  · show gR g1 q k = _
    rw [a1.1.2.2]
  · refine ⟨?_, ?_, ?_, fun i hi => ?_, fun c hc => ?_⟩
    · rw [gI_sIn (by omega)]
      show gI (sI (sI g1 14 2 (tN (dT D))) 14 3 0) 14 2 = _
      rw [gI_sIo (by omega), gI_sIs]; rfl
    · rw [gI_sIn (by omega)]
      show gI (sI (sI g1 14 2 (tN (dT D))) 14 3 0) 14 3 = _
      rw [gI_sIs]; rfl
    · show gL (sL _ 14 4 _) 14 4 = _
      rw [gL_sLs]; rfl
    · have hi : i < tN (dT D) := hi
      rw [gI_sIn (by omega)]
      show gI (sI (sI g1 14 2 (tN (dT D))) 14 3 0) 15 i = _
      rw [gI_sIn (by omega), gI_sIn (by omega), (v1 i (Nat.zero_le _) hi).1]; rfl
    · rw [gI_sIn (by omega)]
      show gI (sI (sI g1 14 2 (tN (dT D))) 14 3 0) 16 c = _
      rw [gI_sIn (by omega), gI_sIn (by omega), (v1 c (Nat.zero_le _) hc).2]
      exact x c hc
def frsh (h : mH) (D : Dr) (R : Int) : Prop := cT h (dT D) ∧ (∀ c, c < tN (dT D) → gI h 4 c = dX D c) ∧ (∃ π, pmA h 13 π) ∧ (∀ i, i < 2 → ∃ π, pmA h (49 + 35 * i) π) ∧ gI h 1 1 = 0 ∧ gL h 0 14 = R ∧ brR h
theorem wStart_ok (d : Nat) (h : mH) (L : LAY h) (D : Dr) (R : Int) (w : wfD D) (s : frsh h D R) : ∃ g, callA (d + 4) 97 [Sum.inr (Sum.inr (some 0))] h = some (none, g) ∧ frm 0 141 h g ∧ LAY g ∧ CI g (twn R D) := by
  have L0 := L
  obtain ⟨s1, s2, ⟨π, s3⟩, s4, s5, s6⟩ := s
  obtain ⟨g1, e1, a1, r1, n1, z1⟩ := wSc0_ok d h L D w s1 s2
  have L1 := lvF_L a1 L
  generalize eg2 : sI (sI (sI g1 49 3 0) 84 3 0) 0 13 0 = g2
  have L2 : LAY g2 := by rw [← eg2]; exact lay_sI (lay_sI (lay_sI L1 _ _ _) _ _ _) _ _ _
  have fq : ∀ q k, ¬ (q = 49 ∧ k = 3) → ¬ (q = 84 ∧ k = 3) → ¬ (q = 0 ∧ k = 13) → gI g2 q k = gI g1 q k := fun q k x y z => by
    rw [← eg2, gI_sI, if_neg z, gI_sI, if_neg y, gI_sI, if_neg x]
  have fL : gL g2 = gL g1 := by rw [← eg2]; rfl
  have fR : gR g2 = gR h := by rw [← eg2]; exact r1
  have hq : ∀ q k, ¬ (q = 13 ∧ k = 2) → ¬ (14 ≤ q ∧ q ≤ 47) → ¬ (q = 49 ∧ k = 3) → ¬ (q = 84 ∧ k = 3) → ¬ (q = 0 ∧ k = 13) → gI g2 q k = gI h q k := fun q k x y z u v => by
    rw [fq q k z u v, a1.2.1 q k x y]
  have c0 : CI0 g2 (twn R D) := by
    refine ⟨?_, ⟨π, ⟨fun i hi => ⟨(s3.1 i hi).1, by rw [fR]; exact (s3.1 i hi).2⟩, s3.2⟩, ?_, ?_, by show 0 ≤ 10; omega, fun j q => absurd q (Nat.not_lt_zero _)⟩, fun i hi => ?_, ?_, fun k q => absurd q (Nat.not_lt_zero _), ?_, fun k q => absurd q (Nat.not_lt_zero _), ?_⟩
    · obtain ⟨b1, b2, b3, b4, b5, b6⟩ := s1
      refine ⟨?_, ?_, ?_, ?_, fun c hc => ?_, fun k hk => ?_⟩
      · rw [hq 3 4 (by omega) (by omega) (by omega) (by omega) (by omega)]; exact b1
      · rw [hq 3 5 (by omega) (by omega) (by omega) (by omega) (by omega)]; exact b2
      · rw [hq 3 6 (by omega) (by omega) (by omega) (by omega) (by omega)]; exact b3
      · rw [hq 3 7 (by omega) (by omega) (by omega) (by omega) (by omega)]; exact b4
      · rw [hq 5 c (by omega) (by omega) (by omega) (by omega) (by omega), hq 6 c (by omega) (by omega) (by omega) (by omega) (by omega)]; exact b5 c hc
      · rw [hq 7 k (by omega) (by omega) (by omega) (by omega) (by omega)]; exact b6 k hk
    · exact ntA_cg (fun q k x y => fq q k (by omega) (by omega) (by omega)) (by rw [fL]) n1
    · rw [fq 13 2 (by omega) (by omega) (by omega)]; exact z1
    · obtain ⟨ρ, p⟩ := s4 i hi
      refine ⟨⟨ρ, fun j hj => ⟨(p.1 j hj).1, by rw [fR]; exact (p.1 j hj).2⟩, p.2⟩, ?_, fun N P e => (by cases e)⟩
      show gI g2 (49 + 35 * i) 3 = 0
      have : i = 0 ∨ i = 1 := by omega
      rcases this with e | e
      · subst e
        rw [← eg2, gI_sIn (by omega), gI_sIn (by omega), gI_sIs]
      · subst e
        rw [← eg2, gI_sIn (by omega), gI_sIs]
    · rw [← eg2, gI_sIs]; rfl
    · rw [hq 1 1 (by omega) (by omega) (by omega) (by omega) (by omega)]; exact s5
    · rw [fL, a1.2.2.1 0 14 (by omega)]; exact ⟨s6.1, brR_e fR s6.2⟩
  obtain ⟨g, e3, q3, Lg, cg⟩ := settle_CI d g2 L2 (twn R D) (twn_wf w) c0
  have f2 : frm 0 141 g1 g2 := by
    rw [← eg2]
    exact frm_tr (frm_sI (by omega) (by omega)) (frm_tr (frm_sI (by omega) (by omega)) (frm_sI (by omega) (by omega)))
  refine ⟨g, ?_, frm_tr (lvF_frm a1) (frm_tr f2 (qt_frm q3)), Lg, cg⟩
  obtain ⟨u1, u2⟩ := lay_k L1 (a := 0) (t := 7) (n := 17) rfl
  obtain ⟨u3, u4⟩ := lay_k L1 (a := 48) (t := 104) (n := 2) rfl
  obtain ⟨u5, u6⟩ := lay_k L1 (a := 49) (t := 4) (n := 4) rfl
  obtain ⟨u7, u8⟩ := lay_k L1 (a := 84) (t := 4) (n := 4) rfl
  have t1 : gR g1 0 4 = some 48 := lay_r L1 rfl
  have t2 : gR g1 48 0 = some 49 := lay_r L1 rfl
  have t3 : gR g1 48 1 = some 84 := lay_r L1 rfl
  obtain ⟨v1, v2⟩ := lay_k L2 (a := 0) (t := 7) (n := 17) rfl
  obtain ⟨k0, j0⟩ := lay_k L0 (a := 0) (t := 7) (n := 17) rfl; obtain ⟨k13, j13⟩ := lay_k L0 (a := 13) (t := 4) (n := 4) rfl; have r0_1 : gR h 0 1 = some 3 := lay_r L0 rfl; have r0_3 : gR h 0 3 = some 13 := lay_r L0 rfl
  rw [en_97]
  simp (disch := (first | omega | (simp only [kd_sI, kd_sL, kd_sR, kd_cp, kd_aI]; omega) | (unfold catV; exact rfl) | (unfold catS; exact Nat.le_of_ble_eq_true rfl) | assumption)) only [q_97_0, q_97_1, q_97_4, q_97_5, q_97_8, q_97_11, q_97_12, q_97_13, q_97_14, q_97_15_t, q_97_15_f, q_97_18, q_97_19, q_97_22, q_97_23, q_97_24, q_97_25, q_97_28, q_97_31, q_97_34, q_97_35, q_97_36, q_97_39, q_97_40, q_97_43, aft_i, aft_l, aft_v, Int.toNat_natCast, kd_sI, kd_sL, kd_sR, kd_cp, gI_sL, gI_sR, gL_sI, gL_sR, gR_sI, gR_sL, gL_cp, gR_cp, kd_aI, gL_aI, gR_aI, gI_aI, gI_aIn, sI_aI, gI_sIn, Int.reduceToNat, Int.reduceAdd, Int.reduceSub, Int.reduceMul, Int.reduceNeg, Int.zero_add, r0_1, r0_3, e1, t1, t2, t3, eg2, e3]
theorem cTown_ok (d : Nat) (h : mH) (L : LAY h) (σ : Sg) (w : wfS σ) (c : CI h σ) : cOK (d + 8) 63 [] h (Sum.inl (townS σ).1) (townS σ).2 := by
  have L0 := L
  have t : ctx h (zX σ) := ⟨c.1.2.2.2.2.2.1, c.1.2.2.2.2.2.2.1, w.2.2.2.2.2.1, w.2.2.2.2.2.2.1⟩
  obtain ⟨g1, q1, r1⟩ := wInto_ok d h L (zX σ) t
  have L1 := cpF_L q1 L
  have qq := cpF_qt q1
  unfold townS
  cases hp : prs (zX σ) ((zX σ).length + 1) 0 dNew 0 with
  | inl e =>
    rw [hp] at r1
    obtain ⟨c0, cc, bk⟩ := c
    refine ⟨g1, ?_, qt_frm qq, L1, qt_CI0 qq c0, ?_, ?_⟩
    · have ng : (-10 - (e : Int)) < 0 := by omega
      generalize (-10 - (e : Int)) = v at r1 ng ⊢
      obtain ⟨k0, j0⟩ := lay_k L0 (a := 0) (t := 7) (n := 17) rfl; obtain ⟨k1, j1⟩ := lay_k L0 (a := 1) (t := 5) (n := 8) rfl; have r0_0 : gR h 0 0 = some 1 := lay_r L0 rfl; have r0_2 : gR h 0 2 = some 8 := lay_r L0 rfl
      rw [en_63]
      simp (disch := (first | omega | (simp only [kd_sI, kd_sL, kd_sR, kd_cp, kd_aI]; omega) | (unfold catV; exact rfl) | (unfold catS; exact Nat.le_of_ble_eq_true rfl) | assumption)) only [q_63_0, q_63_1, q_63_4, q_63_5, q_63_8, q_63_11, q_63_12, q_63_13_t, q_63_13_f, q_63_16, q_63_17, q_63_18, q_63_19, q_63_22, q_63_23, q_63_26, q_63_29, q_63_30, q_63_33, q_63_36, q_63_37, q_63_40, q_63_41, aft_i, aft_l, aft_v, Int.toNat_natCast, kd_sI, kd_sL, kd_sR, kd_cp, gI_sL, gI_sR, gL_sI, gL_sR, gR_sI, gR_sL, gL_cp, gR_cp, kd_aI, gL_aI, gR_aI, gI_aI, gI_aIn, sI_aI, gI_sIn, Int.reduceToNat, Int.reduceAdd, Int.reduceSub, Int.reduceMul, Int.reduceNeg, Int.zero_add, r0_0, r0_2, r1]
    · obtain ⟨b1, b2, b3, b4⟩ := cc
      have e1 : ∀ q k, ¬ (q = 1 ∧ 2 ≤ k) → ¬ (8 ≤ q ∧ q ≤ 12) → gI g1 q k = gI h q k := q1.2.1
      refine ⟨fun k hk => ?_, ?_, ?_, fun w k x y f => ?_⟩
      · rw [e1 128 k (by omega) (by omega)]; exact b1 k hk
      · rw [e1 0 7 (by omega) (by omega)]; exact b2
      · rw [e1 119 1 (by omega) (by omega)]; exact b3
      · rw [e1 (121 + w) k (by omega) (by omega)]; exact b4 w k x y f
    · have e1 : ∀ q k, ¬ (q = 1 ∧ 2 ≤ k) → ¬ (8 ≤ q ∧ q ≤ 12) → gI g1 q k = gI h q k := q1.2.1
      rcases bk with b0 | ⟨b0, b, b1, b2, b3, b4, b5⟩
      · left
        rw [e1 0 9 (by omega) (by omega)]; exact b0
      · right
        refine ⟨?_, b, b1, ?_, ?_, ?_, rwO_congr (fun i hi => e1 130 _ (by omega) (by omega)) b5⟩
        · rw [e1 0 9 (by omega) (by omega)]; exact b0
        · rw [e1 129 1 (by omega) (by omega)]; exact b2
        · rw [e1 129 2 (by omega) (by omega)]; exact b3
        · rw [e1 129 1 (by omega) (by omega), e1 129 3 (by omega) (by omega)]; exact b4
  | inr q =>
    rw [hp] at r1
    obtain ⟨d1, wq, e1⟩ := r1
    obtain ⟨g2, e2, a2, t2, x2⟩ := wTb_ok (d + 6) g1 L1 q.1 wq d1
    have L2 := agF_L a2 L1
    have c1 := qt_CI0 qq c.1
    obtain ⟨m1, ⟨π, m2⟩, m3, m4, m5, m6, m7, m8⟩ := c1
    have e3 : callA (d + 7) 37 [Sum.inr (Sum.inr (some 1))] g2 = some (none, sI g2 1 1 0) := by
      obtain ⟨u1, u2⟩ := lay_k L2 (a := 1) (t := 5) (n := 8) rfl
      rw [en_37]
      simp (disch := (first | omega | (simp only [kd_sI, kd_sL, kd_sR, kd_cp, kd_aI]; omega) | (unfold catV; exact rfl) | (unfold catS; exact Nat.le_of_ble_eq_true rfl) | assumption)) only [q_37_0, q_37_1, q_37_2, q_37_5, aft_i, aft_l, aft_v, Int.toNat_natCast, kd_sI, kd_sL, kd_sR, kd_cp, gI_sL, gI_sR, gL_sI, gL_sR, gR_sI, gR_sL, gL_cp, gR_cp, kd_aI, gL_aI, gR_aI, gI_aI, gI_aIn, sI_aI, gI_sIn, Int.reduceToNat, Int.reduceAdd, Int.reduceSub, Int.reduceMul, Int.reduceNeg, Int.zero_add]
    have L3 : LAY (sI g2 1 1 0) := lay_sI L2 _ _ _
    have s3 : frsh (sI g2 1 1 0) q.1 (zR σ) := by
      obtain ⟨b1, b2, b3, b4, b5, b6⟩ := t2
      refine ⟨⟨?_, ?_, ?_, ?_, fun c hc => ?_, fun k hk => ?_⟩, fun c hc => ?_, ⟨π, ?_⟩, fun i hi => ?_, gI_sIs _ _ _ _, ?_⟩
      · rw [gI_sIn (by omega)]; exact b1
      · rw [gI_sIn (by omega)]; exact b2
      · rw [gI_sIn (by omega)]; exact b3
      · rw [gI_sIn (by omega)]; exact b4
      · rw [gI_sIn (by omega), gI_sIn (by omega)]; exact b5 c hc
      · rw [gI_sIn (by omega)]; exact b6 k hk
      · rw [gI_sIn (by omega)]; exact x2 c hc
      · exact ⟨fun i hi => ⟨(m2.1.1 i hi).1, by show gR g2 _ i = _; rw [a2.1.2.2]; exact (m2.1.1 i hi).2⟩, m2.1.2⟩
      · obtain ⟨⟨ρ, p⟩, -⟩ := m3 i hi
        exact ⟨ρ, fun i hi => ⟨(p.1 i hi).1, by show gR g2 _ i = _; rw [a2.1.2.2]; exact (p.1 i hi).2⟩, p.2⟩
      · show gL g2 0 14 = _ ∧ brR g2
        rw [a2.1.2.1]; exact ⟨m8.1, brR_e a2.1.2.2 m8.2⟩
    obtain ⟨g4, e4, f4, L4, c4⟩ := wStart_ok (d + 3) (sI g2 1 1 0) L3 q.1 (zR σ) wq s3
    refine ⟨g4, ?_, frm_tr (qt_frm qq) (frm_tr ⟨a2.1.1, fun q hq => ⟨funext fun k => a2.2 q k (by omega), by rw [a2.1.2.1], by rw [a2.1.2.2]⟩⟩ (frm_tr (frm_sI (by omega) (by omega)) f4)), L4, c4⟩
    obtain ⟨u1, u2⟩ := lay_k L1 (a := 0) (t := 7) (n := 17) rfl
    obtain ⟨u3, u4⟩ := lay_k L1 (a := 3) (t := 6) (n := 8) rfl
    obtain ⟨u5, u6⟩ := lay_k L2 (a := 0) (t := 7) (n := 17) rfl
    obtain ⟨u7, u8⟩ := lay_k L2 (a := 1) (t := 5) (n := 8) rfl
    have y1 : gR g1 0 1 = some 3 := lay_r L1 rfl
    have y2 : gR g1 0 2 = some 8 := lay_r L1 rfl
    have y3 : gR g2 0 0 = some 1 := lay_r L2 rfl
    have nn : ¬ ((q.2 : Nat) : Int) < 0 := by omega
    obtain ⟨k0, j0⟩ := lay_k L0 (a := 0) (t := 7) (n := 17) rfl; obtain ⟨k1, j1⟩ := lay_k L0 (a := 1) (t := 5) (n := 8) rfl; have r0_0 : gR h 0 0 = some 1 := lay_r L0 rfl; have r0_2 : gR h 0 2 = some 8 := lay_r L0 rfl
    rw [en_63]
    simp (disch := (first | omega | (simp only [kd_sI, kd_sL, kd_sR, kd_cp, kd_aI]; omega) | (unfold catV; exact rfl) | (unfold catS; exact Nat.le_of_ble_eq_true rfl) | assumption)) only [q_63_0, q_63_1, q_63_4, q_63_5, q_63_8, q_63_11, q_63_12, q_63_13_t, q_63_13_f, q_63_16, q_63_17, q_63_18, q_63_19, q_63_22, q_63_23, q_63_26, q_63_29, q_63_30, q_63_33, q_63_36, q_63_37, q_63_40, q_63_41, aft_i, aft_l, aft_v, Int.toNat_natCast, kd_sI, kd_sL, kd_sR, kd_cp, gI_sL, gI_sR, gL_sI, gL_sR, gR_sI, gR_sL, gL_cp, gR_cp, kd_aI, gL_aI, gR_aI, gI_aI, gI_aIn, sI_aI, gI_sIn, Int.reduceToNat, Int.reduceAdd, Int.reduceSub, Int.reduceMul, Int.reduceNeg, Int.zero_add, r0_0, r0_2, e1, y1, y2, e2, y3, e3, e4]
