def cAt (N : Nt) (s : Nat) : Nat → Nat
  | 0 => 0
  | i + 1 => cAt N s i ||| if s.testBit i = true then 2 ^ nR N i else 0
theorem cAt_bit (N : Nt) (s c : Nat) : ∀ i, (cAt N s i).testBit c = true ↔ ∃ j, j < i ∧ s.testBit j = true ∧ nR N j = c
  | 0 => by
    constructor
    · intro h
      have h : (0 : Nat).testBit c = true := h
      rw [Nat.zero_testBit] at h
      cases h
    · rintro ⟨j, h, _⟩; exact absurd h (Nat.not_lt_zero _)
  | i + 1 => by
    show (cAt N s i ||| if s.testBit i = true then 2 ^ nR N i else 0).testBit c = true ↔ _
    rw [Nat.testBit_or, Bool.or_eq_true, cAt_bit N s c i]
    by_cases z : s.testBit i = true
    · rw [if_pos z, Nat.testBit_two_pow, decide_eq_true_iff]
      constructor
      · rintro (⟨j, h1, h2⟩ | h)
        · exact ⟨j, by omega, h2⟩
        · exact ⟨i, by omega, z, h⟩
      · rintro ⟨j, h1, h2, h3⟩
        by_cases y : j = i
        · subst y; exact Or.inr h3
        · exact Or.inl ⟨j, by omega, h2, h3⟩
    · rw [if_neg z, Nat.zero_testBit]
      constructor
      · rintro (⟨j, h1, h2⟩ | h)
        · exact ⟨j, by omega, h2⟩
        · cases h
      · rintro ⟨j, h1, h2, h3⟩
        refine Or.inl ⟨j, ?_, h2, h3⟩
        by_cases y : j = i
        · subst y; exact absurd h2 z
        · omega
theorem cAt_b {T : Td} {N : Nt} (wT : wfT T) (w : wfN T N) (s : Nat) : ∀ {i : Nat}, i ≤ nM N → cAt N s i < 128
  | 0, _ => by show 0 < 128; omega
  | i + 1, h => by
    have a := cAt_b wT w s (i := i) (by omega)
    have b := w.2.1 i (by omega)
    have c7 := wT.1
    show cAt N s i ||| _ < 2 ^ 7
    refine Nat.or_lt_two_pow a ?_
    split
    · exact Nat.pow_lt_pow_right (by omega) (by omega)
    · exact Nat.pos_of_ne_zero (by decide)
theorem prt_odd {T : Td} {N : Nt} (w : wfN T N) (s : Nat) : prtL N (cAt N s (nM N)) = oddL N s := by
  have key : ∀ i, i < nM N → (cAt N s (nM N)).testBit (nR N i) = s.testBit i := fun i hi => by
    cases q : s.testBit i with
    | true => exact (cAt_bit N s _ _).mpr ⟨i, hi, q, rfl⟩
    | false =>
      cases z : (cAt N s (nM N)).testBit (nR N i) with
      | false => rfl
      | true =>
        obtain ⟨j, h1, h2, h3⟩ := (cAt_bit N s _ _).mp z
        rw [w.2.2.1 j i h1 hi h3] at h2
        rw [q] at h2
        cases h2
  unfold prtL oddL rowL
  rw [trnR_eq, trnR_eq, List.filter_map, List.filter_map, List.range_eq_range']
  congr 2
  · refine List.filter_congr (fun i hi => ?_)
    have hi := (List.mem_range'_1.mp hi).2
    show (!(cAt N s (nM N)).testBit (nR N i)) = _
    rw [key i (by omega)]
    cases s.testBit i <;> rfl
  · refine List.filter_congr (fun i hi => ?_)
    have hi := (List.mem_range'_1.mp hi).2
    show (cAt N s (nM N)).testBit (nR N i) = _
    rw [key i (by omega)]
    cases s.testBit i <;> rfl
theorem trn_cnt (N : Nt) (s n : Nat) : (trnR N s true n 0).length = cntB s n := by
  rw [trnR_eq, List.length_map, ← cnt_len, List.range_eq_range']
  congr 1
  exact List.filter_congr (fun i _ => by cases s.testBit i <;> rfl)
theorem cntB_ext {s n : Nat} (h : s < 2 ^ n) : ∀ k, cntB s (n + k) = cntB s n
  | 0 => rfl
  | k + 1 => by
    show cntB s (n + k) + (if s.testBit (n + k) then 1 else 0) = _
    have : s.testBit (n + k) = false := Nat.testBit_lt_two_pow (Nat.lt_of_lt_of_le h (Nat.pow_le_pow_right (by omega) (by omega)))
    rw [this, cntB_ext h k]
    rfl
theorem wCat_loop (d : Nat) (h : mH) (L : LAY h) (T : Td) (N : Nt) (wT : wfT T) (wN : wfN T N) (u1 : gI h 14 2 = nM N) (u2 : ∀ i, i < nM N → gI h 15 i = nR N i) (s : Nat) (hs : s < 128) : ∀ (k i : Nat), i + k = nM N → resA (callA d) 24 (4, [Sum.inr (Sum.inr (some 14)), Sum.inl (s : Int), Sum.inl (cAt N s i : Int), Sum.inl (i : Int)], [], h) = some (some (Sum.inl (cAt N s (nM N) : Int)), h)
  | 0, i, hi => by
    have e : i = nM N := hi
    have n7 : nM N ≤ 7 := Nat.le_trans wN.1 wT.1
    subst e
    obtain ⟨k14, j14⟩ := lay_k L (a := 14) (t := 2) (n := 5) rfl
    simp (disch := (first | omega | (simp only [kd_sI, kd_sL, kd_sR, kd_cp, kd_aI]; omega) | (unfold catV; exact rfl) | (unfold catS; exact Nat.le_of_ble_eq_true rfl) | assumption)) only [q_24_0, q_24_1, q_24_2, q_24_3, q_24_4, q_24_5, q_24_6, q_24_9_t, q_24_9_f, q_24_12, q_24_13, q_24_14, q_24_15, q_24_16, q_24_17, q_24_18_t, q_24_18_f, q_24_21, q_24_22, q_24_23, q_24_24, q_24_27, q_24_28, q_24_29, q_24_30, q_24_31, q_24_32, q_24_35, q_24_38, q_24_39, aft_i, aft_l, aft_v, Int.toNat_natCast, kd_sI, kd_sL, kd_sR, kd_cp, gI_sL, gI_sR, gL_sI, gL_sR, gR_sI, gR_sL, gL_cp, gR_cp, kd_aI, gL_aI, gR_aI, gI_aI, gI_aIn, sI_aI, gI_sIn, Int.reduceToNat, Int.reduceAdd, Int.reduceSub, Int.reduceMul, Int.reduceNeg, Int.zero_add, u1]
  | k + 1, i, hi => by
    have c7 := wT.1
    have n7 : nM N ≤ 7 := Nat.le_trans wN.1 wT.1
    have r7 := wN.2.1 i (by omega)
    have u2i := u2 i (by omega)
    have bt := bitI (a := s) (c := i) (by omega) (by omega)
    have sh := shl1 (j := nR N i) (by omega)
    have p7 : 2 ^ nR N i < 2 ^ 7 := Nat.pow_lt_pow_right (by omega) (by omega)
    have cb := cAt_b wT wN s (i := i) (by omega)
    have o1 := orI_n (a := cAt N s i) (b := 2 ^ nR N i) (by omega) (by omega)
    have ih := wCat_loop d h L T N wT wN u1 u2 s hs k (i + 1) (by omega)
    have eC : cAt N s (i + 1) = cAt N s i ||| if s.testBit i = true then 2 ^ nR N i else 0 := rfl
    rw [eC] at ih
    obtain ⟨k14, j14⟩ := lay_k L (a := 14) (t := 2) (n := 5) rfl; obtain ⟨k15, j15⟩ := lay_k L (a := 15) (t := 100) (n := 7) rfl; have r14_0 : gR h 14 0 = some 15 := lay_r L rfl
    rw [q_24_4]
    by_cases z : s.testBit i = true
    · rw [if_pos z] at bt ih
      simp (disch := (first | omega | (simp only [kd_sI, kd_sL, kd_sR, kd_cp, kd_aI]; omega) | (unfold catV; exact rfl) | (unfold catS; exact Nat.le_of_ble_eq_true rfl) | assumption)) only [q_24_0, q_24_1, q_24_2, q_24_3, q_24_5, q_24_6, q_24_9_t, q_24_9_f, q_24_12, q_24_13, q_24_14, q_24_15, q_24_16, q_24_17, q_24_18_t, q_24_18_f, q_24_21, q_24_22, q_24_23, q_24_24, q_24_27, q_24_28, q_24_29, q_24_30, q_24_31, q_24_32, q_24_35, q_24_38, q_24_39, aft_i, aft_l, aft_v, Int.toNat_natCast, kd_sI, kd_sL, kd_sR, kd_cp, gI_sL, gI_sR, gL_sI, gL_sR, gR_sI, gR_sL, gL_cp, gR_cp, kd_aI, gL_aI, gR_aI, gI_aI, gI_aIn, sI_aI, gI_sIn, Int.reduceToNat, Int.reduceAdd, Int.reduceSub, Int.reduceMul, Int.reduceNeg, Int.zero_add, u1, bt, r14_0, u2i, sh, o1]
      exact ih
    · rw [if_neg z] at bt ih
      rw [Nat.or_zero] at ih
      simp (disch := (first | omega | (simp only [kd_sI, kd_sL, kd_sR, kd_cp, kd_aI]; omega) | (unfold catV; exact rfl) | (unfold catS; exact Nat.le_of_ble_eq_true rfl) | assumption)) only [q_24_0, q_24_1, q_24_2, q_24_3, q_24_5, q_24_6, q_24_9_t, q_24_9_f, q_24_12, q_24_13, q_24_14, q_24_15, q_24_16, q_24_17, q_24_18_t, q_24_18_f, q_24_21, q_24_22, q_24_23, q_24_24, q_24_27, q_24_28, q_24_29, q_24_30, q_24_31, q_24_32, q_24_35, q_24_38, q_24_39, aft_i, aft_l, aft_v, Int.toNat_natCast, kd_sI, kd_sL, kd_sR, kd_cp, gI_sL, gI_sR, gL_sI, gL_sR, gR_sI, gR_sL, gL_cp, gR_cp, kd_aI, gL_aI, gR_aI, gI_aI, gI_aIn, sI_aI, gI_sIn, Int.reduceToNat, Int.reduceAdd, Int.reduceSub, Int.reduceMul, Int.reduceNeg, Int.zero_add, u1, bt]
      exact ih
theorem wCat_ok (d : Nat) (h : mH) (L : LAY h) (T : Td) (N : Nt) (wT : wfT T) (wN : wfN T N) (u1 : gI h 14 2 = nM N) (u2 : ∀ i, i < nM N → gI h 15 i = nR N i) (s : Nat) (hs : s < 128) : callA (d + 1) 24 [Sum.inr (Sum.inr (some 14)), Sum.inl (s : Int)] h = some (some (Sum.inl (cAt N s (nM N) : Int)), h) := by
  have e := wCat_loop d h L T N wT wN u1 u2 s hs (nM N) 0 (Nat.zero_add _)
  have e : resA (callA d) 24 (4, [Sum.inr (Sum.inr (some 14)), Sum.inl (s : Int), Sum.inl 0, Sum.inl 0], [], h) = _ := e
  rw [en_24]
  simp (disch := (first | omega | (simp only [kd_sI, kd_sL, kd_sR, kd_cp, kd_aI]; omega) | (unfold catV; exact rfl) | (unfold catS; exact Nat.le_of_ble_eq_true rfl) | assumption)) only [q_24_0, q_24_1, q_24_2, q_24_3, q_24_5, q_24_6, q_24_9_t, q_24_9_f, q_24_12, q_24_13, q_24_14, q_24_15, q_24_16, q_24_17, q_24_18_t, q_24_18_f, q_24_21, q_24_22, q_24_23, q_24_24, q_24_27, q_24_28, q_24_29, q_24_30, q_24_31, q_24_32, q_24_35, q_24_38, q_24_39, aft_i, aft_l, aft_v, Int.toNat_natCast, kd_sI, kd_sL, kd_sR, kd_cp, gI_sL, gI_sR, gL_sI, gL_sR, gR_sI, gR_sL, gL_cp, gR_cp, kd_aI, gL_aI, gR_aI, gI_aI, gI_aIn, sI_aI, gI_sIn, Int.reduceToNat, Int.reduceAdd, Int.reduceSub, Int.reduceMul, Int.reduceNeg, Int.zero_add]
  exact e
theorem wPow_loop (d : Nat) (h : mH) (b t : Nat) (hb : b ≤ 10) (ht : t ≤ 7) : ∀ (k i : Nat), i + k = t → resA (callA d) 114 (4, [Sum.inl (b : Int), Sum.inl (t : Int), Sum.inl ((b ^ i : Nat) : Int), Sum.inl (i : Int)], [], h) = some (some (Sum.inl ((b ^ t : Nat) : Int)), h)
  | 0, i, hi => by
    have e : i = t := hi
    subst e
    simp (disch := (first | omega | (simp only [kd_sI, kd_sL, kd_sR, kd_cp, kd_aI]; omega) | (unfold catV; exact rfl) | (unfold catS; exact Nat.le_of_ble_eq_true rfl) | assumption)) only [q_114_0, q_114_1, q_114_2, q_114_3, q_114_4, q_114_5, q_114_6_t, q_114_6_f, q_114_9, q_114_10, q_114_11, q_114_12, q_114_13, q_114_16, q_114_19, q_114_20, aft_i, aft_l, aft_v, Int.toNat_natCast, kd_sI, kd_sL, kd_sR, kd_cp, gI_sL, gI_sR, gL_sI, gL_sR, gR_sI, gR_sL, gL_cp, gR_cp, kd_aI, gL_aI, gR_aI, gI_aI, gI_aIn, sI_aI, gI_sIn, Int.reduceToNat, Int.reduceAdd, Int.reduceSub, Int.reduceMul, Int.reduceNeg, Int.zero_add]
  | k + 1, i, hi => by
    have ih := wPow_loop d h b t hb ht k (i + 1) (by omega)
    have pb : b ^ i ≤ 10 ^ i := Nat.pow_le_pow_left hb i
    have p7 := p10 (show i ≤ 7 by omega)
    have em : ((b ^ i : Nat) : Int) * (b : Int) = ((b ^ (i + 1) : Nat) : Int) := by rw [Nat.pow_succ, Int.natCast_mul]
    have p8 : b ^ (i + 1) ≤ 10 ^ (i + 1) := Nat.pow_le_pow_left hb _
    have p9 := p10 (show i + 1 ≤ 7 by omega)
    have hm : -2147483648 ≤ ((b ^ i : Nat) : Int) * (b : Int) ∧ ((b ^ i : Nat) : Int) * (b : Int) < 2147483648 := by rw [em]; omega
    rw [q_114_4]
    simp (disch := (first | omega | (simp only [kd_sI, kd_sL, kd_sR, kd_cp, kd_aI]; omega) | (unfold catV; exact rfl) | (unfold catS; exact Nat.le_of_ble_eq_true rfl) | assumption)) only [q_114_0, q_114_1, q_114_2, q_114_3, q_114_5, q_114_6_t, q_114_6_f, q_114_9, q_114_10, q_114_11, q_114_12, q_114_13, q_114_16, q_114_19, q_114_20, aft_i, aft_l, aft_v, Int.toNat_natCast, kd_sI, kd_sL, kd_sR, kd_cp, gI_sL, gI_sR, gL_sI, gL_sR, gR_sI, gR_sL, gL_cp, gR_cp, kd_aI, gL_aI, gR_aI, gI_aI, gI_aIn, sI_aI, gI_sIn, Int.reduceToNat, Int.reduceAdd, Int.reduceSub, Int.reduceMul, Int.reduceNeg, Int.zero_add]
    rw [em]
    exact ih
theorem wPow_ok (d : Nat) (h : mH) (b t : Nat) (hb : b ≤ 10) (ht : t ≤ 7) : callA (d + 1) 114 [Sum.inl (b : Int), Sum.inl (t : Int)] h = some (some (Sum.inl ((b ^ t : Nat) : Int)), h) := by
  have e := wPow_loop d h b t hb ht t 0 (Nat.zero_add _)
  have e : resA (callA d) 114 (4, [Sum.inl (b : Int), Sum.inl (t : Int), Sum.inl 1, Sum.inl 0], [], h) = _ := e
  rw [en_114]
  simp (disch := (first | omega | (simp only [kd_sI, kd_sL, kd_sR, kd_cp, kd_aI]; omega) | (unfold catV; exact rfl) | (unfold catS; exact Nat.le_of_ble_eq_true rfl) | assumption)) only [q_114_0, q_114_1, q_114_2, q_114_3, q_114_5, q_114_6_t, q_114_6_f, q_114_9, q_114_10, q_114_11, q_114_12, q_114_13, q_114_16, q_114_19, q_114_20, aft_i, aft_l, aft_v, Int.toNat_natCast, kd_sI, kd_sL, kd_sR, kd_cp, gI_sL, gI_sR, gL_sI, gL_sR, gR_sI, gR_sL, gL_cp, gR_cp, kd_aI, gL_aI, gR_aI, gI_aI, gI_aIn, sI_aI, gI_sIn, Int.reduceToNat, Int.reduceAdd, Int.reduceSub, Int.reduceMul, Int.reduceNeg, Int.zero_add]
  exact e
theorem wGcd_loop (d : Nat) (h : mH) (x0 x1 : mV) (c1 : catV x1 = 1) : ∀ (k a b : Nat) (c : Int) (x5 : mV), b < 2 ^ k → 0 ≤ c → c + 2 * (k : Int) ≤ 999 → resA (callA d) 115 (7, [x0, x1, Sum.inl (a : Int), Sum.inl (b : Int), Sum.inl c, x5], [], h) = some (some (Sum.inl (Nat.gcd a b : Int)), h)
  | k, a, b, c, x5, hb, h0, hc => by
    by_cases z : b = 0
    · subst z
      rw [Nat.gcd_zero_right]
      rw [show ((0 : Nat) : Int) = 0 from rfl]
      simp (disch := (first | omega | (simp only [kd_sI, kd_sL, kd_sR, kd_cp, kd_aI]; omega) | (unfold catV; exact rfl) | (unfold catS; exact Nat.le_of_ble_eq_true rfl) | assumption)) only [q_115_0, q_115_1, q_115_2, q_115_3, q_115_4, q_115_5, q_115_7, q_115_9, q_115_12_t, q_115_12_f, q_115_15, q_115_16_t, q_115_16_f, q_115_19, q_115_20, q_115_21, q_115_22, q_115_24, q_115_25, q_115_26, q_115_28, q_115_29, q_115_32, q_115_35, q_115_36, aft_i, aft_l, aft_v, Int.toNat_natCast, kd_sI, kd_sL, kd_sR, kd_cp, gI_sL, gI_sR, gL_sI, gL_sR, gR_sI, gR_sL, gL_cp, gR_cp, kd_aI, gL_aI, gR_aI, gI_aI, gI_aIn, sI_aI, gI_sIn, Int.reduceToNat, Int.reduceAdd, Int.reduceSub, Int.reduceMul, Int.reduceNeg, Int.zero_add]
    · have em : (a : Int) % (b : Int) = ((a % b : Nat) : Int) := rfl
      have eg : Nat.gcd a b = Nat.gcd b (a % b) := by rw [Nat.gcd_comm a b, Nat.gcd_rec b a, Nat.gcd_comm]
      have hm : a % b < b := Nat.mod_lt _ (by omega)
      cases k with
      | zero => rw [Nat.pow_zero] at hb; omega
      | succ k =>
        rw [eg]
        generalize hr : a % b = r at em eg hm ⊢
        by_cases y : r = 0
        · subst y
          rw [Nat.gcd_zero_right]
          rw [show ((0 : Nat) : Int) = 0 from rfl] at em
          rw [q_115_7]
          simp (disch := (first | omega | (simp only [kd_sI, kd_sL, kd_sR, kd_cp, kd_aI]; omega) | (unfold catV; exact rfl) | (unfold catS; exact Nat.le_of_ble_eq_true rfl) | assumption)) only [q_115_0, q_115_1, q_115_2, q_115_3, q_115_4, q_115_5, q_115_9, q_115_12_t, q_115_12_f, q_115_15, q_115_16_t, q_115_16_f, q_115_19, q_115_20, q_115_21, q_115_22, q_115_24, q_115_25, q_115_26, q_115_28, q_115_29, q_115_32, q_115_35, q_115_36, aft_i, aft_l, aft_v, Int.toNat_natCast, kd_sI, kd_sL, kd_sR, kd_cp, gI_sL, gI_sR, gL_sI, gL_sR, gR_sI, gR_sL, gL_cp, gR_cp, kd_aI, gL_aI, gR_aI, gI_aI, gI_aIn, sI_aI, gI_sIn, Int.reduceToNat, Int.reduceAdd, Int.reduceSub, Int.reduceMul, Int.reduceNeg, Int.zero_add, em]
          simp (disch := (first | omega | (simp only [kd_sI, kd_sL, kd_sR, kd_cp, kd_aI]; omega) | (unfold catV; exact rfl) | (unfold catS; exact Nat.le_of_ble_eq_true rfl) | assumption)) only [q_115_0, q_115_1, q_115_2, q_115_3, q_115_4, q_115_5, q_115_7, q_115_9, q_115_12_t, q_115_12_f, q_115_15, q_115_16_t, q_115_16_f, q_115_19, q_115_20, q_115_21, q_115_22, q_115_24, q_115_25, q_115_26, q_115_28, q_115_29, q_115_32, q_115_35, q_115_36, aft_i, aft_l, aft_v, Int.toNat_natCast, kd_sI, kd_sL, kd_sR, kd_cp, gI_sL, gI_sR, gL_sI, gL_sR, gR_sI, gR_sL, gL_cp, gR_cp, kd_aI, gL_aI, gR_aI, gI_aI, gI_aIn, sI_aI, gI_sIn, Int.reduceToNat, Int.reduceAdd, Int.reduceSub, Int.reduceMul, Int.reduceNeg, Int.zero_add]
        · have em2 : (b : Int) % (r : Int) = ((b % r : Nat) : Int) := rfl
          have eg2 : Nat.gcd b r = Nat.gcd r (b % r) := by rw [Nat.gcd_comm b r, Nat.gcd_rec r b, Nat.gcd_comm]
          have hm2 : b % r < r := Nat.mod_lt _ (by omega)
          have hd := Nat.div_add_mod b r
          have hq : 1 ≤ b / r := (Nat.one_le_div_iff (by omega)).mpr (by omega)
          have hq2 : r * 1 ≤ r * (b / r) := Nat.mul_le_mul_left r hq
          have h2 : 2 * (b % r) < b := by omega
          rw [Nat.pow_succ] at hb
          have ih := wGcd_loop d h x0 x1 c1 k r (b % r) (c + 1 + 1) (Sum.inl ((b % r : Nat) : Int)) (by omega) (by omega) (by omega)
          rw [eg2, q_115_7]
          simp (disch := (first | omega | (simp only [kd_sI, kd_sL, kd_sR, kd_cp, kd_aI]; omega) | (unfold catV; exact rfl) | (unfold catS; exact Nat.le_of_ble_eq_true rfl) | assumption)) only [q_115_0, q_115_1, q_115_2, q_115_3, q_115_4, q_115_5, q_115_9, q_115_12_t, q_115_12_f, q_115_15, q_115_16_t, q_115_16_f, q_115_19, q_115_20, q_115_21, q_115_22, q_115_24, q_115_25, q_115_26, q_115_28, q_115_29, q_115_32, q_115_35, q_115_36, aft_i, aft_l, aft_v, Int.toNat_natCast, kd_sI, kd_sL, kd_sR, kd_cp, gI_sL, gI_sR, gL_sI, gL_sR, gR_sI, gR_sL, gL_cp, gR_cp, kd_aI, gL_aI, gR_aI, gI_aI, gI_aIn, sI_aI, gI_sIn, Int.reduceToNat, Int.reduceAdd, Int.reduceSub, Int.reduceMul, Int.reduceNeg, Int.zero_add, em]
          rw [q_115_7]
          simp (disch := (first | omega | (simp only [kd_sI, kd_sL, kd_sR, kd_cp, kd_aI]; omega) | (unfold catV; exact rfl) | (unfold catS; exact Nat.le_of_ble_eq_true rfl) | assumption)) only [q_115_0, q_115_1, q_115_2, q_115_3, q_115_4, q_115_5, q_115_9, q_115_12_t, q_115_12_f, q_115_15, q_115_16_t, q_115_16_f, q_115_19, q_115_20, q_115_21, q_115_22, q_115_24, q_115_25, q_115_26, q_115_28, q_115_29, q_115_32, q_115_35, q_115_36, aft_i, aft_l, aft_v, Int.toNat_natCast, kd_sI, kd_sL, kd_sR, kd_cp, gI_sL, gI_sR, gL_sI, gL_sR, gR_sI, gR_sL, gL_cp, gR_cp, kd_aI, gL_aI, gR_aI, gI_aI, gI_aIn, sI_aI, gI_sIn, Int.reduceToNat, Int.reduceAdd, Int.reduceSub, Int.reduceMul, Int.reduceNeg, Int.zero_add, em2]
          exact ih
theorem wGcd_ok (d : Nat) (h : mH) (a b : Nat) (hb : b < 2147483648) : callA (d + 1) 115 [Sum.inl (a : Int), Sum.inl (b : Int)] h = some (some (Sum.inl (Nat.gcd a b : Int)), h) := by
  have e := wGcd_loop d h (Sum.inl (a : Int)) (Sum.inl (b : Int)) rfl 31 a b 0 (Sum.inr (Sum.inr none)) (show b < 2 ^ 31 from hb) (Int.le_refl _) (by decide)
  rw [en_115]
  simp (disch := (first | omega | (simp only [kd_sI, kd_sL, kd_sR, kd_cp, kd_aI]; omega) | (unfold catV; exact rfl) | (unfold catS; exact Nat.le_of_ble_eq_true rfl) | assumption)) only [q_115_0, q_115_1, q_115_2, q_115_3, q_115_4, q_115_5, q_115_9, q_115_12_t, q_115_12_f, q_115_15, q_115_16_t, q_115_16_f, q_115_19, q_115_20, q_115_21, q_115_22, q_115_24, q_115_25, q_115_26, q_115_28, q_115_29, q_115_32, q_115_35, q_115_36, aft_i, aft_l, aft_v, Int.toNat_natCast, kd_sI, kd_sL, kd_sR, kd_cp, gI_sL, gI_sR, gL_sI, gL_sR, gR_sI, gR_sL, gL_cp, gR_cp, kd_aI, gL_aI, gR_aI, gI_aI, gI_aIn, sI_aI, gI_sIn, Int.reduceToNat, Int.reduceAdd, Int.reduceSub, Int.reduceMul, Int.reduceNeg, Int.zero_add]
  exact e
theorem way_is {T : Td} {N : Nt} (wT : wfT T) (w : wfN T N) (x : Nat) {s : Nat} (hs : s < 2 ^ nM N) : wayF N x s = x ^ cntB s 7 * (10 - x) ^ (nM N - cntB s 7) ∧ cntB s 7 ≤ nM N := by
  have n7 : nM N ≤ 7 := Nat.le_trans w.1 wT.1
  have e7 : cntB s 7 = cntB s (nM N) := by
    have := cntB_ext hs (7 - nM N)
    rw [show nM N + (7 - nM N) = 7 by omega] at this
    exact this
  have lp := (odd_perm N s).length_eq
  rw [rowL_len] at lp
  unfold oddL at lp
  rw [List.length_append, trn_cnt] at lp
  unfold wayF
  rw [trn_cnt, e7]
  have ef : (trnR N s false (nM N) 0).length = nM N - cntB s (nM N) := by omega
  rw [ef, Nat.one_mul]
  refine ⟨?_, by omega⟩
  show (10 - x) ^ _ * x ^ _ = _
  exact Nat.mul_comm _ _
theorem wWay_loop (d : Nat) (h : mH) (L : LAY h) (T : Td) (N : Nt) (wT : wfT T) (wN : wfN T N) (q : Cq h T N) (c kk x : Nat) (hc : c < tN T) (hx : x ≤ 10) : ∀ (f s : Nat) (G F : Nat → Int) (x7 x8 : mV), s + f = 2 ^ nM N → ∃ G2 F2, resA (callA (d + 2)) 113 (15, [Sum.inr (Sum.inr (some 0)), Sum.inl (c : Int), Sum.inl (kk : Int), Sum.inl (x : Int), Sum.inr (Sum.inr (some 14)), Sum.inl (upF T N x c kk s : Int), Sum.inl (s : Int), x7, x8], [], aI (aI h 139 G) 140 F) = some (some (Sum.inl (upF T N x c kk (2 ^ nM N) : Int)), aI (aI h 139 G2) 140 F2)
  | 0, s, G, F, x7, x8, hs => by
    have n7 : nM N ≤ 7 := Nat.le_trans wN.1 wT.1
    have sh := shl1 (j := nM N) (by omega)
    have u1 := q.2.1.1
    have e : s = 2 ^ nM N := hs
    subst e
    refine ⟨G, F, ?_⟩
    obtain ⟨k14, j14⟩ := lay_k L (a := 14) (t := 2) (n := 5) rfl
    simp (disch := (first | omega | (simp only [kd_sI, kd_sL, kd_sR, kd_cp, kd_aI]; omega) | (unfold catV; exact rfl) | (unfold catS; exact Nat.le_of_ble_eq_true rfl) | assumption)) only [q_113_0, q_113_1, q_113_4, q_113_7, q_113_9, q_113_10, q_113_12, q_113_13, q_113_15, q_113_17, q_113_18, q_113_20, q_113_23, q_113_24_t, q_113_24_f, q_113_27, q_113_29, q_113_32, q_113_34, q_113_35, q_113_37, q_113_40, q_113_42, q_113_43, q_113_44, q_113_46, q_113_49, q_113_51, q_113_52, q_113_55, q_113_56, q_113_58, q_113_60_t, q_113_60_f, q_113_63, q_113_64, q_113_66, q_113_68, q_113_71, q_113_74, q_113_75, q_113_78, q_113_79, q_113_82, q_113_84, q_113_87, q_113_89, q_113_92, q_113_93, q_113_96, q_113_99, q_113_100, q_113_102, q_113_103, q_113_106, q_113_107, q_113_108, q_113_109_t, q_113_109_f, q_113_112, q_113_114, q_113_117, q_113_118, q_113_119, q_113_121, q_113_124, q_113_127, q_113_129, aft_i, aft_l, aft_v, Int.toNat_natCast, kd_sI, kd_sL, kd_sR, kd_cp, gI_sL, gI_sR, gL_sI, gL_sR, gR_sI, gR_sL, gL_cp, gR_cp, kd_aI, gL_aI, gR_aI, gI_aI, gI_aIn, sI_aI, gI_sIn, Int.reduceToNat, Int.reduceAdd, Int.reduceSub, Int.reduceMul, Int.reduceNeg, Int.zero_add, u1, sh]
  | f + 1, s, G, F, x7, x8, hs => by
    have c7 := wT.1
    have n7 : nM N ≤ 7 := Nat.le_trans wN.1 wT.1
    have sh := shl1 (j := nM N) (by omega)
    have p7 : 2 ^ nM N ≤ 2 ^ 7 := Nat.pow_le_pow_right (by omega) n7
    have p7 : 2 ^ nM N ≤ 128 := p7
    have u1 := q.2.1.1
    obtain ⟨ew, cb⟩ := way_is wT wN x (s := s) (by omega)
    have wb := wayF_b wT wN hx s
    have ub := upF_b wT wN hx c kk s
    have L1 : LAY (aI (aI h 139 G) 140 F) := lay_aI (lay_aI L _ _) _ _
    have e1 := bitC_ok (d + 1) (aI (aI h 139 G) 140 F) s (by omega)
    have e2 := wPow_ok (d + 1) (aI (aI h 139 G) 140 F) x (cntB s 7) hx (by omega)
    have e3 := wPow_ok (d + 1) (aI (aI h 139 G) 140 F) (10 - x) (nM N - cntB s 7) (by omega) (by omega)
    have ex : ((10 - x : Nat) : Int) = 10 - (x : Int) := by omega
    have ey : ((nM N - cntB s 7 : Nat) : Int) = (nM N : Int) - (cntB s 7 : Int) := by omega
    rw [ex, ey] at e3
    have em : ((x ^ cntB s 7 : Nat) : Int) * (((10 - x) ^ (nM N - cntB s 7) : Nat) : Int) = (wayF N x s : Int) := by rw [ew, Int.natCast_mul]
    have hm : -2147483648 ≤ ((x ^ cntB s 7 : Nat) : Int) * (((10 - x) ^ (nM N - cntB s 7) : Nat) : Int) ∧ ((x ^ cntB s 7 : Nat) : Int) * (((10 - x) ^ (nM N - cntB s 7) : Nat) : Int) < 2147483648 := by rw [em]; omega
    have eU : upF T N x c kk (s + 1) = upF T N x c kk s + if fcS T (onR N (oddL N s)) c = kk then wayF N x s else 0 := rfl
    have hlt : ¬ ((2 ^ nM N : Nat) : Int) ≤ (s : Int) := by omega
    by_cases z : wayF N x s = 0
    · obtain ⟨G2, F2, ih⟩ := wWay_loop d h L T N wT wN q c kk x hc hx f (s + 1) G F (Sum.inl (cntB s 7 : Int)) (Sum.inl (wayF N x s : Int)) (by omega)
      refine ⟨G2, F2, ?_⟩
      have eU0 : upF T N x c kk (s + 1) = upF T N x c kk s := by rw [eU, z]; split <;> rfl
      rw [eU0] at ih
      have z2 : ¬ 0 < (wayF N x s : Int) := by omega
      rw [← ih]
      obtain ⟨k14, j14⟩ := lay_k L (a := 14) (t := 2) (n := 5) rfl
      rw [q_113_15]
      generalize ((x ^ cntB s 7 : Nat) : Int) = A at e2 em hm
      generalize (((10 - x) ^ (nM N - cntB s 7) : Nat) : Int) = B at e3 em hm
      simp (disch := (first | omega | (simp only [kd_sI, kd_sL, kd_sR, kd_cp, kd_aI]; omega) | (unfold catV; exact rfl) | (unfold catS; exact Nat.le_of_ble_eq_true rfl) | assumption)) only [q_113_0, q_113_1, q_113_4, q_113_7, q_113_9, q_113_10, q_113_12, q_113_13, q_113_17, q_113_18, q_113_20, q_113_23, q_113_24_t, q_113_24_f, q_113_27, q_113_29, q_113_32, q_113_34, q_113_35, q_113_37, q_113_40, q_113_42, q_113_43, q_113_44, q_113_46, q_113_49, q_113_51, q_113_52, q_113_55, q_113_56, q_113_58, q_113_60_t, q_113_60_f, q_113_63, q_113_64, q_113_66, q_113_68, q_113_71, q_113_74, q_113_75, q_113_78, q_113_79, q_113_82, q_113_84, q_113_87, q_113_89, q_113_92, q_113_93, q_113_96, q_113_99, q_113_100, q_113_102, q_113_103, q_113_106, q_113_107, q_113_108, q_113_109_t, q_113_109_f, q_113_112, q_113_114, q_113_117, q_113_118, q_113_119, q_113_121, q_113_124, q_113_127, q_113_129, aft_i, aft_l, aft_v, Int.toNat_natCast, kd_sI, kd_sL, kd_sR, kd_cp, gI_sL, gI_sR, gL_sI, gL_sR, gR_sI, gR_sL, gL_cp, gR_cp, kd_aI, gL_aI, gR_aI, gI_aI, gI_aIn, sI_aI, gI_sIn, Int.reduceToNat, Int.reduceAdd, Int.reduceSub, Int.reduceMul, Int.reduceNeg, Int.zero_add, u1, sh, e1, e2, e3, em]
      rfl
    · have wp : 0 < (wayF N x s : Int) := by omega
      have u2 : ∀ i, i < nM N → gI (aI (aI h 139 G) 140 F) 15 i = nR N i := fun i hi => by rw [gI_aIn (by omega), gI_aIn (by omega)]; exact q.2.1.2.2.2.1 i hi
      have u1b : gI (aI (aI h 139 G) 140 F) 14 2 = nM N := by rw [gI_aIn (by omega), gI_aIn (by omega)]; exact u1
      have e4 := wCat_ok (d + 1) (aI (aI h 139 G) 140 F) L1 T N wT wN u1b u2 s (by omega)
      obtain ⟨G1, e5, r5⟩ := wPart_ok (d + 1) (aI (aI h 139 G) 140 F) L1 T N wT wN u1b u2 (cAt N s (nM N)) (cAt_b wT wN s (Nat.le_refl _))
      rw [prt_odd wN] at r5
      have nd : (oddL N s).Nodup := (odd_perm N s).nodup_iff.mpr (rowL_nd wN)
      have lb : ∀ c, c ∈ oddL N s → c < tN T := fun c hc => rowL_lt wN ((odd_perm N s).mem_iff.mp hc)
      have lp := (odd_perm N s).length_eq
      rw [rowL_len] at lp
      have wO := onR_wf wN nd lb
      have cm : aI (aI (aI h 139 G) 140 F) 139 G1 = aI (aI h 139 G1) 140 F := by
        refine mH_ext rfl (fun q k => ?_) (fun _ _ => rfl) (fun _ _ => rfl)
        by_cases y1 : q = 139
        · subst y1; rw [gI_aI, gI_aIn (by omega), gI_aI]
        · rw [gI_aIn y1]
          by_cases y2 : q = 140
          · subst y2; rw [gI_aI, gI_aI]
          · rw [gI_aIn y2, gI_aIn y1, gI_aIn y2, gI_aIn y1]
      rw [cm] at e5
      have L2 : LAY (aI (aI h 139 G1) 140 F) := lay_aI (lay_aI L _ _) _ _
      obtain ⟨m1, m2⟩ := lay_k L2 (a := 139) (t := 100) (n := 7) rfl
      obtain ⟨m3, m4⟩ := lay_k L2 (a := 140) (t := 100) (n := 7) rfl
      obtain ⟨F1, hF, e6⟩ := wSetUp_ok d (aI (aI h 139 G1) 140 F) L2 T (onR N (oddL N s)) wT wO ⟨by rw [gI_aIn (by omega), gI_aIn (by omega)]; exact q.2.2.2.2.1, fun w k x1 x2 x3 => by rw [gI_aIn (by omega), gI_aIn (by omega)]; exact q.2.2.2.2.2 w k x1 x2 x3⟩ (fun c hc => by rw [gI_aIn (by omega), gI_aIn (by omega)]; exact q.2.1.2.2.2.2 c hc) 139 140 m1 m2 m3 m4 (by omega) (by omega) (by omega) (fun i hi => by
        have hi : i < (oddL N s).length := hi
        rw [gI_aIn (by omega), gI_aI]
        have := r5 i hi
        rw [Nat.zero_add] at this
        show G1 i = (ofL (oddL N s) i : Int)
        rw [ofL_at hi, ← this])
      have nO : nM (onR N (oddL N s)) = nM N := lp
      rw [nO, aI_aI] at e6
      have fc := hF c (by omega)
      obtain ⟨G2, F2, ih⟩ := wWay_loop d h L T N wT wN q c kk x hc hx f (s + 1) G1 F1 (Sum.inl (cntB s 7 : Int)) (Sum.inl (wayF N x s : Int)) (by omega)
      refine ⟨G2, F2, ?_⟩
      rw [eU] at ih
      rw [← ih]
      have g14 : gI (aI (aI h 139 G1) 140 F) 14 2 = nM N := by rw [gI_aIn (by omega), gI_aIn (by omega)]; exact u1
      obtain ⟨k0, j0⟩ := lay_k L (a := 0) (t := 7) (n := 17) rfl; obtain ⟨k14, j14⟩ := lay_k L (a := 14) (t := 2) (n := 5) rfl; obtain ⟨k119, j119⟩ := lay_k L (a := 119) (t := 3) (n := 2) rfl; obtain ⟨k139, j139⟩ := lay_k L (a := 139) (t := 100) (n := 7) rfl; obtain ⟨k140, j140⟩ := lay_k L (a := 140) (t := 100) (n := 7) rfl; have r0_5 : gR h 0 5 = some 119 := lay_r L rfl; have r0_15 : gR h 0 15 = some 139 := lay_r L rfl; have r0_16 : gR h 0 16 = some 140 := lay_r L rfl; have r14_1 : gR h 14 1 = some 16 := lay_r L rfl
      rw [q_113_15]
      generalize ((x ^ cntB s 7 : Nat) : Int) = A at e2 em hm
      generalize (((10 - x) ^ (nM N - cntB s 7) : Nat) : Int) = B at e3 em hm
      by_cases y : fcS T (onR N (oddL N s)) c = kk
      · rw [if_pos y]
        rw [y] at fc
        simp (disch := (first | omega | (simp only [kd_sI, kd_sL, kd_sR, kd_cp, kd_aI]; omega) | (unfold catV; exact rfl) | (unfold catS; exact Nat.le_of_ble_eq_true rfl) | assumption)) only [q_113_0, q_113_1, q_113_4, q_113_7, q_113_9, q_113_10, q_113_12, q_113_13, q_113_17, q_113_18, q_113_20, q_113_23, q_113_24_t, q_113_24_f, q_113_27, q_113_29, q_113_32, q_113_34, q_113_35, q_113_37, q_113_40, q_113_42, q_113_43, q_113_44, q_113_46, q_113_49, q_113_51, q_113_52, q_113_55, q_113_56, q_113_58, q_113_60_t, q_113_60_f, q_113_63, q_113_64, q_113_66, q_113_68, q_113_71, q_113_74, q_113_75, q_113_78, q_113_79, q_113_82, q_113_84, q_113_87, q_113_89, q_113_92, q_113_93, q_113_96, q_113_99, q_113_100, q_113_102, q_113_103, q_113_106, q_113_107, q_113_108, q_113_109_t, q_113_109_f, q_113_112, q_113_114, q_113_117, q_113_118, q_113_119, q_113_121, q_113_124, q_113_127, q_113_129, aft_i, aft_l, aft_v, Int.toNat_natCast, kd_sI, kd_sL, kd_sR, kd_cp, gI_sL, gI_sR, gL_sI, gL_sR, gR_sI, gR_sL, gL_cp, gR_cp, kd_aI, gL_aI, gR_aI, gI_aI, gI_aIn, sI_aI, gI_sIn, Int.reduceToNat, Int.reduceAdd, Int.reduceSub, Int.reduceMul, Int.reduceNeg, Int.zero_add, u1, sh, e1, e2, e3, em, e4, e5, r0_5, r0_15, r0_16, r14_1, g14, e6, fc]
        rfl
      · rw [if_neg y]
        simp (disch := (first | omega | (simp only [kd_sI, kd_sL, kd_sR, kd_cp, kd_aI]; omega) | (unfold catV; exact rfl) | (unfold catS; exact Nat.le_of_ble_eq_true rfl) | assumption)) only [q_113_0, q_113_1, q_113_4, q_113_7, q_113_9, q_113_10, q_113_12, q_113_13, q_113_17, q_113_18, q_113_20, q_113_23, q_113_24_t, q_113_24_f, q_113_27, q_113_29, q_113_32, q_113_34, q_113_35, q_113_37, q_113_40, q_113_42, q_113_43, q_113_44, q_113_46, q_113_49, q_113_51, q_113_52, q_113_55, q_113_56, q_113_58, q_113_60_t, q_113_60_f, q_113_63, q_113_64, q_113_66, q_113_68, q_113_71, q_113_74, q_113_75, q_113_78, q_113_79, q_113_82, q_113_84, q_113_87, q_113_89, q_113_92, q_113_93, q_113_96, q_113_99, q_113_100, q_113_102, q_113_103, q_113_106, q_113_107, q_113_108, q_113_109_t, q_113_109_f, q_113_112, q_113_114, q_113_117, q_113_118, q_113_119, q_113_121, q_113_124, q_113_127, q_113_129, aft_i, aft_l, aft_v, Int.toNat_natCast, kd_sI, kd_sL, kd_sR, kd_cp, gI_sL, gI_sR, gL_sI, gL_sR, gR_sI, gR_sL, gL_cp, gR_cp, kd_aI, gL_aI, gR_aI, gI_aI, gI_aIn, sI_aI, gI_sIn, Int.reduceToNat, Int.reduceAdd, Int.reduceSub, Int.reduceMul, Int.reduceNeg, Int.zero_add, u1, sh, e1, e2, e3, em, e4, e5, r0_5, r0_15, r0_16, r14_1, g14, e6, fc]
        rfl
theorem cOdds_ok (d : Nat) (h : mH) (L : LAY h) (σ : Sg) (w : wfS σ) (c : CI h σ) (a k x what : Int) : cOK (d + 4) 86 [Sum.inl a, Sum.inl k, Sum.inl x, Sum.inl what] h (Sum.inl (oddS (zT σ) (zN σ) a k x what)) σ := by
  have L0 := L
  have wT := w.1
  have c7 := wT.1
  have k4 := wT.2.1
  have wN := w.2.1.1
  have n7 : nM (zN σ) ≤ 7 := Nat.le_trans wN.1 wT.1
  have q := CI_q c
  have ec := wCart_ok (d + 2) h L (zT σ) q.1 a
  have ek := wCell_ok (d + 2) h L (zT σ) q.1 k
  have ef := wFlag_ok (d + 2) h what
  unfold oddS
  by_cases hc : 0 ≤ a ∧ a < tN (zT σ)
  · rw [if_pos hc] at ec
    by_cases hk : 0 ≤ k ∧ k < tK (zT σ)
    · rw [if_pos hk] at ek
      by_cases hx : 0 ≤ x ∧ x ≤ 10
      · by_cases hw : what = 0 ∨ what = 1
        · rw [if_pos hw] at ef
          rw [if_pos ⟨⟨hc, hk⟩, hx, by omega⟩]
          obtain ⟨a, rfl⟩ := Int.eq_ofNat_of_zero_le hc.1
          obtain ⟨k, rfl⟩ := Int.eq_ofNat_of_zero_le hk.1
          obtain ⟨x, rfl⟩ := Int.eq_ofNat_of_zero_le hx.1
          rw [Int.toNat_natCast, Int.toNat_natCast, Int.toNat_natCast]
          obtain ⟨G, F, el⟩ := wWay_loop d h L (zT σ) (zN σ) wT wN q a k x (by omega) (by omega) (2 ^ nM (zN σ)) 0 (gI h 139) (gI h 140) (Sum.inr (Sum.inr none)) (Sum.inr (Sum.inr none)) (Nat.zero_add _)
          rw [aI_id, aI_id] at el
          have el : resA (callA (d + 2)) 113 (15, [Sum.inr (Sum.inr (some 0)), Sum.inl (a : Int), Sum.inl (k : Int), Sum.inl (x : Int), Sum.inr (Sum.inr (some 14)), Sum.inl 0, Sum.inl 0, Sum.inr (Sum.inr none), Sum.inr (Sum.inr none)], [], h) = _ := el
          have u1 := q.2.1.1
          have e1 : callA (d + 3) 113 [Sum.inr (Sum.inr (some 0)), Sum.inl (a : Int), Sum.inl (k : Int), Sum.inl (x : Int)] h = some (some (Sum.inl (upF (zT σ) (zN σ) x a k (2 ^ nM (zN σ)) : Int)), aI (aI h 139 G) 140 F) := by
            obtain ⟨k0, j0⟩ := lay_k L0 (a := 0) (t := 7) (n := 17) rfl; obtain ⟨k13, j13⟩ := lay_k L0 (a := 13) (t := 4) (n := 4) rfl; obtain ⟨k14, j14⟩ := lay_k L0 (a := 14) (t := 2) (n := 5) rfl; have r0_3 : gR h 0 3 = some 13 := lay_r L0 rfl; have r13_0 : gR h 13 0 = some 14 := lay_r L0 rfl
            rw [en_113]
            simp (disch := (first | omega | (simp only [kd_sI, kd_sL, kd_sR, kd_cp, kd_aI]; omega) | (unfold catV; exact rfl) | (unfold catS; exact Nat.le_of_ble_eq_true rfl) | assumption)) only [q_113_0, q_113_1, q_113_4, q_113_7, q_113_9, q_113_10, q_113_12, q_113_13, q_113_17, q_113_18, q_113_20, q_113_23, q_113_24_t, q_113_24_f, q_113_27, q_113_29, q_113_32, q_113_34, q_113_35, q_113_37, q_113_40, q_113_42, q_113_43, q_113_44, q_113_46, q_113_49, q_113_51, q_113_52, q_113_55, q_113_56, q_113_58, q_113_60_t, q_113_60_f, q_113_63, q_113_64, q_113_66, q_113_68, q_113_71, q_113_74, q_113_75, q_113_78, q_113_79, q_113_82, q_113_84, q_113_87, q_113_89, q_113_92, q_113_93, q_113_96, q_113_99, q_113_100, q_113_102, q_113_103, q_113_106, q_113_107, q_113_108, q_113_109_t, q_113_109_f, q_113_112, q_113_114, q_113_117, q_113_118, q_113_119, q_113_121, q_113_124, q_113_127, q_113_129, aft_i, aft_l, aft_v, Int.toNat_natCast, kd_sI, kd_sL, kd_sR, kd_cp, gI_sL, gI_sR, gL_sI, gL_sR, gR_sI, gR_sL, gL_cp, gR_cp, kd_aI, gL_aI, gR_aI, gI_aI, gI_aIn, sI_aI, gI_sIn, Int.reduceToNat, Int.reduceAdd, Int.reduceSub, Int.reduceMul, Int.reduceNeg, Int.zero_add, r0_3, r13_0]
            exact el
          have e2 := wPow_ok (d + 2) (aI (aI h 139 G) 140 F) 10 (nM (zN σ)) (Nat.le_refl _) n7
          have e2 : callA (d + 3) 114 [Sum.inl 10, Sum.inl (nM (zN σ) : Int)] (aI (aI h 139 G) 140 F) = some (some (Sum.inl ((10 ^ nM (zN σ) : Nat) : Int)), aI (aI h 139 G) 140 F) := e2
          have e3 := wGcd_ok (d + 2) (aI (aI h 139 G) 140 F) (upF (zT σ) (zN σ) x a k (2 ^ nM (zN σ))) (10 ^ nM (zN σ)) (by have := p10 n7; omega)
          have gp : 0 < Nat.gcd (upF (zT σ) (zN σ) x a k (2 ^ nM (zN σ))) (10 ^ nM (zN σ)) := Nat.gcd_pos_of_pos_right _ (Nat.pow_pos (by omega))
          have qq : qt h (aI (aI h 139 G) 140 F) := qt_tr (qt_a (fun k => by unfold qtc; omega)) (qt_a (fun k => by unfold qtc; omega))
          obtain ⟨c0, cc, bk⟩ := c
          refine ⟨aI (aI h 139 G) 140 F, ?_, qt_frm qq, lay_aI (lay_aI L0 _ _) _ _, qt_CI0 qq c0, ?_, ?_⟩
          · have g14 : gI (aI (aI h 139 G) 140 F) 14 2 = nM (zN σ) := by rw [gI_aIn (by omega), gI_aIn (by omega)]; exact u1
            have gp2 : 0 < (Nat.gcd (upF (zT σ) (zN σ) x a k (2 ^ nM (zN σ))) (10 ^ nM (zN σ)) : Int) := by omega
            obtain ⟨k0, j0⟩ := lay_k L0 (a := 0) (t := 7) (n := 17) rfl; obtain ⟨k13, j13⟩ := lay_k L0 (a := 13) (t := 4) (n := 4) rfl; obtain ⟨k14, j14⟩ := lay_k L0 (a := 14) (t := 2) (n := 5) rfl; have r0_3 : gR h 0 3 = some 13 := lay_r L0 rfl; have r13_0 : gR h 13 0 = some 14 := lay_r L0 rfl
            rw [en_86]
            generalize upF (zT σ) (zN σ) x a k (2 ^ nM (zN σ)) = A at e1 e3 gp gp2 ⊢
            generalize 10 ^ nM (zN σ) = B at e2 e3 gp gp2 ⊢
            rcases hw with f | f
            · subst f
              rw [if_pos rfl]
              simp (disch := (first | omega | (simp only [kd_sI, kd_sL, kd_sR, kd_cp, kd_aI]; omega) | (unfold catV; exact rfl) | (unfold catS; exact Nat.le_of_ble_eq_true rfl) | assumption)) only [q_86_0, q_86_1, q_86_2, q_86_5_t, q_86_5_f, q_86_8, q_86_9, q_86_10, q_86_13_t, q_86_13_f, q_86_16, q_86_17_t, q_86_17_f, q_86_20, q_86_21, q_86_23_t, q_86_23_f, q_86_26, q_86_28, q_86_31_t, q_86_31_f, q_86_34, q_86_35, q_86_36, q_86_37, q_86_38, q_86_39, q_86_40, q_86_43, q_86_45, q_86_47, q_86_48, q_86_51, q_86_54, q_86_57, q_86_60, q_86_62, q_86_64, q_86_66, q_86_69, q_86_71, q_86_73, q_86_74_t, q_86_74_f, q_86_77, q_86_78, q_86_79, q_86_81_t, q_86_81_f, q_86_84, q_86_86, q_86_89, q_86_91, q_86_93, q_86_94, aft_i, aft_l, aft_v, Int.toNat_natCast, kd_sI, kd_sL, kd_sR, kd_cp, gI_sL, gI_sR, gL_sI, gL_sR, gR_sI, gR_sL, gL_cp, gR_cp, kd_aI, gL_aI, gR_aI, gI_aI, gI_aIn, sI_aI, gI_sIn, Int.reduceToNat, Int.reduceAdd, Int.reduceSub, Int.reduceMul, Int.reduceNeg, Int.zero_add, ec, ek, ef, e1, r0_3, r13_0, g14, e2, e3]
              rfl
            · subst f
              rw [if_neg (by omega)]
              simp (disch := (first | omega | (simp only [kd_sI, kd_sL, kd_sR, kd_cp, kd_aI]; omega) | (unfold catV; exact rfl) | (unfold catS; exact Nat.le_of_ble_eq_true rfl) | assumption)) only [q_86_0, q_86_1, q_86_2, q_86_5_t, q_86_5_f, q_86_8, q_86_9, q_86_10, q_86_13_t, q_86_13_f, q_86_16, q_86_17_t, q_86_17_f, q_86_20, q_86_21, q_86_23_t, q_86_23_f, q_86_26, q_86_28, q_86_31_t, q_86_31_f, q_86_34, q_86_35, q_86_36, q_86_37, q_86_38, q_86_39, q_86_40, q_86_43, q_86_45, q_86_47, q_86_48, q_86_51, q_86_54, q_86_57, q_86_60, q_86_62, q_86_64, q_86_66, q_86_69, q_86_71, q_86_73, q_86_74_t, q_86_74_f, q_86_77, q_86_78, q_86_79, q_86_81_t, q_86_81_f, q_86_84, q_86_86, q_86_89, q_86_91, q_86_93, q_86_94, aft_i, aft_l, aft_v, Int.toNat_natCast, kd_sI, kd_sL, kd_sR, kd_cp, gI_sL, gI_sR, gL_sI, gL_sR, gR_sI, gR_sL, gL_cp, gR_cp, kd_aI, gL_aI, gR_aI, gI_aI, gI_aIn, sI_aI, gI_sIn, Int.reduceToNat, Int.reduceAdd, Int.reduceSub, Int.reduceMul, Int.reduceNeg, Int.zero_add, ec, ek, ef, e1, r0_3, r13_0, g14, e2, e3]
              rfl
          · obtain ⟨b1, b2, b3, b4⟩ := cc
            refine ⟨fun k hk => ?_, ?_, ?_, fun w k x y f => ?_⟩
            · rw [gI_aIn (by omega), gI_aIn (by omega)]; exact b1 k hk
            · rw [gI_aIn (by omega), gI_aIn (by omega)]; exact b2
            · rw [gI_aIn (by omega), gI_aIn (by omega)]; exact b3
            · rw [gI_aIn (by omega), gI_aIn (by omega)]; exact b4 w k x y f
          · unfold bKn at bk ⊢
            rw [gI_aIn (by omega), gI_aIn (by omega), gI_aIn (by omega), gI_aIn (by omega), gI_aIn (by omega), gI_aIn (by omega)]
            exact bk
        · rw [if_neg hw] at ef
          rw [if_neg (fun y => hw (by omega))]
          refine cOK_s L c ?_
          obtain ⟨k0, j0⟩ := lay_k L0 (a := 0) (t := 7) (n := 17) rfl
          rw [en_86]
          simp (disch := (first | omega | (simp only [kd_sI, kd_sL, kd_sR, kd_cp, kd_aI]; omega) | (unfold catV; exact rfl) | (unfold catS; exact Nat.le_of_ble_eq_true rfl) | assumption)) only [q_86_0, q_86_1, q_86_2, q_86_5_t, q_86_5_f, q_86_8, q_86_9, q_86_10, q_86_13_t, q_86_13_f, q_86_16, q_86_17_t, q_86_17_f, q_86_20, q_86_21, q_86_23_t, q_86_23_f, q_86_26, q_86_28, q_86_31_t, q_86_31_f, q_86_34, q_86_35, q_86_36, q_86_37, q_86_38, q_86_39, q_86_40, q_86_43, q_86_45, q_86_47, q_86_48, q_86_51, q_86_54, q_86_57, q_86_60, q_86_62, q_86_64, q_86_66, q_86_69, q_86_71, q_86_73, q_86_74_t, q_86_74_f, q_86_77, q_86_78, q_86_79, q_86_81_t, q_86_81_f, q_86_84, q_86_86, q_86_89, q_86_91, q_86_93, q_86_94, aft_i, aft_l, aft_v, Int.toNat_natCast, kd_sI, kd_sL, kd_sR, kd_cp, gI_sL, gI_sR, gL_sI, gL_sR, gR_sI, gR_sL, gL_cp, gR_cp, kd_aI, gL_aI, gR_aI, gI_aI, gI_aIn, sI_aI, gI_sIn, Int.reduceToNat, Int.reduceAdd, Int.reduceSub, Int.reduceMul, Int.reduceNeg, Int.zero_add, ec, ek, ef]
      · rw [if_neg (fun y => hx y.2.1)]
        refine cOK_s L c ?_
        obtain ⟨k0, j0⟩ := lay_k L0 (a := 0) (t := 7) (n := 17) rfl
        rw [en_86]
        by_cases y : x < 0
        · simp (disch := (first | omega | (simp only [kd_sI, kd_sL, kd_sR, kd_cp, kd_aI]; omega) | (unfold catV; exact rfl) | (unfold catS; exact Nat.le_of_ble_eq_true rfl) | assumption)) only [q_86_0, q_86_1, q_86_2, q_86_5_t, q_86_5_f, q_86_8, q_86_9, q_86_10, q_86_13_t, q_86_13_f, q_86_16, q_86_17_t, q_86_17_f, q_86_20, q_86_21, q_86_23_t, q_86_23_f, q_86_26, q_86_28, q_86_31_t, q_86_31_f, q_86_34, q_86_35, q_86_36, q_86_37, q_86_38, q_86_39, q_86_40, q_86_43, q_86_45, q_86_47, q_86_48, q_86_51, q_86_54, q_86_57, q_86_60, q_86_62, q_86_64, q_86_66, q_86_69, q_86_71, q_86_73, q_86_74_t, q_86_74_f, q_86_77, q_86_78, q_86_79, q_86_81_t, q_86_81_f, q_86_84, q_86_86, q_86_89, q_86_91, q_86_93, q_86_94, aft_i, aft_l, aft_v, Int.toNat_natCast, kd_sI, kd_sL, kd_sR, kd_cp, gI_sL, gI_sR, gL_sI, gL_sR, gR_sI, gR_sL, gL_cp, gR_cp, kd_aI, gL_aI, gR_aI, gI_aI, gI_aIn, sI_aI, gI_sIn, Int.reduceToNat, Int.reduceAdd, Int.reduceSub, Int.reduceMul, Int.reduceNeg, Int.zero_add, ec, ek]
        · simp (disch := (first | omega | (simp only [kd_sI, kd_sL, kd_sR, kd_cp, kd_aI]; omega) | (unfold catV; exact rfl) | (unfold catS; exact Nat.le_of_ble_eq_true rfl) | assumption)) only [q_86_0, q_86_1, q_86_2, q_86_5_t, q_86_5_f, q_86_8, q_86_9, q_86_10, q_86_13_t, q_86_13_f, q_86_16, q_86_17_t, q_86_17_f, q_86_20, q_86_21, q_86_23_t, q_86_23_f, q_86_26, q_86_28, q_86_31_t, q_86_31_f, q_86_34, q_86_35, q_86_36, q_86_37, q_86_38, q_86_39, q_86_40, q_86_43, q_86_45, q_86_47, q_86_48, q_86_51, q_86_54, q_86_57, q_86_60, q_86_62, q_86_64, q_86_66, q_86_69, q_86_71, q_86_73, q_86_74_t, q_86_74_f, q_86_77, q_86_78, q_86_79, q_86_81_t, q_86_81_f, q_86_84, q_86_86, q_86_89, q_86_91, q_86_93, q_86_94, aft_i, aft_l, aft_v, Int.toNat_natCast, kd_sI, kd_sL, kd_sR, kd_cp, gI_sL, gI_sR, gL_sI, gL_sR, gR_sI, gR_sL, gL_cp, gR_cp, kd_aI, gL_aI, gR_aI, gI_aI, gI_aIn, sI_aI, gI_sIn, Int.reduceToNat, Int.reduceAdd, Int.reduceSub, Int.reduceMul, Int.reduceNeg, Int.zero_add, ec, ek]
    · rw [if_neg hk] at ek
      rw [if_neg (fun y => hk y.1.2)]
      refine cOK_s L c ?_
      obtain ⟨k0, j0⟩ := lay_k L0 (a := 0) (t := 7) (n := 17) rfl
      rw [en_86]
      simp (disch := (first | omega | (simp only [kd_sI, kd_sL, kd_sR, kd_cp, kd_aI]; omega) | (unfold catV; exact rfl) | (unfold catS; exact Nat.le_of_ble_eq_true rfl) | assumption)) only [q_86_0, q_86_1, q_86_2, q_86_5_t, q_86_5_f, q_86_8, q_86_9, q_86_10, q_86_13_t, q_86_13_f, q_86_16, q_86_17_t, q_86_17_f, q_86_20, q_86_21, q_86_23_t, q_86_23_f, q_86_26, q_86_28, q_86_31_t, q_86_31_f, q_86_34, q_86_35, q_86_36, q_86_37, q_86_38, q_86_39, q_86_40, q_86_43, q_86_45, q_86_47, q_86_48, q_86_51, q_86_54, q_86_57, q_86_60, q_86_62, q_86_64, q_86_66, q_86_69, q_86_71, q_86_73, q_86_74_t, q_86_74_f, q_86_77, q_86_78, q_86_79, q_86_81_t, q_86_81_f, q_86_84, q_86_86, q_86_89, q_86_91, q_86_93, q_86_94, aft_i, aft_l, aft_v, Int.toNat_natCast, kd_sI, kd_sL, kd_sR, kd_cp, gI_sL, gI_sR, gL_sI, gL_sR, gR_sI, gR_sL, gL_cp, gR_cp, kd_aI, gL_aI, gR_aI, gI_aI, gI_aIn, sI_aI, gI_sIn, Int.reduceToNat, Int.reduceAdd, Int.reduceSub, Int.reduceMul, Int.reduceNeg, Int.zero_add, ec, ek]
  · rw [if_neg hc] at ec
    rw [if_neg (fun y => hc y.1.1)]
    refine cOK_s L c ?_
    obtain ⟨k0, j0⟩ := lay_k L0 (a := 0) (t := 7) (n := 17) rfl
    rw [en_86]
    simp (disch := (first | omega | (simp only [kd_sI, kd_sL, kd_sR, kd_cp, kd_aI]; omega) | (unfold catV; exact rfl) | (unfold catS; exact Nat.le_of_ble_eq_true rfl) | assumption)) only [q_86_0, q_86_1, q_86_2, q_86_5_t, q_86_5_f, q_86_8, q_86_9, q_86_10, q_86_13_t, q_86_13_f, q_86_16, q_86_17_t, q_86_17_f, q_86_20, q_86_21, q_86_23_t, q_86_23_f, q_86_26, q_86_28, q_86_31_t, q_86_31_f, q_86_34, q_86_35, q_86_36, q_86_37, q_86_38, q_86_39, q_86_40, q_86_43, q_86_45, q_86_47, q_86_48, q_86_51, q_86_54, q_86_57, q_86_60, q_86_62, q_86_64, q_86_66, q_86_69, q_86_71, q_86_73, q_86_74_t, q_86_74_f, q_86_77, q_86_78, q_86_79, q_86_81_t, q_86_81_f, q_86_84, q_86_86, q_86_89, q_86_91, q_86_93, q_86_94, aft_i, aft_l, aft_v, Int.toNat_natCast, kd_sI, kd_sL, kd_sR, kd_cp, gI_sL, gI_sR, gL_sI, gL_sR, gR_sI, gR_sL, gL_cp, gR_cp, kd_aI, gL_aI, gR_aI, gI_aI, gI_aIn, sI_aI, gI_sIn, Int.reduceToNat, Int.reduceAdd, Int.reduceSub, Int.reduceMul, Int.reduceNeg, Int.zero_add, ec]
