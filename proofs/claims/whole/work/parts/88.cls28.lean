theorem fl_all : ∀ a : Nat, a < 8 → ((a ||| 1) &&& 1 = 1 ∧ (a ||| 1) &&& 2 = a &&& 2) ∧ ((a ||| 2) &&& 2 = 2 ∧ (a ||| 2) &&& 1 = a &&& 1) ∧ (a ||| 4) &&& 1 = a &&& 1 ∧ (a ||| 4) &&& 2 = a &&& 2 := by decide
theorem wItD_ok (d : Nat) (h : mH) (L : LAY h) (X : List Int) (p : Nat) (D : Dr) (s : Cst h X p D) (w : wfD D) (f0 : dF D &&& 1 = 0) : ∃ g, callA (d + 5) 42 [Sum.inr (Sum.inr (some 1)), Sum.inr (Sum.inr (some 8))] h = some (some (Sum.inl (rB (full X (itmD X p D)))), g) ∧ CRs h g X (full X (itmD X p D)) := by
  have L0 := L
  obtain ⟨t, hp, hl, m⟩ := s
  have m7 := m.2.2.2.2.2.2.1
  rw [if_pos f0] at m7
  have m7 : gI h 1 6 = 0 := m7
  obtain ⟨g1, e1, s1, c1⟩ := wNum_ok d h L X t p hp hl 1 10 9 rfl
  have e1 : callA (d + 4) 46 [Sum.inr (Sum.inr (some 1)), Sum.inl 1, Sum.inl 9] h = some (some (Sum.inl (if numB (tk X p) 1 10 = true then 1 else 0)), g1) := e1
  have L1 := cst_L s1 L
  have tb := (tk_b t.2.2.2 hl).2.2.2.2.1
  obtain ⟨a1, a2⟩ := lay_k L1 (a := 1) (t := 5) (n := 8) rfl
  obtain ⟨a3, a4⟩ := lay_k L1 (a := 8) (t := 6) (n := 8) rfl
  unfold itmD
  by_cases b1 : numB (tk X p) 1 10 = true
  · rw [if_pos b1] at e1 ⊢
    have v1 := c1.2.2.2.1 (numB_v b1).1
    have v2 : gI (sI g1 1 6 1) 1 5 = kv (tk X p) := by rw [gI_sIo (by omega)]; exact v1
    obtain ⟨m1, m2, m3, m4, m5, m6, m7', m8⟩ := cst_dC s1 m
    have fl := (fl_all (dF D) w.2.2.1).1
    have cp3 : cpF' h (sI (sI g1 1 6 1) 8 6 (kv (tk X p))) := cpF_tr (cst_cp s1) (cpF_tr (cpF_s (by omega)) (cpF_s (by omega)))
    have L3 := cpF_L cp3 L
    have d3 : dC (sI (sI g1 1 6 1) 8 6 (kv (tk X p))) (dApart D (kv (tk X p))) := by
      refine ⟨?_, ?_, ?_, ?_, fun c hc => ?_, fun k hk => ?_, ?_, ?_⟩
      · rw [gI_sIo (by omega), gI_sIn (by omega)]; exact m1
      · rw [gI_sIo (by omega), gI_sIn (by omega)]; exact m2
      · rw [gI_sIs]; rfl
      · rw [gI_sIo (by omega), gI_sIn (by omega)]; exact m4
      · rw [gI_sIn (by omega), gI_sIn (by omega), gI_sIn (by omega), gI_sIn (by omega), gI_sIn (by omega), gI_sIn (by omega)]; exact m5 c hc
      · rw [gI_sIn (by omega), gI_sIn (by omega)]; exact m6 k hk
      · rw [gI_sIn (by omega), gI_sIs]
        show (1 : Int) = if (dF D ||| 1) &&& 1 = 0 then 0 else 1
        rw [fl.1, if_neg (by omega)]
      · rw [gI_sIn (by omega), gI_sIo (by omega)]
        show _ = if (dF D ||| 1) &&& 2 = 0 then (0 : Int) else 1
        rw [fl.2]; exact m8
    obtain ⟨g4, e4, r4⟩ := wEnd d h _ L3 X (cpF_tx cp3 t) (kn (tk X p)) (by rw [gI_sIn (by omega), gI_sIo (by omega)]; exact c1.1) tb cp3 _ d3
    refine ⟨g4, ?_, r4⟩
    show _ = some (some (Sum.inl (rB (semi X (kn (tk X p)) (dApart D (kv (tk X p)))))), g4)
    have rb1 := rB_01 (semi X (kn (tk X p)) (dApart D (kv (tk X p))))
    generalize rB (semi X (kn (tk X p)) (dApart D (kv (tk X p)))) = v at e4 rb1 ⊢
    obtain ⟨k1, j1⟩ := lay_k L0 (a := 1) (t := 5) (n := 8) rfl; obtain ⟨k8, j8⟩ := lay_k L0 (a := 8) (t := 6) (n := 8) rfl
    rw [en_42]
    simp (disch := (first | omega | (simp only [kd_sI, kd_sL, kd_sR, kd_cp, kd_aI]; omega) | (unfold catV; exact rfl) | (unfold catS; exact Nat.le_of_ble_eq_true rfl) | assumption)) only [q_42_0, q_42_1, q_42_4_t, q_42_4_f, q_42_7, q_42_8, q_42_9, q_42_11, q_42_14_t, q_42_14_f, q_42_17, q_42_18, q_42_19, q_42_20, q_42_21, q_42_24, q_42_25, q_42_26, q_42_29, q_42_32, q_42_33, q_42_36, aft_i, aft_l, aft_v, Int.toNat_natCast, kd_sI, kd_sL, kd_sR, kd_cp, gI_sL, gI_sR, gL_sI, gL_sR, gR_sI, gR_sL, gL_cp, gR_cp, kd_aI, gL_aI, gR_aI, gI_aI, gI_aIn, sI_aI, gI_sIn, Int.reduceToNat, Int.reduceAdd, Int.reduceSub, Int.reduceMul, Int.reduceNeg, Int.zero_add, m7, e1, v2, e4]
  · rw [if_neg b1] at e1 ⊢
    refine ⟨g1, ?_, cst_cp s1, c1.2.1⟩
    obtain ⟨k1, j1⟩ := lay_k L0 (a := 1) (t := 5) (n := 8) rfl; obtain ⟨k8, j8⟩ := lay_k L0 (a := 8) (t := 6) (n := 8) rfl
    rw [en_42]
    simp (disch := (first | omega | (simp only [kd_sI, kd_sL, kd_sR, kd_cp, kd_aI]; omega) | (unfold catV; exact rfl) | (unfold catS; exact Nat.le_of_ble_eq_true rfl) | assumption)) only [q_42_0, q_42_1, q_42_4_t, q_42_4_f, q_42_7, q_42_8, q_42_9, q_42_11, q_42_14_t, q_42_14_f, q_42_17, q_42_18, q_42_19, q_42_20, q_42_21, q_42_24, q_42_25, q_42_26, q_42_29, q_42_32, q_42_33, q_42_36, aft_i, aft_l, aft_v, Int.toNat_natCast, kd_sI, kd_sL, kd_sR, kd_cp, gI_sL, gI_sR, gL_sI, gL_sR, gR_sI, gR_sL, gL_cp, gR_cp, kd_aI, gL_aI, gR_aI, gI_aI, gI_aIn, sI_aI, gI_sIn, Int.reduceToNat, Int.reduceAdd, Int.reduceSub, Int.reduceMul, Int.reduceNeg, Int.zero_add, m7, e1]
    rfl
theorem wItM_ok (d : Nat) (h : mH) (L : LAY h) (X : List Int) (p : Nat) (D : Dr) (s : Cst h X p D) (w : wfD D) (f0 : dF D &&& 2 = 0) : ∃ g, callA (d + 5) 43 [Sum.inr (Sum.inr (some 1)), Sum.inr (Sum.inr (some 8))] h = some (some (Sum.inl (rB (full X (itmM X p D)))), g) ∧ CRs h g X (full X (itmM X p D)) := by
  have L0 := L
  obtain ⟨t, hp, hl, m⟩ := s
  have m8 := m.2.2.2.2.2.2.2
  rw [if_pos f0] at m8
  have m8 : gI h 1 7 = 0 := m8
  obtain ⟨g1, e1, s1, c1⟩ := wNum_ok d h L X t p hp hl 1 61 60 rfl
  have e1 : callA (d + 4) 46 [Sum.inr (Sum.inr (some 1)), Sum.inl 1, Sum.inl 60] h = some (some (Sum.inl (if numB (tk X p) 1 61 = true then 1 else 0)), g1) := e1
  have L1 := cst_L s1 L
  have tb := (tk_b t.2.2.2 hl).2.2.2.2.1
  obtain ⟨a1, a2⟩ := lay_k L1 (a := 1) (t := 5) (n := 8) rfl
  obtain ⟨a3, a4⟩ := lay_k L1 (a := 8) (t := 6) (n := 8) rfl
  unfold itmM
  by_cases b1 : numB (tk X p) 1 61 = true
  · rw [if_pos b1] at e1 ⊢
    have v1 := c1.2.2.2.1 (numB_v b1).1
    have v2 : gI (sI g1 1 7 1) 1 5 = kv (tk X p) := by rw [gI_sIo (by omega)]; exact v1
    obtain ⟨m1, m2, m3, m4, m5, m6, m7', m8'⟩ := cst_dC s1 m
    have fl := (fl_all (dF D) w.2.2.1).2.1
    have cp3 : cpF' h (sI (sI g1 1 7 1) 8 7 (kv (tk X p))) := cpF_tr (cst_cp s1) (cpF_tr (cpF_s (by omega)) (cpF_s (by omega)))
    have L3 := cpF_L cp3 L
    have d3 : dC (sI (sI g1 1 7 1) 8 7 (kv (tk X p))) (dMiles D (kv (tk X p))) := by
      refine ⟨?_, ?_, ?_, ?_, fun c hc => ?_, fun k hk => ?_, ?_, ?_⟩
      · rw [gI_sIo (by omega), gI_sIn (by omega)]; exact m1
      · rw [gI_sIo (by omega), gI_sIn (by omega)]; exact m2
      · rw [gI_sIo (by omega), gI_sIn (by omega)]; exact m3
      · rw [gI_sIs]; rfl
      · rw [gI_sIn (by omega), gI_sIn (by omega), gI_sIn (by omega), gI_sIn (by omega), gI_sIn (by omega), gI_sIn (by omega)]; exact m5 c hc
      · rw [gI_sIn (by omega), gI_sIn (by omega)]; exact m6 k hk
      · rw [gI_sIn (by omega), gI_sIo (by omega)]
        show _ = if (dF D ||| 2) &&& 1 = 0 then (0 : Int) else 1
        rw [fl.2]; exact m7'
      · rw [gI_sIn (by omega), gI_sIs]
        show (1 : Int) = if (dF D ||| 2) &&& 2 = 0 then 0 else 1
        rw [fl.1, if_neg (by omega)]
    obtain ⟨g4, e4, r4⟩ := wEnd d h _ L3 X (cpF_tx cp3 t) (kn (tk X p)) (by rw [gI_sIn (by omega), gI_sIo (by omega)]; exact c1.1) tb cp3 _ d3
    refine ⟨g4, ?_, r4⟩
    show _ = some (some (Sum.inl (rB (semi X (kn (tk X p)) (dMiles D (kv (tk X p)))))), g4)
    have rb1 := rB_01 (semi X (kn (tk X p)) (dMiles D (kv (tk X p))))
    generalize rB (semi X (kn (tk X p)) (dMiles D (kv (tk X p)))) = v at e4 rb1 ⊢
    obtain ⟨k1, j1⟩ := lay_k L0 (a := 1) (t := 5) (n := 8) rfl; obtain ⟨k8, j8⟩ := lay_k L0 (a := 8) (t := 6) (n := 8) rfl
    rw [en_43]
    simp (disch := (first | omega | (simp only [kd_sI, kd_sL, kd_sR, kd_cp, kd_aI]; omega) | (unfold catV; exact rfl) | (unfold catS; exact Nat.le_of_ble_eq_true rfl) | assumption)) only [q_43_0, q_43_1, q_43_4_t, q_43_4_f, q_43_7, q_43_8, q_43_9, q_43_11, q_43_14_t, q_43_14_f, q_43_17, q_43_18, q_43_19, q_43_20, q_43_21, q_43_24, q_43_25, q_43_26, q_43_29, q_43_32, q_43_33, q_43_36, aft_i, aft_l, aft_v, Int.toNat_natCast, kd_sI, kd_sL, kd_sR, kd_cp, gI_sL, gI_sR, gL_sI, gL_sR, gR_sI, gR_sL, gL_cp, gR_cp, kd_aI, gL_aI, gR_aI, gI_aI, gI_aIn, sI_aI, gI_sIn, Int.reduceToNat, Int.reduceAdd, Int.reduceSub, Int.reduceMul, Int.reduceNeg, Int.zero_add, m8, e1, v2, e4]
  · rw [if_neg b1] at e1 ⊢
    refine ⟨g1, ?_, cst_cp s1, c1.2.1⟩
    obtain ⟨k1, j1⟩ := lay_k L0 (a := 1) (t := 5) (n := 8) rfl; obtain ⟨k8, j8⟩ := lay_k L0 (a := 8) (t := 6) (n := 8) rfl
    rw [en_43]
    simp (disch := (first | omega | (simp only [kd_sI, kd_sL, kd_sR, kd_cp, kd_aI]; omega) | (unfold catV; exact rfl) | (unfold catS; exact Nat.le_of_ble_eq_true rfl) | assumption)) only [q_43_0, q_43_1, q_43_4_t, q_43_4_f, q_43_7, q_43_8, q_43_9, q_43_11, q_43_14_t, q_43_14_f, q_43_17, q_43_18, q_43_19, q_43_20, q_43_21, q_43_24, q_43_25, q_43_26, q_43_29, q_43_32, q_43_33, q_43_36, aft_i, aft_l, aft_v, Int.toNat_natCast, kd_sI, kd_sL, kd_sR, kd_cp, gI_sL, gI_sR, gL_sI, gL_sR, gR_sI, gR_sL, gL_cp, gR_cp, kd_aI, gL_aI, gR_aI, gI_aI, gI_aIn, sI_aI, gI_sIn, Int.reduceToNat, Int.reduceAdd, Int.reduceSub, Int.reduceMul, Int.reduceNeg, Int.zero_add, m8, e1]
    rfl
theorem wGot_ok (d : Nat) (h : mH) (L : LAY h) (X : List Int) (w : byX X) (p : Nat) (c : ctk h (tk X p)) : callA (d + 1) 45 [Sum.inr (Sum.inr (some 1))] h = some (some (Sum.inl (grI (grO (kk (tk X p))))), h) := by
  obtain ⟨c1, c2, c3, c4, c5⟩ := c
  have kb := tk_kk w p
  unfold grO
  obtain ⟨k1, j1⟩ := lay_k L (a := 1) (t := 5) (n := 8) rfl
  rw [en_45]
  rcases kb with ⟨k1, k2⟩ | ⟨k1, k2⟩
  · rw [if_pos k2] at c3
    have c9 : gI h 1 4 ≠ 0 := by omega
    rw [if_neg (by omega), if_neg (by omega), if_neg (by omega)]
    simp (disch := (first | omega | (simp only [kd_sI, kd_sL, kd_sR, kd_cp, kd_aI]; omega) | (unfold catV; exact rfl) | (unfold catS; exact Nat.le_of_ble_eq_true rfl) | assumption)) only [q_45_0, q_45_1, q_45_4_t, q_45_4_f, q_45_7, q_45_9, q_45_10, q_45_11, q_45_14_102, q_45_14_104, q_45_14_114, q_45_14_d, q_45_48, q_45_49, q_45_50, q_45_51, q_45_52, q_45_53, q_45_54, q_45_56, aft_i, aft_l, aft_v, Int.toNat_natCast, kd_sI, kd_sL, kd_sR, kd_cp, gI_sL, gI_sR, gL_sI, gL_sR, gR_sI, gR_sL, gL_cp, gR_cp, kd_aI, gL_aI, gR_aI, gI_aI, gI_aIn, sI_aI, gI_sIn, Int.reduceToNat, Int.reduceAdd, Int.reduceSub, Int.reduceMul, Int.reduceNeg, Int.zero_add, c9]
    rfl
  · rw [if_neg (by omega)] at c3
    have c3 : gI h 1 4 = 0 := c3
    have c5 := c5 k1
    generalize kk (tk X p) = k at c5 k1 k2 ⊢
    by_cases z1 : k = 102
    · subst z1
      have c5 : gI h 1 5 = 102 := c5
      simp (disch := (first | omega | (simp only [kd_sI, kd_sL, kd_sR, kd_cp, kd_aI]; omega) | (unfold catV; exact rfl) | (unfold catS; exact Nat.le_of_ble_eq_true rfl) | assumption)) only [q_45_0, q_45_1, q_45_4_t, q_45_4_f, q_45_7, q_45_9, q_45_10, q_45_11, q_45_14_102, q_45_14_104, q_45_14_114, q_45_14_d, q_45_48, q_45_49, q_45_50, q_45_51, q_45_52, q_45_53, q_45_54, q_45_56, aft_i, aft_l, aft_v, Int.toNat_natCast, kd_sI, kd_sL, kd_sR, kd_cp, gI_sL, gI_sR, gL_sI, gL_sR, gR_sI, gR_sL, gL_cp, gR_cp, kd_aI, gL_aI, gR_aI, gI_aI, gI_aIn, sI_aI, gI_sIn, Int.reduceToNat, Int.reduceAdd, Int.reduceSub, Int.reduceMul, Int.reduceNeg, Int.zero_add, c3, c5]
      rfl
    · by_cases z2 : k = 104
      · subst z2
        have c5 : gI h 1 5 = 104 := c5
        simp (disch := (first | omega | (simp only [kd_sI, kd_sL, kd_sR, kd_cp, kd_aI]; omega) | (unfold catV; exact rfl) | (unfold catS; exact Nat.le_of_ble_eq_true rfl) | assumption)) only [q_45_0, q_45_1, q_45_4_t, q_45_4_f, q_45_7, q_45_9, q_45_10, q_45_11, q_45_14_102, q_45_14_104, q_45_14_114, q_45_14_d, q_45_48, q_45_49, q_45_50, q_45_51, q_45_52, q_45_53, q_45_54, q_45_56, aft_i, aft_l, aft_v, Int.toNat_natCast, kd_sI, kd_sL, kd_sR, kd_cp, gI_sL, gI_sR, gL_sI, gL_sR, gR_sI, gR_sL, gL_cp, gR_cp, kd_aI, gL_aI, gR_aI, gI_aI, gI_aIn, sI_aI, gI_sIn, Int.reduceToNat, Int.reduceAdd, Int.reduceSub, Int.reduceMul, Int.reduceNeg, Int.zero_add, c3, c5]
        rfl
      · by_cases z3 : k = 114
        · subst z3
          have c5 : gI h 1 5 = 114 := c5
          simp (disch := (first | omega | (simp only [kd_sI, kd_sL, kd_sR, kd_cp, kd_aI]; omega) | (unfold catV; exact rfl) | (unfold catS; exact Nat.le_of_ble_eq_true rfl) | assumption)) only [q_45_0, q_45_1, q_45_4_t, q_45_4_f, q_45_7, q_45_9, q_45_10, q_45_11, q_45_14_102, q_45_14_104, q_45_14_114, q_45_14_d, q_45_48, q_45_49, q_45_50, q_45_51, q_45_52, q_45_53, q_45_54, q_45_56, aft_i, aft_l, aft_v, Int.toNat_natCast, kd_sI, kd_sL, kd_sR, kd_cp, gI_sL, gI_sR, gL_sI, gL_sR, gR_sI, gR_sL, gL_cp, gR_cp, kd_aI, gL_aI, gR_aI, gI_aI, gI_aIn, sI_aI, gI_sIn, Int.reduceToNat, Int.reduceAdd, Int.reduceSub, Int.reduceMul, Int.reduceNeg, Int.zero_add, c3, c5]
          rfl
        · rw [if_neg z1, if_neg z2, if_neg z3]
          have n1 : (k : Int) ≠ 102 := by omega
          have n2 : (k : Int) ≠ 104 := by omega
          have n3 : (k : Int) ≠ 114 := by omega
          simp (disch := (first | omega | (simp only [kd_sI, kd_sL, kd_sR, kd_cp, kd_aI]; omega) | (unfold catV; exact rfl) | (unfold catS; exact Nat.le_of_ble_eq_true rfl) | assumption)) only [q_45_0, q_45_1, q_45_4_t, q_45_4_f, q_45_7, q_45_9, q_45_10, q_45_11, q_45_14_102, q_45_14_104, q_45_14_114, q_45_14_d, q_45_48, q_45_49, q_45_50, q_45_51, q_45_52, q_45_53, q_45_54, q_45_56, aft_i, aft_l, aft_v, Int.toNat_natCast, kd_sI, kd_sL, kd_sR, kd_cp, gI_sL, gI_sR, gL_sI, gL_sR, gR_sI, gR_sL, gL_cp, gR_cp, kd_aI, gL_aI, gR_aI, gI_aI, gI_aIn, sI_aI, gI_sIn, Int.reduceToNat, Int.reduceAdd, Int.reduceSub, Int.reduceMul, Int.reduceNeg, Int.zero_add, c3, c5]
          rfl
theorem wGl_loop (d : Nat) (X : List Int) : ∀ (f p : Nat) (D : Dr) (h : mH) (L : LAY h), ctx h X → p ≤ X.length → ctk h (tk X p) → dC h D → tK (dT D) + f = 40 → ∃ g, resA (callA (d + 3)) 44 (13, [Sum.inr (Sum.inr (some 1)), Sum.inr (Sum.inr (some 8))], [], h) = resA (callA (d + 3)) 44 (46, [Sum.inr (Sum.inr (some 1)), Sum.inr (Sum.inr (some 8))], [], g) ∧ cpF' h g ∧ (gnd X f p D).1 ≤ X.length ∧ ctk g (tk X (gnd X f p D).1) ∧ dC g (gnd X f p D).2
  | 0, p, D, h, L, t, hl, c, m, hf => by
    have m2 := m.2.1
    have e : tK (dT D) = 40 := hf
    rw [e] at m2
    have m2 : gI h 8 5 = 40 := m2
    refine ⟨h, ?_, cpF_rf h, hl, c, m⟩
    obtain ⟨k8, j8⟩ := lay_k L (a := 8) (t := 6) (n := 8) rfl
    simp (disch := (first | omega | (simp only [kd_sI, kd_sL, kd_sR, kd_cp, kd_aI]; omega) | (unfold catV; exact rfl) | (unfold catS; exact Nat.le_of_ble_eq_true rfl) | assumption)) only [q_44_0, q_44_1, q_44_4_t, q_44_4_f, q_44_7, q_44_8, q_44_9, q_44_10, q_44_13, q_44_14, q_44_17, q_44_19_t, q_44_19_f, q_44_22, q_44_23, q_44_26, q_44_28_t, q_44_28_f, q_44_31, q_44_32, q_44_33, q_44_36, q_44_39, q_44_40, q_44_43, q_44_47, q_44_50_t, q_44_50_f, q_44_53, q_44_54, q_44_57, q_44_58_t, q_44_58_f, q_44_61, q_44_62, q_44_65, q_44_66, aft_i, aft_l, aft_v, Int.toNat_natCast, kd_sI, kd_sL, kd_sR, kd_cp, gI_sL, gI_sR, gL_sI, gL_sR, gR_sI, gR_sL, gL_cp, gR_cp, kd_aI, gL_aI, gR_aI, gI_aI, gI_aIn, sI_aI, gI_sIn, Int.reduceToNat, Int.reduceAdd, Int.reduceSub, Int.reduceMul, Int.reduceNeg, Int.zero_add, m2]
  | f + 1, p, D, h, L, t, hl, c, m, hf => by
    have L0 := L
    have m2 := m.2.1
    have e1 := wGot_ok (d + 2) h L X t.2.2.2 p c
    unfold gnd
    cases hk : grO (kk (tk X p)) with
    | none =>
      rw [hk] at e1
      have e1 : callA (d + 3) 45 [Sum.inr (Sum.inr (some 1))] h = some (some (Sum.inl (-9)), h) := e1
      refine ⟨h, ?_, cpF_rf h, hl, c, m⟩
      obtain ⟨k1, j1⟩ := lay_k L (a := 1) (t := 5) (n := 8) rfl; obtain ⟨k8, j8⟩ := lay_k L (a := 8) (t := 6) (n := 8) rfl
      simp (disch := (first | omega | (simp only [kd_sI, kd_sL, kd_sR, kd_cp, kd_aI]; omega) | (unfold catV; exact rfl) | (unfold catS; exact Nat.le_of_ble_eq_true rfl) | assumption)) only [q_44_0, q_44_1, q_44_4_t, q_44_4_f, q_44_7, q_44_8, q_44_9, q_44_10, q_44_13, q_44_14, q_44_17, q_44_19_t, q_44_19_f, q_44_22, q_44_23, q_44_26, q_44_28_t, q_44_28_f, q_44_31, q_44_32, q_44_33, q_44_36, q_44_39, q_44_40, q_44_43, q_44_47, q_44_50_t, q_44_50_f, q_44_53, q_44_54, q_44_57, q_44_58_t, q_44_58_f, q_44_61, q_44_62, q_44_65, q_44_66, aft_i, aft_l, aft_v, Int.toNat_natCast, kd_sI, kd_sL, kd_sR, kd_cp, gI_sL, gI_sR, gL_sI, gL_sR, gR_sI, gR_sL, gL_cp, gR_cp, kd_aI, gL_aI, gR_aI, gI_aI, gI_aIn, sI_aI, gI_sIn, Int.reduceToNat, Int.reduceAdd, Int.reduceSub, Int.reduceMul, Int.reduceNeg, Int.zero_add, m2, e1]
    | some k =>
      rw [hk] at e1
      have kb := grO_b hk
      have e1 : callA (d + 3) 45 [Sum.inr (Sum.inr (some 1))] h = some (some (Sum.inl (k : Int)), h) := e1
      dsimp only
      rw [if_pos (by omega)]
      obtain ⟨m1, m2', m3, m4, m5, m6, m7, m8⟩ := m
      have q1 : cpF' h (sI (sI h 12 (tK (dT D)) k) 8 5 ((tK (dT D) : Int) + 1)) := cpF_tr (cpF_s (by omega)) (cpF_s (by omega))
      have x2 : gI (sI h 12 (tK (dT D)) k) 8 5 = tK (dT D) := by rw [gI_sIn (by omega)]; exact m2
      have e2 : callA (d + 3) 56 [Sum.inr (Sum.inr (some 8)), Sum.inl (k : Int)] h = some (none, sI (sI h 12 (tK (dT D)) k) 8 5 ((tK (dT D) : Int) + 1)) := by
        obtain ⟨k8, j8⟩ := lay_k L0 (a := 8) (t := 6) (n := 8) rfl; obtain ⟨k12, j12⟩ := lay_k L0 (a := 12) (t := 100) (n := 40) rfl; have r8_3 : gR h 8 3 = some 12 := lay_r L0 rfl
        rw [en_56]
        simp (disch := (first | omega | (simp only [kd_sI, kd_sL, kd_sR, kd_cp, kd_aI]; omega) | (unfold catV; exact rfl) | (unfold catS; exact Nat.le_of_ble_eq_true rfl) | assumption)) only [q_56_0, q_56_1, q_56_4, q_56_5, q_56_8, q_56_9, q_56_10, q_56_11, q_56_12, q_56_15, q_56_16, q_56_17, q_56_20, aft_i, aft_l, aft_v, Int.toNat_natCast, kd_sI, kd_sL, kd_sR, kd_cp, gI_sL, gI_sR, gL_sI, gL_sR, gR_sI, gR_sL, gL_cp, gR_cp, kd_aI, gL_aI, gR_aI, gI_aI, gI_aIn, sI_aI, gI_sIn, Int.reduceToNat, Int.reduceAdd, Int.reduceSub, Int.reduceMul, Int.reduceNeg, Int.zero_add, m2, r8_3, x2]
      have d1 : dC (sI (sI h 12 (tK (dT D)) k) 8 5 ((tK (dT D) : Int) + 1)) (dCell D k) := by
        refine ⟨?_, ?_, ?_, ?_, fun c hc => ?_, fun j hj => ?_, ?_, ?_⟩
        · rw [gI_sIo (by omega), gI_sIn (by omega)]; exact m1
        · rw [gI_sIs]; rfl
        · rw [gI_sIo (by omega), gI_sIn (by omega)]; exact m3
        · rw [gI_sIo (by omega), gI_sIn (by omega)]; exact m4
        · rw [gI_sIn (by omega), gI_sIn (by omega), gI_sIn (by omega), gI_sIn (by omega), gI_sIn (by omega), gI_sIn (by omega)]; exact m5 c hc
        · have hj : j < tK (dT D) + 1 := hj
          rw [gI_sIn (by omega)]
          show _ = ((if j = tK (dT D) then k else tG (dT D) j : Nat) : Int)
          by_cases z : j = tK (dT D)
          · subst z; rw [if_pos rfl, gI_sIs]
          · rw [if_neg z, gI_sIo z]; exact m6 j (by omega)
        · rw [gI_sIn (by omega), gI_sIn (by omega)]; exact m7
        · rw [gI_sIn (by omega), gI_sIn (by omega)]; exact m8
      generalize eg1 : sI (sI h 12 (tK (dT D)) k) 8 5 ((tK (dT D) : Int) + 1) = g1 at q1 e2 d1
      have L1 := cpF_L q1 L
      have p1 : gI g1 1 2 = kn (tk X p) := by rw [← eg1, gI_sIn (by omega), gI_sIn (by omega)]; exact c.1
      have tb := (tk_b t.2.2.2 hl).2.2.2.2.1
      obtain ⟨g2, e3, s2, c2⟩ := wTok_ok d g1 L1 X (cpF_tx q1 t) (kn (tk X p)) p1 tb
      have q2 := cpF_tr q1 (cst_cp s2)
      have L2 := cpF_L q2 L
      obtain ⟨g3, e4, q3, b3, c3, m3'⟩ := wGl_loop d X f (kn (tk X p)) (dCell D k) g2 L2 (cpF_tx q2 t) tb c2 (cst_dC s2 d1) (by show tK (dT D) + 1 + f = 40; omega)
      refine ⟨g3, ?_, cpF_tr q2 q3, b3, c3, m3'⟩
      rw [← e4]
      obtain ⟨a1, a2⟩ := lay_k L1 (a := 1) (t := 5) (n := 8) rfl
      obtain ⟨k1, j1⟩ := lay_k L0 (a := 1) (t := 5) (n := 8) rfl; obtain ⟨k8, j8⟩ := lay_k L0 (a := 8) (t := 6) (n := 8) rfl
      rw [q_44_13]
      simp (disch := (first | omega | (simp only [kd_sI, kd_sL, kd_sR, kd_cp, kd_aI]; omega) | (unfold catV; exact rfl) | (unfold catS; exact Nat.le_of_ble_eq_true rfl) | assumption)) only [q_44_0, q_44_1, q_44_4_t, q_44_4_f, q_44_7, q_44_8, q_44_9, q_44_10, q_44_14, q_44_17, q_44_19_t, q_44_19_f, q_44_22, q_44_23, q_44_26, q_44_28_t, q_44_28_f, q_44_31, q_44_32, q_44_33, q_44_36, q_44_39, q_44_40, q_44_43, q_44_47, q_44_50_t, q_44_50_f, q_44_53, q_44_54, q_44_57, q_44_58_t, q_44_58_f, q_44_61, q_44_62, q_44_65, q_44_66, aft_i, aft_l, aft_v, Int.toNat_natCast, kd_sI, kd_sL, kd_sR, kd_cp, gI_sL, gI_sR, gL_sI, gL_sR, gR_sI, gR_sL, gL_cp, gR_cp, kd_aI, gL_aI, gR_aI, gI_aI, gI_aIn, sI_aI, gI_sIn, Int.reduceToNat, Int.reduceAdd, Int.reduceSub, Int.reduceMul, Int.reduceNeg, Int.zero_add, m2, e1, e2, e3]
