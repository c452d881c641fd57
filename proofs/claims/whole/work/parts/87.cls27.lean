abbrev Cst (h : mH) (X : List Int) (p : Nat) (D : Dr) : Prop := ctx h X ∧ gI h 1 2 = p ∧ p ≤ X.length ∧ dC h D
theorem wItC_ok (d : Nat) (h : mH) (L : LAY h) (X : List Int) (p : Nat) (D : Dr) (s : Cst h X p D) (w : wfD D) (n7 : tN (dT D) < 7) : ∃ g, callA (d + 5) 40 [Sum.inr (Sum.inr (some 1)), Sum.inr (Sum.inr (some 8))] h = some (some (Sum.inl (rB (full X (itmC X p D)))), g) ∧ CRs h g X (full X (itmC X p D)) := by
  have L0 := L
  obtain ⟨t, hp, hl, m⟩ := s
  have m1 := m.1
  obtain ⟨g1, e1, s1, c1⟩ := wNum_ok d h L X t p hp hl 1 7 6 rfl
  have e1 : callA (d + 4) 46 [Sum.inr (Sum.inr (some 1)), Sum.inl 1, Sum.inl 6] h = some (some (Sum.inl (if numB (tk X p) 1 7 = true then 1 else 0)), g1) := e1
  have L1 := cst_L s1 L
  have tb := (tk_b t.2.2.2 hl).2.2.2.2.1
  obtain ⟨a1, a2⟩ := lay_k L1 (a := 1) (t := 5) (n := 8) rfl
  unfold itmC
  by_cases b1 : numB (tk X p) 1 7 = true
  · rw [if_pos b1] at e1 ⊢
    have v1 := c1.2.2.2.1 (numB_v b1).1
    have kv1 := (numB_v b1).2
    obtain ⟨g2, e2, s2, c2⟩ := wNum_ok d g1 L1 X (cst_tx s1 t) (kn (tk X p)) c1.1 tb 1 10 9 rfl
    have e2 : callA (d + 4) 46 [Sum.inr (Sum.inr (some 1)), Sum.inl 1, Sum.inl 9] g1 = some (some (Sum.inl (if numB (tk X (kn (tk X p))) 1 10 = true then 1 else 0)), g2) := e2
    have L2 := cst_L s2 L1
    have s12 := cst_tr s1 s2
    have tb2 := (tk_b t.2.2.2 tb).2.2.2.2.1
    obtain ⟨a3, a4⟩ := lay_k L2 (a := 1) (t := 5) (n := 8) rfl
    by_cases b2 : numB (tk X (kn (tk X p))) 1 10 = true
    · rw [if_pos b2] at e2 ⊢
      have v2 := c2.2.2.2.1 (numB_v b2).1
      obtain ⟨g3, e3, f3, k3, m3⟩ := wAdd_ok (d + 3) g2 L2 D (cst_dC s12 m) w.2.2.2.1 n7 (kv (tk X p)) (kv (tk X (kn (tk X p))))
      have L3 := cpF_L f3 L2
      have cp3 := cpF_tr (cst_cp s12) f3
      obtain ⟨g4, e4, r4⟩ := wEnd d h g3 L3 X (cpF_tx cp3 t) (kn (tk X (kn (tk X p)))) (by rw [k3 2]; exact c2.1) tb2 cp3 (dCart D (kv (tk X p)) (kv (tk X (kn (tk X p))))) m3
      refine ⟨g4, ?_, r4⟩
      show _ = some (some (Sum.inl (rB (semi X (kn (tk X (kn (tk X p)))) (dCart D (kv (tk X p)) (kv (tk X (kn (tk X p)))))))), g4)
      have rb : ∀ r, rB r = 0 ∨ rB r = 1 := fun r => by cases r with
        | inl _ => exact Or.inl rfl
        | inr _ => exact Or.inr rfl
      have rb1 := rb (semi X (kn (tk X (kn (tk X p)))) (dCart D (kv (tk X p)) (kv (tk X (kn (tk X p))))))
      generalize rB (semi X (kn (tk X (kn (tk X p)))) (dCart D (kv (tk X p)) (kv (tk X (kn (tk X p)))))) = v at e4 rb1 ⊢
      obtain ⟨a5, a6⟩ := lay_k L3 (a := 1) (t := 5) (n := 8) rfl
      obtain ⟨a7, a8⟩ := lay_k L2 (a := 8) (t := 6) (n := 8) rfl
      obtain ⟨k1, j1⟩ := lay_k L0 (a := 1) (t := 5) (n := 8) rfl; obtain ⟨k8, j8⟩ := lay_k L0 (a := 8) (t := 6) (n := 8) rfl
      rw [en_40]
      simp (disch := (first | omega | (simp only [kd_sI, kd_sL, kd_sR, kd_cp, kd_aI]; omega) | (unfold catV; exact rfl) | (unfold catS; exact Nat.le_of_ble_eq_true rfl) | assumption)) only [q_40_0, q_40_1, q_40_4, q_40_6_t, q_40_6_f, q_40_9, q_40_10, q_40_11, q_40_13, q_40_16_t, q_40_16_f, q_40_19, q_40_20, q_40_21, q_40_22, q_40_25, q_40_26, q_40_27, q_40_28, q_40_30, q_40_33_t, q_40_33_f, q_40_36, q_40_37, q_40_38, q_40_39, q_40_40, q_40_41, q_40_44, q_40_47, q_40_48, q_40_51, aft_i, aft_l, aft_v, Int.toNat_natCast, kd_sI, kd_sL, kd_sR, kd_cp, gI_sL, gI_sR, gL_sI, gL_sR, gR_sI, gR_sL, gL_cp, gR_cp, kd_aI, gL_aI, gR_aI, gI_aI, gI_aIn, sI_aI, gI_sIn, Int.reduceToNat, Int.reduceAdd, Int.reduceSub, Int.reduceMul, Int.reduceNeg, Int.zero_add, m1, e1, v1, e2, v2, e3, e4]
    · rw [if_neg b2] at e2 ⊢
      refine ⟨g2, ?_, cst_cp s12, c2.2.1⟩
      obtain ⟨k1, j1⟩ := lay_k L0 (a := 1) (t := 5) (n := 8) rfl; obtain ⟨k8, j8⟩ := lay_k L0 (a := 8) (t := 6) (n := 8) rfl
      rw [en_40]
      simp (disch := (first | omega | (simp only [kd_sI, kd_sL, kd_sR, kd_cp, kd_aI]; omega) | (unfold catV; exact rfl) | (unfold catS; exact Nat.le_of_ble_eq_true rfl) | assumption)) only [q_40_0, q_40_1, q_40_4, q_40_6_t, q_40_6_f, q_40_9, q_40_10, q_40_11, q_40_13, q_40_16_t, q_40_16_f, q_40_19, q_40_20, q_40_21, q_40_22, q_40_25, q_40_26, q_40_27, q_40_28, q_40_30, q_40_33_t, q_40_33_f, q_40_36, q_40_37, q_40_38, q_40_39, q_40_40, q_40_41, q_40_44, q_40_47, q_40_48, q_40_51, aft_i, aft_l, aft_v, Int.toNat_natCast, kd_sI, kd_sL, kd_sR, kd_cp, gI_sL, gI_sR, gL_sI, gL_sR, gR_sI, gR_sL, gL_cp, gR_cp, kd_aI, gL_aI, gR_aI, gI_aI, gI_aIn, sI_aI, gI_sIn, Int.reduceToNat, Int.reduceAdd, Int.reduceSub, Int.reduceMul, Int.reduceNeg, Int.zero_add, m1, e1, v1, e2]
      rfl
  · rw [if_neg b1] at e1 ⊢
    refine ⟨g1, ?_, cst_cp s1, c1.2.1⟩
    obtain ⟨k1, j1⟩ := lay_k L0 (a := 1) (t := 5) (n := 8) rfl; obtain ⟨k8, j8⟩ := lay_k L0 (a := 8) (t := 6) (n := 8) rfl
    rw [en_40]
    simp (disch := (first | omega | (simp only [kd_sI, kd_sL, kd_sR, kd_cp, kd_aI]; omega) | (unfold catV; exact rfl) | (unfold catS; exact Nat.le_of_ble_eq_true rfl) | assumption)) only [q_40_0, q_40_1, q_40_4, q_40_6_t, q_40_6_f, q_40_9, q_40_10, q_40_11, q_40_13, q_40_16_t, q_40_16_f, q_40_19, q_40_20, q_40_21, q_40_22, q_40_25, q_40_26, q_40_27, q_40_28, q_40_30, q_40_33_t, q_40_33_f, q_40_36, q_40_37, q_40_38, q_40_39, q_40_40, q_40_41, q_40_44, q_40_47, q_40_48, q_40_51, aft_i, aft_l, aft_v, Int.toNat_natCast, kd_sI, kd_sL, kd_sR, kd_cp, gI_sL, gI_sR, gL_sI, gL_sR, gR_sI, gR_sL, gL_cp, gR_cp, kd_aI, gL_aI, gR_aI, gI_aI, gI_aIn, sI_aI, gI_sIn, Int.reduceToNat, Int.reduceAdd, Int.reduceSub, Int.reduceMul, Int.reduceNeg, Int.zero_add, m1, e1]
    rfl
theorem rB_01 (r : Nat ⊕ (Dr × Nat)) : rB r = 0 ∨ rB r = 1 := by
  cases r with
  | inl _ => exact Or.inl rfl
  | inr _ => exact Or.inr rfl
theorem wFeu_ok (d : Nat) (h : mH) (L : LAY h) (D : Dr) (m : dC h D) (w : wfD D) (a b : Nat) (ha : a < tN (dT D)) (hb : b < tN (dT D)) (ne : b ≠ a) : ∃ g, callA (d + 1) 55 [Sum.inr (Sum.inr (some 8)), Sum.inl (a : Int), Sum.inl (b : Int)] h = some (none, g) ∧ cpF' h g ∧ (∀ k, gI g 1 k = gI h 1 k) ∧ dC g (dFeud D a b) := by
  obtain ⟨m1, m2, m3, m4, m5, m6, m7, m8⟩ := m
  have c7 := w.1.1
  have fa := (m5 a ha).2.2
  have fb := (m5 b hb).2.2
  have la := w.1.2.2.2.2.2.1 a ha
  have lb := w.1.2.2.2.2.2.1 b hb
  have sa := shl1 (j := a) (by omega)
  have sb := shl1 (j := b) (by omega)
  have pa : 2 ^ a < 2 ^ 31 := Nat.pow_lt_pow_right (by omega) (by omega)
  have pb : 2 ^ b < 2 ^ 31 := Nat.pow_lt_pow_right (by omega) (by omega)
  have oa := orI_n (a := tF (dT D) a) (b := 2 ^ b) (by omega) pb
  have ob := orI_n (a := tF (dT D) b) (b := 2 ^ a) (by omega) pa
  have o1 : gI (sI h 11 a ((tF (dT D) a ||| 2 ^ b : Nat) : Int)) 11 b = tF (dT D) b := by rw [gI_sIo ne]; exact fb
  refine ⟨sI (sI h 11 a ((tF (dT D) a ||| 2 ^ b : Nat) : Int)) 11 b ((tF (dT D) b ||| 2 ^ a : Nat) : Int), ?_, cpF_tr (cpF_s (by omega)) (cpF_s (by omega)), fun k => by rw [gI_sIn (by omega), gI_sIn (by omega)], ⟨?_, ?_, ?_, ?_, fun c hc => ⟨?_, ?_, ?_⟩, fun k hk => ?_, ?_, ?_⟩⟩
  · obtain ⟨k8, j8⟩ := lay_k L (a := 8) (t := 6) (n := 8) rfl; obtain ⟨k11, j11⟩ := lay_k L (a := 11) (t := 100) (n := 7) rfl; have r8_2 : gR h 8 2 = some 11 := lay_r L rfl
    rw [en_55]
    simp (disch := (first | omega | (simp only [kd_sI, kd_sL, kd_sR, kd_cp, kd_aI]; omega) | (unfold catV; exact rfl) | (unfold catS; exact Nat.le_of_ble_eq_true rfl) | assumption)) only [q_55_0, q_55_1, q_55_4, q_55_5, q_55_6, q_55_7, q_55_8, q_55_9, q_55_10, q_55_11, q_55_12, q_55_13, q_55_16, q_55_17, q_55_18, q_55_19, q_55_20, q_55_21, q_55_22, q_55_23, q_55_24, aft_i, aft_l, aft_v, Int.toNat_natCast, kd_sI, kd_sL, kd_sR, kd_cp, gI_sL, gI_sR, gL_sI, gL_sR, gR_sI, gR_sL, gL_cp, gR_cp, kd_aI, gL_aI, gR_aI, gI_aI, gI_aIn, sI_aI, gI_sIn, Int.reduceToNat, Int.reduceAdd, Int.reduceSub, Int.reduceMul, Int.reduceNeg, Int.zero_add, r8_2, fa, sb, oa, o1, sa, ob]
  · rw [gI_sIn (by omega), gI_sIn (by omega)]; exact m1
  · rw [gI_sIn (by omega), gI_sIn (by omega)]; exact m2
  · rw [gI_sIn (by omega), gI_sIn (by omega)]; exact m3
  · rw [gI_sIn (by omega), gI_sIn (by omega)]; exact m4
  · rw [gI_sIn (by omega), gI_sIn (by omega)]; exact (m5 c hc).1
  · rw [gI_sIn (by omega), gI_sIn (by omega)]; exact (m5 c hc).2.1
  · show _ = ((if c = b then tF (dT D) b ||| 2 ^ a else if c = a then tF (dT D) a ||| 2 ^ b else tF (dT D) c : Nat) : Int)
    by_cases z : c = b
    · rw [if_pos z, z, gI_sIs]
    · rw [if_neg z, gI_sIo z]
      by_cases y : c = a
      · rw [if_pos y, y, gI_sIs]
      · rw [if_neg y, gI_sIo y]; exact (m5 c hc).2.2
  · rw [gI_sIn (by omega), gI_sIn (by omega)]; exact m6 k hk
  · rw [gI_sIn (by omega), gI_sIn (by omega)]; exact m7
  · rw [gI_sIn (by omega), gI_sIn (by omega)]; exact m8
theorem wItQ_ok (d : Nat) (h : mH) (L : LAY h) (X : List Int) (p : Nat) (D : Dr) (s : Cst h X p D) (w : wfD D) : ∃ g, callA (d + 5) 41 [Sum.inr (Sum.inr (some 1)), Sum.inr (Sum.inr (some 8))] h = some (some (Sum.inl (rB (full X (itmQ X p D)))), g) ∧ CRs h g X (full X (itmQ X p D)) := by
  have L0 := L
  obtain ⟨t, hp, hl, m⟩ := s
  have m1 := m.1
  have c7 := w.1.1
  obtain ⟨g1, e1, s1, c1⟩ := wNum_ok d h L X t p hp hl 0 (tN (dT D)) ((tN (dT D) : Int) - 1) rfl
  have e1 : callA (d + 4) 46 [Sum.inr (Sum.inr (some 1)), Sum.inl 0, Sum.inl ((tN (dT D) : Int) - 1)] h = some (some (Sum.inl (if numB (tk X p) 0 (tN (dT D)) = true then 1 else 0)), g1) := e1
  have L1 := cst_L s1 L
  have tb := (tk_b t.2.2.2 hl).2.2.2.2.1
  obtain ⟨a1, a2⟩ := lay_k L1 (a := 1) (t := 5) (n := 8) rfl
  obtain ⟨b1', b2'⟩ := lay_k L1 (a := 8) (t := 6) (n := 8) rfl
  unfold itmQ
  by_cases b1 : numB (tk X p) 0 (tN (dT D)) = true
  · rw [if_pos b1] at e1 ⊢
    have v1 := c1.2.2.2.1 (numB_v b1).1
    have kv1 := (numB_v b1).2
    have n1 : gI g1 8 4 = tN (dT D) := (cst_dC s1 m).1
    obtain ⟨g2, e2, s2, c2⟩ := wNum_ok d g1 L1 X (cst_tx s1 t) (kn (tk X p)) c1.1 tb 0 (tN (dT D)) ((tN (dT D) : Int) - 1) rfl
    have e2 : callA (d + 4) 46 [Sum.inr (Sum.inr (some 1)), Sum.inl 0, Sum.inl ((tN (dT D) : Int) - 1)] g1 = some (some (Sum.inl (if numB (tk X (kn (tk X p))) 0 (tN (dT D)) = true then 1 else 0)), g2) := e2
    have L2 := cst_L s2 L1
    have s12 := cst_tr s1 s2
    have tb2 := (tk_b t.2.2.2 tb).2.2.2.2.1
    obtain ⟨a3, a4⟩ := lay_k L2 (a := 1) (t := 5) (n := 8) rfl
    by_cases b2 : numB (tk X (kn (tk X p))) 0 (tN (dT D)) = true
    · rw [if_pos b2] at e2
      have v2 := c2.2.2.2.1 (numB_v b2).1
      have kv2 := (numB_v b2).2
      by_cases b3 : kv (tk X (kn (tk X p))) = kv (tk X p)
      · rw [if_neg (fun y => y.2 b3)]
        refine ⟨g2, ?_, cst_cp s12, c2.2.1⟩
        rw [b3] at v2
        obtain ⟨k1, j1⟩ := lay_k L0 (a := 1) (t := 5) (n := 8) rfl; obtain ⟨k8, j8⟩ := lay_k L0 (a := 8) (t := 6) (n := 8) rfl
        rw [en_41]
        simp (disch := (first | omega | (simp only [kd_sI, kd_sL, kd_sR, kd_cp, kd_aI]; omega) | (unfold catV; exact rfl) | (unfold catS; exact Nat.le_of_ble_eq_true rfl) | assumption)) only [q_41_0, q_41_1, q_41_2, q_41_3, q_41_6, q_41_7, q_41_8, q_41_11_t, q_41_11_f, q_41_14, q_41_15, q_41_16, q_41_17, q_41_20, q_41_21, q_41_22, q_41_23, q_41_24, q_41_27, q_41_28, q_41_29, q_41_32_t, q_41_32_f, q_41_35, q_41_36, q_41_39, q_41_40_t, q_41_40_f, q_41_43, q_41_44, q_41_45, q_41_46, q_41_47, q_41_48, q_41_51, q_41_54, q_41_55, q_41_58, aft_i, aft_l, aft_v, Int.toNat_natCast, kd_sI, kd_sL, kd_sR, kd_cp, gI_sL, gI_sR, gL_sI, gL_sR, gR_sI, gR_sL, gL_cp, gR_cp, kd_aI, gL_aI, gR_aI, gI_aI, gI_aIn, sI_aI, gI_sIn, Int.reduceToNat, Int.reduceAdd, Int.reduceSub, Int.reduceMul, Int.reduceNeg, Int.zero_add, m1, e1, v1, n1, e2, v2]
        rfl
      · rw [if_pos ⟨b2, b3⟩]
        obtain ⟨g3, e3, f3, k3, m3⟩ := wFeu_ok (d + 3) g2 L2 D (cst_dC s12 m) w (kv (tk X p)) (kv (tk X (kn (tk X p)))) kv1.2 kv2.2 b3
        have L3 := cpF_L f3 L2
        have cp3 := cpF_tr (cst_cp s12) f3
        obtain ⟨g4, e4, r4⟩ := wEnd d h g3 L3 X (cpF_tx cp3 t) (kn (tk X (kn (tk X p)))) (by rw [k3 2]; exact c2.1) tb2 cp3 (dFeud D (kv (tk X p)) (kv (tk X (kn (tk X p))))) m3
        refine ⟨g4, ?_, r4⟩
        show _ = some (some (Sum.inl (rB (semi X (kn (tk X (kn (tk X p)))) (dFeud D (kv (tk X p)) (kv (tk X (kn (tk X p)))))))), g4)
        have rb1 := rB_01 (semi X (kn (tk X (kn (tk X p)))) (dFeud D (kv (tk X p)) (kv (tk X (kn (tk X p))))))
        generalize rB (semi X (kn (tk X (kn (tk X p)))) (dFeud D (kv (tk X p)) (kv (tk X (kn (tk X p)))))) = v at e4 rb1 ⊢
        obtain ⟨a5, a6⟩ := lay_k L3 (a := 1) (t := 5) (n := 8) rfl
        obtain ⟨a7, a8⟩ := lay_k L2 (a := 8) (t := 6) (n := 8) rfl
        obtain ⟨k1, j1⟩ := lay_k L0 (a := 1) (t := 5) (n := 8) rfl; obtain ⟨k8, j8⟩ := lay_k L0 (a := 8) (t := 6) (n := 8) rfl
        rw [en_41]
        simp (disch := (first | omega | (simp only [kd_sI, kd_sL, kd_sR, kd_cp, kd_aI]; omega) | (unfold catV; exact rfl) | (unfold catS; exact Nat.le_of_ble_eq_true rfl) | assumption)) only [q_41_0, q_41_1, q_41_2, q_41_3, q_41_6, q_41_7, q_41_8, q_41_11_t, q_41_11_f, q_41_14, q_41_15, q_41_16, q_41_17, q_41_20, q_41_21, q_41_22, q_41_23, q_41_24, q_41_27, q_41_28, q_41_29, q_41_32_t, q_41_32_f, q_41_35, q_41_36, q_41_39, q_41_40_t, q_41_40_f, q_41_43, q_41_44, q_41_45, q_41_46, q_41_47, q_41_48, q_41_51, q_41_54, q_41_55, q_41_58, aft_i, aft_l, aft_v, Int.toNat_natCast, kd_sI, kd_sL, kd_sR, kd_cp, gI_sL, gI_sR, gL_sI, gL_sR, gR_sI, gR_sL, gL_cp, gR_cp, kd_aI, gL_aI, gR_aI, gI_aI, gI_aIn, sI_aI, gI_sIn, Int.reduceToNat, Int.reduceAdd, Int.reduceSub, Int.reduceMul, Int.reduceNeg, Int.zero_add, m1, e1, v1, n1, e2, v2, e3, e4]
    · rw [if_neg b2] at e2
      rw [if_neg (fun y => b2 y.1)]
      refine ⟨g2, ?_, cst_cp s12, c2.2.1⟩
      obtain ⟨k1, j1⟩ := lay_k L0 (a := 1) (t := 5) (n := 8) rfl; obtain ⟨k8, j8⟩ := lay_k L0 (a := 8) (t := 6) (n := 8) rfl
      rw [en_41]
      simp (disch := (first | omega | (simp only [kd_sI, kd_sL, kd_sR, kd_cp, kd_aI]; omega) | (unfold catV; exact rfl) | (unfold catS; exact Nat.le_of_ble_eq_true rfl) | assumption)) only [q_41_0, q_41_1, q_41_2, q_41_3, q_41_6, q_41_7, q_41_8, q_41_11_t, q_41_11_f, q_41_14, q_41_15, q_41_16, q_41_17, q_41_20, q_41_21, q_41_22, q_41_23, q_41_24, q_41_27, q_41_28, q_41_29, q_41_32_t, q_41_32_f, q_41_35, q_41_36, q_41_39, q_41_40_t, q_41_40_f, q_41_43, q_41_44, q_41_45, q_41_46, q_41_47, q_41_48, q_41_51, q_41_54, q_41_55, q_41_58, aft_i, aft_l, aft_v, Int.toNat_natCast, kd_sI, kd_sL, kd_sR, kd_cp, gI_sL, gI_sR, gL_sI, gL_sR, gR_sI, gR_sL, gL_cp, gR_cp, kd_aI, gL_aI, gR_aI, gI_aI, gI_aIn, sI_aI, gI_sIn, Int.reduceToNat, Int.reduceAdd, Int.reduceSub, Int.reduceMul, Int.reduceNeg, Int.zero_add, m1, e1, v1, n1, e2]
      rfl
  · rw [if_neg b1] at e1 ⊢
    refine ⟨g1, ?_, cst_cp s1, c1.2.1⟩
    obtain ⟨k1, j1⟩ := lay_k L0 (a := 1) (t := 5) (n := 8) rfl; obtain ⟨k8, j8⟩ := lay_k L0 (a := 8) (t := 6) (n := 8) rfl
    rw [en_41]
    simp (disch := (first | omega | (simp only [kd_sI, kd_sL, kd_sR, kd_cp, kd_aI]; omega) | (unfold catV; exact rfl) | (unfold catS; exact Nat.le_of_ble_eq_true rfl) | assumption)) only [q_41_0, q_41_1, q_41_2, q_41_3, q_41_6, q_41_7, q_41_8, q_41_11_t, q_41_11_f, q_41_14, q_41_15, q_41_16, q_41_17, q_41_20, q_41_21, q_41_22, q_41_23, q_41_24, q_41_27, q_41_28, q_41_29, q_41_32_t, q_41_32_f, q_41_35, q_41_36, q_41_39, q_41_40_t, q_41_40_f, q_41_43, q_41_44, q_41_45, q_41_46, q_41_47, q_41_48, q_41_51, q_41_54, q_41_55, q_41_58, aft_i, aft_l, aft_v, Int.toNat_natCast, kd_sI, kd_sL, kd_sR, kd_cp, gI_sL, gI_sR, gL_sI, gL_sR, gR_sI, gR_sL, gL_cp, gR_cp, kd_aI, gL_aI, gR_aI, gI_aI, gI_aIn, sI_aI, gI_sIn, Int.reduceToNat, Int.reduceAdd, Int.reduceSub, Int.reduceMul, Int.reduceNeg, Int.zero_add, m1, e1]
    rfl
