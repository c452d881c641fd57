def rgF (h g : mH) (b : Nat) : Prop := g.1 = h.1 ∧ gR g = gR h ∧ (∀ q k, ¬ (b ≤ q ∧ q ≤ b + 34) → gI g q k = gI h q k) ∧ (∀ q k, ¬ (b ≤ q ∧ q ≤ b + 34) → gL g q k = gL h q k)
theorem rgF_rf (h : mH) (b : Nat) : rgF h h b := ⟨rfl, rfl, fun _ _ _ => rfl, fun _ _ _ => rfl⟩
theorem rgF_tr {h g k : mH} {b : Nat} (x : rgF h g b) (y : rgF g k b) : rgF h k b := ⟨y.1.trans x.1, y.2.1.trans x.2.1, fun q j n => (y.2.2.1 q j n).trans (x.2.2.1 q j n), fun q j n => (y.2.2.2 q j n).trans (x.2.2.2 q j n)⟩
theorem nbF_rg {h g : mH} {a b : Nat} (f : nbF h g a) (n : b ≤ a ∧ a + 2 ≤ b + 34) : rgF h g b := ⟨f.1, f.2.1, fun q k m => f.2.2.1 q k (by omega), fun q k m => f.2.2.2 q k (by omega)⟩
abbrev sB (b : Nat) : Prop := b = 13 ∨ b = 49 ∨ b = 84
theorem scK {h : mH} (L : LAY h) {b : Nat} (hb : sB b) : ((kd h b).1 = 4 ∧ (kd h b).2 = 4) ∧ ((kd h (b + 4)).1 = 103 ∧ (kd h (b + 4)).2 = 10) ∧ gR h b 0 = some (b + 1) ∧ gR h b 1 = some (b + 4) := by
  rcases hb with e | e | e <;> subst e
  all_goals exact ⟨lay_k L rfl, lay_k L rfl, lay_r L rfl, lay_r L rfl⟩
theorem wSb_loop (d : Nat) (b1 b2 : Nat) (h1 : sB b1) (h2 : sB b2) (ne : b1 ≠ b2) (T : Td) (N : Nt) (P : List Nt) (wT : wfT T) (wW : wfW T N P) (π1 π2 : Nat → Nat) : ∀ (k i : Nat) (h : mH), LAY h → i + k = P.length → pmA h b1 π1 → scA h b2 π2 T N P → (∀ j (q : j < P.length), j < i → ntA h (b1 + 5 + 3 * π1 j) T P[j]) → ∃ g, resA (callA (d + 1)) 31 (13, [Sum.inr (Sum.inr (some b1)), Sum.inr (Sum.inr (some b2)), Sum.inl (i : Int)], [], h) = resA (callA (d + 1)) 31 (42, [Sum.inr (Sum.inr (some b1)), Sum.inr (Sum.inr (some b2)), Sum.inl (P.length : Int)], [], g) ∧ rgF h g b1 ∧ (∀ q k, q ≤ b1 + 4 → gI g q k = gI h q k) ∧ (∀ q k, q ≤ b1 + 4 → gL g q k = gL h q k) ∧ ∀ j (q : j < P.length), ntA g (b1 + 5 + 3 * π1 j) T P[j]
  | 0, i, h, L, hi, p1, s2, v => by
    have e : i = P.length := hi
    subst e
    refine ⟨h, ?_, rgF_rf h b1, fun _ _ _ => rfl, fun _ _ _ => rfl, fun j q => v j q q⟩
    obtain ⟨⟨m1, m2⟩, -⟩ := scK L h2
    have m3 := s2.2.2.1
    have l10 := s2.2.2.2.1
    simp (disch := (first | omega | (simp only [kd_sI, kd_sL, kd_sR, kd_cp, kd_aI]; omega) | (unfold catV; exact rfl) | (unfold catS; exact Nat.le_of_ble_eq_true rfl) | assumption)) only [q_31_0, q_31_1, q_31_4, q_31_5, q_31_8, q_31_11, q_31_12, q_31_13, q_31_14, q_31_15, q_31_18_t, q_31_18_f, q_31_21, q_31_22, q_31_25, q_31_26, q_31_27, q_31_28, q_31_31, q_31_32, q_31_33, q_31_36, q_31_39, q_31_43, q_31_44, q_31_47, q_31_50, aft_i, aft_l, aft_v, Int.toNat_natCast, kd_sI, kd_sL, kd_sR, kd_cp, gI_sL, gI_sR, gL_sI, gL_sR, gR_sI, gR_sL, gL_cp, gR_cp, kd_aI, gL_aI, gR_aI, gI_aI, gI_aIn, sI_aI, gI_sIn, Int.reduceToNat, Int.reduceAdd, Int.reduceSub, Int.reduceMul, Int.reduceNeg, Int.zero_add, m3]
  | k + 1, i, h, L, hi, p1, s2, v => by
    have l10 := s2.2.2.2.1
    have i1 := p1.1 i (by omega)
    have i2 := s2.1.1 i (by omega)
    have n1 := nAd_past L h1 i1.1
    have n2 := nAd_past L h2 i2.1
    have far : b1 + 35 ≤ b2 ∨ b2 + 35 ≤ b1 := by unfold sB at h1 h2; omega
    obtain ⟨g1, e1, f1, w1⟩ := wBec_ok d h (b1 + 5 + 3 * π1 i) (b2 + 5 + 3 * π2 i) (by omega) n1 n2
    have L1 := nbF_L f1 L
    have wQ := wW.2 P[i] (List.getElem_mem (by omega))
    have nq := w1 T P[i] wT.1 (Nat.le_trans wQ.1 wT.1) (s2.2.2.2.2 i (by omega))
    have r1 := nbF_rg (b := b1) f1 (by omega)
    have p1' : pmA g1 b1 π1 := ⟨fun j hj => ⟨(p1.1 j hj).1, by rw [f1.2.1]; exact (p1.1 j hj).2⟩, p1.2⟩
    have s2' : scA g1 b2 π2 T N P := scA_cg (fun q k x y => r1.2.2.1 q k (by omega)) (fun q k x y => r1.2.2.2 q k (by omega)) (fun k => by rw [f1.2.1]) s2
    obtain ⟨g, e2, r2, x2, y2, v2⟩ := wSb_loop d b1 b2 h1 h2 ne T N P wT wW π1 π2 k (i + 1) g1 L1 (by omega) p1' s2' (fun j q hj => by
      by_cases z : j = i
      · subst z; exact nq
      · have ne2 : π1 j ≠ π1 i := fun y => z (p1.2 j i (by omega) (by omega) y)
        exact nbF_nt f1 (by omega) (v j q (by omega)))
    refine ⟨g, ?_, rgF_tr r1 r2, fun q k hq => (x2 q k hq).trans (f1.2.2.1 q k (by omega)), fun q k hq => (y2 q k hq).trans (f1.2.2.2 q k (by omega)), v2⟩
    obtain ⟨⟨m1, m2⟩, ⟨m3, m4⟩, m5, m6⟩ := scK L h1
    obtain ⟨⟨u1, u2⟩, ⟨u3, u4⟩, u5, u6⟩ := scK L h2
    have m7 := s2.2.2.1
    have q1 := i1.2
    have q2 := i2.2
    obtain ⟨⟨a1, a2⟩, -⟩ := n1
    rw [q_31_13]
    simp (disch := (first | omega | (simp only [kd_sI, kd_sL, kd_sR, kd_cp, kd_aI]; omega) | (unfold catV; exact rfl) | (unfold catS; exact Nat.le_of_ble_eq_true rfl) | assumption)) only [q_31_0, q_31_1, q_31_4, q_31_5, q_31_8, q_31_11, q_31_12, q_31_14, q_31_15, q_31_18_t, q_31_18_f, q_31_21, q_31_22, q_31_25, q_31_26, q_31_27, q_31_28, q_31_31, q_31_32, q_31_33, q_31_36, q_31_39, q_31_43, q_31_44, q_31_47, q_31_50, aft_i, aft_l, aft_v, Int.toNat_natCast, kd_sI, kd_sL, kd_sR, kd_cp, gI_sL, gI_sR, gL_sI, gL_sR, gR_sI, gR_sL, gL_cp, gR_cp, kd_aI, gL_aI, gR_aI, gI_aI, gI_aIn, sI_aI, gI_sIn, Int.reduceToNat, Int.reduceAdd, Int.reduceSub, Int.reduceMul, Int.reduceNeg, Int.zero_add, m7, m6, u6, q1, q2, e1]
    exact e2
theorem wSbe_ok (d : Nat) (b1 b2 : Nat) (h1 : sB b1) (h2 : sB b2) (ne : b1 ≠ b2) (T : Td) (N : Nt) (P : List Nt) (wT : wfT T) (wW : wfW T N P) (π1 π2 : Nat → Nat) (h : mH) (L : LAY h) (p1 : pmA h b1 π1) (s2 : scA h b2 π2 T N P) : ∃ g, callA (d + 2) 31 [Sum.inr (Sum.inr (some b1)), Sum.inr (Sum.inr (some b2))] h = some (none, g) ∧ rgF h g b1 ∧ scA g b1 π1 T N P ∧ gI g b1 3 = gI h b1 3 := by
  have far : b1 + 35 ≤ b2 ∨ b2 + 35 ≤ b1 := by unfold sB at h1 h2; omega
  have n1 := nAd_now L h1
  have n2 := nAd_now L h2
  obtain ⟨g1, e1, f1, w1⟩ := wBec_ok d h (b1 + 1) (b2 + 1) (by omega) n1 n2
  have L1 := nbF_L f1 L
  have nn := w1 T N wT.1 (Nat.le_trans wW.1.1 wT.1) s2.2.1
  have r1 := nbF_rg (b := b1) f1 (by omega)
  have p1' : pmA g1 b1 π1 := ⟨fun j hj => ⟨(p1.1 j hj).1, by rw [f1.2.1]; exact (p1.1 j hj).2⟩, p1.2⟩
  have s2' : scA g1 b2 π2 T N P := scA_cg (fun q k x y => r1.2.2.1 q k (by omega)) (fun q k x y => r1.2.2.2 q k (by omega)) (fun k => by rw [f1.2.1]) s2
  obtain ⟨g2, e2, r2, x2, y2, v2⟩ := wSb_loop d b1 b2 h1 h2 ne T N P wT wW π1 π2 P.length 0 g1 L1 (Nat.zero_add _) p1' s2' (fun j q hj => absurd hj (Nat.not_lt_zero _))
  have L2 : LAY g2 := lay_keep L1 r2.1 r2.2.1
  rw [show ((0 : Nat) : Int) = 0 from rfl] at e2
  have m2 : gI g2 b2 2 = P.length := by rw [r2.2.2.1 b2 2 (by omega), r1.2.2.1 b2 2 (by omega)]; exact s2.2.2.1
  refine ⟨sI g2 b1 2 (P.length : Nat), ?_, rgF_tr r1 (rgF_tr r2 ⟨rfl, rfl, fun q k n => by rw [gI_sI, if_neg (by omega)], fun _ _ _ => rfl⟩), ⟨⟨fun j hj => ⟨(p1.1 j hj).1, ?_⟩, p1.2⟩, ?_, ?_, s2.2.2.2.1, fun j q => ?_⟩, ?_⟩
  · obtain ⟨⟨m1, m3⟩, -, m5, m6⟩ := scK L h1
    obtain ⟨⟨u1, u3⟩, -, u5, u6⟩ := scK L h2
    obtain ⟨⟨v1, v3⟩, -⟩ := scK L2 h1
    obtain ⟨⟨t1, t3⟩, -⟩ := scK L2 h2
    obtain ⟨⟨a1, a2⟩, -⟩ := n1
    rw [en_31]
    simp (disch := (first | omega | (simp only [kd_sI, kd_sL, kd_sR, kd_cp, kd_aI]; omega) | (unfold catV; exact rfl) | (unfold catS; exact Nat.le_of_ble_eq_true rfl) | assumption)) only [q_31_0, q_31_1, q_31_4, q_31_5, q_31_8, q_31_11, q_31_12, q_31_14, q_31_15, q_31_18_t, q_31_18_f, q_31_21, q_31_22, q_31_25, q_31_26, q_31_27, q_31_28, q_31_31, q_31_32, q_31_33, q_31_36, q_31_39, q_31_43, q_31_44, q_31_47, q_31_50, aft_i, aft_l, aft_v, Int.toNat_natCast, kd_sI, kd_sL, kd_sR, kd_cp, gI_sL, gI_sR, gL_sI, gL_sR, gR_sI, gR_sL, gL_cp, gR_cp, kd_aI, gL_aI, gR_aI, gI_aI, gI_aIn, sI_aI, gI_sIn, Int.reduceToNat, Int.reduceAdd, Int.reduceSub, Int.reduceMul, Int.reduceNeg, Int.zero_add, m5, u5, e1]
    rw [e2]
    simp (disch := (first | omega | (simp only [kd_sI, kd_sL, kd_sR, kd_cp, kd_aI]; omega) | (unfold catV; exact rfl) | (unfold catS; exact Nat.le_of_ble_eq_true rfl) | assumption)) only [q_31_0, q_31_1, q_31_4, q_31_5, q_31_8, q_31_11, q_31_12, q_31_14, q_31_15, q_31_18_t, q_31_18_f, q_31_21, q_31_22, q_31_25, q_31_26, q_31_27, q_31_28, q_31_31, q_31_32, q_31_33, q_31_36, q_31_39, q_31_42, q_31_43, q_31_44, q_31_47, q_31_50, aft_i, aft_l, aft_v, Int.toNat_natCast, kd_sI, kd_sL, kd_sR, kd_cp, gI_sL, gI_sR, gL_sI, gL_sR, gR_sI, gR_sL, gL_cp, gR_cp, kd_aI, gL_aI, gR_aI, gI_aI, gI_aIn, sI_aI, gI_sIn, Int.reduceToNat, Int.reduceAdd, Int.reduceSub, Int.reduceMul, Int.reduceNeg, Int.zero_add, m2]
  · show gR g2 _ _ = _
    rw [r2.2.1, f1.2.1]; exact (p1.1 j hj).2
  · refine ntA_s (by omega) ?_
    obtain ⟨a1, a2, a3, a4, a5⟩ := nn
    exact ⟨by rw [x2 _ _ (by omega)]; exact a1, by rw [x2 _ _ (by omega)]; exact a2, by rw [y2 _ _ (by omega)]; exact a3, fun i hi => by rw [x2 _ _ (by omega)]; exact a4 i hi, fun c hc => by rw [x2 _ _ (by omega)]; exact a5 c hc⟩
  · rw [gI_sIs]
  · exact ntA_s (by omega) (v2 j q)
  · rw [gI_sIo (by omega), x2 _ _ (by omega), r1.1 |> fun _ => f1.2.2.1 b1 3 (by omega)]
