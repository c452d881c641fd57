/-- only the live scene's past and night -/
def lvF (h g : mH) : Prop := g.1 = h.1 ∧ (∀ q k, ¬ (q = 13 ∧ k = 2) → ¬ (14 ≤ q ∧ q ≤ 47) → gI g q k = gI h q k) ∧ (∀ q k, ¬ (14 ≤ q ∧ q ≤ 47) → gL g q k = gL h q k) ∧ (∀ q k, q ≠ 17 → gR g q k = gR h q k)
theorem lvF_tr {h g k : mH} (a : lvF h g) (b : lvF g k) : lvF h k := ⟨b.1.trans a.1, fun q j n m => (b.2.1 q j n m).trans (a.2.1 q j n m), fun q j n => (b.2.2.1 q j n).trans (a.2.2.1 q j n), fun q j n => (b.2.2.2 q j n).trans (a.2.2.2 q j n)⟩
theorem lvF_rf (h : mH) : lvF h h := ⟨rfl, fun _ _ _ _ => rfl, fun _ _ _ => rfl, fun _ _ _ => rfl⟩
theorem lvF_L {h g : mH} (a : lvF h g) (L : LAY h) : LAY g := lay_R L a.1 a.2.2.2
theorem nbF_lv {h g : mH} {a : Nat} (n : 14 ≤ a ∧ a ≤ 45) (f : nbF h g a) : lvF h g := ⟨f.1, fun q k _ m => f.2.2.1 q k (by omega), fun q k m => f.2.2.2 q k (by omega), fun q k _ => by rw [f.2.1]⟩
theorem ntA_cg {h g : mH} {a : Nat} {T : Td} {N : Nt} (e1 : ∀ q k, a ≤ q → q ≤ a + 2 → gI g q k = gI h q k) (e2 : gL g a 4 = gL h a 4) (m : ntA h a T N) : ntA g a T N := by
  obtain ⟨m1, m2, m3, m4, m5⟩ := m
  refine ⟨?_, ?_, ?_, fun i hi => ?_, fun c hc => ?_⟩
  · rw [e1 a 2 (by omega) (by omega)]; exact m1
  · rw [e1 a 3 (by omega) (by omega)]; exact m2
  · rw [e2]; exact m3
  · rw [e1 (a + 1) i (by omega) (by omega)]; exact m4 i hi
  · rw [e1 (a + 2) c (by omega) (by omega)]; exact m5 c hc
theorem ntA_s {h : mH} {a q k : Nat} {x : Int} {T : Td} {N : Nt} (n : q < a ∨ a + 2 < q) (m : ntA h a T N) : ntA (sI h q k x) a T N := ntA_cg (h := h) (g := sI h q k x) (fun p j y1 y2 => by rw [gI_sI, if_neg (by omega)]) rfl m
theorem lvF_13 (h : mH) (x : Int) : lvF h (sI h 13 2 x) := ⟨rfl, fun q k y _ => by rw [gI_sI, if_neg y], fun _ _ _ => rfl, fun _ _ _ => rfl⟩
theorem wRem_b (d : Nat) (h : mH) (L : LAY h) (T : Td) (N : Nt) (P : List Nt) (wT : wfT T) (wW : wfW T N P) (π : Nat → Nat) (s : scA h 13 π T N P) (hl : P.length < 10) : ∃ g, resA (callA (d + 1)) 32 (13, [Sum.inr (Sum.inr (some 13))], [], h) = some (none, g) ∧ scA g 13 π T N (P ++ [N]) ∧ lvF h g ∧ ntA g 14 T N := by
  obtain ⟨p, n, m, l10, pa⟩ := s
  have pj := p.1 P.length hl
  have n7 : nM N ≤ 7 := Nat.le_trans wW.1.1 wT.1
  have nd := nAd_past L (b := 13) (Or.inl rfl) pj.1
  have nn := nAd_now L (b := 13) (Or.inl rfl)
  obtain ⟨g1, e1, f1, v1⟩ := wBec_ok d h (13 + 5 + 3 * π P.length) 14 (by omega) nd nn
  have L1 := nbF_L f1 L
  have lv1 := nbF_lv (show 14 ≤ 13 + 5 + 3 * π P.length ∧ 13 + 5 + 3 * π P.length ≤ 45 by have := pj.1; omega) f1
  have m1 : gI g1 13 2 = P.length := by rw [f1.2.2.1 13 2 (by omega)]; exact m
  have p1 : pmA g1 13 π := ⟨fun i hi => ⟨(p.1 i hi).1, by rw [f1.2.1]; exact (p.1 i hi).2⟩, p.2⟩
  have n1 : ntA g1 14 T N := nbF_nt f1 (by omega) n
  refine ⟨sI g1 13 2 ((P.length : Int) + 1), ?_, ⟨p1, ?_, ?_, ?_, fun j q => ?_⟩, ?_, ?_⟩
  · have rj : gR h 17 P.length = some (13 + 5 + 3 * π P.length) := pj.2
    obtain ⟨⟨a1, a2⟩, -⟩ := nd
    obtain ⟨m3, m4⟩ := lay_k L1 (a := 13) (t := 4) (n := 4) rfl
    obtain ⟨k13, j13⟩ := lay_k L (a := 13) (t := 4) (n := 4) rfl; obtain ⟨k17, j17⟩ := lay_k L (a := 17) (t := 103) (n := 10) rfl; have r13_0 : gR h 13 0 = some 14 := lay_r L rfl; have r13_1 : gR h 13 1 = some 17 := lay_r L rfl
    simp (disch := (first | omega | (simp only [kd_sI, kd_sL, kd_sR, kd_cp, kd_aI]; omega) | (unfold catV; exact rfl) | (unfold catS; exact Nat.le_of_ble_eq_true rfl) | assumption)) only [q_32_0, q_32_1, q_32_4, q_32_6_t, q_32_6_f, q_32_9, q_32_10, q_32_13, q_32_14, q_32_17, q_32_18, q_32_21, q_32_22, q_32_23, q_32_26, q_32_29, q_32_30, q_32_31, q_32_34, q_32_35, q_32_36, q_32_39, aft_i, aft_l, aft_v, Int.toNat_natCast, kd_sI, kd_sL, kd_sR, kd_cp, gI_sL, gI_sR, gL_sI, gL_sR, gR_sI, gR_sL, gL_cp, gR_cp, kd_aI, gL_aI, gR_aI, gI_aI, gI_aIn, sI_aI, gI_sIn, Int.reduceToNat, Int.reduceAdd, Int.reduceSub, Int.reduceMul, Int.reduceNeg, Int.zero_add, m, r13_0, r13_1, rj, e1, m1]
  · exact ntA_s (by omega) n1
  · rw [gI_sIs, List.length_append]; rfl
  · rw [List.length_append]; show P.length + 1 ≤ 10; omega
  · have q2 : j < P.length + 1 := by rw [List.length_append] at q; exact q
    have key : ntA g1 (13 + 5 + 3 * π j) T (P ++ [N])[j] := by
      by_cases z : j < P.length
      · rw [List.getElem_append_left z]
        have ne : π j ≠ π P.length := fun y => by have := p.2 j P.length (by omega) hl y; omega
        exact nbF_nt f1 (by omega) (pa j z)
      · have ej : j = P.length := by omega
        subst ej
        rw [List.getElem_append_right (Nat.le_refl _)]
        simp only [Nat.sub_self, List.getElem_cons_zero]
        exact v1 T N wT.1 n7 n
    have := (p.1 j (by omega)).1
    exact ntA_s (by omega) key
  · exact lvF_tr lv1 (lvF_13 g1 _)
  · exact ntA_s (by omega) n1
theorem wRem_ok (d : Nat) (h : mH) (L : LAY h) (T : Td) (N : Nt) (P : List Nt) (wT : wfT T) (wW : wfW T N P) (π : Nat → Nat) (s : scA h 13 π T N P) : ∃ g π2, callA (d + 2) 32 [Sum.inr (Sum.inr (some 13))] h = some (none, g) ∧ scA g 13 π2 T N (knP P N) ∧ lvF h g ∧ ntA g 14 T N := by
  have m := s.2.2.1
  have l10 := s.2.2.2.1
  by_cases z : P.length = 10
  · obtain ⟨g1, π2, e1, ⟨s1, s2, s3⟩, f, p2, pe⟩ := wLo_ok d h L π s.1
    have L1 := lay_R L s1 f
    have L2 : LAY (sI g1 13 2 9) := lay_sI L1 _ _ _
    have eI : ∀ q k, ¬ (q = 13 ∧ k = 2) → gI (sI g1 13 2 9) q k = gI h q k := fun q k n => by rw [gI_sI, if_neg n, s2]
    have tl : P.tail.length = 9 := by rw [List.length_tail, z]
    have nt : ∀ {a : Nat} {M : Nt}, 14 ≤ a → ntA h a T M → ntA (sI g1 13 2 9) a T M := fun ha x => ntA_cg (fun q k y1 y2 => eI q k (by omega)) (by show gL g1 _ 4 = _; rw [s3]) x
    have sc : scA (sI g1 13 2 9) 13 π2 T N P.tail := by
      refine ⟨p2, nt (by omega) s.2.1, ?_, by omega, fun j q => ?_⟩
      · rw [gI_sIs, tl]; rfl
      · have q2 : j < 9 := by omega
        rw [pe j q2, List.getElem_tail]
        exact nt (by omega) (s.2.2.2.2 (j + 1) (by omega))
    have wW2 : wfW T N P.tail := ⟨wW.1, fun Q hQ => wW.2 Q (List.mem_of_mem_tail hQ)⟩
    obtain ⟨g2, e2, s4, f4, n4⟩ := wRem_b d _ L2 T N P.tail wT wW2 π2 sc (by omega)
    refine ⟨g2, π2, ?_, ?_, lvF_tr (g := sI g1 13 2 9) ⟨s1, fun q k x _ => eI q k x, fun q k _ => by show gL g1 q k = _; rw [s3], f⟩ f4, n4⟩
    · have e10 : gI h 13 2 = 10 := by rw [m, z]; rfl
      obtain ⟨k13, j13⟩ := lay_k L (a := 13) (t := 4) (n := 4) rfl
      rw [en_32]
      simp (disch := (first | omega | (simp only [kd_sI, kd_sL, kd_sR, kd_cp, kd_aI]; omega) | (unfold catV; exact rfl) | (unfold catS; exact Nat.le_of_ble_eq_true rfl) | assumption)) only [q_32_0, q_32_1, q_32_4, q_32_6_t, q_32_6_f, q_32_9, q_32_10, q_32_14, q_32_17, q_32_18, q_32_21, q_32_22, q_32_23, q_32_26, q_32_29, q_32_30, q_32_31, q_32_34, q_32_35, q_32_36, q_32_39, aft_i, aft_l, aft_v, Int.toNat_natCast, kd_sI, kd_sL, kd_sR, kd_cp, gI_sL, gI_sR, gL_sI, gL_sR, gR_sI, gR_sL, gL_cp, gR_cp, kd_aI, gL_aI, gR_aI, gI_aI, gI_aIn, sI_aI, gI_sIn, Int.reduceToNat, Int.reduceAdd, Int.reduceSub, Int.reduceMul, Int.reduceNeg, Int.zero_add, e10, e1]
      exact e2
    · unfold knP
      rw [if_pos z]
      exact s4
  · obtain ⟨g2, e2, s4, f4, n4⟩ := wRem_b d h L T N P wT wW π s (by omega)
    refine ⟨g2, π, ?_, ?_, f4, n4⟩
    · obtain ⟨k13, j13⟩ := lay_k L (a := 13) (t := 4) (n := 4) rfl
      rw [en_32]
      simp (disch := (first | omega | (simp only [kd_sI, kd_sL, kd_sR, kd_cp, kd_aI]; omega) | (unfold catV; exact rfl) | (unfold catS; exact Nat.le_of_ble_eq_true rfl) | assumption)) only [q_32_0, q_32_1, q_32_4, q_32_6_t, q_32_6_f, q_32_9, q_32_10, q_32_14, q_32_17, q_32_18, q_32_21, q_32_22, q_32_23, q_32_26, q_32_29, q_32_30, q_32_31, q_32_34, q_32_35, q_32_36, q_32_39, aft_i, aft_l, aft_v, Int.toNat_natCast, kd_sI, kd_sL, kd_sR, kd_cp, gI_sL, gI_sR, gL_sI, gL_sR, gR_sI, gR_sL, gL_cp, gR_cp, kd_aI, gL_aI, gR_aI, gI_aI, gI_aIn, sI_aI, gI_sIn, Int.reduceToNat, Int.reduceAdd, Int.reduceSub, Int.reduceMul, Int.reduceNeg, Int.zero_add, m]
      exact e2
    · unfold knP
      rw [if_neg z]
      exact s4
theorem wRec_ok (d : Nat) (h : mH) (L : LAY h) (T : Td) (N : Nt) (P : List Nt) (wT : wfT T) (wW : wfW T N P) (π : Nat → Nat) (s : scA h 13 π T N P) : (P.getLast? = none ∧ callA (d + 2) 34 [Sum.inr (Sum.inr (some 13))] h = some (some (Sum.inl 0), h)) ∨ ∃ Q g, P.getLast? = some Q ∧ callA (d + 2) 34 [Sum.inr (Sum.inr (some 13))] h = some (some (Sum.inl 1), g) ∧ scA g 13 π T Q P.dropLast ∧ lvF h g := by
  obtain ⟨p, n, m, l10, pa⟩ := s
  rcases List.eq_nil_or_concat P with z | ⟨P2, Q, z⟩
  · subst z
    left
    refine ⟨rfl, ?_⟩
    have m0 : gI h 13 2 = 0 := m
    obtain ⟨k13, j13⟩ := lay_k L (a := 13) (t := 4) (n := 4) rfl
    rw [en_34]
    simp (disch := (first | omega | (simp only [kd_sI, kd_sL, kd_sR, kd_cp, kd_aI]; omega) | (unfold catV; exact rfl) | (unfold catS; exact Nat.le_of_ble_eq_true rfl) | assumption)) only [q_34_0, q_34_1, q_34_4, q_34_5_t, q_34_5_f, q_34_8, q_34_9, q_34_10, q_34_11, q_34_12, q_34_15, q_34_16, q_34_17, q_34_20, q_34_21, q_34_24, q_34_25, q_34_28, q_34_29, q_34_32, q_34_33, q_34_36, q_34_37, aft_i, aft_l, aft_v, Int.toNat_natCast, kd_sI, kd_sL, kd_sR, kd_cp, gI_sL, gI_sR, gL_sI, gL_sR, gR_sI, gR_sL, gL_cp, gR_cp, kd_aI, gL_aI, gR_aI, gI_aI, gI_aIn, sI_aI, gI_sIn, Int.reduceToNat, Int.reduceAdd, Int.reduceSub, Int.reduceMul, Int.reduceNeg, Int.zero_add, m0]
  · rw [List.concat_eq_append] at z
    subst z
    right
    have lm : (P2 ++ [Q]).length = P2.length + 1 := by rw [List.length_append]; rfl
    rw [lm] at m l10
    have pj := p.1 P2.length (by omega)
    have hQ : Q ∈ P2 ++ [Q] := List.mem_append_right _ List.mem_cons_self
    have wQ := wW.2 Q hQ
    have n7 : nM Q ≤ 7 := Nat.le_trans wQ.1 wT.1
    have s1 : LAY (sI h 13 2 (P2.length : Nat)) := lay_sI L _ _ _
    have nd := nAd_past s1 (b := 13) (Or.inl rfl) pj.1
    have nn := nAd_now s1 (b := 13) (Or.inl rfl)
    obtain ⟨g1, e1, f1, v1⟩ := wBec_ok d (sI h 13 2 (P2.length : Nat)) 14 (13 + 5 + 3 * π P2.length) (by omega) nn nd
    have nq : ntA (sI h 13 2 (P2.length : Nat)) (13 + 5 + 3 * π P2.length) T Q := by
      have := pa P2.length (by rw [lm]; omega)
      rw [List.getElem_append_right (Nat.le_refl _)] at this
      simp only [Nat.sub_self, List.getElem_cons_zero] at this
      exact ntA_s (by omega) this
    refine ⟨Q, g1, by rw [List.getLast?_append]; rfl, ?_, ⟨⟨fun i hi => ⟨(p.1 i hi).1, by rw [f1.2.1]; exact (p.1 i hi).2⟩, p.2⟩, v1 T Q wT.1 n7 nq, ?_, ?_, fun j q => ?_⟩, ?_⟩
    · have rj : gR (sI h 13 2 (P2.length : Nat)) 17 P2.length = some (13 + 5 + 3 * π P2.length) := pj.2
      have em : gI h 13 2 = (P2.length : Int) + 1 := m
      obtain ⟨⟨a1, a2⟩, -⟩ := nn
      have a1 : (kd (sI h 13 2 (P2.length : Nat)) 14).1 = 2 := a1
      have a2 : (kd (sI h 13 2 (P2.length : Nat)) 14).2 = 5 := a2
      have e0 : (P2.length : Int) + 1 - 1 = (P2.length : Int) := by omega
      obtain ⟨k13, j13⟩ := lay_k L (a := 13) (t := 4) (n := 4) rfl; obtain ⟨k14, j14⟩ := lay_k L (a := 14) (t := 2) (n := 5) rfl; obtain ⟨k17, j17⟩ := lay_k L (a := 17) (t := 103) (n := 10) rfl; have r13_0 : gR h 13 0 = some 14 := lay_r L rfl; have r13_1 : gR h 13 1 = some 17 := lay_r L rfl
      rw [en_34]
      simp (disch := (first | omega | (simp only [kd_sI, kd_sL, kd_sR, kd_cp, kd_aI]; omega) | (unfold catV; exact rfl) | (unfold catS; exact Nat.le_of_ble_eq_true rfl) | assumption)) only [q_34_0, q_34_1, q_34_4, q_34_5_t, q_34_5_f, q_34_8, q_34_9, q_34_10, q_34_11, q_34_12, q_34_15, q_34_16, q_34_17, q_34_20, q_34_21, q_34_24, q_34_25, q_34_28, q_34_29, q_34_32, q_34_33, q_34_36, q_34_37, aft_i, aft_l, aft_v, Int.toNat_natCast, kd_sI, kd_sL, kd_sR, kd_cp, gI_sL, gI_sR, gL_sI, gL_sR, gR_sI, gR_sL, gL_cp, gR_cp, kd_aI, gL_aI, gR_aI, gI_aI, gI_aIn, sI_aI, gI_sIn, Int.reduceToNat, Int.reduceAdd, Int.reduceSub, Int.reduceMul, Int.reduceNeg, Int.zero_add, em, e0, r13_0, r13_1, gI_sIs, rj, e1]
    · rw [f1.2.2.1 13 2 (by omega), gI_sIs, List.dropLast_concat]
    · rw [List.dropLast_concat]; omega
    · have q2 : j < P2.length := by rw [List.dropLast_concat] at q; exact q
      have x := pa j (by rw [lm]; omega)
      rw [List.getElem_append_left q2] at x
      have ej : (P2 ++ [Q]).dropLast[j] = P2[j] := by simp only [List.dropLast_concat]
      rw [ej]
      exact nbF_nt f1 (by omega) (ntA_s (by omega) x)
    · exact lvF_tr (lvF_13 h _) (nbF_lv (by omega) f1)
