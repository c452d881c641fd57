theorem gnd_K {X : List Int} : ∀ (f p : Nat) (D : Dr), tK (dT D) ≤ tK (dT (gnd X f p D).2) ∧ dF (gnd X f p D).2 = dF D
  | 0, p, D => ⟨Nat.le_refl _, rfl⟩
  | f + 1, p, D => by
    unfold gnd
    split
    next k hk =>
      split
      · obtain ⟨a, b⟩ := gnd_K f (kn (tk X p)) (dCell D k)
        have a : tK (dT D) + 1 ≤ _ := a
        exact ⟨by omega, b⟩
      · exact ⟨Nat.le_refl _, rfl⟩
    · exact ⟨Nat.le_refl _, rfl⟩
theorem gnd_pos {X : List Int} {p : Nat} {D : Dr} (h : (grO (kk (tk X p))).isSome = true) (h0 : tK (dT D) = 0) : 0 < tK (dT (gnd X 40 p D).2) := by
  obtain ⟨k, hk⟩ := Option.isSome_iff_exists.mp h
  have e : gnd X 40 p D = gnd X 39 (kn (tk X p)) (dCell D k) := by
    rw [show (40 : Nat) = 39 + 1 from rfl, gnd, hk]
    dsimp only
    rw [if_pos (by omega)]
  rw [e]
  have a := (gnd_K (X := X) 39 (kn (tk X p)) (dCell D k)).1
  have a : tK (dT D) + 1 ≤ _ := a
  omega
theorem dC_grd {h : mH} {D : Dr} (w : dF D < 8) (m : dC h D) : dC h (dGrd D) := by
  obtain ⟨m1, m2, m3, m4, m5, m6, m7, m8⟩ := m
  have fl := (fl_all (dF D) w).2.2
  refine ⟨m1, m2, m3, m4, m5, m6, ?_, ?_⟩
  · show gI h 1 6 = if (dF D ||| 4) &&& 1 = 0 then 0 else 1
    rw [fl.1]; exact m7
  · show gI h 1 7 = if (dF D ||| 4) &&& 2 = 0 then 0 else 1
    rw [fl.2]; exact m8
theorem wItG_ok (d : Nat) (h : mH) (L : LAY h) (X : List Int) (p : Nat) (D : Dr) (s : Cst h X p D) (w : wfD D) (k0 : tK (dT D) = 0) : ∃ g, callA (d + 4) 44 [Sum.inr (Sum.inr (some 1)), Sum.inr (Sum.inr (some 8))] h = some (some (Sum.inl (rB (full X (itmG X p (dGrd D))))), g) ∧ CRs h g X (full X (itmG X p (dGrd D))) := by
  have L0 := L
  obtain ⟨t, hp, hl, m⟩ := s
  have m2 := m.2.1
  rw [k0] at m2
  have m2 : gI h 8 5 = 0 := m2
  obtain ⟨g1, e1, s1, c1⟩ := wTok_ok d h L X t p hp hl
  have L1 := cst_L s1 L
  have tb := tk_b t.2.2.2 hl
  obtain ⟨g2, e2, q2, b2, c2, d2⟩ := wGl_loop d X 40 p (dGrd D) g1 L1 (cst_tx s1 t) hl c1 (dC_grd w.2.2.1 (cst_dC s1 m)) (by show tK (dT D) + 40 = 40; omega)
  have L2 := cpF_L q2 L1
  have q12 := cpF_tr (cst_cp s1) q2
  have kb2 := tk_kk t.2.2.2 (gnd X 40 p (dGrd D)).1
  obtain ⟨a1, a2⟩ := lay_k L2 (a := 1) (t := 5) (n := 8) rfl
  obtain ⟨a3, a4⟩ := lay_k L2 (a := 8) (t := 6) (n := 8) rfl
  have n2 := d2.2.1
  refine ⟨g2, ?_, ?_⟩
  · unfold itmG
    obtain ⟨k1, j1⟩ := lay_k L0 (a := 1) (t := 5) (n := 8) rfl; obtain ⟨k8, j8⟩ := lay_k L0 (a := 8) (t := 6) (n := 8) rfl
    rw [en_44]
    by_cases z : (grO (kk (tk X p))).isSome = true
    · rw [if_pos z]
      have pos := gnd_pos (D := dGrd D) z k0
      have c4 := c2.2.2.1
      show _ = some (some (Sum.inl (rB (semi X (gnd X 40 p (dGrd D)).1 (gnd X 40 p (dGrd D)).2))), g2)
      unfold semi
      by_cases y : kk (tk X (gnd X 40 p (dGrd D)).1) = 2
      · rw [if_pos y]
        rw [y] at c4
        have c4 : gI g2 1 4 = 2 := c4
        simp (disch := (first | omega | (simp only [kd_sI, kd_sL, kd_sR, kd_cp, kd_aI]; omega) | (unfold catV; exact rfl) | (unfold catS; exact Nat.le_of_ble_eq_true rfl) | assumption)) only [q_44_0, q_44_1, q_44_4_t, q_44_4_f, q_44_7, q_44_8, q_44_9, q_44_10, q_44_14, q_44_17, q_44_19_t, q_44_19_f, q_44_22, q_44_23, q_44_26, q_44_28_t, q_44_28_f, q_44_31, q_44_32, q_44_33, q_44_36, q_44_39, q_44_40, q_44_43, q_44_47, q_44_50_t, q_44_50_f, q_44_53, q_44_54, q_44_57, q_44_58_t, q_44_58_f, q_44_61, q_44_62, q_44_65, q_44_66, aft_i, aft_l, aft_v, Int.toNat_natCast, kd_sI, kd_sL, kd_sR, kd_cp, gI_sL, gI_sR, gL_sI, gL_sR, gR_sI, gR_sL, gL_cp, gR_cp, kd_aI, gL_aI, gR_aI, gI_aI, gI_aIn, sI_aI, gI_sIn, Int.reduceToNat, Int.reduceAdd, Int.reduceSub, Int.reduceMul, Int.reduceNeg, Int.zero_add, m2, e1]
        rw [e2]
        simp (disch := (first | omega | (simp only [kd_sI, kd_sL, kd_sR, kd_cp, kd_aI]; omega) | (unfold catV; exact rfl) | (unfold catS; exact Nat.le_of_ble_eq_true rfl) | assumption)) only [q_44_0, q_44_1, q_44_4_t, q_44_4_f, q_44_7, q_44_8, q_44_9, q_44_10, q_44_14, q_44_17, q_44_19_t, q_44_19_f, q_44_22, q_44_23, q_44_26, q_44_28_t, q_44_28_f, q_44_31, q_44_32, q_44_33, q_44_36, q_44_39, q_44_40, q_44_43, q_44_46, q_44_47, q_44_50_t, q_44_50_f, q_44_53, q_44_54, q_44_57, q_44_58_t, q_44_58_f, q_44_61, q_44_62, q_44_65, q_44_66, aft_i, aft_l, aft_v, Int.toNat_natCast, kd_sI, kd_sL, kd_sR, kd_cp, gI_sL, gI_sR, gL_sI, gL_sR, gR_sI, gR_sL, gL_cp, gR_cp, kd_aI, gL_aI, gR_aI, gI_aI, gI_aIn, sI_aI, gI_sIn, Int.reduceToNat, Int.reduceAdd, Int.reduceSub, Int.reduceMul, Int.reduceNeg, Int.zero_add, n2, c4]
        rfl
      · rw [if_neg y]
        have c5 : gI g2 1 4 ≠ 2 := by rw [c4]; split <;> omega
        simp (disch := (first | omega | (simp only [kd_sI, kd_sL, kd_sR, kd_cp, kd_aI]; omega) | (unfold catV; exact rfl) | (unfold catS; exact Nat.le_of_ble_eq_true rfl) | assumption)) only [q_44_0, q_44_1, q_44_4_t, q_44_4_f, q_44_7, q_44_8, q_44_9, q_44_10, q_44_14, q_44_17, q_44_19_t, q_44_19_f, q_44_22, q_44_23, q_44_26, q_44_28_t, q_44_28_f, q_44_31, q_44_32, q_44_33, q_44_36, q_44_39, q_44_40, q_44_43, q_44_47, q_44_50_t, q_44_50_f, q_44_53, q_44_54, q_44_57, q_44_58_t, q_44_58_f, q_44_61, q_44_62, q_44_65, q_44_66, aft_i, aft_l, aft_v, Int.toNat_natCast, kd_sI, kd_sL, kd_sR, kd_cp, gI_sL, gI_sR, gL_sI, gL_sR, gR_sI, gR_sL, gL_cp, gR_cp, kd_aI, gL_aI, gR_aI, gI_aI, gI_aIn, sI_aI, gI_sIn, Int.reduceToNat, Int.reduceAdd, Int.reduceSub, Int.reduceMul, Int.reduceNeg, Int.zero_add, m2, e1]
        rw [e2]
        simp (disch := (first | omega | (simp only [kd_sI, kd_sL, kd_sR, kd_cp, kd_aI]; omega) | (unfold catV; exact rfl) | (unfold catS; exact Nat.le_of_ble_eq_true rfl) | assumption)) only [q_44_0, q_44_1, q_44_4_t, q_44_4_f, q_44_7, q_44_8, q_44_9, q_44_10, q_44_14, q_44_17, q_44_19_t, q_44_19_f, q_44_22, q_44_23, q_44_26, q_44_28_t, q_44_28_f, q_44_31, q_44_32, q_44_33, q_44_36, q_44_39, q_44_40, q_44_43, q_44_46, q_44_47, q_44_50_t, q_44_50_f, q_44_53, q_44_54, q_44_57, q_44_58_t, q_44_58_f, q_44_61, q_44_62, q_44_65, q_44_66, aft_i, aft_l, aft_v, Int.toNat_natCast, kd_sI, kd_sL, kd_sR, kd_cp, gI_sL, gI_sR, gL_sI, gL_sR, gR_sI, gR_sL, gL_cp, gR_cp, kd_aI, gL_aI, gR_aI, gI_aI, gI_aIn, sI_aI, gI_sIn, Int.reduceToNat, Int.reduceAdd, Int.reduceSub, Int.reduceMul, Int.reduceNeg, Int.zero_add, n2, c5]
        rfl
    · rw [if_neg z]
      have eg : gnd X 40 p (dGrd D) = (p, dGrd D) := by
        rw [show (40 : Nat) = 39 + 1 from rfl, gnd]
        cases hk : grO (kk (tk X p)) with
        | none => rfl
        | some k => rw [hk] at z; exact absurd rfl z
      rw [eg] at n2
      have n2 : gI g2 8 5 = (tK (dT D) : Nat) := n2
      rw [k0] at n2
      have n2 : gI g2 8 5 = 0 := n2
      simp (disch := (first | omega | (simp only [kd_sI, kd_sL, kd_sR, kd_cp, kd_aI]; omega) | (unfold catV; exact rfl) | (unfold catS; exact Nat.le_of_ble_eq_true rfl) | assumption)) only [q_44_0, q_44_1, q_44_4_t, q_44_4_f, q_44_7, q_44_8, q_44_9, q_44_10, q_44_14, q_44_17, q_44_19_t, q_44_19_f, q_44_22, q_44_23, q_44_26, q_44_28_t, q_44_28_f, q_44_31, q_44_32, q_44_33, q_44_36, q_44_39, q_44_40, q_44_43, q_44_47, q_44_50_t, q_44_50_f, q_44_53, q_44_54, q_44_57, q_44_58_t, q_44_58_f, q_44_61, q_44_62, q_44_65, q_44_66, aft_i, aft_l, aft_v, Int.toNat_natCast, kd_sI, kd_sL, kd_sR, kd_cp, gI_sL, gI_sR, gL_sI, gL_sR, gR_sI, gR_sL, gL_cp, gR_cp, kd_aI, gL_aI, gR_aI, gI_aI, gI_aIn, sI_aI, gI_sIn, Int.reduceToNat, Int.reduceAdd, Int.reduceSub, Int.reduceMul, Int.reduceNeg, Int.zero_add, m2, e1]
      rw [e2]
      simp (disch := (first | omega | (simp only [kd_sI, kd_sL, kd_sR, kd_cp, kd_aI]; omega) | (unfold catV; exact rfl) | (unfold catS; exact Nat.le_of_ble_eq_true rfl) | assumption)) only [q_44_0, q_44_1, q_44_4_t, q_44_4_f, q_44_7, q_44_8, q_44_9, q_44_10, q_44_14, q_44_17, q_44_19_t, q_44_19_f, q_44_22, q_44_23, q_44_26, q_44_28_t, q_44_28_f, q_44_31, q_44_32, q_44_33, q_44_36, q_44_39, q_44_40, q_44_43, q_44_46, q_44_47, q_44_50_t, q_44_50_f, q_44_53, q_44_54, q_44_57, q_44_58_t, q_44_58_f, q_44_61, q_44_62, q_44_65, q_44_66, aft_i, aft_l, aft_v, Int.toNat_natCast, kd_sI, kd_sL, kd_sR, kd_cp, gI_sL, gI_sR, gL_sI, gL_sR, gR_sI, gR_sL, gL_cp, gR_cp, kd_aI, gL_aI, gR_aI, gI_aI, gI_aIn, sI_aI, gI_sIn, Int.reduceToNat, Int.reduceAdd, Int.reduceSub, Int.reduceMul, Int.reduceNeg, Int.zero_add, n2]
      rfl
  · refine ⟨q12, ?_⟩
    unfold itmG
    by_cases z : (grO (kk (tk X p))).isSome = true
    · rw [if_pos z]
      show match semi X (gnd X 40 p (dGrd D)).1 (gnd X 40 p (dGrd D)).2 with
        | Sum.inl e => gI g2 1 3 = (e : Int)
        | Sum.inr q => q.2 ≤ X.length ∧ gI g2 1 2 = q.2 ∧ dC g2 q.1
      unfold semi
      by_cases y : kk (tk X (gnd X 40 p (dGrd D)).1) = 2
      · rw [if_pos y]
        exact ⟨(tk_b t.2.2.2 b2).2.2.2.2.1, c2.1, d2⟩
      · rw [if_neg y]
        exact c2.2.1
    · rw [if_neg z]
      have eg : gnd X 40 p (dGrd D) = (p, dGrd D) := by
        rw [show (40 : Nat) = 39 + 1 from rfl, gnd]
        cases hk : grO (kk (tk X p)) with
        | none => rfl
        | some k => rw [hk] at z; exact absurd rfl z
      rw [eg] at c2
      exact c2.2.1
def gOK (D : Dr) : Prop := dF D &&& 4 = 0 ∨ 0 < tK (dT D)
def itR (X : List Int) (p : Nat) (D : Dr) : Nat ⊕ (Dr × Nat) := if mayB D (kk (tk X p)) = true then full X (itm X (kk (tk X p)) (kn (tk X p)) D) else Sum.inl (ks (tk X p))
theorem wItem_ok (d : Nat) (h : mH) (L : LAY h) (X : List Int) (p : Nat) (D : Dr) (t : ctx h X) (hl : p ≤ X.length) (c : ctk h (tk X p)) (m : dC h D) (w : wfD D) (gk : gOK D) : ∃ g, callA (d + 6) 39 [Sum.inr (Sum.inr (some 1)), Sum.inr (Sum.inr (some 8))] h = some (some (Sum.inl (rB (itR X p D))), g) ∧ CRs h g X (itR X p D) := by
  have L0 := L
  have kb := tk_kk t.2.2.2 p
  have tb := (tk_b t.2.2.2 hl).2.2.2.2.1
  have s : Cst h X (kn (tk X p)) D := ⟨t, c.1, tb, m⟩
  unfold itR
  rcases kb with ⟨k1, k2⟩ | ⟨k1, k2⟩
  · have c3 := c.2.2.1
    rw [if_pos k2] at c3
    have c9 : gI h 1 4 ≠ 0 := by omega
    have nm : ¬ mayB D (kk (tk X p)) = true := fun y => by
      rcases mayB_k y with ⟨e, _⟩ | e | e | e | ⟨e, _⟩ <;> omega
    rw [if_neg nm]
    refine ⟨h, ?_, cpF_rf h, c.2.1⟩
    obtain ⟨k1, j1⟩ := lay_k L0 (a := 1) (t := 5) (n := 8) rfl
    rw [en_39]
    simp (disch := (first | omega | (simp only [kd_sI, kd_sL, kd_sR, kd_cp, kd_aI]; omega) | (unfold catV; exact rfl) | (unfold catS; exact Nat.le_of_ble_eq_true rfl) | assumption)) only [q_39_0, q_39_1, q_39_4_t, q_39_4_f, q_39_7, q_39_8, q_39_9, q_39_10, q_39_13_0, q_39_13_1, q_39_13_2, q_39_13_3, q_39_13_4, q_39_13_5, q_39_13_6, q_39_13_7, q_39_13_8, q_39_13_9, q_39_13_10, q_39_13_11, q_39_13_12, q_39_13_13, q_39_13_14, q_39_13_d, q_39_88, q_39_89, q_39_90, q_39_93, q_39_94, q_39_95, q_39_96, q_39_99, q_39_100, q_39_101, q_39_102, q_39_105, q_39_106, q_39_107, q_39_108, q_39_111, q_39_112, q_39_113, q_39_114, q_39_117, q_39_118, q_39_119, aft_i, aft_l, aft_v, Int.toNat_natCast, kd_sI, kd_sL, kd_sR, kd_cp, gI_sL, gI_sR, gL_sI, gL_sR, gR_sI, gR_sL, gL_cp, gR_cp, kd_aI, gL_aI, gR_aI, gI_aI, gI_aIn, sI_aI, gI_sIn, Int.reduceToNat, Int.reduceAdd, Int.reduceSub, Int.reduceMul, Int.reduceNeg, Int.zero_add, c9]
    rfl
  · have c3 := c.2.2.1
    rw [if_neg (by omega)] at c3
    have c3 : gI h 1 4 = 0 := c3
    have c5 := c.2.2.2.2 k1
    by_cases hm : mayB D (kk (tk X p)) = true
    · rw [if_pos hm]
      rcases mayB_k hm with ⟨e, n7⟩ | e | e | e | ⟨e, f4⟩
      · rw [e] at c5
        have c5 : gI h 1 5 = 99 := c5
        have ei : itm X (kk (tk X p)) (kn (tk X p)) D = itmC X (kn (tk X p)) D := by rw [e]; rfl
        rw [ei]
        obtain ⟨g, e1, r⟩ := wItC_ok d h L X (kn (tk X p)) D s w n7
        refine ⟨g, ?_, r⟩
        have rb := rB_01 (full X (itmC X (kn (tk X p)) D))
        generalize rB (full X (itmC X (kn (tk X p)) D)) = v at e1 rb ⊢
        obtain ⟨k1, j1⟩ := lay_k L0 (a := 1) (t := 5) (n := 8) rfl; obtain ⟨k8, j8⟩ := lay_k L0 (a := 8) (t := 6) (n := 8) rfl
        rw [en_39]
        simp (disch := (first | omega | (simp only [kd_sI, kd_sL, kd_sR, kd_cp, kd_aI]; omega) | (unfold catV; exact rfl) | (unfold catS; exact Nat.le_of_ble_eq_true rfl) | assumption)) only [q_39_0, q_39_1, q_39_4_t, q_39_4_f, q_39_7, q_39_8, q_39_9, q_39_10, q_39_13_0, q_39_13_1, q_39_13_2, q_39_13_3, q_39_13_4, q_39_13_5, q_39_13_6, q_39_13_7, q_39_13_8, q_39_13_9, q_39_13_10, q_39_13_11, q_39_13_12, q_39_13_13, q_39_13_14, q_39_13_d, q_39_88, q_39_89, q_39_90, q_39_93, q_39_94, q_39_95, q_39_96, q_39_99, q_39_100, q_39_101, q_39_102, q_39_105, q_39_106, q_39_107, q_39_108, q_39_111, q_39_112, q_39_113, q_39_114, q_39_117, q_39_118, q_39_119, aft_i, aft_l, aft_v, Int.toNat_natCast, kd_sI, kd_sL, kd_sR, kd_cp, gI_sL, gI_sR, gL_sI, gL_sR, gR_sI, gR_sL, gL_cp, gR_cp, kd_aI, gL_aI, gR_aI, gI_aI, gI_aIn, sI_aI, gI_sIn, Int.reduceToNat, Int.reduceAdd, Int.reduceSub, Int.reduceMul, Int.reduceNeg, Int.zero_add, c3, c5, e1]
      · rw [e] at c5
        have c5 : gI h 1 5 = 113 := c5
        have ei : itm X (kk (tk X p)) (kn (tk X p)) D = itmQ X (kn (tk X p)) D := by rw [e]; rfl
        rw [ei]
        obtain ⟨g, e1, r⟩ := wItQ_ok d h L X (kn (tk X p)) D s w
        refine ⟨g, ?_, r⟩
        have rb := rB_01 (full X (itmQ X (kn (tk X p)) D))
        generalize rB (full X (itmQ X (kn (tk X p)) D)) = v at e1 rb ⊢
        obtain ⟨k1, j1⟩ := lay_k L0 (a := 1) (t := 5) (n := 8) rfl; obtain ⟨k8, j8⟩ := lay_k L0 (a := 8) (t := 6) (n := 8) rfl
        rw [en_39]
        simp (disch := (first | omega | (simp only [kd_sI, kd_sL, kd_sR, kd_cp, kd_aI]; omega) | (unfold catV; exact rfl) | (unfold catS; exact Nat.le_of_ble_eq_true rfl) | assumption)) only [q_39_0, q_39_1, q_39_4_t, q_39_4_f, q_39_7, q_39_8, q_39_9, q_39_10, q_39_13_0, q_39_13_1, q_39_13_2, q_39_13_3, q_39_13_4, q_39_13_5, q_39_13_6, q_39_13_7, q_39_13_8, q_39_13_9, q_39_13_10, q_39_13_11, q_39_13_12, q_39_13_13, q_39_13_14, q_39_13_d, q_39_88, q_39_89, q_39_90, q_39_93, q_39_94, q_39_95, q_39_96, q_39_99, q_39_100, q_39_101, q_39_102, q_39_105, q_39_106, q_39_107, q_39_108, q_39_111, q_39_112, q_39_113, q_39_114, q_39_117, q_39_118, q_39_119, aft_i, aft_l, aft_v, Int.toNat_natCast, kd_sI, kd_sL, kd_sR, kd_cp, gI_sL, gI_sR, gL_sI, gL_sR, gR_sI, gR_sL, gL_cp, gR_cp, kd_aI, gL_aI, gR_aI, gI_aI, gI_aIn, sI_aI, gI_sIn, Int.reduceToNat, Int.reduceAdd, Int.reduceSub, Int.reduceMul, Int.reduceNeg, Int.zero_add, c3, c5, e1]
      · have f1 : dF D &&& 1 = 0 := by
          rw [e] at hm
          exact of_decide_eq_true hm
        rw [e] at c5
        have c5 : gI h 1 5 = 100 := c5
        have ei : itm X (kk (tk X p)) (kn (tk X p)) D = itmD X (kn (tk X p)) D := by rw [e]; rfl
        rw [ei]
        obtain ⟨g, e1, r⟩ := wItD_ok d h L X (kn (tk X p)) D s w f1
        refine ⟨g, ?_, r⟩
        have rb := rB_01 (full X (itmD X (kn (tk X p)) D))
        generalize rB (full X (itmD X (kn (tk X p)) D)) = v at e1 rb ⊢
        obtain ⟨k1, j1⟩ := lay_k L0 (a := 1) (t := 5) (n := 8) rfl; obtain ⟨k8, j8⟩ := lay_k L0 (a := 8) (t := 6) (n := 8) rfl
        rw [en_39]
        simp (disch := (first | omega | (simp only [kd_sI, kd_sL, kd_sR, kd_cp, kd_aI]; omega) | (unfold catV; exact rfl) | (unfold catS; exact Nat.le_of_ble_eq_true rfl) | assumption)) only [q_39_0, q_39_1, q_39_4_t, q_39_4_f, q_39_7, q_39_8, q_39_9, q_39_10, q_39_13_0, q_39_13_1, q_39_13_2, q_39_13_3, q_39_13_4, q_39_13_5, q_39_13_6, q_39_13_7, q_39_13_8, q_39_13_9, q_39_13_10, q_39_13_11, q_39_13_12, q_39_13_13, q_39_13_14, q_39_13_d, q_39_88, q_39_89, q_39_90, q_39_93, q_39_94, q_39_95, q_39_96, q_39_99, q_39_100, q_39_101, q_39_102, q_39_105, q_39_106, q_39_107, q_39_108, q_39_111, q_39_112, q_39_113, q_39_114, q_39_117, q_39_118, q_39_119, aft_i, aft_l, aft_v, Int.toNat_natCast, kd_sI, kd_sL, kd_sR, kd_cp, gI_sL, gI_sR, gL_sI, gL_sR, gR_sI, gR_sL, gL_cp, gR_cp, kd_aI, gL_aI, gR_aI, gI_aI, gI_aIn, sI_aI, gI_sIn, Int.reduceToNat, Int.reduceAdd, Int.reduceSub, Int.reduceMul, Int.reduceNeg, Int.zero_add, c3, c5, e1]
      · have f1 : dF D &&& 2 = 0 := by
          rw [e] at hm
          exact of_decide_eq_true hm
        rw [e] at c5
        have c5 : gI h 1 5 = 109 := c5
        have ei : itm X (kk (tk X p)) (kn (tk X p)) D = itmM X (kn (tk X p)) D := by rw [e]; rfl
        rw [ei]
        obtain ⟨g, e1, r⟩ := wItM_ok d h L X (kn (tk X p)) D s w f1
        refine ⟨g, ?_, r⟩
        have rb := rB_01 (full X (itmM X (kn (tk X p)) D))
        generalize rB (full X (itmM X (kn (tk X p)) D)) = v at e1 rb ⊢
        obtain ⟨k1, j1⟩ := lay_k L0 (a := 1) (t := 5) (n := 8) rfl; obtain ⟨k8, j8⟩ := lay_k L0 (a := 8) (t := 6) (n := 8) rfl
        rw [en_39]
        simp (disch := (first | omega | (simp only [kd_sI, kd_sL, kd_sR, kd_cp, kd_aI]; omega) | (unfold catV; exact rfl) | (unfold catS; exact Nat.le_of_ble_eq_true rfl) | assumption)) only [q_39_0, q_39_1, q_39_4_t, q_39_4_f, q_39_7, q_39_8, q_39_9, q_39_10, q_39_13_0, q_39_13_1, q_39_13_2, q_39_13_3, q_39_13_4, q_39_13_5, q_39_13_6, q_39_13_7, q_39_13_8, q_39_13_9, q_39_13_10, q_39_13_11, q_39_13_12, q_39_13_13, q_39_13_14, q_39_13_d, q_39_88, q_39_89, q_39_90, q_39_93, q_39_94, q_39_95, q_39_96, q_39_99, q_39_100, q_39_101, q_39_102, q_39_105, q_39_106, q_39_107, q_39_108, q_39_111, q_39_112, q_39_113, q_39_114, q_39_117, q_39_118, q_39_119, aft_i, aft_l, aft_v, Int.toNat_natCast, kd_sI, kd_sL, kd_sR, kd_cp, gI_sL, gI_sR, gL_sI, gL_sR, gR_sI, gR_sL, gL_cp, gR_cp, kd_aI, gL_aI, gR_aI, gI_aI, gI_aIn, sI_aI, gI_sIn, Int.reduceToNat, Int.reduceAdd, Int.reduceSub, Int.reduceMul, Int.reduceNeg, Int.zero_add, c3, c5, e1]
      · rw [e] at c5
        have c5 : gI h 1 5 = 103 := c5
        have ei : itm X (kk (tk X p)) (kn (tk X p)) D = itmG X (kn (tk X p)) (dGrd D) := by rw [e]; rfl
        rw [ei]
        obtain ⟨g, e1, r⟩ := wItG_ok (d + 1) h L X (kn (tk X p)) D s w (w.2.2.2.2.1 f4)
        refine ⟨g, ?_, r⟩
        have rb := rB_01 (full X (itmG X (kn (tk X p)) (dGrd D)))
        generalize rB (full X (itmG X (kn (tk X p)) (dGrd D))) = v at e1 rb ⊢
        obtain ⟨k1, j1⟩ := lay_k L0 (a := 1) (t := 5) (n := 8) rfl; obtain ⟨k8, j8⟩ := lay_k L0 (a := 8) (t := 6) (n := 8) rfl
        rw [en_39]
        simp (disch := (first | omega | (simp only [kd_sI, kd_sL, kd_sR, kd_cp, kd_aI]; omega) | (unfold catV; exact rfl) | (unfold catS; exact Nat.le_of_ble_eq_true rfl) | assumption)) only [q_39_0, q_39_1, q_39_4_t, q_39_4_f, q_39_7, q_39_8, q_39_9, q_39_10, q_39_13_0, q_39_13_1, q_39_13_2, q_39_13_3, q_39_13_4, q_39_13_5, q_39_13_6, q_39_13_7, q_39_13_8, q_39_13_9, q_39_13_10, q_39_13_11, q_39_13_12, q_39_13_13, q_39_13_14, q_39_13_d, q_39_88, q_39_89, q_39_90, q_39_93, q_39_94, q_39_95, q_39_96, q_39_99, q_39_100, q_39_101, q_39_102, q_39_105, q_39_106, q_39_107, q_39_108, q_39_111, q_39_112, q_39_113, q_39_114, q_39_117, q_39_118, q_39_119, aft_i, aft_l, aft_v, Int.toNat_natCast, kd_sI, kd_sL, kd_sR, kd_cp, gI_sL, gI_sR, gL_sI, gL_sR, gR_sI, gR_sL, gL_cp, gR_cp, kd_aI, gL_aI, gR_aI, gI_aI, gI_aIn, sI_aI, gI_sIn, Int.reduceToNat, Int.reduceAdd, Int.reduceSub, Int.reduceMul, Int.reduceNeg, Int.zero_add, c3, c5, e1]
    · rw [if_neg hm]
      refine ⟨h, ?_, cpF_rf h, c.2.1⟩
      obtain ⟨m1, m2, m3, m4, m5, m6, m7, m8⟩ := m
      generalize kk (tk X p) = k at c5 hm k1 k2
      have hm2 := hm
      unfold mayB at hm2
      obtain ⟨k1, j1⟩ := lay_k L0 (a := 1) (t := 5) (n := 8) rfl; obtain ⟨k8, j8⟩ := lay_k L0 (a := 8) (t := 6) (n := 8) rfl
      rw [en_39]
      by_cases z1 : k = 99
      · subst z1
        have c5 : gI h 1 5 = 99 := c5
        have n7 : ¬ tN (dT D) < 7 := fun y => hm2 (decide_eq_true y)
        have e1 : callA (d + 5) 40 [Sum.inr (Sum.inr (some 1)), Sum.inr (Sum.inr (some 8))] h = some (some (Sum.inl 0), h) := by
          rw [en_40]
          simp (disch := (first | omega | (simp only [kd_sI, kd_sL, kd_sR, kd_cp, kd_aI]; omega) | (unfold catV; exact rfl) | (unfold catS; exact Nat.le_of_ble_eq_true rfl) | assumption)) only [q_40_0, q_40_1, q_40_4, q_40_6_t, q_40_6_f, q_40_9, q_40_10, q_40_11, q_40_13, q_40_16_t, q_40_16_f, q_40_19, q_40_20, q_40_21, q_40_22, q_40_25, q_40_26, q_40_27, q_40_28, q_40_30, q_40_33_t, q_40_33_f, q_40_36, q_40_37, q_40_38, q_40_39, q_40_40, q_40_41, q_40_44, q_40_47, q_40_48, q_40_51, aft_i, aft_l, aft_v, Int.toNat_natCast, kd_sI, kd_sL, kd_sR, kd_cp, gI_sL, gI_sR, gL_sI, gL_sR, gR_sI, gR_sL, gL_cp, gR_cp, kd_aI, gL_aI, gR_aI, gI_aI, gI_aIn, sI_aI, gI_sIn, Int.reduceToNat, Int.reduceAdd, Int.reduceSub, Int.reduceMul, Int.reduceNeg, Int.zero_add, m1]
        simp (disch := (first | omega | (simp only [kd_sI, kd_sL, kd_sR, kd_cp, kd_aI]; omega) | (unfold catV; exact rfl) | (unfold catS; exact Nat.le_of_ble_eq_true rfl) | assumption)) only [q_39_0, q_39_1, q_39_4_t, q_39_4_f, q_39_7, q_39_8, q_39_9, q_39_10, q_39_13_0, q_39_13_1, q_39_13_2, q_39_13_3, q_39_13_4, q_39_13_5, q_39_13_6, q_39_13_7, q_39_13_8, q_39_13_9, q_39_13_10, q_39_13_11, q_39_13_12, q_39_13_13, q_39_13_14, q_39_13_d, q_39_88, q_39_89, q_39_90, q_39_93, q_39_94, q_39_95, q_39_96, q_39_99, q_39_100, q_39_101, q_39_102, q_39_105, q_39_106, q_39_107, q_39_108, q_39_111, q_39_112, q_39_113, q_39_114, q_39_117, q_39_118, q_39_119, aft_i, aft_l, aft_v, Int.toNat_natCast, kd_sI, kd_sL, kd_sR, kd_cp, gI_sL, gI_sR, gL_sI, gL_sR, gR_sI, gR_sL, gL_cp, gR_cp, kd_aI, gL_aI, gR_aI, gI_aI, gI_aIn, sI_aI, gI_sIn, Int.reduceToNat, Int.reduceAdd, Int.reduceSub, Int.reduceMul, Int.reduceNeg, Int.zero_add, c3, c5, e1]
        rfl
      rw [if_neg z1] at hm2
      by_cases z2 : k = 113
      · rw [if_pos z2] at hm2; exact absurd rfl hm2
      rw [if_neg z2] at hm2
      by_cases z3 : k = 100
      · subst z3
        have c5 : gI h 1 5 = 100 := c5
        have n7 : ¬ dF D &&& 1 = 0 := fun y => hm2 (decide_eq_true y)
        rw [if_neg n7] at m7
        have e1 : callA (d + 5) 42 [Sum.inr (Sum.inr (some 1)), Sum.inr (Sum.inr (some 8))] h = some (some (Sum.inl 0), h) := by
          rw [en_42]
          simp (disch := (first | omega | (simp only [kd_sI, kd_sL, kd_sR, kd_cp, kd_aI]; omega) | (unfold catV; exact rfl) | (unfold catS; exact Nat.le_of_ble_eq_true rfl) | assumption)) only [q_42_0, q_42_1, q_42_4_t, q_42_4_f, q_42_7, q_42_8, q_42_9, q_42_11, q_42_14_t, q_42_14_f, q_42_17, q_42_18, q_42_19, q_42_20, q_42_21, q_42_24, q_42_25, q_42_26, q_42_29, q_42_32, q_42_33, q_42_36, aft_i, aft_l, aft_v, Int.toNat_natCast, kd_sI, kd_sL, kd_sR, kd_cp, gI_sL, gI_sR, gL_sI, gL_sR, gR_sI, gR_sL, gL_cp, gR_cp, kd_aI, gL_aI, gR_aI, gI_aI, gI_aIn, sI_aI, gI_sIn, Int.reduceToNat, Int.reduceAdd, Int.reduceSub, Int.reduceMul, Int.reduceNeg, Int.zero_add, m7]
        simp (disch := (first | omega | (simp only [kd_sI, kd_sL, kd_sR, kd_cp, kd_aI]; omega) | (unfold catV; exact rfl) | (unfold catS; exact Nat.le_of_ble_eq_true rfl) | assumption)) only [q_39_0, q_39_1, q_39_4_t, q_39_4_f, q_39_7, q_39_8, q_39_9, q_39_10, q_39_13_0, q_39_13_1, q_39_13_2, q_39_13_3, q_39_13_4, q_39_13_5, q_39_13_6, q_39_13_7, q_39_13_8, q_39_13_9, q_39_13_10, q_39_13_11, q_39_13_12, q_39_13_13, q_39_13_14, q_39_13_d, q_39_88, q_39_89, q_39_90, q_39_93, q_39_94, q_39_95, q_39_96, q_39_99, q_39_100, q_39_101, q_39_102, q_39_105, q_39_106, q_39_107, q_39_108, q_39_111, q_39_112, q_39_113, q_39_114, q_39_117, q_39_118, q_39_119, aft_i, aft_l, aft_v, Int.toNat_natCast, kd_sI, kd_sL, kd_sR, kd_cp, gI_sL, gI_sR, gL_sI, gL_sR, gR_sI, gR_sL, gL_cp, gR_cp, kd_aI, gL_aI, gR_aI, gI_aI, gI_aIn, sI_aI, gI_sIn, Int.reduceToNat, Int.reduceAdd, Int.reduceSub, Int.reduceMul, Int.reduceNeg, Int.zero_add, c3, c5, e1]
        rfl
      rw [if_neg z3] at hm2
      by_cases z4 : k = 109
      · subst z4
        have c5 : gI h 1 5 = 109 := c5
        have n7 : ¬ dF D &&& 2 = 0 := fun y => hm2 (decide_eq_true y)
        rw [if_neg n7] at m8
        have e1 : callA (d + 5) 43 [Sum.inr (Sum.inr (some 1)), Sum.inr (Sum.inr (some 8))] h = some (some (Sum.inl 0), h) := by
          rw [en_43]
          simp (disch := (first | omega | (simp only [kd_sI, kd_sL, kd_sR, kd_cp, kd_aI]; omega) | (unfold catV; exact rfl) | (unfold catS; exact Nat.le_of_ble_eq_true rfl) | assumption)) only [q_43_0, q_43_1, q_43_4_t, q_43_4_f, q_43_7, q_43_8, q_43_9, q_43_11, q_43_14_t, q_43_14_f, q_43_17, q_43_18, q_43_19, q_43_20, q_43_21, q_43_24, q_43_25, q_43_26, q_43_29, q_43_32, q_43_33, q_43_36, aft_i, aft_l, aft_v, Int.toNat_natCast, kd_sI, kd_sL, kd_sR, kd_cp, gI_sL, gI_sR, gL_sI, gL_sR, gR_sI, gR_sL, gL_cp, gR_cp, kd_aI, gL_aI, gR_aI, gI_aI, gI_aIn, sI_aI, gI_sIn, Int.reduceToNat, Int.reduceAdd, Int.reduceSub, Int.reduceMul, Int.reduceNeg, Int.zero_add, m8]
        simp (disch := (first | omega | (simp only [kd_sI, kd_sL, kd_sR, kd_cp, kd_aI]; omega) | (unfold catV; exact rfl) | (unfold catS; exact Nat.le_of_ble_eq_true rfl) | assumption)) only [q_39_0, q_39_1, q_39_4_t, q_39_4_f, q_39_7, q_39_8, q_39_9, q_39_10, q_39_13_0, q_39_13_1, q_39_13_2, q_39_13_3, q_39_13_4, q_39_13_5, q_39_13_6, q_39_13_7, q_39_13_8, q_39_13_9, q_39_13_10, q_39_13_11, q_39_13_12, q_39_13_13, q_39_13_14, q_39_13_d, q_39_88, q_39_89, q_39_90, q_39_93, q_39_94, q_39_95, q_39_96, q_39_99, q_39_100, q_39_101, q_39_102, q_39_105, q_39_106, q_39_107, q_39_108, q_39_111, q_39_112, q_39_113, q_39_114, q_39_117, q_39_118, q_39_119, aft_i, aft_l, aft_v, Int.toNat_natCast, kd_sI, kd_sL, kd_sR, kd_cp, gI_sL, gI_sR, gL_sI, gL_sR, gR_sI, gR_sL, gL_cp, gR_cp, kd_aI, gL_aI, gR_aI, gI_aI, gI_aIn, sI_aI, gI_sIn, Int.reduceToNat, Int.reduceAdd, Int.reduceSub, Int.reduceMul, Int.reduceNeg, Int.zero_add, c3, c5, e1]
        rfl
      rw [if_neg z4] at hm2
      by_cases z5 : k = 103
      · subst z5
        have c5 : gI h 1 5 = 103 := c5
        have n7 : ¬ dF D &&& 4 = 0 := fun y => hm2 (decide_eq_true y)
        have pk : 0 < tK (dT D) := gk.resolve_left n7
        have e1 : callA (d + 5) 44 [Sum.inr (Sum.inr (some 1)), Sum.inr (Sum.inr (some 8))] h = some (some (Sum.inl 0), h) := by
          rw [en_44]
          simp (disch := (first | omega | (simp only [kd_sI, kd_sL, kd_sR, kd_cp, kd_aI]; omega) | (unfold catV; exact rfl) | (unfold catS; exact Nat.le_of_ble_eq_true rfl) | assumption)) only [q_44_0, q_44_1, q_44_4_t, q_44_4_f, q_44_7, q_44_8, q_44_9, q_44_10, q_44_13, q_44_14, q_44_17, q_44_19_t, q_44_19_f, q_44_22, q_44_23, q_44_26, q_44_28_t, q_44_28_f, q_44_31, q_44_32, q_44_33, q_44_36, q_44_39, q_44_40, q_44_43, q_44_46, q_44_47, q_44_50_t, q_44_50_f, q_44_53, q_44_54, q_44_57, q_44_58_t, q_44_58_f, q_44_61, q_44_62, q_44_65, q_44_66, aft_i, aft_l, aft_v, Int.toNat_natCast, kd_sI, kd_sL, kd_sR, kd_cp, gI_sL, gI_sR, gL_sI, gL_sR, gR_sI, gR_sL, gL_cp, gR_cp, kd_aI, gL_aI, gR_aI, gI_aI, gI_aIn, sI_aI, gI_sIn, Int.reduceToNat, Int.reduceAdd, Int.reduceSub, Int.reduceMul, Int.reduceNeg, Int.zero_add, m2]
        simp (disch := (first | omega | (simp only [kd_sI, kd_sL, kd_sR, kd_cp, kd_aI]; omega) | (unfold catV; exact rfl) | (unfold catS; exact Nat.le_of_ble_eq_true rfl) | assumption)) only [q_39_0, q_39_1, q_39_4_t, q_39_4_f, q_39_7, q_39_8, q_39_9, q_39_10, q_39_13_0, q_39_13_1, q_39_13_2, q_39_13_3, q_39_13_4, q_39_13_5, q_39_13_6, q_39_13_7, q_39_13_8, q_39_13_9, q_39_13_10, q_39_13_11, q_39_13_12, q_39_13_13, q_39_13_14, q_39_13_d, q_39_88, q_39_89, q_39_90, q_39_93, q_39_94, q_39_95, q_39_96, q_39_99, q_39_100, q_39_101, q_39_102, q_39_105, q_39_106, q_39_107, q_39_108, q_39_111, q_39_112, q_39_113, q_39_114, q_39_117, q_39_118, q_39_119, aft_i, aft_l, aft_v, Int.toNat_natCast, kd_sI, kd_sL, kd_sR, kd_cp, gI_sL, gI_sR, gL_sI, gL_sR, gR_sI, gR_sL, gL_cp, gR_cp, kd_aI, gL_aI, gR_aI, gI_aI, gI_aIn, sI_aI, gI_sIn, Int.reduceToNat, Int.reduceAdd, Int.reduceSub, Int.reduceMul, Int.reduceNeg, Int.zero_add, c3, c5, e1]
        rfl
      by_cases y : (k : Int) < 99 ∨ 113 < (k : Int)
      · simp (disch := (first | omega | (simp only [kd_sI, kd_sL, kd_sR, kd_cp, kd_aI]; omega) | (unfold catV; exact rfl) | (unfold catS; exact Nat.le_of_ble_eq_true rfl) | assumption)) only [q_39_0, q_39_1, q_39_4_t, q_39_4_f, q_39_7, q_39_8, q_39_9, q_39_10, q_39_13_0, q_39_13_1, q_39_13_2, q_39_13_3, q_39_13_4, q_39_13_5, q_39_13_6, q_39_13_7, q_39_13_8, q_39_13_9, q_39_13_10, q_39_13_11, q_39_13_12, q_39_13_13, q_39_13_14, q_39_13_d, q_39_88, q_39_89, q_39_90, q_39_93, q_39_94, q_39_95, q_39_96, q_39_99, q_39_100, q_39_101, q_39_102, q_39_105, q_39_106, q_39_107, q_39_108, q_39_111, q_39_112, q_39_113, q_39_114, q_39_117, q_39_118, q_39_119, aft_i, aft_l, aft_v, Int.toNat_natCast, kd_sI, kd_sL, kd_sR, kd_cp, gI_sL, gI_sR, gL_sI, gL_sR, gR_sI, gR_sL, gL_cp, gR_cp, kd_aI, gL_aI, gR_aI, gI_aI, gI_aIn, sI_aI, gI_sIn, Int.reduceToNat, Int.reduceAdd, Int.reduceSub, Int.reduceMul, Int.reduceNeg, Int.zero_add, c3, c5]
        rfl
      · have : (k : Int) = 101 ∨ (k : Int) = 102 ∨ (k : Int) = 104 ∨ (k : Int) = 105 ∨ (k : Int) = 106 ∨ (k : Int) = 107 ∨ (k : Int) = 108 ∨ (k : Int) = 110 ∨ (k : Int) = 111 ∨ (k : Int) = 112 := by omega
        rcases this with z | z | z | z | z | z | z | z | z | z <;> rw [z] at c5
        all_goals simp (disch := (first | omega | (simp only [kd_sI, kd_sL, kd_sR, kd_cp, kd_aI]; omega) | (unfold catV; exact rfl) | (unfold catS; exact Nat.le_of_ble_eq_true rfl) | assumption)) only [q_39_0, q_39_1, q_39_4_t, q_39_4_f, q_39_7, q_39_8, q_39_9, q_39_10, q_39_13_0, q_39_13_1, q_39_13_2, q_39_13_3, q_39_13_4, q_39_13_5, q_39_13_6, q_39_13_7, q_39_13_8, q_39_13_9, q_39_13_10, q_39_13_11, q_39_13_12, q_39_13_13, q_39_13_14, q_39_13_d, q_39_88, q_39_89, q_39_90, q_39_93, q_39_94, q_39_95, q_39_96, q_39_99, q_39_100, q_39_101, q_39_102, q_39_105, q_39_106, q_39_107, q_39_108, q_39_111, q_39_112, q_39_113, q_39_114, q_39_117, q_39_118, q_39_119, aft_i, aft_l, aft_v, Int.toNat_natCast, kd_sI, kd_sL, kd_sR, kd_cp, gI_sL, gI_sR, gL_sI, gL_sR, gR_sI, gR_sL, gL_cp, gR_cp, kd_aI, gL_aI, gR_aI, gI_aI, gI_aIn, sI_aI, gI_sIn, Int.reduceToNat, Int.reduceAdd, Int.reduceSub, Int.reduceMul, Int.reduceNeg, Int.zero_add, c3, c5]
        all_goals rfl
