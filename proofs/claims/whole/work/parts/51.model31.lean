def GS (h : mH) (X : List Int) (p : Nat) (D : Dr) : Prop := txt h X ∧ p ≤ X.length ∧ tkAt h (tk X p) ∧ gI h 141 15 = -9 ∧ dMI h D
def RS (h g : mH) (X : List Int) (r : Nat ⊕ (Dr × Nat)) : Prop := prF h g ∧ match r with
  | Sum.inl e => gI g 141 15 = (e : Int)
  | Sum.inr q => q.2 ≤ X.length ∧ tkAt g (tk X q.2) ∧ gI g 141 15 = -9 ∧ dMI g q.1
theorem tkAt_s {h : mH} {t : Tk} {a k : Nat} {x : Int} (m : tkAt h t) (n : a ≠ 141 ∨ ¬ (11 ≤ k ∧ k ≤ 14)) : tkAt (sI h a k x) t := by
  obtain ⟨a1, a2, a3, a4⟩ := m
  refine ⟨?_, ?_, ?_, ?_⟩ <;> rw [gI_sI, if_neg (by omega)] <;> assumption
theorem dMI_cell {h : mH} {D : Dr} {k : Nat} (m : dMI h D) : dMI (sI (sI h 148 (40 + tK (dT D)) k) 147 1 ((tK (dT D) : Int) + 1)) (dCell D k) := by
  obtain ⟨m1, m2, m3, m4, m5, m6, m7, m8⟩ := m
  refine ⟨?_, ?_, ?_, ?_, fun c hc => ⟨?_, ?_⟩, fun c hc => ?_, fun j hj => ?_, ?_⟩
  · rw [gI_sIn (by omega), gI_sIn (by omega)]; exact m1
  · rw [gI_sIs]; rfl
  · rw [gI_sIn (by omega), gI_sIn (by omega)]; exact m3
  · rw [gI_sIn (by omega), gI_sIn (by omega)]; exact m4
  · rw [gI_sIn (by omega), gI_sIn (by omega)]; exact (m5 c hc).1
  · rw [gI_sIn (by omega), gI_sIn (by omega)]; exact (m5 c hc).2
  · rw [gI_sIn (by omega), gI_sIn (by omega)]; exact m6 c hc
  · rw [gI_sIn (by omega)]
    have hj : j < tK (dT D) + 1 := hj
    show _ = ((if j = tK (dT D) then k else tG (dT D) j : Nat) : Int)
    by_cases z : j = tK (dT D)
    · subst z; rw [if_pos rfl, gI_sIs]
    · rw [if_neg z, gI_sIo (by omega)]; exact m7 j (by omega)
  · rw [gI_sIn (by omega), gI_sIn (by omega)]; exact m8
theorem mGnd_loop (d : Nat) (X : List Int) : ∀ (f : Nat) (p k : Nat) (D : Dr) (h : mH) (L : LAY h) (x2 : mV), GS h X p D → tK (dT D) + (f + 1) = 40 → grO (kk (tk X p)) = some k → ∃ g, RS h g X (Sum.inr ((gnd X (f + 1) p D).2, (gnd X (f + 1) p D).1)) ∧ resA (callA (d + 3)) 132 (12, [Sum.inr (Sum.inr (some 141)), Sum.inl 1, x2], [], h) = some (none, g)
  | f, p, k, D, h, L, x2, ⟨t, hp, ta, h15, m⟩, hf, hk => by
    have L0 := L
    have m2 := m.2.1
    have e1 := mGrO_ok (d + 2) h (kk (tk X p)) (gI h 141 13) ta.2.2.1
    rw [hk] at e1
    have kb : k ≤ 2 := by
      unfold grO at hk
      split at hk
      · injection hk with hk; omega
      · split at hk
        · injection hk with hk; omega
        · split at hk
          · injection hk with hk; omega
          · cases hk
    have e1 : callA (d + 3) 131 [Sum.inl (gI h 141 13)] h = some (some (Sum.inl (k : Int)), h) := e1
    generalize eg1 : sI (sI h 148 (40 + tK (dT D)) k) 147 1 ((tK (dT D) : Int) + 1) = g1
    have q1 : prF h g1 := by
      rw [← eg1]
      exact prF_tr (prF_s (by unfold drf; omega)) (prF_s (by unfold drf; omega))
    have L1 := prF_L q1 L
    have t1 := prF_txt q1 t
    have ta1 : tkAt g1 (tk X p) := by rw [← eg1]; exact tkAt_s (tkAt_s ta (Or.inl (by omega))) (Or.inl (by omega))
    have f1 : gI g1 141 15 = -9 := by rw [← eg1, gI_sIn (by omega), gI_sIn (by omega)]; exact h15
    have d1 : dMI g1 (dCell D k) := by rw [← eg1]; exact dMI_cell m
    obtain ⟨g2, e2, s2, ta2⟩ := mDue_t d g1 L1 X t1 p hp ta1 f1
    have d2 := stp_dMI s2 d1
    have q2 := prF_tr q1 (stp_prF s2)
    have L2 := prF_L q2 L
    have t2 := prF_txt q2 t
    have f2 : gI g2 141 15 = -9 := by rw [s2.2.1 141 15 (by omega)]; exact f1
    have tb := (tk_b t.2.2.2 hp).2.2.2.2.1
    have m12 : gI g1 147 1 = (tK (dT D) : Int) + 1 := d1.2.1
    have m22 : gI g2 147 1 = (tK (dT D) : Int) + 1 := d2.2.1
    have e3 := mGrO_ok (d + 2) g2 (kk (tk X (kn (tk X p)))) (gI g2 141 13) ta2.2.2.1
    obtain ⟨a1, a2⟩ := lay_k L1 (a := 141) (t := 8) (n := 26) rfl
    obtain ⟨a3, a4⟩ := lay_k L1 (a := 147) (t := 100) (n := 2) rfl
    obtain ⟨a5, a6⟩ := lay_k L2 (a := 141) (t := 8) (n := 26) rfl
    obtain ⟨a7, a8⟩ := lay_k L2 (a := 147) (t := 100) (n := 2) rfl
    have r17 : gR g1 141 7 = some 147 := lay_r L1 rfl
    have r27 : gR g2 141 7 = some 147 := lay_r L2 rfl
    have ix : (40 + (tK (dT D) : Int)).toNat = 40 + tK (dT D) := by omega
    have eA : resA (callA (d + 3)) 132 (12, [Sum.inr (Sum.inr (some 141)), Sum.inl 1, x2], [], h) = resA (callA (d + 3)) 132 (102, [Sum.inr (Sum.inr (some 141)), Sum.inl 1, Sum.inl (k : Int)], [], g2) := by
      obtain ⟨k141, j141⟩ := lay_k L0 (a := 141) (t := 8) (n := 26) rfl; obtain ⟨k147, j147⟩ := lay_k L0 (a := 147) (t := 100) (n := 2) rfl; obtain ⟨k148, j148⟩ := lay_k L0 (a := 148) (t := 100) (n := 80) rfl; have r141_7 : gR h 141 7 = some 147 := lay_r L0 rfl; have r141_8 : gR h 141 8 = some 148 := lay_r L0 rfl
      simp (disch := (first | omega | (simp only [kd_sI, kd_sL, kd_sR, kd_cp, kd_aI]; omega) | (unfold catV; exact rfl) | (unfold catS; exact Nat.le_of_ble_eq_true rfl) | assumption)) only [q_132_0, q_132_1, q_132_2, q_132_5, q_132_6, q_132_7, q_132_10, q_132_11, q_132_12, q_132_13_t, q_132_13_f, q_132_16, q_132_17, q_132_20, q_132_22_t, q_132_22_f, q_132_25, q_132_26, q_132_29, q_132_32, q_132_33, q_132_34, q_132_36_t, q_132_36_f, q_132_39, q_132_40, q_132_43, q_132_44, q_132_45, q_132_47_t, q_132_47_f, q_132_50, q_132_51, q_132_54, q_132_56, q_132_57, q_132_60, q_132_61, q_132_62, q_132_63, q_132_64, q_132_65, q_132_66, q_132_69, q_132_70, q_132_71, q_132_72, q_132_73, q_132_74, q_132_75, q_132_76, q_132_77, q_132_79_t, q_132_79_f, q_132_82, q_132_83, q_132_86, q_132_87, q_132_88, q_132_90_t, q_132_90_f, q_132_93, q_132_94, q_132_97, q_132_98, q_132_101, q_132_103, q_132_106, q_132_109, q_132_111_t, q_132_111_f, q_132_114, q_132_115, q_132_118, q_132_119, q_132_120, q_132_122_t, q_132_122_f, q_132_125, q_132_126, q_132_129, q_132_130, q_132_131, q_132_134, aft_i, aft_l, aft_v, Int.toNat_natCast, kd_sI, kd_sL, kd_sR, kd_cp, gI_sL, gI_sR, gL_sI, gL_sR, gR_sI, gR_sL, gL_cp, gR_cp, kd_aI, gL_aI, gR_aI, gI_aI, gI_aIn, sI_aI, gI_sIn, Int.reduceToNat, Int.reduceAdd, Int.reduceSub, Int.reduceMul, Int.reduceNeg, Int.zero_add, h15, e1, r141_7, r141_8, m2, ix, eg1, r17, m12, e2]
    have eG : gnd X (f + 1) p D = gnd X f (kn (tk X p)) (dCell D k) := by
      rw [gnd, hk]
      dsimp only
      rw [if_pos (by omega)]
    rw [eG, eA]
    cases hk3 : grO (kk (tk X (kn (tk X p)))) with
    | none =>
      rw [hk3] at e3
      have e3 : callA (d + 3) 131 [Sum.inl (gI g2 141 13)] g2 = some (some (Sum.inl (-9)), g2) := e3
      have eH : gnd X f (kn (tk X p)) (dCell D k) = (kn (tk X p), dCell D k) := by
        cases f with
        | zero => rfl
        | succ f => rw [gnd, hk3]
      rw [eH]
      refine ⟨g2, ⟨q2, tb, ta2, f2, d2⟩, ?_⟩
      simp (disch := (first | omega | (simp only [kd_sI, kd_sL, kd_sR, kd_cp, kd_aI]; omega) | (unfold catV; exact rfl) | (unfold catS; exact Nat.le_of_ble_eq_true rfl) | assumption)) only [q_132_0, q_132_1, q_132_2, q_132_5, q_132_6, q_132_7, q_132_10, q_132_11, q_132_12, q_132_13_t, q_132_13_f, q_132_16, q_132_17, q_132_20, q_132_22_t, q_132_22_f, q_132_25, q_132_26, q_132_29, q_132_32, q_132_33, q_132_34, q_132_36_t, q_132_36_f, q_132_39, q_132_40, q_132_43, q_132_44, q_132_45, q_132_47_t, q_132_47_f, q_132_50, q_132_51, q_132_54, q_132_56, q_132_57, q_132_60, q_132_61, q_132_62, q_132_63, q_132_64, q_132_65, q_132_66, q_132_69, q_132_70, q_132_71, q_132_72, q_132_73, q_132_74, q_132_75, q_132_76, q_132_77, q_132_79_t, q_132_79_f, q_132_82, q_132_83, q_132_86, q_132_87, q_132_88, q_132_90_t, q_132_90_f, q_132_93, q_132_94, q_132_97, q_132_98, q_132_101, q_132_102, q_132_103, q_132_106, q_132_109, q_132_111_t, q_132_111_f, q_132_114, q_132_115, q_132_118, q_132_119, q_132_120, q_132_122_t, q_132_122_f, q_132_125, q_132_126, q_132_129, q_132_130, q_132_131, q_132_134, aft_i, aft_l, aft_v, Int.toNat_natCast, kd_sI, kd_sL, kd_sR, kd_cp, gI_sL, gI_sR, gL_sI, gL_sR, gR_sI, gR_sL, gL_cp, gR_cp, kd_aI, gL_aI, gR_aI, gI_aI, gI_aIn, sI_aI, gI_sIn, Int.reduceToNat, Int.reduceAdd, Int.reduceSub, Int.reduceMul, Int.reduceNeg, Int.zero_add, e3]
    | some k3 =>
      rw [hk3] at e3
      have e3 : callA (d + 3) 131 [Sum.inl (gI g2 141 13)] g2 = some (some (Sum.inl (k3 : Int)), g2) := e3
      cases f with
      | zero =>
        refine ⟨g2, ⟨q2, tb, ta2, f2, d2⟩, ?_⟩
        simp (disch := (first | omega | (simp only [kd_sI, kd_sL, kd_sR, kd_cp, kd_aI]; omega) | (unfold catV; exact rfl) | (unfold catS; exact Nat.le_of_ble_eq_true rfl) | assumption)) only [q_132_0, q_132_1, q_132_2, q_132_5, q_132_6, q_132_7, q_132_10, q_132_11, q_132_12, q_132_13_t, q_132_13_f, q_132_16, q_132_17, q_132_20, q_132_22_t, q_132_22_f, q_132_25, q_132_26, q_132_29, q_132_32, q_132_33, q_132_34, q_132_36_t, q_132_36_f, q_132_39, q_132_40, q_132_43, q_132_44, q_132_45, q_132_47_t, q_132_47_f, q_132_50, q_132_51, q_132_54, q_132_56, q_132_57, q_132_60, q_132_61, q_132_62, q_132_63, q_132_64, q_132_65, q_132_66, q_132_69, q_132_70, q_132_71, q_132_72, q_132_73, q_132_74, q_132_75, q_132_76, q_132_77, q_132_79_t, q_132_79_f, q_132_82, q_132_83, q_132_86, q_132_87, q_132_88, q_132_90_t, q_132_90_f, q_132_93, q_132_94, q_132_97, q_132_98, q_132_101, q_132_102, q_132_103, q_132_106, q_132_109, q_132_111_t, q_132_111_f, q_132_114, q_132_115, q_132_118, q_132_119, q_132_120, q_132_122_t, q_132_122_f, q_132_125, q_132_126, q_132_129, q_132_130, q_132_131, q_132_134, aft_i, aft_l, aft_v, Int.toNat_natCast, kd_sI, kd_sL, kd_sR, kd_cp, gI_sL, gI_sR, gL_sI, gL_sR, gR_sI, gR_sL, gL_cp, gR_cp, kd_aI, gL_aI, gR_aI, gI_aI, gI_aIn, sI_aI, gI_sIn, Int.reduceToNat, Int.reduceAdd, Int.reduceSub, Int.reduceMul, Int.reduceNeg, Int.zero_add, e3, r27, m22]
      | succ f =>
        obtain ⟨g3, ⟨q3, r3⟩, e4⟩ := mGnd_loop d X f (kn (tk X p)) k3 (dCell D k) g2 L2 (Sum.inl (k : Int)) ⟨t2, tb, ta2, f2, d2⟩ (by show tK (dT D) + 1 + (f + 1) = 40; omega) hk3
        refine ⟨g3, ⟨prF_tr q2 q3, r3⟩, ?_⟩
        rw [← e4]
        simp (disch := (first | omega | (simp only [kd_sI, kd_sL, kd_sR, kd_cp, kd_aI]; omega) | (unfold catV; exact rfl) | (unfold catS; exact Nat.le_of_ble_eq_true rfl) | assumption)) only [q_132_0, q_132_1, q_132_2, q_132_5, q_132_6, q_132_7, q_132_10, q_132_11, q_132_13_t, q_132_13_f, q_132_16, q_132_17, q_132_20, q_132_22_t, q_132_22_f, q_132_25, q_132_26, q_132_29, q_132_32, q_132_33, q_132_34, q_132_36_t, q_132_36_f, q_132_39, q_132_40, q_132_43, q_132_44, q_132_45, q_132_47_t, q_132_47_f, q_132_50, q_132_51, q_132_54, q_132_56, q_132_57, q_132_60, q_132_61, q_132_62, q_132_63, q_132_64, q_132_65, q_132_66, q_132_69, q_132_70, q_132_71, q_132_72, q_132_73, q_132_74, q_132_75, q_132_76, q_132_77, q_132_79_t, q_132_79_f, q_132_82, q_132_83, q_132_86, q_132_87, q_132_88, q_132_90_t, q_132_90_f, q_132_93, q_132_94, q_132_97, q_132_98, q_132_101, q_132_102, q_132_103, q_132_106, q_132_109, q_132_111_t, q_132_111_f, q_132_114, q_132_115, q_132_118, q_132_119, q_132_120, q_132_122_t, q_132_122_f, q_132_125, q_132_126, q_132_129, q_132_130, q_132_131, q_132_134, aft_i, aft_l, aft_v, Int.toNat_natCast, kd_sI, kd_sL, kd_sR, kd_cp, gI_sL, gI_sR, gL_sI, gL_sR, gR_sI, gR_sL, gL_cp, gR_cp, kd_aI, gL_aI, gR_aI, gI_aI, gI_aIn, sI_aI, gI_sIn, Int.reduceToNat, Int.reduceAdd, Int.reduceSub, Int.reduceMul, Int.reduceNeg, Int.zero_add, e3, r27, m22]
theorem dMI_grd {h : mH} {D : Dr} (m : dMI h D) : dMI (sI h 141 10 ((dF D ||| 4 : Nat) : Int)) (dGrd D) := by
  obtain ⟨m1, m2, m3, m4, m5, m6, m7, m8⟩ := m
  refine ⟨?_, ?_, ?_, ?_, ?_, ?_, ?_, ?_⟩
  · rw [gI_sIn (by omega)]; exact m1
  · rw [gI_sIn (by omega)]; exact m2
  · rw [gI_sIn (by omega)]; exact m3
  · rw [gI_sIn (by omega)]; exact m4
  · rw [gI_sIn (by omega), gI_sIn (by omega)]; exact m5
  · rw [gI_sIn (by omega)]; exact m6
  · rw [gI_sIn (by omega)]; exact m7
  · rw [gI_sIs]; rfl
theorem mGnd_ok (d : Nat) (X : List Int) (p : Nat) (D : Dr) (h : mH) (L : LAY h) (gs : GS h X p D) (hk : tK (dT D) = 0) (wf : dF D < 8) : ∃ g, RS h g X (itmG X p (dGrd D)) ∧ callA (d + 4) 132 [Sum.inr (Sum.inr (some 141))] h = some (none, g) := by
  have L0 := L
  obtain ⟨t, hp, ta, h15, m⟩ := gs
  have m8 := m.2.2.2.2.2.2.2
  have o4 := orI_n (a := dF D) (b := 4) (by omega) (by omega)
  have o4 : orI (dF D : Int) 4 = ((dF D ||| 4 : Nat) : Int) := o4
  generalize eg1 : sI h 141 10 ((dF D ||| 4 : Nat) : Int) = g1
  have q1 : prF h g1 := by rw [← eg1]; exact prF_s (by unfold drf; omega)
  have L1 := prF_L q1 L
  have t1 := prF_txt q1 t
  have ta1 : tkAt g1 (tk X p) := by rw [← eg1]; exact tkAt_s ta (Or.inr (by omega))
  have f1 : gI g1 141 15 = -9 := by rw [← eg1, gI_sIo (by omega)]; exact h15
  have d1 : dMI g1 (dGrd D) := by rw [← eg1]; exact dMI_grd m
  unfold itmG
  cases hk3 : grO (kk (tk X p)) with
  | some k =>
    rw [if_pos (show (some k).isSome = true from rfl)]
    obtain ⟨g2, ⟨q2, r2⟩, e2⟩ := mGnd_loop d X 39 p k (dGrd D) g1 L1 (Sum.inr (Sum.inr none)) ⟨t1, hp, ta1, f1, d1⟩ (by show tK (dT D) + 40 = 40; omega) hk3
    refine ⟨g2, ⟨prF_tr q1 q2, r2⟩, ?_⟩
    obtain ⟨k141, j141⟩ := lay_k L0 (a := 141) (t := 8) (n := 26) rfl
    rw [en_132]
    simp (disch := (first | omega | (simp only [kd_sI, kd_sL, kd_sR, kd_cp, kd_aI]; omega) | (unfold catV; exact rfl) | (unfold catS; exact Nat.le_of_ble_eq_true rfl) | assumption)) only [q_132_0, q_132_1, q_132_2, q_132_5, q_132_6, q_132_7, q_132_10, q_132_11, q_132_13_t, q_132_13_f, q_132_16, q_132_17, q_132_20, q_132_22_t, q_132_22_f, q_132_25, q_132_26, q_132_29, q_132_32, q_132_33, q_132_34, q_132_36_t, q_132_36_f, q_132_39, q_132_40, q_132_43, q_132_44, q_132_45, q_132_47_t, q_132_47_f, q_132_50, q_132_51, q_132_54, q_132_56, q_132_57, q_132_60, q_132_61, q_132_62, q_132_63, q_132_64, q_132_65, q_132_66, q_132_69, q_132_70, q_132_71, q_132_72, q_132_73, q_132_74, q_132_75, q_132_76, q_132_77, q_132_79_t, q_132_79_f, q_132_82, q_132_83, q_132_86, q_132_87, q_132_88, q_132_90_t, q_132_90_f, q_132_93, q_132_94, q_132_97, q_132_98, q_132_101, q_132_102, q_132_103, q_132_106, q_132_109, q_132_111_t, q_132_111_f, q_132_114, q_132_115, q_132_118, q_132_119, q_132_120, q_132_122_t, q_132_122_f, q_132_125, q_132_126, q_132_129, q_132_130, q_132_131, q_132_134, aft_i, aft_l, aft_v, Int.toNat_natCast, kd_sI, kd_sL, kd_sR, kd_cp, gI_sL, gI_sR, gL_sI, gL_sR, gR_sI, gR_sL, gL_cp, gR_cp, kd_aI, gL_aI, gR_aI, gI_aI, gI_aIn, sI_aI, gI_sIn, Int.reduceToNat, Int.reduceAdd, Int.reduceSub, Int.reduceMul, Int.reduceNeg, Int.zero_add, m8, o4, eg1]
    exact e2
  | none =>
    rw [if_neg (by intro z; cases z)]
    have e3 := mGrO_ok (d + 2) g1 (kk (tk X p)) (gI g1 141 13) ta1.2.2.1
    rw [hk3] at e3
    have e3 : callA (d + 3) 131 [Sum.inl (gI g1 141 13)] g1 = some (some (Sum.inl (-9)), g1) := e3
    have e4 := mDue_f (d + 2) g1 L1 (tk X p) ta1 f1
    have q2 : prF g1 (sI g1 141 15 (ks (tk X p))) := prF_s (by unfold drf; omega)
    have L2 := prF_L q2 L1
    have e5 := mGrO_ok (d + 2) (sI g1 141 15 (ks (tk X p))) (kk (tk X p)) (gI g1 141 13) ta1.2.2.1
    rw [hk3] at e5
    have e5 : callA (d + 3) 131 [Sum.inl (gI g1 141 13)] (sI g1 141 15 (ks (tk X p))) = some (some (Sum.inl (-9)), sI g1 141 15 (ks (tk X p))) := e5
    refine ⟨sI g1 141 15 (ks (tk X p)), ⟨prF_tr q1 q2, gI_sIs _ _ _ _⟩, ?_⟩
    obtain ⟨a1, a2⟩ := lay_k L1 (a := 141) (t := 8) (n := 26) rfl
    obtain ⟨a5, a6⟩ := lay_k L2 (a := 141) (t := 8) (n := 26) rfl
    obtain ⟨k141, j141⟩ := lay_k L0 (a := 141) (t := 8) (n := 26) rfl
    rw [en_132]
    simp (disch := (first | omega | (simp only [kd_sI, kd_sL, kd_sR, kd_cp, kd_aI]; omega) | (unfold catV; exact rfl) | (unfold catS; exact Nat.le_of_ble_eq_true rfl) | assumption)) only [q_132_0, q_132_1, q_132_2, q_132_5, q_132_6, q_132_7, q_132_10, q_132_11, q_132_12, q_132_13_t, q_132_13_f, q_132_16, q_132_17, q_132_20, q_132_22_t, q_132_22_f, q_132_25, q_132_26, q_132_29, q_132_32, q_132_33, q_132_34, q_132_36_t, q_132_36_f, q_132_39, q_132_40, q_132_43, q_132_44, q_132_45, q_132_47_t, q_132_47_f, q_132_50, q_132_51, q_132_54, q_132_56, q_132_57, q_132_60, q_132_61, q_132_62, q_132_63, q_132_64, q_132_65, q_132_66, q_132_69, q_132_70, q_132_71, q_132_72, q_132_73, q_132_74, q_132_75, q_132_76, q_132_77, q_132_79_t, q_132_79_f, q_132_82, q_132_83, q_132_86, q_132_87, q_132_88, q_132_90_t, q_132_90_f, q_132_93, q_132_94, q_132_97, q_132_98, q_132_101, q_132_102, q_132_103, q_132_106, q_132_109, q_132_111_t, q_132_111_f, q_132_114, q_132_115, q_132_118, q_132_119, q_132_120, q_132_122_t, q_132_122_f, q_132_125, q_132_126, q_132_129, q_132_130, q_132_131, q_132_134, aft_i, aft_l, aft_v, Int.toNat_natCast, kd_sI, kd_sL, kd_sR, kd_cp, gI_sL, gI_sR, gL_sI, gL_sR, gR_sI, gR_sL, gL_cp, gR_cp, kd_aI, gL_aI, gR_aI, gI_aI, gI_aIn, sI_aI, gI_sIn, Int.reduceToNat, Int.reduceAdd, Int.reduceSub, Int.reduceMul, Int.reduceNeg, Int.zero_add, m8, o4, eg1, f1, e3, e4, e5, gI_sIo]
