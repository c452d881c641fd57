theorem dMI_cart {h : mH} {D : Dr} {a p : Nat} (m : dMI h D) (n7 : tN (dT D) < 7) : dMI (sI (sI (sI h 144 (tN (dT D)) a) 145 (7 + tN (dT D)) p) 143 1 ((tN (dT D) : Int) + 1)) (dCart D a p) := by
  obtain ⟨m1, m2, m3, m4, m5, m6, m7, m8⟩ := m
  refine ⟨?_, ?_, ?_, ?_, fun c hc => ?_, fun c hc => ?_, fun j hj => ?_, ?_⟩
  · rw [gI_sIs]; rfl
  · rw [gI_sIn (by omega), gI_sIn (by omega), gI_sIn (by omega)]; exact m2
  · rw [gI_sIn (by omega), gI_sIn (by omega), gI_sIn (by omega)]; exact m3
  · rw [gI_sIn (by omega), gI_sIn (by omega), gI_sIn (by omega)]; exact m4
  · have hc : c < tN (dT D) + 1 := hc
    show _ = ((if c = tN (dT D) then p else tP (dT D) c : Nat) : Int) ∧ _ = ((if c = tN (dT D) then a else dX D c : Nat) : Int)
    by_cases z : c = tN (dT D)
    · subst z
      rw [if_pos rfl, if_pos rfl]
      exact ⟨by rw [gI_sIn (by omega), gI_sIs], by rw [gI_sIn (by omega), gI_sIn (by omega), gI_sIs]⟩
    · rw [if_neg z, if_neg z]
      exact ⟨by rw [gI_sIn (by omega), gI_sIo (by omega), gI_sIn (by omega)]; exact (m5 c (by omega)).1, by rw [gI_sIn (by omega), gI_sIn (by omega), gI_sIo (by omega)]; exact (m5 c (by omega)).2⟩
  · rw [gI_sIn (by omega), gI_sIn (by omega), gI_sIn (by omega)]; exact m6 c hc
  · rw [gI_sIn (by omega), gI_sIn (by omega), gI_sIn (by omega)]; exact m7 j hj
  · rw [gI_sIn (by omega), gI_sIn (by omega), gI_sIn (by omega)]; exact m8
theorem mRowC_ok (d : Nat) (X : List Int) (p : Nat) (D : Dr) (h : mH) (L : LAY h) (gs : GS h X p D) (n7 : tN (dT D) < 7) : ∃ g, RS h g X (itmC X p D) ∧ callA (d + 5) 133 [Sum.inr (Sum.inr (some 141)), Sum.inl 99] h = some (none, g) := by
  have L0 := L
  obtain ⟨t, hp, ta, h15, m⟩ := gs
  have m1 := m.1
  have ix : (7 + (tN (dT D) : Int)).toNat = 7 + tN (dT D) := by omega
  unfold itmC
  by_cases b1 : numB (tk X p) 1 7 = true
  · rw [if_pos b1]
    obtain ⟨g1, e1, s1, ta1⟩ := mNum_t d h L X t p hp ta h15 1 7 b1 6 rfl
    have e1 : callA (d + 4) 129 [Sum.inr (Sum.inr (some 141)), Sum.inl 1, Sum.inl 6] h = some (some (Sum.inl (kv (tk X p) : Int)), g1) := e1
    have tb := (tk_b t.2.2.2 hp).2.2.2.2.1
    have L1 := stp_L s1 L
    have d1 := stp_dMI s1 m
    have f1 : gI g1 141 15 = -9 := by rw [s1.2.1 141 15 (by omega)]; exact h15
    generalize eg2 : sI g1 144 (tN (dT D)) (kv (tk X p)) = g2
    have q2 : prF h g2 := by rw [← eg2]; exact prF_tr (stp_prF s1) (prF_s (by unfold drf; omega))
    have L2 := prF_L q2 L
    have t2 := prF_txt q2 t
    have ta2 : tkAt g2 (tk X (kn (tk X p))) := by rw [← eg2]; exact tkAt_s ta1 (Or.inl (by omega))
    have f2 : gI g2 141 15 = -9 := by rw [← eg2, gI_sIn (by omega)]; exact f1
    have n2 : gI g2 143 1 = tN (dT D) := by rw [← eg2, gI_sIn (by omega)]; exact d1.1
    obtain ⟨a1, a2⟩ := lay_k L1 (a := 144) (t := 100) (n := 7) rfl
    obtain ⟨a3, a4⟩ := lay_k L2 (a := 141) (t := 8) (n := 26) rfl
    obtain ⟨a5, a6⟩ := lay_k L2 (a := 143) (t := 100) (n := 2) rfl
    have r23 : gR g2 141 3 = some 143 := lay_r L2 rfl
    have r25 : gR g2 141 5 = some 145 := lay_r L2 rfl
    by_cases b2 : numB (tk X (kn (tk X p))) 1 10 = true
    · rw [if_pos b2]
      obtain ⟨g3, e3, s3, ta3⟩ := mNum_t d g2 L2 X t2 (kn (tk X p)) tb ta2 f2 1 10 b2 9 rfl
      have e3 : callA (d + 4) 129 [Sum.inr (Sum.inr (some 141)), Sum.inl 1, Sum.inl 9] g2 = some (some (Sum.inl (kv (tk X (kn (tk X p))) : Int)), g3) := e3
      have tb2 := (tk_b t.2.2.2 tb).2.2.2.2.1
      have L3 := stp_L s3 L2
      have f3 : gI g3 141 15 = -9 := by rw [s3.2.1 141 15 (by omega)]; exact f2
      have n3 : gI g3 143 1 = tN (dT D) := by rw [stp_q s3 (by omega)]; exact n2
      have r33 : gR g3 141 3 = some 143 := lay_r L3 rfl
      obtain ⟨a7, a8⟩ := lay_k L3 (a := 145) (t := 100) (n := 14) rfl
      obtain ⟨c1, c2⟩ := lay_k L3 (a := 141) (t := 8) (n := 26) rfl
      obtain ⟨c3, c4⟩ := lay_k L3 (a := 143) (t := 100) (n := 2) rfl
      have q4 : prF h (sI (sI g3 145 (7 + tN (dT D)) (kv (tk X (kn (tk X p))))) 143 1 ((tN (dT D) : Int) + 1)) := prF_tr q2 (prF_tr (stp_prF s3) (prF_tr (prF_s (by unfold drf; omega)) (prF_s (by unfold drf; omega))))
      refine ⟨sI (sI g3 145 (7 + tN (dT D)) (kv (tk X (kn (tk X p))))) 143 1 ((tN (dT D) : Int) + 1), ⟨q4, tb2, tkAt_s (tkAt_s ta3 (Or.inl (by omega))) (Or.inl (by omega)), by rw [gI_sIn (by omega), gI_sIn (by omega)]; exact f3, ?_⟩, ?_⟩
      · obtain ⟨v1, v2, v3, v4, v5, v6, v7, v8⟩ := d1
        have w5 : ∀ c, c < tN (dT D) → gI g3 145 (7 + c) = tP (dT D) c ∧ gI g3 144 c = dX D c := fun c hc => by
          rw [stp_q s3 (by omega), stp_q s3 (by omega), ← eg2, gI_sIn (by omega), gI_sIo (by omega)]
          exact v5 c hc
        refine ⟨?_, ?_, ?_, ?_, fun c hc => ?_, fun c hc => ?_, fun j hj => ?_, ?_⟩
        · rw [gI_sIs]; rfl
        · rw [gI_sIn (by omega), gI_sIn (by omega), stp_q s3 (by omega), ← eg2, gI_sIn (by omega)]; exact v2
        · rw [gI_sIn (by omega), gI_sIn (by omega), stp_q s3 (by omega), ← eg2, gI_sIn (by omega)]; exact v3
        · rw [gI_sIn (by omega), gI_sIn (by omega), stp_q s3 (by omega), ← eg2, gI_sIn (by omega)]; exact v4
        · have hc : c < tN (dT D) + 1 := hc
          show _ = ((if c = tN (dT D) then kv (tk X (kn (tk X p))) else tP (dT D) c : Nat) : Int) ∧ _ = ((if c = tN (dT D) then kv (tk X p) else dX D c : Nat) : Int)
          by_cases z : c = tN (dT D)
          · subst z
            rw [if_pos rfl, if_pos rfl]
            exact ⟨by rw [gI_sIn (by omega), gI_sIs], by rw [gI_sIn (by omega), gI_sIn (by omega), stp_q s3 (by omega), ← eg2, gI_sIs]⟩
          · rw [if_neg z, if_neg z]
            exact ⟨by rw [gI_sIn (by omega), gI_sIo (by omega)]; exact (w5 c (by omega)).1, by rw [gI_sIn (by omega), gI_sIn (by omega)]; exact (w5 c (by omega)).2⟩
        · rw [gI_sIn (by omega), gI_sIn (by omega), stp_q s3 (by omega), ← eg2, gI_sIn (by omega)]; exact v6 c hc
        · rw [gI_sIn (by omega), gI_sIn (by omega), stp_q s3 (by omega), ← eg2, gI_sIn (by omega)]; exact v7 j hj
        · rw [gI_sIn (by omega), gI_sIn (by omega), s3.2.1 141 10 (by omega), ← eg2, gI_sIn (by omega)]; exact v8
      · obtain ⟨k141, j141⟩ := lay_k L0 (a := 141) (t := 8) (n := 26) rfl; obtain ⟨k143, j143⟩ := lay_k L0 (a := 143) (t := 100) (n := 2) rfl; obtain ⟨k144, j144⟩ := lay_k L0 (a := 144) (t := 100) (n := 7) rfl; have r141_3 : gR h 141 3 = some 143 := lay_r L0 rfl; have r141_4 : gR h 141 4 = some 144 := lay_r L0 rfl
        rw [en_133]
        simp (disch := (first | omega | (simp only [kd_sI, kd_sL, kd_sR, kd_cp, kd_aI]; omega) | (unfold catV; exact rfl) | (unfold catS; exact Nat.le_of_ble_eq_true rfl) | assumption)) only [q_133_0, q_133_1_99, q_133_1_100, q_133_1_109, q_133_1_113, q_133_1_d, q_133_44, q_133_45, q_133_48, q_133_49, q_133_52, q_133_53, q_133_54, q_133_55, q_133_56, q_133_58, q_133_61, q_133_62, q_133_63, q_133_66, q_133_68, q_133_69, q_133_72, q_133_73, q_133_74, q_133_75, q_133_76, q_133_77, q_133_79, q_133_82, q_133_83, q_133_84, q_133_87, q_133_88, q_133_89, q_133_90, q_133_91, q_133_92, q_133_93, q_133_96, q_133_97, q_133_98, q_133_99, q_133_102, q_133_103, q_133_104, q_133_105, q_133_106, q_133_109, q_133_110, q_133_111, q_133_112, q_133_115, q_133_116_t, q_133_116_f, q_133_119, q_133_120, q_133_123, q_133_124, q_133_127, q_133_128, q_133_129_t, q_133_129_f, q_133_132, q_133_133, q_133_136, q_133_137_t, q_133_137_f, q_133_140, q_133_141, q_133_144, q_133_145, q_133_148, q_133_149, q_133_150, q_133_153, q_133_155_t, q_133_155_f, q_133_158, q_133_159, q_133_162, q_133_164, q_133_165, q_133_166, q_133_167, q_133_168, q_133_169, q_133_170, q_133_171, q_133_172, q_133_173, q_133_174, q_133_177, q_133_179, q_133_180, q_133_181, q_133_182, q_133_183, q_133_184, q_133_185, q_133_186, q_133_187, q_133_188, q_133_191, q_133_192, q_133_195, q_133_196, q_133_197, q_133_198, q_133_200, q_133_203, q_133_204, q_133_205, q_133_206, q_133_209, q_133_210, q_133_211, q_133_214, q_133_217, q_133_218, q_133_221, q_133_222, q_133_223, q_133_224, q_133_226, q_133_229, q_133_230, q_133_231, q_133_232, q_133_235, q_133_236, q_133_237, q_133_240, q_133_243, q_133_244, q_133_247, aft_i, aft_l, aft_v, Int.toNat_natCast, kd_sI, kd_sL, kd_sR, kd_cp, gI_sL, gI_sR, gL_sI, gL_sR, gR_sI, gR_sL, gL_cp, gR_cp, kd_aI, gL_aI, gR_aI, gI_aI, gI_aIn, sI_aI, gI_sIn, Int.reduceToNat, Int.reduceAdd, Int.reduceSub, Int.reduceMul, Int.reduceNeg, Int.zero_add, r141_3, r141_4, m1, e1, eg2, r23, r25, n2, ix, e3, r33, n3]
    · rw [if_neg b2]
      have e3 := mNum_f (d + 2) g2 L2 (tk X (kn (tk X p))) ta2 f2 1 10 b2 9 rfl
      have e3 : callA (d + 4) 129 [Sum.inr (Sum.inr (some 141)), Sum.inl 1, Sum.inl 9] g2 = some (some (Sum.inl (kv (tk X (kn (tk X p))) : Int)), sI g2 141 15 (ks (tk X (kn (tk X p))))) := e3
      have q3 : prF h (sI g2 141 15 (ks (tk X (kn (tk X p))))) := prF_tr q2 (prF_s (by unfold drf; omega))
      generalize eg3 : sI g2 141 15 (ks (tk X (kn (tk X p)))) = g3 at e3 q3
      have L3 := prF_L q3 L
      have n3 : gI g3 143 1 = tN (dT D) := by rw [← eg3, gI_sIn (by omega)]; exact n2
      have r33 : gR g3 141 3 = some 143 := lay_r L3 rfl
      obtain ⟨a7, a8⟩ := lay_k L3 (a := 145) (t := 100) (n := 14) rfl
      obtain ⟨c1, c2⟩ := lay_k L3 (a := 141) (t := 8) (n := 26) rfl
      obtain ⟨c3, c4⟩ := lay_k L3 (a := 143) (t := 100) (n := 2) rfl
      refine ⟨sI (sI g3 145 (7 + tN (dT D)) (kv (tk X (kn (tk X p))))) 143 1 ((tN (dT D) : Int) + 1), ⟨prF_tr q3 (prF_tr (prF_s (by unfold drf; omega)) (prF_s (by unfold drf; omega))), by show gI _ 141 15 = _; rw [gI_sIn (by omega), gI_sIn (by omega), ← eg3, gI_sIs]⟩, ?_⟩
      obtain ⟨k141, j141⟩ := lay_k L0 (a := 141) (t := 8) (n := 26) rfl; obtain ⟨k143, j143⟩ := lay_k L0 (a := 143) (t := 100) (n := 2) rfl; obtain ⟨k144, j144⟩ := lay_k L0 (a := 144) (t := 100) (n := 7) rfl; have r141_3 : gR h 141 3 = some 143 := lay_r L0 rfl; have r141_4 : gR h 141 4 = some 144 := lay_r L0 rfl
      rw [en_133]
      simp (disch := (first | omega | (simp only [kd_sI, kd_sL, kd_sR, kd_cp, kd_aI]; omega) | (unfold catV; exact rfl) | (unfold catS; exact Nat.le_of_ble_eq_true rfl) | assumption)) only [q_133_0, q_133_1_99, q_133_1_100, q_133_1_109, q_133_1_113, q_133_1_d, q_133_44, q_133_45, q_133_48, q_133_49, q_133_52, q_133_53, q_133_54, q_133_55, q_133_56, q_133_58, q_133_61, q_133_62, q_133_63, q_133_66, q_133_68, q_133_69, q_133_72, q_133_73, q_133_74, q_133_75, q_133_76, q_133_77, q_133_79, q_133_82, q_133_83, q_133_84, q_133_87, q_133_88, q_133_89, q_133_90, q_133_91, q_133_92, q_133_93, q_133_96, q_133_97, q_133_98, q_133_99, q_133_102, q_133_103, q_133_104, q_133_105, q_133_106, q_133_109, q_133_110, q_133_111, q_133_112, q_133_115, q_133_116_t, q_133_116_f, q_133_119, q_133_120, q_133_123, q_133_124, q_133_127, q_133_128, q_133_129_t, q_133_129_f, q_133_132, q_133_133, q_133_136, q_133_137_t, q_133_137_f, q_133_140, q_133_141, q_133_144, q_133_145, q_133_148, q_133_149, q_133_150, q_133_153, q_133_155_t, q_133_155_f, q_133_158, q_133_159, q_133_162, q_133_164, q_133_165, q_133_166, q_133_167, q_133_168, q_133_169, q_133_170, q_133_171, q_133_172, q_133_173, q_133_174, q_133_177, q_133_179, q_133_180, q_133_181, q_133_182, q_133_183, q_133_184, q_133_185, q_133_186, q_133_187, q_133_188, q_133_191, q_133_192, q_133_195, q_133_196, q_133_197, q_133_198, q_133_200, q_133_203, q_133_204, q_133_205, q_133_206, q_133_209, q_133_210, q_133_211, q_133_214, q_133_217, q_133_218, q_133_221, q_133_222, q_133_223, q_133_224, q_133_226, q_133_229, q_133_230, q_133_231, q_133_232, q_133_235, q_133_236, q_133_237, q_133_240, q_133_243, q_133_244, q_133_247, aft_i, aft_l, aft_v, Int.toNat_natCast, kd_sI, kd_sL, kd_sR, kd_cp, gI_sL, gI_sR, gL_sI, gL_sR, gR_sI, gR_sL, gL_cp, gR_cp, kd_aI, gL_aI, gR_aI, gI_aI, gI_aIn, sI_aI, gI_sIn, Int.reduceToNat, Int.reduceAdd, Int.reduceSub, Int.reduceMul, Int.reduceNeg, Int.zero_add, r141_3, r141_4, m1, e1, eg2, r23, r25, n2, ix, e3, r33, n3]
  · rw [if_neg b1]
    have e1 := mNum_f (d + 2) h L (tk X p) ta h15 1 7 b1 6 rfl
    have e1 : callA (d + 4) 129 [Sum.inr (Sum.inr (some 141)), Sum.inl 1, Sum.inl 6] h = some (some (Sum.inl (kv (tk X p) : Int)), sI h 141 15 (ks (tk X p))) := e1
    have q1 : prF h (sI h 141 15 (ks (tk X p))) := prF_s (by unfold drf; omega)
    generalize eg1 : sI h 141 15 (ks (tk X p)) = g1 at e1 q1
    have L1 := prF_L q1 L
    generalize eg2 : sI g1 144 (tN (dT D)) (kv (tk X p)) = g2
    have q2 : prF h g2 := by rw [← eg2]; exact prF_tr q1 (prF_s (by unfold drf; omega))
    have L2 := prF_L q2 L
    have n2 : gI g2 143 1 = tN (dT D) := by rw [← eg2, gI_sIn (by omega), ← eg1, gI_sIn (by omega)]; exact m1
    have f2 : gI g2 141 15 = ks (tk X p) := by rw [← eg2, gI_sIn (by omega), ← eg1, gI_sIs]
    have e3 := mNum_n (d + 2) g2 L2 (by rw [f2]; omega) 1 9
    obtain ⟨a1, a2⟩ := lay_k L1 (a := 144) (t := 100) (n := 7) rfl
    obtain ⟨a3, a4⟩ := lay_k L2 (a := 141) (t := 8) (n := 26) rfl
    obtain ⟨a5, a6⟩ := lay_k L2 (a := 143) (t := 100) (n := 2) rfl
    obtain ⟨a7, a8⟩ := lay_k L2 (a := 145) (t := 100) (n := 14) rfl
    have r23 : gR g2 141 3 = some 143 := lay_r L2 rfl
    have r25 : gR g2 141 5 = some 145 := lay_r L2 rfl
    refine ⟨sI (sI g2 145 (7 + tN (dT D)) (gI g2 141 14)) 143 1 ((tN (dT D) : Int) + 1), ⟨prF_tr q2 (prF_tr (prF_s (by unfold drf; omega)) (prF_s (by unfold drf; omega))), by show gI _ 141 15 = _; rw [gI_sIn (by omega), gI_sIn (by omega), f2]⟩, ?_⟩
    obtain ⟨k141, j141⟩ := lay_k L0 (a := 141) (t := 8) (n := 26) rfl; obtain ⟨k143, j143⟩ := lay_k L0 (a := 143) (t := 100) (n := 2) rfl; obtain ⟨k144, j144⟩ := lay_k L0 (a := 144) (t := 100) (n := 7) rfl; have r141_3 : gR h 141 3 = some 143 := lay_r L0 rfl; have r141_4 : gR h 141 4 = some 144 := lay_r L0 rfl
    rw [en_133]
    simp (disch := (first | omega | (simp only [kd_sI, kd_sL, kd_sR, kd_cp, kd_aI]; omega) | (unfold catV; exact rfl) | (unfold catS; exact Nat.le_of_ble_eq_true rfl) | assumption)) only [q_133_0, q_133_1_99, q_133_1_100, q_133_1_109, q_133_1_113, q_133_1_d, q_133_44, q_133_45, q_133_48, q_133_49, q_133_52, q_133_53, q_133_54, q_133_55, q_133_56, q_133_58, q_133_61, q_133_62, q_133_63, q_133_66, q_133_68, q_133_69, q_133_72, q_133_73, q_133_74, q_133_75, q_133_76, q_133_77, q_133_79, q_133_82, q_133_83, q_133_84, q_133_87, q_133_88, q_133_89, q_133_90, q_133_91, q_133_92, q_133_93, q_133_96, q_133_97, q_133_98, q_133_99, q_133_102, q_133_103, q_133_104, q_133_105, q_133_106, q_133_109, q_133_110, q_133_111, q_133_112, q_133_115, q_133_116_t, q_133_116_f, q_133_119, q_133_120, q_133_123, q_133_124, q_133_127, q_133_128, q_133_129_t, q_133_129_f, q_133_132, q_133_133, q_133_136, q_133_137_t, q_133_137_f, q_133_140, q_133_141, q_133_144, q_133_145, q_133_148, q_133_149, q_133_150, q_133_153, q_133_155_t, q_133_155_f, q_133_158, q_133_159, q_133_162, q_133_164, q_133_165, q_133_166, q_133_167, q_133_168, q_133_169, q_133_170, q_133_171, q_133_172, q_133_173, q_133_174, q_133_177, q_133_179, q_133_180, q_133_181, q_133_182, q_133_183, q_133_184, q_133_185, q_133_186, q_133_187, q_133_188, q_133_191, q_133_192, q_133_195, q_133_196, q_133_197, q_133_198, q_133_200, q_133_203, q_133_204, q_133_205, q_133_206, q_133_209, q_133_210, q_133_211, q_133_214, q_133_217, q_133_218, q_133_221, q_133_222, q_133_223, q_133_224, q_133_226, q_133_229, q_133_230, q_133_231, q_133_232, q_133_235, q_133_236, q_133_237, q_133_240, q_133_243, q_133_244, q_133_247, aft_i, aft_l, aft_v, Int.toNat_natCast, kd_sI, kd_sL, kd_sR, kd_cp, gI_sL, gI_sR, gL_sI, gL_sR, gR_sI, gR_sL, gL_cp, gR_cp, kd_aI, gL_aI, gR_aI, gI_aI, gI_aIn, sI_aI, gI_sIn, Int.reduceToNat, Int.reduceAdd, Int.reduceSub, Int.reduceMul, Int.reduceNeg, Int.zero_add, r141_3, r141_4, m1, e1, eg2, r23, r25, n2, ix, e3]
