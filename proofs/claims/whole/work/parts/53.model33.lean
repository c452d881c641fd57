theorem mRowQ_ok (d : Nat) (X : List Int) (p : Nat) (D : Dr) (h : mH) (L : LAY h) (gs : GS h X p D) (wf : wfD D) : ∃ g, RS h g X (itmQ X p D) ∧ callA (d + 5) 133 [Sum.inr (Sum.inr (some 141)), Sum.inl 113] h = some (none, g) := by
  have L0 := L
  obtain ⟨t, hp, ta, h15, m⟩ := gs
  have m1 := m.1
  have n7 := wf.1.1
  unfold itmQ
  by_cases b1 : numB (tk X p) 0 (tN (dT D)) = true
  · rw [if_pos b1]
    obtain ⟨g1, e1, s1, ta1⟩ := mNum_t d h L X t p hp ta h15 0 (tN (dT D)) b1 ((tN (dT D) : Int) - 1) rfl
    have e1 : callA (d + 4) 129 [Sum.inr (Sum.inr (some 141)), Sum.inl 0, Sum.inl ((tN (dT D) : Int) - 1)] h = some (some (Sum.inl (kv (tk X p) : Int)), g1) := e1
    have tb := (tk_b t.2.2.2 hp).2.2.2.2.1
    have L1 := stp_L s1 L
    have t1 := stp_txt s1 t
    have d1 := stp_dMI s1 m
    have f1 : gI g1 141 15 = -9 := by rw [s1.2.1 141 15 (by omega)]; exact h15
    have n1 := d1.1
    have u3 := ta1.2.2.1
    have u4 := ta1.2.2.2
    have b1 := of_decide_eq_true b1
    have r13 : gR g1 141 3 = some 143 := lay_r L1 rfl
    obtain ⟨a1, a2⟩ := lay_k L1 (a := 141) (t := 8) (n := 26) rfl
    obtain ⟨a3, a4⟩ := lay_k L1 (a := 143) (t := 100) (n := 2) rfl
    have kvb : kv (tk X p) < 7 := by omega
    generalize kv (tk X p) = a at b1 e1 kvb ⊢
    by_cases b2 : numB (tk X (kn (tk X p))) 0 (tN (dT D)) = true ∧ kv (tk X (kn (tk X p))) ≠ a
    · rw [if_pos b2]
      obtain ⟨b2, ne⟩ := b2
      have b2 := of_decide_eq_true b2
      obtain ⟨g2, e2, s2, ta2⟩ := mDue_t (d + 1) g1 L1 X t1 (kn (tk X p)) tb ta1 f1
      have tb2 := (tk_b t.2.2.2 tb).2.2.2.2.1
      have L2 := stp_L s2 L1
      have d2 := stp_dMI s2 d1
      have f2 : gI g2 141 15 = -9 := by rw [s2.2.1 141 15 (by omega)]; exact f1
      have r26 : gR g2 141 6 = some 146 := lay_r L2 rfl
      obtain ⟨c1, c2⟩ := lay_k L2 (a := 141) (t := 8) (n := 26) rfl
      obtain ⟨c3, c4⟩ := lay_k L2 (a := 146) (t := 100) (n := 14) rfl
      have v1 := b2.1
      rw [v1] at u3
      generalize kv (tk X (kn (tk X p))) = b at b2 ne u4 e2 ⊢
      have b7 : b < 7 := by omega
      have fa := d2.2.2.2.2.2.1 a kvb
      have fb := d2.2.2.2.2.2.1 b b7
      have la := wf.1.2.2.2.2.2.1 a b1.2.2
      have lb := wf.1.2.2.2.2.2.1 b b2.2.2
      have sa := shl1 (j := a) (by omega)
      have sb := shl1 (j := b) (by omega)
      have pa : 2 ^ a < 2 ^ 31 := Nat.pow_lt_pow_right (by omega) (by omega)
      have pb : 2 ^ b < 2 ^ 31 := Nat.pow_lt_pow_right (by omega) (by omega)
      have oa := orI_n (a := tF (dT D) a) (b := 2 ^ b) (by omega) pb
      have ob := orI_n (a := tF (dT D) b) (b := 2 ^ a) (by omega) pa
      have ixa : (7 + (a : Int)).toNat = 7 + a := by omega
      have ixb : (7 + (b : Int)).toNat = 7 + b := by omega
      have o1 : gI (sI g2 146 (7 + a) ((tF (dT D) a ||| 2 ^ b : Nat) : Int)) 146 (7 + b) = tF (dT D) b := by rw [gI_sIo (by omega)]; exact fb
      refine ⟨sI (sI g2 146 (7 + a) ((tF (dT D) a ||| 2 ^ b : Nat) : Int)) 146 (7 + b) ((tF (dT D) b ||| 2 ^ a : Nat) : Int), ⟨prF_tr (stp_prF s1) (prF_tr (stp_prF s2) (prF_tr (prF_s (by unfold drf; omega)) (prF_s (by unfold drf; omega)))), tb2, tkAt_s (tkAt_s ta2 (Or.inl (by omega))) (Or.inl (by omega)), by rw [gI_sIn (by omega), gI_sIn (by omega)]; exact f2, ?_⟩, ?_⟩
      · obtain ⟨w1, w2, w3, w4, w5, w6, w7, w8⟩ := d2
        refine ⟨?_, ?_, ?_, ?_, fun c hc => ?_, fun c hc => ?_, fun j hj => ?_, ?_⟩
        · rw [gI_sIn (by omega), gI_sIn (by omega)]; exact w1
        · rw [gI_sIn (by omega), gI_sIn (by omega)]; exact w2
        · rw [gI_sIn (by omega), gI_sIn (by omega)]; exact w3
        · rw [gI_sIn (by omega), gI_sIn (by omega)]; exact w4
        · rw [gI_sIn (by omega), gI_sIn (by omega), gI_sIn (by omega), gI_sIn (by omega)]; exact w5 c hc
        · show _ = ((if c = b then tF (dT D) b ||| 2 ^ a else if c = a then tF (dT D) a ||| 2 ^ b else tF (dT D) c : Nat) : Int)
          by_cases z : c = b
          · rw [if_pos z, z, gI_sIs]
          · rw [if_neg z, gI_sIo (by omega)]
            by_cases y : c = a
            · rw [if_pos y, y, gI_sIs]
            · rw [if_neg y, gI_sIo (by omega)]; exact w6 c hc
        · rw [gI_sIn (by omega), gI_sIn (by omega)]; exact w7 j hj
        · rw [gI_sIn (by omega), gI_sIn (by omega)]; exact w8
      · obtain ⟨k141, j141⟩ := lay_k L0 (a := 141) (t := 8) (n := 26) rfl; obtain ⟨k143, j143⟩ := lay_k L0 (a := 143) (t := 100) (n := 2) rfl; have r141_3 : gR h 141 3 = some 143 := lay_r L0 rfl
        rw [en_133]
        simp (disch := (first | omega | (simp only [kd_sI, kd_sL, kd_sR, kd_cp, kd_aI]; omega) | (unfold catV; exact rfl) | (unfold catS; exact Nat.le_of_ble_eq_true rfl) | assumption)) only [q_133_0, q_133_1_99, q_133_1_100, q_133_1_109, q_133_1_113, q_133_1_d, q_133_44, q_133_45, q_133_48, q_133_49, q_133_52, q_133_53, q_133_54, q_133_55, q_133_56, q_133_58, q_133_61, q_133_62, q_133_63, q_133_66, q_133_68, q_133_69, q_133_72, q_133_73, q_133_74, q_133_75, q_133_76, q_133_77, q_133_79, q_133_82, q_133_83, q_133_84, q_133_87, q_133_88, q_133_89, q_133_90, q_133_91, q_133_92, q_133_93, q_133_96, q_133_97, q_133_98, q_133_99, q_133_102, q_133_103, q_133_104, q_133_105, q_133_106, q_133_109, q_133_110, q_133_111, q_133_112, q_133_115, q_133_116_t, q_133_116_f, q_133_119, q_133_120, q_133_123, q_133_124, q_133_127, q_133_128, q_133_129_t, q_133_129_f, q_133_132, q_133_133, q_133_136, q_133_137_t, q_133_137_f, q_133_140, q_133_141, q_133_144, q_133_145, q_133_148, q_133_149, q_133_150, q_133_153, q_133_155_t, q_133_155_f, q_133_158, q_133_159, q_133_162, q_133_164, q_133_165, q_133_166, q_133_167, q_133_168, q_133_169, q_133_170, q_133_171, q_133_172, q_133_173, q_133_174, q_133_177, q_133_179, q_133_180, q_133_181, q_133_182, q_133_183, q_133_184, q_133_185, q_133_186, q_133_187, q_133_188, q_133_191, q_133_192, q_133_195, q_133_196, q_133_197, q_133_198, q_133_200, q_133_203, q_133_204, q_133_205, q_133_206, q_133_209, q_133_210, q_133_211, q_133_214, q_133_217, q_133_218, q_133_221, q_133_222, q_133_223, q_133_224, q_133_226, q_133_229, q_133_230, q_133_231, q_133_232, q_133_235, q_133_236, q_133_237, q_133_240, q_133_243, q_133_244, q_133_247, aft_i, aft_l, aft_v, Int.toNat_natCast, kd_sI, kd_sL, kd_sR, kd_cp, gI_sL, gI_sR, gL_sI, gL_sR, gR_sI, gR_sL, gL_cp, gR_cp, kd_aI, gL_aI, gR_aI, gI_aI, gI_aIn, sI_aI, gI_sIn, Int.reduceToNat, Int.reduceAdd, Int.reduceSub, Int.reduceMul, Int.reduceNeg, Int.zero_add, r141_3, m1, e1, u3, u4, r13, n1, e2, f2, r26, ixa, ixb, fa, o1, sa, sb, oa, ob]
    · rw [if_neg b2]
      have e2 := mDue_f (d + 3) g1 L1 (tk X (kn (tk X p))) ta1 f1
      have b3 : ¬ ((kk (tk X (kn (tk X p))) = 1 ∧ kv (tk X (kn (tk X p))) < tN (dT D)) ∧ kv (tk X (kn (tk X p))) ≠ a) := fun z => b2 ⟨decide_eq_true ⟨z.1.1, Nat.zero_le _, z.1.2⟩, z.2⟩
      have L2 := prF_L (prF_s (h := g1) (a := 141) (k := 15) (x := (ks (tk X (kn (tk X p))) : Int)) (by unfold drf; omega)) L1
      obtain ⟨c1, c2⟩ := lay_k L2 (a := 141) (t := 8) (n := 26) rfl
      refine ⟨sI g1 141 15 (ks (tk X (kn (tk X p)))), ⟨prF_tr (stp_prF s1) (prF_s (by unfold drf; omega)), gI_sIs _ _ _ _⟩, ?_⟩
      generalize kv (tk X (kn (tk X p))) = b at b3 u4 e2
      generalize kk (tk X (kn (tk X p))) = k2 at b3 u3
      generalize ks (tk X (kn (tk X p))) = st at e2 ⊢
      obtain ⟨k141, j141⟩ := lay_k L0 (a := 141) (t := 8) (n := 26) rfl; obtain ⟨k143, j143⟩ := lay_k L0 (a := 143) (t := 100) (n := 2) rfl; have r141_3 : gR h 141 3 = some 143 := lay_r L0 rfl
      rw [en_133]
      by_cases y1 : k2 = 1
      · subst y1
        have u3 : gI g1 141 13 = 1 := u3
        by_cases y2 : b < tN (dT D)
        · have y3 : b = a := by
            by_cases q : b = a
            · exact q
            · exact absurd ⟨⟨rfl, y2⟩, q⟩ b3
          subst y3
          simp (disch := (first | omega | (simp only [kd_sI, kd_sL, kd_sR, kd_cp, kd_aI]; omega) | (unfold catV; exact rfl) | (unfold catS; exact Nat.le_of_ble_eq_true rfl) | assumption)) only [q_133_0, q_133_1_99, q_133_1_100, q_133_1_109, q_133_1_113, q_133_1_d, q_133_44, q_133_45, q_133_48, q_133_49, q_133_52, q_133_53, q_133_54, q_133_55, q_133_56, q_133_58, q_133_61, q_133_62, q_133_63, q_133_66, q_133_68, q_133_69, q_133_72, q_133_73, q_133_74, q_133_75, q_133_76, q_133_77, q_133_79, q_133_82, q_133_83, q_133_84, q_133_87, q_133_88, q_133_89, q_133_90, q_133_91, q_133_92, q_133_93, q_133_96, q_133_97, q_133_98, q_133_99, q_133_102, q_133_103, q_133_104, q_133_105, q_133_106, q_133_109, q_133_110, q_133_111, q_133_112, q_133_115, q_133_116_t, q_133_116_f, q_133_119, q_133_120, q_133_123, q_133_124, q_133_127, q_133_128, q_133_129_t, q_133_129_f, q_133_132, q_133_133, q_133_136, q_133_137_t, q_133_137_f, q_133_140, q_133_141, q_133_144, q_133_145, q_133_148, q_133_149, q_133_150, q_133_153, q_133_155_t, q_133_155_f, q_133_158, q_133_159, q_133_162, q_133_164, q_133_165, q_133_166, q_133_167, q_133_168, q_133_169, q_133_170, q_133_171, q_133_172, q_133_173, q_133_174, q_133_177, q_133_179, q_133_180, q_133_181, q_133_182, q_133_183, q_133_184, q_133_185, q_133_186, q_133_187, q_133_188, q_133_191, q_133_192, q_133_195, q_133_196, q_133_197, q_133_198, q_133_200, q_133_203, q_133_204, q_133_205, q_133_206, q_133_209, q_133_210, q_133_211, q_133_214, q_133_217, q_133_218, q_133_221, q_133_222, q_133_223, q_133_224, q_133_226, q_133_229, q_133_230, q_133_231, q_133_232, q_133_235, q_133_236, q_133_237, q_133_240, q_133_243, q_133_244, q_133_247, aft_i, aft_l, aft_v, Int.toNat_natCast, kd_sI, kd_sL, kd_sR, kd_cp, gI_sL, gI_sR, gL_sI, gL_sR, gR_sI, gR_sL, gL_cp, gR_cp, kd_aI, gL_aI, gR_aI, gI_aI, gI_aIn, sI_aI, gI_sIn, Int.reduceToNat, Int.reduceAdd, Int.reduceSub, Int.reduceMul, Int.reduceNeg, Int.zero_add, r141_3, m1, e1, u3, u4, r13, n1, e2, gI_sIs]
        · simp (disch := (first | omega | (simp only [kd_sI, kd_sL, kd_sR, kd_cp, kd_aI]; omega) | (unfold catV; exact rfl) | (unfold catS; exact Nat.le_of_ble_eq_true rfl) | assumption)) only [q_133_0, q_133_1_99, q_133_1_100, q_133_1_109, q_133_1_113, q_133_1_d, q_133_44, q_133_45, q_133_48, q_133_49, q_133_52, q_133_53, q_133_54, q_133_55, q_133_56, q_133_58, q_133_61, q_133_62, q_133_63, q_133_66, q_133_68, q_133_69, q_133_72, q_133_73, q_133_74, q_133_75, q_133_76, q_133_77, q_133_79, q_133_82, q_133_83, q_133_84, q_133_87, q_133_88, q_133_89, q_133_90, q_133_91, q_133_92, q_133_93, q_133_96, q_133_97, q_133_98, q_133_99, q_133_102, q_133_103, q_133_104, q_133_105, q_133_106, q_133_109, q_133_110, q_133_111, q_133_112, q_133_115, q_133_116_t, q_133_116_f, q_133_119, q_133_120, q_133_123, q_133_124, q_133_127, q_133_128, q_133_129_t, q_133_129_f, q_133_132, q_133_133, q_133_136, q_133_137_t, q_133_137_f, q_133_140, q_133_141, q_133_144, q_133_145, q_133_148, q_133_149, q_133_150, q_133_153, q_133_155_t, q_133_155_f, q_133_158, q_133_159, q_133_162, q_133_164, q_133_165, q_133_166, q_133_167, q_133_168, q_133_169, q_133_170, q_133_171, q_133_172, q_133_173, q_133_174, q_133_177, q_133_179, q_133_180, q_133_181, q_133_182, q_133_183, q_133_184, q_133_185, q_133_186, q_133_187, q_133_188, q_133_191, q_133_192, q_133_195, q_133_196, q_133_197, q_133_198, q_133_200, q_133_203, q_133_204, q_133_205, q_133_206, q_133_209, q_133_210, q_133_211, q_133_214, q_133_217, q_133_218, q_133_221, q_133_222, q_133_223, q_133_224, q_133_226, q_133_229, q_133_230, q_133_231, q_133_232, q_133_235, q_133_236, q_133_237, q_133_240, q_133_243, q_133_244, q_133_247, aft_i, aft_l, aft_v, Int.toNat_natCast, kd_sI, kd_sL, kd_sR, kd_cp, gI_sL, gI_sR, gL_sI, gL_sR, gR_sI, gR_sL, gL_cp, gR_cp, kd_aI, gL_aI, gR_aI, gI_aI, gI_aIn, sI_aI, gI_sIn, Int.reduceToNat, Int.reduceAdd, Int.reduceSub, Int.reduceMul, Int.reduceNeg, Int.zero_add, r141_3, m1, e1, u3, u4, r13, n1, e2, gI_sIs]
      · simp (disch := (first | omega | (simp only [kd_sI, kd_sL, kd_sR, kd_cp, kd_aI]; omega) | (unfold catV; exact rfl) | (unfold catS; exact Nat.le_of_ble_eq_true rfl) | assumption)) only [q_133_0, q_133_1_99, q_133_1_100, q_133_1_109, q_133_1_113, q_133_1_d, q_133_44, q_133_45, q_133_48, q_133_49, q_133_52, q_133_53, q_133_54, q_133_55, q_133_56, q_133_58, q_133_61, q_133_62, q_133_63, q_133_66, q_133_68, q_133_69, q_133_72, q_133_73, q_133_74, q_133_75, q_133_76, q_133_77, q_133_79, q_133_82, q_133_83, q_133_84, q_133_87, q_133_88, q_133_89, q_133_90, q_133_91, q_133_92, q_133_93, q_133_96, q_133_97, q_133_98, q_133_99, q_133_102, q_133_103, q_133_104, q_133_105, q_133_106, q_133_109, q_133_110, q_133_111, q_133_112, q_133_115, q_133_116_t, q_133_116_f, q_133_119, q_133_120, q_133_123, q_133_124, q_133_127, q_133_128, q_133_129_t, q_133_129_f, q_133_132, q_133_133, q_133_136, q_133_137_t, q_133_137_f, q_133_140, q_133_141, q_133_144, q_133_145, q_133_148, q_133_149, q_133_150, q_133_153, q_133_155_t, q_133_155_f, q_133_158, q_133_159, q_133_162, q_133_164, q_133_165, q_133_166, q_133_167, q_133_168, q_133_169, q_133_170, q_133_171, q_133_172, q_133_173, q_133_174, q_133_177, q_133_179, q_133_180, q_133_181, q_133_182, q_133_183, q_133_184, q_133_185, q_133_186, q_133_187, q_133_188, q_133_191, q_133_192, q_133_195, q_133_196, q_133_197, q_133_198, q_133_200, q_133_203, q_133_204, q_133_205, q_133_206, q_133_209, q_133_210, q_133_211, q_133_214, q_133_217, q_133_218, q_133_221, q_133_222, q_133_223, q_133_224, q_133_226, q_133_229, q_133_230, q_133_231, q_133_232, q_133_235, q_133_236, q_133_237, q_133_240, q_133_243, q_133_244, q_133_247, aft_i, aft_l, aft_v, Int.toNat_natCast, kd_sI, kd_sL, kd_sR, kd_cp, gI_sL, gI_sR, gL_sI, gL_sR, gR_sI, gR_sL, gL_cp, gR_cp, kd_aI, gL_aI, gR_aI, gI_aI, gI_aIn, sI_aI, gI_sIn, Int.reduceToNat, Int.reduceAdd, Int.reduceSub, Int.reduceMul, Int.reduceNeg, Int.zero_add, r141_3, m1, e1, u3, e2, gI_sIs]
  · rw [if_neg b1]
    have e1 := mNum_f (d + 2) h L (tk X p) ta h15 0 (tN (dT D)) b1 ((tN (dT D) : Int) - 1) rfl
    have e1 : callA (d + 4) 129 [Sum.inr (Sum.inr (some 141)), Sum.inl 0, Sum.inl ((tN (dT D) : Int) - 1)] h = some (some (Sum.inl (kv (tk X p) : Int)), sI h 141 15 (ks (tk X p))) := e1
    have q1 : prF h (sI h 141 15 (ks (tk X p))) := prF_s (by unfold drf; omega)
    have f1 : gI (sI h 141 15 (ks (tk X p))) 141 15 = ks (tk X p) := gI_sIs _ _ _ _
    have n1 : gI (sI h 141 15 (ks (tk X p))) 143 1 = tN (dT D) := by rw [gI_sIn (by omega)]; exact m1
    have u4 : gI (sI h 141 15 (ks (tk X p))) 141 14 = kv (tk X p) := by rw [gI_sIo (by omega)]; exact ta.2.2.2
    generalize sI h 141 15 (ks (tk X p)) = g1 at e1 q1 f1 n1 u4
    have L1 := prF_L q1 L
    have e2 := fun b => mDue_n (d + 3) g1 L1 b (by rw [f1]; omega)
    have r13 : gR g1 141 3 = some 143 := lay_r L1 rfl
    obtain ⟨a1, a2⟩ := lay_k L1 (a := 141) (t := 8) (n := 26) rfl
    obtain ⟨a3, a4⟩ := lay_k L1 (a := 143) (t := 100) (n := 2) rfl
    refine ⟨g1, ⟨q1, f1⟩, ?_⟩
    obtain ⟨k141, j141⟩ := lay_k L0 (a := 141) (t := 8) (n := 26) rfl; obtain ⟨k143, j143⟩ := lay_k L0 (a := 143) (t := 100) (n := 2) rfl; have r141_3 : gR h 141 3 = some 143 := lay_r L0 rfl
    rw [en_133]
    have f9 : ((ks (tk X p) : Nat) : Int) ≠ -9 := by omega
    by_cases y1 : gI g1 141 13 = 1
    · by_cases y2 : kv (tk X p) < tN (dT D)
      · simp (disch := (first | omega | (simp only [kd_sI, kd_sL, kd_sR, kd_cp, kd_aI]; omega) | (unfold catV; exact rfl) | (unfold catS; exact Nat.le_of_ble_eq_true rfl) | assumption)) only [q_133_0, q_133_1_99, q_133_1_100, q_133_1_109, q_133_1_113, q_133_1_d, q_133_44, q_133_45, q_133_48, q_133_49, q_133_52, q_133_53, q_133_54, q_133_55, q_133_56, q_133_58, q_133_61, q_133_62, q_133_63, q_133_66, q_133_68, q_133_69, q_133_72, q_133_73, q_133_74, q_133_75, q_133_76, q_133_77, q_133_79, q_133_82, q_133_83, q_133_84, q_133_87, q_133_88, q_133_89, q_133_90, q_133_91, q_133_92, q_133_93, q_133_96, q_133_97, q_133_98, q_133_99, q_133_102, q_133_103, q_133_104, q_133_105, q_133_106, q_133_109, q_133_110, q_133_111, q_133_112, q_133_115, q_133_116_t, q_133_116_f, q_133_119, q_133_120, q_133_123, q_133_124, q_133_127, q_133_128, q_133_129_t, q_133_129_f, q_133_132, q_133_133, q_133_136, q_133_137_t, q_133_137_f, q_133_140, q_133_141, q_133_144, q_133_145, q_133_148, q_133_149, q_133_150, q_133_153, q_133_155_t, q_133_155_f, q_133_158, q_133_159, q_133_162, q_133_164, q_133_165, q_133_166, q_133_167, q_133_168, q_133_169, q_133_170, q_133_171, q_133_172, q_133_173, q_133_174, q_133_177, q_133_179, q_133_180, q_133_181, q_133_182, q_133_183, q_133_184, q_133_185, q_133_186, q_133_187, q_133_188, q_133_191, q_133_192, q_133_195, q_133_196, q_133_197, q_133_198, q_133_200, q_133_203, q_133_204, q_133_205, q_133_206, q_133_209, q_133_210, q_133_211, q_133_214, q_133_217, q_133_218, q_133_221, q_133_222, q_133_223, q_133_224, q_133_226, q_133_229, q_133_230, q_133_231, q_133_232, q_133_235, q_133_236, q_133_237, q_133_240, q_133_243, q_133_244, q_133_247, aft_i, aft_l, aft_v, Int.toNat_natCast, kd_sI, kd_sL, kd_sR, kd_cp, gI_sL, gI_sR, gL_sI, gL_sR, gR_sI, gR_sL, gL_cp, gR_cp, kd_aI, gL_aI, gR_aI, gI_aI, gI_aIn, sI_aI, gI_sIn, Int.reduceToNat, Int.reduceAdd, Int.reduceSub, Int.reduceMul, Int.reduceNeg, Int.zero_add, r141_3, m1, e1, y1, u4, r13, n1, e2, f1]
      · simp (disch := (first | omega | (simp only [kd_sI, kd_sL, kd_sR, kd_cp, kd_aI]; omega) | (unfold catV; exact rfl) | (unfold catS; exact Nat.le_of_ble_eq_true rfl) | assumption)) only [q_133_0, q_133_1_99, q_133_1_100, q_133_1_109, q_133_1_113, q_133_1_d, q_133_44, q_133_45, q_133_48, q_133_49, q_133_52, q_133_53, q_133_54, q_133_55, q_133_56, q_133_58, q_133_61, q_133_62, q_133_63, q_133_66, q_133_68, q_133_69, q_133_72, q_133_73, q_133_74, q_133_75, q_133_76, q_133_77, q_133_79, q_133_82, q_133_83, q_133_84, q_133_87, q_133_88, q_133_89, q_133_90, q_133_91, q_133_92, q_133_93, q_133_96, q_133_97, q_133_98, q_133_99, q_133_102, q_133_103, q_133_104, q_133_105, q_133_106, q_133_109, q_133_110, q_133_111, q_133_112, q_133_115, q_133_116_t, q_133_116_f, q_133_119, q_133_120, q_133_123, q_133_124, q_133_127, q_133_128, q_133_129_t, q_133_129_f, q_133_132, q_133_133, q_133_136, q_133_137_t, q_133_137_f, q_133_140, q_133_141, q_133_144, q_133_145, q_133_148, q_133_149, q_133_150, q_133_153, q_133_155_t, q_133_155_f, q_133_158, q_133_159, q_133_162, q_133_164, q_133_165, q_133_166, q_133_167, q_133_168, q_133_169, q_133_170, q_133_171, q_133_172, q_133_173, q_133_174, q_133_177, q_133_179, q_133_180, q_133_181, q_133_182, q_133_183, q_133_184, q_133_185, q_133_186, q_133_187, q_133_188, q_133_191, q_133_192, q_133_195, q_133_196, q_133_197, q_133_198, q_133_200, q_133_203, q_133_204, q_133_205, q_133_206, q_133_209, q_133_210, q_133_211, q_133_214, q_133_217, q_133_218, q_133_221, q_133_222, q_133_223, q_133_224, q_133_226, q_133_229, q_133_230, q_133_231, q_133_232, q_133_235, q_133_236, q_133_237, q_133_240, q_133_243, q_133_244, q_133_247, aft_i, aft_l, aft_v, Int.toNat_natCast, kd_sI, kd_sL, kd_sR, kd_cp, gI_sL, gI_sR, gL_sI, gL_sR, gR_sI, gR_sL, gL_cp, gR_cp, kd_aI, gL_aI, gR_aI, gI_aI, gI_aIn, sI_aI, gI_sIn, Int.reduceToNat, Int.reduceAdd, Int.reduceSub, Int.reduceMul, Int.reduceNeg, Int.zero_add, r141_3, m1, e1, y1, u4, r13, n1, e2, f1]
    · simp (disch := (first | omega | (simp only [kd_sI, kd_sL, kd_sR, kd_cp, kd_aI]; omega) | (unfold catV; exact rfl) | (unfold catS; exact Nat.le_of_ble_eq_true rfl) | assumption)) only [q_133_0, q_133_1_99, q_133_1_100, q_133_1_109, q_133_1_113, q_133_1_d, q_133_44, q_133_45, q_133_48, q_133_49, q_133_52, q_133_53, q_133_54, q_133_55, q_133_56, q_133_58, q_133_61, q_133_62, q_133_63, q_133_66, q_133_68, q_133_69, q_133_72, q_133_73, q_133_74, q_133_75, q_133_76, q_133_77, q_133_79, q_133_82, q_133_83, q_133_84, q_133_87, q_133_88, q_133_89, q_133_90, q_133_91, q_133_92, q_133_93, q_133_96, q_133_97, q_133_98, q_133_99, q_133_102, q_133_103, q_133_104, q_133_105, q_133_106, q_133_109, q_133_110, q_133_111, q_133_112, q_133_115, q_133_116_t, q_133_116_f, q_133_119, q_133_120, q_133_123, q_133_124, q_133_127, q_133_128, q_133_129_t, q_133_129_f, q_133_132, q_133_133, q_133_136, q_133_137_t, q_133_137_f, q_133_140, q_133_141, q_133_144, q_133_145, q_133_148, q_133_149, q_133_150, q_133_153, q_133_155_t, q_133_155_f, q_133_158, q_133_159, q_133_162, q_133_164, q_133_165, q_133_166, q_133_167, q_133_168, q_133_169, q_133_170, q_133_171, q_133_172, q_133_173, q_133_174, q_133_177, q_133_179, q_133_180, q_133_181, q_133_182, q_133_183, q_133_184, q_133_185, q_133_186, q_133_187, q_133_188, q_133_191, q_133_192, q_133_195, q_133_196, q_133_197, q_133_198, q_133_200, q_133_203, q_133_204, q_133_205, q_133_206, q_133_209, q_133_210, q_133_211, q_133_214, q_133_217, q_133_218, q_133_221, q_133_222, q_133_223, q_133_224, q_133_226, q_133_229, q_133_230, q_133_231, q_133_232, q_133_235, q_133_236, q_133_237, q_133_240, q_133_243, q_133_244, q_133_247, aft_i, aft_l, aft_v, Int.toNat_natCast, kd_sI, kd_sL, kd_sR, kd_cp, gI_sL, gI_sR, gL_sI, gL_sR, gR_sI, gR_sL, gL_cp, gR_cp, kd_aI, gL_aI, gR_aI, gI_aI, gI_aIn, sI_aI, gI_sIn, Int.reduceToNat, Int.reduceAdd, Int.reduceSub, Int.reduceMul, Int.reduceNeg, Int.zero_add, r141_3, m1, e1, y1, e2, f1]
theorem mRowD_ok (d : Nat) (X : List Int) (p : Nat) (D : Dr) (h : mH) (L : LAY h) (gs : GS h X p D) (wf : wfD D) : ∃ g, RS h g X (itmD X p D) ∧ callA (d + 5) 133 [Sum.inr (Sum.inr (some 141)), Sum.inl 100] h = some (none, g) := by
  have L0 := L
  obtain ⟨t, hp, ta, h15, m⟩ := gs
  have f8 := wf.2.2.1
  have o4 := orI_n (a := dF D) (b := 1) (by omega) (by omega)
  have o4 : orI (dF D : Int) 1 = ((dF D ||| 1 : Nat) : Int) := o4
  unfold itmD
  by_cases b1 : numB (tk X p) 1 10 = true
  · rw [if_pos b1]
    obtain ⟨g1, e1, s1, ta1⟩ := mNum_t d h L X t p hp ta h15 1 10 b1 9 rfl
    have e1 : callA (d + 4) 129 [Sum.inr (Sum.inr (some 141)), Sum.inl 1, Sum.inl 9] h = some (some (Sum.inl (kv (tk X p) : Int)), g1) := e1
    have tb := (tk_b t.2.2.2 hp).2.2.2.2.1
    have L1 := stp_L s1 L
    have d1 := stp_dMI s1 m
    have f1 : gI g1 141 15 = -9 := by rw [s1.2.1 141 15 (by omega)]; exact h15
    have d8 := d1.2.2.2.2.2.2.2
    obtain ⟨a1, a2⟩ := lay_k L1 (a := 141) (t := 8) (n := 26) rfl
    obtain ⟨a3, a4⟩ := lay_k L1 (a := 149) (t := 100) (n := 4) rfl
    refine ⟨sI (sI g1 149 2 (kv (tk X p))) 141 10 ((dF D ||| 1 : Nat) : Int), ⟨prF_tr (stp_prF s1) (prF_tr (prF_s (by unfold drf; omega)) (prF_s (by unfold drf; omega))), tb, tkAt_s (tkAt_s ta1 (Or.inl (by omega))) (Or.inr (by omega)), by rw [gI_sIo (by omega), gI_sIn (by omega)]; exact f1, ?_⟩, ?_⟩
    · obtain ⟨w1, w2, w3, w4, w5, w6, w7, w8⟩ := d1
      refine ⟨?_, ?_, ?_, ?_, fun c hc => ?_, fun c hc => ?_, fun j hj => ?_, ?_⟩
      · rw [gI_sIn (by omega), gI_sIn (by omega)]; exact w1
      · rw [gI_sIn (by omega), gI_sIn (by omega)]; exact w2
      · rw [gI_sIn (by omega), gI_sIs]; rfl
      · rw [gI_sIn (by omega), gI_sIo (by omega)]; exact w4
      · rw [gI_sIn (by omega), gI_sIn (by omega), gI_sIn (by omega), gI_sIn (by omega)]; exact w5 c hc
      · rw [gI_sIn (by omega), gI_sIn (by omega)]; exact w6 c hc
      · rw [gI_sIn (by omega), gI_sIn (by omega)]; exact w7 j hj
      · rw [gI_sIs]; rfl
    · obtain ⟨k141, j141⟩ := lay_k L0 (a := 141) (t := 8) (n := 26) rfl; obtain ⟨k149, j149⟩ := lay_k L0 (a := 149) (t := 100) (n := 4) rfl; have r141_9 : gR h 141 9 = some 149 := lay_r L0 rfl
      rw [en_133]
      simp (disch := (first | omega | (simp only [kd_sI, kd_sL, kd_sR, kd_cp, kd_aI]; omega) | (unfold catV; exact rfl) | (unfold catS; exact Nat.le_of_ble_eq_true rfl) | assumption)) only [q_133_0, q_133_1_99, q_133_1_100, q_133_1_109, q_133_1_113, q_133_1_d, q_133_44, q_133_45, q_133_48, q_133_49, q_133_52, q_133_53, q_133_54, q_133_55, q_133_56, q_133_58, q_133_61, q_133_62, q_133_63, q_133_66, q_133_68, q_133_69, q_133_72, q_133_73, q_133_74, q_133_75, q_133_76, q_133_77, q_133_79, q_133_82, q_133_83, q_133_84, q_133_87, q_133_88, q_133_89, q_133_90, q_133_91, q_133_92, q_133_93, q_133_96, q_133_97, q_133_98, q_133_99, q_133_102, q_133_103, q_133_104, q_133_105, q_133_106, q_133_109, q_133_110, q_133_111, q_133_112, q_133_115, q_133_116_t, q_133_116_f, q_133_119, q_133_120, q_133_123, q_133_124, q_133_127, q_133_128, q_133_129_t, q_133_129_f, q_133_132, q_133_133, q_133_136, q_133_137_t, q_133_137_f, q_133_140, q_133_141, q_133_144, q_133_145, q_133_148, q_133_149, q_133_150, q_133_153, q_133_155_t, q_133_155_f, q_133_158, q_133_159, q_133_162, q_133_164, q_133_165, q_133_166, q_133_167, q_133_168, q_133_169, q_133_170, q_133_171, q_133_172, q_133_173, q_133_174, q_133_177, q_133_179, q_133_180, q_133_181, q_133_182, q_133_183, q_133_184, q_133_185, q_133_186, q_133_187, q_133_188, q_133_191, q_133_192, q_133_195, q_133_196, q_133_197, q_133_198, q_133_200, q_133_203, q_133_204, q_133_205, q_133_206, q_133_209, q_133_210, q_133_211, q_133_214, q_133_217, q_133_218, q_133_221, q_133_222, q_133_223, q_133_224, q_133_226, q_133_229, q_133_230, q_133_231, q_133_232, q_133_235, q_133_236, q_133_237, q_133_240, q_133_243, q_133_244, q_133_247, aft_i, aft_l, aft_v, Int.toNat_natCast, kd_sI, kd_sL, kd_sR, kd_cp, gI_sL, gI_sR, gL_sI, gL_sR, gR_sI, gR_sL, gL_cp, gR_cp, kd_aI, gL_aI, gR_aI, gI_aI, gI_aIn, sI_aI, gI_sIn, Int.reduceToNat, Int.reduceAdd, Int.reduceSub, Int.reduceMul, Int.reduceNeg, Int.zero_add, r141_9, e1, d8, o4]
  · rw [if_neg b1]
    have e1 := mNum_f (d + 2) h L (tk X p) ta h15 1 10 b1 9 rfl
    have e1 : callA (d + 4) 129 [Sum.inr (Sum.inr (some 141)), Sum.inl 1, Sum.inl 9] h = some (some (Sum.inl (kv (tk X p) : Int)), sI h 141 15 (ks (tk X p))) := e1
    have q1 : prF h (sI h 141 15 (ks (tk X p))) := prF_s (by unfold drf; omega)
    have f1 : gI (sI h 141 15 (ks (tk X p))) 141 15 = ks (tk X p) := gI_sIs _ _ _ _
    generalize sI h 141 15 (ks (tk X p)) = g1 at e1 q1 f1
    have L1 := prF_L q1 L
    obtain ⟨a1, a2⟩ := lay_k L1 (a := 141) (t := 8) (n := 26) rfl
    obtain ⟨a3, a4⟩ := lay_k L1 (a := 149) (t := 100) (n := 4) rfl
    refine ⟨sI (sI g1 149 2 (kv (tk X p))) 141 10 (orI (gI g1 141 10) 1), ⟨prF_tr q1 (prF_tr (prF_s (by unfold drf; omega)) (prF_s (by unfold drf; omega))), by show gI _ 141 15 = _; rw [gI_sIo (by omega), gI_sIn (by omega), f1]⟩, ?_⟩
    obtain ⟨k141, j141⟩ := lay_k L0 (a := 141) (t := 8) (n := 26) rfl; obtain ⟨k149, j149⟩ := lay_k L0 (a := 149) (t := 100) (n := 4) rfl; have r141_9 : gR h 141 9 = some 149 := lay_r L0 rfl
    rw [en_133]
    simp (disch := (first | omega | (simp only [kd_sI, kd_sL, kd_sR, kd_cp, kd_aI]; omega) | (unfold catV; exact rfl) | (unfold catS; exact Nat.le_of_ble_eq_true rfl) | assumption)) only [q_133_0, q_133_1_99, q_133_1_100, q_133_1_109, q_133_1_113, q_133_1_d, q_133_44, q_133_45, q_133_48, q_133_49, q_133_52, q_133_53, q_133_54, q_133_55, q_133_56, q_133_58, q_133_61, q_133_62, q_133_63, q_133_66, q_133_68, q_133_69, q_133_72, q_133_73, q_133_74, q_133_75, q_133_76, q_133_77, q_133_79, q_133_82, q_133_83, q_133_84, q_133_87, q_133_88, q_133_89, q_133_90, q_133_91, q_133_92, q_133_93, q_133_96, q_133_97, q_133_98, q_133_99, q_133_102, q_133_103, q_133_104, q_133_105, q_133_106, q_133_109, q_133_110, q_133_111, q_133_112, q_133_115, q_133_116_t, q_133_116_f, q_133_119, q_133_120, q_133_123, q_133_124, q_133_127, q_133_128, q_133_129_t, q_133_129_f, q_133_132, q_133_133, q_133_136, q_133_137_t, q_133_137_f, q_133_140, q_133_141, q_133_144, q_133_145, q_133_148, q_133_149, q_133_150, q_133_153, q_133_155_t, q_133_155_f, q_133_158, q_133_159, q_133_162, q_133_164, q_133_165, q_133_166, q_133_167, q_133_168, q_133_169, q_133_170, q_133_171, q_133_172, q_133_173, q_133_174, q_133_177, q_133_179, q_133_180, q_133_181, q_133_182, q_133_183, q_133_184, q_133_185, q_133_186, q_133_187, q_133_188, q_133_191, q_133_192, q_133_195, q_133_196, q_133_197, q_133_198, q_133_200, q_133_203, q_133_204, q_133_205, q_133_206, q_133_209, q_133_210, q_133_211, q_133_214, q_133_217, q_133_218, q_133_221, q_133_222, q_133_223, q_133_224, q_133_226, q_133_229, q_133_230, q_133_231, q_133_232, q_133_235, q_133_236, q_133_237, q_133_240, q_133_243, q_133_244, q_133_247, aft_i, aft_l, aft_v, Int.toNat_natCast, kd_sI, kd_sL, kd_sR, kd_cp, gI_sL, gI_sR, gL_sI, gL_sR, gR_sI, gR_sL, gL_cp, gR_cp, kd_aI, gL_aI, gR_aI, gI_aI, gI_aIn, sI_aI, gI_sIn, Int.reduceToNat, Int.reduceAdd, Int.reduceSub, Int.reduceMul, Int.reduceNeg, Int.zero_add, r141_9, e1]
theorem mRowM_ok (d : Nat) (X : List Int) (p : Nat) (D : Dr) (h : mH) (L : LAY h) (gs : GS h X p D) (wf : wfD D) : ∃ g, RS h g X (itmM X p D) ∧ callA (d + 5) 133 [Sum.inr (Sum.inr (some 141)), Sum.inl 109] h = some (none, g) := by
  have L0 := L
  obtain ⟨t, hp, ta, h15, m⟩ := gs
  have f8 := wf.2.2.1
  have o4 := orI_n (a := dF D) (b := 2) (by omega) (by omega)
  have o4 : orI (dF D : Int) 2 = ((dF D ||| 2 : Nat) : Int) := o4
  unfold itmM
  by_cases b1 : numB (tk X p) 1 61 = true
  · rw [if_pos b1]
    obtain ⟨g1, e1, s1, ta1⟩ := mNum_t d h L X t p hp ta h15 1 61 b1 60 rfl
    have e1 : callA (d + 4) 129 [Sum.inr (Sum.inr (some 141)), Sum.inl 1, Sum.inl 60] h = some (some (Sum.inl (kv (tk X p) : Int)), g1) := e1
    have tb := (tk_b t.2.2.2 hp).2.2.2.2.1
    have L1 := stp_L s1 L
    have d1 := stp_dMI s1 m
    have f1 : gI g1 141 15 = -9 := by rw [s1.2.1 141 15 (by omega)]; exact h15
    have d8 := d1.2.2.2.2.2.2.2
    obtain ⟨a1, a2⟩ := lay_k L1 (a := 141) (t := 8) (n := 26) rfl
    obtain ⟨a3, a4⟩ := lay_k L1 (a := 149) (t := 100) (n := 4) rfl
    refine ⟨sI (sI g1 149 3 (kv (tk X p))) 141 10 ((dF D ||| 2 : Nat) : Int), ⟨prF_tr (stp_prF s1) (prF_tr (prF_s (by unfold drf; omega)) (prF_s (by unfold drf; omega))), tb, tkAt_s (tkAt_s ta1 (Or.inl (by omega))) (Or.inr (by omega)), by rw [gI_sIo (by omega), gI_sIn (by omega)]; exact f1, ?_⟩, ?_⟩
    · obtain ⟨w1, w2, w3, w4, w5, w6, w7, w8⟩ := d1
      refine ⟨?_, ?_, ?_, ?_, fun c hc => ?_, fun c hc => ?_, fun j hj => ?_, ?_⟩
      · rw [gI_sIn (by omega), gI_sIn (by omega)]; exact w1
      · rw [gI_sIn (by omega), gI_sIn (by omega)]; exact w2
      · rw [gI_sIn (by omega), gI_sIo (by omega)]; exact w3
      · rw [gI_sIn (by omega), gI_sIs]; rfl
      · rw [gI_sIn (by omega), gI_sIn (by omega), gI_sIn (by omega), gI_sIn (by omega)]; exact w5 c hc
      · rw [gI_sIn (by omega), gI_sIn (by omega)]; exact w6 c hc
      · rw [gI_sIn (by omega), gI_sIn (by omega)]; exact w7 j hj
      · rw [gI_sIs]; rfl
    · obtain ⟨k141, j141⟩ := lay_k L0 (a := 141) (t := 8) (n := 26) rfl; obtain ⟨k149, j149⟩ := lay_k L0 (a := 149) (t := 100) (n := 4) rfl; have r141_9 : gR h 141 9 = some 149 := lay_r L0 rfl
      rw [en_133]
      simp (disch := (first | omega | (simp only [kd_sI, kd_sL, kd_sR, kd_cp, kd_aI]; omega) | (unfold catV; exact rfl) | (unfold catS; exact Nat.le_of_ble_eq_true rfl) | assumption)) only [q_133_0, q_133_1_99, q_133_1_100, q_133_1_109, q_133_1_113, q_133_1_d, q_133_44, q_133_45, q_133_48, q_133_49, q_133_52, q_133_53, q_133_54, q_133_55, q_133_56, q_133_58, q_133_61, q_133_62, q_133_63, q_133_66, q_133_68, q_133_69, q_133_72, q_133_73, q_133_74, q_133_75, q_133_76, q_133_77, q_133_79, q_133_82, q_133_83, q_133_84, q_133_87, q_133_88, q_133_89, q_133_90, q_133_91, q_133_92, q_133_93, q_133_96, q_133_97, q_133_98, q_133_99, q_133_102, q_133_103, q_133_104, q_133_105, q_133_106, q_133_109, q_133_110, q_133_111, q_133_112, q_133_115, q_133_116_t, q_133_116_f, q_133_119, q_133_120, q_133_123, q_133_124, q_133_127, q_133_128, q_133_129_t, q_133_129_f, q_133_132, q_133_133, q_133_136, q_133_137_t, q_133_137_f, q_133_140, q_133_141, q_133_144, q_133_145, q_133_148, q_133_149, q_133_150, q_133_153, q_133_155_t, q_133_155_f, q_133_158, q_133_159, q_133_162, q_133_164, q_133_165, q_133_166, q_133_167, q_133_168, q_133_169, q_133_170, q_133_171, q_133_172, q_133_173, q_133_174, q_133_177, q_133_179, q_133_180, q_133_181, q_133_182, q_133_183, q_133_184, q_133_185, q_133_186, q_133_187, q_133_188, q_133_191, q_133_192, q_133_195, q_133_196, q_133_197, q_133_198, q_133_200, q_133_203, q_133_204, q_133_205, q_133_206, q_133_209, q_133_210, q_133_211, q_133_214, q_133_217, q_133_218, q_133_221, q_133_222, q_133_223, q_133_224, q_133_226, q_133_229, q_133_230, q_133_231, q_133_232, q_133_235, q_133_236, q_133_237, q_133_240, q_133_243, q_133_244, q_133_247, aft_i, aft_l, aft_v, Int.toNat_natCast, kd_sI, kd_sL, kd_sR, kd_cp, gI_sL, gI_sR, gL_sI, gL_sR, gR_sI, gR_sL, gL_cp, gR_cp, kd_aI, gL_aI, gR_aI, gI_aI, gI_aIn, sI_aI, gI_sIn, Int.reduceToNat, Int.reduceAdd, Int.reduceSub, Int.reduceMul, Int.reduceNeg, Int.zero_add, r141_9, e1, d8, o4]
  · rw [if_neg b1]
    have e1 := mNum_f (d + 2) h L (tk X p) ta h15 1 61 b1 60 rfl
    have e1 : callA (d + 4) 129 [Sum.inr (Sum.inr (some 141)), Sum.inl 1, Sum.inl 60] h = some (some (Sum.inl (kv (tk X p) : Int)), sI h 141 15 (ks (tk X p))) := e1
    have q1 : prF h (sI h 141 15 (ks (tk X p))) := prF_s (by unfold drf; omega)
    have f1 : gI (sI h 141 15 (ks (tk X p))) 141 15 = ks (tk X p) := gI_sIs _ _ _ _
    generalize sI h 141 15 (ks (tk X p)) = g1 at e1 q1 f1
    have L1 := prF_L q1 L
    obtain ⟨a1, a2⟩ := lay_k L1 (a := 141) (t := 8) (n := 26) rfl
    obtain ⟨a3, a4⟩ := lay_k L1 (a := 149) (t := 100) (n := 4) rfl
    refine ⟨sI (sI g1 149 3 (kv (tk X p))) 141 10 (orI (gI g1 141 10) 2), ⟨prF_tr q1 (prF_tr (prF_s (by unfold drf; omega)) (prF_s (by unfold drf; omega))), by show gI _ 141 15 = _; rw [gI_sIo (by omega), gI_sIn (by omega), f1]⟩, ?_⟩
    obtain ⟨k141, j141⟩ := lay_k L0 (a := 141) (t := 8) (n := 26) rfl; obtain ⟨k149, j149⟩ := lay_k L0 (a := 149) (t := 100) (n := 4) rfl; have r141_9 : gR h 141 9 = some 149 := lay_r L0 rfl
    rw [en_133]
    simp (disch := (first | omega | (simp only [kd_sI, kd_sL, kd_sR, kd_cp, kd_aI]; omega) | (unfold catV; exact rfl) | (unfold catS; exact Nat.le_of_ble_eq_true rfl) | assumption)) only [q_133_0, q_133_1_99, q_133_1_100, q_133_1_109, q_133_1_113, q_133_1_d, q_133_44, q_133_45, q_133_48, q_133_49, q_133_52, q_133_53, q_133_54, q_133_55, q_133_56, q_133_58, q_133_61, q_133_62, q_133_63, q_133_66, q_133_68, q_133_69, q_133_72, q_133_73, q_133_74, q_133_75, q_133_76, q_133_77, q_133_79, q_133_82, q_133_83, q_133_84, q_133_87, q_133_88, q_133_89, q_133_90, q_133_91, q_133_92, q_133_93, q_133_96, q_133_97, q_133_98, q_133_99, q_133_102, q_133_103, q_133_104, q_133_105, q_133_106, q_133_109, q_133_110, q_133_111, q_133_112, q_133_115, q_133_116_t, q_133_116_f, q_133_119, q_133_120, q_133_123, q_133_124, q_133_127, q_133_128, q_133_129_t, q_133_129_f, q_133_132, q_133_133, q_133_136, q_133_137_t, q_133_137_f, q_133_140, q_133_141, q_133_144, q_133_145, q_133_148, q_133_149, q_133_150, q_133_153, q_133_155_t, q_133_155_f, q_133_158, q_133_159, q_133_162, q_133_164, q_133_165, q_133_166, q_133_167, q_133_168, q_133_169, q_133_170, q_133_171, q_133_172, q_133_173, q_133_174, q_133_177, q_133_179, q_133_180, q_133_181, q_133_182, q_133_183, q_133_184, q_133_185, q_133_186, q_133_187, q_133_188, q_133_191, q_133_192, q_133_195, q_133_196, q_133_197, q_133_198, q_133_200, q_133_203, q_133_204, q_133_205, q_133_206, q_133_209, q_133_210, q_133_211, q_133_214, q_133_217, q_133_218, q_133_221, q_133_222, q_133_223, q_133_224, q_133_226, q_133_229, q_133_230, q_133_231, q_133_232, q_133_235, q_133_236, q_133_237, q_133_240, q_133_243, q_133_244, q_133_247, aft_i, aft_l, aft_v, Int.toNat_natCast, kd_sI, kd_sL, kd_sR, kd_cp, gI_sL, gI_sR, gL_sI, gL_sR, gR_sI, gR_sL, gL_cp, gR_cp, kd_aI, gL_aI, gR_aI, gI_aI, gI_aIn, sI_aI, gI_sIn, Int.reduceToNat, Int.reduceAdd, Int.reduceSub, Int.reduceMul, Int.reduceNeg, Int.zero_add, r141_9, e1]
