def tdOK (g : mH) (D : Dr) : Prop := mT g (dT D) ∧ whG (gI g 150) 0 (dT D) (nwN D) [] ∧ gI g 151 0 = 0 ∧ gI g 151 1 = 0 ∧ gI g 141 25 = 0
theorem mTd_ok (d : Nat) (h : mH) (L : LAY h) (D : Dr) (m : dMI h D) (w : wfD D) : ∃ g, callA (d + 1) 135 [Sum.inr (Sum.inr (some 141))] h = some (none, g) ∧ sam h g ∧ tdOK g D ∧ ∀ q k, ¬ (q = 141 ∧ k = 25) → ¬ (143 ≤ q ∧ q ≤ 151) → gI g q k = gI h q k := by
  have L0 := L
  have c7 := w.1.1
  have k4 := w.1.2.1
  obtain ⟨m1, m2, m3, m4, m5, m6, m7, m8⟩ := m
  generalize eg1 : sI (sI (sI (sI h 143 0 (tN (dT D))) 147 0 (tK (dT D))) 149 0 (tA (dT D))) 149 1 (tM (dT D)) = g1
  have s1 : sam h g1 := by rw [← eg1]; exact ⟨rfl, rfl, rfl⟩
  have L1 := sam_L s1 L
  have f1 : ∀ q j, q ≠ 143 → q ≠ 147 → q ≠ 149 → gI g1 q j = gI h q j := fun q j n1 n2 n3 => by
    rw [← eg1, gI_sIn n3, gI_sIn n3, gI_sIn n2, gI_sIn n1]
  have ea := mTd_a d g1 L1 56 0 rfl
  rw [mixI_0, aI_id, show ((0 : Nat) : Int) = 0 from rfl] at ea
  generalize eg2 : aI g1 150 (mixI 56 (fun _ => 0) (gI g1 150)) = g2 at ea
  have s2 : sam h g2 := by rw [← eg2]; exact sam_tr s1 (sam_a _ _ _)
  have L2 := sam_L s2 L
  obtain ⟨g3, eb, s23, fb, vb⟩ := mTd_b d 40 0 g2 L2 rfl
  have s3 := sam_tr s2 s23
  have L3 := sam_L s3 L
  obtain ⟨g4, ec, s34, fc, vc⟩ := mTd_c d 7 0 g3 L3 rfl
  have s4 := sam_tr s3 s34
  have L4 := sam_L s4 L
  rw [show ((0 : Nat) : Int) = 0 from rfl] at eb ec
  have g4q : ∀ q j, q ≠ 145 → q ≠ 146 → q ≠ 148 → q ≠ 150 → gI g4 q j = gI g1 q j := fun q j n1 n2 n3 n4 => by
    rw [fc q j (by omega) (by omega) (by omega), fb q j (by omega) (by omega), ← eg2, gI_aIn n4]
  have n143 : gI g4 143 0 = tN (dT D) := by
    rw [g4q 143 0 (by omega) (by omega) (by omega) (by omega), ← eg1, gI_sIn (by omega), gI_sIn (by omega), gI_sIn (by omega), gI_sIs]
  generalize eg5 : sI (sI (sI (sI (sI g4 150 7 (tN (dT D))) 150 56 0) 141 25 0) 151 0 0) 151 1 0 = g5
  have s5 : sam h g5 := by rw [← eg5]; exact sam_tr s4 ⟨rfl, rfl, rfl⟩
  have f5 : ∀ q j, q ≠ 150 → q ≠ 151 → ¬ (q = 141 ∧ j = 25) → gI g5 q j = gI g4 q j := fun q j n1 n2 n3 => by
    rw [← eg5, gI_sIn n2, gI_sIn n2, gI_sI, if_neg n3, gI_sIn n1, gI_sIn n1]
  have f5n : ∀ j, j ≠ 7 → j ≠ 56 → gI g5 150 j = gI g4 150 j := fun j n1 n2 => by
    rw [← eg5, gI_sIn (by omega), gI_sIn (by omega), gI_sIn (by omega), gI_sIo n2, gI_sIo n1]
  refine ⟨g5, ?_, s5, ⟨⟨?_, ?_, ?_, ?_, fun c hc => ?_, fun k hk => ?_⟩, ⟨⟨?_, fun i hi => ?_, ?_, fun c hc => ?_, fun k hk => ?_⟩, ?_, by show 0 ≤ 10; omega, fun j q => absurd q (Nat.not_lt_zero _)⟩, ?_, ?_, ?_⟩, fun q k n1 n2 => ?_⟩
  · obtain ⟨a1, a2⟩ := lay_k L4 (a := 141) (t := 8) (n := 26) rfl
    obtain ⟨a3, a4⟩ := lay_k L4 (a := 143) (t := 100) (n := 2) rfl
    obtain ⟨a5, a6⟩ := lay_k L4 (a := 150) (t := 100) (n := 1851) rfl
    obtain ⟨a7, a8⟩ := lay_k L4 (a := 151) (t := 102) (n := 2) rfl
    have r3 : gR g4 141 3 = some 143 := lay_r L4 rfl
    have r16 : gR g4 141 16 = some 150 := lay_r L4 rfl
    have r17 : gR g4 141 17 = some 151 := lay_r L4 rfl
    obtain ⟨k141, j141⟩ := lay_k L0 (a := 141) (t := 8) (n := 26) rfl; obtain ⟨k143, j143⟩ := lay_k L0 (a := 143) (t := 100) (n := 2) rfl; obtain ⟨k147, j147⟩ := lay_k L0 (a := 147) (t := 100) (n := 2) rfl; obtain ⟨k149, j149⟩ := lay_k L0 (a := 149) (t := 100) (n := 4) rfl; have r141_3 : gR h 141 3 = some 143 := lay_r L0 rfl; have r141_7 : gR h 141 7 = some 147 := lay_r L0 rfl; have r141_9 : gR h 141 9 = some 149 := lay_r L0 rfl
    have hb1 : ((kd (sI (sI (sI g4 150 7 (tN (dT D))) 150 56 0) 141 25 0) 151).1 = 101 ∧ -128 ≤ (0 : Int) ∧ (0 : Int) < 128) ∨ ((kd (sI (sI (sI g4 150 7 (tN (dT D))) 150 56 0) 141 25 0) 151).1 = 102 ∧ ((0 : Int) = 0 ∨ (0 : Int) = 1)) := Or.inr ⟨a7, Or.inl rfl⟩
    have hb2 : ((kd (sI (sI (sI (sI g4 150 7 (tN (dT D))) 150 56 0) 141 25 0) 151 0 0) 151).1 = 101 ∧ -128 ≤ (0 : Int) ∧ (0 : Int) < 128) ∨ ((kd (sI (sI (sI (sI g4 150 7 (tN (dT D))) 150 56 0) 141 25 0) 151 0 0) 151).1 = 102 ∧ ((0 : Int) = 0 ∨ (0 : Int) = 1)) := Or.inr ⟨a7, Or.inl rfl⟩
    rw [en_135]
    simp (disch := (first | omega | (simp only [kd_sI, kd_sL, kd_sR, kd_cp, kd_aI]; omega) | (unfold catV; exact rfl) | (unfold catS; exact Nat.le_of_ble_eq_true rfl) | assumption)) only [q_135_0, q_135_1, q_135_4, q_135_5, q_135_6, q_135_9, q_135_10, q_135_11, q_135_12, q_135_13, q_135_16, q_135_17, q_135_18, q_135_21, q_135_22, q_135_23, q_135_24, q_135_25, q_135_28, q_135_29, q_135_30, q_135_33, q_135_34, q_135_35, q_135_36, q_135_37, q_135_40, q_135_41, q_135_42, q_135_45, q_135_46, q_135_47, q_135_48, q_135_49, q_135_51, q_135_53_t, q_135_53_f, q_135_56, q_135_57, q_135_60, q_135_61, q_135_62, q_135_63, q_135_66, q_135_69, q_135_70, q_135_72, q_135_74_t, q_135_74_f, q_135_77, q_135_78, q_135_81, q_135_82, q_135_83, q_135_86, q_135_88, q_135_89, q_135_90, q_135_91, q_135_92, q_135_93, q_135_96, q_135_98, q_135_99, q_135_100, q_135_101, q_135_104, q_135_105, q_135_106, q_135_107, q_135_110, q_135_113, q_135_114, q_135_116, q_135_118_t, q_135_118_f, q_135_121, q_135_122, q_135_125, q_135_126, q_135_127, q_135_130, q_135_132, q_135_133, q_135_134, q_135_135, q_135_136, q_135_137, q_135_140, q_135_141, q_135_142, q_135_145, q_135_147, q_135_148, q_135_149, q_135_150, q_135_151, q_135_152, q_135_155, q_135_156, q_135_157, q_135_158, q_135_159, q_135_160, q_135_161, q_135_164, q_135_166, q_135_167, q_135_168, q_135_169, q_135_172, q_135_173, q_135_174, q_135_175, q_135_178, q_135_181, q_135_182, q_135_185, q_135_187, q_135_188, q_135_191, q_135_192, q_135_193, q_135_194, q_135_195, q_135_198, q_135_200, q_135_201, q_135_202, q_135_203, q_135_204, q_135_207, q_135_208, q_135_211, q_135_212, q_135_213, q_135_214, q_135_215, q_135_218, q_135_219, q_135_220, q_135_221, aft_i, aft_l, aft_v, Int.toNat_natCast, kd_sI, kd_sL, kd_sR, kd_cp, gI_sL, gI_sR, gL_sI, gL_sR, gR_sI, gR_sL, gL_cp, gR_cp, kd_aI, gL_aI, gR_aI, gI_aI, gI_aIn, sI_aI, gI_sIn, Int.reduceToNat, Int.reduceAdd, Int.reduceSub, Int.reduceMul, Int.reduceNeg, Int.zero_add, r141_3, r141_7, r141_9, m1, m2, m3, m4, gI_sIo]
    rw [eg1, ea]
    simp (disch := (first | omega | (simp only [kd_sI, kd_sL, kd_sR, kd_cp, kd_aI]; omega) | (unfold catV; exact rfl) | (unfold catS; exact Nat.le_of_ble_eq_true rfl) | assumption)) only [q_135_0, q_135_1, q_135_4, q_135_5, q_135_6, q_135_9, q_135_10, q_135_11, q_135_12, q_135_13, q_135_16, q_135_17, q_135_18, q_135_21, q_135_22, q_135_23, q_135_24, q_135_25, q_135_28, q_135_29, q_135_30, q_135_33, q_135_34, q_135_35, q_135_36, q_135_37, q_135_40, q_135_41, q_135_42, q_135_45, q_135_46, q_135_47, q_135_48, q_135_49, q_135_51, q_135_53_t, q_135_53_f, q_135_56, q_135_57, q_135_60, q_135_61, q_135_62, q_135_63, q_135_66, q_135_69, q_135_70, q_135_72, q_135_74_t, q_135_74_f, q_135_77, q_135_78, q_135_81, q_135_82, q_135_83, q_135_86, q_135_88, q_135_89, q_135_90, q_135_91, q_135_92, q_135_93, q_135_96, q_135_98, q_135_99, q_135_100, q_135_101, q_135_104, q_135_105, q_135_106, q_135_107, q_135_110, q_135_113, q_135_114, q_135_116, q_135_118_t, q_135_118_f, q_135_121, q_135_122, q_135_125, q_135_126, q_135_127, q_135_130, q_135_132, q_135_133, q_135_134, q_135_135, q_135_136, q_135_137, q_135_140, q_135_141, q_135_142, q_135_145, q_135_147, q_135_148, q_135_149, q_135_150, q_135_151, q_135_152, q_135_155, q_135_156, q_135_157, q_135_158, q_135_159, q_135_160, q_135_161, q_135_164, q_135_166, q_135_167, q_135_168, q_135_169, q_135_172, q_135_173, q_135_174, q_135_175, q_135_178, q_135_181, q_135_182, q_135_185, q_135_187, q_135_188, q_135_191, q_135_192, q_135_193, q_135_194, q_135_195, q_135_198, q_135_200, q_135_201, q_135_202, q_135_203, q_135_204, q_135_207, q_135_208, q_135_211, q_135_212, q_135_213, q_135_214, q_135_215, q_135_218, q_135_219, q_135_220, q_135_221, aft_i, aft_l, aft_v, Int.toNat_natCast, kd_sI, kd_sL, kd_sR, kd_cp, gI_sL, gI_sR, gL_sI, gL_sR, gR_sI, gR_sL, gL_cp, gR_cp, kd_aI, gL_aI, gR_aI, gI_aI, gI_aIn, sI_aI, gI_sIn, Int.reduceToNat, Int.reduceAdd, Int.reduceSub, Int.reduceMul, Int.reduceNeg, Int.zero_add]
    rw [eb]
    simp (disch := (first | omega | (simp only [kd_sI, kd_sL, kd_sR, kd_cp, kd_aI]; omega) | (unfold catV; exact rfl) | (unfold catS; exact Nat.le_of_ble_eq_true rfl) | assumption)) only [q_135_0, q_135_1, q_135_4, q_135_5, q_135_6, q_135_9, q_135_10, q_135_11, q_135_12, q_135_13, q_135_16, q_135_17, q_135_18, q_135_21, q_135_22, q_135_23, q_135_24, q_135_25, q_135_28, q_135_29, q_135_30, q_135_33, q_135_34, q_135_35, q_135_36, q_135_37, q_135_40, q_135_41, q_135_42, q_135_45, q_135_46, q_135_47, q_135_48, q_135_49, q_135_51, q_135_53_t, q_135_53_f, q_135_56, q_135_57, q_135_60, q_135_61, q_135_62, q_135_63, q_135_66, q_135_69, q_135_70, q_135_72, q_135_74_t, q_135_74_f, q_135_77, q_135_78, q_135_81, q_135_82, q_135_83, q_135_86, q_135_88, q_135_89, q_135_90, q_135_91, q_135_92, q_135_93, q_135_96, q_135_98, q_135_99, q_135_100, q_135_101, q_135_104, q_135_105, q_135_106, q_135_107, q_135_110, q_135_113, q_135_114, q_135_116, q_135_118_t, q_135_118_f, q_135_121, q_135_122, q_135_125, q_135_126, q_135_127, q_135_130, q_135_132, q_135_133, q_135_134, q_135_135, q_135_136, q_135_137, q_135_140, q_135_141, q_135_142, q_135_145, q_135_147, q_135_148, q_135_149, q_135_150, q_135_151, q_135_152, q_135_155, q_135_156, q_135_157, q_135_158, q_135_159, q_135_160, q_135_161, q_135_164, q_135_166, q_135_167, q_135_168, q_135_169, q_135_172, q_135_173, q_135_174, q_135_175, q_135_178, q_135_181, q_135_182, q_135_185, q_135_187, q_135_188, q_135_191, q_135_192, q_135_193, q_135_194, q_135_195, q_135_198, q_135_200, q_135_201, q_135_202, q_135_203, q_135_204, q_135_207, q_135_208, q_135_211, q_135_212, q_135_213, q_135_214, q_135_215, q_135_218, q_135_219, q_135_220, q_135_221, aft_i, aft_l, aft_v, Int.toNat_natCast, kd_sI, kd_sL, kd_sR, kd_cp, gI_sL, gI_sR, gL_sI, gL_sR, gR_sI, gR_sL, gL_cp, gR_cp, kd_aI, gL_aI, gR_aI, gI_aI, gI_aIn, sI_aI, gI_sIn, Int.reduceToNat, Int.reduceAdd, Int.reduceSub, Int.reduceMul, Int.reduceNeg, Int.zero_add]
    rw [ec]
    simp (disch := (first | omega | (simp only [kd_sI, kd_sL, kd_sR, kd_cp, kd_aI]; omega) | (unfold catV; exact rfl) | (unfold catS; exact Nat.le_of_ble_eq_true rfl) | assumption)) only [q_135_0, q_135_1, q_135_4, q_135_5, q_135_6, q_135_9, q_135_10, q_135_11, q_135_12, q_135_13, q_135_16, q_135_17, q_135_18, q_135_21, q_135_22, q_135_23, q_135_24, q_135_25, q_135_28, q_135_29, q_135_30, q_135_33, q_135_34, q_135_35, q_135_36, q_135_37, q_135_40, q_135_41, q_135_42, q_135_45, q_135_46, q_135_47, q_135_48, q_135_49, q_135_51, q_135_53_t, q_135_53_f, q_135_56, q_135_57, q_135_60, q_135_61, q_135_62, q_135_63, q_135_66, q_135_69, q_135_70, q_135_72, q_135_74_t, q_135_74_f, q_135_77, q_135_78, q_135_81, q_135_82, q_135_83, q_135_86, q_135_88, q_135_89, q_135_90, q_135_91, q_135_92, q_135_93, q_135_96, q_135_98, q_135_99, q_135_100, q_135_101, q_135_104, q_135_105, q_135_106, q_135_107, q_135_110, q_135_113, q_135_114, q_135_116, q_135_118_t, q_135_118_f, q_135_121, q_135_122, q_135_125, q_135_126, q_135_127, q_135_130, q_135_132, q_135_133, q_135_134, q_135_135, q_135_136, q_135_137, q_135_140, q_135_141, q_135_142, q_135_145, q_135_147, q_135_148, q_135_149, q_135_150, q_135_151, q_135_152, q_135_155, q_135_156, q_135_157, q_135_158, q_135_159, q_135_160, q_135_161, q_135_164, q_135_166, q_135_167, q_135_168, q_135_169, q_135_172, q_135_173, q_135_174, q_135_175, q_135_178, q_135_181, q_135_182, q_135_185, q_135_187, q_135_188, q_135_191, q_135_192, q_135_193, q_135_194, q_135_195, q_135_198, q_135_200, q_135_201, q_135_202, q_135_203, q_135_204, q_135_207, q_135_208, q_135_211, q_135_212, q_135_213, q_135_214, q_135_215, q_135_218, q_135_219, q_135_220, q_135_221, aft_i, aft_l, aft_v, Int.toNat_natCast, kd_sI, kd_sL, kd_sR, kd_cp, gI_sL, gI_sR, gL_sI, gL_sR, gR_sI, gR_sL, gL_cp, gR_cp, kd_aI, gL_aI, gR_aI, gI_aI, gI_aIn, sI_aI, gI_sIn, Int.reduceToNat, Int.reduceAdd, Int.reduceSub, Int.reduceMul, Int.reduceNeg, Int.zero_add, r3, r16, r17, n143]
    rw [eg5]
  · rw [f5 _ _ (by omega) (by omega) (by omega)]; exact n143
  · rw [f5 _ _ (by omega) (by omega) (by omega), g4q _ _ (by omega) (by omega) (by omega) (by omega), ← eg1, gI_sIn (by omega), gI_sIn (by omega), gI_sIs]
  · rw [f5 _ _ (by omega) (by omega) (by omega), g4q _ _ (by omega) (by omega) (by omega) (by omega), ← eg1, gI_sIo (by omega), gI_sIs]
  · rw [f5 _ _ (by omega) (by omega) (by omega), g4q _ _ (by omega) (by omega) (by omega) (by omega), ← eg1, gI_sIs]
  · have v := vc c (Nat.zero_le _) (by omega)
    rw [f5 _ _ (by omega) (by omega) (by omega), f5 _ _ (by omega) (by omega) (by omega), v.1, v.2.1, fb _ _ (by omega) (by omega), fb _ _ (by omega) (by omega), ← eg2, gI_aIn (by omega), gI_aIn (by omega), f1 _ _ (by omega) (by omega) (by omega), f1 _ _ (by omega) (by omega) (by omega)]
    exact ⟨(m5 c hc).1, m6 c (by omega)⟩
  · have v := vb k (Nat.zero_le _) (by omega)
    rw [f5 _ _ (by omega) (by omega) (by omega), fc _ _ (by omega) (by omega) (by omega), v.1, ← eg2, gI_aIn (by omega), f1 _ _ (by omega) (by omega) (by omega)]
    exact m7 k hk
  · rw [← eg5, gI_sIn (by omega), gI_sIn (by omega), gI_sIn (by omega), gI_sIo (by omega), gI_sIs]; rfl
  · have hi : i < tN (dT D) := hi
    have v := vc i (Nat.zero_le _) (by omega)
    rw [Nat.zero_add, f5n i (by omega) (by omega), v.2.2.1]
    rfl
  · rw [f5n _ (by omega) (by omega), fc _ _ (by omega) (by omega) (by omega), fb _ _ (by omega) (by omega), ← eg2, gI_aI, mixI_in (by omega)]; rfl
  · have v := vc c (Nat.zero_le _) (by omega)
    rw [Nat.zero_add, f5n _ (by omega) (by omega), v.2.2.2, fb _ _ (by omega) (by omega), ← eg2, gI_aIn (by omega), f1 _ _ (by omega) (by omega) (by omega)]
    exact (m5 c hc).2
  · have v := vb k (Nat.zero_le _) (by omega)
    rw [Nat.zero_add, f5n _ (by omega) (by omega), fc _ _ (by omega) (by omega) (by omega), v.2, ← eg2, gI_aIn (by omega), f1 _ _ (by omega) (by omega) (by omega), nwN_lnd w hk]
    exact m7 k hk
  · rw [← eg5, gI_sIn (by omega), gI_sIn (by omega), gI_sIn (by omega), gI_sIs]; rfl
  · rw [← eg5, gI_sIo (by omega), gI_sIs]
  · rw [← eg5, gI_sIs]
  · rw [← eg5, gI_sIn (by omega), gI_sIn (by omega), gI_sIs]
  · rw [f5 _ _ (by omega) (by omega) n1, g4q _ _ (by omega) (by omega) (by omega) (by omega), f1 _ _ (by omega) (by omega) (by omega)]
theorem full_b {X : List Int} (w : byX X) {k p : Nat} {D : Dr} (hp : p ≤ X.length) {q : Dr × Nat} (h : full X (itm X k p D) = Sum.inr q) : q.2 ≤ X.length ∧ p < q.2 := by
  have key : ∀ q0, itm X k p D = Sum.inr q0 → p ≤ q0.2 ∧ q0.2 ≤ X.length := by
    intro q0 h0
    have tb := tk_b w hp
    have tb2 := tk_b w tb.2.2.2.2.1
    have gb : ∀ (f p : Nat) (D : Dr), p ≤ X.length → p ≤ (gnd X f p D).1 ∧ (gnd X f p D).1 ≤ X.length := by
      intro f
      induction f with
      | zero => exact fun p D hp => ⟨Nat.le_refl _, hp⟩
      | succ f ih =>
        intro p D hp
        have tb := tk_b w hp
        unfold gnd
        split
        next k5 hk5 =>
          split
          · have := ih (kn (tk X p)) (dCell D k5) tb.2.2.2.2.1
            exact ⟨by omega, this.2⟩
          · exact ⟨Nat.le_refl _, hp⟩
        · exact ⟨Nat.le_refl _, hp⟩
    unfold itm at h0
    by_cases z1 : k = 99
    · rw [if_pos z1] at h0
      unfold itmC at h0
      split at h0
      · split at h0
        · injection h0 with h0
          subst h0
          exact ⟨by show p ≤ kn (tk X (kn (tk X p))); omega, tb2.2.2.2.2.1⟩
        · cases h0
      · cases h0
    rw [if_neg z1] at h0
    by_cases z2 : k = 113
    · rw [if_pos z2] at h0
      unfold itmQ at h0
      split at h0
      · split at h0
        · injection h0 with h0
          subst h0
          exact ⟨by show p ≤ kn (tk X (kn (tk X p))); omega, tb2.2.2.2.2.1⟩
        · cases h0
      · cases h0
    rw [if_neg z2] at h0
    by_cases z3 : k = 100
    · rw [if_pos z3] at h0
      unfold itmD at h0
      split at h0
      · injection h0 with h0
        subst h0
        exact ⟨by show p ≤ kn (tk X p); omega, tb.2.2.2.2.1⟩
      · cases h0
    rw [if_neg z3] at h0
    by_cases z4 : k = 109
    · rw [if_pos z4] at h0
      unfold itmM at h0
      split at h0
      · injection h0 with h0
        subst h0
        exact ⟨by show p ≤ kn (tk X p); omega, tb.2.2.2.2.1⟩
      · cases h0
    rw [if_neg z4] at h0
    unfold itmG at h0
    split at h0
    · injection h0 with h0
      subst h0
      exact gb 40 p _ hp
    · cases h0
  cases hi : itm X k p D with
  | inl e =>
    rw [hi] at h
    cases h
  | inr q0 =>
    rw [hi] at h
    obtain ⟨k1, k2⟩ := key q0 hi
    have tb := tk_b w k2
    have h : semi X q0.2 q0.1 = Sum.inr q := h
    unfold semi at h
    split at h
    next z =>
      injection h with h
      subst h
      have := tb.2.2.2.2.2 (by omega)
      exact ⟨tb.2.2.2.2.1, by show p < kn (tk X q0.2); omega⟩
    · cases h
theorem full_wf {X : List Int} {k p : Nat} {D : Dr} {q : Dr × Nat} (w : wfD D) (hm : mayB D k = true) (h : full X (itm X k p D) = Sum.inr q) : wfD q.1 := by
  cases hi : itm X k p D with
  | inl e =>
    rw [hi] at h
    cases h
  | inr q0 =>
    rw [hi] at h
    have h : semi X q0.2 q0.1 = Sum.inr q := h
    unfold semi at h
    split at h
    · injection h with h
      subst h
      have := itm_wf w hm hi
      exact this
    · cases h
theorem itm_e {X : List Int} (w : byX X) {k p : Nat} {D : Dr} (hp : p ≤ X.length) {e : Nat} (h0 : itm X k p D = Sum.inl e) : e ≤ X.length := by
  have tb := tk_b w hp
  have tb2 := tk_b w tb.2.2.2.2.1
  unfold itm at h0
  by_cases z1 : k = 99
  · rw [if_pos z1] at h0
    unfold itmC at h0
    split at h0
    · split at h0
      · cases h0
      · injection h0 with h0
        omega
    · injection h0 with h0
      omega
  rw [if_neg z1] at h0
  by_cases z2 : k = 113
  · rw [if_pos z2] at h0
    unfold itmQ at h0
    split at h0
    · split at h0
      · cases h0
      · injection h0 with h0
        omega
    · injection h0 with h0
      omega
  rw [if_neg z2] at h0
  by_cases z3 : k = 100
  · rw [if_pos z3] at h0
    unfold itmD at h0
    split at h0
    · cases h0
    · injection h0 with h0
      omega
  rw [if_neg z3] at h0
  by_cases z4 : k = 109
  · rw [if_pos z4] at h0
    unfold itmM at h0
    split at h0
    · cases h0
    · injection h0 with h0
      omega
  rw [if_neg z4] at h0
  unfold itmG at h0
  split at h0
  · cases h0
  · injection h0 with h0
    omega
/-- the items of a text -/
theorem mTown_loop (d : Nat) (X : List Int) : ∀ (f p n : Nat) (D : Dr) (h : mH) (L : LAY h) (x2 : mV), GS h X p D → wfD D → X.length < p + f → n ≤ p → ∃ g x3, prF h g ∧ match prs X f p D n with
    | Sum.inl e => resA (callA (d + 5)) 136 (21, [Sum.inr (Sum.inr (some 141)), Sum.inl (n : Int), x2], [], h) = some (some (Sum.inl (-10 - (e : Int))), g)
    | Sum.inr q => dMI g q.1 ∧ wfD q.1 ∧ q.2 ≤ X.length ∧ resA (callA (d + 5)) 136 (21, [Sum.inr (Sum.inr (some 141)), Sum.inl (n : Int), x2], [], h) = resA (callA (d + 5)) 136 (108, [Sum.inr (Sum.inr (some 141)), Sum.inl (q.2 : Int), x3], [], g)
  | 0, p, n, D, h, L, x2, gs, w, hf, hn => absurd gs.2.1 (by omega)
  | f + 1, p, n, D, h, L, x2, gs, w, hf, hn => by
    have L0 := L
    obtain ⟨t, hp, ta, h15, m⟩ := gs
    have tb := tk_b t.2.2.2 hp
    have u3 := ta.2.2.1
    have X180 := t.2.2.1
    obtain ⟨k141, j141⟩ := lay_k L (a := 141) (t := 8) (n := 26) rfl
    by_cases z3 : kk (tk X p) = 3
    · rw [z3] at u3
      refine ⟨h, x2, prF_rf h, ?_⟩
      rw [prs, if_pos z3]
      refine ⟨m, w, by show n ≤ X.length; omega, ?_⟩
      simp (disch := (first | omega | (simp only [kd_sI, kd_sL, kd_sR, kd_cp, kd_aI]; omega) | (unfold catV; exact rfl) | (unfold catS; exact Nat.le_of_ble_eq_true rfl) | assumption)) only [q_136_0, q_136_1, q_136_2, q_136_5, q_136_6, q_136_8, q_136_11, q_136_12, q_136_15, q_136_16, q_136_17, q_136_18, q_136_22, q_136_25, q_136_27_t, q_136_27_f, q_136_30, q_136_31, q_136_34, q_136_35_t, q_136_35_f, q_136_38, q_136_39, q_136_42, q_136_43, q_136_44, q_136_45, q_136_46, q_136_49, q_136_52, q_136_53, q_136_54, q_136_57, q_136_59_t, q_136_59_f, q_136_62, q_136_63, q_136_64, q_136_67, q_136_68, q_136_69, q_136_72, q_136_73_t, q_136_73_f, q_136_76, q_136_77, q_136_80, q_136_81, q_136_84, q_136_85, q_136_88, q_136_91, q_136_92, q_136_95, q_136_97_t, q_136_97_f, q_136_100, q_136_102, q_136_103, q_136_106, q_136_107, q_136_109, q_136_112, q_136_113, q_136_114, q_136_117, q_136_118, aft_i, aft_l, aft_v, Int.toNat_natCast, kd_sI, kd_sL, kd_sR, kd_cp, gI_sL, gI_sR, gL_sI, gL_sR, gR_sI, gR_sL, gL_cp, gR_cp, kd_aI, gL_aI, gR_aI, gI_aI, gI_aIn, sI_aI, gI_sIn, Int.reduceToNat, Int.reduceAdd, Int.reduceSub, Int.reduceMul, Int.reduceNeg, Int.zero_add]
      rw [q_136_21]
      simp (disch := (first | omega | (simp only [kd_sI, kd_sL, kd_sR, kd_cp, kd_aI]; omega) | (unfold catV; exact rfl) | (unfold catS; exact Nat.le_of_ble_eq_true rfl) | assumption)) only [q_136_0, q_136_1, q_136_2, q_136_5, q_136_6, q_136_8, q_136_11, q_136_12, q_136_15, q_136_16, q_136_17, q_136_18, q_136_22, q_136_25, q_136_27_t, q_136_27_f, q_136_30, q_136_31, q_136_34, q_136_35_t, q_136_35_f, q_136_38, q_136_39, q_136_42, q_136_43, q_136_44, q_136_45, q_136_46, q_136_49, q_136_52, q_136_53, q_136_54, q_136_57, q_136_59_t, q_136_59_f, q_136_62, q_136_63, q_136_64, q_136_67, q_136_68, q_136_69, q_136_72, q_136_73_t, q_136_73_f, q_136_76, q_136_77, q_136_80, q_136_81, q_136_84, q_136_85, q_136_88, q_136_91, q_136_92, q_136_95, q_136_97_t, q_136_97_f, q_136_100, q_136_102, q_136_103, q_136_106, q_136_107, q_136_109, q_136_112, q_136_113, q_136_114, q_136_117, q_136_118, aft_i, aft_l, aft_v, Int.toNat_natCast, kd_sI, kd_sL, kd_sR, kd_cp, gI_sL, gI_sR, gL_sI, gL_sR, gR_sI, gR_sL, gL_cp, gR_cp, kd_aI, gL_aI, gR_aI, gI_aI, gI_aIn, sI_aI, gI_sIn, Int.reduceToNat, Int.reduceAdd, Int.reduceSub, Int.reduceMul, Int.reduceNeg, Int.zero_add, h15, u3]
    · have u3n : gI h 141 13 ≠ 3 := by omega
      have em := mMay_ok (d + 4) h L D m w.2.2.1 (kk (tk X p)) (gI h 141 13) u3
      rw [prs, if_neg z3]
      by_cases hm : mayB D (kk (tk X p)) = true
      · rw [if_pos hm] at em ⊢
        obtain ⟨g1, e1, s1, ta1⟩ := mDue_t (d + 2) h L X t p hp ta h15
        have L1 := stp_L s1 L
        have t1 := stp_txt s1 t
        have d1 := stp_dMI s1 m
        have f1 : gI g1 141 15 = -9 := by rw [s1.2.1 141 15 (by omega)]; exact h15
        obtain ⟨g2, ⟨q2, r2⟩, e2⟩ := mRowI_ok d X (kn (tk X p)) D g1 L1 ⟨t1, tb.2.2.2.2.1, ta1, f1, d1⟩ w (kk (tk X p)) hm (gI h 141 13) u3
        have q2h := prF_tr (stp_prF s1) q2
        have L2 := prF_L q2h L
        obtain ⟨a1, a2⟩ := lay_k L1 (a := 141) (t := 8) (n := 26) rfl
        obtain ⟨a3, a4⟩ := lay_k L2 (a := 141) (t := 8) (n := 26) rfl
        have head : resA (callA (d + 5)) 136 (21, [Sum.inr (Sum.inr (some 141)), Sum.inl (n : Int), x2], [], h) = resA (callA (d + 5)) 136 (67, [Sum.inr (Sum.inr (some 141)), Sum.inl (n : Int), Sum.inl (gI h 141 13)], [], g2) := by
          rw [q_136_21]
          simp (disch := (first | omega | (simp only [kd_sI, kd_sL, kd_sR, kd_cp, kd_aI]; omega) | (unfold catV; exact rfl) | (unfold catS; exact Nat.le_of_ble_eq_true rfl) | assumption)) only [q_136_0, q_136_1, q_136_2, q_136_5, q_136_6, q_136_8, q_136_11, q_136_12, q_136_15, q_136_16, q_136_17, q_136_18, q_136_22, q_136_25, q_136_27_t, q_136_27_f, q_136_30, q_136_31, q_136_34, q_136_35_t, q_136_35_f, q_136_38, q_136_39, q_136_42, q_136_43, q_136_44, q_136_45, q_136_46, q_136_49, q_136_52, q_136_53, q_136_54, q_136_57, q_136_59_t, q_136_59_f, q_136_62, q_136_63, q_136_64, q_136_68, q_136_69, q_136_72, q_136_73_t, q_136_73_f, q_136_76, q_136_77, q_136_80, q_136_81, q_136_84, q_136_85, q_136_88, q_136_91, q_136_92, q_136_95, q_136_97_t, q_136_97_f, q_136_100, q_136_102, q_136_103, q_136_106, q_136_107, q_136_108, q_136_109, q_136_112, q_136_113, q_136_114, q_136_117, q_136_118, aft_i, aft_l, aft_v, Int.toNat_natCast, kd_sI, kd_sL, kd_sR, kd_cp, gI_sL, gI_sR, gL_sI, gL_sR, gR_sI, gR_sL, gL_cp, gR_cp, kd_aI, gL_aI, gR_aI, gI_aI, gI_aIn, sI_aI, gI_sIn, Int.reduceToNat, Int.reduceAdd, Int.reduceSub, Int.reduceMul, Int.reduceNeg, Int.zero_add, h15, u3n, em, e1, f1, e2]
        cases hi : itm X (kk (tk X p)) (kn (tk X p)) D with
        | inl e =>
          rw [hi] at r2
          have r2 : gI g2 141 15 = (e : Int) := r2
          have e3 := fun b => mDue_n (d + 4) g2 L2 b (by rw [r2]; omega)
          refine ⟨g2, x2, q2h, ?_⟩
          show resA (callA (d + 5)) 136 (21, _, [], h) = _
          rw [head]
          have e9 : (e : Int) ≠ -9 := by omega
          have hn2 : (n : Int) + 1 < 2147483648 := by omega
          have eb := itm_e t.2.2.2 tb.2.2.2.2.1 hi
          by_cases y : gI g2 141 13 = 2
          · simp (disch := (first | omega | (simp only [kd_sI, kd_sL, kd_sR, kd_cp, kd_aI]; omega) | (unfold catV; exact rfl) | (unfold catS; exact Nat.le_of_ble_eq_true rfl) | assumption)) only [q_136_0, q_136_1, q_136_2, q_136_5, q_136_6, q_136_8, q_136_11, q_136_12, q_136_15, q_136_16, q_136_17, q_136_18, q_136_22, q_136_25, q_136_27_t, q_136_27_f, q_136_30, q_136_31, q_136_34, q_136_35_t, q_136_35_f, q_136_38, q_136_39, q_136_42, q_136_43, q_136_44, q_136_45, q_136_46, q_136_49, q_136_52, q_136_53, q_136_54, q_136_57, q_136_59_t, q_136_59_f, q_136_62, q_136_63, q_136_64, q_136_67, q_136_68, q_136_69, q_136_72, q_136_73_t, q_136_73_f, q_136_76, q_136_77, q_136_80, q_136_81, q_136_84, q_136_85, q_136_88, q_136_91, q_136_92, q_136_95, q_136_97_t, q_136_97_f, q_136_100, q_136_102, q_136_103, q_136_106, q_136_107, q_136_108, q_136_109, q_136_112, q_136_113, q_136_114, q_136_117, q_136_118, aft_i, aft_l, aft_v, Int.toNat_natCast, kd_sI, kd_sL, kd_sR, kd_cp, gI_sL, gI_sR, gL_sI, gL_sR, gR_sI, gR_sL, gL_cp, gR_cp, kd_aI, gL_aI, gR_aI, gI_aI, gI_aIn, sI_aI, gI_sIn, Int.reduceToNat, Int.reduceAdd, Int.reduceSub, Int.reduceMul, Int.reduceNeg, Int.zero_add, y, e3]
            rw [q_136_21]
            simp (disch := (first | omega | (simp only [kd_sI, kd_sL, kd_sR, kd_cp, kd_aI]; omega) | (unfold catV; exact rfl) | (unfold catS; exact Nat.le_of_ble_eq_true rfl) | assumption)) only [q_136_0, q_136_1, q_136_2, q_136_5, q_136_6, q_136_8, q_136_11, q_136_12, q_136_15, q_136_16, q_136_17, q_136_18, q_136_22, q_136_25, q_136_27_t, q_136_27_f, q_136_30, q_136_31, q_136_34, q_136_35_t, q_136_35_f, q_136_38, q_136_39, q_136_42, q_136_43, q_136_44, q_136_45, q_136_46, q_136_49, q_136_52, q_136_53, q_136_54, q_136_57, q_136_59_t, q_136_59_f, q_136_62, q_136_63, q_136_64, q_136_67, q_136_68, q_136_69, q_136_72, q_136_73_t, q_136_73_f, q_136_76, q_136_77, q_136_80, q_136_81, q_136_84, q_136_85, q_136_88, q_136_91, q_136_92, q_136_95, q_136_97_t, q_136_97_f, q_136_100, q_136_102, q_136_103, q_136_106, q_136_107, q_136_108, q_136_109, q_136_112, q_136_113, q_136_114, q_136_117, q_136_118, aft_i, aft_l, aft_v, Int.toNat_natCast, kd_sI, kd_sL, kd_sR, kd_cp, gI_sL, gI_sR, gL_sI, gL_sR, gR_sI, gR_sL, gL_cp, gR_cp, kd_aI, gL_aI, gR_aI, gI_aI, gI_aIn, sI_aI, gI_sIn, Int.reduceToNat, Int.reduceAdd, Int.reduceSub, Int.reduceMul, Int.reduceNeg, Int.zero_add, r2]
          · simp (disch := (first | omega | (simp only [kd_sI, kd_sL, kd_sR, kd_cp, kd_aI]; omega) | (unfold catV; exact rfl) | (unfold catS; exact Nat.le_of_ble_eq_true rfl) | assumption)) only [q_136_0, q_136_1, q_136_2, q_136_5, q_136_6, q_136_8, q_136_11, q_136_12, q_136_15, q_136_16, q_136_17, q_136_18, q_136_22, q_136_25, q_136_27_t, q_136_27_f, q_136_30, q_136_31, q_136_34, q_136_35_t, q_136_35_f, q_136_38, q_136_39, q_136_42, q_136_43, q_136_44, q_136_45, q_136_46, q_136_49, q_136_52, q_136_53, q_136_54, q_136_57, q_136_59_t, q_136_59_f, q_136_62, q_136_63, q_136_64, q_136_67, q_136_68, q_136_69, q_136_72, q_136_73_t, q_136_73_f, q_136_76, q_136_77, q_136_80, q_136_81, q_136_84, q_136_85, q_136_88, q_136_91, q_136_92, q_136_95, q_136_97_t, q_136_97_f, q_136_100, q_136_102, q_136_103, q_136_106, q_136_107, q_136_108, q_136_109, q_136_112, q_136_113, q_136_114, q_136_117, q_136_118, aft_i, aft_l, aft_v, Int.toNat_natCast, kd_sI, kd_sL, kd_sR, kd_cp, gI_sL, gI_sR, gL_sI, gL_sR, gR_sI, gR_sL, gL_cp, gR_cp, kd_aI, gL_aI, gR_aI, gI_aI, gI_aIn, sI_aI, gI_sIn, Int.reduceToNat, Int.reduceAdd, Int.reduceSub, Int.reduceMul, Int.reduceNeg, Int.zero_add, e3]
            rw [q_136_21]
            simp (disch := (first | omega | (simp only [kd_sI, kd_sL, kd_sR, kd_cp, kd_aI]; omega) | (unfold catV; exact rfl) | (unfold catS; exact Nat.le_of_ble_eq_true rfl) | assumption)) only [q_136_0, q_136_1, q_136_2, q_136_5, q_136_6, q_136_8, q_136_11, q_136_12, q_136_15, q_136_16, q_136_17, q_136_18, q_136_22, q_136_25, q_136_27_t, q_136_27_f, q_136_30, q_136_31, q_136_34, q_136_35_t, q_136_35_f, q_136_38, q_136_39, q_136_42, q_136_43, q_136_44, q_136_45, q_136_46, q_136_49, q_136_52, q_136_53, q_136_54, q_136_57, q_136_59_t, q_136_59_f, q_136_62, q_136_63, q_136_64, q_136_67, q_136_68, q_136_69, q_136_72, q_136_73_t, q_136_73_f, q_136_76, q_136_77, q_136_80, q_136_81, q_136_84, q_136_85, q_136_88, q_136_91, q_136_92, q_136_95, q_136_97_t, q_136_97_f, q_136_100, q_136_102, q_136_103, q_136_106, q_136_107, q_136_108, q_136_109, q_136_112, q_136_113, q_136_114, q_136_117, q_136_118, aft_i, aft_l, aft_v, Int.toNat_natCast, kd_sI, kd_sL, kd_sR, kd_cp, gI_sL, gI_sR, gL_sI, gL_sR, gR_sI, gR_sL, gL_cp, gR_cp, kd_aI, gL_aI, gR_aI, gI_aI, gI_aIn, sI_aI, gI_sIn, Int.reduceToNat, Int.reduceAdd, Int.reduceSub, Int.reduceMul, Int.reduceNeg, Int.zero_add, r2]
        | inr q0 =>
          rw [hi] at r2
          obtain ⟨b1, ta2, f2, d2⟩ := r2
          have u23 := ta2.2.2.1
          have w0 : wfD q0.1 := itm_wf w hm hi
          rw [show full X (Sum.inr q0) = semi X q0.2 q0.1 from rfl]
          by_cases z2 : kk (tk X q0.2) = 2
          · rw [z2] at u23
            have u23 : gI g2 141 13 = 2 := u23
            obtain ⟨g3, e3, s3, ta3⟩ := mDue_t (d + 2) g2 L2 X (prF_txt q2h t) q0.2 b1 ta2 f2
            have L3 := stp_L s3 L2
            have tb3 := tk_b t.2.2.2 b1
            have f3 : gI g3 141 15 = -9 := by rw [s3.2.1 141 15 (by omega)]; exact f2
            have es : semi X q0.2 q0.1 = Sum.inr (q0.1, kn (tk X q0.2)) := by unfold semi; rw [if_pos z2]
            have fb := full_b t.2.2.2 tb.2.2.2.2.1 (show full X (itm X (kk (tk X p)) (kn (tk X p)) D) = Sum.inr (q0.1, kn (tk X q0.2)) by rw [hi]; exact es)
            have pk := tb.2.2.2.2.2 z3
            rw [es]
            obtain ⟨g4, x4, q4, r4⟩ := mTown_loop d X f (kn (tk X q0.2)) (n + 1) q0.1 g3 L3 (Sum.inl (gI h 141 13)) ⟨stp_txt s3 (prF_txt q2h t), tb3.2.2.2.2.1, ta3, f3, stp_dMI s3 d2⟩ w0 (by have := fb.2; dsimp only at this; omega) (by have := fb.2; dsimp only at this; omega)
            refine ⟨g4, x4, prF_tr q2h (prF_tr (stp_prF s3) q4), ?_⟩
            have eh : resA (callA (d + 5)) 136 (21, [Sum.inr (Sum.inr (some 141)), Sum.inl (n : Int), x2], [], h) = resA (callA (d + 5)) 136 (21, [Sum.inr (Sum.inr (some 141)), Sum.inl ((n : Int) + 1), Sum.inl (gI h 141 13)], [], g3) := by
              rw [head]
              have hn2 : (n : Int) + 1 < 2147483648 := by omega
              simp (disch := (first | omega | (simp only [kd_sI, kd_sL, kd_sR, kd_cp, kd_aI]; omega) | (unfold catV; exact rfl) | (unfold catS; exact Nat.le_of_ble_eq_true rfl) | assumption)) only [q_136_0, q_136_1, q_136_2, q_136_5, q_136_6, q_136_8, q_136_11, q_136_12, q_136_15, q_136_16, q_136_17, q_136_18, q_136_22, q_136_25, q_136_27_t, q_136_27_f, q_136_30, q_136_31, q_136_34, q_136_35_t, q_136_35_f, q_136_38, q_136_39, q_136_42, q_136_43, q_136_44, q_136_45, q_136_46, q_136_49, q_136_52, q_136_53, q_136_54, q_136_57, q_136_59_t, q_136_59_f, q_136_62, q_136_63, q_136_64, q_136_67, q_136_68, q_136_69, q_136_72, q_136_73_t, q_136_73_f, q_136_76, q_136_77, q_136_80, q_136_81, q_136_84, q_136_85, q_136_88, q_136_91, q_136_92, q_136_95, q_136_97_t, q_136_97_f, q_136_100, q_136_102, q_136_103, q_136_106, q_136_107, q_136_108, q_136_109, q_136_112, q_136_113, q_136_114, q_136_117, q_136_118, aft_i, aft_l, aft_v, Int.toNat_natCast, kd_sI, kd_sL, kd_sR, kd_cp, gI_sL, gI_sR, gL_sI, gL_sR, gR_sI, gR_sL, gL_cp, gR_cp, kd_aI, gL_aI, gR_aI, gI_aI, gI_aIn, sI_aI, gI_sIn, Int.reduceToNat, Int.reduceAdd, Int.reduceSub, Int.reduceMul, Int.reduceNeg, Int.zero_add, u23, e3]
            rw [eh]
            exact r4
          · have u23n : gI g2 141 13 ≠ 2 := by omega
            have es : semi X q0.2 q0.1 = Sum.inl (ks (tk X q0.2)) := by unfold semi; rw [if_neg z2]
            rw [es]
            have e3 := mDue_f (d + 4) g2 L2 (tk X q0.2) ta2 f2
            have q3 : prF g2 (sI g2 141 15 (ks (tk X q0.2))) := prF_s (by unfold drf; omega)
            have L3 := prF_L q3 L2
            obtain ⟨a5, a6⟩ := lay_k L3 (a := 141) (t := 8) (n := 26) rfl
            refine ⟨_, x2, prF_tr q2h q3, ?_⟩
            show resA (callA (d + 5)) 136 (21, _, [], h) = _
            rw [head]
            have tb3 := tk_b t.2.2.2 b1
            have hn2 : (n : Int) + 1 < 2147483648 := by omega
            have e9 : ((ks (tk X q0.2) : Nat) : Int) ≠ -9 := by omega
            have eb : ((ks (tk X q0.2) : Nat) : Int) ≤ 180 := by omega
            simp (disch := (first | omega | (simp only [kd_sI, kd_sL, kd_sR, kd_cp, kd_aI]; omega) | (unfold catV; exact rfl) | (unfold catS; exact Nat.le_of_ble_eq_true rfl) | assumption)) only [q_136_0, q_136_1, q_136_2, q_136_5, q_136_6, q_136_8, q_136_11, q_136_12, q_136_15, q_136_16, q_136_17, q_136_18, q_136_22, q_136_25, q_136_27_t, q_136_27_f, q_136_30, q_136_31, q_136_34, q_136_35_t, q_136_35_f, q_136_38, q_136_39, q_136_42, q_136_43, q_136_44, q_136_45, q_136_46, q_136_49, q_136_52, q_136_53, q_136_54, q_136_57, q_136_59_t, q_136_59_f, q_136_62, q_136_63, q_136_64, q_136_67, q_136_68, q_136_69, q_136_72, q_136_73_t, q_136_73_f, q_136_76, q_136_77, q_136_80, q_136_81, q_136_84, q_136_85, q_136_88, q_136_91, q_136_92, q_136_95, q_136_97_t, q_136_97_f, q_136_100, q_136_102, q_136_103, q_136_106, q_136_107, q_136_108, q_136_109, q_136_112, q_136_113, q_136_114, q_136_117, q_136_118, aft_i, aft_l, aft_v, Int.toNat_natCast, kd_sI, kd_sL, kd_sR, kd_cp, gI_sL, gI_sR, gL_sI, gL_sR, gR_sI, gR_sL, gL_cp, gR_cp, kd_aI, gL_aI, gR_aI, gI_aI, gI_aIn, sI_aI, gI_sIn, Int.reduceToNat, Int.reduceAdd, Int.reduceSub, Int.reduceMul, Int.reduceNeg, Int.zero_add, u23n, e3]
            rw [q_136_21]
            simp (disch := (first | omega | (simp only [kd_sI, kd_sL, kd_sR, kd_cp, kd_aI]; omega) | (unfold catV; exact rfl) | (unfold catS; exact Nat.le_of_ble_eq_true rfl) | assumption)) only [q_136_0, q_136_1, q_136_2, q_136_5, q_136_6, q_136_8, q_136_11, q_136_12, q_136_15, q_136_16, q_136_17, q_136_18, q_136_22, q_136_25, q_136_27_t, q_136_27_f, q_136_30, q_136_31, q_136_34, q_136_35_t, q_136_35_f, q_136_38, q_136_39, q_136_42, q_136_43, q_136_44, q_136_45, q_136_46, q_136_49, q_136_52, q_136_53, q_136_54, q_136_57, q_136_59_t, q_136_59_f, q_136_62, q_136_63, q_136_64, q_136_67, q_136_68, q_136_69, q_136_72, q_136_73_t, q_136_73_f, q_136_76, q_136_77, q_136_80, q_136_81, q_136_84, q_136_85, q_136_88, q_136_91, q_136_92, q_136_95, q_136_97_t, q_136_97_f, q_136_100, q_136_102, q_136_103, q_136_106, q_136_107, q_136_108, q_136_109, q_136_112, q_136_113, q_136_114, q_136_117, q_136_118, aft_i, aft_l, aft_v, Int.toNat_natCast, kd_sI, kd_sL, kd_sR, kd_cp, gI_sL, gI_sR, gL_sI, gL_sR, gR_sI, gR_sL, gL_cp, gR_cp, kd_aI, gL_aI, gR_aI, gI_aI, gI_aIn, sI_aI, gI_sIn, Int.reduceToNat, Int.reduceAdd, Int.reduceSub, Int.reduceMul, Int.reduceNeg, Int.zero_add, gI_sIs]
      · rw [if_neg hm] at em ⊢
        have e3 := mDue_f (d + 4) h L (tk X p) ta h15
        have q3 : prF h (sI h 141 15 (ks (tk X p))) := prF_s (by unfold drf; omega)
        have L3 := prF_L q3 L
        obtain ⟨a5, a6⟩ := lay_k L3 (a := 141) (t := 8) (n := 26) rfl
        refine ⟨_, x2, q3, ?_⟩
        show resA (callA (d + 5)) 136 (21, _, [], h) = _
        have e9 : ((ks (tk X p) : Nat) : Int) ≠ -9 := by omega
        have eb : ((ks (tk X p) : Nat) : Int) ≤ 180 := by omega
        rw [q_136_21]
        simp (disch := (first | omega | (simp only [kd_sI, kd_sL, kd_sR, kd_cp, kd_aI]; omega) | (unfold catV; exact rfl) | (unfold catS; exact Nat.le_of_ble_eq_true rfl) | assumption)) only [q_136_0, q_136_1, q_136_2, q_136_5, q_136_6, q_136_8, q_136_11, q_136_12, q_136_15, q_136_16, q_136_17, q_136_18, q_136_22, q_136_25, q_136_27_t, q_136_27_f, q_136_30, q_136_31, q_136_34, q_136_35_t, q_136_35_f, q_136_38, q_136_39, q_136_42, q_136_43, q_136_44, q_136_45, q_136_46, q_136_49, q_136_52, q_136_53, q_136_54, q_136_57, q_136_59_t, q_136_59_f, q_136_62, q_136_63, q_136_64, q_136_67, q_136_68, q_136_69, q_136_72, q_136_73_t, q_136_73_f, q_136_76, q_136_77, q_136_80, q_136_81, q_136_84, q_136_85, q_136_88, q_136_91, q_136_92, q_136_95, q_136_97_t, q_136_97_f, q_136_100, q_136_102, q_136_103, q_136_106, q_136_107, q_136_108, q_136_109, q_136_112, q_136_113, q_136_114, q_136_117, q_136_118, aft_i, aft_l, aft_v, Int.toNat_natCast, kd_sI, kd_sL, kd_sR, kd_cp, gI_sL, gI_sR, gL_sI, gL_sR, gR_sI, gR_sL, gL_cp, gR_cp, kd_aI, gL_aI, gR_aI, gI_aI, gI_aIn, sI_aI, gI_sIn, Int.reduceToNat, Int.reduceAdd, Int.reduceSub, Int.reduceMul, Int.reduceNeg, Int.zero_add, h15, u3n, em, e3, gI_sIs]
        rw [q_136_21]
        simp (disch := (first | omega | (simp only [kd_sI, kd_sL, kd_sR, kd_cp, kd_aI]; omega) | (unfold catV; exact rfl) | (unfold catS; exact Nat.le_of_ble_eq_true rfl) | assumption)) only [q_136_0, q_136_1, q_136_2, q_136_5, q_136_6, q_136_8, q_136_11, q_136_12, q_136_15, q_136_16, q_136_17, q_136_18, q_136_22, q_136_25, q_136_27_t, q_136_27_f, q_136_30, q_136_31, q_136_34, q_136_35_t, q_136_35_f, q_136_38, q_136_39, q_136_42, q_136_43, q_136_44, q_136_45, q_136_46, q_136_49, q_136_52, q_136_53, q_136_54, q_136_57, q_136_59_t, q_136_59_f, q_136_62, q_136_63, q_136_64, q_136_67, q_136_68, q_136_69, q_136_72, q_136_73_t, q_136_73_f, q_136_76, q_136_77, q_136_80, q_136_81, q_136_84, q_136_85, q_136_88, q_136_91, q_136_92, q_136_95, q_136_97_t, q_136_97_f, q_136_100, q_136_102, q_136_103, q_136_106, q_136_107, q_136_108, q_136_109, q_136_112, q_136_113, q_136_114, q_136_117, q_136_118, aft_i, aft_l, aft_v, Int.toNat_natCast, kd_sI, kd_sL, kd_sR, kd_cp, gI_sL, gI_sR, gL_sI, gL_sR, gR_sI, gR_sL, gL_cp, gR_cp, kd_aI, gL_aI, gR_aI, gI_aI, gI_aIn, sI_aI, gI_sIn, Int.reduceToNat, Int.reduceAdd, Int.reduceSub, Int.reduceMul, Int.reduceNeg, Int.zero_add, gI_sIs]
