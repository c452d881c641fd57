/-- those at the places i .. whose bit of s is t -/
def trnR (N : Nt) (s : Nat) (t : Bool) : Nat → Nat → List Nat
  | 0, _ => []
  | k + 1, i => if s.testBit i = t then nR N i :: trnR N s t k (i + 1) else trnR N s t k (i + 1)
def facX (x : Nat) (t : Bool) : Nat := if t = true then x else 10 - x
theorem facX_b {x : Nat} (hx : x ≤ 10) (t : Bool) : facX x t ≤ 10 := by unfold facX; split <;> omega
theorem p10 {k : Nat} (h : k ≤ 7) : 10 ^ k ≤ 10000000 := Nat.pow_le_pow_right (by omega) h
theorem mul10 {w f p : Nat} (hw : w ≤ 10 ^ p) (hf : f ≤ 10) : w * f ≤ 10 ^ (p + 1) := by
  rw [Nat.pow_succ]
  exact Nat.mul_le_mul hw hf
theorem mOdd_in (d : Nat) (h : mH) (L0 : LAY h) (T : Td) (N : Nt) (wT : wfT T) (wN : wfN T N) (u : mNow h T N) (c kk what : Int) (x : Nat) (hx : x ≤ 10) (up down : Int) (s : Nat) (hs : s < 2 ^ 31) (t : Bool) : ∀ (k i : Nat) (P : List Nat) (g : mH) (w : Nat), i + k = nM N → scr h g → gI g 141 19 = P.length → rwO (gI g 152) 0 P → P.length + (trnR N s t k i).length ≤ 7 → w ≤ 10 ^ P.length → ∃ g2, scr h g2 ∧ gI g2 141 19 = (P ++ trnR N s t k i).length ∧ rwO (gI g2 152) 0 (P ++ trnR N s t k i) ∧ gI g2 153 = gI g 153 ∧ w * facX x t ^ (trnR N s t k i).length ≤ 10 ^ (P ++ trnR N s t k i).length ∧ resA (callA d) 187 (122, [Sum.inr (Sum.inr (some 141)), Sum.inl c, Sum.inl kk, Sum.inl (x : Int), Sum.inl what, Sum.inl (nM N : Int), Sum.inl up, Sum.inl down, Sum.inl (s : Int), Sum.inl (w : Int), Sum.inl (if t = true then 1 else 0), Sum.inl (i : Int)], [], g) = resA (callA d) 187 (194, [Sum.inr (Sum.inr (some 141)), Sum.inl c, Sum.inl kk, Sum.inl (x : Int), Sum.inl what, Sum.inl (nM N : Int), Sum.inl up, Sum.inl down, Sum.inl (s : Int), Sum.inl ((w * facX x t ^ (trnR N s t k i).length : Nat) : Int), Sum.inl (if t = true then 1 else 0), Sum.inl (nM N : Int)], [], g2)
  | 0, i, P, g, w, hi, sg, h19, hr, hl, hw => by
    have e : i = nM N := hi
    subst e
    have e0 : trnR N s t 0 (nM N) = [] := rfl
    rw [e0, List.append_nil, List.length_nil, Nat.pow_zero, Nat.mul_one]
    refine ⟨g, sg, h19, hr, rfl, hw, ?_⟩
    simp (disch := (first | omega | (simp only [kd_sI, kd_sL, kd_sR, kd_cp, kd_aI]; omega) | (unfold catV; exact rfl) | (unfold catS; exact Nat.le_of_ble_eq_true rfl) | assumption)) only [q_187_0, q_187_1, q_187_2, q_187_5_t, q_187_5_f, q_187_8, q_187_9, q_187_10, q_187_13_t, q_187_13_f, q_187_16, q_187_17, q_187_18, q_187_20, q_187_23_t, q_187_23_f, q_187_26, q_187_28, q_187_29, q_187_30, q_187_33_t, q_187_33_f, q_187_36, q_187_37, q_187_38, q_187_39, q_187_42, q_187_43, q_187_46, q_187_48, q_187_49, q_187_51, q_187_52, q_187_54, q_187_55, q_187_57, q_187_58, q_187_60, q_187_62, q_187_64_t, q_187_64_f, q_187_67, q_187_69, q_187_71, q_187_72, q_187_74, q_187_77, q_187_80, q_187_81, q_187_83, q_187_85, q_187_86, q_187_88, q_187_89_t, q_187_89_f, q_187_92, q_187_93, q_187_94, q_187_97, q_187_99_t, q_187_99_f, q_187_102, q_187_103, q_187_105, q_187_106, q_187_107, q_187_110, q_187_111, q_187_113, q_187_115, q_187_116_t, q_187_116_f, q_187_119, q_187_120, q_187_122, q_187_124, q_187_126_t, q_187_126_f, q_187_129, q_187_131, q_187_133, q_187_134, q_187_135, q_187_136, q_187_138_t, q_187_138_f, q_187_141, q_187_142, q_187_145, q_187_146, q_187_149, q_187_150, q_187_153, q_187_154, q_187_156, q_187_157, q_187_158, q_187_159, q_187_160, q_187_161, q_187_164, q_187_165, q_187_166, q_187_169, q_187_171, q_187_173, q_187_174_t, q_187_174_f, q_187_177, q_187_178, q_187_181, q_187_183, q_187_184, q_187_185, q_187_186, q_187_188, q_187_191, q_187_197, q_187_200, q_187_201, q_187_204, q_187_206, q_187_207, q_187_210, q_187_211, q_187_212, q_187_213_t, q_187_213_f, q_187_216, q_187_218, q_187_221, q_187_222, q_187_223, q_187_225, q_187_228, q_187_231, q_187_233, q_187_235, q_187_237, q_187_239, q_187_241_t, q_187_241_f, q_187_244, q_187_246, q_187_248, q_187_249, q_187_251, q_187_253, q_187_255, q_187_257, q_187_259, q_187_262, q_187_264_t, q_187_264_f, q_187_267, q_187_269, q_187_271, q_187_272, q_187_275, q_187_277, q_187_279, q_187_280, aft_i, aft_l, aft_v, Int.toNat_natCast, kd_sI, kd_sL, kd_sR, kd_cp, gI_sL, gI_sR, gL_sI, gL_sR, gR_sI, gR_sL, gL_cp, gR_cp, kd_aI, gL_aI, gR_aI, gI_aI, gI_aIn, sI_aI, gI_sIn, Int.reduceToNat, Int.reduceAdd, Int.reduceSub, Int.reduceMul, Int.reduceNeg, Int.zero_add]
  | k + 1, i, P, g, w, hi, sg, h19, hr, hl, hw => by
    have c7 := wT.1
    have n7 : nM N ≤ 7 := Nat.le_trans wN.1 wT.1
    have Lg := scr_L sg L0
    have ug := scr_mN sg u
    have ui := ug.2.1 i (by omega)
    have bt := bitI (a := s) (c := i) (by omega) hs
    have P7 : P.length ≤ 7 := by omega
    have w7 := p10 P7
    obtain ⟨k141, j141⟩ := lay_k Lg (a := 141) (t := 8) (n := 26) rfl; obtain ⟨k150, j150⟩ := lay_k Lg (a := 150) (t := 100) (n := 1851) rfl; obtain ⟨k152, j152⟩ := lay_k Lg (a := 152) (t := 100) (n := 7) rfl; have r141_16 : gR g 141 16 = some 150 := lay_r Lg rfl; have r141_18 : gR g 141 18 = some 152 := lay_r Lg rfl
    by_cases z : s.testBit i = t
    · have ez : trnR N s t (k + 1) i = nR N i :: trnR N s t k (i + 1) := by rw [trnR, if_pos z]
      rw [ez] at hl ⊢
      rw [List.length_cons] at hl
      have sg2 : scr h (sI (sI g 152 P.length (nR N i)) 141 19 ((P.length : Int) + 1)) := by
        rw [sI_is g 152]
        exact scr_tr sg (scr_tr (scr_aI (by omega)) scr_r)
      have lP : (P ++ [nR N i]).length = P.length + 1 := by rw [List.length_append, List.length_singleton]
      have hw2 := mul10 hw (facX_b hx t)
      obtain ⟨g2, s2, h2, r2, f2, b2, e2⟩ := mOdd_in d h L0 T N wT wN u c kk what x hx up down s hs t k (i + 1) (P ++ [nR N i]) _ (w * facX x t) (by omega) sg2 (by rw [gI_sIs, lP]; rfl) (by
        rw [gI_sIn (by omega), gI_sIu]
        refine rwO_app.mpr ⟨rwO_congr (fun i hi => upI_n (by omega)) hr, rwO_cons.mpr ⟨?_, rwO_nil _ _⟩⟩
        rw [Nat.zero_add, upI_s]) (by omega) (by rw [lP]; exact hw2)
      have eA : P ++ nR N i :: trnR N s t k (i + 1) = P ++ [nR N i] ++ trnR N s t k (i + 1) := by simp
      have eW : w * facX x t ^ (nR N i :: trnR N s t k (i + 1)).length = w * facX x t * facX x t ^ (trnR N s t k (i + 1)).length := by
        rw [List.length_cons, Nat.pow_succ, Nat.mul_comm (facX x t ^ _) (facX x t), Nat.mul_assoc]
      rw [eA, eW]
      refine ⟨g2, s2, h2, r2, by rw [f2, gI_sIn (by omega), gI_sIn (by omega)], b2, ?_⟩
      have q7 := p10 (show P.length + 1 ≤ 7 by omega)
      rw [q_187_122]
      cases t with
      | true =>
        rw [z] at bt
        have bt : andI (shrI (s : Int) (i : Int)) 1 = 1 := bt
        have ex : facX x true = x := rfl
        rw [ex] at e2 hw2
        have em : (w : Int) * (x : Int) = ((w * x : Nat) : Int) := (Int.natCast_mul w x).symm
        have hm : -2147483648 ≤ (w : Int) * (x : Int) ∧ (w : Int) * (x : Int) < 2147483648 := by omega
        rw [if_pos rfl] at e2 ⊢
        rw [ex]
        simp (disch := (first | omega | (simp only [kd_sI, kd_sL, kd_sR, kd_cp, kd_aI]; omega) | (unfold catV; exact rfl) | (unfold catS; exact Nat.le_of_ble_eq_true rfl) | assumption)) only [q_187_0, q_187_1, q_187_2, q_187_5_t, q_187_5_f, q_187_8, q_187_9, q_187_10, q_187_13_t, q_187_13_f, q_187_16, q_187_17, q_187_18, q_187_20, q_187_23_t, q_187_23_f, q_187_26, q_187_28, q_187_29, q_187_30, q_187_33_t, q_187_33_f, q_187_36, q_187_37, q_187_38, q_187_39, q_187_42, q_187_43, q_187_46, q_187_48, q_187_49, q_187_51, q_187_52, q_187_54, q_187_55, q_187_57, q_187_58, q_187_60, q_187_62, q_187_64_t, q_187_64_f, q_187_67, q_187_69, q_187_71, q_187_72, q_187_74, q_187_77, q_187_80, q_187_81, q_187_83, q_187_85, q_187_86, q_187_88, q_187_89_t, q_187_89_f, q_187_92, q_187_93, q_187_94, q_187_97, q_187_99_t, q_187_99_f, q_187_102, q_187_103, q_187_105, q_187_106, q_187_107, q_187_110, q_187_111, q_187_113, q_187_115, q_187_116_t, q_187_116_f, q_187_119, q_187_120, q_187_124, q_187_126_t, q_187_126_f, q_187_129, q_187_131, q_187_133, q_187_134, q_187_135, q_187_136, q_187_138_t, q_187_138_f, q_187_141, q_187_142, q_187_145, q_187_146, q_187_149, q_187_150, q_187_153, q_187_154, q_187_156, q_187_157, q_187_158, q_187_159, q_187_160, q_187_161, q_187_164, q_187_165, q_187_166, q_187_169, q_187_171, q_187_173, q_187_174_t, q_187_174_f, q_187_177, q_187_178, q_187_181, q_187_183, q_187_184, q_187_185, q_187_186, q_187_188, q_187_191, q_187_197, q_187_200, q_187_201, q_187_204, q_187_206, q_187_207, q_187_210, q_187_211, q_187_212, q_187_213_t, q_187_213_f, q_187_216, q_187_218, q_187_221, q_187_222, q_187_223, q_187_225, q_187_228, q_187_231, q_187_233, q_187_235, q_187_237, q_187_239, q_187_241_t, q_187_241_f, q_187_244, q_187_246, q_187_248, q_187_249, q_187_251, q_187_253, q_187_255, q_187_257, q_187_259, q_187_262, q_187_264_t, q_187_264_f, q_187_267, q_187_269, q_187_271, q_187_272, q_187_275, q_187_277, q_187_279, q_187_280, aft_i, aft_l, aft_v, Int.toNat_natCast, kd_sI, kd_sL, kd_sR, kd_cp, gI_sL, gI_sR, gL_sI, gL_sR, gR_sI, gR_sL, gL_cp, gR_cp, kd_aI, gL_aI, gR_aI, gI_aI, gI_aIn, sI_aI, gI_sIn, Int.reduceToNat, Int.reduceAdd, Int.reduceSub, Int.reduceMul, Int.reduceNeg, Int.zero_add, r141_16, r141_18, h19, bt, ui, gI_sIs]
        rw [em]
        exact e2
      | false =>
        rw [z] at bt
        have bt : andI (shrI (s : Int) (i : Int)) 1 = 0 := bt
        have ex : facX x false = 10 - x := rfl
        rw [ex] at e2 hw2
        have em : (w : Int) * (10 - (x : Int)) = ((w * (10 - x) : Nat) : Int) := by rw [Int.natCast_mul]; congr 1; omega
        have hm : -2147483648 ≤ (w : Int) * (10 - (x : Int)) ∧ (w : Int) * (10 - (x : Int)) < 2147483648 := by omega
        rw [if_neg Bool.false_ne_true] at e2 ⊢
        rw [ex]
        simp (disch := (first | omega | (simp only [kd_sI, kd_sL, kd_sR, kd_cp, kd_aI]; omega) | (unfold catV; exact rfl) | (unfold catS; exact Nat.le_of_ble_eq_true rfl) | assumption)) only [q_187_0, q_187_1, q_187_2, q_187_5_t, q_187_5_f, q_187_8, q_187_9, q_187_10, q_187_13_t, q_187_13_f, q_187_16, q_187_17, q_187_18, q_187_20, q_187_23_t, q_187_23_f, q_187_26, q_187_28, q_187_29, q_187_30, q_187_33_t, q_187_33_f, q_187_36, q_187_37, q_187_38, q_187_39, q_187_42, q_187_43, q_187_46, q_187_48, q_187_49, q_187_51, q_187_52, q_187_54, q_187_55, q_187_57, q_187_58, q_187_60, q_187_62, q_187_64_t, q_187_64_f, q_187_67, q_187_69, q_187_71, q_187_72, q_187_74, q_187_77, q_187_80, q_187_81, q_187_83, q_187_85, q_187_86, q_187_88, q_187_89_t, q_187_89_f, q_187_92, q_187_93, q_187_94, q_187_97, q_187_99_t, q_187_99_f, q_187_102, q_187_103, q_187_105, q_187_106, q_187_107, q_187_110, q_187_111, q_187_113, q_187_115, q_187_116_t, q_187_116_f, q_187_119, q_187_120, q_187_124, q_187_126_t, q_187_126_f, q_187_129, q_187_131, q_187_133, q_187_134, q_187_135, q_187_136, q_187_138_t, q_187_138_f, q_187_141, q_187_142, q_187_145, q_187_146, q_187_149, q_187_150, q_187_153, q_187_154, q_187_156, q_187_157, q_187_158, q_187_159, q_187_160, q_187_161, q_187_164, q_187_165, q_187_166, q_187_169, q_187_171, q_187_173, q_187_174_t, q_187_174_f, q_187_177, q_187_178, q_187_181, q_187_183, q_187_184, q_187_185, q_187_186, q_187_188, q_187_191, q_187_197, q_187_200, q_187_201, q_187_204, q_187_206, q_187_207, q_187_210, q_187_211, q_187_212, q_187_213_t, q_187_213_f, q_187_216, q_187_218, q_187_221, q_187_222, q_187_223, q_187_225, q_187_228, q_187_231, q_187_233, q_187_235, q_187_237, q_187_239, q_187_241_t, q_187_241_f, q_187_244, q_187_246, q_187_248, q_187_249, q_187_251, q_187_253, q_187_255, q_187_257, q_187_259, q_187_262, q_187_264_t, q_187_264_f, q_187_267, q_187_269, q_187_271, q_187_272, q_187_275, q_187_277, q_187_279, q_187_280, aft_i, aft_l, aft_v, Int.toNat_natCast, kd_sI, kd_sL, kd_sR, kd_cp, gI_sL, gI_sR, gL_sI, gL_sR, gR_sI, gR_sL, gL_cp, gR_cp, kd_aI, gL_aI, gR_aI, gI_aI, gI_aIn, sI_aI, gI_sIn, Int.reduceToNat, Int.reduceAdd, Int.reduceSub, Int.reduceMul, Int.reduceNeg, Int.zero_add, r141_16, r141_18, h19, bt, ui, gI_sIs]
        rw [em]
        exact e2
    · have ez : trnR N s t (k + 1) i = trnR N s t k (i + 1) := by rw [trnR, if_neg z]
      rw [ez] at hl ⊢
      obtain ⟨g2, s2, h2, r2, f2, b2, e2⟩ := mOdd_in d h L0 T N wT wN u c kk what x hx up down s hs t k (i + 1) P g w (by omega) sg h19 hr hl hw
      refine ⟨g2, s2, h2, r2, f2, b2, ?_⟩
      rw [q_187_122]
      cases t with
      | true =>
        rw [Bool.eq_false_iff.mpr z] at bt
        have bt : andI (shrI (s : Int) (i : Int)) 1 = 0 := bt
        rw [if_pos rfl] at e2 ⊢
        simp (disch := (first | omega | (simp only [kd_sI, kd_sL, kd_sR, kd_cp, kd_aI]; omega) | (unfold catV; exact rfl) | (unfold catS; exact Nat.le_of_ble_eq_true rfl) | assumption)) only [q_187_0, q_187_1, q_187_2, q_187_5_t, q_187_5_f, q_187_8, q_187_9, q_187_10, q_187_13_t, q_187_13_f, q_187_16, q_187_17, q_187_18, q_187_20, q_187_23_t, q_187_23_f, q_187_26, q_187_28, q_187_29, q_187_30, q_187_33_t, q_187_33_f, q_187_36, q_187_37, q_187_38, q_187_39, q_187_42, q_187_43, q_187_46, q_187_48, q_187_49, q_187_51, q_187_52, q_187_54, q_187_55, q_187_57, q_187_58, q_187_60, q_187_62, q_187_64_t, q_187_64_f, q_187_67, q_187_69, q_187_71, q_187_72, q_187_74, q_187_77, q_187_80, q_187_81, q_187_83, q_187_85, q_187_86, q_187_88, q_187_89_t, q_187_89_f, q_187_92, q_187_93, q_187_94, q_187_97, q_187_99_t, q_187_99_f, q_187_102, q_187_103, q_187_105, q_187_106, q_187_107, q_187_110, q_187_111, q_187_113, q_187_115, q_187_116_t, q_187_116_f, q_187_119, q_187_120, q_187_124, q_187_126_t, q_187_126_f, q_187_129, q_187_131, q_187_133, q_187_134, q_187_135, q_187_136, q_187_138_t, q_187_138_f, q_187_141, q_187_142, q_187_145, q_187_146, q_187_149, q_187_150, q_187_153, q_187_154, q_187_156, q_187_157, q_187_158, q_187_159, q_187_160, q_187_161, q_187_164, q_187_165, q_187_166, q_187_169, q_187_171, q_187_173, q_187_174_t, q_187_174_f, q_187_177, q_187_178, q_187_181, q_187_183, q_187_184, q_187_185, q_187_186, q_187_188, q_187_191, q_187_197, q_187_200, q_187_201, q_187_204, q_187_206, q_187_207, q_187_210, q_187_211, q_187_212, q_187_213_t, q_187_213_f, q_187_216, q_187_218, q_187_221, q_187_222, q_187_223, q_187_225, q_187_228, q_187_231, q_187_233, q_187_235, q_187_237, q_187_239, q_187_241_t, q_187_241_f, q_187_244, q_187_246, q_187_248, q_187_249, q_187_251, q_187_253, q_187_255, q_187_257, q_187_259, q_187_262, q_187_264_t, q_187_264_f, q_187_267, q_187_269, q_187_271, q_187_272, q_187_275, q_187_277, q_187_279, q_187_280, aft_i, aft_l, aft_v, Int.toNat_natCast, kd_sI, kd_sL, kd_sR, kd_cp, gI_sL, gI_sR, gL_sI, gL_sR, gR_sI, gR_sL, gL_cp, gR_cp, kd_aI, gL_aI, gR_aI, gI_aI, gI_aIn, sI_aI, gI_sIn, Int.reduceToNat, Int.reduceAdd, Int.reduceSub, Int.reduceMul, Int.reduceNeg, Int.zero_add, r141_16, r141_18, h19, bt]
        exact e2
      | false =>
        have z2 : s.testBit i = true := by cases q : s.testBit i with
          | true => rfl
          | false => exact absurd q z
        rw [z2] at bt
        have bt : andI (shrI (s : Int) (i : Int)) 1 = 1 := bt
        rw [if_neg Bool.false_ne_true] at e2 ⊢
        simp (disch := (first | omega | (simp only [kd_sI, kd_sL, kd_sR, kd_cp, kd_aI]; omega) | (unfold catV; exact rfl) | (unfold catS; exact Nat.le_of_ble_eq_true rfl) | assumption)) only [q_187_0, q_187_1, q_187_2, q_187_5_t, q_187_5_f, q_187_8, q_187_9, q_187_10, q_187_13_t, q_187_13_f, q_187_16, q_187_17, q_187_18, q_187_20, q_187_23_t, q_187_23_f, q_187_26, q_187_28, q_187_29, q_187_30, q_187_33_t, q_187_33_f, q_187_36, q_187_37, q_187_38, q_187_39, q_187_42, q_187_43, q_187_46, q_187_48, q_187_49, q_187_51, q_187_52, q_187_54, q_187_55, q_187_57, q_187_58, q_187_60, q_187_62, q_187_64_t, q_187_64_f, q_187_67, q_187_69, q_187_71, q_187_72, q_187_74, q_187_77, q_187_80, q_187_81, q_187_83, q_187_85, q_187_86, q_187_88, q_187_89_t, q_187_89_f, q_187_92, q_187_93, q_187_94, q_187_97, q_187_99_t, q_187_99_f, q_187_102, q_187_103, q_187_105, q_187_106, q_187_107, q_187_110, q_187_111, q_187_113, q_187_115, q_187_116_t, q_187_116_f, q_187_119, q_187_120, q_187_124, q_187_126_t, q_187_126_f, q_187_129, q_187_131, q_187_133, q_187_134, q_187_135, q_187_136, q_187_138_t, q_187_138_f, q_187_141, q_187_142, q_187_145, q_187_146, q_187_149, q_187_150, q_187_153, q_187_154, q_187_156, q_187_157, q_187_158, q_187_159, q_187_160, q_187_161, q_187_164, q_187_165, q_187_166, q_187_169, q_187_171, q_187_173, q_187_174_t, q_187_174_f, q_187_177, q_187_178, q_187_181, q_187_183, q_187_184, q_187_185, q_187_186, q_187_188, q_187_191, q_187_197, q_187_200, q_187_201, q_187_204, q_187_206, q_187_207, q_187_210, q_187_211, q_187_212, q_187_213_t, q_187_213_f, q_187_216, q_187_218, q_187_221, q_187_222, q_187_223, q_187_225, q_187_228, q_187_231, q_187_233, q_187_235, q_187_237, q_187_239, q_187_241_t, q_187_241_f, q_187_244, q_187_246, q_187_248, q_187_249, q_187_251, q_187_253, q_187_255, q_187_257, q_187_259, q_187_262, q_187_264_t, q_187_264_f, q_187_267, q_187_269, q_187_271, q_187_272, q_187_275, q_187_277, q_187_279, q_187_280, aft_i, aft_l, aft_v, Int.toNat_natCast, kd_sI, kd_sL, kd_sR, kd_cp, gI_sL, gI_sR, gL_sI, gL_sR, gR_sI, gR_sL, gL_cp, gR_cp, kd_aI, gL_aI, gR_aI, gI_aI, gI_aIn, sI_aI, gI_sIn, Int.reduceToNat, Int.reduceAdd, Int.reduceSub, Int.reduceMul, Int.reduceNeg, Int.zero_add, r141_16, r141_18, h19, bt]
        exact e2
