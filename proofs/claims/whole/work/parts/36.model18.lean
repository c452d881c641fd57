def flG (gone : Int) (l : List Nat) : List Nat := l.filter (fun x : Nat => decide ((x : Int) ≠ gone))
theorem mSo_row (d : Nat) (h : mH) (L0 : LAY h) (T : Td) (N : Nt) (wT : wfT T) (wN : wfN T N) (u : mNow h T N) (gone : Int) (a3 a4 a5 : mV) : ∀ (D A : List Nat) (k : Nat) (g : mH), scr h g → (rowL N).drop k = D → A.length ≤ k → k + D.length = nM N → gI g 141 19 = A.length → rwO (gI g 152) 0 A → ∃ g2 a2, scr h g2 ∧ gI g2 141 19 = (A ++ flG gone D).length ∧ rwO (gI g2 152) 0 (A ++ flG gone D) ∧ resA (callA d) 185 (7, [Sum.inr (Sum.inr (some 141)), Sum.inl gone, Sum.inl (k : Int), a3, a4, a5], [], g) = resA (callA d) 185 (63, [Sum.inr (Sum.inr (some 141)), Sum.inl gone, Sum.inl a2, a3, a4, a5], [], g2)
  | [], A, k, g, sg, eD, hA, hk, h19, hr => by
    have n7 : nM N ≤ 7 := Nat.le_trans wN.1 wT.1
    have hk : k = nM N := hk
    have u7 : gI g 150 7 = nM N := (scr_mN sg u).1
    have Lg := scr_L sg L0
    obtain ⟨k141, j141⟩ := lay_k Lg (a := 141) (t := 8) (n := 26) rfl; obtain ⟨k150, j150⟩ := lay_k Lg (a := 150) (t := 100) (n := 1851) rfl; have r141_16 : gR g 141 16 = some 150 := lay_r Lg rfl
    have e0 : A ++ flG gone [] = A := List.append_nil _
    rw [e0]
    refine ⟨g, (k : Int), sg, h19, hr, ?_⟩
    simp (disch := (first | omega | (simp only [kd_sI, kd_sL, kd_sR, kd_cp, kd_aI]; omega) | (unfold catV; exact rfl) | (unfold catS; exact Nat.le_of_ble_eq_true rfl) | assumption)) only [q_185_0, q_185_1, q_185_2, q_185_5, q_185_6, q_185_7, q_185_8, q_185_9, q_185_12, q_185_14, q_185_15_t, q_185_15_f, q_185_18, q_185_19, q_185_22, q_185_23, q_185_24, q_185_25, q_185_26, q_185_27_t, q_185_27_f, q_185_30, q_185_31, q_185_34, q_185_35, q_185_38, q_185_39, q_185_42, q_185_43, q_185_44, q_185_45, q_185_46, q_185_47, q_185_48, q_185_49, q_185_52, q_185_53, q_185_54, q_185_57, q_185_60, q_185_64, q_185_66_t, q_185_66_f, q_185_69, q_185_70, q_185_73, q_185_74, q_185_77, q_185_78, q_185_79, q_185_80, q_185_81, q_185_84, q_185_85, q_185_86, q_185_89, q_185_90, q_185_91, q_185_92, q_185_93, q_185_94, q_185_95, q_185_98_t, q_185_98_f, q_185_101, q_185_102, q_185_104, q_185_105, q_185_107, q_185_109, q_185_110, q_185_113_t, q_185_113_f, q_185_116, q_185_118_t, q_185_118_f, q_185_121, q_185_122, q_185_125, q_185_127, q_185_128, q_185_129, q_185_130, q_185_131, q_185_134, q_185_135, q_185_136_t, q_185_136_f, q_185_139, q_185_140, q_185_143, q_185_145, q_185_146, q_185_147, q_185_150, q_185_151, q_185_152_t, q_185_152_f, q_185_155, q_185_156, q_185_159, q_185_160, q_185_162, q_185_165, q_185_168, q_185_169_t, q_185_169_f, q_185_172, q_185_174_t, q_185_174_f, q_185_177, q_185_178, q_185_181, q_185_182, q_185_183, q_185_186, q_185_189, q_185_190, aft_i, aft_l, aft_v, Int.toNat_natCast, kd_sI, kd_sL, kd_sR, kd_cp, gI_sL, gI_sR, gL_sI, gL_sR, gR_sI, gR_sL, gL_cp, gR_cp, kd_aI, gL_aI, gR_aI, gI_aI, gI_aIn, sI_aI, gI_sIn, Int.reduceToNat, Int.reduceAdd, Int.reduceSub, Int.reduceMul, Int.reduceNeg, Int.zero_add, r141_16, u7]
  | x :: D, A, k, g, sg, eD, hA, hk, h19, hr => by
    have n7 : nM N ≤ 7 := Nat.le_trans wN.1 wT.1
    rw [List.length_cons] at hk
    have u7 : gI g 150 7 = nM N := (scr_mN sg u).1
    have Lg := scr_L sg L0
    have hx : k < (rowL N).length := by rw [rowL_len]; omega
    have ec := List.drop_eq_getElem_cons hx
    rw [eD, rowL_at hx] at ec
    obtain ⟨ex, eD2⟩ := List.cons.inj ec
    have ux : gI g 150 k = x := by rw [ex]; exact (scr_mN sg u).2.1 k (by omega)
    by_cases z : (x : Int) = gone
    · have eF : flG gone (x :: D) = flG gone D := List.filter_cons_of_neg (by rw [decide_eq_true_eq]; exact fun y => y z)
      obtain ⟨g2, a2, s2, h2, r2, e2⟩ := mSo_row d h L0 T N wT wN u gone a3 a4 a5 D A (k + 1) g sg eD2.symm (by omega) (by omega) h19 hr
      rw [eF]
      refine ⟨g2, a2, s2, h2, r2, ?_⟩
      obtain ⟨k141, j141⟩ := lay_k Lg (a := 141) (t := 8) (n := 26) rfl; obtain ⟨k150, j150⟩ := lay_k Lg (a := 150) (t := 100) (n := 1851) rfl; have r141_16 : gR g 141 16 = some 150 := lay_r Lg rfl
      rw [q_185_7]
      simp (disch := (first | omega | (simp only [kd_sI, kd_sL, kd_sR, kd_cp, kd_aI]; omega) | (unfold catV; exact rfl) | (unfold catS; exact Nat.le_of_ble_eq_true rfl) | assumption)) only [q_185_0, q_185_1, q_185_2, q_185_5, q_185_6, q_185_8, q_185_9, q_185_12, q_185_14, q_185_15_t, q_185_15_f, q_185_18, q_185_19, q_185_22, q_185_23, q_185_24, q_185_25, q_185_26, q_185_27_t, q_185_27_f, q_185_30, q_185_31, q_185_34, q_185_35, q_185_38, q_185_39, q_185_42, q_185_43, q_185_44, q_185_45, q_185_46, q_185_47, q_185_48, q_185_49, q_185_52, q_185_53, q_185_54, q_185_57, q_185_60, q_185_64, q_185_66_t, q_185_66_f, q_185_69, q_185_70, q_185_73, q_185_74, q_185_77, q_185_78, q_185_79, q_185_80, q_185_81, q_185_84, q_185_85, q_185_86, q_185_89, q_185_90, q_185_91, q_185_92, q_185_93, q_185_94, q_185_95, q_185_98_t, q_185_98_f, q_185_101, q_185_102, q_185_104, q_185_105, q_185_107, q_185_109, q_185_110, q_185_113_t, q_185_113_f, q_185_116, q_185_118_t, q_185_118_f, q_185_121, q_185_122, q_185_125, q_185_127, q_185_128, q_185_129, q_185_130, q_185_131, q_185_134, q_185_135, q_185_136_t, q_185_136_f, q_185_139, q_185_140, q_185_143, q_185_145, q_185_146, q_185_147, q_185_150, q_185_151, q_185_152_t, q_185_152_f, q_185_155, q_185_156, q_185_159, q_185_160, q_185_162, q_185_165, q_185_168, q_185_169_t, q_185_169_f, q_185_172, q_185_174_t, q_185_174_f, q_185_177, q_185_178, q_185_181, q_185_182, q_185_183, q_185_186, q_185_189, q_185_190, aft_i, aft_l, aft_v, Int.toNat_natCast, kd_sI, kd_sL, kd_sR, kd_cp, gI_sL, gI_sR, gL_sI, gL_sR, gR_sI, gR_sL, gL_cp, gR_cp, kd_aI, gL_aI, gR_aI, gI_aI, gI_aIn, sI_aI, gI_sIn, Int.reduceToNat, Int.reduceAdd, Int.reduceSub, Int.reduceMul, Int.reduceNeg, Int.zero_add, r141_16, u7, ux]
      exact e2
    · have eF : flG gone (x :: D) = x :: flG gone D := List.filter_cons_of_pos (by rw [decide_eq_true_eq]; exact z)
      have rA : rwO (gI (sI (sI g 152 A.length x) 141 19 ((A.length : Int) + 1)) 152) 0 (A ++ [x]) := by
        rw [gI_sIn (by omega), gI_sIu]
        refine rwO_app.mpr ⟨rwO_congr (fun i hi => upI_n (by omega)) hr, rwO_cons.mpr ⟨?_, rwO_nil _ _⟩⟩
        rw [Nat.zero_add, upI_s]
      have sg2 : scr h (sI (sI g 152 A.length x) 141 19 ((A.length : Int) + 1)) := by
        rw [sI_is g 152]
        exact scr_tr sg (scr_tr (scr_aI (by omega)) scr_r)
      obtain ⟨g2, a2, s2, h2, r2, e2⟩ := mSo_row d h L0 T N wT wN u gone a3 a4 a5 D (A ++ [x]) (k + 1) _ sg2 eD2.symm (by rw [List.length_append, List.length_singleton]; omega) (by omega) (by rw [gI_sIs, List.length_append, List.length_singleton]; rfl) rA
      rw [eF]
      rw [List.append_assoc, List.singleton_append] at h2 r2
      refine ⟨g2, a2, s2, h2, r2, ?_⟩
      obtain ⟨k141, j141⟩ := lay_k Lg (a := 141) (t := 8) (n := 26) rfl; obtain ⟨k150, j150⟩ := lay_k Lg (a := 150) (t := 100) (n := 1851) rfl; obtain ⟨k152, j152⟩ := lay_k Lg (a := 152) (t := 100) (n := 7) rfl; have r141_16 : gR g 141 16 = some 150 := lay_r Lg rfl; have r141_18 : gR g 141 18 = some 152 := lay_r Lg rfl
      rw [q_185_7]
      simp (disch := (first | omega | (simp only [kd_sI, kd_sL, kd_sR, kd_cp, kd_aI]; omega) | (unfold catV; exact rfl) | (unfold catS; exact Nat.le_of_ble_eq_true rfl) | assumption)) only [q_185_0, q_185_1, q_185_2, q_185_5, q_185_6, q_185_8, q_185_9, q_185_12, q_185_14, q_185_15_t, q_185_15_f, q_185_18, q_185_19, q_185_22, q_185_23, q_185_24, q_185_25, q_185_26, q_185_27_t, q_185_27_f, q_185_30, q_185_31, q_185_34, q_185_35, q_185_38, q_185_39, q_185_42, q_185_43, q_185_44, q_185_45, q_185_46, q_185_47, q_185_48, q_185_49, q_185_52, q_185_53, q_185_54, q_185_57, q_185_60, q_185_64, q_185_66_t, q_185_66_f, q_185_69, q_185_70, q_185_73, q_185_74, q_185_77, q_185_78, q_185_79, q_185_80, q_185_81, q_185_84, q_185_85, q_185_86, q_185_89, q_185_90, q_185_91, q_185_92, q_185_93, q_185_94, q_185_95, q_185_98_t, q_185_98_f, q_185_101, q_185_102, q_185_104, q_185_105, q_185_107, q_185_109, q_185_110, q_185_113_t, q_185_113_f, q_185_116, q_185_118_t, q_185_118_f, q_185_121, q_185_122, q_185_125, q_185_127, q_185_128, q_185_129, q_185_130, q_185_131, q_185_134, q_185_135, q_185_136_t, q_185_136_f, q_185_139, q_185_140, q_185_143, q_185_145, q_185_146, q_185_147, q_185_150, q_185_151, q_185_152_t, q_185_152_f, q_185_155, q_185_156, q_185_159, q_185_160, q_185_162, q_185_165, q_185_168, q_185_169_t, q_185_169_f, q_185_172, q_185_174_t, q_185_174_f, q_185_177, q_185_178, q_185_181, q_185_182, q_185_183, q_185_186, q_185_189, q_185_190, aft_i, aft_l, aft_v, Int.toNat_natCast, kd_sI, kd_sL, kd_sR, kd_cp, gI_sL, gI_sR, gL_sI, gL_sR, gR_sI, gR_sL, gL_cp, gR_cp, kd_aI, gL_aI, gR_aI, gI_aI, gI_aIn, sI_aI, gI_sIn, Int.reduceToNat, Int.reduceAdd, Int.reduceSub, Int.reduceMul, Int.reduceNeg, Int.zero_add, r141_16, r141_18, u7, ux, h19, gI_sIs]
      exact e2
def fndB (r : Nat → Int) (a b : Int) : Nat → Bool
  | 0 => false
  | i + 1 => fndB r a b i || (decide (r i = a) && decide (r (i + 1) = b))
def bI (b : Bool) : Int := if b = true then 1 else 0
theorem mSo_fnd (d : Nat) (g : mH) (L : LAY g) (n k : Nat) (hn : gI g 141 19 = n) (n7 : n ≤ 7) (hk : k < 6) (x1 : Int) (x2 : Int) : ∀ (j i : Nat), i + 1 + j = n → resA (callA d) 185 (107, [Sum.inr (Sum.inr (some 141)), Sum.inl x1, Sum.inl x2, Sum.inl (k : Int), Sum.inl (bI (fndB (gI g 152) (gI g 156 k) (gI g 157 k) i)), Sum.inl ((i : Int) + 1)], [], g) = resA (callA d) 185 (168, [Sum.inr (Sum.inr (some 141)), Sum.inl x1, Sum.inl x2, Sum.inl (k : Int), Sum.inl (bI (fndB (gI g 152) (gI g 156 k) (gI g 157 k) (n - 1))), Sum.inl (n : Int)], [], g)
  | 0, i, hi => by
    have e : n = i + 1 := by omega
    subst e
    obtain ⟨k141, j141⟩ := lay_k L (a := 141) (t := 8) (n := 26) rfl
    have e1 : ((i + 1 : Nat) : Int) = (i : Int) + 1 := rfl
    rw [Nat.add_sub_cancel]
    simp (disch := (first | omega | (simp only [kd_sI, kd_sL, kd_sR, kd_cp, kd_aI]; omega) | (unfold catV; exact rfl) | (unfold catS; exact Nat.le_of_ble_eq_true rfl) | assumption)) only [q_185_0, q_185_1, q_185_2, q_185_5, q_185_6, q_185_7, q_185_8, q_185_9, q_185_12, q_185_14, q_185_15_t, q_185_15_f, q_185_18, q_185_19, q_185_22, q_185_23, q_185_24, q_185_25, q_185_26, q_185_27_t, q_185_27_f, q_185_30, q_185_31, q_185_34, q_185_35, q_185_38, q_185_39, q_185_42, q_185_43, q_185_44, q_185_45, q_185_46, q_185_47, q_185_48, q_185_49, q_185_52, q_185_53, q_185_54, q_185_57, q_185_60, q_185_63, q_185_64, q_185_66_t, q_185_66_f, q_185_69, q_185_70, q_185_73, q_185_74, q_185_77, q_185_78, q_185_79, q_185_80, q_185_81, q_185_84, q_185_85, q_185_86, q_185_89, q_185_90, q_185_91, q_185_92, q_185_93, q_185_94, q_185_95, q_185_98_t, q_185_98_f, q_185_101, q_185_102, q_185_104, q_185_105, q_185_107, q_185_109, q_185_110, q_185_113_t, q_185_113_f, q_185_116, q_185_118_t, q_185_118_f, q_185_121, q_185_122, q_185_125, q_185_127, q_185_128, q_185_129, q_185_130, q_185_131, q_185_134, q_185_135, q_185_136_t, q_185_136_f, q_185_139, q_185_140, q_185_143, q_185_145, q_185_146, q_185_147, q_185_150, q_185_151, q_185_152_t, q_185_152_f, q_185_155, q_185_156, q_185_159, q_185_160, q_185_162, q_185_165, q_185_169_t, q_185_169_f, q_185_172, q_185_174_t, q_185_174_f, q_185_177, q_185_178, q_185_181, q_185_182, q_185_183, q_185_186, q_185_189, q_185_190, aft_i, aft_l, aft_v, Int.toNat_natCast, kd_sI, kd_sL, kd_sR, kd_cp, gI_sL, gI_sR, gL_sI, gL_sR, gR_sI, gR_sL, gL_cp, gR_cp, kd_aI, gL_aI, gR_aI, gI_aI, gI_aIn, sI_aI, gI_sIn, Int.reduceToNat, Int.reduceAdd, Int.reduceSub, Int.reduceMul, Int.reduceNeg, Int.zero_add, hn, e1]
  | j + 1, i, hi => by
    have ih := mSo_fnd d g L n k hn n7 hk x1 x2 j (i + 1) (by omega)
    obtain ⟨k141, j141⟩ := lay_k L (a := 141) (t := 8) (n := 26) rfl; obtain ⟨k152, j152⟩ := lay_k L (a := 152) (t := 100) (n := 7) rfl; obtain ⟨k156, j156⟩ := lay_k L (a := 156) (t := 100) (n := 6) rfl; obtain ⟨k157, j157⟩ := lay_k L (a := 157) (t := 100) (n := 6) rfl; have r141_18 : gR g 141 18 = some 152 := lay_r L rfl; have r141_23 : gR g 141 23 = some 156 := lay_r L rfl; have r141_24 : gR g 141 24 = some 157 := lay_r L rfl
    have eF : fndB (gI g 152) (gI g 156 k) (gI g 157 k) (i + 1) = (fndB (gI g 152) (gI g 156 k) (gI g 157 k) i || (decide (gI g 152 i = gI g 156 k) && decide (gI g 152 (i + 1) = gI g 157 k))) := rfl
    have e1 : (((i : Int) + 1) - 1).toNat = i := by omega
    have e2 : ((i : Int) + 1).toNat = i + 1 := by omega
    rw [eF] at ih
    rw [q_185_107]
    cases z : fndB (gI g 152) (gI g 156 k) (gI g 157 k) i with
    | true =>
      rw [z, Bool.true_or] at ih
      simp only [bI, if_true] at ih ⊢
      simp (disch := (first | omega | (simp only [kd_sI, kd_sL, kd_sR, kd_cp, kd_aI]; omega) | (unfold catV; exact rfl) | (unfold catS; exact Nat.le_of_ble_eq_true rfl) | assumption)) only [q_185_0, q_185_1, q_185_2, q_185_5, q_185_6, q_185_7, q_185_8, q_185_9, q_185_12, q_185_14, q_185_15_t, q_185_15_f, q_185_18, q_185_19, q_185_22, q_185_23, q_185_24, q_185_25, q_185_26, q_185_27_t, q_185_27_f, q_185_30, q_185_31, q_185_34, q_185_35, q_185_38, q_185_39, q_185_42, q_185_43, q_185_44, q_185_45, q_185_46, q_185_47, q_185_48, q_185_49, q_185_52, q_185_53, q_185_54, q_185_57, q_185_60, q_185_63, q_185_64, q_185_66_t, q_185_66_f, q_185_69, q_185_70, q_185_73, q_185_74, q_185_77, q_185_78, q_185_79, q_185_80, q_185_81, q_185_84, q_185_85, q_185_86, q_185_89, q_185_90, q_185_91, q_185_92, q_185_93, q_185_94, q_185_95, q_185_98_t, q_185_98_f, q_185_101, q_185_102, q_185_104, q_185_105, q_185_109, q_185_110, q_185_113_t, q_185_113_f, q_185_116, q_185_118_t, q_185_118_f, q_185_121, q_185_122, q_185_125, q_185_127, q_185_128, q_185_129, q_185_130, q_185_131, q_185_134, q_185_135, q_185_136_t, q_185_136_f, q_185_139, q_185_140, q_185_143, q_185_145, q_185_146, q_185_147, q_185_150, q_185_151, q_185_152_t, q_185_152_f, q_185_155, q_185_156, q_185_159, q_185_160, q_185_162, q_185_165, q_185_169_t, q_185_169_f, q_185_172, q_185_174_t, q_185_174_f, q_185_177, q_185_178, q_185_181, q_185_182, q_185_183, q_185_186, q_185_189, q_185_190, aft_i, aft_l, aft_v, Int.toNat_natCast, kd_sI, kd_sL, kd_sR, kd_cp, gI_sL, gI_sR, gL_sI, gL_sR, gR_sI, gR_sL, gL_cp, gR_cp, kd_aI, gL_aI, gR_aI, gI_aI, gI_aIn, sI_aI, gI_sIn, Int.reduceToNat, Int.reduceAdd, Int.reduceSub, Int.reduceMul, Int.reduceNeg, Int.zero_add, hn]
      exact ih
    | false =>
      rw [z, Bool.false_or] at ih
      simp only [bI, Bool.false_eq_true, if_false] at ih ⊢
      by_cases y1 : gI g 152 i = gI g 156 k
      · by_cases y2 : gI g 152 (i + 1) = gI g 157 k
        · rw [decide_eq_true y1, decide_eq_true y2] at ih
          simp only [Bool.and_self, if_true] at ih
          simp (disch := (first | omega | (simp only [kd_sI, kd_sL, kd_sR, kd_cp, kd_aI]; omega) | (unfold catV; exact rfl) | (unfold catS; exact Nat.le_of_ble_eq_true rfl) | assumption)) only [q_185_0, q_185_1, q_185_2, q_185_5, q_185_6, q_185_7, q_185_8, q_185_9, q_185_12, q_185_14, q_185_15_t, q_185_15_f, q_185_18, q_185_19, q_185_22, q_185_23, q_185_24, q_185_25, q_185_26, q_185_27_t, q_185_27_f, q_185_30, q_185_31, q_185_34, q_185_35, q_185_38, q_185_39, q_185_42, q_185_43, q_185_44, q_185_45, q_185_46, q_185_47, q_185_48, q_185_49, q_185_52, q_185_53, q_185_54, q_185_57, q_185_60, q_185_63, q_185_64, q_185_66_t, q_185_66_f, q_185_69, q_185_70, q_185_73, q_185_74, q_185_77, q_185_78, q_185_79, q_185_80, q_185_81, q_185_84, q_185_85, q_185_86, q_185_89, q_185_90, q_185_91, q_185_92, q_185_93, q_185_94, q_185_95, q_185_98_t, q_185_98_f, q_185_101, q_185_102, q_185_104, q_185_105, q_185_109, q_185_110, q_185_113_t, q_185_113_f, q_185_116, q_185_118_t, q_185_118_f, q_185_121, q_185_122, q_185_125, q_185_127, q_185_128, q_185_129, q_185_130, q_185_131, q_185_134, q_185_135, q_185_136_t, q_185_136_f, q_185_139, q_185_140, q_185_143, q_185_145, q_185_146, q_185_147, q_185_150, q_185_151, q_185_152_t, q_185_152_f, q_185_155, q_185_156, q_185_159, q_185_160, q_185_162, q_185_165, q_185_169_t, q_185_169_f, q_185_172, q_185_174_t, q_185_174_f, q_185_177, q_185_178, q_185_181, q_185_182, q_185_183, q_185_186, q_185_189, q_185_190, aft_i, aft_l, aft_v, Int.toNat_natCast, kd_sI, kd_sL, kd_sR, kd_cp, gI_sL, gI_sR, gL_sI, gL_sR, gR_sI, gR_sL, gL_cp, gR_cp, kd_aI, gL_aI, gR_aI, gI_aI, gI_aIn, sI_aI, gI_sIn, Int.reduceToNat, Int.reduceAdd, Int.reduceSub, Int.reduceMul, Int.reduceNeg, Int.zero_add, hn, r141_18, r141_23, r141_24, e1, e2]
          exact ih
        · rw [decide_eq_false y2] at ih
          simp only [Bool.and_false, Bool.false_eq_true, if_false] at ih
          simp (disch := (first | omega | (simp only [kd_sI, kd_sL, kd_sR, kd_cp, kd_aI]; omega) | (unfold catV; exact rfl) | (unfold catS; exact Nat.le_of_ble_eq_true rfl) | assumption)) only [q_185_0, q_185_1, q_185_2, q_185_5, q_185_6, q_185_7, q_185_8, q_185_9, q_185_12, q_185_14, q_185_15_t, q_185_15_f, q_185_18, q_185_19, q_185_22, q_185_23, q_185_24, q_185_25, q_185_26, q_185_27_t, q_185_27_f, q_185_30, q_185_31, q_185_34, q_185_35, q_185_38, q_185_39, q_185_42, q_185_43, q_185_44, q_185_45, q_185_46, q_185_47, q_185_48, q_185_49, q_185_52, q_185_53, q_185_54, q_185_57, q_185_60, q_185_63, q_185_64, q_185_66_t, q_185_66_f, q_185_69, q_185_70, q_185_73, q_185_74, q_185_77, q_185_78, q_185_79, q_185_80, q_185_81, q_185_84, q_185_85, q_185_86, q_185_89, q_185_90, q_185_91, q_185_92, q_185_93, q_185_94, q_185_95, q_185_98_t, q_185_98_f, q_185_101, q_185_102, q_185_104, q_185_105, q_185_109, q_185_110, q_185_113_t, q_185_113_f, q_185_116, q_185_118_t, q_185_118_f, q_185_121, q_185_122, q_185_125, q_185_127, q_185_128, q_185_129, q_185_130, q_185_131, q_185_134, q_185_135, q_185_136_t, q_185_136_f, q_185_139, q_185_140, q_185_143, q_185_145, q_185_146, q_185_147, q_185_150, q_185_151, q_185_152_t, q_185_152_f, q_185_155, q_185_156, q_185_159, q_185_160, q_185_162, q_185_165, q_185_169_t, q_185_169_f, q_185_172, q_185_174_t, q_185_174_f, q_185_177, q_185_178, q_185_181, q_185_182, q_185_183, q_185_186, q_185_189, q_185_190, aft_i, aft_l, aft_v, Int.toNat_natCast, kd_sI, kd_sL, kd_sR, kd_cp, gI_sL, gI_sR, gL_sI, gL_sR, gR_sI, gR_sL, gL_cp, gR_cp, kd_aI, gL_aI, gR_aI, gI_aI, gI_aIn, sI_aI, gI_sIn, Int.reduceToNat, Int.reduceAdd, Int.reduceSub, Int.reduceMul, Int.reduceNeg, Int.zero_add, hn, r141_18, r141_23, r141_24, e1, e2]
          exact ih
      · rw [decide_eq_false y1] at ih
        simp only [Bool.false_and, Bool.false_eq_true, if_false] at ih
        simp (disch := (first | omega | (simp only [kd_sI, kd_sL, kd_sR, kd_cp, kd_aI]; omega) | (unfold catV; exact rfl) | (unfold catS; exact Nat.le_of_ble_eq_true rfl) | assumption)) only [q_185_0, q_185_1, q_185_2, q_185_5, q_185_6, q_185_7, q_185_8, q_185_9, q_185_12, q_185_14, q_185_15_t, q_185_15_f, q_185_18, q_185_19, q_185_22, q_185_23, q_185_24, q_185_25, q_185_26, q_185_27_t, q_185_27_f, q_185_30, q_185_31, q_185_34, q_185_35, q_185_38, q_185_39, q_185_42, q_185_43, q_185_44, q_185_45, q_185_46, q_185_47, q_185_48, q_185_49, q_185_52, q_185_53, q_185_54, q_185_57, q_185_60, q_185_63, q_185_64, q_185_66_t, q_185_66_f, q_185_69, q_185_70, q_185_73, q_185_74, q_185_77, q_185_78, q_185_79, q_185_80, q_185_81, q_185_84, q_185_85, q_185_86, q_185_89, q_185_90, q_185_91, q_185_92, q_185_93, q_185_94, q_185_95, q_185_98_t, q_185_98_f, q_185_101, q_185_102, q_185_104, q_185_105, q_185_109, q_185_110, q_185_113_t, q_185_113_f, q_185_116, q_185_118_t, q_185_118_f, q_185_121, q_185_122, q_185_125, q_185_127, q_185_128, q_185_129, q_185_130, q_185_131, q_185_134, q_185_135, q_185_136_t, q_185_136_f, q_185_139, q_185_140, q_185_143, q_185_145, q_185_146, q_185_147, q_185_150, q_185_151, q_185_152_t, q_185_152_f, q_185_155, q_185_156, q_185_159, q_185_160, q_185_162, q_185_165, q_185_169_t, q_185_169_f, q_185_172, q_185_174_t, q_185_174_f, q_185_177, q_185_178, q_185_181, q_185_182, q_185_183, q_185_186, q_185_189, q_185_190, aft_i, aft_l, aft_v, Int.toNat_natCast, kd_sI, kd_sL, kd_sR, kd_cp, gI_sL, gI_sR, gL_sI, gL_sR, gR_sI, gR_sL, gL_cp, gR_cp, kd_aI, gL_aI, gR_aI, gI_aI, gI_aIn, sI_aI, gI_sIn, Int.reduceToNat, Int.reduceAdd, Int.reduceSub, Int.reduceMul, Int.reduceNeg, Int.zero_add, hn, r141_18, r141_23, r141_24, e1, e2]
        exact ih
theorem fndB_congr {r r2 : Nat → Int} {a b : Int} : ∀ {n : Nat}, (∀ i, i ≤ n → r i = r2 i) → fndB r a b n = fndB r2 a b n
  | 0, _ => rfl
  | n + 1, h => by unfold fndB; rw [fndB_congr (n := n) (fun i hi => h i (by omega)), h n (by omega), h (n + 1) (by omega)]
theorem mSo_fnd2 (d : Nat) (g : mH) (L : LAY g) (n k : Nat) (hn : gI g 141 19 = n) (n7 : n ≤ 7) (hk : k < 6) (x1 : Int) (x2 : Int) : ∃ a5 : Int, resA (callA d) 185 (107, [Sum.inr (Sum.inr (some 141)), Sum.inl x1, Sum.inl x2, Sum.inl (k : Int), Sum.inl 0, Sum.inl 1], [], g) = resA (callA d) 185 (168, [Sum.inr (Sum.inr (some 141)), Sum.inl x1, Sum.inl x2, Sum.inl (k : Int), Sum.inl (bI (fndB (gI g 152) (gI g 156 k) (gI g 157 k) (n - 1))), Sum.inl a5], [], g) := by
  cases n with
  | zero =>
    refine ⟨1, ?_⟩
    have hn : gI g 141 19 = 0 := hn
    obtain ⟨k141, j141⟩ := lay_k L (a := 141) (t := 8) (n := 26) rfl
    simp (disch := (first | omega | (simp only [kd_sI, kd_sL, kd_sR, kd_cp, kd_aI]; omega) | (unfold catV; exact rfl) | (unfold catS; exact Nat.le_of_ble_eq_true rfl) | assumption)) only [q_185_0, q_185_1, q_185_2, q_185_5, q_185_6, q_185_7, q_185_8, q_185_9, q_185_12, q_185_14, q_185_15_t, q_185_15_f, q_185_18, q_185_19, q_185_22, q_185_23, q_185_24, q_185_25, q_185_26, q_185_27_t, q_185_27_f, q_185_30, q_185_31, q_185_34, q_185_35, q_185_38, q_185_39, q_185_42, q_185_43, q_185_44, q_185_45, q_185_46, q_185_47, q_185_48, q_185_49, q_185_52, q_185_53, q_185_54, q_185_57, q_185_60, q_185_63, q_185_64, q_185_66_t, q_185_66_f, q_185_69, q_185_70, q_185_73, q_185_74, q_185_77, q_185_78, q_185_79, q_185_80, q_185_81, q_185_84, q_185_85, q_185_86, q_185_89, q_185_90, q_185_91, q_185_92, q_185_93, q_185_94, q_185_95, q_185_98_t, q_185_98_f, q_185_101, q_185_102, q_185_104, q_185_105, q_185_107, q_185_109, q_185_110, q_185_113_t, q_185_113_f, q_185_116, q_185_118_t, q_185_118_f, q_185_121, q_185_122, q_185_125, q_185_127, q_185_128, q_185_129, q_185_130, q_185_131, q_185_134, q_185_135, q_185_136_t, q_185_136_f, q_185_139, q_185_140, q_185_143, q_185_145, q_185_146, q_185_147, q_185_150, q_185_151, q_185_152_t, q_185_152_f, q_185_155, q_185_156, q_185_159, q_185_160, q_185_162, q_185_165, q_185_169_t, q_185_169_f, q_185_172, q_185_174_t, q_185_174_f, q_185_177, q_185_178, q_185_181, q_185_182, q_185_183, q_185_186, q_185_189, q_185_190, aft_i, aft_l, aft_v, Int.toNat_natCast, kd_sI, kd_sL, kd_sR, kd_cp, gI_sL, gI_sR, gL_sI, gL_sR, gR_sI, gR_sL, gL_cp, gR_cp, kd_aI, gL_aI, gR_aI, gI_aI, gI_aIn, sI_aI, gI_sIn, Int.reduceToNat, Int.reduceAdd, Int.reduceSub, Int.reduceMul, Int.reduceNeg, Int.zero_add, hn]
    rfl
  | succ n => exact ⟨_, mSo_fnd d g L (n + 1) k hn n7 hk x1 x2 n 0 (by omega)⟩
theorem mSo_all (d : Nat) (g : mH) (L : LAY g) (n : Nat) (hn : gI g 141 19 = n) (n7 : n ≤ 7) (S : List (Nat × Nat)) (h25 : gI g 141 25 = S.length) (S6 : S.length ≤ 6) (hS : ∀ k (q : k < S.length), gI g 156 k = S[k].1 ∧ gI g 157 k = S[k].2) (x1 : Int) : ∀ (D : List (Nat × Nat)) (k : Nat) (b : Bool) (a4 a5 : mV), S.drop k = D → k + D.length = S.length → resA (callA d) 185 (93, [Sum.inr (Sum.inr (some 141)), Sum.inl x1, Sum.inl (bI b), Sum.inl (k : Int), a4, a5], [], g) = some (some (Sum.inl (bI (b && D.all (fun e => fndB (gI g 152) e.1 e.2 (n - 1))))), g)
  | [], k, b, a4, a5, eD, hk => by
    have hk : k = S.length := hk
    obtain ⟨k141, j141⟩ := lay_k L (a := 141) (t := 8) (n := 26) rfl
    rw [List.all_nil, Bool.and_true]
    cases b <;> simp only [bI, Bool.false_eq_true, if_true, if_false] <;> simp (disch := (first | omega | (simp only [kd_sI, kd_sL, kd_sR, kd_cp, kd_aI]; omega) | (unfold catV; exact rfl) | (unfold catS; exact Nat.le_of_ble_eq_true rfl) | assumption)) only [q_185_0, q_185_1, q_185_2, q_185_5, q_185_6, q_185_7, q_185_8, q_185_9, q_185_12, q_185_14, q_185_15_t, q_185_15_f, q_185_18, q_185_19, q_185_22, q_185_23, q_185_24, q_185_25, q_185_26, q_185_27_t, q_185_27_f, q_185_30, q_185_31, q_185_34, q_185_35, q_185_38, q_185_39, q_185_42, q_185_43, q_185_44, q_185_45, q_185_46, q_185_47, q_185_48, q_185_49, q_185_52, q_185_53, q_185_54, q_185_57, q_185_60, q_185_63, q_185_64, q_185_66_t, q_185_66_f, q_185_69, q_185_70, q_185_73, q_185_74, q_185_77, q_185_78, q_185_79, q_185_80, q_185_81, q_185_84, q_185_85, q_185_86, q_185_89, q_185_90, q_185_91, q_185_92, q_185_93, q_185_94, q_185_95, q_185_98_t, q_185_98_f, q_185_101, q_185_102, q_185_104, q_185_105, q_185_107, q_185_109, q_185_110, q_185_113_t, q_185_113_f, q_185_116, q_185_118_t, q_185_118_f, q_185_121, q_185_122, q_185_125, q_185_127, q_185_128, q_185_129, q_185_130, q_185_131, q_185_134, q_185_135, q_185_136_t, q_185_136_f, q_185_139, q_185_140, q_185_143, q_185_145, q_185_146, q_185_147, q_185_150, q_185_151, q_185_152_t, q_185_152_f, q_185_155, q_185_156, q_185_159, q_185_160, q_185_162, q_185_165, q_185_168, q_185_169_t, q_185_169_f, q_185_172, q_185_174_t, q_185_174_f, q_185_177, q_185_178, q_185_181, q_185_182, q_185_183, q_185_186, q_185_189, q_185_190, aft_i, aft_l, aft_v, Int.toNat_natCast, kd_sI, kd_sL, kd_sR, kd_cp, gI_sL, gI_sR, gL_sI, gL_sR, gR_sI, gR_sL, gL_cp, gR_cp, kd_aI, gL_aI, gR_aI, gI_aI, gI_aIn, sI_aI, gI_sIn, Int.reduceToNat, Int.reduceAdd, Int.reduceSub, Int.reduceMul, Int.reduceNeg, Int.zero_add, h25]
  | e :: D, k, b, a4, a5, eD, hk => by
    rw [List.length_cons] at hk
    have hx : k < S.length := by omega
    have ec := List.drop_eq_getElem_cons hx
    rw [eD] at ec
    obtain ⟨ex, eD2⟩ := List.cons.inj ec
    obtain ⟨s1, s2⟩ := hS k hx
    rw [← ex] at s1 s2
    obtain ⟨v5, ef⟩ := mSo_fnd2 d g L n k hn n7 (by omega) x1 (bI b)
    rw [s1, s2] at ef
    have ih := mSo_all d g L n hn n7 S h25 S6 hS x1 D (k + 1) (b && fndB (gI g 152) e.1 e.2 (n - 1)) (Sum.inl (bI (fndB (gI g 152) e.1 e.2 (n - 1)))) (Sum.inl v5) eD2.symm (by omega)
    rw [List.all_cons, ← Bool.and_assoc]
    generalize fndB (gI g 152) e.1 e.2 (n - 1) = F at ef ih ⊢
    generalize (b && F && D.all (fun e => fndB (gI g 152) e.1 e.2 (n - 1))) = Z at ih ⊢
    obtain ⟨k141, j141⟩ := lay_k L (a := 141) (t := 8) (n := 26) rfl
    rw [q_185_93]
    cases b <;> cases F <;> simp only [bI, Bool.and_true, Bool.and_false, Bool.and_self, Bool.false_eq_true, if_true, if_false] at ef ih ⊢ <;> simp (disch := (first | omega | (simp only [kd_sI, kd_sL, kd_sR, kd_cp, kd_aI]; omega) | (unfold catV; exact rfl) | (unfold catS; exact Nat.le_of_ble_eq_true rfl) | assumption)) only [q_185_0, q_185_1, q_185_2, q_185_5, q_185_6, q_185_7, q_185_8, q_185_9, q_185_12, q_185_14, q_185_15_t, q_185_15_f, q_185_18, q_185_19, q_185_22, q_185_23, q_185_24, q_185_25, q_185_26, q_185_27_t, q_185_27_f, q_185_30, q_185_31, q_185_34, q_185_35, q_185_38, q_185_39, q_185_42, q_185_43, q_185_44, q_185_45, q_185_46, q_185_47, q_185_48, q_185_49, q_185_52, q_185_53, q_185_54, q_185_57, q_185_60, q_185_63, q_185_64, q_185_66_t, q_185_66_f, q_185_69, q_185_70, q_185_73, q_185_74, q_185_77, q_185_78, q_185_79, q_185_80, q_185_81, q_185_84, q_185_85, q_185_86, q_185_89, q_185_90, q_185_91, q_185_92, q_185_94, q_185_95, q_185_98_t, q_185_98_f, q_185_101, q_185_102, q_185_104, q_185_105, q_185_109, q_185_110, q_185_113_t, q_185_113_f, q_185_116, q_185_118_t, q_185_118_f, q_185_121, q_185_122, q_185_125, q_185_127, q_185_128, q_185_129, q_185_130, q_185_131, q_185_134, q_185_135, q_185_136_t, q_185_136_f, q_185_139, q_185_140, q_185_143, q_185_145, q_185_146, q_185_147, q_185_150, q_185_151, q_185_152_t, q_185_152_f, q_185_155, q_185_156, q_185_159, q_185_160, q_185_162, q_185_165, q_185_168, q_185_169_t, q_185_169_f, q_185_172, q_185_174_t, q_185_174_f, q_185_177, q_185_178, q_185_181, q_185_182, q_185_183, q_185_186, q_185_189, q_185_190, aft_i, aft_l, aft_v, Int.toNat_natCast, kd_sI, kd_sL, kd_sR, kd_cp, gI_sL, gI_sR, gL_sI, gL_sR, gR_sI, gR_sL, gL_cp, gR_cp, kd_aI, gL_aI, gR_aI, gI_aI, gI_aIn, sI_aI, gI_sIn, Int.reduceToNat, Int.reduceAdd, Int.reduceSub, Int.reduceMul, Int.reduceNeg, Int.zero_add, h25, ef] <;> exact ih
/-- who may have gone: all that was seen stands so, behind all the one that has gone -/
def wL (N : Nt) (gone : Int) : List Nat := flG gone (rowL N) ++ (if gone = -9 then [] else [gone.toNat])
def isSoB (S : List (Nat × Nat)) (l : List Nat) : Bool := S.all (fun e => fndB (fun i => (ofL l i : Int)) e.1 e.2 (l.length - 1))
theorem all_congr {S : List (Nat × Nat)} {f g : Nat × Nat → Bool} (h : ∀ e, e ∈ S → f e = g e) : S.all f = S.all g := by
  induction S with
  | nil => rfl
  | cons e S ih => rw [List.all_cons, List.all_cons, h e List.mem_cons_self, ih (fun x hx => h x (List.mem_cons_of_mem _ hx))]
theorem mSo_ok (d : Nat) (h : mH) (L0 : LAY h) (σ : Sg) (w : wfS σ) (m : MI h σ) (gone : Int) (hg : gone = -9 ∨ ∃ i, i < nM (zN σ) ∧ gone = nR (zN σ) i) : ∃ g, callA (d + 1) 185 [Sum.inr (Sum.inr (some 141)), Sum.inl gone] h = some (some (Sum.inl (bI (isSoB (zS σ) (wL (zN σ) gone)))), g) ∧ scr h g := by
  have u := slG_now.mpr m.2.1.1
  have c7 := w.1.1
  have wN := w.2.1.1
  have n7 : nM (zN σ) ≤ 7 := Nat.le_trans wN.1 c7
  have s0 : scr h (sI h 141 19 0) := scr_r
  obtain ⟨g2, a2, s2, h2, r2, e2⟩ := mSo_row d h L0 (zT σ) (zN σ) w.1 wN u gone (Sum.inr (Sum.inr none)) (Sum.inr (Sum.inr none)) (Sum.inr (Sum.inr none)) (rowL (zN σ)) [] 0 _ s0 rfl (Nat.le_refl _) (by rw [rowL_len, Nat.zero_add]) (by rw [gI_sIs]; rfl) (rwO_nil _ _)
  rw [List.nil_append] at h2 r2
  have e2 : resA (callA d) 185 (7, [Sum.inr (Sum.inr (some 141)), Sum.inl gone, Sum.inl 0, Sum.inr (Sum.inr none), Sum.inr (Sum.inr none), Sum.inr (Sum.inr none)], [], sI h 141 19 0) = resA (callA d) 185 (63, [Sum.inr (Sum.inr (some 141)), Sum.inl gone, Sum.inl a2, Sum.inr (Sum.inr none), Sum.inr (Sum.inr none), Sum.inr (Sum.inr none)], [], g2) := e2
  have L2 := scr_L s2 L0
  have fin : ∀ g, scr h g → gI g 141 19 = (wL (zN σ) gone).length → (wL (zN σ) gone).length ≤ 7 → rwO (gI g 152) 0 (wL (zN σ) gone) → resA (callA d) 185 (93, [Sum.inr (Sum.inr (some 141)), Sum.inl gone, Sum.inl 1, Sum.inl 0, Sum.inr (Sum.inr none), Sum.inr (Sum.inr none)], [], g) = some (some (Sum.inl (bI (isSoB (zS σ) (wL (zN σ) gone)))), g) := fun g sg hn h7 hr => by
    have mg := MI_scr w m sg
    have e := mSo_all d g (scr_L sg L0) _ hn h7 (zS σ) mg.2.2.2.2.1 w.2.2.2.1 mg.2.2.2.2.2.1 gone (zS σ) 0 true (Sum.inr (Sum.inr none)) (Sum.inr (Sum.inr none)) rfl (Nat.zero_add _)
    rw [Bool.true_and] at e
    have ec : isSoB (zS σ) (wL (zN σ) gone) = (zS σ).all (fun e => fndB (gI g 152) e.1 e.2 ((wL (zN σ) gone).length - 1)) := by
      unfold isSoB
      refine all_congr (fun e _ => ?_)
      by_cases z : (wL (zN σ) gone).length = 0
      · rw [z]; rfl
      · refine fndB_congr (fun i hi => ?_)
        have := hr i (by omega)
        rw [Nat.zero_add] at this
        rw [this, ofL_at (by omega)]
    rw [ec]
    exact e
  rcases hg with z | ⟨i, hi, z⟩
  · have eW : wL (zN σ) gone = flG gone (rowL (zN σ)) := by
      unfold wL
      rw [if_pos z, List.append_nil]
    have l7 : (flG gone (rowL (zN σ))).length ≤ 7 := by
      have := List.length_filter_le (fun x : Nat => decide ((x : Int) ≠ gone)) (rowL (zN σ))
      rw [rowL_len] at this
      exact Nat.le_trans this n7
    have f := fin g2 s2 (by rw [eW]; exact h2) (by rw [eW]; exact l7) (by rw [eW]; exact r2)
    refine ⟨g2, ?_, s2⟩
    rw [en_185]
    obtain ⟨k141, j141⟩ := lay_k L0 (a := 141) (t := 8) (n := 26) rfl
    simp (disch := (first | omega | (simp only [kd_sI, kd_sL, kd_sR, kd_cp, kd_aI]; omega) | (unfold catV; exact rfl) | (unfold catS; exact Nat.le_of_ble_eq_true rfl) | assumption)) only [q_185_0, q_185_1, q_185_2, q_185_5, q_185_6, q_185_8, q_185_9, q_185_12, q_185_14, q_185_15_t, q_185_15_f, q_185_18, q_185_19, q_185_22, q_185_23, q_185_24, q_185_25, q_185_26, q_185_27_t, q_185_27_f, q_185_30, q_185_31, q_185_34, q_185_35, q_185_38, q_185_39, q_185_42, q_185_43, q_185_44, q_185_45, q_185_46, q_185_47, q_185_48, q_185_49, q_185_52, q_185_53, q_185_54, q_185_57, q_185_60, q_185_63, q_185_64, q_185_66_t, q_185_66_f, q_185_69, q_185_70, q_185_73, q_185_74, q_185_77, q_185_78, q_185_79, q_185_80, q_185_81, q_185_84, q_185_85, q_185_86, q_185_89, q_185_90, q_185_91, q_185_92, q_185_94, q_185_95, q_185_98_t, q_185_98_f, q_185_101, q_185_102, q_185_104, q_185_105, q_185_107, q_185_109, q_185_110, q_185_113_t, q_185_113_f, q_185_116, q_185_118_t, q_185_118_f, q_185_121, q_185_122, q_185_125, q_185_127, q_185_128, q_185_129, q_185_130, q_185_131, q_185_134, q_185_135, q_185_136_t, q_185_136_f, q_185_139, q_185_140, q_185_143, q_185_145, q_185_146, q_185_147, q_185_150, q_185_151, q_185_152_t, q_185_152_f, q_185_155, q_185_156, q_185_159, q_185_160, q_185_162, q_185_165, q_185_168, q_185_169_t, q_185_169_f, q_185_172, q_185_174_t, q_185_174_f, q_185_177, q_185_178, q_185_181, q_185_182, q_185_183, q_185_186, q_185_189, q_185_190, aft_i, aft_l, aft_v, Int.toNat_natCast, kd_sI, kd_sL, kd_sR, kd_cp, gI_sL, gI_sR, gL_sI, gL_sR, gR_sI, gR_sL, gL_cp, gR_cp, kd_aI, gL_aI, gR_aI, gI_aI, gI_aIn, sI_aI, gI_sIn, Int.reduceToNat, Int.reduceAdd, Int.reduceSub, Int.reduceMul, Int.reduceNeg, Int.zero_add, e2, f]
  · have eW : wL (zN σ) gone = behL (rowL (zN σ)) (nR (zN σ) i) := by
      unfold wL behL flG
      rw [if_neg (by omega), z, Int.toNat_natCast]
      congr 1
      refine List.filter_congr (fun x _ => ?_)
      rw [decide_eq_decide]
      omega
    have l7 : (wL (zN σ) gone).length ≤ 7 := by
      rw [eW]
      have hc : nR (zN σ) i ∈ rowL (zN σ) := rowL_mem.mpr ⟨i, hi, rfl⟩
      exact Nat.le_trans (nd_len (beh_nd (rowL_nd wN)) (fun x hx => rowL_lt wN ((beh_mem hc).mp hx))) c7
    have eW2 : wL (zN σ) gone = flG gone (rowL (zN σ)) ++ [gone.toNat] := by
      unfold wL
      rw [if_neg (by omega)]
    have el : (wL (zN σ) gone).length = (flG gone (rowL (zN σ))).length + 1 := by rw [eW2, List.length_append, List.length_singleton]
    have sg3 : scr h (sI (sI g2 152 (flG gone (rowL (zN σ))).length gone) 141 19 (((flG gone (rowL (zN σ))).length : Int) + 1)) := by
      rw [sI_is g2 152]
      exact scr_tr s2 (scr_tr (scr_aI (by omega)) scr_r)
    have f := fin _ sg3 (by rw [gI_sIs, el]; rfl) l7 (by
      rw [gI_sIn (by omega), gI_sIu, eW2]
      refine rwO_app.mpr ⟨rwO_congr (fun i hi => upI_n (by omega)) r2, rwO_cons.mpr ⟨?_, rwO_nil _ _⟩⟩
      rw [Nat.zero_add, upI_s]
      omega)
    have g9 : gone ≠ -9 := by omega
    refine ⟨_, ?_, sg3⟩
    rw [en_185]
    obtain ⟨k141, j141⟩ := lay_k L0 (a := 141) (t := 8) (n := 26) rfl
    obtain ⟨m1, m2⟩ := lay_k L2 (a := 141) (t := 8) (n := 26) rfl
    obtain ⟨m3, m4⟩ := lay_k L2 (a := 152) (t := 100) (n := 7) rfl
    have r18 : gR g2 141 18 = some 152 := lay_r L2 rfl
    simp (disch := (first | omega | (simp only [kd_sI, kd_sL, kd_sR, kd_cp, kd_aI]; omega) | (unfold catV; exact rfl) | (unfold catS; exact Nat.le_of_ble_eq_true rfl) | assumption)) only [q_185_0, q_185_1, q_185_2, q_185_5, q_185_6, q_185_8, q_185_9, q_185_12, q_185_14, q_185_15_t, q_185_15_f, q_185_18, q_185_19, q_185_22, q_185_23, q_185_24, q_185_25, q_185_26, q_185_27_t, q_185_27_f, q_185_30, q_185_31, q_185_34, q_185_35, q_185_38, q_185_39, q_185_42, q_185_43, q_185_44, q_185_45, q_185_46, q_185_47, q_185_48, q_185_49, q_185_52, q_185_53, q_185_54, q_185_57, q_185_60, q_185_63, q_185_64, q_185_66_t, q_185_66_f, q_185_69, q_185_70, q_185_73, q_185_74, q_185_77, q_185_78, q_185_79, q_185_80, q_185_81, q_185_84, q_185_85, q_185_86, q_185_89, q_185_90, q_185_91, q_185_92, q_185_94, q_185_95, q_185_98_t, q_185_98_f, q_185_101, q_185_102, q_185_104, q_185_105, q_185_107, q_185_109, q_185_110, q_185_113_t, q_185_113_f, q_185_116, q_185_118_t, q_185_118_f, q_185_121, q_185_122, q_185_125, q_185_127, q_185_128, q_185_129, q_185_130, q_185_131, q_185_134, q_185_135, q_185_136_t, q_185_136_f, q_185_139, q_185_140, q_185_143, q_185_145, q_185_146, q_185_147, q_185_150, q_185_151, q_185_152_t, q_185_152_f, q_185_155, q_185_156, q_185_159, q_185_160, q_185_162, q_185_165, q_185_168, q_185_169_t, q_185_169_f, q_185_172, q_185_174_t, q_185_174_f, q_185_177, q_185_178, q_185_181, q_185_182, q_185_183, q_185_186, q_185_189, q_185_190, aft_i, aft_l, aft_v, Int.toNat_natCast, kd_sI, kd_sL, kd_sR, kd_cp, gI_sL, gI_sR, gL_sI, gL_sR, gR_sI, gR_sL, gL_cp, gR_cp, kd_aI, gL_aI, gR_aI, gI_aI, gI_aIn, sI_aI, gI_sIn, Int.reduceToNat, Int.reduceAdd, Int.reduceSub, Int.reduceMul, Int.reduceNeg, Int.zero_add, e2, f, h2, r18, gI_sIs]
def whF (S : List (Nat × Nat)) (N : Nt) : Nat → Nat
  | 0 => if isSoB S (wL N (-9)) = true then 128 else 0
  | i + 1 => whF S N i ||| if isSoB S (wL N (nR N i)) = true then 2 ^ nR N i else 0
theorem whF_b {T : Td} {S : List (Nat × Nat)} {N : Nt} (wT : wfT T) (w : wfN T N) : ∀ {i : Nat}, i ≤ nM N → whF S N i < 256
  | 0, _ => by unfold whF; split <;> omega
  | i + 1, h => by
    have a := whF_b (S := S) wT w (i := i) (by omega)
    have b := w.2.1 i (by omega)
    have c7 := wT.1
    show whF S N i ||| _ < 2 ^ 8
    refine Nat.or_lt_two_pow a ?_
    split
    · exact Nat.pow_lt_pow_right (by omega) (by omega)
    · exact Nat.pos_of_ne_zero (by decide)
theorem mWho_loop (d : Nat) (h : mH) (L0 : LAY h) (σ : Sg) (w : wfS σ) (m : MI h σ) : ∀ (k i : Nat) (g : mH), scr h g → i + k = nM (zN σ) → ∃ g2, scr h g2 ∧ resA (callA (d + 1)) 186 (19, [Sum.inr (Sum.inr (some 141)), Sum.inl (whF (zS σ) (zN σ) i : Int), Sum.inl (i : Int)], [], g) = some (some (Sum.inl (whF (zS σ) (zN σ) (nM (zN σ)) : Int)), g2)
  | 0, i, g, sg, hi => by
    have n7 : nM (zN σ) ≤ 7 := Nat.le_trans w.2.1.1.1 w.1.1
    have e : i = nM (zN σ) := by omega
    have u7 : gI g 150 7 = nM (zN σ) := (scr_mN sg (slG_now.mpr m.2.1.1)).1
    have Lg := scr_L sg L0
    subst e
    refine ⟨g, sg, ?_⟩
    obtain ⟨k141, j141⟩ := lay_k Lg (a := 141) (t := 8) (n := 26) rfl; obtain ⟨k150, j150⟩ := lay_k Lg (a := 150) (t := 100) (n := 1851) rfl; have r141_16 : gR g 141 16 = some 150 := lay_r Lg rfl
    simp (disch := (first | omega | (simp only [kd_sI, kd_sL, kd_sR, kd_cp, kd_aI]; omega) | (unfold catV; exact rfl) | (unfold catS; exact Nat.le_of_ble_eq_true rfl) | assumption)) only [q_186_0, q_186_1, q_186_3, q_186_6_t, q_186_6_f, q_186_9, q_186_12, q_186_15, q_186_16, q_186_17, q_186_18, q_186_19, q_186_20, q_186_21, q_186_24, q_186_26, q_186_27_t, q_186_27_f, q_186_30, q_186_31, q_186_32, q_186_33, q_186_36, q_186_37, q_186_38, q_186_39, q_186_40, q_186_43_t, q_186_43_f, q_186_46, q_186_47, q_186_48, q_186_51, q_186_52, q_186_53, q_186_54, q_186_55, q_186_56, q_186_59, q_186_60, q_186_61, q_186_62, q_186_65, q_186_68, q_186_69, aft_i, aft_l, aft_v, Int.toNat_natCast, kd_sI, kd_sL, kd_sR, kd_cp, gI_sL, gI_sR, gL_sI, gL_sR, gR_sI, gR_sL, gL_cp, gR_cp, kd_aI, gL_aI, gR_aI, gI_aI, gI_aIn, sI_aI, gI_sIn, Int.reduceToNat, Int.reduceAdd, Int.reduceSub, Int.reduceMul, Int.reduceNeg, Int.zero_add, r141_16, u7]
  | k + 1, i, g, sg, hi => by
    have n7 : nM (zN σ) ≤ 7 := Nat.le_trans w.2.1.1.1 w.1.1
    have c7 := w.1.1
    have u7 : gI g 150 7 = nM (zN σ) := (scr_mN sg (slG_now.mpr m.2.1.1)).1
    have ui : gI g 150 i = nR (zN σ) i := (scr_mN sg (slG_now.mpr m.2.1.1)).2.1 i (by omega)
    have r7 := w.2.1.1.2.1 i (by omega)
    have b1 := whF_b (S := zS σ) (i := i) w.1 w.2.1.1 (by omega)
    have Lg := scr_L sg L0
    obtain ⟨g3, e3, s3⟩ := mSo_ok d g Lg σ w (MI_scr w m sg) (nR (zN σ) i) (Or.inr ⟨i, by omega, rfl⟩)
    have sg3 := scr_tr sg s3
    have ui3 : gI g3 150 i = nR (zN σ) i := (scr_mN sg3 (slG_now.mpr m.2.1.1)).2.1 i (by omega)
    have L3 := scr_L sg3 L0
    obtain ⟨g2, s2, ih⟩ := mWho_loop d h L0 σ w m k (i + 1) g3 sg3 (by omega)
    refine ⟨g2, s2, ?_⟩
    have eF : whF (zS σ) (zN σ) (i + 1) = whF (zS σ) (zN σ) i ||| if isSoB (zS σ) (wL (zN σ) (nR (zN σ) i)) = true then 2 ^ nR (zN σ) i else 0 := rfl
    rw [eF] at ih
    have sh := shl1 (j := nR (zN σ) i) (by omega)
    have p7 : 2 ^ nR (zN σ) i < 2 ^ 31 := Nat.pow_lt_pow_right (by omega) (by omega)
    have o1 := orI_n (a := whF (zS σ) (zN σ) i) (b := 2 ^ nR (zN σ) i) (by omega) p7
    have o2 := orI_n (a := whF (zS σ) (zN σ) i) (b := 0) (by omega) (by omega)
    have o2 : orI (whF (zS σ) (zN σ) i) 0 = ((whF (zS σ) (zN σ) i ||| 0 : Nat) : Int) := o2
    obtain ⟨k141, j141⟩ := lay_k Lg (a := 141) (t := 8) (n := 26) rfl; obtain ⟨k150, j150⟩ := lay_k Lg (a := 150) (t := 100) (n := 1851) rfl; have r141_16 : gR g 141 16 = some 150 := lay_r Lg rfl
    obtain ⟨m1, m2⟩ := lay_k L3 (a := 141) (t := 8) (n := 26) rfl
    obtain ⟨m3, m4⟩ := lay_k L3 (a := 150) (t := 100) (n := 1851) rfl
    have r16 : gR g3 141 16 = some 150 := lay_r L3 rfl
    rw [q_186_19]
    cases z : isSoB (zS σ) (wL (zN σ) (nR (zN σ) i)) with
    | true =>
      rw [z] at e3 ih
      rw [if_pos rfl] at ih
      have e3 : callA (d + 1) 185 [Sum.inr (Sum.inr (some 141)), Sum.inl (nR (zN σ) i : Int)] g = some (some (Sum.inl 1), g3) := e3
      simp (disch := (first | omega | (simp only [kd_sI, kd_sL, kd_sR, kd_cp, kd_aI]; omega) | (unfold catV; exact rfl) | (unfold catS; exact Nat.le_of_ble_eq_true rfl) | assumption)) only [q_186_0, q_186_1, q_186_3, q_186_6_t, q_186_6_f, q_186_9, q_186_12, q_186_15, q_186_16, q_186_17, q_186_18, q_186_20, q_186_21, q_186_24, q_186_26, q_186_27_t, q_186_27_f, q_186_30, q_186_31, q_186_32, q_186_33, q_186_36, q_186_37, q_186_38, q_186_39, q_186_40, q_186_43_t, q_186_43_f, q_186_46, q_186_47, q_186_48, q_186_51, q_186_52, q_186_53, q_186_54, q_186_55, q_186_56, q_186_59, q_186_60, q_186_61, q_186_62, q_186_65, q_186_68, q_186_69, aft_i, aft_l, aft_v, Int.toNat_natCast, kd_sI, kd_sL, kd_sR, kd_cp, gI_sL, gI_sR, gL_sI, gL_sR, gR_sI, gR_sL, gL_cp, gR_cp, kd_aI, gL_aI, gR_aI, gI_aI, gI_aIn, sI_aI, gI_sIn, Int.reduceToNat, Int.reduceAdd, Int.reduceSub, Int.reduceMul, Int.reduceNeg, Int.zero_add, r141_16, r16, u7, ui, ui3, e3, sh, o1]
      exact ih
    | false =>
      rw [z] at e3 ih
      rw [if_neg Bool.false_ne_true] at ih
      have e3 : callA (d + 1) 185 [Sum.inr (Sum.inr (some 141)), Sum.inl (nR (zN σ) i : Int)] g = some (some (Sum.inl 0), g3) := e3
      simp (disch := (first | omega | (simp only [kd_sI, kd_sL, kd_sR, kd_cp, kd_aI]; omega) | (unfold catV; exact rfl) | (unfold catS; exact Nat.le_of_ble_eq_true rfl) | assumption)) only [q_186_0, q_186_1, q_186_3, q_186_6_t, q_186_6_f, q_186_9, q_186_12, q_186_15, q_186_16, q_186_17, q_186_18, q_186_20, q_186_21, q_186_24, q_186_26, q_186_27_t, q_186_27_f, q_186_30, q_186_31, q_186_32, q_186_33, q_186_36, q_186_37, q_186_38, q_186_39, q_186_40, q_186_43_t, q_186_43_f, q_186_46, q_186_47, q_186_48, q_186_51, q_186_52, q_186_53, q_186_54, q_186_55, q_186_56, q_186_59, q_186_60, q_186_61, q_186_62, q_186_65, q_186_68, q_186_69, aft_i, aft_l, aft_v, Int.toNat_natCast, kd_sI, kd_sL, kd_sR, kd_cp, gI_sL, gI_sR, gL_sI, gL_sR, gR_sI, gR_sL, gL_cp, gR_cp, kd_aI, gL_aI, gR_aI, gI_aI, gI_aIn, sI_aI, gI_sIn, Int.reduceToNat, Int.reduceAdd, Int.reduceSub, Int.reduceMul, Int.reduceNeg, Int.zero_add, r141_16, r16, u7, ui, ui3, e3, o2]
      exact ih
theorem mWho_ok (d : Nat) (h : mH) (L0 : LAY h) (σ : Sg) (w : wfS σ) (m : MI h σ) : mOK (d + 2) 186 [] h (Sum.inl (whF (zS σ) (zN σ) (nM (zN σ)) : Int)) σ := by
  obtain ⟨g, e, s⟩ := mSo_ok d h L0 σ w m (-9) (Or.inl rfl)
  obtain ⟨g2, s2, el⟩ := mWho_loop d h L0 σ w m (nM (zN σ)) 0 g s (Nat.zero_add _)
  refine mOK_q L0 w m ⟨g2, ?_, s2⟩
  have e0 : whF (zS σ) (zN σ) 0 = if isSoB (zS σ) (wL (zN σ) (-9)) = true then 128 else 0 := rfl
  rw [e0, show ((0 : Nat) : Int) = 0 from rfl] at el
  obtain ⟨k141, j141⟩ := lay_k L0 (a := 141) (t := 8) (n := 26) rfl
  rw [en_186]
  cases z : isSoB (zS σ) (wL (zN σ) (-9)) with
  | true =>
    rw [z] at e el
    rw [if_pos rfl] at el
    have e : callA (d + 1) 185 [Sum.inr (Sum.inr (some 141)), Sum.inl (-9)] h = some (some (Sum.inl 1), g) := e
    simp (disch := (first | omega | (simp only [kd_sI, kd_sL, kd_sR, kd_cp, kd_aI]; omega) | (unfold catV; exact rfl) | (unfold catS; exact Nat.le_of_ble_eq_true rfl) | assumption)) only [q_186_0, q_186_1, q_186_3, q_186_6_t, q_186_6_f, q_186_9, q_186_12, q_186_15, q_186_16, q_186_17, q_186_18, q_186_20, q_186_21, q_186_24, q_186_26, q_186_27_t, q_186_27_f, q_186_30, q_186_31, q_186_32, q_186_33, q_186_36, q_186_37, q_186_38, q_186_39, q_186_40, q_186_43_t, q_186_43_f, q_186_46, q_186_47, q_186_48, q_186_51, q_186_52, q_186_53, q_186_54, q_186_55, q_186_56, q_186_59, q_186_60, q_186_61, q_186_62, q_186_65, q_186_68, q_186_69, aft_i, aft_l, aft_v, Int.toNat_natCast, kd_sI, kd_sL, kd_sR, kd_cp, gI_sL, gI_sR, gL_sI, gL_sR, gR_sI, gR_sL, gL_cp, gR_cp, kd_aI, gL_aI, gR_aI, gI_aI, gI_aIn, sI_aI, gI_sIn, Int.reduceToNat, Int.reduceAdd, Int.reduceSub, Int.reduceMul, Int.reduceNeg, Int.zero_add, e]
    exact el
  | false =>
    rw [z] at e el
    rw [if_neg Bool.false_ne_true] at el
    have e : callA (d + 1) 185 [Sum.inr (Sum.inr (some 141)), Sum.inl (-9)] h = some (some (Sum.inl 0), g) := e
    simp (disch := (first | omega | (simp only [kd_sI, kd_sL, kd_sR, kd_cp, kd_aI]; omega) | (unfold catV; exact rfl) | (unfold catS; exact Nat.le_of_ble_eq_true rfl) | assumption)) only [q_186_0, q_186_1, q_186_3, q_186_6_t, q_186_6_f, q_186_9, q_186_12, q_186_15, q_186_16, q_186_17, q_186_18, q_186_20, q_186_21, q_186_24, q_186_26, q_186_27_t, q_186_27_f, q_186_30, q_186_31, q_186_32, q_186_33, q_186_36, q_186_37, q_186_38, q_186_39, q_186_40, q_186_43_t, q_186_43_f, q_186_46, q_186_47, q_186_48, q_186_51, q_186_52, q_186_53, q_186_54, q_186_55, q_186_56, q_186_59, q_186_60, q_186_61, q_186_62, q_186_65, q_186_68, q_186_69, aft_i, aft_l, aft_v, Int.toNat_natCast, kd_sI, kd_sL, kd_sR, kd_cp, gI_sL, gI_sR, gL_sI, gL_sR, gR_sI, gR_sL, gL_cp, gR_cp, kd_aI, gL_aI, gR_aI, gI_aI, gI_aIn, sI_aI, gI_sIn, Int.reduceToNat, Int.reduceAdd, Int.reduceSub, Int.reduceMul, Int.reduceNeg, Int.zero_add, e]
    exact el
