theorem mayB_k {D : Dr} {k : Nat} (h : mayB D k = true) : (k = 99 ∧ tN (dT D) < 7) ∨ k = 113 ∨ k = 100 ∨ k = 109 ∨ (k = 103 ∧ dF D &&& 4 = 0) := by
  unfold mayB at h
  by_cases z1 : k = 99
  · rw [if_pos z1] at h
    exact Or.inl ⟨z1, of_decide_eq_true h⟩
  rw [if_neg z1] at h
  by_cases z2 : k = 113
  · exact Or.inr (Or.inl z2)
  rw [if_neg z2] at h
  by_cases z3 : k = 100
  · exact Or.inr (Or.inr (Or.inl z3))
  rw [if_neg z3] at h
  by_cases z4 : k = 109
  · exact Or.inr (Or.inr (Or.inr (Or.inl z4)))
  rw [if_neg z4] at h
  by_cases z5 : k = 103
  · rw [if_pos z5] at h
    exact Or.inr (Or.inr (Or.inr (Or.inr ⟨z5, of_decide_eq_true h⟩)))
  rw [if_neg z5] at h
  cases h
theorem mRowI_ok (d : Nat) (X : List Int) (p : Nat) (D : Dr) (h : mH) (L : LAY h) (gs : GS h X p D) (wf : wfD D) (k : Nat) (hm : mayB D k = true) (x : Int) (hx : x = k) : ∃ g, RS h g X (itm X k p D) ∧ callA (d + 5) 133 [Sum.inr (Sum.inr (some 141)), Sum.inl x] h = some (none, g) := by
  rcases mayB_k hm with ⟨e, n7⟩ | e | e | e | ⟨e, f4⟩
  · subst e
    have hx : x = 99 := hx
    subst hx
    exact mRowC_ok d X p D h L gs n7
  · subst e
    have hx : x = 113 := hx
    subst hx
    exact mRowQ_ok d X p D h L gs wf
  · subst e
    have hx : x = 100 := hx
    subst hx
    exact mRowD_ok d X p D h L gs wf
  · subst e
    have hx : x = 109 := hx
    subst hx
    exact mRowM_ok d X p D h L gs wf
  · subst e
    have hx : x = 103 := hx
    subst hx
    obtain ⟨g, r, e⟩ := mGnd_ok d X p D h L gs (wf.2.2.2.2.1 f4) wf.2.2.1
    refine ⟨g, r, ?_⟩
    obtain ⟨k141, j141⟩ := lay_k L (a := 141) (t := 8) (n := 26) rfl
    rw [en_133]
    simp (disch := (first | omega | (simp only [kd_sI, kd_sL, kd_sR, kd_cp, kd_aI]; omega) | (unfold catV; exact rfl) | (unfold catS; exact Nat.le_of_ble_eq_true rfl) | assumption)) only [q_133_0, q_133_1_99, q_133_1_100, q_133_1_109, q_133_1_113, q_133_1_d, q_133_44, q_133_45, q_133_48, q_133_49, q_133_52, q_133_53, q_133_54, q_133_55, q_133_56, q_133_58, q_133_61, q_133_62, q_133_63, q_133_66, q_133_68, q_133_69, q_133_72, q_133_73, q_133_74, q_133_75, q_133_76, q_133_77, q_133_79, q_133_82, q_133_83, q_133_84, q_133_87, q_133_88, q_133_89, q_133_90, q_133_91, q_133_92, q_133_93, q_133_96, q_133_97, q_133_98, q_133_99, q_133_102, q_133_103, q_133_104, q_133_105, q_133_106, q_133_109, q_133_110, q_133_111, q_133_112, q_133_115, q_133_116_t, q_133_116_f, q_133_119, q_133_120, q_133_123, q_133_124, q_133_127, q_133_128, q_133_129_t, q_133_129_f, q_133_132, q_133_133, q_133_136, q_133_137_t, q_133_137_f, q_133_140, q_133_141, q_133_144, q_133_145, q_133_148, q_133_149, q_133_150, q_133_153, q_133_155_t, q_133_155_f, q_133_158, q_133_159, q_133_162, q_133_164, q_133_165, q_133_166, q_133_167, q_133_168, q_133_169, q_133_170, q_133_171, q_133_172, q_133_173, q_133_174, q_133_177, q_133_179, q_133_180, q_133_181, q_133_182, q_133_183, q_133_184, q_133_185, q_133_186, q_133_187, q_133_188, q_133_191, q_133_192, q_133_195, q_133_196, q_133_197, q_133_198, q_133_200, q_133_203, q_133_204, q_133_205, q_133_206, q_133_209, q_133_210, q_133_211, q_133_214, q_133_217, q_133_218, q_133_221, q_133_222, q_133_223, q_133_224, q_133_226, q_133_229, q_133_230, q_133_231, q_133_232, q_133_235, q_133_236, q_133_237, q_133_240, q_133_243, q_133_244, q_133_247, aft_i, aft_l, aft_v, Int.toNat_natCast, kd_sI, kd_sL, kd_sR, kd_cp, gI_sL, gI_sR, gL_sI, gL_sR, gR_sI, gR_sL, gL_cp, gR_cp, kd_aI, gL_aI, gR_aI, gI_aI, gI_aIn, sI_aI, gI_sIn, Int.reduceToNat, Int.reduceAdd, Int.reduceSub, Int.reduceMul, Int.reduceNeg, Int.zero_add, e]
theorem mPlain_loop (d : Nat) (h : mH) (L : LAY h) : ∀ (k i : Nat), i + k = 7 → resA (callA d) 134 (36, [Sum.inr (Sum.inr (some 141)), Sum.inl (i : Int)], [], aI h 146 (fun j => if 7 ≤ j ∧ j < 7 + i then 0 else gI h 146 j)) = some (none, aI h 146 (fun j => if 7 ≤ j ∧ j < 14 then 0 else gI h 146 j))
  | 0, i, hi => by
    have e : i = 7 := hi
    subst e
    simp (disch := (first | omega | (simp only [kd_sI, kd_sL, kd_sR, kd_cp, kd_aI]; omega) | (unfold catV; exact rfl) | (unfold catS; exact Nat.le_of_ble_eq_true rfl) | assumption)) only [q_134_0, q_134_1, q_134_4, q_134_5, q_134_6, q_134_7, q_134_8, q_134_11, q_134_12, q_134_13, q_134_14, q_134_15, q_134_18, q_134_19, q_134_20, q_134_21, q_134_22, q_134_25, q_134_26, q_134_28, q_134_29, q_134_30, q_134_31, q_134_34, q_134_35, q_134_36, q_134_37, q_134_39_t, q_134_39_f, q_134_42, q_134_43, q_134_46, q_134_48, q_134_49, q_134_50, q_134_51, q_134_52, q_134_55, q_134_58, aft_i, aft_l, aft_v, Int.toNat_natCast, kd_sI, kd_sL, kd_sR, kd_cp, gI_sL, gI_sR, gL_sI, gL_sR, gR_sI, gR_sL, gL_cp, gR_cp, kd_aI, gL_aI, gR_aI, gI_aI, gI_aIn, sI_aI, gI_sIn, Int.reduceToNat, Int.reduceAdd, Int.reduceSub, Int.reduceMul, Int.reduceNeg, Int.zero_add]
  | k + 1, i, hi => by
    have ih := mPlain_loop d h L k (i + 1) (by omega)
    have ix : (7 + (i : Int)).toNat = 7 + i := by omega
    obtain ⟨k141, j141⟩ := lay_k L (a := 141) (t := 8) (n := 26) rfl; obtain ⟨k146, j146⟩ := lay_k L (a := 146) (t := 100) (n := 14) rfl; have r141_6 : gR h 141 6 = some 146 := lay_r L rfl
    rw [q_134_36]
    simp (disch := (first | omega | (simp only [kd_sI, kd_sL, kd_sR, kd_cp, kd_aI]; omega) | (unfold catV; exact rfl) | (unfold catS; exact Nat.le_of_ble_eq_true rfl) | assumption)) only [q_134_0, q_134_1, q_134_4, q_134_5, q_134_6, q_134_7, q_134_8, q_134_11, q_134_12, q_134_13, q_134_14, q_134_15, q_134_18, q_134_19, q_134_20, q_134_21, q_134_22, q_134_25, q_134_26, q_134_28, q_134_29, q_134_30, q_134_31, q_134_34, q_134_35, q_134_37, q_134_39_t, q_134_39_f, q_134_42, q_134_43, q_134_46, q_134_48, q_134_49, q_134_50, q_134_51, q_134_52, q_134_55, q_134_58, aft_i, aft_l, aft_v, Int.toNat_natCast, kd_sI, kd_sL, kd_sR, kd_cp, gI_sL, gI_sR, gL_sI, gL_sR, gR_sI, gR_sL, gL_cp, gR_cp, kd_aI, gL_aI, gR_aI, gI_aI, gI_aIn, sI_aI, gI_sIn, Int.reduceToNat, Int.reduceAdd, Int.reduceSub, Int.reduceMul, Int.reduceNeg, Int.zero_add, r141_6, ix]
    have e : upI (fun j => if 7 ≤ j ∧ j < 7 + i then (0 : Int) else gI h 146 j) (7 + i) 0 = fun j => if 7 ≤ j ∧ j < 7 + (i + 1) then (0 : Int) else gI h 146 j := by
      funext j
      unfold upI
      by_cases z : j = 7 + i
      · rw [if_pos z, if_pos (by omega)]
      · rw [if_neg z]
        dsimp only
        by_cases y : 7 ≤ j ∧ j < 7 + i
        · rw [if_pos y, if_pos (by omega)]
        · rw [if_neg y, if_neg (by omega)]
    rw [e]
    exact ih
theorem mPlain_ok (d : Nat) (h : mH) (L : LAY h) : ∃ g, callA (d + 1) 134 [Sum.inr (Sum.inr (some 141))] h = some (none, g) ∧ prF h g ∧ dMI g dNew ∧ (∀ k, k ≠ 10 → gI g 141 k = gI h 141 k) := by
  have L0 := L
  have q1 : prF h (sI (sI (sI (sI (sI h 143 1 0) 147 1 0) 149 2 4) 149 3 9) 141 10 0) := prF_tr (prF_s (by unfold drf; omega)) (prF_tr (prF_s (by unfold drf; omega)) (prF_tr (prF_s (by unfold drf; omega)) (prF_tr (prF_s (by unfold drf; omega)) (prF_s (by unfold drf; omega)))))
  have L1 := prF_L q1 L
  have el := mPlain_loop d _ L1 7 0 (by omega)
  have e0 : (fun j => if 7 ≤ j ∧ j < 7 + 0 then (0 : Int) else gI (sI (sI (sI (sI (sI h 143 1 0) 147 1 0) 149 2 4) 149 3 9) 141 10 0) 146 j) = gI (sI (sI (sI (sI (sI h 143 1 0) 147 1 0) 149 2 4) 149 3 9) 141 10 0) 146 := by
    funext j
    rw [if_neg (by omega)]
  rw [e0, aI_id, show ((0 : Nat) : Int) = 0 from rfl] at el
  refine ⟨_, ?_, prF_tr q1 (k := aI (sI (sI (sI (sI (sI h 143 1 0) 147 1 0) 149 2 4) 149 3 9) 141 10 0) 146 (fun j => if 7 ≤ j ∧ j < 14 then 0 else gI (sI (sI (sI (sI (sI h 143 1 0) 147 1 0) 149 2 4) 149 3 9) 141 10 0) 146 j)) ⟨rfl, fun q k v => ?_, rfl, rfl⟩, ⟨?_, ?_, ?_, ?_, fun c hc => ?_, fun c hc => ?_, fun j hj => ?_, ?_⟩, fun k hk => ?_⟩
  · obtain ⟨k141, j141⟩ := lay_k L0 (a := 141) (t := 8) (n := 26) rfl; obtain ⟨k143, j143⟩ := lay_k L0 (a := 143) (t := 100) (n := 2) rfl; obtain ⟨k147, j147⟩ := lay_k L0 (a := 147) (t := 100) (n := 2) rfl; obtain ⟨k149, j149⟩ := lay_k L0 (a := 149) (t := 100) (n := 4) rfl; have r141_3 : gR h 141 3 = some 143 := lay_r L0 rfl; have r141_7 : gR h 141 7 = some 147 := lay_r L0 rfl; have r141_9 : gR h 141 9 = some 149 := lay_r L0 rfl
    rw [en_134]
    simp (disch := (first | omega | (simp only [kd_sI, kd_sL, kd_sR, kd_cp, kd_aI]; omega) | (unfold catV; exact rfl) | (unfold catS; exact Nat.le_of_ble_eq_true rfl) | assumption)) only [q_134_0, q_134_1, q_134_4, q_134_5, q_134_6, q_134_7, q_134_8, q_134_11, q_134_12, q_134_13, q_134_14, q_134_15, q_134_18, q_134_19, q_134_20, q_134_21, q_134_22, q_134_25, q_134_26, q_134_28, q_134_29, q_134_30, q_134_31, q_134_34, q_134_35, q_134_37, q_134_39_t, q_134_39_f, q_134_42, q_134_43, q_134_46, q_134_48, q_134_49, q_134_50, q_134_51, q_134_52, q_134_55, q_134_58, aft_i, aft_l, aft_v, Int.toNat_natCast, kd_sI, kd_sL, kd_sR, kd_cp, gI_sL, gI_sR, gL_sI, gL_sR, gR_sI, gR_sL, gL_cp, gR_cp, kd_aI, gL_aI, gR_aI, gI_aI, gI_aIn, sI_aI, gI_sIn, Int.reduceToNat, Int.reduceAdd, Int.reduceSub, Int.reduceMul, Int.reduceNeg, Int.zero_add, r141_3, r141_7, r141_9]
    exact el
  · by_cases z : q = 146
    · subst z
      rw [gI_aI]
      unfold drf at v
      rw [if_neg (by omega)]
    · rw [gI_aIn z]
  · rw [gI_aIn (by omega), gI_sIn (by omega), gI_sIn (by omega), gI_sIn (by omega), gI_sIn (by omega), gI_sIs]; rfl
  · rw [gI_aIn (by omega), gI_sIn (by omega), gI_sIn (by omega), gI_sIn (by omega), gI_sIs]; rfl
  · rw [gI_aIn (by omega), gI_sIn (by omega), gI_sIo (by omega), gI_sIs]; rfl
  · rw [gI_aIn (by omega), gI_sIn (by omega), gI_sIs]; rfl
  · have hc : c < 0 := hc; omega
  · rw [gI_aI, if_pos (by omega)]; rfl
  · have hj : j < 0 := hj; omega
  · rw [gI_aIn (by omega), gI_sIs]; rfl
  · rw [gI_aIn (by omega), gI_sIo hk, gI_sIn (by omega), gI_sIn (by omega), gI_sIn (by omega), gI_sIn (by omega)]
/-- the rivers of the ground that a text told -/
def rvN (T : Td) : Nat → Nat
  | 0 => 0
  | k + 1 => rvN T k ||| if tG T k = 2 then 2 ^ k else 0
theorem rvN_bit (T : Td) : ∀ (m k : Nat), (rvN T m).testBit k = decide (k < m ∧ tG T k = 2)
  | 0, k => by
    rw [decide_eq_false (by omega)]
    exact Nat.zero_testBit k
  | m + 1, k => by
    show (rvN T m ||| if tG T m = 2 then 2 ^ m else 0).testBit k = _
    rw [Nat.testBit_or, rvN_bit T m k]
    by_cases z : tG T m = 2
    · rw [if_pos z, Nat.testBit_two_pow, ← Bool.decide_or, decide_eq_decide]
      constructor
      · rintro (h | h)
        · exact ⟨by omega, h.2⟩
        · subst h; exact ⟨by omega, z⟩
      · rintro ⟨h1, h2⟩
        by_cases y : k = m
        · exact Or.inr y.symm
        · exact Or.inl ⟨by omega, h2⟩
    · rw [if_neg z, Nat.zero_testBit, Bool.or_false, decide_eq_decide]
      constructor
      · rintro ⟨h1, h2⟩; exact ⟨by omega, h2⟩
      · rintro ⟨h1, h2⟩
        refine ⟨?_, h2⟩
        by_cases y : k = m
        · subst y; exact absurd h2 z
        · omega
theorem rvN_lt (T : Td) : ∀ m : Nat, rvN T m < 2 ^ m
  | 0 => Nat.one_pos
  | m + 1 => by
    show (rvN T m ||| if tG T m = 2 then 2 ^ m else 0) < 2 ^ (m + 1)
    have a := rvN_lt T m
    have b : (2 : Nat) ^ m < 2 ^ (m + 1) := Nat.pow_lt_pow_right (by omega) (by omega)
    refine Nat.or_lt_two_pow (by omega) ?_
    split <;> omega
/-- the night as told -/
def nwN (D : Dr) : Nt := (tN (dT D), fun i => i, dX D, 0, rvN (dT D) (tK (dT D)))
theorem nwN_wf {D : Dr} (w : wfD D) : wfN (dT D) (nwN D) := by
  refine ⟨Nat.le_refl _, fun i hi => hi, fun i j _ _ e => e, w.2.1, by show 0 < 128; omega, fun c hc => ?_, ?_⟩
  · have hc : (0 : Nat).testBit c = true := hc
    rw [Nat.zero_testBit] at hc
    cases hc
  · have a := rvN_lt (dT D) (tK (dT D))
    have b : 2 ^ tK (dT D) ≤ 2 ^ 40 := Nat.pow_le_pow_right (by omega) w.1.2.1
    show rvN (dT D) (tK (dT D)) < 2 ^ 40
    omega
theorem nwN_lnd {D : Dr} (w : wfD D) {k : Nat} (hk : k < tK (dT D)) : lnd (dT D) (nwN D) k = tG (dT D) k := by
  have b := w.1.2.2.2.2.2.2.2 k hk
  have e : (nV (nwN D)).testBit k = decide (k < tK (dT D) ∧ tG (dT D) k = 2) := rvN_bit _ _ _
  unfold lnd
  rw [e]
  by_cases z : tG (dT D) k = 2
  · rw [decide_eq_true ⟨hk, z⟩, if_pos rfl, z]; rfl
  · rw [decide_eq_false (fun y => z y.2), if_neg Bool.false_ne_true]
    by_cases y : tG (dT D) k = 1
    · rw [if_pos y, y]; rfl
    · rw [if_neg y]; omega
