def inRow (l : Int) (f w : Int) : Prop := f ≤ l ∧ l ≤ f + w - 1
/-- who takes a cell: after the first i of the row -/
def tkF (F : Nat → Int) (ax : Nat → Nat) (late : Nat) (rw_ : Nat → Nat) (k : Int) : Nat → Int
  | 0 => -9
  | i + 1 => if F (rw_ i) ≠ -9 ∧ late.testBit (rw_ i) = false ∧ F (rw_ i) ≤ k ∧ k ≤ F (rw_ i) + ax (rw_ i) - 1 then rw_ i else tkF F ax late rw_ k i
theorem tkF_congr {F G : Nat → Int} {ax rw_ : Nat → Nat} {late : Nat} {k : Int} : ∀ {n : Nat}, (∀ i, i < n → F (rw_ i) = G (rw_ i)) → tkF F ax late rw_ k n = tkF G ax late rw_ k n
  | 0, _ => rfl
  | n + 1, h => by unfold tkF; rw [tkF_congr (n := n) (fun i hi => h i (by omega)), h n (by omega)]
theorem tkF_b {F : Nat → Int} {ax rw_ : Nat → Nat} {late : Nat} {k : Int} : ∀ {n : Nat}, (∀ i, i < n → rw_ i < 7) → -9 ≤ tkF F ax late rw_ k n ∧ tkF F ax late rw_ k n < 7
  | 0, _ => by unfold tkF; omega
  | n + 1, h => by
    have a := tkF_b (F := F) (ax := ax) (rw_ := rw_) (late := late) (k := k) (n := n) (fun i hi => h i (by omega))
    have b := h n (by omega)
    unfold tkF
    split <;> omega
theorem mTk_loop (d : Nat) (g : mH) (L : LAY g) (n late : Nat) (rw_ ax : Nat → Nat) (p : Int) (R : rowF g n rw_) (X : axF g n rw_ ax) (hF : ∀ i, i < n → -9 ≤ gI g 154 (rw_ i) ∧ gI g 154 (rw_ i) ≤ 100) (hl : gI g 150 8 = late) (hl2 : late < 128) : ∀ (k i : Nat), i + k = n → ∀ (a4 : mV), resA (callA (d + 1)) 157 (19, [Sum.inr (Sum.inr (some 141)), Sum.inl p, Sum.inl (tkF (gI g 154) ax late rw_ p i), Sum.inl (i : Int), a4], [], g) = some (some (Sum.inl (tkF (gI g 154) ax late rw_ p n)), g)
  | 0, i, hi, a4 => by
    obtain ⟨hn, h7, hr⟩ := R
    have e : i = n := by omega
    subst e
    obtain ⟨k141, j141⟩ := lay_k L (a := 141) (t := 8) (n := 26) rfl
    simp (disch := (first | omega | (simp only [kd_sI, kd_sL, kd_sR, kd_cp, kd_aI]; omega) | (unfold catV; exact rfl) | (unfold catS; exact Nat.le_of_ble_eq_true rfl) | assumption)) only [q_157_0, q_157_1, q_157_2, q_157_5_t, q_157_5_f, q_157_8, q_157_9, q_157_10, q_157_11, q_157_14, q_157_16, q_157_17, q_157_18, q_157_19, q_157_20, q_157_21, q_157_24_t, q_157_24_f, q_157_27, q_157_28, q_157_31, q_157_32, q_157_33, q_157_35, q_157_36, q_157_39, q_157_41, q_157_42, q_157_44_t, q_157_44_f, q_157_47, q_157_48, q_157_50, q_157_53_t, q_157_53_f, q_157_56, q_157_57, q_157_58, q_157_61, q_157_63, q_157_64, q_157_65, q_157_68, q_157_70, q_157_71, q_157_72, q_157_75, q_157_77, q_157_79, q_157_80, q_157_81, q_157_82, q_157_83, q_157_84, q_157_87_t, q_157_87_f, q_157_90, q_157_92, q_157_95, q_157_96, q_157_97, q_157_100, q_157_103, q_157_104, aft_i, aft_l, aft_v, Int.toNat_natCast, kd_sI, kd_sL, kd_sR, kd_cp, gI_sL, gI_sR, gL_sI, gL_sR, gR_sI, gR_sL, gL_cp, gR_cp, kd_aI, gL_aI, gR_aI, gI_aI, gI_aIn, sI_aI, gI_sIn, Int.reduceToNat, Int.reduceAdd, Int.reduceSub, Int.reduceMul, Int.reduceNeg, Int.zero_add, hn]
  | k + 1, i, hi, a4 => by
    have ih := mTk_loop d g L n late rw_ ax p R X hF hl hl2 k (i + 1) (by omega)
    obtain ⟨hn, h7, hr⟩ := R
    have il : i < n := by omega
    obtain ⟨r1, r2⟩ := hr i il
    obtain ⟨x1, x2, x3⟩ := X i il
    obtain ⟨f1, f2⟩ := hF i il
    obtain ⟨k141, j141⟩ := lay_k L (a := 141) (t := 8) (n := 26) rfl
    obtain ⟨k150, j150⟩ := lay_k L (a := 150) (t := 100) (n := 1851) rfl
    obtain ⟨k152, j152⟩ := lay_k L (a := 152) (t := 100) (n := 7) rfl
    obtain ⟨k154, j154⟩ := lay_k L (a := 154) (t := 100) (n := 7) rfl
    have e16 := lay_r L (q := 141) (k := 16) (b := 150) rfl
    have e18 := lay_r L (q := 141) (k := 18) (b := 152) rfl
    have e21 := lay_r L (q := 141) (k := 21) (b := 154) rfl
    have ix : (9 + (rw_ i : Int)).toNat = 9 + rw_ i := by omega
    have eT : tkF (gI g 154) ax late rw_ p (i + 1) = if gI g 154 (rw_ i) ≠ -9 ∧ late.testBit (rw_ i) = false ∧ gI g 154 (rw_ i) ≤ p ∧ p ≤ gI g 154 (rw_ i) + ax (rw_ i) - 1 then (rw_ i : Int) else tkF (gI g 154) ax late rw_ p i := rfl
    rw [eT] at ih
    generalize tkF (gI g 154) ax late rw_ p i = B at ih ⊢
    rw [q_157_19]
    by_cases q1 : gI g 154 (rw_ i) = -9
    · rw [if_neg (fun w => w.1 q1)] at ih
      simp (disch := (first | omega | (simp only [kd_sI, kd_sL, kd_sR, kd_cp, kd_aI]; omega) | (unfold catV; exact rfl) | (unfold catS; exact Nat.le_of_ble_eq_true rfl) | assumption)) only [q_157_0, q_157_1, q_157_2, q_157_5_t, q_157_5_f, q_157_8, q_157_9, q_157_10, q_157_11, q_157_14, q_157_16, q_157_17, q_157_18, q_157_20, q_157_21, q_157_24_t, q_157_24_f, q_157_27, q_157_28, q_157_31, q_157_32, q_157_33, q_157_35, q_157_36, q_157_39, q_157_41, q_157_42, q_157_44_t, q_157_44_f, q_157_47, q_157_48, q_157_50, q_157_53_t, q_157_53_f, q_157_56, q_157_57, q_157_58, q_157_61, q_157_63, q_157_64, q_157_65, q_157_68, q_157_70, q_157_71, q_157_72, q_157_75, q_157_77, q_157_79, q_157_80, q_157_81, q_157_82, q_157_83, q_157_84, q_157_87_t, q_157_87_f, q_157_90, q_157_92, q_157_95, q_157_96, q_157_97, q_157_100, q_157_103, q_157_104, aft_i, aft_l, aft_v, Int.toNat_natCast, kd_sI, kd_sL, kd_sR, kd_cp, gI_sL, gI_sR, gL_sI, gL_sR, gR_sI, gR_sL, gL_cp, gR_cp, kd_aI, gL_aI, gR_aI, gI_aI, gI_aIn, sI_aI, gI_sIn, Int.reduceToNat, Int.reduceAdd, Int.reduceSub, Int.reduceMul, Int.reduceNeg, Int.zero_add, e16, e18, e21, hn, r1, ix, x1]
      exact ih _
    · by_cases q2 : late.testBit (rw_ i) = true
      · rw [if_neg (fun w => by rw [q2] at w; exact absurd w.2.1 (by decide))] at ih
        have el := mLate_t d g L (rw_ i) late hl hl2 (by omega) q2
        simp (disch := (first | omega | (simp only [kd_sI, kd_sL, kd_sR, kd_cp, kd_aI]; omega) | (unfold catV; exact rfl) | (unfold catS; exact Nat.le_of_ble_eq_true rfl) | assumption)) only [q_157_0, q_157_1, q_157_2, q_157_5_t, q_157_5_f, q_157_8, q_157_9, q_157_10, q_157_11, q_157_14, q_157_16, q_157_17, q_157_18, q_157_20, q_157_21, q_157_24_t, q_157_24_f, q_157_27, q_157_28, q_157_31, q_157_32, q_157_33, q_157_35, q_157_36, q_157_39, q_157_41, q_157_42, q_157_44_t, q_157_44_f, q_157_47, q_157_48, q_157_50, q_157_53_t, q_157_53_f, q_157_56, q_157_57, q_157_58, q_157_61, q_157_63, q_157_64, q_157_65, q_157_68, q_157_70, q_157_71, q_157_72, q_157_75, q_157_77, q_157_79, q_157_80, q_157_81, q_157_82, q_157_83, q_157_84, q_157_87_t, q_157_87_f, q_157_90, q_157_92, q_157_95, q_157_96, q_157_97, q_157_100, q_157_103, q_157_104, aft_i, aft_l, aft_v, Int.toNat_natCast, kd_sI, kd_sL, kd_sR, kd_cp, gI_sL, gI_sR, gL_sI, gL_sR, gR_sI, gR_sL, gL_cp, gR_cp, kd_aI, gL_aI, gR_aI, gI_aI, gI_aIn, sI_aI, gI_sIn, Int.reduceToNat, Int.reduceAdd, Int.reduceSub, Int.reduceMul, Int.reduceNeg, Int.zero_add, e16, e18, e21, hn, r1, ix, x1, el]
        exact ih _
      · have q3 : late.testBit (rw_ i) = false := by simpa using q2
        have el := mLate_f d g L (rw_ i) late hl hl2 (by omega) q3
        by_cases q4 : gI g 154 (rw_ i) ≤ p ∧ p ≤ gI g 154 (rw_ i) + ax (rw_ i) - 1
        · rw [if_pos ⟨q1, q3, q4⟩] at ih
          have ei := in_t d g p (gI g 154 (rw_ i)) (gI g 154 (rw_ i) + ax (rw_ i) - 1) q4
          simp (disch := (first | omega | (simp only [kd_sI, kd_sL, kd_sR, kd_cp, kd_aI]; omega) | (unfold catV; exact rfl) | (unfold catS; exact Nat.le_of_ble_eq_true rfl) | assumption)) only [q_157_0, q_157_1, q_157_2, q_157_5_t, q_157_5_f, q_157_8, q_157_9, q_157_10, q_157_11, q_157_14, q_157_16, q_157_17, q_157_18, q_157_20, q_157_21, q_157_24_t, q_157_24_f, q_157_27, q_157_28, q_157_31, q_157_32, q_157_33, q_157_35, q_157_36, q_157_39, q_157_41, q_157_42, q_157_44_t, q_157_44_f, q_157_47, q_157_48, q_157_50, q_157_53_t, q_157_53_f, q_157_56, q_157_57, q_157_58, q_157_61, q_157_63, q_157_64, q_157_65, q_157_68, q_157_70, q_157_71, q_157_72, q_157_75, q_157_77, q_157_79, q_157_80, q_157_81, q_157_82, q_157_83, q_157_84, q_157_87_t, q_157_87_f, q_157_90, q_157_92, q_157_95, q_157_96, q_157_97, q_157_100, q_157_103, q_157_104, aft_i, aft_l, aft_v, Int.toNat_natCast, kd_sI, kd_sL, kd_sR, kd_cp, gI_sL, gI_sR, gL_sI, gL_sR, gR_sI, gR_sL, gL_cp, gR_cp, kd_aI, gL_aI, gR_aI, gI_aI, gI_aIn, sI_aI, gI_sIn, Int.reduceToNat, Int.reduceAdd, Int.reduceSub, Int.reduceMul, Int.reduceNeg, Int.zero_add, e16, e18, e21, hn, r1, ix, x1, el, ei]
          exact ih _
        · rw [if_neg (fun w => q4 w.2.2)] at ih
          have ei := in_f d g p (gI g 154 (rw_ i)) (gI g 154 (rw_ i) + ax (rw_ i) - 1) q4
          simp (disch := (first | omega | (simp only [kd_sI, kd_sL, kd_sR, kd_cp, kd_aI]; omega) | (unfold catV; exact rfl) | (unfold catS; exact Nat.le_of_ble_eq_true rfl) | assumption)) only [q_157_0, q_157_1, q_157_2, q_157_5_t, q_157_5_f, q_157_8, q_157_9, q_157_10, q_157_11, q_157_14, q_157_16, q_157_17, q_157_18, q_157_20, q_157_21, q_157_24_t, q_157_24_f, q_157_27, q_157_28, q_157_31, q_157_32, q_157_33, q_157_35, q_157_36, q_157_39, q_157_41, q_157_42, q_157_44_t, q_157_44_f, q_157_47, q_157_48, q_157_50, q_157_53_t, q_157_53_f, q_157_56, q_157_57, q_157_58, q_157_61, q_157_63, q_157_64, q_157_65, q_157_68, q_157_70, q_157_71, q_157_72, q_157_75, q_157_77, q_157_79, q_157_80, q_157_81, q_157_82, q_157_83, q_157_84, q_157_87_t, q_157_87_f, q_157_90, q_157_92, q_157_95, q_157_96, q_157_97, q_157_100, q_157_103, q_157_104, aft_i, aft_l, aft_v, Int.toNat_natCast, kd_sI, kd_sL, kd_sR, kd_cp, gI_sL, gI_sR, gL_sI, gL_sR, gR_sI, gR_sL, gL_cp, gR_cp, kd_aI, gL_aI, gR_aI, gI_aI, gI_aIn, sI_aI, gI_sIn, Int.reduceToNat, Int.reduceAdd, Int.reduceSub, Int.reduceMul, Int.reduceNeg, Int.zero_add, e16, e18, e21, hn, r1, ix, x1, el, ei]
          exact ih _
def takesS (T : Td) (N : Nt) (k : Int) : Int := if 0 ≤ k ∧ k < tK T then tkF (fcS T N) (nX N) (nL N) (nR N) k (nM N) else -1
theorem mTakes_ok (d : Nat) (h : mH) (L : LAY h) (T : Td) (N : Nt) (wT : wfT T) (wN : wfN T N) (t : mT h T) (u : mNow h T N) (k : Int) : ∃ g, callA (d + 5) 157 [Sum.inr (Sum.inr (some 141)), Sum.inl k] h = some (some (Sum.inl (takesS T N k)), g) ∧ scr h g := by
  obtain ⟨k141, j141⟩ := lay_k L (a := 141) (t := 8) (n := 26) rfl
  unfold takesS
  rw [en_157]
  by_cases q : 0 ≤ k ∧ k < tK T
  · have e := mCell_t (d + 2) h L k (tK T) t.2.1 q wT.2.1
    rw [if_pos q]
    obtain ⟨g, eg, sg, su⟩ := mSun_ok (d + 1) h L T N wT wN t u
    have ug := scr_mN sg u
    refine ⟨g, ?_, sg⟩
    simp (disch := (first | omega | (simp only [kd_sI, kd_sL, kd_sR, kd_cp, kd_aI]; omega) | (unfold catV; exact rfl) | (unfold catS; exact Nat.le_of_ble_eq_true rfl) | assumption)) only [q_157_0, q_157_1, q_157_2, q_157_5_t, q_157_5_f, q_157_8, q_157_9, q_157_10, q_157_11, q_157_14, q_157_16, q_157_17, q_157_18, q_157_20, q_157_21, q_157_24_t, q_157_24_f, q_157_27, q_157_28, q_157_31, q_157_32, q_157_33, q_157_35, q_157_36, q_157_39, q_157_41, q_157_42, q_157_44_t, q_157_44_f, q_157_47, q_157_48, q_157_50, q_157_53_t, q_157_53_f, q_157_56, q_157_57, q_157_58, q_157_61, q_157_63, q_157_64, q_157_65, q_157_68, q_157_70, q_157_71, q_157_72, q_157_75, q_157_77, q_157_79, q_157_80, q_157_81, q_157_82, q_157_83, q_157_84, q_157_87_t, q_157_87_f, q_157_90, q_157_92, q_157_95, q_157_96, q_157_97, q_157_100, q_157_103, q_157_104, aft_i, aft_l, aft_v, Int.toNat_natCast, kd_sI, kd_sL, kd_sR, kd_cp, gI_sL, gI_sR, gL_sI, gL_sR, gR_sI, gR_sL, gL_cp, gR_cp, kd_aI, gL_aI, gR_aI, gI_aI, gI_aIn, sI_aI, gI_sIn, Int.reduceToNat, Int.reduceAdd, Int.reduceSub, Int.reduceMul, Int.reduceNeg, Int.zero_add, e, eg]
    rw [← tkF_congr (F := gI g 154) (fun i hi => su.2.2 i hi)]
    exact mTk_loop (d + 3) g (scr_L sg L) (nM N) (nL N) (nR N) (nX N) k su.1 (axF_of wN ug) (suOK_F wT wN su) ug.2.2.1 wN.2.2.2.2.1 (nM N) 0 (by omega) _
  · have e := mCell_f (d + 2) h L k (tK T) t.2.1 q wT.2.1
    rw [if_neg q]
    exact ⟨h, by simp (disch := (first | omega | (simp only [kd_sI, kd_sL, kd_sR, kd_cp, kd_aI]; omega) | (unfold catV; exact rfl) | (unfold catS; exact Nat.le_of_ble_eq_true rfl) | assumption)) only [q_157_0, q_157_1, q_157_2, q_157_5_t, q_157_5_f, q_157_8, q_157_9, q_157_10, q_157_11, q_157_14, q_157_16, q_157_17, q_157_18, q_157_19, q_157_20, q_157_21, q_157_24_t, q_157_24_f, q_157_27, q_157_28, q_157_31, q_157_32, q_157_33, q_157_35, q_157_36, q_157_39, q_157_41, q_157_42, q_157_44_t, q_157_44_f, q_157_47, q_157_48, q_157_50, q_157_53_t, q_157_53_f, q_157_56, q_157_57, q_157_58, q_157_61, q_157_63, q_157_64, q_157_65, q_157_68, q_157_70, q_157_71, q_157_72, q_157_75, q_157_77, q_157_79, q_157_80, q_157_81, q_157_82, q_157_83, q_157_84, q_157_87_t, q_157_87_f, q_157_90, q_157_92, q_157_95, q_157_96, q_157_97, q_157_100, q_157_103, q_157_104, aft_i, aft_l, aft_v, Int.toNat_natCast, kd_sI, kd_sL, kd_sR, kd_cp, gI_sL, gI_sR, gL_sI, gL_sR, gR_sI, gR_sL, gL_cp, gR_cp, kd_aI, gL_aI, gR_aI, gI_aI, gI_aIn, sI_aI, gI_sIn, Int.reduceToNat, Int.reduceAdd, Int.reduceSub, Int.reduceMul, Int.reduceNeg, Int.zero_add, e], scr_rf h⟩
/-- n cells of an array, laid elsewhere in it -/
def cpF (G : Nat → Int) (src dst n : Nat) : Nat → Int := fun j => if dst ≤ j ∧ j < dst + n then G (src + (j - dst)) else G j
theorem cpF_0 (G : Nat → Int) (src dst : Nat) : cpF G src dst 0 = G := by
  funext j
  unfold cpF
  rw [if_neg (by omega)]
theorem cpF_in {G : Nat → Int} {src dst n j : Nat} (h : j < n) : cpF G src dst n (dst + j) = G (src + j) := by
  unfold cpF
  rw [if_pos (by omega), Nat.add_sub_cancel_left]
theorem cpF_out {G : Nat → Int} {src dst n j : Nat} (h : j < dst ∨ dst + n ≤ j) : cpF G src dst n j = G j := by
  unfold cpF
  rw [if_neg (by omega)]
theorem cpF_up {G : Nat → Int} {src dst n : Nat} (h : dst ≤ src ∨ src + n < dst) : upI (cpF G src dst n) (dst + n) (cpF G src dst n (src + n)) = cpF G src dst (n + 1) := by
  funext j
  have e : cpF G src dst n (src + n) = G (src + n) := cpF_out (by omega)
  rw [e]
  unfold upI cpF
  by_cases z : j = dst + n
  · subst z
    rw [if_pos rfl, if_pos (by omega), Nat.add_sub_cancel_left]
  · rw [if_neg z]
    by_cases z2 : dst ≤ j ∧ j < dst + n
    · rw [if_pos z2, if_pos (by omega)]
    · rw [if_neg z2, if_neg (by omega)]
theorem mKnow_a (d : Nat) (h : mH) (L : LAY h) : ∀ (k i : Nat), i + k = 504 → resA (callA d) 158 (14, [Sum.inr (Sum.inr (some 141)), Sum.inl (i : Int)], [], aI h 150 (cpF (gI h 150) 113 57 i)) = resA (callA d) 158 (45, [Sum.inr (Sum.inr (some 141)), Sum.inl 504], [], aI h 150 (cpF (gI h 150) 113 57 504))
  | 0, i, hi => by
    have e : i = 504 := by omega
    subst e
    simp (disch := (first | omega | (simp only [kd_sI, kd_sL, kd_sR, kd_cp, kd_aI]; omega) | (unfold catV; exact rfl) | (unfold catS; exact Nat.le_of_ble_eq_true rfl) | assumption)) only [q_158_0, q_158_1, q_158_4, q_158_6, q_158_7, q_158_9_t, q_158_9_f, q_158_12, q_158_13, q_158_14, q_158_15, q_158_18_t, q_158_18_f, q_158_21, q_158_22, q_158_25, q_158_27, q_158_28, q_158_29, q_158_30, q_158_33, q_158_35, q_158_36, q_158_37, q_158_38, q_158_39, q_158_42, q_158_46, q_158_49, q_158_51, q_158_52, q_158_53, q_158_54, q_158_55, q_158_56, q_158_57, q_158_58, q_158_59, q_158_61_t, q_158_61_f, q_158_64, q_158_65, q_158_68, q_158_70, q_158_72, q_158_73, q_158_76, q_158_78, q_158_79, q_158_80, q_158_81, q_158_82, q_158_83, q_158_84, q_158_87, q_158_88, q_158_89, q_158_90, q_158_93, q_158_96, q_158_97, q_158_100, q_158_102, q_158_103, q_158_104, q_158_105, q_158_106, q_158_107, aft_i, aft_l, aft_v, Int.toNat_natCast, kd_sI, kd_sL, kd_sR, kd_cp, gI_sL, gI_sR, gL_sI, gL_sR, gR_sI, gR_sL, gL_cp, gR_cp, kd_aI, gL_aI, gR_aI, gI_aI, gI_aIn, sI_aI, gI_sIn, Int.reduceToNat, Int.reduceAdd, Int.reduceSub, Int.reduceMul, Int.reduceNeg, Int.zero_add]
    rfl
  | k + 1, i, hi => by
    have ih := mKnow_a d h L k (i + 1) (by omega)
    obtain ⟨k141, j141⟩ := lay_k L (a := 141) (t := 8) (n := 26) rfl; obtain ⟨k150, j150⟩ := lay_k L (a := 150) (t := 100) (n := 1851) rfl; have r141_16 : gR h 141 16 = some 150 := lay_r L rfl
    have e1 : (57 + (i : Int)).toNat = 57 + i := by omega
    have e2 : (113 + (i : Int)).toNat = 113 + i := by omega
    rw [q_158_14]
    simp (disch := (first | omega | (simp only [kd_sI, kd_sL, kd_sR, kd_cp, kd_aI]; omega) | (unfold catV; exact rfl) | (unfold catS; exact Nat.le_of_ble_eq_true rfl) | assumption)) only [q_158_0, q_158_1, q_158_4, q_158_6, q_158_7, q_158_9_t, q_158_9_f, q_158_12, q_158_13, q_158_15, q_158_18_t, q_158_18_f, q_158_21, q_158_22, q_158_25, q_158_27, q_158_28, q_158_29, q_158_30, q_158_33, q_158_35, q_158_36, q_158_37, q_158_38, q_158_39, q_158_42, q_158_46, q_158_49, q_158_51, q_158_52, q_158_53, q_158_54, q_158_55, q_158_56, q_158_57, q_158_58, q_158_59, q_158_61_t, q_158_61_f, q_158_64, q_158_65, q_158_68, q_158_70, q_158_72, q_158_73, q_158_76, q_158_78, q_158_79, q_158_80, q_158_81, q_158_82, q_158_83, q_158_84, q_158_87, q_158_88, q_158_89, q_158_90, q_158_93, q_158_96, q_158_97, q_158_100, q_158_102, q_158_103, q_158_104, q_158_105, q_158_106, q_158_107, aft_i, aft_l, aft_v, Int.toNat_natCast, kd_sI, kd_sL, kd_sR, kd_cp, gI_sL, gI_sR, gL_sI, gL_sR, gR_sI, gR_sL, gL_cp, gR_cp, kd_aI, gL_aI, gR_aI, gI_aI, gI_aIn, sI_aI, gI_sIn, Int.reduceToNat, Int.reduceAdd, Int.reduceSub, Int.reduceMul, Int.reduceNeg, Int.zero_add, r141_16, e1, e2, show (57 + 56 + (i : Int)).toNat = 113 + i by omega]
    rw [← cpF_up (n := i) (by omega)] at ih
    exact ih
theorem mKnow_b (d : Nat) (h : mH) (L : LAY h) (m : Nat) (hm : m ≤ 9) (e56 : gI h 150 56 = m) : ∀ (k i : Nat), i + k = 56 → resA (callA d) 158 (58, [Sum.inr (Sum.inr (some 141)), Sum.inl (i : Int)], [], aI h 150 (cpF (gI h 150) 0 (57 + 56 * m) i)) = some (none, aI h 150 (upI (cpF (gI h 150) 0 (57 + 56 * m) 56) 56 ((m + 1 : Nat) : Int)))
  | 0, i, hi => by
    have e : i = 56 := by omega
    subst e
    obtain ⟨k141, j141⟩ := lay_k L (a := 141) (t := 8) (n := 26) rfl; obtain ⟨k150, j150⟩ := lay_k L (a := 150) (t := 100) (n := 1851) rfl; have r141_16 : gR h 141 16 = some 150 := lay_r L rfl
    have e3 : cpF (gI h 150) 0 (57 + 56 * m) 56 56 = m := by rw [cpF_out (by omega)]; exact e56
    simp (disch := (first | omega | (simp only [kd_sI, kd_sL, kd_sR, kd_cp, kd_aI]; omega) | (unfold catV; exact rfl) | (unfold catS; exact Nat.le_of_ble_eq_true rfl) | assumption)) only [q_158_0, q_158_1, q_158_4, q_158_6, q_158_7, q_158_9_t, q_158_9_f, q_158_12, q_158_13, q_158_14, q_158_15, q_158_18_t, q_158_18_f, q_158_21, q_158_22, q_158_25, q_158_27, q_158_28, q_158_29, q_158_30, q_158_33, q_158_35, q_158_36, q_158_37, q_158_38, q_158_39, q_158_42, q_158_45, q_158_46, q_158_49, q_158_51, q_158_52, q_158_53, q_158_54, q_158_55, q_158_56, q_158_57, q_158_58, q_158_59, q_158_61_t, q_158_61_f, q_158_64, q_158_65, q_158_68, q_158_70, q_158_72, q_158_73, q_158_76, q_158_78, q_158_79, q_158_80, q_158_81, q_158_82, q_158_83, q_158_84, q_158_87, q_158_88, q_158_89, q_158_90, q_158_93, q_158_96, q_158_97, q_158_100, q_158_102, q_158_103, q_158_104, q_158_105, q_158_106, q_158_107, aft_i, aft_l, aft_v, Int.toNat_natCast, kd_sI, kd_sL, kd_sR, kd_cp, gI_sL, gI_sR, gL_sI, gL_sR, gR_sI, gR_sL, gL_cp, gR_cp, kd_aI, gL_aI, gR_aI, gI_aI, gI_aIn, sI_aI, gI_sIn, Int.reduceToNat, Int.reduceAdd, Int.reduceSub, Int.reduceMul, Int.reduceNeg, Int.zero_add, r141_16, e3, Int.natCast_succ]
  | k + 1, i, hi => by
    have ih := mKnow_b d h L m hm e56 k (i + 1) (by omega)
    obtain ⟨k141, j141⟩ := lay_k L (a := 141) (t := 8) (n := 26) rfl; obtain ⟨k150, j150⟩ := lay_k L (a := 150) (t := 100) (n := 1851) rfl; have r141_16 : gR h 141 16 = some 150 := lay_r L rfl
    have e3 : cpF (gI h 150) 0 (57 + 56 * m) i 56 = m := by rw [cpF_out (by omega)]; exact e56
    have e1 : (57 + 56 * (m : Int) + (i : Int)).toNat = 57 + 56 * m + i := by omega
    rw [q_158_58]
    simp (disch := (first | omega | (simp only [kd_sI, kd_sL, kd_sR, kd_cp, kd_aI]; omega) | (unfold catV; exact rfl) | (unfold catS; exact Nat.le_of_ble_eq_true rfl) | assumption)) only [q_158_0, q_158_1, q_158_4, q_158_6, q_158_7, q_158_9_t, q_158_9_f, q_158_12, q_158_13, q_158_14, q_158_15, q_158_18_t, q_158_18_f, q_158_21, q_158_22, q_158_25, q_158_27, q_158_28, q_158_29, q_158_30, q_158_33, q_158_35, q_158_36, q_158_37, q_158_38, q_158_39, q_158_42, q_158_45, q_158_46, q_158_49, q_158_51, q_158_52, q_158_53, q_158_54, q_158_55, q_158_56, q_158_57, q_158_59, q_158_61_t, q_158_61_f, q_158_64, q_158_65, q_158_68, q_158_70, q_158_72, q_158_73, q_158_76, q_158_78, q_158_79, q_158_80, q_158_81, q_158_82, q_158_83, q_158_84, q_158_87, q_158_88, q_158_89, q_158_90, q_158_93, q_158_96, q_158_97, q_158_100, q_158_102, q_158_103, q_158_104, q_158_105, q_158_106, q_158_107, aft_i, aft_l, aft_v, Int.toNat_natCast, kd_sI, kd_sL, kd_sR, kd_cp, gI_sL, gI_sR, gL_sI, gL_sR, gR_sI, gR_sL, gL_cp, gR_cp, kd_aI, gL_aI, gR_aI, gI_aI, gI_aIn, sI_aI, gI_sIn, Int.reduceToNat, Int.reduceAdd, Int.reduceSub, Int.reduceMul, Int.reduceNeg, Int.zero_add, r141_16, e3, e1]
    have e4 := cpF_up (G := gI h 150) (src := 0) (dst := 57 + 56 * m) (n := i) (by omega)
    rw [Nat.zero_add] at e4
    rw [← e4] at ih
    exact ih
