theorem two_le {c : Nat} (h : c < 7) : 2 ^ c < 128 := by
  have : 2 ^ c < 2 ^ 7 := Nat.pow_lt_pow_right (by omega) h
  omega
theorem or_b {a c : Nat} (h : a < 128) (hc : c < 7) : a ||| 2 ^ c < 128 := Nat.or_lt_two_pow (n := 7) h (two_le hc)
theorem bits_or {a c : Nat} (h : a < 128) (hc : c < 7) : orI (a : Int) (shlI 1 (c : Int)) = ((a ||| 2 ^ c : Nat) : Int) := by
  have := two_le hc
  rw [show (1 : Int) = ((1 : Nat) : Int) from rfl, shlI_n (by omega) (by omega), Nat.one_mul, orI_n (by omega) (by omega)]
theorem bits_or0 {a : Nat} (h : a < 128) : orI (a : Int) 0 = (a : Int) := by
  rw [show (0 : Int) = ((0 : Nat) : Int) from rfl, orI_n (by omega) (by omega), Nat.or_zero]
/-- which carts break: after the first i of the row -/
def brkF (F : Nat → Int) (ax rw_ : Nat → Nat) : Nat → Nat
  | 0 => 0
  | i + 1 => if 1 ≤ i ∧ F (rw_ i) ≠ -9 ∧ F (rw_ i) ≠ F (rw_ (i - 1)) + ax (rw_ (i - 1)) then brkF F ax rw_ i ||| 2 ^ rw_ i else brkF F ax rw_ i
theorem brkF_b {F : Nat → Int} {ax rw_ : Nat → Nat} : ∀ {n : Nat}, (∀ i, i < n → rw_ i < 7) → brkF F ax rw_ n < 128
  | 0, _ => by unfold brkF; omega
  | n + 1, h => by
    have a := brkF_b (F := F) (ax := ax) (rw_ := rw_) (n := n) (fun i hi => h i (by omega))
    unfold brkF
    split
    · exact or_b a (h n (by omega))
    · exact a
theorem brkF_congr {F G : Nat → Int} {ax ax2 rw_ rw2 : Nat → Nat} : ∀ {n : Nat}, (∀ i, i < n → rw_ i = rw2 i ∧ F (rw_ i) = G (rw2 i) ∧ ax (rw_ i) = ax2 (rw2 i)) → brkF F ax rw_ n = brkF G ax2 rw2 n
  | 0, _ => rfl
  | n + 1, h => by
    have ih := brkF_congr (n := n) (fun i hi => h i (by omega))
    obtain ⟨a, b, c⟩ := h n (by omega)
    unfold brkF
    rw [ih, b, a]
    by_cases z : 1 ≤ n
    · obtain ⟨a2, b2, c2⟩ := h (n - 1) (by omega)
      rw [b2, c2]
    · rw [if_neg (fun w => z w.1), if_neg (fun w => z w.1)]
theorem mBrk_loop (d : Nat) (g : mH) (L : LAY g) (n : Nat) (rw_ ax : Nat → Nat) (R : rowF g n rw_) (X : axF g n rw_ ax) (hF : ∀ i, i < n → -9 ≤ gI g 154 (rw_ i) ∧ gI g 154 (rw_ i) ≤ 100) : ∀ (k i : Nat), i + k = n + 1 → 1 ≤ i → ∀ (a3 a4 : mV), catV a3 = 1 → resA (callA d) 148 (8, [Sum.inr (Sum.inr (some 141)), Sum.inl ((brkF (gI g 154) ax rw_ i : Nat) : Int), Sum.inl (i : Int), a3, a4], [], g) = some (some (Sum.inl ((brkF (gI g 154) ax rw_ (if i ≤ n then n else i) : Nat) : Int)), g)
  | 0, i, hi, h1, a3, a4, c3 => by
    obtain ⟨hn, h7, hr⟩ := R
    obtain ⟨k141, j141⟩ := lay_k L (a := 141) (t := 8) (n := 26) rfl
    rw [if_neg (by omega)]
    simp (disch := (first | omega | (simp only [kd_sI, kd_sL, kd_sR, kd_cp, kd_aI]; omega) | (unfold catV; exact rfl) | (unfold catS; exact Nat.le_of_ble_eq_true rfl) | assumption)) only [q_148_0, q_148_1, q_148_4, q_148_5, q_148_6, q_148_7, q_148_8, q_148_9, q_148_10, q_148_13_t, q_148_13_f, q_148_16, q_148_17, q_148_20, q_148_21, q_148_22, q_148_23, q_148_24, q_148_27, q_148_28, q_148_29, q_148_31_t, q_148_31_f, q_148_34, q_148_35, q_148_38, q_148_39, q_148_40, q_148_41, q_148_44, q_148_45, q_148_48, q_148_49, q_148_50, q_148_51, q_148_52, q_148_53, q_148_54, q_148_57, q_148_59, q_148_60, q_148_63, q_148_64, q_148_65, q_148_66, q_148_67, q_148_68, q_148_69, q_148_70_t, q_148_70_f, q_148_73, q_148_74, q_148_77, q_148_78, q_148_80, q_148_81, q_148_83_t, q_148_83_f, q_148_86, q_148_87, q_148_88, q_148_89, q_148_92, q_148_93, q_148_94, q_148_95, q_148_98, q_148_101, q_148_102, aft_i, aft_l, aft_v, Int.toNat_natCast, kd_sI, kd_sL, kd_sR, kd_cp, gI_sL, gI_sR, gL_sI, gL_sR, gR_sI, gR_sL, gL_cp, gR_cp, kd_aI, gL_aI, gR_aI, gI_aI, gI_aIn, sI_aI, gI_sIn, Int.reduceToNat, Int.reduceAdd, Int.reduceSub, Int.reduceMul, Int.reduceNeg, Int.zero_add, hn]
  | k + 1, i, hi, h1, a3, a4, c3 => by
    have ih := mBrk_loop d g L n rw_ ax R X hF k (i + 1) (by omega) (by omega)
    have R2 := R
    obtain ⟨hn, h7, hr⟩ := R
    obtain ⟨k141, j141⟩ := lay_k L (a := 141) (t := 8) (n := 26) rfl
    obtain ⟨k150, j150⟩ := lay_k L (a := 150) (t := 100) (n := 1851) rfl
    obtain ⟨k152, j152⟩ := lay_k L (a := 152) (t := 100) (n := 7) rfl
    obtain ⟨k154, j154⟩ := lay_k L (a := 154) (t := 100) (n := 7) rfl
    have e16 := lay_r L (q := 141) (k := 16) (b := 150) rfl
    have e18 := lay_r L (q := 141) (k := 18) (b := 152) rfl
    have e21 := lay_r L (q := 141) (k := 21) (b := 154) rfl
    by_cases il : i < n
    · rw [if_pos (by omega)]
      rw [if_pos (by omega)] at ih
      obtain ⟨r1, r2⟩ := hr i il
      obtain ⟨s1, s2⟩ := hr (i - 1) (by omega)
      obtain ⟨x1, x2, x3⟩ := X (i - 1) (by omega)
      obtain ⟨f1, f2⟩ := hF i il
      obtain ⟨g1, g2⟩ := hF (i - 1) (by omega)
      have ix : (9 + (rw_ (i - 1) : Int)).toNat = 9 + rw_ (i - 1) := by omega
      have iy : ((i : Int) - 1).toNat = i - 1 := by omega
      have hb := brkF_b (F := gI g 154) (ax := ax) (rw_ := rw_) (n := i) (fun j hj => (hr j (by omega)).2)
      have eB : brkF (gI g 154) ax rw_ (i + 1) = if 1 ≤ i ∧ gI g 154 (rw_ i) ≠ -9 ∧ gI g 154 (rw_ i) ≠ gI g 154 (rw_ (i - 1)) + ax (rw_ (i - 1)) then brkF (gI g 154) ax rw_ i ||| 2 ^ rw_ i else brkF (gI g 154) ax rw_ i := rfl
      rw [eB] at ih
      generalize brkF (gI g 154) ax rw_ i = B at ih hb ⊢
      have o1 := bits_or hb r2
      have o0 := bits_or0 hb
      rw [q_148_8]
      by_cases q1 : gI g 154 (rw_ i) = -9
      · rw [if_neg (fun w => w.2.1 q1)] at ih
        simp (disch := (first | omega | (simp only [kd_sI, kd_sL, kd_sR, kd_cp, kd_aI]; omega) | (unfold catV; exact rfl) | (unfold catS; exact Nat.le_of_ble_eq_true rfl) | assumption)) only [q_148_0, q_148_1, q_148_4, q_148_5, q_148_6, q_148_7, q_148_9, q_148_10, q_148_13_t, q_148_13_f, q_148_16, q_148_17, q_148_20, q_148_21, q_148_22, q_148_23, q_148_24, q_148_27, q_148_28, q_148_29, q_148_31_t, q_148_31_f, q_148_34, q_148_35, q_148_38, q_148_39, q_148_40, q_148_41, q_148_44, q_148_45, q_148_48, q_148_49, q_148_50, q_148_51, q_148_52, q_148_53, q_148_54, q_148_57, q_148_59, q_148_60, q_148_63, q_148_64, q_148_65, q_148_66, q_148_67, q_148_68, q_148_69, q_148_70_t, q_148_70_f, q_148_73, q_148_74, q_148_77, q_148_78, q_148_80, q_148_81, q_148_83_t, q_148_83_f, q_148_86, q_148_87, q_148_88, q_148_89, q_148_92, q_148_93, q_148_94, q_148_95, q_148_98, q_148_101, q_148_102, aft_i, aft_l, aft_v, Int.toNat_natCast, kd_sI, kd_sL, kd_sR, kd_cp, gI_sL, gI_sR, gL_sI, gL_sR, gR_sI, gR_sL, gL_cp, gR_cp, kd_aI, gL_aI, gR_aI, gI_aI, gI_aIn, sI_aI, gI_sIn, Int.reduceToNat, Int.reduceAdd, Int.reduceSub, Int.reduceMul, Int.reduceNeg, Int.zero_add, e16, e18, e21, hn, r1, s1, x1, ix, iy, o1, o0]
        exact ih _ _ rfl
      · by_cases q2 : gI g 154 (rw_ i) = gI g 154 (rw_ (i - 1)) + ax (rw_ (i - 1))
        · rw [if_neg (fun w => w.2.2 q2)] at ih
          simp (disch := (first | omega | (simp only [kd_sI, kd_sL, kd_sR, kd_cp, kd_aI]; omega) | (unfold catV; exact rfl) | (unfold catS; exact Nat.le_of_ble_eq_true rfl) | assumption)) only [q_148_0, q_148_1, q_148_4, q_148_5, q_148_6, q_148_7, q_148_9, q_148_10, q_148_13_t, q_148_13_f, q_148_16, q_148_17, q_148_20, q_148_21, q_148_22, q_148_23, q_148_24, q_148_27, q_148_28, q_148_29, q_148_31_t, q_148_31_f, q_148_34, q_148_35, q_148_38, q_148_39, q_148_40, q_148_41, q_148_44, q_148_45, q_148_48, q_148_49, q_148_50, q_148_51, q_148_52, q_148_53, q_148_54, q_148_57, q_148_59, q_148_60, q_148_63, q_148_64, q_148_65, q_148_66, q_148_67, q_148_68, q_148_69, q_148_70_t, q_148_70_f, q_148_73, q_148_74, q_148_77, q_148_78, q_148_80, q_148_81, q_148_83_t, q_148_83_f, q_148_86, q_148_87, q_148_88, q_148_89, q_148_92, q_148_93, q_148_94, q_148_95, q_148_98, q_148_101, q_148_102, aft_i, aft_l, aft_v, Int.toNat_natCast, kd_sI, kd_sL, kd_sR, kd_cp, gI_sL, gI_sR, gL_sI, gL_sR, gR_sI, gR_sL, gL_cp, gR_cp, kd_aI, gL_aI, gR_aI, gI_aI, gI_aIn, sI_aI, gI_sIn, Int.reduceToNat, Int.reduceAdd, Int.reduceSub, Int.reduceMul, Int.reduceNeg, Int.zero_add, e16, e18, e21, hn, r1, s1, x1, ix, iy, o1, o0]
          exact ih _ _ rfl
        · rw [if_pos ⟨h1, q1, q2⟩] at ih
          simp (disch := (first | omega | (simp only [kd_sI, kd_sL, kd_sR, kd_cp, kd_aI]; omega) | (unfold catV; exact rfl) | (unfold catS; exact Nat.le_of_ble_eq_true rfl) | assumption)) only [q_148_0, q_148_1, q_148_4, q_148_5, q_148_6, q_148_7, q_148_9, q_148_10, q_148_13_t, q_148_13_f, q_148_16, q_148_17, q_148_20, q_148_21, q_148_22, q_148_23, q_148_24, q_148_27, q_148_28, q_148_29, q_148_31_t, q_148_31_f, q_148_34, q_148_35, q_148_38, q_148_39, q_148_40, q_148_41, q_148_44, q_148_45, q_148_48, q_148_49, q_148_50, q_148_51, q_148_52, q_148_53, q_148_54, q_148_57, q_148_59, q_148_60, q_148_63, q_148_64, q_148_65, q_148_66, q_148_67, q_148_68, q_148_69, q_148_70_t, q_148_70_f, q_148_73, q_148_74, q_148_77, q_148_78, q_148_80, q_148_81, q_148_83_t, q_148_83_f, q_148_86, q_148_87, q_148_88, q_148_89, q_148_92, q_148_93, q_148_94, q_148_95, q_148_98, q_148_101, q_148_102, aft_i, aft_l, aft_v, Int.toNat_natCast, kd_sI, kd_sL, kd_sR, kd_cp, gI_sL, gI_sR, gL_sI, gL_sR, gR_sI, gR_sL, gL_cp, gR_cp, kd_aI, gL_aI, gR_aI, gI_aI, gI_aIn, sI_aI, gI_sIn, Int.reduceToNat, Int.reduceAdd, Int.reduceSub, Int.reduceMul, Int.reduceNeg, Int.zero_add, e16, e18, e21, hn, r1, s1, x1, ix, iy, o1, o0]
          exact ih _ _ rfl
    · have e : i = n := by omega
      subst e
      rw [if_pos (Nat.le_refl _)]
      simp (disch := (first | omega | (simp only [kd_sI, kd_sL, kd_sR, kd_cp, kd_aI]; omega) | (unfold catV; exact rfl) | (unfold catS; exact Nat.le_of_ble_eq_true rfl) | assumption)) only [q_148_0, q_148_1, q_148_4, q_148_5, q_148_6, q_148_7, q_148_8, q_148_9, q_148_10, q_148_13_t, q_148_13_f, q_148_16, q_148_17, q_148_20, q_148_21, q_148_22, q_148_23, q_148_24, q_148_27, q_148_28, q_148_29, q_148_31_t, q_148_31_f, q_148_34, q_148_35, q_148_38, q_148_39, q_148_40, q_148_41, q_148_44, q_148_45, q_148_48, q_148_49, q_148_50, q_148_51, q_148_52, q_148_53, q_148_54, q_148_57, q_148_59, q_148_60, q_148_63, q_148_64, q_148_65, q_148_66, q_148_67, q_148_68, q_148_69, q_148_70_t, q_148_70_f, q_148_73, q_148_74, q_148_77, q_148_78, q_148_80, q_148_81, q_148_83_t, q_148_83_f, q_148_86, q_148_87, q_148_88, q_148_89, q_148_92, q_148_93, q_148_94, q_148_95, q_148_98, q_148_101, q_148_102, aft_i, aft_l, aft_v, Int.toNat_natCast, kd_sI, kd_sL, kd_sR, kd_cp, gI_sL, gI_sR, gL_sI, gL_sR, gR_sI, gR_sL, gL_cp, gR_cp, kd_aI, gL_aI, gR_aI, gI_aI, gI_aIn, sI_aI, gI_sIn, Int.reduceToNat, Int.reduceAdd, Int.reduceSub, Int.reduceMul, Int.reduceNeg, Int.zero_add, hn]
def brkN (T : Td) (N : Nt) : Nat := brkF (fcS T N) (nX N) (nR N) (nM N)
theorem suOK_F {g : mH} {T : Td} {N : Nt} (wT : wfT T) (wN : wfN T N) (s : suOK g T N) : ∀ i, i < nM N → -9 ≤ gI g 154 (nR N i) ∧ gI g 154 (nR N i) ≤ 100 := fun i hi => by
  rw [s.2.2 i hi]
  rcases fcS_b wT wN (nR N i) with q | q
  · omega
  · have := wT.2.1; omega
theorem axF_of {g : mH} {T : Td} {N : Nt} (wN : wfN T N) (u : mNow g T N) : axF g (nM N) (nR N) (nX N) := fun i hi => by
  have := wN.2.1 i hi
  exact ⟨u.2.2.2.1 _ this, (wN.2.2.2.1 _ this).1, (wN.2.2.2.1 _ this).2⟩
theorem mBrk_ok (d : Nat) (h : mH) (L : LAY h) (T : Td) (N : Nt) (wT : wfT T) (wN : wfN T N) (t : mT h T) (u : mNow h T N) : ∃ g, callA (d + 4) 148 [Sum.inr (Sum.inr (some 141))] h = some (some (Sum.inl ((brkN T N : Nat) : Int)), g) ∧ scr h g ∧ suOK g T N := by
  obtain ⟨g, eg, sg, su⟩ := mSun_ok d h L T N wT wN t u
  refine ⟨g, ?_, sg, su⟩
  obtain ⟨k141, j141⟩ := lay_k L (a := 141) (t := 8) (n := 26) rfl
  rw [en_148]
  simp (disch := (first | omega | (simp only [kd_sI, kd_sL, kd_sR, kd_cp, kd_aI]; omega) | (unfold catV; exact rfl) | (unfold catS; exact Nat.le_of_ble_eq_true rfl) | assumption)) only [q_148_0, q_148_1, q_148_4, q_148_5, q_148_6, q_148_7, q_148_9, q_148_10, q_148_13_t, q_148_13_f, q_148_16, q_148_17, q_148_20, q_148_21, q_148_22, q_148_23, q_148_24, q_148_27, q_148_28, q_148_29, q_148_31_t, q_148_31_f, q_148_34, q_148_35, q_148_38, q_148_39, q_148_40, q_148_41, q_148_44, q_148_45, q_148_48, q_148_49, q_148_50, q_148_51, q_148_52, q_148_53, q_148_54, q_148_57, q_148_59, q_148_60, q_148_63, q_148_64, q_148_65, q_148_66, q_148_67, q_148_68, q_148_69, q_148_70_t, q_148_70_f, q_148_73, q_148_74, q_148_77, q_148_78, q_148_80, q_148_81, q_148_83_t, q_148_83_f, q_148_86, q_148_87, q_148_88, q_148_89, q_148_92, q_148_93, q_148_94, q_148_95, q_148_98, q_148_101, q_148_102, aft_i, aft_l, aft_v, Int.toNat_natCast, kd_sI, kd_sL, kd_sR, kd_cp, gI_sL, gI_sR, gL_sI, gL_sR, gR_sI, gR_sL, gL_cp, gR_cp, kd_aI, gL_aI, gR_aI, gI_aI, gI_aIn, sI_aI, gI_sIn, Int.reduceToNat, Int.reduceAdd, Int.reduceSub, Int.reduceMul, Int.reduceNeg, Int.zero_add, eg]
  have eB : brkN T N = brkF (gI g 154) (nX N) (nR N) (nM N) := brkF_congr (fun i hi => ⟨rfl, (su.2.2 i hi).symm, rfl⟩)
  rw [eB]
  have e := mBrk_loop (d + 3) g (scr_L sg L) (nM N) (nR N) (nX N) su.1 (axF_of wN (scr_mN sg u)) (suOK_F wT wN su) (nM N) 1 (by omega) (by omega) (Sum.inr (Sum.inr none)) (Sum.inr (Sum.inr none)) rfl
  by_cases z : 1 ≤ nM N
  · rw [if_pos z] at e
    exact e
  · rw [if_neg z] at e
    have : nM N = 0 := by omega
    rw [this]
    exact e
theorem mLeast_loop (d : Nat) (h : mH) (L : LAY h) (n : Nat) (rw_ ax : Nat → Nat) (hn : gI h 150 7 = n) (h7 : n ≤ 7) (hr : ∀ i, i < n → gI h 150 i = rw_ i ∧ rw_ i < 7) (X : axF h n rw_ ax) : ∀ (k i : Nat), i + k = n → 0 ≤ sumI (fun i => (ax (rw_ i) : Int)) i ∧ sumI (fun i => (ax (rw_ i) : Int)) i ≤ 6 * i → resA (callA d) 154 (4, [Sum.inr (Sum.inr (some 141)), Sum.inl (sumI (fun i => (ax (rw_ i) : Int)) i), Sum.inl (i : Int)], [], h) = some (some (Sum.inl (sumI (fun i => (ax (rw_ i) : Int)) n)), h)
  | 0, i, hi, hb => by
    have e : i = n := by omega
    subst e
    obtain ⟨k141, j141⟩ := lay_k L (a := 141) (t := 8) (n := 26) rfl; obtain ⟨k150, j150⟩ := lay_k L (a := 150) (t := 100) (n := 1851) rfl; have r141_16 : gR h 141 16 = some 150 := lay_r L rfl
    simp (disch := (first | omega | (simp only [kd_sI, kd_sL, kd_sR, kd_cp, kd_aI]; omega) | (unfold catV; exact rfl) | (unfold catS; exact Nat.le_of_ble_eq_true rfl) | assumption)) only [q_154_0, q_154_1, q_154_2, q_154_3, q_154_4, q_154_5, q_154_6, q_154_9, q_154_11, q_154_12_t, q_154_12_f, q_154_15, q_154_16, q_154_17, q_154_20, q_154_22, q_154_23, q_154_26, q_154_27, q_154_28, q_154_29, q_154_30, q_154_31, q_154_32, q_154_33, q_154_34, q_154_37, q_154_40, q_154_41, aft_i, aft_l, aft_v, Int.toNat_natCast, kd_sI, kd_sL, kd_sR, kd_cp, gI_sL, gI_sR, gL_sI, gL_sR, gR_sI, gR_sL, gL_cp, gR_cp, kd_aI, gL_aI, gR_aI, gI_aI, gI_aIn, sI_aI, gI_sIn, Int.reduceToNat, Int.reduceAdd, Int.reduceSub, Int.reduceMul, Int.reduceNeg, Int.zero_add, r141_16, hn]
  | k + 1, i, hi, hb => by
    have ih := mLeast_loop d h L n rw_ ax hn h7 hr X k (i + 1) (by omega)
    obtain ⟨r1, r2⟩ := hr i (by omega)
    obtain ⟨x1, x2, x3⟩ := X i (by omega)
    have ix : (9 + (rw_ i : Int)).toNat = 9 + rw_ i := by omega
    rw [show sumI (fun i => (ax (rw_ i) : Int)) (i + 1) = sumI (fun i => (ax (rw_ i) : Int)) i + ax (rw_ i) from rfl] at ih
    obtain ⟨k141, j141⟩ := lay_k L (a := 141) (t := 8) (n := 26) rfl; obtain ⟨k150, j150⟩ := lay_k L (a := 150) (t := 100) (n := 1851) rfl; have r141_16 : gR h 141 16 = some 150 := lay_r L rfl
    rw [q_154_4]
    simp (disch := (first | omega | (simp only [kd_sI, kd_sL, kd_sR, kd_cp, kd_aI]; omega) | (unfold catV; exact rfl) | (unfold catS; exact Nat.le_of_ble_eq_true rfl) | assumption)) only [q_154_0, q_154_1, q_154_2, q_154_3, q_154_5, q_154_6, q_154_9, q_154_11, q_154_12_t, q_154_12_f, q_154_15, q_154_16, q_154_17, q_154_20, q_154_22, q_154_23, q_154_26, q_154_27, q_154_28, q_154_29, q_154_30, q_154_31, q_154_32, q_154_33, q_154_34, q_154_37, q_154_40, q_154_41, aft_i, aft_l, aft_v, Int.toNat_natCast, kd_sI, kd_sL, kd_sR, kd_cp, gI_sL, gI_sR, gL_sI, gL_sR, gR_sI, gR_sL, gL_cp, gR_cp, kd_aI, gL_aI, gR_aI, gI_aI, gI_aIn, sI_aI, gI_sIn, Int.reduceToNat, Int.reduceAdd, Int.reduceSub, Int.reduceMul, Int.reduceNeg, Int.zero_add, r141_16, hn, r1, ix, x1]
    exact ih (by omega)
theorem mLeast_ok (d : Nat) (h : mH) (L : LAY h) (n : Nat) (rw_ ax : Nat → Nat) (hn : gI h 150 7 = n) (h7 : n ≤ 7) (hr : ∀ i, i < n → gI h 150 i = rw_ i ∧ rw_ i < 7) (X : axF h n rw_ ax) : callA (d + 1) 154 [Sum.inr (Sum.inr (some 141))] h = some (some (Sum.inl (sumI (fun i => (ax (rw_ i) : Int)) n)), h) := by
  rw [en_154]
  simp (disch := (first | omega | (simp only [kd_sI, kd_sL, kd_sR, kd_cp, kd_aI]; omega) | (unfold catV; exact rfl) | (unfold catS; exact Nat.le_of_ble_eq_true rfl) | assumption)) only [q_154_0, q_154_1, q_154_2, q_154_3, q_154_5, q_154_6, q_154_9, q_154_11, q_154_12_t, q_154_12_f, q_154_15, q_154_16, q_154_17, q_154_20, q_154_22, q_154_23, q_154_26, q_154_27, q_154_28, q_154_29, q_154_30, q_154_31, q_154_32, q_154_33, q_154_34, q_154_37, q_154_40, q_154_41, aft_i, aft_l, aft_v, Int.toNat_natCast, kd_sI, kd_sL, kd_sR, kd_cp, gI_sL, gI_sR, gL_sI, gL_sR, gR_sI, gR_sL, gL_cp, gR_cp, kd_aI, gL_aI, gR_aI, gI_aI, gI_aIn, sI_aI, gI_sIn, Int.reduceToNat, Int.reduceAdd, Int.reduceSub, Int.reduceMul, Int.reduceNeg, Int.zero_add]
  exact mLeast_loop d h L n rw_ ax hn h7 hr X n 0 (by omega) ⟨by show (0 : Int) ≤ 0; omega, by show (0 : Int) ≤ _; omega⟩
/-- which carts take some hill: after the first i of the row -/
def hillB (l : Nat → Int) (f : Int) (w : Nat) : Bool := (List.range w).any (fun j => decide (l (f.toNat + j) = 1))
def hilF (l : Nat → Int) (F : Nat → Int) (ax : Nat → Nat) (late : Nat) (rw_ : Nat → Nat) : Nat → Nat
  | 0 => 0
  | i + 1 => if F (rw_ i) ≠ -9 ∧ late.testBit (rw_ i) = false ∧ hillB l (F (rw_ i)) (ax (rw_ i)) = true then hilF l F ax late rw_ i ||| 2 ^ rw_ i else hilF l F ax late rw_ i
theorem hilF_b {l F : Nat → Int} {ax rw_ : Nat → Nat} {late : Nat} : ∀ {n : Nat}, (∀ i, i < n → rw_ i < 7) → hilF l F ax late rw_ n < 128
  | 0, _ => by unfold hilF; omega
  | n + 1, h => by
    have a := hilF_b (l := l) (F := F) (ax := ax) (rw_ := rw_) (late := late) (n := n) (fun i hi => h i (by omega))
    unfold hilF
    split
    · exact or_b a (h n (by omega))
    · exact a
theorem mHil_in (d : Nat) (g : mH) (L : LAY g) (n c w i late : Nat) (f : Int) (B : Nat) (hB : B < 128) (hc : c < 7) (hw : gI g 150 (9 + c) = w ∧ w ≤ 6) (hf : gI g 154 c = f) (fb : 0 ≤ f ∧ f + w ≤ 40) (hl : gI g 150 8 = late) (hl2 : late < 128) (ql : late.testBit c = false) : ∀ (k j : Nat), j + k = w → ∀ S : Nat, S < 128 → (S = if (List.range j).any (fun j => decide (gI g 153 (f.toNat + j) = 1)) = true then B ||| 2 ^ c else B) → resA (callA (d + 1)) 153 (26, [Sum.inr (Sum.inr (some 141)), Sum.inl (S : Int), Sum.inl (i : Int), Sum.inl (c : Int), Sum.inl (j : Int)], [], g) = resA (callA (d + 1)) 153 (93, [Sum.inr (Sum.inr (some 141)), Sum.inl ((if hillB (gI g 153) f w = true then B ||| 2 ^ c else B : Nat) : Int), Sum.inl (i : Int), Sum.inl (c : Int), Sum.inl (w : Int)], [], g)
  | 0, j, hj, S, hS, eS => by
    have e : j = w := by omega
    subst e
    obtain ⟨k141, j141⟩ := lay_k L (a := 141) (t := 8) (n := 26) rfl
    obtain ⟨k150, j150⟩ := lay_k L (a := 150) (t := 100) (n := 1851) rfl
    have e16 := lay_r L (q := 141) (k := 16) (b := 150) rfl
    have ix : (9 + (c : Int)).toNat = 9 + c := by omega
    obtain ⟨w1, w2⟩ := hw
    have e2 : S = if hillB (gI g 153) f j = true then B ||| 2 ^ c else B := eS
    rw [← e2]
    simp (disch := (first | omega | (simp only [kd_sI, kd_sL, kd_sR, kd_cp, kd_aI]; omega) | (unfold catV; exact rfl) | (unfold catS; exact Nat.le_of_ble_eq_true rfl) | assumption)) only [q_153_0, q_153_1, q_153_4, q_153_5, q_153_6, q_153_7, q_153_8, q_153_9, q_153_10, q_153_13_t, q_153_13_f, q_153_16, q_153_17, q_153_20, q_153_21, q_153_22, q_153_23, q_153_24, q_153_26, q_153_28, q_153_29, q_153_32, q_153_34, q_153_35, q_153_36, q_153_37_t, q_153_37_f, q_153_40, q_153_41, q_153_44, q_153_45, q_153_46, q_153_48_t, q_153_48_f, q_153_51, q_153_52, q_153_53, q_153_56_t, q_153_56_f, q_153_59, q_153_60, q_153_61, q_153_64, q_153_65, q_153_68, q_153_69, q_153_70, q_153_72, q_153_73, q_153_74, q_153_75_t, q_153_75_f, q_153_78, q_153_79, q_153_80, q_153_81, q_153_84, q_153_85, q_153_86, q_153_87, q_153_90, q_153_96, q_153_99, q_153_100, aft_i, aft_l, aft_v, Int.toNat_natCast, kd_sI, kd_sL, kd_sR, kd_cp, gI_sL, gI_sR, gL_sI, gL_sR, gR_sI, gR_sL, gL_cp, gR_cp, kd_aI, gL_aI, gR_aI, gI_aI, gI_aIn, sI_aI, gI_sIn, Int.reduceToNat, Int.reduceAdd, Int.reduceSub, Int.reduceMul, Int.reduceNeg, Int.zero_add, e16, ix, w1]
  | k + 1, j, hj, S, hS, eS => by
    have ih := mHil_in d g L n c w i late f B hB hc hw hf fb hl hl2 ql k (j + 1) (by omega)
    obtain ⟨k141, j141⟩ := lay_k L (a := 141) (t := 8) (n := 26) rfl
    obtain ⟨k150, j150⟩ := lay_k L (a := 150) (t := 100) (n := 1851) rfl
    obtain ⟨k153, j153⟩ := lay_k L (a := 153) (t := 100) (n := 40) rfl
    obtain ⟨k154, j154⟩ := lay_k L (a := 154) (t := 100) (n := 7) rfl
    have e16 := lay_r L (q := 141) (k := 16) (b := 150) rfl
    have e20 := lay_r L (q := 141) (k := 20) (b := 153) rfl
    have e21 := lay_r L (q := 141) (k := 21) (b := 154) rfl
    have ix : (9 + (c : Int)).toNat = 9 + c := by omega
    have iy : (f + (j : Int)).toNat = f.toNat + j := by omega
    obtain ⟨w1, w2⟩ := hw
    have el := mLate_f d g L c late hl hl2 (by omega) ql
    have o1 := bits_or hS hc
    have o0 := bits_or0 hS
    rw [List.range_succ, List.any_append] at ih
    rw [q_153_26]
    by_cases q : gI g 153 (f.toNat + j) = 1
    · simp (disch := (first | omega | (simp only [kd_sI, kd_sL, kd_sR, kd_cp, kd_aI]; omega) | (unfold catV; exact rfl) | (unfold catS; exact Nat.le_of_ble_eq_true rfl) | assumption)) only [q_153_0, q_153_1, q_153_4, q_153_5, q_153_6, q_153_7, q_153_8, q_153_9, q_153_10, q_153_13_t, q_153_13_f, q_153_16, q_153_17, q_153_20, q_153_21, q_153_22, q_153_23, q_153_24, q_153_28, q_153_29, q_153_32, q_153_34, q_153_35, q_153_36, q_153_37_t, q_153_37_f, q_153_40, q_153_41, q_153_44, q_153_45, q_153_46, q_153_48_t, q_153_48_f, q_153_51, q_153_52, q_153_53, q_153_56_t, q_153_56_f, q_153_59, q_153_60, q_153_61, q_153_64, q_153_65, q_153_68, q_153_69, q_153_70, q_153_72, q_153_73, q_153_74, q_153_75_t, q_153_75_f, q_153_78, q_153_79, q_153_80, q_153_81, q_153_84, q_153_85, q_153_86, q_153_87, q_153_90, q_153_96, q_153_99, q_153_100, aft_i, aft_l, aft_v, Int.toNat_natCast, kd_sI, kd_sL, kd_sR, kd_cp, gI_sL, gI_sR, gL_sI, gL_sR, gR_sI, gR_sL, gL_cp, gR_cp, kd_aI, gL_aI, gR_aI, gI_aI, gI_aIn, sI_aI, gI_sIn, Int.reduceToNat, Int.reduceAdd, Int.reduceSub, Int.reduceMul, Int.reduceNeg, Int.zero_add, e16, e20, e21, ix, iy, w1, hf, el, o1, o0]
      refine ih (S ||| 2 ^ c) (or_b hS hc) ?_
      rw [show [j].any (fun j => decide (gI g 153 (f.toNat + j) = 1)) = true by simp [q], Bool.or_true, if_pos rfl, eS]
      split
      · apply Nat.eq_of_testBit_eq
        intro m
        simp [Nat.testBit_or]
      · rfl
    · simp (disch := (first | omega | (simp only [kd_sI, kd_sL, kd_sR, kd_cp, kd_aI]; omega) | (unfold catV; exact rfl) | (unfold catS; exact Nat.le_of_ble_eq_true rfl) | assumption)) only [q_153_0, q_153_1, q_153_4, q_153_5, q_153_6, q_153_7, q_153_8, q_153_9, q_153_10, q_153_13_t, q_153_13_f, q_153_16, q_153_17, q_153_20, q_153_21, q_153_22, q_153_23, q_153_24, q_153_28, q_153_29, q_153_32, q_153_34, q_153_35, q_153_36, q_153_37_t, q_153_37_f, q_153_40, q_153_41, q_153_44, q_153_45, q_153_46, q_153_48_t, q_153_48_f, q_153_51, q_153_52, q_153_53, q_153_56_t, q_153_56_f, q_153_59, q_153_60, q_153_61, q_153_64, q_153_65, q_153_68, q_153_69, q_153_70, q_153_72, q_153_73, q_153_74, q_153_75_t, q_153_75_f, q_153_78, q_153_79, q_153_80, q_153_81, q_153_84, q_153_85, q_153_86, q_153_87, q_153_90, q_153_96, q_153_99, q_153_100, aft_i, aft_l, aft_v, Int.toNat_natCast, kd_sI, kd_sL, kd_sR, kd_cp, gI_sL, gI_sR, gL_sI, gL_sR, gR_sI, gR_sL, gL_cp, gR_cp, kd_aI, gL_aI, gR_aI, gI_aI, gI_aIn, sI_aI, gI_sIn, Int.reduceToNat, Int.reduceAdd, Int.reduceSub, Int.reduceMul, Int.reduceNeg, Int.zero_add, e16, e20, e21, ix, iy, w1, hf, el, o1, o0]
      refine ih S hS ?_
      rw [show [j].any (fun j => decide (gI g 153 (f.toNat + j) = 1)) = false by simp [q], Bool.or_false]
      exact eS
theorem mHil_loop (d : Nat) (g : mH) (L : LAY g) (n late : Nat) (rw_ ax : Nat → Nat) (R : rowF g n rw_) (X : axF g n rw_ ax) (hF : ∀ i, i < n → gI g 154 (rw_ i) = -9 ∨ (0 ≤ gI g 154 (rw_ i) ∧ gI g 154 (rw_ i) + ax (rw_ i) ≤ 40)) (hl : gI g 150 8 = late) (hl2 : late < 128) : ∀ (k i : Nat), i + k = n → ∀ (a3 a4 : mV), catV a3 = 1 → resA (callA (d + 1)) 153 (8, [Sum.inr (Sum.inr (some 141)), Sum.inl ((hilF (gI g 153) (gI g 154) ax late rw_ i : Nat) : Int), Sum.inl (i : Int), a3, a4], [], g) = some (some (Sum.inl ((hilF (gI g 153) (gI g 154) ax late rw_ n : Nat) : Int)), g)
  | 0, i, hi, a3, a4, c3 => by
    obtain ⟨hn, h7, hr⟩ := R
    have e : i = n := by omega
    subst e
    obtain ⟨k141, j141⟩ := lay_k L (a := 141) (t := 8) (n := 26) rfl
    simp (disch := (first | omega | (simp only [kd_sI, kd_sL, kd_sR, kd_cp, kd_aI]; omega) | (unfold catV; exact rfl) | (unfold catS; exact Nat.le_of_ble_eq_true rfl) | assumption)) only [q_153_0, q_153_1, q_153_4, q_153_5, q_153_6, q_153_7, q_153_8, q_153_9, q_153_10, q_153_13_t, q_153_13_f, q_153_16, q_153_17, q_153_20, q_153_21, q_153_22, q_153_23, q_153_24, q_153_26, q_153_28, q_153_29, q_153_32, q_153_34, q_153_35, q_153_36, q_153_37_t, q_153_37_f, q_153_40, q_153_41, q_153_44, q_153_45, q_153_46, q_153_48_t, q_153_48_f, q_153_51, q_153_52, q_153_53, q_153_56_t, q_153_56_f, q_153_59, q_153_60, q_153_61, q_153_64, q_153_65, q_153_68, q_153_69, q_153_70, q_153_72, q_153_73, q_153_74, q_153_75_t, q_153_75_f, q_153_78, q_153_79, q_153_80, q_153_81, q_153_84, q_153_85, q_153_86, q_153_87, q_153_90, q_153_93, q_153_96, q_153_99, q_153_100, aft_i, aft_l, aft_v, Int.toNat_natCast, kd_sI, kd_sL, kd_sR, kd_cp, gI_sL, gI_sR, gL_sI, gL_sR, gR_sI, gR_sL, gL_cp, gR_cp, kd_aI, gL_aI, gR_aI, gI_aI, gI_aIn, sI_aI, gI_sIn, Int.reduceToNat, Int.reduceAdd, Int.reduceSub, Int.reduceMul, Int.reduceNeg, Int.zero_add, hn]
  | k + 1, i, hi, a3, a4, c3 => by
    have ih := mHil_loop d g L n late rw_ ax R X hF hl hl2 k (i + 1) (by omega)
    obtain ⟨hn, h7, hr⟩ := R
    have il : i < n := by omega
    obtain ⟨r1, r2⟩ := hr i il
    obtain ⟨x1, x2, x3⟩ := X i il
    obtain ⟨k141, j141⟩ := lay_k L (a := 141) (t := 8) (n := 26) rfl
    obtain ⟨k150, j150⟩ := lay_k L (a := 150) (t := 100) (n := 1851) rfl
    obtain ⟨k152, j152⟩ := lay_k L (a := 152) (t := 100) (n := 7) rfl
    obtain ⟨k154, j154⟩ := lay_k L (a := 154) (t := 100) (n := 7) rfl
    have e16 := lay_r L (q := 141) (k := 16) (b := 150) rfl
    have e18 := lay_r L (q := 141) (k := 18) (b := 152) rfl
    have e21 := lay_r L (q := 141) (k := 21) (b := 154) rfl
    have ix : (9 + (rw_ i : Int)).toNat = 9 + rw_ i := by omega
    have hb := hilF_b (l := gI g 153) (F := gI g 154) (ax := ax) (rw_ := rw_) (late := late) (n := i) (fun j hj => (hr j (by omega)).2)
    have eH : hilF (gI g 153) (gI g 154) ax late rw_ (i + 1) = if gI g 154 (rw_ i) ≠ -9 ∧ late.testBit (rw_ i) = false ∧ hillB (gI g 153) (gI g 154 (rw_ i)) (ax (rw_ i)) = true then hilF (gI g 153) (gI g 154) ax late rw_ i ||| 2 ^ rw_ i else hilF (gI g 153) (gI g 154) ax late rw_ i := rfl
    rw [eH] at ih
    generalize hilF (gI g 153) (gI g 154) ax late rw_ i = B at ih hb ⊢
    rw [q_153_8]
    by_cases q1 : gI g 154 (rw_ i) = -9
    · rw [if_neg (fun w => w.1 q1)] at ih
      simp (disch := (first | omega | (simp only [kd_sI, kd_sL, kd_sR, kd_cp, kd_aI]; omega) | (unfold catV; exact rfl) | (unfold catS; exact Nat.le_of_ble_eq_true rfl) | assumption)) only [q_153_0, q_153_1, q_153_4, q_153_5, q_153_6, q_153_7, q_153_9, q_153_10, q_153_13_t, q_153_13_f, q_153_16, q_153_17, q_153_20, q_153_21, q_153_22, q_153_23, q_153_24, q_153_26, q_153_28, q_153_29, q_153_32, q_153_34, q_153_35, q_153_36, q_153_37_t, q_153_37_f, q_153_40, q_153_41, q_153_44, q_153_45, q_153_46, q_153_48_t, q_153_48_f, q_153_51, q_153_52, q_153_53, q_153_56_t, q_153_56_f, q_153_59, q_153_60, q_153_61, q_153_64, q_153_65, q_153_68, q_153_69, q_153_70, q_153_72, q_153_73, q_153_74, q_153_75_t, q_153_75_f, q_153_78, q_153_79, q_153_80, q_153_81, q_153_84, q_153_85, q_153_86, q_153_87, q_153_90, q_153_93, q_153_96, q_153_99, q_153_100, aft_i, aft_l, aft_v, Int.toNat_natCast, kd_sI, kd_sL, kd_sR, kd_cp, gI_sL, gI_sR, gL_sI, gL_sR, gR_sI, gR_sL, gL_cp, gR_cp, kd_aI, gL_aI, gR_aI, gI_aI, gI_aIn, sI_aI, gI_sIn, Int.reduceToNat, Int.reduceAdd, Int.reduceSub, Int.reduceMul, Int.reduceNeg, Int.zero_add, e16, e18, e21, hn, r1, ix, x1]
      exact ih _ _ rfl
    · by_cases q2 : late.testBit (rw_ i) = true
      · rw [if_neg (fun w => by rw [q2] at w; exact absurd w.2.1 (by decide))] at ih
        have el := mLate_t d g L (rw_ i) late hl hl2 (by omega) q2
        simp (disch := (first | omega | (simp only [kd_sI, kd_sL, kd_sR, kd_cp, kd_aI]; omega) | (unfold catV; exact rfl) | (unfold catS; exact Nat.le_of_ble_eq_true rfl) | assumption)) only [q_153_0, q_153_1, q_153_4, q_153_5, q_153_6, q_153_7, q_153_9, q_153_10, q_153_13_t, q_153_13_f, q_153_16, q_153_17, q_153_20, q_153_21, q_153_22, q_153_23, q_153_24, q_153_26, q_153_28, q_153_29, q_153_32, q_153_34, q_153_35, q_153_36, q_153_37_t, q_153_37_f, q_153_40, q_153_41, q_153_44, q_153_45, q_153_46, q_153_48_t, q_153_48_f, q_153_51, q_153_52, q_153_53, q_153_56_t, q_153_56_f, q_153_59, q_153_60, q_153_61, q_153_64, q_153_65, q_153_68, q_153_69, q_153_70, q_153_72, q_153_73, q_153_74, q_153_75_t, q_153_75_f, q_153_78, q_153_79, q_153_80, q_153_81, q_153_84, q_153_85, q_153_86, q_153_87, q_153_90, q_153_93, q_153_96, q_153_99, q_153_100, aft_i, aft_l, aft_v, Int.toNat_natCast, kd_sI, kd_sL, kd_sR, kd_cp, gI_sL, gI_sR, gL_sI, gL_sR, gR_sI, gR_sL, gL_cp, gR_cp, kd_aI, gL_aI, gR_aI, gI_aI, gI_aIn, sI_aI, gI_sIn, Int.reduceToNat, Int.reduceAdd, Int.reduceSub, Int.reduceMul, Int.reduceNeg, Int.zero_add, e16, e18, e21, hn, r1, ix, x1, el]
        exact ih _ _ rfl
      · have q3 : late.testBit (rw_ i) = false := by simpa using q2
        have e := mHil_in d g L n (rw_ i) (ax (rw_ i)) i late (gI g 154 (rw_ i)) B hb r2 ⟨x1, x3⟩ rfl ((hF i il).resolve_left q1) hl hl2 q3 (ax (rw_ i)) 0 (by omega) B hb (by simp)
        simp (disch := (first | omega | (simp only [kd_sI, kd_sL, kd_sR, kd_cp, kd_aI]; omega) | (unfold catV; exact rfl) | (unfold catS; exact Nat.le_of_ble_eq_true rfl) | assumption)) only [q_153_0, q_153_1, q_153_4, q_153_5, q_153_6, q_153_7, q_153_9, q_153_10, q_153_13_t, q_153_13_f, q_153_16, q_153_17, q_153_20, q_153_21, q_153_22, q_153_23, q_153_24, q_153_28, q_153_29, q_153_32, q_153_34, q_153_35, q_153_36, q_153_37_t, q_153_37_f, q_153_40, q_153_41, q_153_44, q_153_45, q_153_46, q_153_48_t, q_153_48_f, q_153_51, q_153_52, q_153_53, q_153_56_t, q_153_56_f, q_153_59, q_153_60, q_153_61, q_153_64, q_153_65, q_153_68, q_153_69, q_153_70, q_153_72, q_153_73, q_153_74, q_153_75_t, q_153_75_f, q_153_78, q_153_79, q_153_80, q_153_81, q_153_84, q_153_85, q_153_86, q_153_87, q_153_90, q_153_93, q_153_96, q_153_99, q_153_100, aft_i, aft_l, aft_v, Int.toNat_natCast, kd_sI, kd_sL, kd_sR, kd_cp, gI_sL, gI_sR, gL_sI, gL_sR, gR_sI, gR_sL, gL_cp, gR_cp, kd_aI, gL_aI, gR_aI, gI_aI, gI_aIn, sI_aI, gI_sIn, Int.reduceToNat, Int.reduceAdd, Int.reduceSub, Int.reduceMul, Int.reduceNeg, Int.zero_add, e16, e18, e21, hn, r1, ix, x1]
        refine Eq.trans e ?_
        by_cases q4 : hillB (gI g 153) (gI g 154 (rw_ i)) (ax (rw_ i)) = true
        · rw [if_pos ⟨q1, q3, q4⟩] at ih
          rw [if_pos q4]
          simp (disch := (first | omega | (simp only [kd_sI, kd_sL, kd_sR, kd_cp, kd_aI]; omega) | (unfold catV; exact rfl) | (unfold catS; exact Nat.le_of_ble_eq_true rfl) | assumption)) only [q_153_0, q_153_1, q_153_4, q_153_5, q_153_6, q_153_7, q_153_9, q_153_10, q_153_13_t, q_153_13_f, q_153_16, q_153_17, q_153_20, q_153_21, q_153_22, q_153_23, q_153_24, q_153_28, q_153_29, q_153_32, q_153_34, q_153_35, q_153_36, q_153_37_t, q_153_37_f, q_153_40, q_153_41, q_153_44, q_153_45, q_153_46, q_153_48_t, q_153_48_f, q_153_51, q_153_52, q_153_53, q_153_56_t, q_153_56_f, q_153_59, q_153_60, q_153_61, q_153_64, q_153_65, q_153_68, q_153_69, q_153_70, q_153_72, q_153_73, q_153_74, q_153_75_t, q_153_75_f, q_153_78, q_153_79, q_153_80, q_153_81, q_153_84, q_153_85, q_153_86, q_153_87, q_153_90, q_153_93, q_153_96, q_153_99, q_153_100, aft_i, aft_l, aft_v, Int.toNat_natCast, kd_sI, kd_sL, kd_sR, kd_cp, gI_sL, gI_sR, gL_sI, gL_sR, gR_sI, gR_sL, gL_cp, gR_cp, kd_aI, gL_aI, gR_aI, gI_aI, gI_aIn, sI_aI, gI_sIn, Int.reduceToNat, Int.reduceAdd, Int.reduceSub, Int.reduceMul, Int.reduceNeg, Int.zero_add]
          exact ih _ _ rfl
        · rw [if_neg (fun w => q4 w.2.2)] at ih
          rw [if_neg q4]
          simp (disch := (first | omega | (simp only [kd_sI, kd_sL, kd_sR, kd_cp, kd_aI]; omega) | (unfold catV; exact rfl) | (unfold catS; exact Nat.le_of_ble_eq_true rfl) | assumption)) only [q_153_0, q_153_1, q_153_4, q_153_5, q_153_6, q_153_7, q_153_9, q_153_10, q_153_13_t, q_153_13_f, q_153_16, q_153_17, q_153_20, q_153_21, q_153_22, q_153_23, q_153_24, q_153_28, q_153_29, q_153_32, q_153_34, q_153_35, q_153_36, q_153_37_t, q_153_37_f, q_153_40, q_153_41, q_153_44, q_153_45, q_153_46, q_153_48_t, q_153_48_f, q_153_51, q_153_52, q_153_53, q_153_56_t, q_153_56_f, q_153_59, q_153_60, q_153_61, q_153_64, q_153_65, q_153_68, q_153_69, q_153_70, q_153_72, q_153_73, q_153_74, q_153_75_t, q_153_75_f, q_153_78, q_153_79, q_153_80, q_153_81, q_153_84, q_153_85, q_153_86, q_153_87, q_153_90, q_153_93, q_153_96, q_153_99, q_153_100, aft_i, aft_l, aft_v, Int.toNat_natCast, kd_sI, kd_sL, kd_sR, kd_cp, gI_sL, gI_sR, gL_sI, gL_sR, gR_sI, gR_sL, gL_cp, gR_cp, kd_aI, gL_aI, gR_aI, gI_aI, gI_aIn, sI_aI, gI_sIn, Int.reduceToNat, Int.reduceAdd, Int.reduceSub, Int.reduceMul, Int.reduceNeg, Int.zero_add]
          exact ih _ _ rfl
theorem hillB_congr {l l2 : Nat → Int} {f : Int} {w : Nat} (h : ∀ j, j < w → l (f.toNat + j) = l2 (f.toNat + j)) : hillB l f w = hillB l2 f w := by
  unfold hillB
  rw [Bool.eq_iff_iff, List.any_eq_true, List.any_eq_true]
  refine ⟨fun ⟨j, hj, e⟩ => ⟨j, hj, ?_⟩, fun ⟨j, hj, e⟩ => ⟨j, hj, ?_⟩⟩
  · rw [← h j (List.mem_range.mp hj)]; exact e
  · rw [h j (List.mem_range.mp hj)]; exact e
theorem hilF_congr {l l2 F G : Nat → Int} {ax rw_ : Nat → Nat} {late : Nat} : ∀ {n : Nat}, (∀ i, i < n → F (rw_ i) = G (rw_ i)) → (∀ i, i < n → F (rw_ i) ≠ -9 → ∀ j, j < ax (rw_ i) → l ((F (rw_ i)).toNat + j) = l2 ((F (rw_ i)).toNat + j)) → hilF l F ax late rw_ n = hilF l2 G ax late rw_ n
  | 0, _, _ => rfl
  | n + 1, h, h2 => by
    have ih := hilF_congr (l := l) (l2 := l2) (F := F) (G := G) (ax := ax) (rw_ := rw_) (late := late) (n := n) (fun i hi => h i (by omega)) (fun i hi => h2 i (by omega))
    have a := h n (by omega)
    unfold hilF
    rw [ih]
    by_cases z : F (rw_ n) = -9
    · rw [if_neg (fun w => w.1 z), if_neg (fun w => w.1 (by rw [← a]; exact z))]
    · rw [hillB_congr (h2 n (by omega) z), a]
def hilN (T : Td) (N : Nt) : Nat := hilF (lnd T N) (fcS T N) (nX N) (nL N) (nR N) (nM N)
theorem mHil_ok (d : Nat) (h : mH) (L : LAY h) (T : Td) (N : Nt) (wT : wfT T) (wN : wfN T N) (t : mT h T) (u : mNow h T N) : ∃ g, callA (d + 4) 153 [Sum.inr (Sum.inr (some 141))] h = some (some (Sum.inl ((hilN T N : Nat) : Int)), g) ∧ scr h g ∧ suOK g T N := by
  obtain ⟨g, eg, sg, su⟩ := mSun_ok d h L T N wT wN t u
  refine ⟨g, ?_, sg, su⟩
  obtain ⟨k141, j141⟩ := lay_k L (a := 141) (t := 8) (n := 26) rfl
  have ug := scr_mN sg u
  have hF : ∀ i, i < nM N → gI g 154 (nR N i) = -9 ∨ (0 ≤ gI g 154 (nR N i) ∧ gI g 154 (nR N i) + nX N (nR N i) ≤ tK T) := fun i hi => by
    rw [su.2.2 i hi]
    exact fcS_b wT wN _
  have eB : hilN T N = hilF (gI g 153) (gI g 154) (nX N) (nL N) (nR N) (nM N) := hilF_congr (fun i hi => (su.2.2 i hi).symm) (fun i hi hz j hj => by
    have := (hF i hi)
    rw [su.2.2 i hi] at this
    have := this.resolve_left hz
    exact (su.2.1 _ (by omega)).symm)
  rw [en_153]
  simp (disch := (first | omega | (simp only [kd_sI, kd_sL, kd_sR, kd_cp, kd_aI]; omega) | (unfold catV; exact rfl) | (unfold catS; exact Nat.le_of_ble_eq_true rfl) | assumption)) only [q_153_0, q_153_1, q_153_4, q_153_5, q_153_6, q_153_7, q_153_9, q_153_10, q_153_13_t, q_153_13_f, q_153_16, q_153_17, q_153_20, q_153_21, q_153_22, q_153_23, q_153_24, q_153_26, q_153_28, q_153_29, q_153_32, q_153_34, q_153_35, q_153_36, q_153_37_t, q_153_37_f, q_153_40, q_153_41, q_153_44, q_153_45, q_153_46, q_153_48_t, q_153_48_f, q_153_51, q_153_52, q_153_53, q_153_56_t, q_153_56_f, q_153_59, q_153_60, q_153_61, q_153_64, q_153_65, q_153_68, q_153_69, q_153_70, q_153_72, q_153_73, q_153_74, q_153_75_t, q_153_75_f, q_153_78, q_153_79, q_153_80, q_153_81, q_153_84, q_153_85, q_153_86, q_153_87, q_153_90, q_153_93, q_153_96, q_153_99, q_153_100, aft_i, aft_l, aft_v, Int.toNat_natCast, kd_sI, kd_sL, kd_sR, kd_cp, gI_sL, gI_sR, gL_sI, gL_sR, gR_sI, gR_sL, gL_cp, gR_cp, kd_aI, gL_aI, gR_aI, gI_aI, gI_aIn, sI_aI, gI_sIn, Int.reduceToNat, Int.reduceAdd, Int.reduceSub, Int.reduceMul, Int.reduceNeg, Int.zero_add, eg]
  rw [eB]
  exact mHil_loop (d + 2) g (scr_L sg L) (nM N) (nL N) (nR N) (nX N) su.1 (axF_of wN ug) (fun i hi => (hF i hi).imp id (fun w => ⟨w.1, by have := wT.2.1; omega⟩)) ug.2.2.1 wN.2.2.2.2.1 (nM N) 0 (by omega) _ _ rfl
