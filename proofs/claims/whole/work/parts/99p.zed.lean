def shZ : List (Nat × Nat) := shT.take 141
def refZ (q k : Nat) : Option Nat := if q < 141 then refT q k else none
def LAY_Z (h : mH) : Prop := h.1 = shZ ∧ ∀ q k b, refZ q k = some b → gR h q k = some b
theorem lay_k_Z {h : mH} (L : LAY_Z h) {a t n : Nat} (e : shZ[a]? = some (t, n)) : (kd h a).1 = t ∧ (kd h a).2 = n := by
  have : kd h a = (t, n) := by
    unfold kd
    rw [L.1, List.getD_eq_getElem?_getD, e]
    rfl
  rw [this]
  exact ⟨rfl, rfl⟩
theorem lay_r_Z {h : mH} (L : LAY_Z h) {q k b : Nat} (e : refZ q k = some b) : gR h q k = some b := L.2 q k b e
theorem lay_keep_Z {h g : mH} (L : LAY_Z h) (h1 : g.1 = h.1) (h2 : gR g = gR h) : LAY_Z g := ⟨by rw [h1]; exact L.1, by rw [h2]; exact L.2⟩
theorem lay_sI_Z {h : mH} (L : LAY_Z h) (a k : Nat) (x : Int) : LAY_Z (sI h a k x) := lay_keep_Z L rfl rfl
theorem lay_sL_Z {h : mH} (L : LAY_Z h) (a k : Nat) (x : Int) : LAY_Z (sL h a k x) := lay_keep_Z L rfl rfl
theorem lay_aI_Z {h : mH} (L : LAY_Z h) (a : Nat) (f : Nat → Int) : LAY_Z (aI h a f) := lay_keep_Z L rfl rfl
theorem refT_17Z (k : Nat) : refZ 17 k = none := by
  unfold refZ
  rw [if_pos (by omega)]
  exact refT_17 k
theorem rmS_L_Z {h g : mH} (a : rmS h g) (L : LAY_Z h) : LAY_Z g := lay_keep_Z L a.1 a.2.2.1
theorem rmR_Z {h : mH} (L : LAY_Z h) {w : Nat} (hw : w < 7) : gR h 120 w = some (121 + w) := by
  have : w = 0 ∨ w = 1 ∨ w = 2 ∨ w = 3 ∨ w = 4 ∨ w = 5 ∨ w = 6 := by omega
  rcases this with e | e | e | e | e | e | e <;> subst e <;> exact lay_r_Z L rfl
theorem rmK_Z {h : mH} (L : LAY_Z h) {w : Nat} (hw : w < 7) : (kd h (121 + w)).1 = 100 ∧ (kd h (121 + w)).2 = 41 := by
  have : w = 0 ∨ w = 1 ∨ w = 2 ∨ w = 3 ∨ w = 4 ∨ w = 5 ∨ w = 6 := by omega
  rcases this with e | e | e | e | e | e | e <;> subst e <;> exact lay_k_Z L rfl
theorem wMs_a_Z (d : Nat) (r : Int) (K : Nat) (hK : K ≤ 40) (x5 x6 : mV) : ∀ (m w : Nat) (h : mH) (L : LAY_Z h), w + m = 7 → 1 ≤ w → gI h 119 1 = K → ∃ g, resA (callA d) 26 (8, [Sum.inr (Sum.inr (some 119)), Sum.inr (Sum.inl r), Sum.inr (Sum.inr none), Sum.inl (K : Int), Sum.inl (w : Int), x5, x6], [], h) = resA (callA d) 26 (35, [Sum.inr (Sum.inr (some 119)), Sum.inr (Sum.inl r), Sum.inr (Sum.inr none), Sum.inl (K : Int), Sum.inl 7, x5, x6], [], g) ∧ rmS h g ∧ (∀ v, w ≤ v → v ≤ 6 → gI g (121 + v) K = -9) ∧ ∀ v k, v < w → gI g (121 + v) k = gI h (121 + v) k
  | 0, w, h, L, hw, h1, hk => by
    have e : w = 7 := hw
    subst e
    refine ⟨h, ?_, rmS_rf h, fun v a b => absurd a (by omega), fun _ _ _ => rfl⟩
    simp (disch := (first | omega | (simp only [kd_sI, kd_sL, kd_sR, kd_cp, kd_aI]; omega) | (unfold catV; exact rfl) | (unfold catS; exact Nat.le_of_ble_eq_true rfl) | assumption)) only [q_26_0, q_26_1, q_26_2, q_26_5, q_26_6, q_26_8, q_26_10, q_26_12_t, q_26_12_f, q_26_15, q_26_16, q_26_19, q_26_21, q_26_22, q_26_23, q_26_26, q_26_28, q_26_29, q_26_32, q_26_36, q_26_38, q_26_39, q_26_42, q_26_43, q_26_44, q_26_46, q_26_48_t, q_26_48_f, q_26_51, q_26_52, q_26_54, q_26_55, q_26_56, q_26_57, q_26_58, q_26_59_t, q_26_59_f, q_26_62, q_26_63, q_26_66, q_26_68, q_26_69, q_26_70, q_26_72, q_26_73, q_26_75, q_26_77, q_26_79_t, q_26_79_f, q_26_82, q_26_83, q_26_86, q_26_88, q_26_89, q_26_91, q_26_93, q_26_95_t, q_26_95_f, q_26_98, q_26_100, q_26_103, q_26_104, q_26_107, q_26_109, q_26_110, q_26_112, q_26_113, q_26_114, q_26_115, q_26_116, q_26_119, q_26_122, q_26_125, q_26_128, aft_i, aft_l, aft_v, Int.toNat_natCast, kd_sI, kd_sL, kd_sR, kd_cp, gI_sL, gI_sR, gL_sI, gL_sR, gR_sI, gR_sL, gL_cp, gR_cp, kd_aI, gL_aI, gR_aI, gI_aI, gI_aIn, sI_aI, gI_sIn, Int.reduceToNat, Int.reduceAdd, Int.reduceSub, Int.reduceMul, Int.reduceNeg, Int.zero_add]
    rfl
  | m + 1, w, h, L, hw, h1, hk => by
    have L0 := L
    have s1 : rmS h (sI h (121 + w) K (-9)) := rmS_s ⟨h1, by omega⟩
    obtain ⟨g, e, sg, v1, v2⟩ := wMs_a_Z d r K hK x5 x6 m (w + 1) (sI h (121 + w) K (-9)) (rmS_L_Z s1 L) (by omega) (by omega) (by rw [gI_sIn (by omega)]; exact hk)
    refine ⟨g, ?_, rmS_tr s1 sg, fun v a b => ?_, fun v k a => ?_⟩
    · have rr := rmR_Z L (show w < 7 by omega)
      obtain ⟨q1, q2⟩ := rmK_Z L (show w < 7 by omega)
      obtain ⟨k119, j119⟩ := lay_k_Z L0 (a := 119) (t := 3) (n := 2) rfl; obtain ⟨k120, j120⟩ := lay_k_Z L0 (a := 120) (t := 105) (n := 7) rfl; have r119_0 : gR h 119 0 = some 120 := lay_r_Z L0 rfl
      rw [q_26_8]
      simp (disch := (first | omega | (simp only [kd_sI, kd_sL, kd_sR, kd_cp, kd_aI]; omega) | (unfold catV; exact rfl) | (unfold catS; exact Nat.le_of_ble_eq_true rfl) | assumption)) only [q_26_0, q_26_1, q_26_2, q_26_5, q_26_6, q_26_10, q_26_12_t, q_26_12_f, q_26_15, q_26_16, q_26_19, q_26_21, q_26_22, q_26_23, q_26_26, q_26_28, q_26_29, q_26_32, q_26_36, q_26_38, q_26_39, q_26_42, q_26_43, q_26_44, q_26_46, q_26_48_t, q_26_48_f, q_26_51, q_26_52, q_26_54, q_26_55, q_26_56, q_26_57, q_26_58, q_26_59_t, q_26_59_f, q_26_62, q_26_63, q_26_66, q_26_68, q_26_69, q_26_70, q_26_72, q_26_73, q_26_75, q_26_77, q_26_79_t, q_26_79_f, q_26_82, q_26_83, q_26_86, q_26_88, q_26_89, q_26_91, q_26_93, q_26_95_t, q_26_95_f, q_26_98, q_26_100, q_26_103, q_26_104, q_26_107, q_26_109, q_26_110, q_26_112, q_26_113, q_26_114, q_26_115, q_26_116, q_26_119, q_26_122, q_26_125, q_26_128, aft_i, aft_l, aft_v, Int.toNat_natCast, kd_sI, kd_sL, kd_sR, kd_cp, gI_sL, gI_sR, gL_sI, gL_sR, gR_sI, gR_sL, gL_cp, gR_cp, kd_aI, gL_aI, gR_aI, gI_aI, gI_aIn, sI_aI, gI_sIn, Int.reduceToNat, Int.reduceAdd, Int.reduceSub, Int.reduceMul, Int.reduceNeg, Int.zero_add, r119_0, rr, hk]
      exact e
    · by_cases z : v = w
      · subst z
        rw [v2 v K (by omega), gI_sIs]
      · exact v1 v (by omega) b
    · rw [v2 v k (by omega), gI_sIn (by omega)]
theorem wMs_b_Z (d : Nat) (r : Int) (K : Nat) (hK : K ≤ 40) (k dry : Nat) (hk : k < K) (hd : dry ≤ 41) : ∀ (m w : Nat) (h : mH) (L : LAY_Z h), w + m = 7 → 1 ≤ w → ∃ g, resA (callA d) 26 (75, [Sum.inr (Sum.inr (some 119)), Sum.inr (Sum.inl r), Sum.inr (Sum.inr none), Sum.inl (K : Int), Sum.inl (dry : Int), Sum.inl (k : Int), Sum.inl (w : Int)], [], h) = resA (callA d) 26 (122, [Sum.inr (Sum.inr (some 119)), Sum.inr (Sum.inl r), Sum.inr (Sum.inr none), Sum.inl (K : Int), Sum.inl (dry : Int), Sum.inl (k : Int), Sum.inl 7], [], g) ∧ rmS h g ∧ (∀ v, w ≤ v → v ≤ 6 → gI g (121 + v) k = if v ≤ dry then (k : Int) else gI h (121 + v) (k + 1)) ∧ (∀ v j, w ≤ v → v ≤ 6 → j ≠ k → gI g (121 + v) j = gI h (121 + v) j) ∧ ∀ v j, v < w → gI g (121 + v) j = gI h (121 + v) j
  | 0, w, h, L, hw, h1 => by
    have e : w = 7 := hw
    subst e
    refine ⟨h, ?_, rmS_rf h, fun v a b => absurd a (by omega), fun _ _ _ _ _ => rfl, fun _ _ _ => rfl⟩
    simp (disch := (first | omega | (simp only [kd_sI, kd_sL, kd_sR, kd_cp, kd_aI]; omega) | (unfold catV; exact rfl) | (unfold catS; exact Nat.le_of_ble_eq_true rfl) | assumption)) only [q_26_0, q_26_1, q_26_2, q_26_5, q_26_6, q_26_8, q_26_10, q_26_12_t, q_26_12_f, q_26_15, q_26_16, q_26_19, q_26_21, q_26_22, q_26_23, q_26_26, q_26_28, q_26_29, q_26_32, q_26_35, q_26_36, q_26_38, q_26_39, q_26_42, q_26_43, q_26_44, q_26_46, q_26_48_t, q_26_48_f, q_26_51, q_26_52, q_26_54, q_26_55, q_26_56, q_26_57, q_26_58, q_26_59_t, q_26_59_f, q_26_62, q_26_63, q_26_66, q_26_68, q_26_69, q_26_70, q_26_72, q_26_73, q_26_75, q_26_77, q_26_79_t, q_26_79_f, q_26_82, q_26_83, q_26_86, q_26_88, q_26_89, q_26_91, q_26_93, q_26_95_t, q_26_95_f, q_26_98, q_26_100, q_26_103, q_26_104, q_26_107, q_26_109, q_26_110, q_26_112, q_26_113, q_26_114, q_26_115, q_26_116, q_26_119, q_26_125, q_26_128, aft_i, aft_l, aft_v, Int.toNat_natCast, kd_sI, kd_sL, kd_sR, kd_cp, gI_sL, gI_sR, gL_sI, gL_sR, gR_sI, gR_sL, gL_cp, gR_cp, kd_aI, gL_aI, gR_aI, gI_aI, gI_aIn, sI_aI, gI_sIn, Int.reduceToNat, Int.reduceAdd, Int.reduceSub, Int.reduceMul, Int.reduceNeg, Int.zero_add]
    rfl
  | m + 1, w, h, L, hw, h1 => by
    have L0 := L
    have rr := rmR_Z L (show w < 7 by omega)
    obtain ⟨q1, q2⟩ := rmK_Z L (show w < 7 by omega)
    have ix : ((k : Int) + 1).toNat = k + 1 := by omega
    have s1 : rmS h (sI h (121 + w) k (if w ≤ dry then (k : Int) else gI h (121 + w) (k + 1))) := rmS_s ⟨h1, by omega⟩
    obtain ⟨g, e, sg, v1, v2, v3⟩ := wMs_b_Z d r K hK k dry hk hd m (w + 1) _ (rmS_L_Z s1 L) (by omega) (by omega)
    refine ⟨g, ?_, rmS_tr s1 sg, fun v a b => ?_, fun v j a b n => ?_, fun v j a => ?_⟩
    · obtain ⟨k119, j119⟩ := lay_k_Z L0 (a := 119) (t := 3) (n := 2) rfl; obtain ⟨k120, j120⟩ := lay_k_Z L0 (a := 120) (t := 105) (n := 7) rfl; have r119_0 : gR h 119 0 = some 120 := lay_r_Z L0 rfl
      rw [q_26_75]
      by_cases z : w ≤ dry
      · rw [if_pos z] at e
        simp (disch := (first | omega | (simp only [kd_sI, kd_sL, kd_sR, kd_cp, kd_aI]; omega) | (unfold catV; exact rfl) | (unfold catS; exact Nat.le_of_ble_eq_true rfl) | assumption)) only [q_26_0, q_26_1, q_26_2, q_26_5, q_26_6, q_26_8, q_26_10, q_26_12_t, q_26_12_f, q_26_15, q_26_16, q_26_19, q_26_21, q_26_22, q_26_23, q_26_26, q_26_28, q_26_29, q_26_32, q_26_35, q_26_36, q_26_38, q_26_39, q_26_42, q_26_43, q_26_44, q_26_46, q_26_48_t, q_26_48_f, q_26_51, q_26_52, q_26_54, q_26_55, q_26_56, q_26_57, q_26_58, q_26_59_t, q_26_59_f, q_26_62, q_26_63, q_26_66, q_26_68, q_26_69, q_26_70, q_26_72, q_26_73, q_26_77, q_26_79_t, q_26_79_f, q_26_82, q_26_83, q_26_86, q_26_88, q_26_89, q_26_91, q_26_93, q_26_95_t, q_26_95_f, q_26_98, q_26_100, q_26_103, q_26_104, q_26_107, q_26_109, q_26_110, q_26_112, q_26_113, q_26_114, q_26_115, q_26_116, q_26_119, q_26_125, q_26_128, aft_i, aft_l, aft_v, Int.toNat_natCast, kd_sI, kd_sL, kd_sR, kd_cp, gI_sL, gI_sR, gL_sI, gL_sR, gR_sI, gR_sL, gL_cp, gR_cp, kd_aI, gL_aI, gR_aI, gI_aI, gI_aIn, sI_aI, gI_sIn, Int.reduceToNat, Int.reduceAdd, Int.reduceSub, Int.reduceMul, Int.reduceNeg, Int.zero_add, r119_0, rr]
        exact e
      · rw [if_neg z] at e
        simp (disch := (first | omega | (simp only [kd_sI, kd_sL, kd_sR, kd_cp, kd_aI]; omega) | (unfold catV; exact rfl) | (unfold catS; exact Nat.le_of_ble_eq_true rfl) | assumption)) only [q_26_0, q_26_1, q_26_2, q_26_5, q_26_6, q_26_8, q_26_10, q_26_12_t, q_26_12_f, q_26_15, q_26_16, q_26_19, q_26_21, q_26_22, q_26_23, q_26_26, q_26_28, q_26_29, q_26_32, q_26_35, q_26_36, q_26_38, q_26_39, q_26_42, q_26_43, q_26_44, q_26_46, q_26_48_t, q_26_48_f, q_26_51, q_26_52, q_26_54, q_26_55, q_26_56, q_26_57, q_26_58, q_26_59_t, q_26_59_f, q_26_62, q_26_63, q_26_66, q_26_68, q_26_69, q_26_70, q_26_72, q_26_73, q_26_77, q_26_79_t, q_26_79_f, q_26_82, q_26_83, q_26_86, q_26_88, q_26_89, q_26_91, q_26_93, q_26_95_t, q_26_95_f, q_26_98, q_26_100, q_26_103, q_26_104, q_26_107, q_26_109, q_26_110, q_26_112, q_26_113, q_26_114, q_26_115, q_26_116, q_26_119, q_26_125, q_26_128, aft_i, aft_l, aft_v, Int.toNat_natCast, kd_sI, kd_sL, kd_sR, kd_cp, gI_sL, gI_sR, gL_sI, gL_sR, gR_sI, gR_sL, gL_cp, gR_cp, kd_aI, gL_aI, gR_aI, gI_aI, gI_aIn, sI_aI, gI_sIn, Int.reduceToNat, Int.reduceAdd, Int.reduceSub, Int.reduceMul, Int.reduceNeg, Int.zero_add, r119_0, rr, ix]
        exact e
    · by_cases z : v = w
      · subst z
        rw [v3 v k (by omega), gI_sIs]
      · rw [v1 v (by omega) b, gI_sIn (by omega)]
    · by_cases z : v = w
      · subst z
        rw [v3 v j (by omega), gI_sIo n]
      · rw [v2 v j (by omega) b n, gI_sIn (by omega)]
    · rw [v3 v j (by omega), gI_sIn (by omega)]
theorem wMs_c_Z (d : Nat) (T : Td) (N : Nt) (k4 : tK T ≤ 40) (v40 : nV N < 2 ^ 40) : ∀ (k : Nat) (h : mH) (L : LAY_Z h) (x6 : mV), k ≤ tK T → (∀ w j, 1 ≤ w → w ≤ 6 → k ≤ j → j ≤ tK T → gI h (121 + w) j = rmF T N w j) → ∃ g, resA (callA d) 26 (46, [Sum.inr (Sum.inr (some 119)), Sum.inr (Sum.inl (nV N : Int)), Sum.inr (Sum.inr none), Sum.inl (tK T : Int), Sum.inl (dryF T N (tK T - k) k : Int), Sum.inl ((k : Int) - 1), x6], [], h) = some (none, g) ∧ rmS h g ∧ ∀ w j, 1 ≤ w → w ≤ 6 → j ≤ tK T → gI g (121 + w) j = rmF T N w j
  | 0, h, L, x6, hk, hr => by
    refine ⟨h, ?_, rmS_rf h, fun w j a b c => hr w j a b (Nat.zero_le _) c⟩
    rw [show ((0 : Nat) : Int) - 1 = -1 from rfl]
    simp (disch := (first | omega | (simp only [kd_sI, kd_sL, kd_sR, kd_cp, kd_aI]; omega) | (unfold catV; exact rfl) | (unfold catS; exact Nat.le_of_ble_eq_true rfl) | assumption)) only [q_26_0, q_26_1, q_26_2, q_26_5, q_26_6, q_26_8, q_26_10, q_26_12_t, q_26_12_f, q_26_15, q_26_16, q_26_19, q_26_21, q_26_22, q_26_23, q_26_26, q_26_28, q_26_29, q_26_32, q_26_35, q_26_36, q_26_38, q_26_39, q_26_42, q_26_43, q_26_44, q_26_46, q_26_48_t, q_26_48_f, q_26_51, q_26_52, q_26_54, q_26_55, q_26_56, q_26_57, q_26_58, q_26_59_t, q_26_59_f, q_26_62, q_26_63, q_26_66, q_26_68, q_26_69, q_26_70, q_26_72, q_26_73, q_26_75, q_26_77, q_26_79_t, q_26_79_f, q_26_82, q_26_83, q_26_86, q_26_88, q_26_89, q_26_91, q_26_93, q_26_95_t, q_26_95_f, q_26_98, q_26_100, q_26_103, q_26_104, q_26_107, q_26_109, q_26_110, q_26_112, q_26_113, q_26_114, q_26_115, q_26_116, q_26_119, q_26_122, q_26_125, q_26_128, aft_i, aft_l, aft_v, Int.toNat_natCast, kd_sI, kd_sL, kd_sR, kd_cp, gI_sL, gI_sR, gL_sI, gL_sR, gR_sI, gR_sL, gL_cp, gR_cp, kd_aI, gL_aI, gR_aI, gI_aI, gI_aIn, sI_aI, gI_sIn, Int.reduceToNat, Int.reduceAdd, Int.reduceSub, Int.reduceMul, Int.reduceNeg, Int.zero_add]
  | k + 1, h, L, x6, hk, hr => by
    have dl := dryF_le T N (tK T - (k + 1)) (k + 1)
    have dl2 := dryF_le T N (tK T - k) k
    have eD : dryF T N (tK T - k) k = if (nV N).testBit k = true then 0 else dryF T N (tK T - (k + 1)) (k + 1) + 1 := by
      rw [show tK T - k = (tK T - (k + 1)) + 1 by omega]
      rfl
    obtain ⟨g, e, sg, v1, v2, -⟩ := wMs_b_Z d (nV N) (tK T) k4 k (dryF T N (tK T - k) k) (by omega) (by omega) 6 1 h L rfl (Nat.le_refl _)
    have Lg := rmS_L_Z sg L
    obtain ⟨g2, e2, s2, v4⟩ := wMs_c_Z d T N k4 v40 k g Lg (Sum.inl 7) (by omega) (fun w j a b c f => by
      by_cases z : j = k
      · subst z
        rw [v1 w a b, rmF_up k4 (by omega), hr w (j + 1) a b (by omega) (by omega)]
      · rw [v2 w j a b z]
        exact hr w j a b (by omega) f)
    refine ⟨g2, ?_, rmS_tr sg s2, v4⟩
    have b := bitL (a := nV N) (c := k) (by omega) (by omega)
    have e0 : ((k + 1 : Nat) : Int) - 1 = (k : Int) := by omega
    have e1 : resA (callA d) 26 (75, [Sum.inr (Sum.inr (some 119)), Sum.inr (Sum.inl (nV N : Int)), Sum.inr (Sum.inr none), Sum.inl (tK T : Int), Sum.inl (dryF T N (tK T - k) k : Int), Sum.inl (k : Int), Sum.inl 1], [], h) = _ := e
    have e3 : (k : Int) + -1 = (k : Int) - 1 := by omega
    rw [e0, q_26_46]
    by_cases z : (nV N).testBit k = true
    · rw [if_pos z] at b eD
      rw [eD, show ((0 : Nat) : Int) = 0 from rfl] at e1 e2
      simp (disch := (first | omega | (simp only [kd_sI, kd_sL, kd_sR, kd_cp, kd_aI]; omega) | (unfold catV; exact rfl) | (unfold catS; exact Nat.le_of_ble_eq_true rfl) | assumption)) only [q_26_0, q_26_1, q_26_2, q_26_5, q_26_6, q_26_8, q_26_10, q_26_12_t, q_26_12_f, q_26_15, q_26_16, q_26_19, q_26_21, q_26_22, q_26_23, q_26_26, q_26_28, q_26_29, q_26_32, q_26_35, q_26_36, q_26_38, q_26_39, q_26_42, q_26_43, q_26_44, q_26_48_t, q_26_48_f, q_26_51, q_26_52, q_26_54, q_26_55, q_26_56, q_26_57, q_26_58, q_26_59_t, q_26_59_f, q_26_62, q_26_63, q_26_66, q_26_68, q_26_69, q_26_70, q_26_72, q_26_73, q_26_77, q_26_79_t, q_26_79_f, q_26_82, q_26_83, q_26_86, q_26_88, q_26_89, q_26_91, q_26_93, q_26_95_t, q_26_95_f, q_26_98, q_26_100, q_26_103, q_26_104, q_26_107, q_26_109, q_26_110, q_26_112, q_26_113, q_26_114, q_26_115, q_26_116, q_26_119, q_26_125, q_26_128, aft_i, aft_l, aft_v, Int.toNat_natCast, kd_sI, kd_sL, kd_sR, kd_cp, gI_sL, gI_sR, gL_sI, gL_sR, gR_sI, gR_sL, gL_cp, gR_cp, kd_aI, gL_aI, gR_aI, gI_aI, gI_aIn, sI_aI, gI_sIn, Int.reduceToNat, Int.reduceAdd, Int.reduceSub, Int.reduceMul, Int.reduceNeg, Int.zero_add, b, cmp11]
      rw [e1]
      simp (disch := (first | omega | (simp only [kd_sI, kd_sL, kd_sR, kd_cp, kd_aI]; omega) | (unfold catV; exact rfl) | (unfold catS; exact Nat.le_of_ble_eq_true rfl) | assumption)) only [q_26_0, q_26_1, q_26_2, q_26_5, q_26_6, q_26_8, q_26_10, q_26_12_t, q_26_12_f, q_26_15, q_26_16, q_26_19, q_26_21, q_26_22, q_26_23, q_26_26, q_26_28, q_26_29, q_26_32, q_26_35, q_26_36, q_26_38, q_26_39, q_26_42, q_26_43, q_26_44, q_26_48_t, q_26_48_f, q_26_51, q_26_52, q_26_54, q_26_55, q_26_56, q_26_57, q_26_58, q_26_59_t, q_26_59_f, q_26_62, q_26_63, q_26_66, q_26_68, q_26_69, q_26_70, q_26_72, q_26_73, q_26_77, q_26_79_t, q_26_79_f, q_26_82, q_26_83, q_26_86, q_26_88, q_26_89, q_26_91, q_26_93, q_26_95_t, q_26_95_f, q_26_98, q_26_100, q_26_103, q_26_104, q_26_107, q_26_109, q_26_110, q_26_112, q_26_113, q_26_114, q_26_115, q_26_116, q_26_119, q_26_122, q_26_125, q_26_128, aft_i, aft_l, aft_v, Int.toNat_natCast, kd_sI, kd_sL, kd_sR, kd_cp, gI_sL, gI_sR, gL_sI, gL_sR, gR_sI, gR_sL, gL_cp, gR_cp, kd_aI, gL_aI, gR_aI, gI_aI, gI_aIn, sI_aI, gI_sIn, Int.reduceToNat, Int.reduceAdd, Int.reduceSub, Int.reduceMul, Int.reduceNeg, Int.zero_add, e3]
      exact e2
    · rw [if_neg z] at b eD
      have eD2 : (dryF T N (tK T - k) k : Int) = (dryF T N (tK T - (k + 1)) (k + 1) : Int) + 1 := by omega
      rw [eD2] at e1 e2
      simp (disch := (first | omega | (simp only [kd_sI, kd_sL, kd_sR, kd_cp, kd_aI]; omega) | (unfold catV; exact rfl) | (unfold catS; exact Nat.le_of_ble_eq_true rfl) | assumption)) only [q_26_0, q_26_1, q_26_2, q_26_5, q_26_6, q_26_8, q_26_10, q_26_12_t, q_26_12_f, q_26_15, q_26_16, q_26_19, q_26_21, q_26_22, q_26_23, q_26_26, q_26_28, q_26_29, q_26_32, q_26_35, q_26_36, q_26_38, q_26_39, q_26_42, q_26_43, q_26_44, q_26_48_t, q_26_48_f, q_26_51, q_26_52, q_26_54, q_26_55, q_26_56, q_26_57, q_26_58, q_26_59_t, q_26_59_f, q_26_62, q_26_63, q_26_66, q_26_68, q_26_69, q_26_70, q_26_72, q_26_73, q_26_77, q_26_79_t, q_26_79_f, q_26_82, q_26_83, q_26_86, q_26_88, q_26_89, q_26_91, q_26_93, q_26_95_t, q_26_95_f, q_26_98, q_26_100, q_26_103, q_26_104, q_26_107, q_26_109, q_26_110, q_26_112, q_26_113, q_26_114, q_26_115, q_26_116, q_26_119, q_26_125, q_26_128, aft_i, aft_l, aft_v, Int.toNat_natCast, kd_sI, kd_sL, kd_sR, kd_cp, gI_sL, gI_sR, gL_sI, gL_sR, gR_sI, gR_sL, gL_cp, gR_cp, kd_aI, gL_aI, gR_aI, gI_aI, gI_aIn, sI_aI, gI_sIn, Int.reduceToNat, Int.reduceAdd, Int.reduceSub, Int.reduceMul, Int.reduceNeg, Int.zero_add, b, cmp01]
      rw [e1]
      simp (disch := (first | omega | (simp only [kd_sI, kd_sL, kd_sR, kd_cp, kd_aI]; omega) | (unfold catV; exact rfl) | (unfold catS; exact Nat.le_of_ble_eq_true rfl) | assumption)) only [q_26_0, q_26_1, q_26_2, q_26_5, q_26_6, q_26_8, q_26_10, q_26_12_t, q_26_12_f, q_26_15, q_26_16, q_26_19, q_26_21, q_26_22, q_26_23, q_26_26, q_26_28, q_26_29, q_26_32, q_26_35, q_26_36, q_26_38, q_26_39, q_26_42, q_26_43, q_26_44, q_26_48_t, q_26_48_f, q_26_51, q_26_52, q_26_54, q_26_55, q_26_56, q_26_57, q_26_58, q_26_59_t, q_26_59_f, q_26_62, q_26_63, q_26_66, q_26_68, q_26_69, q_26_70, q_26_72, q_26_73, q_26_77, q_26_79_t, q_26_79_f, q_26_82, q_26_83, q_26_86, q_26_88, q_26_89, q_26_91, q_26_93, q_26_95_t, q_26_95_f, q_26_98, q_26_100, q_26_103, q_26_104, q_26_107, q_26_109, q_26_110, q_26_112, q_26_113, q_26_114, q_26_115, q_26_116, q_26_119, q_26_122, q_26_125, q_26_128, aft_i, aft_l, aft_v, Int.toNat_natCast, kd_sI, kd_sL, kd_sR, kd_cp, gI_sL, gI_sR, gL_sI, gL_sR, gR_sI, gR_sL, gL_cp, gR_cp, kd_aI, gL_aI, gR_aI, gI_aI, gI_aIn, sI_aI, gI_sIn, Int.reduceToNat, Int.reduceAdd, Int.reduceSub, Int.reduceMul, Int.reduceNeg, Int.zero_add, e3]
      exact e2
theorem wMs_ok_Z (d : Nat) (h : mH) (L : LAY_Z h) (T : Td) (N : Nt) (k4 : tK T ≤ 40) (v40 : nV N < 2 ^ 40) : ∃ g, callA (d + 1) 26 [Sum.inr (Sum.inr (some 119)), Sum.inr (Sum.inl (nV N : Int)), Sum.inl (tK T : Int)] h = some (none, g) ∧ rmS (sI h 119 1 (tK T)) g ∧ ∀ w j, 1 ≤ w → w ≤ 6 → j ≤ tK T → gI g (121 + w) j = rmF T N w j := by
  have L0 := L
  have L1 := lay_sI_Z L 119 1 (tK T)
  obtain ⟨g1, e1, s1, v1, -⟩ := wMs_a_Z d (nV N) (tK T) k4 (Sum.inr (Sum.inr none)) (Sum.inr (Sum.inr none)) 6 1 _ L1 rfl (Nat.le_refl _) (gI_sIs h 119 1 _)
  have Lg := rmS_L_Z s1 L1
  have n1 : gI g1 119 1 = tK T := by rw [s1.2.2.2 119 1 (by omega), gI_sIs]
  obtain ⟨g2, e2, s2, v2⟩ := wMs_c_Z d T N k4 v40 (tK T) g1 Lg (Sum.inr (Sum.inr none)) (Nat.le_refl _) (fun w j a b c f => by
    have : j = tK T := by omega
    subst this
    rw [v1 w a b, rmF_end a])
  refine ⟨g2, ?_, rmS_tr s1 s2, v2⟩
  have e1 : resA (callA d) 26 (8, [Sum.inr (Sum.inr (some 119)), Sum.inr (Sum.inl (nV N : Int)), Sum.inr (Sum.inr none), Sum.inl (tK T : Int), Sum.inl 1, Sum.inr (Sum.inr none), Sum.inr (Sum.inr none)], [], sI h 119 1 (tK T)) = _ := e1
  rw [Nat.sub_self] at e2
  have e2 : resA (callA d) 26 (46, [Sum.inr (Sum.inr (some 119)), Sum.inr (Sum.inl (nV N : Int)), Sum.inr (Sum.inr none), Sum.inl (tK T : Int), Sum.inl 0, Sum.inl ((tK T : Int) - 1), Sum.inr (Sum.inr none)], [], g1) = _ := e2
  obtain ⟨m1, m2⟩ := lay_k_Z Lg (a := 119) (t := 3) (n := 2) rfl
  obtain ⟨k119, j119⟩ := lay_k_Z L0 (a := 119) (t := 3) (n := 2) rfl
  rw [en_26]
  simp (disch := (first | omega | (simp only [kd_sI, kd_sL, kd_sR, kd_cp, kd_aI]; omega) | (unfold catV; exact rfl) | (unfold catS; exact Nat.le_of_ble_eq_true rfl) | assumption)) only [q_26_0, q_26_1, q_26_2, q_26_5, q_26_6, q_26_10, q_26_12_t, q_26_12_f, q_26_15, q_26_16, q_26_19, q_26_21, q_26_22, q_26_23, q_26_26, q_26_28, q_26_29, q_26_32, q_26_35, q_26_36, q_26_38, q_26_39, q_26_42, q_26_43, q_26_44, q_26_48_t, q_26_48_f, q_26_51, q_26_52, q_26_54, q_26_55, q_26_56, q_26_57, q_26_58, q_26_59_t, q_26_59_f, q_26_62, q_26_63, q_26_66, q_26_68, q_26_69, q_26_70, q_26_72, q_26_73, q_26_75, q_26_77, q_26_79_t, q_26_79_f, q_26_82, q_26_83, q_26_86, q_26_88, q_26_89, q_26_91, q_26_93, q_26_95_t, q_26_95_f, q_26_98, q_26_100, q_26_103, q_26_104, q_26_107, q_26_109, q_26_110, q_26_112, q_26_113, q_26_114, q_26_115, q_26_116, q_26_119, q_26_122, q_26_125, q_26_128, aft_i, aft_l, aft_v, Int.toNat_natCast, kd_sI, kd_sL, kd_sR, kd_cp, gI_sL, gI_sR, gL_sI, gL_sR, gR_sI, gR_sL, gL_cp, gR_cp, kd_aI, gL_aI, gR_aI, gI_aI, gI_aIn, sI_aI, gI_sIn, Int.reduceToNat, Int.reduceAdd, Int.reduceSub, Int.reduceMul, Int.reduceNeg, Int.zero_add]
  rw [e1]
  simp (disch := (first | omega | (simp only [kd_sI, kd_sL, kd_sR, kd_cp, kd_aI]; omega) | (unfold catV; exact rfl) | (unfold catS; exact Nat.le_of_ble_eq_true rfl) | assumption)) only [q_26_0, q_26_1, q_26_2, q_26_5, q_26_6, q_26_10, q_26_12_t, q_26_12_f, q_26_15, q_26_16, q_26_19, q_26_21, q_26_22, q_26_23, q_26_26, q_26_28, q_26_29, q_26_32, q_26_35, q_26_36, q_26_38, q_26_39, q_26_42, q_26_43, q_26_44, q_26_48_t, q_26_48_f, q_26_51, q_26_52, q_26_54, q_26_55, q_26_56, q_26_57, q_26_58, q_26_59_t, q_26_59_f, q_26_62, q_26_63, q_26_66, q_26_68, q_26_69, q_26_70, q_26_72, q_26_73, q_26_75, q_26_77, q_26_79_t, q_26_79_f, q_26_82, q_26_83, q_26_86, q_26_88, q_26_89, q_26_91, q_26_93, q_26_95_t, q_26_95_f, q_26_98, q_26_100, q_26_103, q_26_104, q_26_107, q_26_109, q_26_110, q_26_112, q_26_113, q_26_114, q_26_115, q_26_116, q_26_119, q_26_122, q_26_125, q_26_128, aft_i, aft_l, aft_v, Int.toNat_natCast, kd_sI, kd_sL, kd_sR, kd_cp, gI_sL, gI_sR, gL_sI, gL_sR, gR_sI, gR_sL, gL_cp, gR_cp, kd_aI, gL_aI, gR_aI, gI_aI, gI_aIn, sI_aI, gI_sIn, Int.reduceToNat, Int.reduceAdd, Int.reduceSub, Int.reduceMul, Int.reduceNeg, Int.zero_add, n1]
  exact e2
theorem wFf_ok_Z (d : Nat) (h : mH) (L : LAY_Z h) (T : Td) (N : Nt) (k4 : tK T ≤ 40) (r : rmOK h T N) (w k : Nat) (hw : 1 ≤ w ∧ w ≤ 6) (hk : k ≤ tK T) : callA (d + 1) 27 [Sum.inr (Sum.inr (some 119)), Sum.inl (w : Int), Sum.inl (k : Int)] h = some (some (Sum.inl (rmF T N w k)), h) := by
  obtain ⟨r1, r2⟩ := r
  have e := r2 w k hw.1 hw.2 hk
  have rr := rmR_Z L (show w < 7 by omega)
  obtain ⟨q1, q2⟩ := rmK_Z L (show w < 7 by omega)
  obtain ⟨k119, j119⟩ := lay_k_Z L (a := 119) (t := 3) (n := 2) rfl; obtain ⟨k120, j120⟩ := lay_k_Z L (a := 120) (t := 105) (n := 7) rfl; have r119_0 : gR h 119 0 = some 120 := lay_r_Z L rfl
  rw [en_27]
  simp (disch := (first | omega | (simp only [kd_sI, kd_sL, kd_sR, kd_cp, kd_aI]; omega) | (unfold catV; exact rfl) | (unfold catS; exact Nat.le_of_ble_eq_true rfl) | assumption)) only [q_27_0, q_27_1, q_27_2_t, q_27_2_f, q_27_5, q_27_6, q_27_8_t, q_27_8_f, q_27_11, q_27_12_t, q_27_12_f, q_27_15, q_27_16, q_27_17, q_27_20_t, q_27_20_f, q_27_23, q_27_25, q_27_26, q_27_27, q_27_30, q_27_31, q_27_32, q_27_33, q_27_34, aft_i, aft_l, aft_v, Int.toNat_natCast, kd_sI, kd_sL, kd_sR, kd_cp, gI_sL, gI_sR, gL_sI, gL_sR, gR_sI, gR_sL, gL_cp, gR_cp, kd_aI, gL_aI, gR_aI, gI_aI, gI_aIn, sI_aI, gI_sIn, Int.reduceToNat, Int.reduceAdd, Int.reduceSub, Int.reduceMul, Int.reduceNeg, Int.zero_add, r1, r119_0, rr, e]
theorem wSu_b_Z (d : Nat) (h : mH) (L : LAY_Z h) (T : Td) (N : Nt) (wT : wfT T) (wN : wfN T N) (r : rmOK h T N) (hx : ∀ c, c < tN T → gI h 16 c = nX N c) (p0 p3 : Nat) (q1 : (kd h p0).1 = 100) (q2 : (kd h p0).2 = 7) (q3 : (kd h p3).1 = 100) (q4 : (kd h p3).2 = 7) (ne : p0 ≠ p3) (n16 : p3 ≠ 16) (n9 : ¬ (119 ≤ p3 ∧ p3 ≤ 127)) (hr : ∀ i, i < nM N → gI h p0 i = nR N i) (F0 : Nat → Int) (h0 : ∀ c, c < 7 → F0 c = -9) : ∀ (k i f : Nat) (x7 x8 : mV), i + k = nM N → suS (lnd T N) (tK T) (nX N) (nR N) i = some f → ∃ G, (∀ c, c < 7 → G c = fcS T N c) ∧ resA (callA (d + 1)) 28 (29, [Sum.inr (Sum.inr (some 119)), Sum.inr (Sum.inr (some p0)), Sum.inl (nM N : Int), Sum.inr (Sum.inr (some 16)), Sum.inr (Sum.inr (some p3)), Sum.inl (f : Int), Sum.inl (i : Int), x7, x8], [], aI h p3 (fiF (lnd T N) (tK T) (nX N) (nR N) F0 i)) = some (some (Sum.inl (stN T N : Int)), aI h p3 G)
  | 0, i, f, x7, x8, hi, hs => by
    have e : i = nM N := hi
    have n7 : nM N ≤ 7 := Nat.le_trans wN.1 wT.1
    subst e
    have sn : stN T N = nM N := by
      have le := stN_le T N
      by_cases z : stN T N < nM N
      · exfalso
        have c := fc_st wN (T := T) z
        have : ¬ (suP (lnd T N) (tK T) (nX N) (nR N) (stN T N)).isSome = true := fun y => by have := (plN_iff z).mpr y; exact Nat.lt_irrefl _ this
        cases hM : nM N with
        | zero => omega
        | succ m =>
          rw [hM, suS_s] at hs
          cases e2 : suP (lnd T N) (tK T) (nX N) (nR N) m with
          | none => rw [e2] at hs; cases hs
          | some p =>
            by_cases y : stN T N = m
            · rw [y, e2] at this; exact this rfl
            · obtain ⟨p2, e3, -⟩ := suP_mono (show stN T N < m by omega) e2
              rw [e3] at this
              exact this rfl
      · omega
    refine ⟨fiF (lnd T N) (tK T) (nX N) (nR N) F0 (nM N), fun c hc => ?_, ?_⟩
    · exact fi_F0 (h0 c hc) _
    · rw [sn, q_28_29]
      simp (disch := (first | omega | (simp only [kd_sI, kd_sL, kd_sR, kd_cp, kd_aI]; omega) | (unfold catV; exact rfl) | (unfold catS; exact Nat.le_of_ble_eq_true rfl) | assumption)) only [q_28_0, q_28_1, q_28_3, q_28_5, q_28_7_t, q_28_7_f, q_28_10, q_28_12, q_28_14, q_28_16, q_28_17, q_28_20, q_28_23, q_28_24, q_28_26, q_28_27, q_28_31, q_28_32_t, q_28_32_f, q_28_35, q_28_36, q_28_38, q_28_39, q_28_41, q_28_42, q_28_43, q_28_45, q_28_46, q_28_48, q_28_51, q_28_53, q_28_55, q_28_57_t, q_28_57_f, q_28_60, q_28_62, q_28_63, q_28_65, q_28_67, q_28_69, q_28_70, q_28_72, q_28_73, q_28_75, q_28_76, q_28_77, q_28_79, q_28_82, q_28_85, q_28_86, aft_i, aft_l, aft_v, Int.toNat_natCast, kd_sI, kd_sL, kd_sR, kd_cp, gI_sL, gI_sR, gL_sI, gL_sR, gR_sI, gR_sL, gL_cp, gR_cp, kd_aI, gL_aI, gR_aI, gI_aI, gI_aIn, sI_aI, gI_sIn, Int.reduceToNat, Int.reduceAdd, Int.reduceSub, Int.reduceMul, Int.reduceNeg, Int.zero_add]
  | k + 1, i, f, x7, x8, hi, hs => by
    have c7 := wT.1
    have k4 := wT.2.1
    have n7 : nM N ≤ 7 := Nat.le_trans wN.1 wT.1
    have ri := wN.2.1 i (by omega)
    have xi := wN.2.2.2.1 (nR N i) ri
    have hi2 := hr i (by omega)
    have hx2 := hx (nR N i) ri
    have fk := suS_le hs
    have sp : suP (lnd T N) (tK T) (nX N) (nR N) i = fstF (lnd T N) (tK T) (nX N (nR N i)) (40 - f) f := by
      unfold suP
      rw [hs]
    have L2 : LAY_Z (aI h p3 (fiF (lnd T N) (tK T) (nX N) (nR N) F0 i)) := lay_aI_Z L _ _
    have r2 : rmOK (aI h p3 (fiF (lnd T N) (tK T) (nX N) (nR N) F0 i)) T N := ⟨by rw [gI_aIn (by omega)]; exact r.1, fun w k a b c => by rw [gI_aIn (by omega)]; exact r.2 w k a b c⟩
    have e1 := wFf_ok_Z d _ L2 T N k4 r2 (nX N (nR N i)) f xi fk
    have eR : rmF T N (nX N (nR N i)) f = vO (suP (lnd T N) (tK T) (nX N) (nR N) i) := by
      rw [sp]
      rfl
    rw [eR] at e1
    have g1 : gI (aI h p3 (fiF (lnd T N) (tK T) (nX N) (nR N) F0 i)) p0 i = nR N i := by rw [gI_aIn ne]; exact hi2
    have g2 : gI (aI h p3 (fiF (lnd T N) (tK T) (nX N) (nR N) F0 i)) 16 (nR N i) = nX N (nR N i) := by rw [gI_aIn (Ne.symm n16)]; exact hx2
    obtain ⟨a1, a2⟩ := lay_k_Z L2 (a := 119) (t := 3) (n := 2) rfl
    obtain ⟨a3, a4⟩ := lay_k_Z L2 (a := 16) (t := 100) (n := 7) rfl
    have b1 : (kd (aI h p3 (fiF (lnd T N) (tK T) (nX N) (nR N) F0 i)) p0).1 = 100 := q1
    have b2 : (kd (aI h p3 (fiF (lnd T N) (tK T) (nX N) (nR N) F0 i)) p0).2 = 7 := q2
    have b3 : (kd (aI h p3 (fiF (lnd T N) (tK T) (nX N) (nR N) F0 i)) p3).1 = 100 := q3
    have b4 : (kd (aI h p3 (fiF (lnd T N) (tK T) (nX N) (nR N) F0 i)) p3).2 = 7 := q4
    cases hp : suP (lnd T N) (tK T) (nX N) (nR N) i with
    | none =>
      rw [hp] at e1
      have e1 : callA (d + 1) 27 [Sum.inr (Sum.inr (some 119)), Sum.inl (nX N (nR N i) : Int), Sum.inl (f : Int)] (aI h p3 (fiF (lnd T N) (tK T) (nX N) (nR N) F0 i)) = some (some (Sum.inl (-9)), aI h p3 (fiF (lnd T N) (tK T) (nX N) (nR N) F0 i)) := e1
      have st : ∀ j, j < nM N → (j < stN T N ↔ (suP (lnd T N) (tK T) (nX N) (nR N) j).isSome = true) := fun j hj => plN_iff hj
      have nx : ∀ j, i ≤ j → suP (lnd T N) (tK T) (nX N) (nR N) j = none := fun j hj => by
        cases q : suP (lnd T N) (tK T) (nX N) (nR N) j with
        | none => rfl
        | some p =>
          by_cases z : j = i
          · subst z; rw [hp] at q; cases q
          · obtain ⟨p2, e3, -⟩ := suP_mono (show i < j by omega) q
            rw [hp] at e3
            cases e3
      have sn : stN T N = i := by
        have le := stN_le T N
        by_cases z : stN T N < i
        · exfalso
          have y : ¬ (suP (lnd T N) (tK T) (nX N) (nR N) (stN T N)).isSome = true := fun y => by have := (st _ (by omega)).mpr y; exact Nat.lt_irrefl _ this
          cases i with
          | zero => omega
          | succ m =>
            rw [suS_s] at hs
            cases e2 : suP (lnd T N) (tK T) (nX N) (nR N) m with
            | none => rw [e2] at hs; cases hs
            | some p =>
              by_cases u : stN T N = m
              · rw [u, e2] at y; exact y rfl
              · obtain ⟨p2, e3, -⟩ := suP_mono (show stN T N < m by omega) e2
                rw [e3] at y
                exact y rfl
        · by_cases y : i < stN T N
          · have := (st i (by omega)).mp y
            rw [hp] at this
            cases this
          · omega
      refine ⟨fiF (lnd T N) (tK T) (nX N) (nR N) F0 i, fun c hc => ?_, ?_⟩
      · by_cases z : ∃ j, j < nM N ∧ nR N j = c
        · obtain ⟨j, hj, e⟩ := z
          subst e
          rw [fc_at wN hj]
          unfold pF
          by_cases y : j < i
          · exact fiF_in (fun a b ha hb => wN.2.2.1 a b (by omega) (by omega)) j y
          · rw [fiF_out (fun a ha u => by have := wN.2.2.1 a j (by omega) hj u; omega), h0 _ hc, nx j (by omega)]
            rfl
        · rw [fc_no (fun j hj e => z ⟨j, hj, e⟩), fiF_out (fun j hj e => z ⟨j, by omega, e⟩)]
          exact h0 c hc
      · rw [sn, q_28_29]
        simp (disch := (first | omega | (simp only [kd_sI, kd_sL, kd_sR, kd_cp, kd_aI]; omega) | (unfold catV; exact rfl) | (unfold catS; exact Nat.le_of_ble_eq_true rfl) | assumption)) only [q_28_0, q_28_1, q_28_3, q_28_5, q_28_7_t, q_28_7_f, q_28_10, q_28_12, q_28_14, q_28_16, q_28_17, q_28_20, q_28_23, q_28_24, q_28_26, q_28_27, q_28_31, q_28_32_t, q_28_32_f, q_28_35, q_28_36, q_28_38, q_28_39, q_28_41, q_28_42, q_28_43, q_28_45, q_28_46, q_28_48, q_28_51, q_28_53, q_28_55, q_28_57_t, q_28_57_f, q_28_60, q_28_62, q_28_63, q_28_65, q_28_67, q_28_69, q_28_70, q_28_72, q_28_73, q_28_75, q_28_76, q_28_77, q_28_79, q_28_82, q_28_85, q_28_86, aft_i, aft_l, aft_v, Int.toNat_natCast, kd_sI, kd_sL, kd_sR, kd_cp, gI_sL, gI_sR, gL_sI, gL_sR, gR_sI, gR_sL, gL_cp, gR_cp, kd_aI, gL_aI, gR_aI, gI_aI, gI_aIn, sI_aI, gI_sIn, Int.reduceToNat, Int.reduceAdd, Int.reduceSub, Int.reduceMul, Int.reduceNeg, Int.zero_add, g1, g2, e1]
    | some p =>
      rw [hp] at e1
      have e1 : callA (d + 1) 27 [Sum.inr (Sum.inr (some 119)), Sum.inl (nX N (nR N i) : Int), Sum.inl (f : Int)] (aI h p3 (fiF (lnd T N) (tK T) (nX N) (nR N) F0 i)) = some (some (Sum.inl (p : Int)), aI h p3 (fiF (lnd T N) (tK T) (nX N) (nR N) F0 i)) := e1
      have pb : p + nX N (nR N i) ≤ tK T := by
        rw [sp] at hp
        exact freeB_le (fstF_some hp).2.2.1
      have s2 : suS (lnd T N) (tK T) (nX N) (nR N) (i + 1) = some (p + nX N (nR N i)) := by
        rw [suS_s, hp]
        rfl
      obtain ⟨G, hG, ih⟩ := wSu_b_Z d h L T N wT wN r hx p0 p3 q1 q2 q3 q4 ne n16 n9 hr F0 h0 k (i + 1) (p + nX N (nR N i)) (Sum.inl (nR N i : Int)) (Sum.inl (p : Int)) (by omega) s2
      refine ⟨G, hG, ?_⟩
      have eF : fiF (lnd T N) (tK T) (nX N) (nR N) F0 (i + 1) = upI (fiF (lnd T N) (tK T) (nX N) (nR N) F0 i) (nR N i) (p : Int) := by
        show upI _ _ (vO (suP (lnd T N) (tK T) (nX N) (nR N) i)) = _
        rw [hp]
        rfl
      have g3 : gI (aI h p3 (upI (fiF (lnd T N) (tK T) (nX N) (nR N) F0 i) (nR N i) (p : Int))) 16 (nR N i) = nX N (nR N i) := by rw [gI_aIn (Ne.symm n16)]; exact hx2
      rw [eF] at ih
      obtain ⟨u1, u2⟩ := lay_k_Z L (a := 16) (t := 100) (n := 7) rfl
      rw [q_28_29]
      simp (disch := (first | omega | (simp only [kd_sI, kd_sL, kd_sR, kd_cp, kd_aI]; omega) | (unfold catV; exact rfl) | (unfold catS; exact Nat.le_of_ble_eq_true rfl) | assumption)) only [q_28_0, q_28_1, q_28_3, q_28_5, q_28_7_t, q_28_7_f, q_28_10, q_28_12, q_28_14, q_28_16, q_28_17, q_28_20, q_28_23, q_28_24, q_28_26, q_28_27, q_28_31, q_28_32_t, q_28_32_f, q_28_35, q_28_36, q_28_38, q_28_39, q_28_41, q_28_42, q_28_43, q_28_45, q_28_46, q_28_48, q_28_51, q_28_53, q_28_55, q_28_57_t, q_28_57_f, q_28_60, q_28_62, q_28_63, q_28_65, q_28_67, q_28_69, q_28_70, q_28_72, q_28_73, q_28_75, q_28_76, q_28_77, q_28_79, q_28_82, q_28_85, q_28_86, aft_i, aft_l, aft_v, Int.toNat_natCast, kd_sI, kd_sL, kd_sR, kd_cp, gI_sL, gI_sR, gL_sI, gL_sR, gR_sI, gR_sL, gL_cp, gR_cp, kd_aI, gL_aI, gR_aI, gI_aI, gI_aIn, sI_aI, gI_sIn, Int.reduceToNat, Int.reduceAdd, Int.reduceSub, Int.reduceMul, Int.reduceNeg, Int.zero_add, g1, g2, e1, g3]
      exact ih
theorem wSetUp_ok_Z (d : Nat) (h : mH) (L : LAY_Z h) (T : Td) (N : Nt) (wT : wfT T) (wN : wfN T N) (r : rmOK h T N) (hx : ∀ c, c < tN T → gI h 16 c = nX N c) (p0 p3 : Nat) (q1 : (kd h p0).1 = 100) (q2 : (kd h p0).2 = 7) (q3 : (kd h p3).1 = 100) (q4 : (kd h p3).2 = 7) (ne : p0 ≠ p3) (n16 : p3 ≠ 16) (n9 : ¬ (119 ≤ p3 ∧ p3 ≤ 127)) (hr : ∀ i, i < nM N → gI h p0 i = nR N i) : ∃ G, (∀ c, c < 7 → G c = fcS T N c) ∧ callA (d + 2) 28 [Sum.inr (Sum.inr (some 119)), Sum.inr (Sum.inr (some p0)), Sum.inl (nM N : Int), Sum.inr (Sum.inr (some 16)), Sum.inr (Sum.inr (some p3))] h = some (some (Sum.inl (stN T N : Int)), aI h p3 G) := by
  have ea := wSu_a (d + 1) h p0 p3 (nM N) q3 q4 7 0 rfl
  rw [mixI_0, aI_id, show ((0 : Nat) : Int) = 0 from rfl] at ea
  obtain ⟨G, hG, eb⟩ := wSu_b_Z d h L T N wT wN r hx p0 p3 q1 q2 q3 q4 ne n16 n9 hr (mixI 7 (fun _ => -9) (gI h p3)) (fun c hc => by rw [mixI_in hc]) (nM N) 0 0 (Sum.inr (Sum.inr none)) (Sum.inr (Sum.inr none)) (Nat.zero_add _) rfl
  refine ⟨G, hG, ?_⟩
  have eb : resA (callA (d + 1)) 28 (29, [Sum.inr (Sum.inr (some 119)), Sum.inr (Sum.inr (some p0)), Sum.inl (nM N : Int), Sum.inr (Sum.inr (some 16)), Sum.inr (Sum.inr (some p3)), Sum.inl 0, Sum.inl 0, Sum.inr (Sum.inr none), Sum.inr (Sum.inr none)], [], aI h p3 (mixI 7 (fun _ => -9) (gI h p3))) = _ := eb
  rw [en_28]
  simp (disch := (first | omega | (simp only [kd_sI, kd_sL, kd_sR, kd_cp, kd_aI]; omega) | (unfold catV; exact rfl) | (unfold catS; exact Nat.le_of_ble_eq_true rfl) | assumption)) only [q_28_0, q_28_1, q_28_5, q_28_7_t, q_28_7_f, q_28_10, q_28_12, q_28_14, q_28_16, q_28_17, q_28_20, q_28_23, q_28_24, q_28_26, q_28_27, q_28_29, q_28_31, q_28_32_t, q_28_32_f, q_28_35, q_28_36, q_28_38, q_28_39, q_28_41, q_28_42, q_28_43, q_28_45, q_28_46, q_28_48, q_28_51, q_28_53, q_28_55, q_28_57_t, q_28_57_f, q_28_60, q_28_62, q_28_63, q_28_65, q_28_67, q_28_69, q_28_70, q_28_72, q_28_73, q_28_75, q_28_76, q_28_77, q_28_79, q_28_82, q_28_85, q_28_86, aft_i, aft_l, aft_v, Int.toNat_natCast, kd_sI, kd_sL, kd_sR, kd_cp, gI_sL, gI_sR, gL_sI, gL_sR, gR_sI, gR_sL, gL_cp, gR_cp, kd_aI, gL_aI, gR_aI, gI_aI, gI_aIn, sI_aI, gI_sIn, Int.reduceToNat, Int.reduceAdd, Int.reduceSub, Int.reduceMul, Int.reduceNeg, Int.zero_add]
  rw [ea]
  simp (disch := (first | omega | (simp only [kd_sI, kd_sL, kd_sR, kd_cp, kd_aI]; omega) | (unfold catV; exact rfl) | (unfold catS; exact Nat.le_of_ble_eq_true rfl) | assumption)) only [q_28_0, q_28_1, q_28_3, q_28_5, q_28_7_t, q_28_7_f, q_28_10, q_28_12, q_28_14, q_28_16, q_28_17, q_28_20, q_28_23, q_28_24, q_28_26, q_28_27, q_28_31, q_28_32_t, q_28_32_f, q_28_35, q_28_36, q_28_38, q_28_39, q_28_41, q_28_42, q_28_43, q_28_45, q_28_46, q_28_48, q_28_51, q_28_53, q_28_55, q_28_57_t, q_28_57_f, q_28_60, q_28_62, q_28_63, q_28_65, q_28_67, q_28_69, q_28_70, q_28_72, q_28_73, q_28_75, q_28_76, q_28_77, q_28_79, q_28_82, q_28_85, q_28_86, aft_i, aft_l, aft_v, Int.toNat_natCast, kd_sI, kd_sL, kd_sR, kd_cp, gI_sL, gI_sR, gL_sI, gL_sR, gR_sI, gR_sL, gL_cp, gR_cp, kd_aI, gL_aI, gR_aI, gI_aI, gI_aIn, sI_aI, gI_sIn, Int.reduceToNat, Int.reduceAdd, Int.reduceSub, Int.reduceMul, Int.reduceNeg, Int.zero_add]
  exact eb
theorem wSettle_ok_Z (d : Nat) (h : mH) (L : LAY_Z h) (T : Td) (N : Nt) (wT : wfT T) (wN : wfN T N) (t : cT h T) (u : ntA h 14 T N) : ∃ g, callA (d + 3) 98 [Sum.inr (Sum.inr (some 0))] h = some (none, g) ∧ ((g.1 = h.1 ∧ gL g = gL h ∧ gR g = gR h) ∧ ∀ q k, ¬ (q = 0 ∧ (k = 7 ∨ k = 9)) → ¬ (119 ≤ q ∧ q ≤ 128) → gI g q k = gI h q k) ∧ LAY_Z g ∧ cC g T N ∧ gI g 0 9 = 0 := by
  have L0 := L
  have k4 := wT.2.1
  have t5 := t.2.1
  have u2 := u.1
  have u4 := u.2.2.1
  have v40 := wN.2.2.2.2.2.2
  obtain ⟨g1, e1, s1, r1⟩ := wMs_ok_Z (d + 1) h L T N k4 v40
  have L1 := rmS_L_Z s1 (lay_sI_Z L _ _ _)
  have q1 : ∀ q k, ¬ (119 ≤ q ∧ q ≤ 127) → gI g1 q k = gI h q k := fun q k n => by rw [s1.2.2.2 q k (by omega), gI_sIn (by omega)]
  have rm1 : rmOK g1 T N := ⟨by rw [s1.2.2.2 119 1 (by omega), gI_sIs], fun w k a b c => r1 w k a b c⟩
  obtain ⟨a1, a2⟩ := lay_k_Z L1 (a := 15) (t := 100) (n := 7) rfl
  obtain ⟨a3, a4⟩ := lay_k_Z L1 (a := 128) (t := 100) (n := 7) rfl
  obtain ⟨G, hG, e2⟩ := wSetUp_ok_Z d g1 L1 T N wT wN rm1 (fun c hc => by rw [q1 16 c (by omega)]; exact u.2.2.2.2 c hc) 15 128 a1 a2 a3 a4 (by omega) (by omega) (by omega) (fun i hi => by rw [q1 15 i (by omega)]; exact u.2.2.2.1 i hi)
  have L2 : LAY_Z (aI g1 128 G) := lay_aI_Z L1 _ _
  refine ⟨sI (sI (aI g1 128 G) 0 7 (stN T N)) 0 9 0, ?_, ⟨⟨s1.1, s1.2.1, s1.2.2.1⟩, fun q k n1 n2 => ?_⟩, lay_sI_Z (lay_sI_Z L2 _ _ _) _ _ _, ⟨fun c hc => ?_, ?_, ?_, fun w k x1 x2 x3 => ?_⟩, gI_sIs _ _ _ _⟩
  · obtain ⟨b1, b2⟩ := lay_k_Z L1 (a := 0) (t := 7) (n := 17) rfl
    obtain ⟨b3, b4⟩ := lay_k_Z L1 (a := 13) (t := 4) (n := 4) rfl
    obtain ⟨b5, b6⟩ := lay_k_Z L1 (a := 14) (t := 2) (n := 5) rfl
    have x1 : gR g1 0 5 = some 119 := lay_r_Z L1 rfl
    have x2 : gR g1 0 3 = some 13 := lay_r_Z L1 rfl
    have x3 : gR g1 13 0 = some 14 := lay_r_Z L1 rfl
    have x4 : gR g1 14 0 = some 15 := lay_r_Z L1 rfl
    have x5 : gR g1 14 1 = some 16 := lay_r_Z L1 rfl
    have x6 : gR g1 0 6 = some 128 := lay_r_Z L1 rfl
    have x7 : gI g1 14 2 = nM N := by rw [q1 14 2 (by omega)]; exact u2
    obtain ⟨b7, b8⟩ := lay_k_Z L1 (a := 119) (t := 3) (n := 2) rfl
    obtain ⟨k0, j0⟩ := lay_k_Z L0 (a := 0) (t := 7) (n := 17) rfl; obtain ⟨k3, j3⟩ := lay_k_Z L0 (a := 3) (t := 6) (n := 8) rfl; obtain ⟨k13, j13⟩ := lay_k_Z L0 (a := 13) (t := 4) (n := 4) rfl; obtain ⟨k14, j14⟩ := lay_k_Z L0 (a := 14) (t := 2) (n := 5) rfl; obtain ⟨k119, j119⟩ := lay_k_Z L0 (a := 119) (t := 3) (n := 2) rfl; have r0_1 : gR h 0 1 = some 3 := lay_r_Z L0 rfl; have r0_3 : gR h 0 3 = some 13 := lay_r_Z L0 rfl; have r0_5 : gR h 0 5 = some 119 := lay_r_Z L0 rfl; have r13_0 : gR h 13 0 = some 14 := lay_r_Z L0 rfl
    rw [en_98]
    simp (disch := (first | omega | (simp only [kd_sI, kd_sL, kd_sR, kd_cp, kd_aI]; omega) | (unfold catV; exact rfl) | (unfold catS; exact Nat.le_of_ble_eq_true rfl) | assumption)) only [q_98_0, q_98_1, q_98_4, q_98_5, q_98_8, q_98_11, q_98_14, q_98_15, q_98_18, q_98_21, q_98_24, q_98_25, q_98_26, q_98_29, q_98_30, q_98_33, q_98_36, q_98_39, q_98_40, q_98_43, q_98_46, q_98_49, q_98_50, q_98_53, q_98_56, q_98_59, q_98_60, q_98_63, q_98_66, q_98_69, q_98_70, q_98_71, q_98_74, aft_i, aft_l, aft_v, Int.toNat_natCast, kd_sI, kd_sL, kd_sR, kd_cp, gI_sL, gI_sR, gL_sI, gL_sR, gR_sI, gR_sL, gL_cp, gR_cp, kd_aI, gL_aI, gR_aI, gI_aI, gI_aIn, sI_aI, gI_sIn, Int.reduceToNat, Int.reduceAdd, Int.reduceSub, Int.reduceMul, Int.reduceNeg, Int.zero_add, r0_5, r0_3, r13_0, r0_1, t5, u4, e1, x1, x2, x3, x4, x5, x6, x7, e2]
  · rw [gI_sI, if_neg (by omega), gI_sI, if_neg (by omega), gI_aIn (by omega), q1 q k (by omega)]
  · rw [gI_sIn (by omega), gI_sIn (by omega), gI_aI]; exact hG c hc
  · rw [gI_sIo (by omega), gI_sIs]
  · rw [gI_sIn (by omega), gI_sIn (by omega), gI_aIn (by omega)]; exact rm1.1
  · rw [gI_sIn (by omega), gI_sIn (by omega), gI_aIn (by omega)]; exact rm1.2 w k x1 x2 x3
theorem settle_CI_Z (d : Nat) (h : mH) (L : LAY_Z h) (σ : Sg) (w : wfS σ) (c : CI0 h σ) : ∃ g, callA (d + 3) 98 [Sum.inr (Sum.inr (some 0))] h = some (none, g) ∧ qt h g ∧ LAY_Z g ∧ CI g σ := by
  obtain ⟨π, c2⟩ := c.2.1
  obtain ⟨g, e, ⟨⟨s1, s2, s3⟩, s4⟩, Lg, cc, b0⟩ := wSettle_ok_Z d h L (zT σ) (zN σ) w.1 w.2.1.1 c.1 c2.2.1
  have q : qt h g := ⟨s1, s2, ⟨fun _ _ _ => by rw [s3], brR_e s3⟩, fun q k n => s4 q k (fun y => n (Or.inl y)) (fun y => n (Or.inr (Or.inr (Or.inr (Or.inl ⟨y.1, by omega⟩)))))⟩
  exact ⟨g, e, q, Lg, qt_CI0 q c, cc, Or.inl b0⟩
theorem lay_R_Z {h g : mH} (L : LAY_Z h) (e1 : g.1 = h.1) (e2 : ∀ q k, q ≠ 17 → gR g q k = gR h q k) : LAY_Z g := by
  refine ⟨by rw [e1]; exact L.1, fun q k b e => ?_⟩
  by_cases z : q = 17
  · subst z
    rw [refT_17Z] at e
    cases e
  · rw [e2 q k z]
    exact L.2 q k b e
theorem lvF_L_Z {h g : mH} (a : lvF h g) (L : LAY_Z h) : LAY_Z g := lay_R_Z L a.1 a.2.2.2
theorem agF_L_Z {h g : mH} {a b : Nat} (x : agF h g a b) (L : LAY_Z h) : LAY_Z g := lay_keep_Z L x.1.1 x.1.2.2
theorem wRb_loop_Z (d : Nat) (h : mH) (L : LAY_Z h) (T : Td) (t : cT h T) (k4 : tK T ≤ 40) : ∀ (m k : Nat), k + m = tK T → resA (callA d) 59 (4, [Sum.inr (Sum.inr (some 3)), Sum.inr (Sum.inl (rvN T k : Int)), Sum.inr (Sum.inr none), Sum.inl (k : Int)], [], h) = some (some (Sum.inr (Sum.inl (rvN T (tK T) : Int))), h)
  | 0, k, hk => by
    have e : k = tK T := hk
    have t2 := t.2.1
    subst e
    obtain ⟨k3, j3⟩ := lay_k_Z L (a := 3) (t := 6) (n := 8) rfl
    simp (disch := (first | omega | (simp only [kd_sI, kd_sL, kd_sR, kd_cp, kd_aI]; omega) | (unfold catV; exact rfl) | (unfold catS; exact Nat.le_of_ble_eq_true rfl) | assumption)) only [q_59_0, q_59_1, q_59_2, q_59_3, q_59_4, q_59_5, q_59_6, q_59_9_t, q_59_9_f, q_59_12, q_59_13, q_59_16, q_59_17, q_59_18, q_59_19_t, q_59_19_f, q_59_22, q_59_23, q_59_24, q_59_25, q_59_26, q_59_27, q_59_28, q_59_31, q_59_34, q_59_35, aft_i, aft_l, aft_v, Int.toNat_natCast, kd_sI, kd_sL, kd_sR, kd_cp, gI_sL, gI_sR, gL_sI, gL_sR, gR_sI, gR_sL, gL_cp, gR_cp, kd_aI, gL_aI, gR_aI, gI_aI, gI_aIn, sI_aI, gI_sIn, Int.reduceToNat, Int.reduceAdd, Int.reduceSub, Int.reduceMul, Int.reduceNeg, Int.zero_add, t2]
  | m + 1, k, hk => by
    have t2 := t.2.1
    have g := t.2.2.2.2.2 k (by omega)
    have b := rvN_lt T k
    have p40 : 2 ^ k < 2 ^ 40 := Nat.pow_lt_pow_right (by omega) (by omega)
    have p40 : 2 ^ k < 1099511627776 := p40
    have sh := shlL1 (k := k) (by omega)
    have o := orL_n (a := rvN T k) (b := 2 ^ k) (by omega) (by omega)
    have ih := wRb_loop_Z d h L T t k4 m (k + 1) (by omega)
    have eR : rvN T (k + 1) = rvN T k ||| if tG T k = 2 then 2 ^ k else 0 := rfl
    rw [eR] at ih
    obtain ⟨k3, j3⟩ := lay_k_Z L (a := 3) (t := 6) (n := 8) rfl; obtain ⟨k7, j7⟩ := lay_k_Z L (a := 7) (t := 100) (n := 40) rfl; have r3_3 : gR h 3 3 = some 7 := lay_r_Z L rfl
    rw [q_59_4]
    by_cases z : tG T k = 2
    · rw [if_pos z] at ih
      rw [z] at g
      have g : gI h 7 k = 2 := g
      simp (disch := (first | omega | (simp only [kd_sI, kd_sL, kd_sR, kd_cp, kd_aI]; omega) | (unfold catV; exact rfl) | (unfold catS; exact Nat.le_of_ble_eq_true rfl) | assumption)) only [q_59_0, q_59_1, q_59_2, q_59_3, q_59_5, q_59_6, q_59_9_t, q_59_9_f, q_59_12, q_59_13, q_59_16, q_59_17, q_59_18, q_59_19_t, q_59_19_f, q_59_22, q_59_23, q_59_24, q_59_25, q_59_26, q_59_27, q_59_28, q_59_31, q_59_34, q_59_35, aft_i, aft_l, aft_v, Int.toNat_natCast, kd_sI, kd_sL, kd_sR, kd_cp, gI_sL, gI_sR, gL_sI, gL_sR, gR_sI, gR_sL, gL_cp, gR_cp, kd_aI, gL_aI, gR_aI, gI_aI, gI_aIn, sI_aI, gI_sIn, Int.reduceToNat, Int.reduceAdd, Int.reduceSub, Int.reduceMul, Int.reduceNeg, Int.zero_add, t2, r3_3, g, sh, o]
      exact ih
    · rw [if_neg z, Nat.or_zero] at ih
      have g2 : gI h 7 k ≠ 2 := by omega
      simp (disch := (first | omega | (simp only [kd_sI, kd_sL, kd_sR, kd_cp, kd_aI]; omega) | (unfold catV; exact rfl) | (unfold catS; exact Nat.le_of_ble_eq_true rfl) | assumption)) only [q_59_0, q_59_1, q_59_2, q_59_3, q_59_5, q_59_6, q_59_9_t, q_59_9_f, q_59_12, q_59_13, q_59_16, q_59_17, q_59_18, q_59_19_t, q_59_19_f, q_59_22, q_59_23, q_59_24, q_59_25, q_59_26, q_59_27, q_59_28, q_59_31, q_59_34, q_59_35, aft_i, aft_l, aft_v, Int.toNat_natCast, kd_sI, kd_sL, kd_sR, kd_cp, gI_sL, gI_sR, gL_sI, gL_sR, gR_sI, gR_sL, gL_cp, gR_cp, kd_aI, gL_aI, gR_aI, gI_aI, gI_aIn, sI_aI, gI_sIn, Int.reduceToNat, Int.reduceAdd, Int.reduceSub, Int.reduceMul, Int.reduceNeg, Int.zero_add, t2, r3_3, g2]
      exact ih
theorem wRb_ok_Z (d : Nat) (h : mH) (L : LAY_Z h) (T : Td) (t : cT h T) (k4 : tK T ≤ 40) : callA (d + 1) 59 [Sum.inr (Sum.inr (some 3))] h = some (some (Sum.inr (Sum.inl (rvN T (tK T) : Int))), h) := by
  have e := wRb_loop_Z d h L T t k4 (tK T) 0 (Nat.zero_add _)
  have e : resA (callA d) 59 (4, [Sum.inr (Sum.inr (some 3)), Sum.inr (Sum.inl 0), Sum.inr (Sum.inr none), Sum.inl 0], [], h) = _ := e
  rw [en_59]
  simp (disch := (first | omega | (simp only [kd_sI, kd_sL, kd_sR, kd_cp, kd_aI]; omega) | (unfold catV; exact rfl) | (unfold catS; exact Nat.le_of_ble_eq_true rfl) | assumption)) only [q_59_0, q_59_1, q_59_2, q_59_3, q_59_5, q_59_6, q_59_9_t, q_59_9_f, q_59_12, q_59_13, q_59_16, q_59_17, q_59_18, q_59_19_t, q_59_19_f, q_59_22, q_59_23, q_59_24, q_59_25, q_59_26, q_59_27, q_59_28, q_59_31, q_59_34, q_59_35, aft_i, aft_l, aft_v, Int.toNat_natCast, kd_sI, kd_sL, kd_sR, kd_cp, gI_sL, gI_sR, gL_sI, gL_sR, gR_sI, gR_sL, gL_cp, gR_cp, kd_aI, gL_aI, gR_aI, gI_aI, gI_aIn, sI_aI, gI_sIn, Int.reduceToNat, Int.reduceAdd, Int.reduceSub, Int.reduceMul, Int.reduceNeg, Int.zero_add]
  exact e
theorem wNb_loop_Z (d : Nat) (n : Nat) (n7 : n ≤ 7) : ∀ (k i : Nat) (h : mH) (L : LAY_Z h), gI h 3 4 = n → i + k = n → ∃ g, resA (callA d) 13 (2, [Sum.inr (Sum.inr (some 14)), Sum.inr (Sum.inr (some 3)), Sum.inl (i : Int)], [], h) = resA (callA d) 13 (35, [Sum.inr (Sum.inr (some 14)), Sum.inr (Sum.inr (some 3)), Sum.inl (n : Int)], [], g) ∧ agF h g 15 16 ∧ (∀ j, j < i → gI g 15 j = gI h 15 j ∧ gI g 16 j = gI h 16 j) ∧ ∀ j, i ≤ j → j < n → gI g 15 j = j ∧ gI g 16 j = gI h 4 j
  | 0, i, h, L, hn, hi => by
    have e : i = n := hi
    subst e
    refine ⟨h, ?_, ⟨⟨rfl, rfl, rfl⟩, fun _ _ _ => rfl⟩, fun _ _ => ⟨rfl, rfl⟩, fun j a b => absurd a (by omega)⟩
    obtain ⟨k3, j3⟩ := lay_k_Z L (a := 3) (t := 6) (n := 8) rfl
    simp (disch := (first | omega | (simp only [kd_sI, kd_sL, kd_sR, kd_cp, kd_aI]; omega) | (unfold catV; exact rfl) | (unfold catS; exact Nat.le_of_ble_eq_true rfl) | assumption)) only [q_13_0, q_13_1, q_13_2, q_13_3, q_13_4, q_13_7_t, q_13_7_f, q_13_10, q_13_11, q_13_14, q_13_15, q_13_16, q_13_17, q_13_18, q_13_21, q_13_22, q_13_23, q_13_26, q_13_27, q_13_28, q_13_29, q_13_32, q_13_36, q_13_37, q_13_40, q_13_43, q_13_44, q_13_45, q_13_48, q_13_49, q_13_50, q_13_53, q_13_56, aft_i, aft_l, aft_v, Int.toNat_natCast, kd_sI, kd_sL, kd_sR, kd_cp, gI_sL, gI_sR, gL_sI, gL_sR, gR_sI, gR_sL, gL_cp, gR_cp, kd_aI, gL_aI, gR_aI, gI_aI, gI_aIn, sI_aI, gI_sIn, Int.reduceToNat, Int.reduceAdd, Int.reduceSub, Int.reduceMul, Int.reduceNeg, Int.zero_add, hn]
  | k + 1, i, h, L, hn, hi => by
    have L0 := L
    have a1 : agF h (sI (sI h 15 i i) 16 i (gI h 4 i)) 15 16 := agF_tr (agF_s (by omega)) (agF_s (by omega))
    have L1 := agF_L_Z a1 L
    obtain ⟨g, e, a2, v1, v2⟩ := wNb_loop_Z d n n7 k (i + 1) _ L1 (by rw [a1.2 3 4 (by omega)]; exact hn) (by omega)
    have f15 : ∀ j, gI (sI (sI h 15 i i) 16 i (gI h 4 i)) 15 j = upI (gI h 15) i i j := fun j => by rw [gI_sIn (by omega), gI_sIu]
    have f16 : ∀ j, gI (sI (sI h 15 i i) 16 i (gI h 4 i)) 16 j = upI (gI h 16) i (gI h 4 i) j := fun j => by rw [gI_sIu, gI_sIn (by omega)]
    refine ⟨g, ?_, agF_tr a1 a2, fun j hj => ?_, fun j x y => ?_⟩
    · have x4 : gI (sI h 15 i i) 4 i = gI h 4 i := by rw [gI_sIn (by omega)]
      obtain ⟨k3, j3⟩ := lay_k_Z L0 (a := 3) (t := 6) (n := 8) rfl; obtain ⟨k4, j4⟩ := lay_k_Z L0 (a := 4) (t := 100) (n := 7) rfl; obtain ⟨k14, j14⟩ := lay_k_Z L0 (a := 14) (t := 2) (n := 5) rfl; obtain ⟨k15, j15⟩ := lay_k_Z L0 (a := 15) (t := 100) (n := 7) rfl; obtain ⟨k16, j16⟩ := lay_k_Z L0 (a := 16) (t := 100) (n := 7) rfl; have r3_0 : gR h 3 0 = some 4 := lay_r_Z L0 rfl; have r14_0 : gR h 14 0 = some 15 := lay_r_Z L0 rfl; have r14_1 : gR h 14 1 = some 16 := lay_r_Z L0 rfl
      rw [q_13_2]
      simp (disch := (first | omega | (simp only [kd_sI, kd_sL, kd_sR, kd_cp, kd_aI]; omega) | (unfold catV; exact rfl) | (unfold catS; exact Nat.le_of_ble_eq_true rfl) | assumption)) only [q_13_0, q_13_1, q_13_3, q_13_4, q_13_7_t, q_13_7_f, q_13_10, q_13_11, q_13_14, q_13_15, q_13_16, q_13_17, q_13_18, q_13_21, q_13_22, q_13_23, q_13_26, q_13_27, q_13_28, q_13_29, q_13_32, q_13_36, q_13_37, q_13_40, q_13_43, q_13_44, q_13_45, q_13_48, q_13_49, q_13_50, q_13_53, q_13_56, aft_i, aft_l, aft_v, Int.toNat_natCast, kd_sI, kd_sL, kd_sR, kd_cp, gI_sL, gI_sR, gL_sI, gL_sR, gR_sI, gR_sL, gL_cp, gR_cp, kd_aI, gL_aI, gR_aI, gI_aI, gI_aIn, sI_aI, gI_sIn, Int.reduceToNat, Int.reduceAdd, Int.reduceSub, Int.reduceMul, Int.reduceNeg, Int.zero_add, hn, r3_0, r14_0, r14_1, x4]
      exact e
    · obtain ⟨u1, u2⟩ := v1 j (by omega)
      rw [u1, u2, f15, f16, upI_n (by omega), upI_n (by omega)]
      exact ⟨rfl, rfl⟩
    · by_cases z : j = i
      · subst z
        obtain ⟨u1, u2⟩ := v1 j (by omega)
        rw [u1, u2, f15, f16, upI_s, upI_s]
        exact ⟨rfl, rfl⟩
      · obtain ⟨u1, u2⟩ := v2 j (by omega) y
        rw [u1, u2, a1.2 4 j (by omega)]
        exact ⟨rfl, rfl⟩
theorem wSc0_ok_Z (d : Nat) (h : mH) (L : LAY_Z h) (D : Dr) (w : wfD D) (t : cT h (dT D)) (x : ∀ c, c < tN (dT D) → gI h 4 c = dX D c) : ∃ g, callA (d + 3) 30 [Sum.inr (Sum.inr (some 13)), Sum.inr (Sum.inr (some 3))] h = some (none, g) ∧ lvF h g ∧ gR g = gR h ∧ ntA g 14 (dT D) (nwN D) ∧ gI g 13 2 = 0 := by
  have L0 := L
  have c7 := w.1.1
  have k4 := w.1.2.1
  obtain ⟨g1, e1, a1, -, v1⟩ := wNb_loop_Z (d + 1) (tN (dT D)) c7 (tN (dT D)) 0 h L t.1 (Nat.zero_add _)
  have L1 := agF_L_Z a1 L
  rw [show ((0 : Nat) : Int) = 0 from rfl] at e1
  have g2L : LAY_Z (sI (sI g1 14 2 (tN (dT D))) 14 3 0) := lay_sI_Z (lay_sI_Z L1 _ _ _) _ _ _
  have y0 : gI g1 3 4 = tN (dT D) := by rw [a1.2 3 4 (by omega)]; exact t.1
  have eq : ∀ q k, ¬ (14 ≤ q ∧ q ≤ 16) → gI (sI (sI g1 14 2 (tN (dT D))) 14 3 0) q k = gI h q k := fun q k n => by rw [gI_sIn (by omega), gI_sIn (by omega), a1.2 q k (by omega)]
  have t2 : cT (sI (sI g1 14 2 (tN (dT D))) 14 3 0) (dT D) := by
    obtain ⟨b1, b2, b3, b4, b5, b6⟩ := t
    refine ⟨?_, ?_, ?_, ?_, fun c hc => ?_, fun k hk => ?_⟩
    · rw [eq 3 4 (by omega)]; exact b1
    · rw [eq 3 5 (by omega)]; exact b2
    · rw [eq 3 6 (by omega)]; exact b3
    · rw [eq 3 7 (by omega)]; exact b4
    · rw [eq 5 c (by omega), eq 6 c (by omega)]; exact b5 c hc
    · rw [eq 7 k (by omega)]; exact b6 k hk
  have e2 := wRb_ok_Z d _ g2L (dT D) t2 k4
  have e3 : callA (d + 2) 13 [Sum.inr (Sum.inr (some 14)), Sum.inr (Sum.inr (some 3))] h = some (none, sL (sI (sI g1 14 2 (tN (dT D))) 14 3 0) 14 4 (rvN (dT D) (tK (dT D)) : Int)) := by
    obtain ⟨u1, u2⟩ := lay_k_Z L1 (a := 14) (t := 2) (n := 5) rfl
    obtain ⟨u3, u4⟩ := lay_k_Z L1 (a := 3) (t := 6) (n := 8) rfl
    rw [en_13]
    simp (disch := (first | omega | (simp only [kd_sI, kd_sL, kd_sR, kd_cp, kd_aI]; omega) | (unfold catV; exact rfl) | (unfold catS; exact Nat.le_of_ble_eq_true rfl) | assumption)) only [q_13_0, q_13_1, q_13_3, q_13_4, q_13_7_t, q_13_7_f, q_13_10, q_13_11, q_13_14, q_13_15, q_13_16, q_13_17, q_13_18, q_13_21, q_13_22, q_13_23, q_13_26, q_13_27, q_13_28, q_13_29, q_13_32, q_13_36, q_13_37, q_13_40, q_13_43, q_13_44, q_13_45, q_13_48, q_13_49, q_13_50, q_13_53, q_13_56, aft_i, aft_l, aft_v, Int.toNat_natCast, kd_sI, kd_sL, kd_sR, kd_cp, gI_sL, gI_sR, gL_sI, gL_sR, gR_sI, gR_sL, gL_cp, gR_cp, kd_aI, gL_aI, gR_aI, gI_aI, gI_aIn, sI_aI, gI_sIn, Int.reduceToNat, Int.reduceAdd, Int.reduceSub, Int.reduceMul, Int.reduceNeg, Int.zero_add]
    rw [e1]
    simp (disch := (first | omega | (simp only [kd_sI, kd_sL, kd_sR, kd_cp, kd_aI]; omega) | (unfold catV; exact rfl) | (unfold catS; exact Nat.le_of_ble_eq_true rfl) | assumption)) only [q_13_0, q_13_1, q_13_3, q_13_4, q_13_7_t, q_13_7_f, q_13_10, q_13_11, q_13_14, q_13_15, q_13_16, q_13_17, q_13_18, q_13_21, q_13_22, q_13_23, q_13_26, q_13_27, q_13_28, q_13_29, q_13_32, q_13_35, q_13_36, q_13_37, q_13_40, q_13_43, q_13_44, q_13_45, q_13_48, q_13_49, q_13_50, q_13_53, q_13_56, aft_i, aft_l, aft_v, Int.toNat_natCast, kd_sI, kd_sL, kd_sR, kd_cp, gI_sL, gI_sR, gL_sI, gL_sR, gR_sI, gR_sL, gL_cp, gR_cp, kd_aI, gL_aI, gR_aI, gI_aI, gI_aIn, sI_aI, gI_sIn, Int.reduceToNat, Int.reduceAdd, Int.reduceSub, Int.reduceMul, Int.reduceNeg, Int.zero_add, y0, e2]
  refine ⟨sI (sL (sI (sI g1 14 2 (tN (dT D))) 14 3 0) 14 4 (rvN (dT D) (tK (dT D)) : Int)) 13 2 0, ?_, ⟨a1.1.1, fun q k n m => ?_, fun q k m => ?_, fun q k _ => ?_⟩, a1.1.2.2, ?_, gI_sIs _ _ _ _⟩
  · obtain ⟨u1, u2⟩ := lay_k_Z L1 (a := 13) (t := 4) (n := 4) rfl
    obtain ⟨k13, j13⟩ := lay_k_Z L0 (a := 13) (t := 4) (n := 4) rfl; obtain ⟨k14, j14⟩ := lay_k_Z L0 (a := 14) (t := 2) (n := 5) rfl; have r13_0 : gR h 13 0 = some 14 := lay_r_Z L0 rfl
    rw [en_30]
    simp (disch := (first | omega | (simp only [kd_sI, kd_sL, kd_sR, kd_cp, kd_aI]; omega) | (unfold catV; exact rfl) | (unfold catS; exact Nat.le_of_ble_eq_true rfl) | assumption)) only [q_30_0, q_30_1, q_30_4, q_30_5, q_30_8, q_30_9, q_30_10, q_30_13, aft_i, aft_l, aft_v, Int.toNat_natCast, kd_sI, kd_sL, kd_sR, kd_cp, gI_sL, gI_sR, gL_sI, gL_sR, gR_sI, gR_sL, gL_cp, gR_cp, kd_aI, gL_aI, gR_aI, gI_aI, gI_aIn, sI_aI, gI_sIn, Int.reduceToNat, Int.reduceAdd, Int.reduceSub, Int.reduceMul, Int.reduceNeg, Int.zero_add, r13_0, e3]
  · rw [gI_sI, if_neg n]
    exact eq q k (by omega)
  · show gL (sL _ 14 4 _) q k = gL h q k
    rw [gL_sL, if_neg (by omega)]
    show gL g1 q k = _
    rw [a1.1.2.1]
  · show gR g1 q k = _
    rw [a1.1.2.2]
  · refine ⟨?_, ?_, ?_, fun i hi => ?_, fun c hc => ?_⟩
    · rw [gI_sIn (by omega)]
      show gI (sI (sI g1 14 2 (tN (dT D))) 14 3 0) 14 2 = _
      rw [gI_sIo (by omega), gI_sIs]; rfl
    · rw [gI_sIn (by omega)]
      show gI (sI (sI g1 14 2 (tN (dT D))) 14 3 0) 14 3 = _
      rw [gI_sIs]; rfl
    · show gL (sL _ 14 4 _) 14 4 = _
      rw [gL_sLs]; rfl
    · have hi : i < tN (dT D) := hi
      rw [gI_sIn (by omega)]
      show gI (sI (sI g1 14 2 (tN (dT D))) 14 3 0) 15 i = _
      rw [gI_sIn (by omega), gI_sIn (by omega), (v1 i (Nat.zero_le _) hi).1]; rfl
    · rw [gI_sIn (by omega)]
      show gI (sI (sI g1 14 2 (tN (dT D))) 14 3 0) 16 c = _
      rw [gI_sIn (by omega), gI_sIn (by omega), (v1 c (Nat.zero_le _) hc).2]
      exact x c hc
theorem wStart_ok_Z (d : Nat) (h : mH) (L : LAY_Z h) (D : Dr) (R : Int) (w : wfD D) (s : frsh h D R) : ∃ g, callA (d + 4) 97 [Sum.inr (Sum.inr (some 0))] h = some (none, g) ∧ frm 0 141 h g ∧ LAY_Z g ∧ CI g (twn R D) := by
  have L0 := L
  obtain ⟨s1, s2, ⟨π, s3⟩, s4, s5, s6⟩ := s
  obtain ⟨g1, e1, a1, r1, n1, z1⟩ := wSc0_ok_Z d h L D w s1 s2
  have L1 := lvF_L_Z a1 L
  generalize eg2 : sI (sI (sI g1 49 3 0) 84 3 0) 0 13 0 = g2
  have L2 : LAY_Z g2 := by rw [← eg2]; exact lay_sI_Z (lay_sI_Z (lay_sI_Z L1 _ _ _) _ _ _) _ _ _
  have fq : ∀ q k, ¬ (q = 49 ∧ k = 3) → ¬ (q = 84 ∧ k = 3) → ¬ (q = 0 ∧ k = 13) → gI g2 q k = gI g1 q k := fun q k x y z => by
    rw [← eg2, gI_sI, if_neg z, gI_sI, if_neg y, gI_sI, if_neg x]
  have fL : gL g2 = gL g1 := by rw [← eg2]; rfl
  have fR : gR g2 = gR h := by rw [← eg2]; exact r1
  have hq : ∀ q k, ¬ (q = 13 ∧ k = 2) → ¬ (14 ≤ q ∧ q ≤ 47) → ¬ (q = 49 ∧ k = 3) → ¬ (q = 84 ∧ k = 3) → ¬ (q = 0 ∧ k = 13) → gI g2 q k = gI h q k := fun q k x y z u v => by
    rw [fq q k z u v, a1.2.1 q k x y]
  have c0 : CI0 g2 (twn R D) := by
    refine ⟨?_, ⟨π, ⟨fun i hi => ⟨(s3.1 i hi).1, by rw [fR]; exact (s3.1 i hi).2⟩, s3.2⟩, ?_, ?_, by show 0 ≤ 10; omega, fun j q => absurd q (Nat.not_lt_zero _)⟩, fun i hi => ?_, ?_, fun k q => absurd q (Nat.not_lt_zero _), ?_, fun k q => absurd q (Nat.not_lt_zero _), ?_⟩
    · obtain ⟨b1, b2, b3, b4, b5, b6⟩ := s1
      refine ⟨?_, ?_, ?_, ?_, fun c hc => ?_, fun k hk => ?_⟩
      · rw [hq 3 4 (by omega) (by omega) (by omega) (by omega) (by omega)]; exact b1
      · rw [hq 3 5 (by omega) (by omega) (by omega) (by omega) (by omega)]; exact b2
      · rw [hq 3 6 (by omega) (by omega) (by omega) (by omega) (by omega)]; exact b3
      · rw [hq 3 7 (by omega) (by omega) (by omega) (by omega) (by omega)]; exact b4
      · rw [hq 5 c (by omega) (by omega) (by omega) (by omega) (by omega), hq 6 c (by omega) (by omega) (by omega) (by omega) (by omega)]; exact b5 c hc
      · rw [hq 7 k (by omega) (by omega) (by omega) (by omega) (by omega)]; exact b6 k hk
    · exact ntA_cg (fun q k x y => fq q k (by omega) (by omega) (by omega)) (by rw [fL]) n1
    · rw [fq 13 2 (by omega) (by omega) (by omega)]; exact z1
    · obtain ⟨ρ, p⟩ := s4 i hi
      refine ⟨⟨ρ, fun j hj => ⟨(p.1 j hj).1, by rw [fR]; exact (p.1 j hj).2⟩, p.2⟩, ?_, fun N P e => (by cases e)⟩
      show gI g2 (49 + 35 * i) 3 = 0
      have : i = 0 ∨ i = 1 := by omega
      rcases this with e | e
      · subst e
        rw [← eg2, gI_sIn (by omega), gI_sIn (by omega), gI_sIs]
      · subst e
        rw [← eg2, gI_sIn (by omega), gI_sIs]
    · rw [← eg2, gI_sIs]; rfl
    · rw [hq 1 1 (by omega) (by omega) (by omega) (by omega) (by omega)]; exact s5
    · rw [fL, a1.2.2.1 0 14 (by omega)]; exact ⟨s6.1, brR_e fR s6.2⟩
  obtain ⟨g, e3, q3, Lg, cg⟩ := settle_CI_Z d g2 L2 (twn R D) (twn_wf w) c0
  have f2 : frm 0 141 g1 g2 := by
    rw [← eg2]
    exact frm_tr (frm_sI (by omega) (by omega)) (frm_tr (frm_sI (by omega) (by omega)) (frm_sI (by omega) (by omega)))
  refine ⟨g, ?_, frm_tr (lvF_frm a1) (frm_tr f2 (qt_frm q3)), Lg, cg⟩
  obtain ⟨u1, u2⟩ := lay_k_Z L1 (a := 0) (t := 7) (n := 17) rfl
  obtain ⟨u3, u4⟩ := lay_k_Z L1 (a := 48) (t := 104) (n := 2) rfl
  obtain ⟨u5, u6⟩ := lay_k_Z L1 (a := 49) (t := 4) (n := 4) rfl
  obtain ⟨u7, u8⟩ := lay_k_Z L1 (a := 84) (t := 4) (n := 4) rfl
  have t1 : gR g1 0 4 = some 48 := lay_r_Z L1 rfl
  have t2 : gR g1 48 0 = some 49 := lay_r_Z L1 rfl
  have t3 : gR g1 48 1 = some 84 := lay_r_Z L1 rfl
  obtain ⟨v1, v2⟩ := lay_k_Z L2 (a := 0) (t := 7) (n := 17) rfl
  obtain ⟨k0, j0⟩ := lay_k_Z L0 (a := 0) (t := 7) (n := 17) rfl; obtain ⟨k13, j13⟩ := lay_k_Z L0 (a := 13) (t := 4) (n := 4) rfl; have r0_1 : gR h 0 1 = some 3 := lay_r_Z L0 rfl; have r0_3 : gR h 0 3 = some 13 := lay_r_Z L0 rfl
  rw [en_97]
  simp (disch := (first | omega | (simp only [kd_sI, kd_sL, kd_sR, kd_cp, kd_aI]; omega) | (unfold catV; exact rfl) | (unfold catS; exact Nat.le_of_ble_eq_true rfl) | assumption)) only [q_97_0, q_97_1, q_97_4, q_97_5, q_97_8, q_97_11, q_97_12, q_97_13, q_97_14, q_97_15_t, q_97_15_f, q_97_18, q_97_19, q_97_22, q_97_23, q_97_24, q_97_25, q_97_28, q_97_31, q_97_34, q_97_35, q_97_36, q_97_39, q_97_40, q_97_43, aft_i, aft_l, aft_v, Int.toNat_natCast, kd_sI, kd_sL, kd_sR, kd_cp, gI_sL, gI_sR, gL_sI, gL_sR, gR_sI, gR_sL, gL_cp, gR_cp, kd_aI, gL_aI, gR_aI, gI_aI, gI_aIn, sI_aI, gI_sIn, Int.reduceToNat, Int.reduceAdd, Int.reduceSub, Int.reduceMul, Int.reduceNeg, Int.zero_add, r0_1, r0_3, e1, t1, t2, t3, eg2, e3]
