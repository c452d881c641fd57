def dryF (T : Td) (N : Nt) : Nat → Nat → Nat
  | 0, _ => 0
  | f + 1, k => if (nV N).testBit k = true then 0 else dryF T N f (k + 1) + 1
theorem lnd_2 {T : Td} {N : Nt} {k : Nat} : lnd T N k = 2 ↔ (nV N).testBit k = true := lnd_two
theorem dry_free {T : Td} {N : Nt} : ∀ (f k w : Nat), k + f = tK T → (freeB (lnd T N) (tK T) k w = true ↔ w ≤ dryF T N f k)
  | 0, k, w, h => by
    constructor
    · intro y
      have := freeB_le y
      omega
    · intro y
      have y : w ≤ 0 := y
      have e : w = 0 := by omega
      subst e
      unfold freeB
      rw [Bool.and_eq_true, decide_eq_true_iff]
      exact ⟨by omega, rfl⟩
  | f + 1, k, w, h => by
    have ih := dry_free (T := T) (N := N) f (k + 1) (w - 1) (by omega)
    cases w with
    | zero =>
      refine ⟨fun _ => Nat.zero_le _, fun _ => ?_⟩
      unfold freeB
      rw [Bool.and_eq_true, decide_eq_true_iff]
      exact ⟨by omega, rfl⟩
    | succ w =>
      have key : freeB (lnd T N) (tK T) k (w + 1) = true ↔ (nV N).testBit k = false ∧ freeB (lnd T N) (tK T) (k + 1) w = true := by
        unfold freeB
        rw [Bool.and_eq_true, decide_eq_true_iff, Bool.and_eq_true, decide_eq_true_iff, List.all_eq_true, List.all_eq_true]
        constructor
        · rintro ⟨a, b⟩
          refine ⟨?_, by omega, fun j hj => ?_⟩
          · have := of_decide_eq_true (b 0 (List.mem_range.mpr (by omega)))
            rw [Nat.add_zero] at this
            cases q : (nV N).testBit k with
            | true => exact absurd (lnd_2.mpr q) this
            | false => rfl
          · have := b (j + 1) (List.mem_range.mpr (by have := List.mem_range.mp hj; omega))
            rw [show k + (j + 1) = k + 1 + j by omega] at this
            exact this
        · rintro ⟨a, b, c⟩
          refine ⟨by omega, fun j hj => ?_⟩
          cases j with
          | zero =>
            refine decide_eq_true (fun y => ?_)
            rw [Nat.add_zero] at y
            rw [lnd_2.mp y] at a
            cases a
          | succ j =>
            have := c j (List.mem_range.mpr (by have := List.mem_range.mp hj; omega))
            rw [show k + (j + 1) = k + 1 + j by omega]
            exact this
      rw [key]
      rw [Nat.add_sub_cancel] at ih
      unfold dryF
      by_cases z : (nV N).testBit k = true
      · rw [if_pos z]
        constructor
        · rintro ⟨a, b⟩; rw [z] at a; cases a
        · intro y; omega
      · rw [if_neg z]
        have z2 : (nV N).testBit k = false := by simpa using z
        constructor
        · rintro ⟨a, b⟩
          have := ih.mp b
          omega
        · intro y
          exact ⟨z2, ih.mpr (by omega)⟩
theorem rmF_end {T : Td} {N : Nt} {w : Nat} (hw : 1 ≤ w) : rmF T N w (tK T) = -9 := by
  unfold rmF
  cases q : fstF (lnd T N) (tK T) w (40 - tK T) (tK T) with
  | none => rfl
  | some p =>
    have a := fstF_some q
    have := freeB_le a.2.2.1
    omega
theorem rmF_up {T : Td} {N : Nt} (k4 : tK T ≤ 40) {w k : Nat} (hk : k < tK T) : rmF T N w k = if w ≤ dryF T N (tK T - k) k then (k : Int) else rmF T N w (k + 1) := by
  have df := dry_free (T := T) (N := N) (tK T - k) k w (by omega)
  unfold rmF
  rw [show 40 - k = (40 - (k + 1)) + 1 by omega, fstF]
  by_cases z : freeB (lnd T N) (tK T) k w = true
  · rw [if_pos z, if_pos (df.mp z)]
    rfl
  · rw [if_neg z, if_neg (fun y => z (df.mpr y))]
/-- only the room's table -/
def rmS (h g : mH) : Prop := g.1 = h.1 ∧ gL g = gL h ∧ gR g = gR h ∧ ∀ q k, ¬ (122 ≤ q ∧ q ≤ 127) → gI g q k = gI h q k
theorem rmS_tr {h g k : mH} (a : rmS h g) (b : rmS g k) : rmS h k := ⟨b.1.trans a.1, b.2.1.trans a.2.1, b.2.2.1.trans a.2.2.1, fun q j n => (b.2.2.2 q j n).trans (a.2.2.2 q j n)⟩
theorem rmS_rf (h : mH) : rmS h h := ⟨rfl, rfl, rfl, fun _ _ _ => rfl⟩
theorem rmS_s {h : mH} {w k : Nat} {x : Int} (h1 : 1 ≤ w ∧ w ≤ 6) : rmS h (sI h (121 + w) k x) := ⟨rfl, rfl, rfl, fun q j n => by rw [gI_sI, if_neg (by omega)]⟩
theorem rmS_L {h g : mH} (a : rmS h g) (L : LAY h) : LAY g := lay_keep L a.1 a.2.2.1
theorem rmR {h : mH} (L : LAY h) {w : Nat} (hw : w < 7) : gR h 120 w = some (121 + w) := by
  have : w = 0 ∨ w = 1 ∨ w = 2 ∨ w = 3 ∨ w = 4 ∨ w = 5 ∨ w = 6 := by omega
  rcases this with e | e | e | e | e | e | e <;> subst e <;> exact lay_r L rfl
theorem rmK {h : mH} (L : LAY h) {w : Nat} (hw : w < 7) : (kd h (121 + w)).1 = 100 ∧ (kd h (121 + w)).2 = 41 := by
  have : w = 0 ∨ w = 1 ∨ w = 2 ∨ w = 3 ∨ w = 4 ∨ w = 5 ∨ w = 6 := by omega
  rcases this with e | e | e | e | e | e | e <;> subst e <;> exact lay_k L rfl
theorem wMs_a (d : Nat) (r : Int) (K : Nat) (hK : K ≤ 40) (x5 x6 : mV) : ∀ (m w : Nat) (h : mH) (L : LAY h), w + m = 7 → 1 ≤ w → gI h 119 1 = K → ∃ g, resA (callA d) 26 (8, [Sum.inr (Sum.inr (some 119)), Sum.inr (Sum.inl r), Sum.inr (Sum.inr none), Sum.inl (K : Int), Sum.inl (w : Int), x5, x6], [], h) = resA (callA d) 26 (35, [Sum.inr (Sum.inr (some 119)), Sum.inr (Sum.inl r), Sum.inr (Sum.inr none), Sum.inl (K : Int), Sum.inl 7, x5, x6], [], g) ∧ rmS h g ∧ (∀ v, w ≤ v → v ≤ 6 → gI g (121 + v) K = -9) ∧ ∀ v k, v < w → gI g (121 + v) k = gI h (121 + v) k
  | 0, w, h, L, hw, h1, hk => by
    have e : w = 7 := hw
    subst e
    refine ⟨h, ?_, rmS_rf h, fun v a b => absurd a (by omega), fun _ _ _ => rfl⟩
    simp (disch := (first | omega | (simp only [kd_sI, kd_sL, kd_sR, kd_cp, kd_aI]; omega) | (unfold catV; exact rfl) | (unfold catS; exact Nat.le_of_ble_eq_true rfl) | assumption)) only [q_26_0, q_26_1, q_26_2, q_26_5, q_26_6, q_26_8, q_26_10, q_26_12_t, q_26_12_f, q_26_15, q_26_16, q_26_19, q_26_21, q_26_22, q_26_23, q_26_26, q_26_28, q_26_29, q_26_32, q_26_36, q_26_38, q_26_39, q_26_42, q_26_43, q_26_44, q_26_46, q_26_48_t, q_26_48_f, q_26_51, q_26_52, q_26_54, q_26_55, q_26_56, q_26_57, q_26_58, q_26_59_t, q_26_59_f, q_26_62, q_26_63, q_26_66, q_26_68, q_26_69, q_26_70, q_26_72, q_26_73, q_26_75, q_26_77, q_26_79_t, q_26_79_f, q_26_82, q_26_83, q_26_86, q_26_88, q_26_89, q_26_91, q_26_93, q_26_95_t, q_26_95_f, q_26_98, q_26_100, q_26_103, q_26_104, q_26_107, q_26_109, q_26_110, q_26_112, q_26_113, q_26_114, q_26_115, q_26_116, q_26_119, q_26_122, q_26_125, q_26_128, aft_i, aft_l, aft_v, Int.toNat_natCast, kd_sI, kd_sL, kd_sR, kd_cp, gI_sL, gI_sR, gL_sI, gL_sR, gR_sI, gR_sL, gL_cp, gR_cp, kd_aI, gL_aI, gR_aI, gI_aI, gI_aIn, sI_aI, gI_sIn, Int.reduceToNat, Int.reduceAdd, Int.reduceSub, Int.reduceMul, Int.reduceNeg, Int.zero_add]
    rfl
  | m + 1, w, h, L, hw, h1, hk => by
    have L0 := L
    have s1 : rmS h (sI h (121 + w) K (-9)) := rmS_s ⟨h1, by omega⟩
    obtain ⟨g, e, sg, v1, v2⟩ := wMs_a d r K hK x5 x6 m (w + 1) (sI h (121 + w) K (-9)) (rmS_L s1 L) (by omega) (by omega) (by rw [gI_sIn (by omega)]; exact hk)
    refine ⟨g, ?_, rmS_tr s1 sg, fun v a b => ?_, fun v k a => ?_⟩
    · have rr := rmR L (show w < 7 by omega)
      obtain ⟨q1, q2⟩ := rmK L (show w < 7 by omega)
      obtain ⟨k119, j119⟩ := lay_k L0 (a := 119) (t := 3) (n := 2) rfl; obtain ⟨k120, j120⟩ := lay_k L0 (a := 120) (t := 105) (n := 7) rfl; have r119_0 : gR h 119 0 = some 120 := lay_r L0 rfl
      rw [q_26_8]
      simp (disch := (first | omega | (simp only [kd_sI, kd_sL, kd_sR, kd_cp, kd_aI]; omega) | (unfold catV; exact rfl) | (unfold catS; exact Nat.le_of_ble_eq_true rfl) | assumption)) only [q_26_0, q_26_1, q_26_2, q_26_5, q_26_6, q_26_10, q_26_12_t, q_26_12_f, q_26_15, q_26_16, q_26_19, q_26_21, q_26_22, q_26_23, q_26_26, q_26_28, q_26_29, q_26_32, q_26_36, q_26_38, q_26_39, q_26_42, q_26_43, q_26_44, q_26_46, q_26_48_t, q_26_48_f, q_26_51, q_26_52, q_26_54, q_26_55, q_26_56, q_26_57, q_26_58, q_26_59_t, q_26_59_f, q_26_62, q_26_63, q_26_66, q_26_68, q_26_69, q_26_70, q_26_72, q_26_73, q_26_75, q_26_77, q_26_79_t, q_26_79_f, q_26_82, q_26_83, q_26_86, q_26_88, q_26_89, q_26_91, q_26_93, q_26_95_t, q_26_95_f, q_26_98, q_26_100, q_26_103, q_26_104, q_26_107, q_26_109, q_26_110, q_26_112, q_26_113, q_26_114, q_26_115, q_26_116, q_26_119, q_26_122, q_26_125, q_26_128, aft_i, aft_l, aft_v, Int.toNat_natCast, kd_sI, kd_sL, kd_sR, kd_cp, gI_sL, gI_sR, gL_sI, gL_sR, gR_sI, gR_sL, gL_cp, gR_cp, kd_aI, gL_aI, gR_aI, gI_aI, gI_aIn, sI_aI, gI_sIn, Int.reduceToNat, Int.reduceAdd, Int.reduceSub, Int.reduceMul, Int.reduceNeg, Int.zero_add, r119_0, rr, hk]
      exact e
    · by_cases z : v = w
      · subst z
        rw [v2 v K (by omega), gI_sIs]
      · exact v1 v (by omega) b
    · rw [v2 v k (by omega), gI_sIn (by omega)]
theorem wMs_b (d : Nat) (r : Int) (K : Nat) (hK : K ≤ 40) (k dry : Nat) (hk : k < K) (hd : dry ≤ 41) : ∀ (m w : Nat) (h : mH) (L : LAY h), w + m = 7 → 1 ≤ w → ∃ g, resA (callA d) 26 (75, [Sum.inr (Sum.inr (some 119)), Sum.inr (Sum.inl r), Sum.inr (Sum.inr none), Sum.inl (K : Int), Sum.inl (dry : Int), Sum.inl (k : Int), Sum.inl (w : Int)], [], h) = resA (callA d) 26 (122, [Sum.inr (Sum.inr (some 119)), Sum.inr (Sum.inl r), Sum.inr (Sum.inr none), Sum.inl (K : Int), Sum.inl (dry : Int), Sum.inl (k : Int), Sum.inl 7], [], g) ∧ rmS h g ∧ (∀ v, w ≤ v → v ≤ 6 → gI g (121 + v) k = if v ≤ dry then (k : Int) else gI h (121 + v) (k + 1)) ∧ (∀ v j, w ≤ v → v ≤ 6 → j ≠ k → gI g (121 + v) j = gI h (121 + v) j) ∧ ∀ v j, v < w → gI g (121 + v) j = gI h (121 + v) j
  | 0, w, h, L, hw, h1 => by
    have e : w = 7 := hw
    subst e
    refine ⟨h, ?_, rmS_rf h, fun v a b => absurd a (by omega), fun _ _ _ _ _ => rfl, fun _ _ _ => rfl⟩
    simp (disch := (first | omega | (simp only [kd_sI, kd_sL, kd_sR, kd_cp, kd_aI]; omega) | (unfold catV; exact rfl) | (unfold catS; exact Nat.le_of_ble_eq_true rfl) | assumption)) only [q_26_0, q_26_1, q_26_2, q_26_5, q_26_6, q_26_8, q_26_10, q_26_12_t, q_26_12_f, q_26_15, q_26_16, q_26_19, q_26_21, q_26_22, q_26_23, q_26_26, q_26_28, q_26_29, q_26_32, q_26_35, q_26_36, q_26_38, q_26_39, q_26_42, q_26_43, q_26_44, q_26_46, q_26_48_t, q_26_48_f, q_26_51, q_26_52, q_26_54, q_26_55, q_26_56, q_26_57, q_26_58, q_26_59_t, q_26_59_f, q_26_62, q_26_63, q_26_66, q_26_68, q_26_69, q_26_70, q_26_72, q_26_73, q_26_75, q_26_77, q_26_79_t, q_26_79_f, q_26_82, q_26_83, q_26_86, q_26_88, q_26_89, q_26_91, q_26_93, q_26_95_t, q_26_95_f, q_26_98, q_26_100, q_26_103, q_26_104, q_26_107, q_26_109, q_26_110, q_26_112, q_26_113, q_26_114, q_26_115, q_26_116, q_26_119, q_26_125, q_26_128, aft_i, aft_l, aft_v, Int.toNat_natCast, kd_sI, kd_sL, kd_sR, kd_cp, gI_sL, gI_sR, gL_sI, gL_sR, gR_sI, gR_sL, gL_cp, gR_cp, kd_aI, gL_aI, gR_aI, gI_aI, gI_aIn, sI_aI, gI_sIn, Int.reduceToNat, Int.reduceAdd, Int.reduceSub, Int.reduceMul, Int.reduceNeg, Int.zero_add]
    rfl
  | m + 1, w, h, L, hw, h1 => by
    have L0 := L
    have rr := rmR L (show w < 7 by omega)
    obtain ⟨q1, q2⟩ := rmK L (show w < 7 by omega)
    have ix : ((k : Int) + 1).toNat = k + 1 := by omega
    have s1 : rmS h (sI h (121 + w) k (if w ≤ dry then (k : Int) else gI h (121 + w) (k + 1))) := rmS_s ⟨h1, by omega⟩
    obtain ⟨g, e, sg, v1, v2, v3⟩ := wMs_b d r K hK k dry hk hd m (w + 1) _ (rmS_L s1 L) (by omega) (by omega)
    refine ⟨g, ?_, rmS_tr s1 sg, fun v a b => ?_, fun v j a b n => ?_, fun v j a => ?_⟩
    · obtain ⟨k119, j119⟩ := lay_k L0 (a := 119) (t := 3) (n := 2) rfl; obtain ⟨k120, j120⟩ := lay_k L0 (a := 120) (t := 105) (n := 7) rfl; have r119_0 : gR h 119 0 = some 120 := lay_r L0 rfl
      rw [q_26_75]
      by_cases z : w ≤ dry
      · rw [if_pos z] at e
        simp (disch := (first | omega | (simp only [kd_sI, kd_sL, kd_sR, kd_cp, kd_aI]; omega) | (unfold catV; exact rfl) | (unfold catS; exact Nat.le_of_ble_eq_true rfl) | assumption)) only [q_26_0, q_26_1, q_26_2, q_26_5, q_26_6, q_26_8, q_26_10, q_26_12_t, q_26_12_f, q_26_15, q_26_16, q_26_19, q_26_21, q_26_22, q_26_23, q_26_26, q_26_28, q_26_29, q_26_32, q_26_35, q_26_36, q_26_38, q_26_39, q_26_42, q_26_43, q_26_44, q_26_46, q_26_48_t, q_26_48_f, q_26_51, q_26_52, q_26_54, q_26_55, q_26_56, q_26_57, q_26_58, q_26_59_t, q_26_59_f, q_26_62, q_26_63, q_26_66, q_26_68, q_26_69, q_26_70, q_26_72, q_26_73, q_26_77, q_26_79_t, q_26_79_f, q_26_82, q_26_83, q_26_86, q_26_88, q_26_89, q_26_91, q_26_93, q_26_95_t, q_26_95_f, q_26_98, q_26_100, q_26_103, q_26_104, q_26_107, q_26_109, q_26_110, q_26_112, q_26_113, q_26_114, q_26_115, q_26_116, q_26_119, q_26_125, q_26_128, aft_i, aft_l, aft_v, Int.toNat_natCast, kd_sI, kd_sL, kd_sR, kd_cp, gI_sL, gI_sR, gL_sI, gL_sR, gR_sI, gR_sL, gL_cp, gR_cp, kd_aI, gL_aI, gR_aI, gI_aI, gI_aIn, sI_aI, gI_sIn, Int.reduceToNat, Int.reduceAdd, Int.reduceSub, Int.reduceMul, Int.reduceNeg, Int.zero_add, r119_0, rr]
        exact e
      · rw [if_neg z] at e
        simp (disch := (first | omega | (simp only [kd_sI, kd_sL, kd_sR, kd_cp, kd_aI]; omega) | (unfold catV; exact rfl) | (unfold catS; exact Nat.le_of_ble_eq_true rfl) | assumption)) only [q_26_0, q_26_1, q_26_2, q_26_5, q_26_6, q_26_8, q_26_10, q_26_12_t, q_26_12_f, q_26_15, q_26_16, q_26_19, q_26_21, q_26_22, q_26_23, q_26_26, q_26_28, q_26_29, q_26_32, q_26_35, q_26_36, q_26_38, q_26_39, q_26_42, q_26_43, q_26_44, q_26_46, q_26_48_t, q_26_48_f, q_26_51, q_26_52, q_26_54, q_26_55, q_26_56, q_26_57, q_26_58, q_26_59_t, q_26_59_f, q_26_62, q_26_63, q_26_66, q_26_68, q_26_69, q_26_70, q_26_72, q_26_73, q_26_77, q_26_79_t, q_26_79_f, q_26_82, q_26_83, q_26_86, q_26_88, q_26_89, q_26_91, q_26_93, q_26_95_t, q_26_95_f, q_26_98, q_26_100, q_26_103, q_26_104, q_26_107, q_26_109, q_26_110, q_26_112, q_26_113, q_26_114, q_26_115, q_26_116, q_26_119, q_26_125, q_26_128, aft_i, aft_l, aft_v, Int.toNat_natCast, kd_sI, kd_sL, kd_sR, kd_cp, gI_sL, gI_sR, gL_sI, gL_sR, gR_sI, gR_sL, gL_cp, gR_cp, kd_aI, gL_aI, gR_aI, gI_aI, gI_aIn, sI_aI, gI_sIn, Int.reduceToNat, Int.reduceAdd, Int.reduceSub, Int.reduceMul, Int.reduceNeg, Int.zero_add, r119_0, rr, ix]
        exact e
    · by_cases z : v = w
      · subst z
        rw [v3 v k (by omega), gI_sIs]
      · rw [v1 v (by omega) b, gI_sIn (by omega)]
    · by_cases z : v = w
      · subst z
        rw [v3 v j (by omega), gI_sIo n]
      · rw [v2 v j (by omega) b n, gI_sIn (by omega)]
    · rw [v3 v j (by omega), gI_sIn (by omega)]
theorem dryF_le (T : Td) (N : Nt) : ∀ f k, dryF T N f k ≤ f
  | 0, _ => Nat.le_refl _
  | f + 1, k => by
    have := dryF_le T N f (k + 1)
    unfold dryF
    split <;> omega
theorem wMs_c (d : Nat) (T : Td) (N : Nt) (k4 : tK T ≤ 40) (v40 : nV N < 2 ^ 40) : ∀ (k : Nat) (h : mH) (L : LAY h) (x6 : mV), k ≤ tK T → (∀ w j, 1 ≤ w → w ≤ 6 → k ≤ j → j ≤ tK T → gI h (121 + w) j = rmF T N w j) → ∃ g, resA (callA d) 26 (46, [Sum.inr (Sum.inr (some 119)), Sum.inr (Sum.inl (nV N : Int)), Sum.inr (Sum.inr none), Sum.inl (tK T : Int), Sum.inl (dryF T N (tK T - k) k : Int), Sum.inl ((k : Int) - 1), x6], [], h) = some (none, g) ∧ rmS h g ∧ ∀ w j, 1 ≤ w → w ≤ 6 → j ≤ tK T → gI g (121 + w) j = rmF T N w j
  | 0, h, L, x6, hk, hr => by
    refine ⟨h, ?_, rmS_rf h, fun w j a b c => hr w j a b (Nat.zero_le _) c⟩
    rw [show ((0 : Nat) : Int) - 1 = -1 from rfl]
    simp (disch := (first | omega | (simp only [kd_sI, kd_sL, kd_sR, kd_cp, kd_aI]; omega) | (unfold catV; exact rfl) | (unfold catS; exact Nat.le_of_ble_eq_true rfl) | assumption)) only [q_26_0, q_26_1, q_26_2, q_26_5, q_26_6, q_26_8, q_26_10, q_26_12_t, q_26_12_f, q_26_15, q_26_16, q_26_19, q_26_21, q_26_22, q_26_23, q_26_26, q_26_28, q_26_29, q_26_32, q_26_35, q_26_36, q_26_38, q_26_39, q_26_42, q_26_43, q_26_44, q_26_46, q_26_48_t, q_26_48_f, q_26_51, q_26_52, q_26_54, q_26_55, q_26_56, q_26_57, q_26_58, q_26_59_t, q_26_59_f, q_26_62, q_26_63, q_26_66, q_26_68, q_26_69, q_26_70, q_26_72, q_26_73, q_26_75, q_26_77, q_26_79_t, q_26_79_f, q_26_82, q_26_83, q_26_86, q_26_88, q_26_89, q_26_91, q_26_93, q_26_95_t, q_26_95_f, q_26_98, q_26_100, q_26_103, q_26_104, q_26_107, q_26_109, q_26_110, q_26_112, q_26_113, q_26_114, q_26_115, q_26_116, q_26_119, q_26_122, q_26_125, q_26_128, aft_i, aft_l, aft_v, Int.toNat_natCast, kd_sI, kd_sL, kd_sR, kd_cp, gI_sL, gI_sR, gL_sI, gL_sR, gR_sI, gR_sL, gL_cp, gR_cp, kd_aI, gL_aI, gR_aI, gI_aI, gI_aIn, sI_aI, gI_sIn, Int.reduceToNat, Int.reduceAdd, Int.reduceSub, Int.reduceMul, Int.reduceNeg, Int.zero_add]
  | k + 1, h, L, x6, hk, hr => by
    have dl := dryF_le T N (tK T - (k + 1)) (k + 1)
    have dl2 := dryF_le T N (tK T - k) k
    have eD : dryF T N (tK T - k) k = if (nV N).testBit k = true then 0 else dryF T N (tK T - (k + 1)) (k + 1) + 1 := by
      rw [show tK T - k = (tK T - (k + 1)) + 1 by omega]
      rfl
    obtain ⟨g, e, sg, v1, v2, -⟩ := wMs_b d (nV N) (tK T) k4 k (dryF T N (tK T - k) k) (by omega) (by omega) 6 1 h L rfl (Nat.le_refl _)
    have Lg := rmS_L sg L
    obtain ⟨g2, e2, s2, v4⟩ := wMs_c d T N k4 v40 k g Lg (Sum.inl 7) (by omega) (fun w j a b c f => by
      by_cases z : j = k
      · subst z
        rw [v1 w a b, rmF_up k4 (by omega), hr w (j + 1) a b (by omega) (by omega)]
      · rw [v2 w j a b z]
        exact hr w j a b (by omega) f)
    refine ⟨g2, ?_, rmS_tr sg s2, v4⟩
    have b := bitL (a := nV N) (c := k) (by omega) (by omega)
    have e0 : ((k + 1 : Nat) : Int) - 1 = (k : Int) := by omega
    have e1 : resA (callA d) 26 (75, [Sum.inr (Sum.inr (some 119)), Sum.inr (Sum.inl (nV N : Int)), Sum.inr (Sum.inr none), Sum.inl (tK T : Int), Sum.inl (dryF T N (tK T - k) k : Int), Sum.inl (k : Int), Sum.inl 1], [], h) = _ := e
    have e3 : (k : Int) + -1 = (k : Int) - 1 := by omega
    rw [e0, q_26_46]
    by_cases z : (nV N).testBit k = true
    · rw [if_pos z] at b eD
      rw [eD, show ((0 : Nat) : Int) = 0 from rfl] at e1 e2
      simp (disch := (first | omega | (simp only [kd_sI, kd_sL, kd_sR, kd_cp, kd_aI]; omega) | (unfold catV; exact rfl) | (unfold catS; exact Nat.le_of_ble_eq_true rfl) | assumption)) only [q_26_0, q_26_1, q_26_2, q_26_5, q_26_6, q_26_8, q_26_10, q_26_12_t, q_26_12_f, q_26_15, q_26_16, q_26_19, q_26_21, q_26_22, q_26_23, q_26_26, q_26_28, q_26_29, q_26_32, q_26_35, q_26_36, q_26_38, q_26_39, q_26_42, q_26_43, q_26_44, q_26_48_t, q_26_48_f, q_26_51, q_26_52, q_26_54, q_26_55, q_26_56, q_26_57, q_26_58, q_26_59_t, q_26_59_f, q_26_62, q_26_63, q_26_66, q_26_68, q_26_69, q_26_70, q_26_72, q_26_73, q_26_77, q_26_79_t, q_26_79_f, q_26_82, q_26_83, q_26_86, q_26_88, q_26_89, q_26_91, q_26_93, q_26_95_t, q_26_95_f, q_26_98, q_26_100, q_26_103, q_26_104, q_26_107, q_26_109, q_26_110, q_26_112, q_26_113, q_26_114, q_26_115, q_26_116, q_26_119, q_26_125, q_26_128, aft_i, aft_l, aft_v, Int.toNat_natCast, kd_sI, kd_sL, kd_sR, kd_cp, gI_sL, gI_sR, gL_sI, gL_sR, gR_sI, gR_sL, gL_cp, gR_cp, kd_aI, gL_aI, gR_aI, gI_aI, gI_aIn, sI_aI, gI_sIn, Int.reduceToNat, Int.reduceAdd, Int.reduceSub, Int.reduceMul, Int.reduceNeg, Int.zero_add, b, cmp11]
      rw [e1]
      simp (disch := (first | omega | (simp only [kd_sI, kd_sL, kd_sR, kd_cp, kd_aI]; omega) | (unfold catV; exact rfl) | (unfold catS; exact Nat.le_of_ble_eq_true rfl) | assumption)) only [q_26_0, q_26_1, q_26_2, q_26_5, q_26_6, q_26_8, q_26_10, q_26_12_t, q_26_12_f, q_26_15, q_26_16, q_26_19, q_26_21, q_26_22, q_26_23, q_26_26, q_26_28, q_26_29, q_26_32, q_26_35, q_26_36, q_26_38, q_26_39, q_26_42, q_26_43, q_26_44, q_26_48_t, q_26_48_f, q_26_51, q_26_52, q_26_54, q_26_55, q_26_56, q_26_57, q_26_58, q_26_59_t, q_26_59_f, q_26_62, q_26_63, q_26_66, q_26_68, q_26_69, q_26_70, q_26_72, q_26_73, q_26_77, q_26_79_t, q_26_79_f, q_26_82, q_26_83, q_26_86, q_26_88, q_26_89, q_26_91, q_26_93, q_26_95_t, q_26_95_f, q_26_98, q_26_100, q_26_103, q_26_104, q_26_107, q_26_109, q_26_110, q_26_112, q_26_113, q_26_114, q_26_115, q_26_116, q_26_119, q_26_122, q_26_125, q_26_128, aft_i, aft_l, aft_v, Int.toNat_natCast, kd_sI, kd_sL, kd_sR, kd_cp, gI_sL, gI_sR, gL_sI, gL_sR, gR_sI, gR_sL, gL_cp, gR_cp, kd_aI, gL_aI, gR_aI, gI_aI, gI_aIn, sI_aI, gI_sIn, Int.reduceToNat, Int.reduceAdd, Int.reduceSub, Int.reduceMul, Int.reduceNeg, Int.zero_add, e3]
      exact e2
    · rw [if_neg z] at b eD
      have eD2 : (dryF T N (tK T - k) k : Int) = (dryF T N (tK T - (k + 1)) (k + 1) : Int) + 1 := by omega
      rw [eD2] at e1 e2
      simp (disch := (first | omega | (simp only [kd_sI, kd_sL, kd_sR, kd_cp, kd_aI]; omega) | (unfold catV; exact rfl) | (unfold catS; exact Nat.le_of_ble_eq_true rfl) | assumption)) only [q_26_0, q_26_1, q_26_2, q_26_5, q_26_6, q_26_8, q_26_10, q_26_12_t, q_26_12_f, q_26_15, q_26_16, q_26_19, q_26_21, q_26_22, q_26_23, q_26_26, q_26_28, q_26_29, q_26_32, q_26_35, q_26_36, q_26_38, q_26_39, q_26_42, q_26_43, q_26_44, q_26_48_t, q_26_48_f, q_26_51, q_26_52, q_26_54, q_26_55, q_26_56, q_26_57, q_26_58, q_26_59_t, q_26_59_f, q_26_62, q_26_63, q_26_66, q_26_68, q_26_69, q_26_70, q_26_72, q_26_73, q_26_77, q_26_79_t, q_26_79_f, q_26_82, q_26_83, q_26_86, q_26_88, q_26_89, q_26_91, q_26_93, q_26_95_t, q_26_95_f, q_26_98, q_26_100, q_26_103, q_26_104, q_26_107, q_26_109, q_26_110, q_26_112, q_26_113, q_26_114, q_26_115, q_26_116, q_26_119, q_26_125, q_26_128, aft_i, aft_l, aft_v, Int.toNat_natCast, kd_sI, kd_sL, kd_sR, kd_cp, gI_sL, gI_sR, gL_sI, gL_sR, gR_sI, gR_sL, gL_cp, gR_cp, kd_aI, gL_aI, gR_aI, gI_aI, gI_aIn, sI_aI, gI_sIn, Int.reduceToNat, Int.reduceAdd, Int.reduceSub, Int.reduceMul, Int.reduceNeg, Int.zero_add, b, cmp01]
      rw [e1]
      simp (disch := (first | omega | (simp only [kd_sI, kd_sL, kd_sR, kd_cp, kd_aI]; omega) | (unfold catV; exact rfl) | (unfold catS; exact Nat.le_of_ble_eq_true rfl) | assumption)) only [q_26_0, q_26_1, q_26_2, q_26_5, q_26_6, q_26_8, q_26_10, q_26_12_t, q_26_12_f, q_26_15, q_26_16, q_26_19, q_26_21, q_26_22, q_26_23, q_26_26, q_26_28, q_26_29, q_26_32, q_26_35, q_26_36, q_26_38, q_26_39, q_26_42, q_26_43, q_26_44, q_26_48_t, q_26_48_f, q_26_51, q_26_52, q_26_54, q_26_55, q_26_56, q_26_57, q_26_58, q_26_59_t, q_26_59_f, q_26_62, q_26_63, q_26_66, q_26_68, q_26_69, q_26_70, q_26_72, q_26_73, q_26_77, q_26_79_t, q_26_79_f, q_26_82, q_26_83, q_26_86, q_26_88, q_26_89, q_26_91, q_26_93, q_26_95_t, q_26_95_f, q_26_98, q_26_100, q_26_103, q_26_104, q_26_107, q_26_109, q_26_110, q_26_112, q_26_113, q_26_114, q_26_115, q_26_116, q_26_119, q_26_122, q_26_125, q_26_128, aft_i, aft_l, aft_v, Int.toNat_natCast, kd_sI, kd_sL, kd_sR, kd_cp, gI_sL, gI_sR, gL_sI, gL_sR, gR_sI, gR_sL, gL_cp, gR_cp, kd_aI, gL_aI, gR_aI, gI_aI, gI_aIn, sI_aI, gI_sIn, Int.reduceToNat, Int.reduceAdd, Int.reduceSub, Int.reduceMul, Int.reduceNeg, Int.zero_add, e3]
      exact e2
theorem wMs_ok (d : Nat) (h : mH) (L : LAY h) (T : Td) (N : Nt) (k4 : tK T ≤ 40) (v40 : nV N < 2 ^ 40) : ∃ g, callA (d + 1) 26 [Sum.inr (Sum.inr (some 119)), Sum.inr (Sum.inl (nV N : Int)), Sum.inl (tK T : Int)] h = some (none, g) ∧ rmS (sI h 119 1 (tK T)) g ∧ ∀ w j, 1 ≤ w → w ≤ 6 → j ≤ tK T → gI g (121 + w) j = rmF T N w j := by
  have L0 := L
  have L1 := lay_sI L 119 1 (tK T)
  obtain ⟨g1, e1, s1, v1, -⟩ := wMs_a d (nV N) (tK T) k4 (Sum.inr (Sum.inr none)) (Sum.inr (Sum.inr none)) 6 1 _ L1 rfl (Nat.le_refl _) (gI_sIs h 119 1 _)
  have Lg := rmS_L s1 L1
  have n1 : gI g1 119 1 = tK T := by rw [s1.2.2.2 119 1 (by omega), gI_sIs]
  obtain ⟨g2, e2, s2, v2⟩ := wMs_c d T N k4 v40 (tK T) g1 Lg (Sum.inr (Sum.inr none)) (Nat.le_refl _) (fun w j a b c f => by
    have : j = tK T := by omega
    subst this
    rw [v1 w a b, rmF_end a])
  refine ⟨g2, ?_, rmS_tr s1 s2, v2⟩
  have e1 : resA (callA d) 26 (8, [Sum.inr (Sum.inr (some 119)), Sum.inr (Sum.inl (nV N : Int)), Sum.inr (Sum.inr none), Sum.inl (tK T : Int), Sum.inl 1, Sum.inr (Sum.inr none), Sum.inr (Sum.inr none)], [], sI h 119 1 (tK T)) = _ := e1
  rw [Nat.sub_self] at e2
  have e2 : resA (callA d) 26 (46, [Sum.inr (Sum.inr (some 119)), Sum.inr (Sum.inl (nV N : Int)), Sum.inr (Sum.inr none), Sum.inl (tK T : Int), Sum.inl 0, Sum.inl ((tK T : Int) - 1), Sum.inr (Sum.inr none)], [], g1) = _ := e2
  obtain ⟨m1, m2⟩ := lay_k Lg (a := 119) (t := 3) (n := 2) rfl
  obtain ⟨k119, j119⟩ := lay_k L0 (a := 119) (t := 3) (n := 2) rfl
  rw [en_26]
  simp (disch := (first | omega | (simp only [kd_sI, kd_sL, kd_sR, kd_cp, kd_aI]; omega) | (unfold catV; exact rfl) | (unfold catS; exact Nat.le_of_ble_eq_true rfl) | assumption)) only [q_26_0, q_26_1, q_26_2, q_26_5, q_26_6, q_26_10, q_26_12_t, q_26_12_f, q_26_15, q_26_16, q_26_19, q_26_21, q_26_22, q_26_23, q_26_26, q_26_28, q_26_29, q_26_32, q_26_35, q_26_36, q_26_38, q_26_39, q_26_42, q_26_43, q_26_44, q_26_48_t, q_26_48_f, q_26_51, q_26_52, q_26_54, q_26_55, q_26_56, q_26_57, q_26_58, q_26_59_t, q_26_59_f, q_26_62, q_26_63, q_26_66, q_26_68, q_26_69, q_26_70, q_26_72, q_26_73, q_26_75, q_26_77, q_26_79_t, q_26_79_f, q_26_82, q_26_83, q_26_86, q_26_88, q_26_89, q_26_91, q_26_93, q_26_95_t, q_26_95_f, q_26_98, q_26_100, q_26_103, q_26_104, q_26_107, q_26_109, q_26_110, q_26_112, q_26_113, q_26_114, q_26_115, q_26_116, q_26_119, q_26_122, q_26_125, q_26_128, aft_i, aft_l, aft_v, Int.toNat_natCast, kd_sI, kd_sL, kd_sR, kd_cp, gI_sL, gI_sR, gL_sI, gL_sR, gR_sI, gR_sL, gL_cp, gR_cp, kd_aI, gL_aI, gR_aI, gI_aI, gI_aIn, sI_aI, gI_sIn, Int.reduceToNat, Int.reduceAdd, Int.reduceSub, Int.reduceMul, Int.reduceNeg, Int.zero_add]
  rw [e1]
  simp (disch := (first | omega | (simp only [kd_sI, kd_sL, kd_sR, kd_cp, kd_aI]; omega) | (unfold catV; exact rfl) | (unfold catS; exact Nat.le_of_ble_eq_true rfl) | assumption)) only [q_26_0, q_26_1, q_26_2, q_26_5, q_26_6, q_26_10, q_26_12_t, q_26_12_f, q_26_15, q_26_16, q_26_19, q_26_21, q_26_22, q_26_23, q_26_26, q_26_28, q_26_29, q_26_32, q_26_35, q_26_36, q_26_38, q_26_39, q_26_42, q_26_43, q_26_44, q_26_48_t, q_26_48_f, q_26_51, q_26_52, q_26_54, q_26_55, q_26_56, q_26_57, q_26_58, q_26_59_t, q_26_59_f, q_26_62, q_26_63, q_26_66, q_26_68, q_26_69, q_26_70, q_26_72, q_26_73, q_26_75, q_26_77, q_26_79_t, q_26_79_f, q_26_82, q_26_83, q_26_86, q_26_88, q_26_89, q_26_91, q_26_93, q_26_95_t, q_26_95_f, q_26_98, q_26_100, q_26_103, q_26_104, q_26_107, q_26_109, q_26_110, q_26_112, q_26_113, q_26_114, q_26_115, q_26_116, q_26_119, q_26_122, q_26_125, q_26_128, aft_i, aft_l, aft_v, Int.toNat_natCast, kd_sI, kd_sL, kd_sR, kd_cp, gI_sL, gI_sR, gL_sI, gL_sR, gR_sI, gR_sL, gL_cp, gR_cp, kd_aI, gL_aI, gR_aI, gI_aI, gI_aIn, sI_aI, gI_sIn, Int.reduceToNat, Int.reduceAdd, Int.reduceSub, Int.reduceMul, Int.reduceNeg, Int.zero_add, n1]
  exact e2
