theorem freeB_le {land : Nat → Int} {cells k w : Nat} (h : freeB land cells k w = true) : k + w ≤ cells := by
  unfold freeB at h
  simp only [Bool.and_eq_true, decide_eq_true_eq] at h
  exact h.1
/-- the first cell from k on (f more to look at) with room for w -/
def fstF (land : Nat → Int) (cells w : Nat) : Nat → Nat → Option Nat
  | 0, _ => none
  | f + 1, k => if freeB land cells k w = true then some k else fstF land cells w f (k + 1)
theorem fstF_some {land : Nat → Int} {cells w : Nat} : ∀ {f k p : Nat}, fstF land cells w f k = some p → k ≤ p ∧ p < k + f ∧ freeB land cells p w = true ∧ ∀ j, k ≤ j → j < p → ¬ freeB land cells j w = true
  | 0, k, p, h => by cases h
  | f + 1, k, p, h => by
    unfold fstF at h
    split at h
    next q => cases h; exact ⟨Nat.le_refl _, by omega, q, fun j a b => by omega⟩
    next q =>
      obtain ⟨a, b, c, e⟩ := fstF_some h
      exact ⟨by omega, by omega, c, fun j u v => by
        by_cases z : j = k
        · rw [z]; exact q
        · exact e j (by omega) v⟩
theorem fstF_none {land : Nat → Int} {cells w : Nat} : ∀ {f k : Nat}, fstF land cells w f k = none → ∀ j, k ≤ j → j < k + f → ¬ freeB land cells j w = true
  | 0, k, h => fun j a b => by omega
  | f + 1, k, h => by
    unfold fstF at h
    split at h
    next q => cases h
    next q =>
      have e := fstF_none h
      intro j u v
      by_cases z : j = k
      · rw [z]; exact q
      · exact e j (by omega) (by omega)
def vO (o : Option Nat) : Int := match o with
  | some k => (k : Int)
  | none => -9
/-- SET UP: from which cell on the i-th stands (none: OUT before) -/
def suS (land : Nat → Int) (cells : Nat) (ax rw : Nat → Nat) : Nat → Option Nat
  | 0 => some 0
  | i + 1 => match suS land cells ax rw i with
    | none => none
    | some f => (fstF land cells (ax (rw i)) (40 - f) f).map (fun p => p + ax (rw i))
/-- SET UP: the first cell of the i-th -/
def suP (land : Nat → Int) (cells : Nat) (ax rw : Nat → Nat) (i : Nat) : Option Nat := match suS land cells ax rw i with
  | none => none
  | some f => fstF land cells (ax (rw i)) (40 - f) f
theorem suS_s (land : Nat → Int) (cells : Nat) (ax rw : Nat → Nat) (i : Nat) : suS land cells ax rw (i + 1) = (suP land cells ax rw i).map (fun p => p + ax (rw i)) := by
  show (match suS land cells ax rw i with
    | none => none
    | some f => (fstF land cells (ax (rw i)) (40 - f) f).map (fun p => p + ax (rw i))) = _
  unfold suP
  cases suS land cells ax rw i <;> rfl
theorem suS_le {land : Nat → Int} {cells : Nat} {ax rw : Nat → Nat} : ∀ {i f : Nat}, suS land cells ax rw i = some f → f ≤ cells
  | 0, f, h => by cases h; omega
  | i + 1, f, h => by
    rw [suS_s] at h
    unfold suP at h
    cases q : suS land cells ax rw i with
    | none => rw [q] at h; cases h
    | some g =>
      rw [q] at h
      cases q2 : fstF land cells (ax (rw i)) (40 - g) g with
      | none => simp [q2] at h
      | some p =>
        simp [q2] at h
        have := freeB_le (fstF_some q2).2.2.1
        omega
def fiF (land : Nat → Int) (cells : Nat) (ax rw : Nat → Nat) (F0 : Nat → Int) : Nat → Nat → Int
  | 0 => F0
  | i + 1 => upI (fiF land cells ax rw F0 i) (rw i) (vO (suP land cells ax rw i))
theorem mSu_in (d : Nat) (h : mH) (L : LAY h) (cells w : Nat) (hc : gI h 147 0 = cells) (h4 : cells ≤ 40) (hw : 1 ≤ w ∧ w ≤ 6) (i c : Int) : ∀ (f k : Nat), k + f = 40 →
    (∀ p, fstF (gI h 153) cells w f k = some p → resA (callA (d + 1)) 145 (34, [Sum.inr (Sum.inr (some 141)), Sum.inl (k : Int), Sum.inl 0, Sum.inl i, Sum.inl c, Sum.inl (w : Int)], [], h) = resA (callA (d + 1)) 145 (66, [Sum.inr (Sum.inr (some 141)), Sum.inl (p : Int), Sum.inl 0, Sum.inl i, Sum.inl c, Sum.inl (w : Int)], [], h)) ∧
    (fstF (gI h 153) cells w f k = none → ∃ nx : Nat, nx ≤ 41 ∧ resA (callA (d + 1)) 145 (34, [Sum.inr (Sum.inr (some 141)), Sum.inl (k : Int), Sum.inl 0, Sum.inl i, Sum.inl c, Sum.inl (w : Int)], [], h) = resA (callA (d + 1)) 145 (66, [Sum.inr (Sum.inr (some 141)), Sum.inl (nx : Int), Sum.inl 1, Sum.inl i, Sum.inl c, Sum.inl (w : Int)], [], h))
  | 0, k, hk => by
    refine ⟨fun p hp => (by cases hp), fun _ => ⟨k + 1, by omega, ?_⟩⟩
    obtain ⟨k141, j141⟩ := lay_k L (a := 141) (t := 8) (n := 26) rfl
    have q : ¬ freeB (gI h 153) cells k w = true := fun z => by have := freeB_le z; omega
    have e := mFree_f d h L cells k w hc h4 (by omega) (by omega) q
    rw [q_145_34]
    simp (disch := (first | omega | (simp only [kd_sI, kd_sL, kd_sR, kd_cp, kd_aI]; omega) | (unfold catV; exact rfl) | (unfold catS; exact Nat.le_of_ble_eq_true rfl) | assumption)) only [q_145_0, q_145_1, q_145_2, q_145_3, q_145_4, q_145_5, q_145_6, q_145_7, q_145_8, q_145_11_t, q_145_11_f, q_145_14, q_145_15, q_145_18, q_145_19, q_145_20, q_145_22, q_145_23, q_145_26, q_145_28, q_145_30, q_145_31, q_145_32, q_145_35_t, q_145_35_f, q_145_38, q_145_39, q_145_40, q_145_42, q_145_45_t, q_145_45_f, q_145_48, q_145_51, q_145_52, q_145_54_t, q_145_54_f, q_145_57, q_145_58, q_145_61, q_145_62, q_145_63, q_145_67, q_145_70, q_145_72, q_145_73_t, q_145_73_f, q_145_76, q_145_78, q_145_81, q_145_82, q_145_83, q_145_84, q_145_86, q_145_87, q_145_88, q_145_91, q_145_94, aft_i, aft_l, aft_v, Int.toNat_natCast, kd_sI, kd_sL, kd_sR, kd_cp, gI_sL, gI_sR, gL_sI, gL_sR, gR_sI, gR_sL, gL_cp, gR_cp, kd_aI, gL_aI, gR_aI, gI_aI, gI_aIn, sI_aI, gI_sIn, Int.reduceToNat, Int.reduceAdd, Int.reduceSub, Int.reduceMul, Int.reduceNeg, Int.zero_add, e]
    rw [q_145_34]
    simp (disch := (first | omega | (simp only [kd_sI, kd_sL, kd_sR, kd_cp, kd_aI]; omega) | (unfold catV; exact rfl) | (unfold catS; exact Nat.le_of_ble_eq_true rfl) | assumption)) only [q_145_0, q_145_1, q_145_2, q_145_3, q_145_4, q_145_5, q_145_6, q_145_7, q_145_8, q_145_11_t, q_145_11_f, q_145_14, q_145_15, q_145_18, q_145_19, q_145_20, q_145_22, q_145_23, q_145_26, q_145_28, q_145_30, q_145_31, q_145_32, q_145_35_t, q_145_35_f, q_145_38, q_145_39, q_145_40, q_145_42, q_145_45_t, q_145_45_f, q_145_48, q_145_51, q_145_52, q_145_54_t, q_145_54_f, q_145_57, q_145_58, q_145_61, q_145_62, q_145_63, q_145_67, q_145_70, q_145_72, q_145_73_t, q_145_73_f, q_145_76, q_145_78, q_145_81, q_145_82, q_145_83, q_145_84, q_145_86, q_145_87, q_145_88, q_145_91, q_145_94, aft_i, aft_l, aft_v, Int.toNat_natCast, kd_sI, kd_sL, kd_sR, kd_cp, gI_sL, gI_sR, gL_sI, gL_sR, gR_sI, gR_sL, gL_cp, gR_cp, kd_aI, gL_aI, gR_aI, gI_aI, gI_aIn, sI_aI, gI_sIn, Int.reduceToNat, Int.reduceAdd, Int.reduceSub, Int.reduceMul, Int.reduceNeg, Int.zero_add, e]
    rfl
  | f + 1, k, hk => by
    obtain ⟨k141, j141⟩ := lay_k L (a := 141) (t := 8) (n := 26) rfl
    by_cases q : freeB (gI h 153) cells k w = true
    · have e := mFree_t d h L cells k w hc h4 (by omega) (by omega) q
      unfold fstF
      rw [if_pos q]
      refine ⟨fun p hp => ?_, fun z => by cases z⟩
      cases hp
      rw [q_145_34]
      simp (disch := (first | omega | (simp only [kd_sI, kd_sL, kd_sR, kd_cp, kd_aI]; omega) | (unfold catV; exact rfl) | (unfold catS; exact Nat.le_of_ble_eq_true rfl) | assumption)) only [q_145_0, q_145_1, q_145_2, q_145_3, q_145_4, q_145_5, q_145_6, q_145_7, q_145_8, q_145_11_t, q_145_11_f, q_145_14, q_145_15, q_145_18, q_145_19, q_145_20, q_145_22, q_145_23, q_145_26, q_145_28, q_145_30, q_145_31, q_145_32, q_145_35_t, q_145_35_f, q_145_38, q_145_39, q_145_40, q_145_42, q_145_45_t, q_145_45_f, q_145_48, q_145_51, q_145_52, q_145_54_t, q_145_54_f, q_145_57, q_145_58, q_145_61, q_145_62, q_145_63, q_145_67, q_145_70, q_145_72, q_145_73_t, q_145_73_f, q_145_76, q_145_78, q_145_81, q_145_82, q_145_83, q_145_84, q_145_86, q_145_87, q_145_88, q_145_91, q_145_94, aft_i, aft_l, aft_v, Int.toNat_natCast, kd_sI, kd_sL, kd_sR, kd_cp, gI_sL, gI_sR, gL_sI, gL_sR, gR_sI, gR_sL, gL_cp, gR_cp, kd_aI, gL_aI, gR_aI, gI_aI, gI_aIn, sI_aI, gI_sIn, Int.reduceToNat, Int.reduceAdd, Int.reduceSub, Int.reduceMul, Int.reduceNeg, Int.zero_add, e]
    · have e := mFree_f d h L cells k w hc h4 (by omega) (by omega) q
      have ih := mSu_in d h L cells w hc h4 hw i c f (k + 1) (by omega)
      unfold fstF
      rw [if_neg q]
      by_cases z : f = 0
      · subst z
        refine ⟨fun p hp => (by cases hp), fun _ => ⟨k + 1, by omega, ?_⟩⟩
        rw [q_145_34]
        simp (disch := (first | omega | (simp only [kd_sI, kd_sL, kd_sR, kd_cp, kd_aI]; omega) | (unfold catV; exact rfl) | (unfold catS; exact Nat.le_of_ble_eq_true rfl) | assumption)) only [q_145_0, q_145_1, q_145_2, q_145_3, q_145_4, q_145_5, q_145_6, q_145_7, q_145_8, q_145_11_t, q_145_11_f, q_145_14, q_145_15, q_145_18, q_145_19, q_145_20, q_145_22, q_145_23, q_145_26, q_145_28, q_145_30, q_145_31, q_145_32, q_145_35_t, q_145_35_f, q_145_38, q_145_39, q_145_40, q_145_42, q_145_45_t, q_145_45_f, q_145_48, q_145_51, q_145_52, q_145_54_t, q_145_54_f, q_145_57, q_145_58, q_145_61, q_145_62, q_145_63, q_145_67, q_145_70, q_145_72, q_145_73_t, q_145_73_f, q_145_76, q_145_78, q_145_81, q_145_82, q_145_83, q_145_84, q_145_86, q_145_87, q_145_88, q_145_91, q_145_94, aft_i, aft_l, aft_v, Int.toNat_natCast, kd_sI, kd_sL, kd_sR, kd_cp, gI_sL, gI_sR, gL_sI, gL_sR, gR_sI, gR_sL, gL_cp, gR_cp, kd_aI, gL_aI, gR_aI, gI_aI, gI_aIn, sI_aI, gI_sIn, Int.reduceToNat, Int.reduceAdd, Int.reduceSub, Int.reduceMul, Int.reduceNeg, Int.zero_add, e]
        rw [q_145_34]
        simp (disch := (first | omega | (simp only [kd_sI, kd_sL, kd_sR, kd_cp, kd_aI]; omega) | (unfold catV; exact rfl) | (unfold catS; exact Nat.le_of_ble_eq_true rfl) | assumption)) only [q_145_0, q_145_1, q_145_2, q_145_3, q_145_4, q_145_5, q_145_6, q_145_7, q_145_8, q_145_11_t, q_145_11_f, q_145_14, q_145_15, q_145_18, q_145_19, q_145_20, q_145_22, q_145_23, q_145_26, q_145_28, q_145_30, q_145_31, q_145_32, q_145_35_t, q_145_35_f, q_145_38, q_145_39, q_145_40, q_145_42, q_145_45_t, q_145_45_f, q_145_48, q_145_51, q_145_52, q_145_54_t, q_145_54_f, q_145_57, q_145_58, q_145_61, q_145_62, q_145_63, q_145_67, q_145_70, q_145_72, q_145_73_t, q_145_73_f, q_145_76, q_145_78, q_145_81, q_145_82, q_145_83, q_145_84, q_145_86, q_145_87, q_145_88, q_145_91, q_145_94, aft_i, aft_l, aft_v, Int.toNat_natCast, kd_sI, kd_sL, kd_sR, kd_cp, gI_sL, gI_sR, gL_sI, gL_sR, gR_sI, gR_sL, gL_cp, gR_cp, kd_aI, gL_aI, gR_aI, gI_aI, gI_aIn, sI_aI, gI_sIn, Int.reduceToNat, Int.reduceAdd, Int.reduceSub, Int.reduceMul, Int.reduceNeg, Int.zero_add, e]
        rfl
      · have s1 : resA (callA (d + 1)) 145 (34, [Sum.inr (Sum.inr (some 141)), Sum.inl (k : Int), Sum.inl 0, Sum.inl i, Sum.inl c, Sum.inl (w : Int)], [], h) = resA (callA (d + 1)) 145 (34, [Sum.inr (Sum.inr (some 141)), Sum.inl ((k + 1 : Nat) : Int), Sum.inl 0, Sum.inl i, Sum.inl c, Sum.inl (w : Int)], [], h) := by
          conv => lhs; rw [q_145_34]
          simp (disch := (first | omega | (simp only [kd_sI, kd_sL, kd_sR, kd_cp, kd_aI]; omega) | (unfold catV; exact rfl) | (unfold catS; exact Nat.le_of_ble_eq_true rfl) | assumption)) only [q_145_0, q_145_1, q_145_2, q_145_3, q_145_4, q_145_5, q_145_6, q_145_7, q_145_8, q_145_11_t, q_145_11_f, q_145_14, q_145_15, q_145_18, q_145_19, q_145_20, q_145_22, q_145_23, q_145_26, q_145_28, q_145_30, q_145_31, q_145_32, q_145_35_t, q_145_35_f, q_145_38, q_145_39, q_145_40, q_145_42, q_145_45_t, q_145_45_f, q_145_48, q_145_51, q_145_52, q_145_54_t, q_145_54_f, q_145_57, q_145_58, q_145_61, q_145_62, q_145_63, q_145_67, q_145_70, q_145_72, q_145_73_t, q_145_73_f, q_145_76, q_145_78, q_145_81, q_145_82, q_145_83, q_145_84, q_145_86, q_145_87, q_145_88, q_145_91, q_145_94, aft_i, aft_l, aft_v, Int.toNat_natCast, kd_sI, kd_sL, kd_sR, kd_cp, gI_sL, gI_sR, gL_sI, gL_sR, gR_sI, gR_sL, gL_cp, gR_cp, kd_aI, gL_aI, gR_aI, gI_aI, gI_aIn, sI_aI, gI_sIn, Int.reduceToNat, Int.reduceAdd, Int.reduceSub, Int.reduceMul, Int.reduceNeg, Int.zero_add, e]
          rfl
        rw [s1]
        exact ih
theorem mSu_out (d : Nat) (h : mH) (L : LAY h) (cells n : Nat) (ax rw_ : Nat → Nat) (hc : gI h 147 0 = cells) (h4 : cells ≤ 40) (hn : gI h 141 19 = n) (h7 : n ≤ 7) (hr : ∀ i, i < n → gI h 152 i = (rw_ i : Int) ∧ rw_ i < 7) (ha : ∀ i, i < n → gI h 150 (9 + rw_ i) = (ax (rw_ i) : Int) ∧ 1 ≤ ax (rw_ i) ∧ ax (rw_ i) ≤ 6) : ∀ (k i : Nat), i + k = n → ∀ (a4 a5 : mV) (nx : Nat),
    (suS (gI h 153) cells ax rw_ i = some nx → resA (callA (d + 1)) 145 (6, [Sum.inr (Sum.inr (some 141)), Sum.inl (nx : Int), Sum.inl 0, Sum.inl (i : Int), a4, a5], [], aI h 154 (fiF (gI h 153) cells ax rw_ (gI h 154) i)) = some (none, aI h 154 (fiF (gI h 153) cells ax rw_ (gI h 154) n))) ∧
    (suS (gI h 153) cells ax rw_ i = none → nx ≤ 41 + 6 * i → resA (callA (d + 1)) 145 (6, [Sum.inr (Sum.inr (some 141)), Sum.inl (nx : Int), Sum.inl 1, Sum.inl (i : Int), a4, a5], [], aI h 154 (fiF (gI h 153) cells ax rw_ (gI h 154) i)) = some (none, aI h 154 (fiF (gI h 153) cells ax rw_ (gI h 154) n)))
  | 0, i, hi, a4, a5, nx => by
    have e : i = n := by omega
    subst e
    obtain ⟨k141, j141⟩ := lay_k L (a := 141) (t := 8) (n := 26) rfl
    refine ⟨fun _ => ?_, fun _ _ => ?_⟩
    · simp (disch := (first | omega | (simp only [kd_sI, kd_sL, kd_sR, kd_cp, kd_aI]; omega) | (unfold catV; exact rfl) | (unfold catS; exact Nat.le_of_ble_eq_true rfl) | assumption)) only [q_145_0, q_145_1, q_145_2, q_145_3, q_145_4, q_145_5, q_145_6, q_145_7, q_145_8, q_145_11_t, q_145_11_f, q_145_14, q_145_15, q_145_18, q_145_19, q_145_20, q_145_22, q_145_23, q_145_26, q_145_28, q_145_30, q_145_31, q_145_32, q_145_34, q_145_35_t, q_145_35_f, q_145_38, q_145_39, q_145_40, q_145_42, q_145_45_t, q_145_45_f, q_145_48, q_145_51, q_145_52, q_145_54_t, q_145_54_f, q_145_57, q_145_58, q_145_61, q_145_62, q_145_63, q_145_66, q_145_67, q_145_70, q_145_72, q_145_73_t, q_145_73_f, q_145_76, q_145_78, q_145_81, q_145_82, q_145_83, q_145_84, q_145_86, q_145_87, q_145_88, q_145_91, q_145_94, aft_i, aft_l, aft_v, Int.toNat_natCast, kd_sI, kd_sL, kd_sR, kd_cp, gI_sL, gI_sR, gL_sI, gL_sR, gR_sI, gR_sL, gL_cp, gR_cp, kd_aI, gL_aI, gR_aI, gI_aI, gI_aIn, sI_aI, gI_sIn, Int.reduceToNat, Int.reduceAdd, Int.reduceSub, Int.reduceMul, Int.reduceNeg, Int.zero_add, hn]
    · simp (disch := (first | omega | (simp only [kd_sI, kd_sL, kd_sR, kd_cp, kd_aI]; omega) | (unfold catV; exact rfl) | (unfold catS; exact Nat.le_of_ble_eq_true rfl) | assumption)) only [q_145_0, q_145_1, q_145_2, q_145_3, q_145_4, q_145_5, q_145_6, q_145_7, q_145_8, q_145_11_t, q_145_11_f, q_145_14, q_145_15, q_145_18, q_145_19, q_145_20, q_145_22, q_145_23, q_145_26, q_145_28, q_145_30, q_145_31, q_145_32, q_145_34, q_145_35_t, q_145_35_f, q_145_38, q_145_39, q_145_40, q_145_42, q_145_45_t, q_145_45_f, q_145_48, q_145_51, q_145_52, q_145_54_t, q_145_54_f, q_145_57, q_145_58, q_145_61, q_145_62, q_145_63, q_145_66, q_145_67, q_145_70, q_145_72, q_145_73_t, q_145_73_f, q_145_76, q_145_78, q_145_81, q_145_82, q_145_83, q_145_84, q_145_86, q_145_87, q_145_88, q_145_91, q_145_94, aft_i, aft_l, aft_v, Int.toNat_natCast, kd_sI, kd_sL, kd_sR, kd_cp, gI_sL, gI_sR, gL_sI, gL_sR, gR_sI, gR_sL, gL_cp, gR_cp, kd_aI, gL_aI, gR_aI, gI_aI, gI_aIn, sI_aI, gI_sIn, Int.reduceToNat, Int.reduceAdd, Int.reduceSub, Int.reduceMul, Int.reduceNeg, Int.zero_add, hn]
  | k + 1, i, hi, a4, a5, nx => by
    obtain ⟨k141, j141⟩ := lay_k L (a := 141) (t := 8) (n := 26) rfl; obtain ⟨k150, j150⟩ := lay_k L (a := 150) (t := 100) (n := 1851) rfl; obtain ⟨k152, j152⟩ := lay_k L (a := 152) (t := 100) (n := 7) rfl; obtain ⟨k154, j154⟩ := lay_k L (a := 154) (t := 100) (n := 7) rfl; have r141_16 : gR h 141 16 = some 150 := lay_r L rfl; have r141_18 : gR h 141 18 = some 152 := lay_r L rfl; have r141_21 : gR h 141 21 = some 154 := lay_r L rfl
    have il : i < n := by omega
    obtain ⟨r1, r2⟩ := hr i il
    obtain ⟨x1, x2, x3⟩ := ha i il
    have ix : (9 + (rw_ i : Int)).toNat = 9 + rw_ i := by omega
    have ih := mSu_out d h L cells n ax rw_ hc h4 hn h7 hr ha k (i + 1) (by omega) (Sum.inl (rw_ i : Int)) (Sum.inl (ax (rw_ i) : Int))
    have L2 := lay_aI L 154 (fiF (gI h 153) cells ax rw_ (gI h 154) i)
    have e153 : gI (aI h 154 (fiF (gI h 153) cells ax rw_ (gI h 154) i)) 153 = gI h 153 := gI_aIn (by omega)
    have hin := fun f k hk => mSu_in d _ L2 cells (ax (rw_ i)) (by rw [gI_aIn (by omega)]; exact hc) h4 ⟨x2, x3⟩ (i : Int) (rw_ i : Int) f k hk
    simp only [e153] at hin
    have fs : fiF (gI h 153) cells ax rw_ (gI h 154) (i + 1) = upI (fiF (gI h 153) cells ax rw_ (gI h 154) i) (rw_ i) (vO (suP (gI h 153) cells ax rw_ i)) := rfl
    refine ⟨fun hs => ?_, fun hs hb => ?_⟩
    · have hle := suS_le hs
      have hP : suP (gI h 153) cells ax rw_ i = fstF (gI h 153) cells (ax (rw_ i)) (40 - nx) nx := by unfold suP; rw [hs]
      obtain ⟨h1, h2⟩ := hin (40 - nx) nx (by omega)
      rw [q_145_6]
      simp (disch := (first | omega | (simp only [kd_sI, kd_sL, kd_sR, kd_cp, kd_aI]; omega) | (unfold catV; exact rfl) | (unfold catS; exact Nat.le_of_ble_eq_true rfl) | assumption)) only [q_145_0, q_145_1, q_145_2, q_145_3, q_145_4, q_145_5, q_145_7, q_145_8, q_145_11_t, q_145_11_f, q_145_14, q_145_15, q_145_18, q_145_19, q_145_20, q_145_22, q_145_23, q_145_26, q_145_28, q_145_30, q_145_31, q_145_32, q_145_35_t, q_145_35_f, q_145_38, q_145_39, q_145_40, q_145_42, q_145_45_t, q_145_45_f, q_145_48, q_145_51, q_145_52, q_145_54_t, q_145_54_f, q_145_57, q_145_58, q_145_61, q_145_62, q_145_63, q_145_66, q_145_67, q_145_70, q_145_72, q_145_73_t, q_145_73_f, q_145_76, q_145_78, q_145_81, q_145_82, q_145_83, q_145_84, q_145_86, q_145_87, q_145_88, q_145_91, q_145_94, aft_i, aft_l, aft_v, Int.toNat_natCast, kd_sI, kd_sL, kd_sR, kd_cp, gI_sL, gI_sR, gL_sI, gL_sR, gR_sI, gR_sL, gL_cp, gR_cp, kd_aI, gL_aI, gR_aI, gI_aI, gI_aIn, sI_aI, gI_sIn, Int.reduceToNat, Int.reduceAdd, Int.reduceSub, Int.reduceMul, Int.reduceNeg, Int.zero_add, r141_16, r141_18, r141_21, hn, r1, ix, x1]
      cases hf : fstF (gI h 153) cells (ax (rw_ i)) (40 - nx) nx with
      | none =>
        obtain ⟨n2, hn2, e2⟩ := h2 hf
        rw [e2]
        have hS : suS (gI h 153) cells ax rw_ (i + 1) = none := by rw [suS_s, hP, hf]; rfl
        have i2 := (ih (n2 + ax (rw_ i))).2 hS (by omega)
        rw [fs, hP, hf] at i2
        simp (disch := (first | omega | (simp only [kd_sI, kd_sL, kd_sR, kd_cp, kd_aI]; omega) | (unfold catV; exact rfl) | (unfold catS; exact Nat.le_of_ble_eq_true rfl) | assumption)) only [q_145_0, q_145_1, q_145_2, q_145_3, q_145_4, q_145_5, q_145_7, q_145_8, q_145_11_t, q_145_11_f, q_145_14, q_145_15, q_145_18, q_145_19, q_145_20, q_145_22, q_145_23, q_145_26, q_145_28, q_145_30, q_145_31, q_145_32, q_145_35_t, q_145_35_f, q_145_38, q_145_39, q_145_40, q_145_42, q_145_45_t, q_145_45_f, q_145_48, q_145_51, q_145_52, q_145_54_t, q_145_54_f, q_145_57, q_145_58, q_145_61, q_145_62, q_145_63, q_145_66, q_145_67, q_145_70, q_145_72, q_145_73_t, q_145_73_f, q_145_76, q_145_78, q_145_81, q_145_82, q_145_83, q_145_84, q_145_86, q_145_87, q_145_88, q_145_91, q_145_94, aft_i, aft_l, aft_v, Int.toNat_natCast, kd_sI, kd_sL, kd_sR, kd_cp, gI_sL, gI_sR, gL_sI, gL_sR, gR_sI, gR_sL, gL_cp, gR_cp, kd_aI, gL_aI, gR_aI, gI_aI, gI_aIn, sI_aI, gI_sIn, Int.reduceToNat, Int.reduceAdd, Int.reduceSub, Int.reduceMul, Int.reduceNeg, Int.zero_add, r141_16, r141_18, r141_21, hn, r1, ix, x1]
        exact i2
      | some p =>
        have e2 := h1 p hf
        rw [e2]
        have hp := freeB_le (fstF_some hf).2.2.1
        have hS : suS (gI h 153) cells ax rw_ (i + 1) = some (p + ax (rw_ i)) := by rw [suS_s, hP, hf]; rfl
        have i2 := (ih (p + ax (rw_ i))).1 hS
        rw [fs, hP, hf] at i2
        simp (disch := (first | omega | (simp only [kd_sI, kd_sL, kd_sR, kd_cp, kd_aI]; omega) | (unfold catV; exact rfl) | (unfold catS; exact Nat.le_of_ble_eq_true rfl) | assumption)) only [q_145_0, q_145_1, q_145_2, q_145_3, q_145_4, q_145_5, q_145_7, q_145_8, q_145_11_t, q_145_11_f, q_145_14, q_145_15, q_145_18, q_145_19, q_145_20, q_145_22, q_145_23, q_145_26, q_145_28, q_145_30, q_145_31, q_145_32, q_145_35_t, q_145_35_f, q_145_38, q_145_39, q_145_40, q_145_42, q_145_45_t, q_145_45_f, q_145_48, q_145_51, q_145_52, q_145_54_t, q_145_54_f, q_145_57, q_145_58, q_145_61, q_145_62, q_145_63, q_145_66, q_145_67, q_145_70, q_145_72, q_145_73_t, q_145_73_f, q_145_76, q_145_78, q_145_81, q_145_82, q_145_83, q_145_84, q_145_86, q_145_87, q_145_88, q_145_91, q_145_94, aft_i, aft_l, aft_v, Int.toNat_natCast, kd_sI, kd_sL, kd_sR, kd_cp, gI_sL, gI_sR, gL_sI, gL_sR, gR_sI, gR_sL, gL_cp, gR_cp, kd_aI, gL_aI, gR_aI, gI_aI, gI_aIn, sI_aI, gI_sIn, Int.reduceToNat, Int.reduceAdd, Int.reduceSub, Int.reduceMul, Int.reduceNeg, Int.zero_add, r141_16, r141_18, r141_21, hn, r1, ix, x1]
        exact i2
    · have hP : suP (gI h 153) cells ax rw_ i = none := by unfold suP; rw [hs]
      have hS : suS (gI h 153) cells ax rw_ (i + 1) = none := by rw [suS_s, hP]; rfl
      have i2 := (ih (nx + ax (rw_ i))).2 hS (by omega)
      rw [fs, hP] at i2
      rw [q_145_6]
      simp (disch := (first | omega | (simp only [kd_sI, kd_sL, kd_sR, kd_cp, kd_aI]; omega) | (unfold catV; exact rfl) | (unfold catS; exact Nat.le_of_ble_eq_true rfl) | assumption)) only [q_145_0, q_145_1, q_145_2, q_145_3, q_145_4, q_145_5, q_145_7, q_145_8, q_145_11_t, q_145_11_f, q_145_14, q_145_15, q_145_18, q_145_19, q_145_20, q_145_22, q_145_23, q_145_26, q_145_28, q_145_30, q_145_31, q_145_32, q_145_34, q_145_35_t, q_145_35_f, q_145_38, q_145_39, q_145_40, q_145_42, q_145_45_t, q_145_45_f, q_145_48, q_145_51, q_145_52, q_145_54_t, q_145_54_f, q_145_57, q_145_58, q_145_61, q_145_62, q_145_63, q_145_66, q_145_67, q_145_70, q_145_72, q_145_73_t, q_145_73_f, q_145_76, q_145_78, q_145_81, q_145_82, q_145_83, q_145_84, q_145_86, q_145_87, q_145_88, q_145_91, q_145_94, aft_i, aft_l, aft_v, Int.toNat_natCast, kd_sI, kd_sL, kd_sR, kd_cp, gI_sL, gI_sR, gL_sI, gL_sR, gR_sI, gR_sL, gL_cp, gR_cp, kd_aI, gL_aI, gR_aI, gI_aI, gI_aIn, sI_aI, gI_sIn, Int.reduceToNat, Int.reduceAdd, Int.reduceSub, Int.reduceMul, Int.reduceNeg, Int.zero_add, r141_16, r141_18, r141_21, hn, r1, ix, x1]
      exact i2
/-- FIRST is what SET UP says -/
theorem mSetUp_ok (d : Nat) (h : mH) (L : LAY h) (cells n : Nat) (ax rw_ : Nat → Nat) (hc : gI h 147 0 = cells) (h4 : cells ≤ 40) (hn : gI h 141 19 = n) (h7 : n ≤ 7) (hr : ∀ i, i < n → gI h 152 i = (rw_ i : Int) ∧ rw_ i < 7) (ha : ∀ i, i < n → gI h 150 (9 + rw_ i) = (ax (rw_ i) : Int) ∧ 1 ≤ ax (rw_ i) ∧ ax (rw_ i) ≤ 6) : callA (d + 2) 145 [Sum.inr (Sum.inr (some 141))] h = some (none, aI h 154 (fiF (gI h 153) cells ax rw_ (gI h 154) n)) := by
  rw [en_145]
  simp (disch := (first | omega | (simp only [kd_sI, kd_sL, kd_sR, kd_cp, kd_aI]; omega) | (unfold catV; exact rfl) | (unfold catS; exact Nat.le_of_ble_eq_true rfl) | assumption)) only [q_145_0, q_145_1, q_145_2, q_145_3, q_145_4, q_145_5, q_145_7, q_145_8, q_145_11_t, q_145_11_f, q_145_14, q_145_15, q_145_18, q_145_19, q_145_20, q_145_22, q_145_23, q_145_26, q_145_28, q_145_30, q_145_31, q_145_32, q_145_34, q_145_35_t, q_145_35_f, q_145_38, q_145_39, q_145_40, q_145_42, q_145_45_t, q_145_45_f, q_145_48, q_145_51, q_145_52, q_145_54_t, q_145_54_f, q_145_57, q_145_58, q_145_61, q_145_62, q_145_63, q_145_66, q_145_67, q_145_70, q_145_72, q_145_73_t, q_145_73_f, q_145_76, q_145_78, q_145_81, q_145_82, q_145_83, q_145_84, q_145_86, q_145_87, q_145_88, q_145_91, q_145_94, aft_i, aft_l, aft_v, Int.toNat_natCast, kd_sI, kd_sL, kd_sR, kd_cp, gI_sL, gI_sR, gL_sI, gL_sR, gR_sI, gR_sL, gL_cp, gR_cp, kd_aI, gL_aI, gR_aI, gI_aI, gI_aIn, sI_aI, gI_sIn, Int.reduceToNat, Int.reduceAdd, Int.reduceSub, Int.reduceMul, Int.reduceNeg, Int.zero_add]
  have e := (mSu_out d h L cells n ax rw_ hc h4 hn h7 hr ha n 0 (by omega) (Sum.inr (Sum.inr none)) (Sum.inr (Sum.inr none)) 0).1 rfl
  rw [show fiF (gI h 153) cells ax rw_ (gI h 154) 0 = gI h 154 from rfl, aI_id] at e
  exact e
