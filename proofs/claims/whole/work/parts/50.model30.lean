def dMI (h : mH) (D : Dr) : Prop := gI h 143 1 = tN (dT D) ∧ gI h 147 1 = tK (dT D) ∧ gI h 149 2 = tA (dT D) ∧ gI h 149 3 = tM (dT D) ∧ (∀ c, c < tN (dT D) → gI h 145 (7 + c) = tP (dT D) c ∧ gI h 144 c = dX D c) ∧ (∀ c, c < 7 → gI h 146 (7 + c) = tF (dT D) c) ∧ (∀ k, k < tK (dT D) → gI h 148 (40 + k) = tG (dT D) k) ∧ gI h 141 10 = dF D
def drf (q k : Nat) : Prop := (q = 141 ∧ 10 ≤ k ∧ k ≤ 15) ∨ (q = 143 ∧ k = 1) ∨ q = 144 ∨ (q = 145 ∧ 7 ≤ k) ∨ (q = 146 ∧ 7 ≤ k) ∨ (q = 147 ∧ k = 1) ∨ (q = 148 ∧ 40 ≤ k) ∨ (q = 149 ∧ 2 ≤ k)
/-- only the draft and the reading's own numbers -/
def prF (h g : mH) : Prop := g.1 = h.1 ∧ (∀ q k, ¬ drf q k → gI g q k = gI h q k) ∧ gL g = gL h ∧ gR g = gR h
theorem prF_rf (h : mH) : prF h h := ⟨rfl, fun _ _ _ => rfl, rfl, rfl⟩
theorem prF_tr {h g k : mH} (a : prF h g) (b : prF g k) : prF h k := ⟨b.1.trans a.1, fun q j x => (b.2.1 q j x).trans (a.2.1 q j x), b.2.2.1.trans a.2.2.1, b.2.2.2.trans a.2.2.2⟩
theorem prF_s {h : mH} {a k : Nat} {x : Int} (n : drf a k) : prF h (sI h a k x) := ⟨rfl, fun q j v => by
  rw [gI_sI, if_neg]
  rintro ⟨rfl, rfl⟩
  exact v n, rfl, rfl⟩
theorem stp_prF {h g : mH} (a : stp h g) : prF h g := ⟨a.1, fun q k v => a.2.1 q k (fun z => v (Or.inl ⟨z.1, by omega, by omega⟩)), a.2.2.1, a.2.2.2⟩
theorem prF_L {h g : mH} (a : prF h g) (L : LAY h) : LAY g := lay_keep L a.1 a.2.2.2
theorem prF_txt {h g : mH} {X : List Int} (a : prF h g) (t : txt h X) : txt g X := ⟨(a.2.1 141 2 (by unfold drf; omega)).trans t.1, fun k q => by rw [a.2.1 142 k (by unfold drf; omega)]; exact t.2.1 k q, t.2.2⟩
theorem stp_dMI {h g : mH} {D : Dr} (a : stp h g) (m : dMI h D) : dMI g D := by
  obtain ⟨m1, m2, m3, m4, m5, m6, m7, m8⟩ := m
  unfold dMI
  rw [stp_q a (by omega), stp_q a (by omega), stp_q a (by omega), stp_q a (by omega), stp_q a (by omega), stp_q a (by omega), stp_q a (by omega), a.2.1 141 10 (by omega)]
  exact ⟨m1, m2, m3, m4, m5, m6, m7, m8⟩
theorem mDue_t (d : Nat) (h : mH) (L : LAY h) (X : List Int) (t : txt h X) (p : Nat) (hp : p ≤ X.length) (k : tkAt h (tk X p)) (h15 : gI h 141 15 = -9) : ∃ g, callA (d + 3) 128 [Sum.inr (Sum.inr (some 141)), Sum.inl 1] h = some (some (Sum.inl (kv (tk X p) : Int)), g) ∧ stp h g ∧ tkAt g (tk X (kn (tk X p))) := by
  have tb := tk_b t.2.2.2 hp
  obtain ⟨k1, k2, k3, k4⟩ := k
  obtain ⟨g, e, s, u⟩ := mStep_ok d h L X t (kn (tk X p)) k1 tb.2.2.2.2.1
  refine ⟨g, ?_, s, u⟩
  obtain ⟨k141, j141⟩ := lay_k L (a := 141) (t := 8) (n := 26) rfl
  rw [en_128]
  simp (disch := (first | omega | (simp only [kd_sI, kd_sL, kd_sR, kd_cp, kd_aI]; omega) | (unfold catV; exact rfl) | (unfold catS; exact Nat.le_of_ble_eq_true rfl) | assumption)) only [q_128_0, q_128_1, q_128_4, q_128_5, q_128_6, q_128_9, q_128_11_t, q_128_11_f, q_128_14, q_128_15_t, q_128_15_f, q_128_18, q_128_19, q_128_22, q_128_25, q_128_26, q_128_27, q_128_30, q_128_33, q_128_34, aft_i, aft_l, aft_v, Int.toNat_natCast, kd_sI, kd_sL, kd_sR, kd_cp, gI_sL, gI_sR, gL_sI, gL_sR, gR_sI, gR_sL, gL_cp, gR_cp, kd_aI, gL_aI, gR_aI, gI_aI, gI_aIn, sI_aI, gI_sIn, Int.reduceToNat, Int.reduceAdd, Int.reduceSub, Int.reduceMul, Int.reduceNeg, Int.zero_add, h15, k4, e]
theorem mDue_f (d : Nat) (h : mH) (L : LAY h) (t : Tk) (k : tkAt h t) (h15 : gI h 141 15 = -9) : callA (d + 1) 128 [Sum.inr (Sum.inr (some 141)), Sum.inl 0] h = some (some (Sum.inl (kv t : Int)), sI h 141 15 (ks t)) := by
  obtain ⟨k1, k2, k3, k4⟩ := k
  obtain ⟨k141, j141⟩ := lay_k L (a := 141) (t := 8) (n := 26) rfl
  rw [en_128]
  simp (disch := (first | omega | (simp only [kd_sI, kd_sL, kd_sR, kd_cp, kd_aI]; omega) | (unfold catV; exact rfl) | (unfold catS; exact Nat.le_of_ble_eq_true rfl) | assumption)) only [q_128_0, q_128_1, q_128_4, q_128_5, q_128_6, q_128_9, q_128_11_t, q_128_11_f, q_128_14, q_128_15_t, q_128_15_f, q_128_18, q_128_19, q_128_22, q_128_25, q_128_26, q_128_27, q_128_30, q_128_33, q_128_34, aft_i, aft_l, aft_v, Int.toNat_natCast, kd_sI, kd_sL, kd_sR, kd_cp, gI_sL, gI_sR, gL_sI, gL_sR, gR_sI, gR_sL, gL_cp, gR_cp, kd_aI, gL_aI, gR_aI, gI_aI, gI_aIn, sI_aI, gI_sIn, Int.reduceToNat, Int.reduceAdd, Int.reduceSub, Int.reduceMul, Int.reduceNeg, Int.zero_add, h15, k4, k2]
theorem mDue_n (d : Nat) (h : mH) (L : LAY h) (b : Int) (h15 : gI h 141 15 ≠ -9) : callA (d + 1) 128 [Sum.inr (Sum.inr (some 141)), Sum.inl b] h = some (some (Sum.inl (gI h 141 14)), h) := by
  obtain ⟨k141, j141⟩ := lay_k L (a := 141) (t := 8) (n := 26) rfl
  rw [en_128]
  simp (disch := (first | omega | (simp only [kd_sI, kd_sL, kd_sR, kd_cp, kd_aI]; omega) | (unfold catV; exact rfl) | (unfold catS; exact Nat.le_of_ble_eq_true rfl) | assumption)) only [q_128_0, q_128_1, q_128_4, q_128_5, q_128_6, q_128_9, q_128_11_t, q_128_11_f, q_128_14, q_128_15_t, q_128_15_f, q_128_18, q_128_19, q_128_22, q_128_25, q_128_26, q_128_27, q_128_30, q_128_33, q_128_34, aft_i, aft_l, aft_v, Int.toNat_natCast, kd_sI, kd_sL, kd_sR, kd_cp, gI_sL, gI_sR, gL_sI, gL_sR, gR_sI, gR_sL, gL_cp, gR_cp, kd_aI, gL_aI, gR_aI, gI_aI, gI_aIn, sI_aI, gI_sIn, Int.reduceToNat, Int.reduceAdd, Int.reduceSub, Int.reduceMul, Int.reduceNeg, Int.zero_add, h15]
theorem mNum_c (d : Nat) (h : mH) (L : LAY h) (lo hi : Int) (b : Prop) [Decidable b] (hb : b ↔ (gI h 141 13 = 1 ∧ lo ≤ gI h 141 14 ∧ gI h 141 14 ≤ hi)) (r : Int) (g : mH) (e : callA (d + 1) 128 [Sum.inr (Sum.inr (some 141)), Sum.inl (if b then 1 else 0)] h = some (some (Sum.inl r), g)) : callA (d + 2) 129 [Sum.inr (Sum.inr (some 141)), Sum.inl lo, Sum.inl hi] h = some (some (Sum.inl r), g) := by
  obtain ⟨k141, j141⟩ := lay_k L (a := 141) (t := 8) (n := 26) rfl
  rw [en_129]
  by_cases z : gI h 141 13 = 1
  · by_cases y : lo ≤ gI h 141 14 ∧ gI h 141 14 ≤ hi
    · have ei := in_t d h (gI h 141 14) lo hi y
      rw [if_pos (hb.mpr ⟨z, y⟩)] at e
      simp (disch := (first | omega | (simp only [kd_sI, kd_sL, kd_sR, kd_cp, kd_aI]; omega) | (unfold catV; exact rfl) | (unfold catS; exact Nat.le_of_ble_eq_true rfl) | assumption)) only [q_129_0, q_129_1, q_129_2, q_129_5, q_129_6_t, q_129_6_f, q_129_9, q_129_10, q_129_13, q_129_14, q_129_15, q_129_18_t, q_129_18_f, q_129_21, q_129_22, q_129_25, q_129_26, q_129_29, aft_i, aft_l, aft_v, Int.toNat_natCast, kd_sI, kd_sL, kd_sR, kd_cp, gI_sL, gI_sR, gL_sI, gL_sR, gR_sI, gR_sL, gL_cp, gR_cp, kd_aI, gL_aI, gR_aI, gI_aI, gI_aIn, sI_aI, gI_sIn, Int.reduceToNat, Int.reduceAdd, Int.reduceSub, Int.reduceMul, Int.reduceNeg, Int.zero_add, z, ei, e]
    · have ei := in_f d h (gI h 141 14) lo hi y
      rw [if_neg (fun q => y (hb.mp q).2)] at e
      simp (disch := (first | omega | (simp only [kd_sI, kd_sL, kd_sR, kd_cp, kd_aI]; omega) | (unfold catV; exact rfl) | (unfold catS; exact Nat.le_of_ble_eq_true rfl) | assumption)) only [q_129_0, q_129_1, q_129_2, q_129_5, q_129_6_t, q_129_6_f, q_129_9, q_129_10, q_129_13, q_129_14, q_129_15, q_129_18_t, q_129_18_f, q_129_21, q_129_22, q_129_25, q_129_26, q_129_29, aft_i, aft_l, aft_v, Int.toNat_natCast, kd_sI, kd_sL, kd_sR, kd_cp, gI_sL, gI_sR, gL_sI, gL_sR, gR_sI, gR_sL, gL_cp, gR_cp, kd_aI, gL_aI, gR_aI, gI_aI, gI_aIn, sI_aI, gI_sIn, Int.reduceToNat, Int.reduceAdd, Int.reduceSub, Int.reduceMul, Int.reduceNeg, Int.zero_add, z, ei, e]
  · rw [if_neg (fun q => z (hb.mp q).1)] at e
    simp (disch := (first | omega | (simp only [kd_sI, kd_sL, kd_sR, kd_cp, kd_aI]; omega) | (unfold catV; exact rfl) | (unfold catS; exact Nat.le_of_ble_eq_true rfl) | assumption)) only [q_129_0, q_129_1, q_129_2, q_129_5, q_129_6_t, q_129_6_f, q_129_9, q_129_10, q_129_13, q_129_14, q_129_15, q_129_18_t, q_129_18_f, q_129_21, q_129_22, q_129_25, q_129_26, q_129_29, aft_i, aft_l, aft_v, Int.toNat_natCast, kd_sI, kd_sL, kd_sR, kd_cp, gI_sL, gI_sR, gL_sI, gL_sR, gR_sI, gR_sL, gL_cp, gR_cp, kd_aI, gL_aI, gR_aI, gI_aI, gI_aIn, sI_aI, gI_sIn, Int.reduceToNat, Int.reduceAdd, Int.reduceSub, Int.reduceMul, Int.reduceNeg, Int.zero_add, z, e]
theorem mNum_t (d : Nat) (h : mH) (L : LAY h) (X : List Int) (t : txt h X) (p : Nat) (hp : p ≤ X.length) (k : tkAt h (tk X p)) (h15 : gI h 141 15 = -9) (lo hi : Nat) (q : numB (tk X p) lo hi = true) (hi2 : Int) (e : hi2 = (hi : Int) - 1) : ∃ g, callA (d + 4) 129 [Sum.inr (Sum.inr (some 141)), Sum.inl (lo : Int), Sum.inl hi2] h = some (some (Sum.inl (kv (tk X p) : Int)), g) ∧ stp h g ∧ tkAt g (tk X (kn (tk X p))) := by
  obtain ⟨g, e1, s, u⟩ := mDue_t d h L X t p hp k h15
  have q := of_decide_eq_true q
  exact ⟨g, mNum_c (d + 2) h L lo hi2 True ⟨fun _ => by rw [k.2.2.1, k.2.2.2]; omega, fun _ => trivial⟩ _ g e1, s, u⟩
theorem mNum_f (d : Nat) (h : mH) (L : LAY h) (t : Tk) (k : tkAt h t) (h15 : gI h 141 15 = -9) (lo hi : Nat) (q : ¬ numB t lo hi = true) (hi2 : Int) (e : hi2 = (hi : Int) - 1) : callA (d + 2) 129 [Sum.inr (Sum.inr (some 141)), Sum.inl (lo : Int), Sum.inl hi2] h = some (some (Sum.inl (kv t : Int)), sI h 141 15 (ks t)) := by
  have q : ¬ (kk t = 1 ∧ lo ≤ kv t ∧ kv t < hi) := fun z => q (decide_eq_true z)
  exact mNum_c d h L lo hi2 False ⟨fun z => z.elim, fun z => q (by rw [k.2.2.1, k.2.2.2] at z; omega)⟩ _ _ (mDue_f d h L t k h15)
theorem mNum_n (d : Nat) (h : mH) (L : LAY h) (h15 : gI h 141 15 ≠ -9) (lo hi : Int) : callA (d + 2) 129 [Sum.inr (Sum.inr (some 141)), Sum.inl lo, Sum.inl hi] h = some (some (Sum.inl (gI h 141 14)), h) :=
  mNum_c d h L lo hi (gI h 141 13 = 1 ∧ lo ≤ gI h 141 14 ∧ gI h 141 14 ≤ hi) Iff.rfl _ _ (mDue_n d h L _ h15)
theorem mMay_ok (d : Nat) (h : mH) (L : LAY h) (D : Dr) (m : dMI h D) (wf : dF D < 8) (k : Nat) (x : Int) (hx : x = k) : callA (d + 1) 130 [Sum.inr (Sum.inr (some 141)), Sum.inl x] h = some (some (Sum.inl (if mayB D k = true then 1 else 0)), h) := by
  obtain ⟨m1, -, -, -, -, -, -, m8⟩ := m
  have a1 := andI_n (a := dF D) 1 (by omega)
  have a2 := andI_n (a := dF D) 2 (by omega)
  have a4 := andI_n (a := dF D) 4 (by omega)
  have a1 : andI (dF D : Int) 1 = ((dF D &&& 1 : Nat) : Int) := a1
  have a2 : andI (dF D : Int) 2 = ((dF D &&& 2 : Nat) : Int) := a2
  have a4 : andI (dF D : Int) 4 = ((dF D &&& 4 : Nat) : Int) := a4
  unfold mayB
  obtain ⟨k141, j141⟩ := lay_k L (a := 141) (t := 8) (n := 26) rfl; obtain ⟨k143, j143⟩ := lay_k L (a := 143) (t := 100) (n := 2) rfl; have r141_3 : gR h 141 3 = some 143 := lay_r L rfl
  rw [en_130]
  by_cases z1 : k = 99
  · subst z1
    have hx : x = 99 := hx
    subst hx
    rw [if_pos rfl]
    by_cases y : tN (dT D) < 7
    · rw [decide_eq_true y]
      simp (disch := (first | omega | (simp only [kd_sI, kd_sL, kd_sR, kd_cp, kd_aI]; omega) | (unfold catV; exact rfl) | (unfold catS; exact Nat.le_of_ble_eq_true rfl) | assumption)) only [q_130_0, q_130_1_0, q_130_1_1, q_130_1_2, q_130_1_3, q_130_1_4, q_130_1_5, q_130_1_6, q_130_1_7, q_130_1_8, q_130_1_9, q_130_1_10, q_130_1_11, q_130_1_12, q_130_1_13, q_130_1_14, q_130_1_d, q_130_76, q_130_77, q_130_80, q_130_81, q_130_82, q_130_84_t, q_130_84_f, q_130_87, q_130_88, q_130_91, q_130_92, q_130_93, q_130_94, q_130_95, q_130_96, q_130_99, q_130_100, q_130_101_t, q_130_101_f, q_130_104, q_130_105, q_130_108, q_130_109, q_130_110, q_130_111, q_130_114, q_130_115, q_130_116_t, q_130_116_f, q_130_119, q_130_120, q_130_123, q_130_124, q_130_125, q_130_126, q_130_129, q_130_130, q_130_131_t, q_130_131_f, q_130_134, q_130_135, q_130_138, q_130_139, q_130_140, q_130_141, aft_i, aft_l, aft_v, Int.toNat_natCast, kd_sI, kd_sL, kd_sR, kd_cp, gI_sL, gI_sR, gL_sI, gL_sR, gR_sI, gR_sL, gL_cp, gR_cp, kd_aI, gL_aI, gR_aI, gI_aI, gI_aIn, sI_aI, gI_sIn, Int.reduceToNat, Int.reduceAdd, Int.reduceSub, Int.reduceMul, Int.reduceNeg, Int.zero_add, r141_3, m1]
      rfl
    · rw [decide_eq_false y]
      simp (disch := (first | omega | (simp only [kd_sI, kd_sL, kd_sR, kd_cp, kd_aI]; omega) | (unfold catV; exact rfl) | (unfold catS; exact Nat.le_of_ble_eq_true rfl) | assumption)) only [q_130_0, q_130_1_0, q_130_1_1, q_130_1_2, q_130_1_3, q_130_1_4, q_130_1_5, q_130_1_6, q_130_1_7, q_130_1_8, q_130_1_9, q_130_1_10, q_130_1_11, q_130_1_12, q_130_1_13, q_130_1_14, q_130_1_d, q_130_76, q_130_77, q_130_80, q_130_81, q_130_82, q_130_84_t, q_130_84_f, q_130_87, q_130_88, q_130_91, q_130_92, q_130_93, q_130_94, q_130_95, q_130_96, q_130_99, q_130_100, q_130_101_t, q_130_101_f, q_130_104, q_130_105, q_130_108, q_130_109, q_130_110, q_130_111, q_130_114, q_130_115, q_130_116_t, q_130_116_f, q_130_119, q_130_120, q_130_123, q_130_124, q_130_125, q_130_126, q_130_129, q_130_130, q_130_131_t, q_130_131_f, q_130_134, q_130_135, q_130_138, q_130_139, q_130_140, q_130_141, aft_i, aft_l, aft_v, Int.toNat_natCast, kd_sI, kd_sL, kd_sR, kd_cp, gI_sL, gI_sR, gL_sI, gL_sR, gR_sI, gR_sL, gL_cp, gR_cp, kd_aI, gL_aI, gR_aI, gI_aI, gI_aIn, sI_aI, gI_sIn, Int.reduceToNat, Int.reduceAdd, Int.reduceSub, Int.reduceMul, Int.reduceNeg, Int.zero_add, r141_3, m1]
      rfl
  rw [if_neg z1]
  by_cases z2 : k = 113
  · subst z2
    have hx : x = 113 := hx
    subst hx
    rw [if_pos rfl]
    simp (disch := (first | omega | (simp only [kd_sI, kd_sL, kd_sR, kd_cp, kd_aI]; omega) | (unfold catV; exact rfl) | (unfold catS; exact Nat.le_of_ble_eq_true rfl) | assumption)) only [q_130_0, q_130_1_0, q_130_1_1, q_130_1_2, q_130_1_3, q_130_1_4, q_130_1_5, q_130_1_6, q_130_1_7, q_130_1_8, q_130_1_9, q_130_1_10, q_130_1_11, q_130_1_12, q_130_1_13, q_130_1_14, q_130_1_d, q_130_76, q_130_77, q_130_80, q_130_81, q_130_82, q_130_84_t, q_130_84_f, q_130_87, q_130_88, q_130_91, q_130_92, q_130_93, q_130_94, q_130_95, q_130_96, q_130_99, q_130_100, q_130_101_t, q_130_101_f, q_130_104, q_130_105, q_130_108, q_130_109, q_130_110, q_130_111, q_130_114, q_130_115, q_130_116_t, q_130_116_f, q_130_119, q_130_120, q_130_123, q_130_124, q_130_125, q_130_126, q_130_129, q_130_130, q_130_131_t, q_130_131_f, q_130_134, q_130_135, q_130_138, q_130_139, q_130_140, q_130_141, aft_i, aft_l, aft_v, Int.toNat_natCast, kd_sI, kd_sL, kd_sR, kd_cp, gI_sL, gI_sR, gL_sI, gL_sR, gR_sI, gR_sL, gL_cp, gR_cp, kd_aI, gL_aI, gR_aI, gI_aI, gI_aIn, sI_aI, gI_sIn, Int.reduceToNat, Int.reduceAdd, Int.reduceSub, Int.reduceMul, Int.reduceNeg, Int.zero_add]
    rfl
  rw [if_neg z2]
  by_cases z3 : k = 100
  · subst z3
    have hx : x = 100 := hx
    subst hx
    rw [if_pos rfl]
    generalize dF D &&& 1 = e at a1 ⊢
    by_cases y : e = 0
    · rw [decide_eq_true y]
      simp (disch := (first | omega | (simp only [kd_sI, kd_sL, kd_sR, kd_cp, kd_aI]; omega) | (unfold catV; exact rfl) | (unfold catS; exact Nat.le_of_ble_eq_true rfl) | assumption)) only [q_130_0, q_130_1_0, q_130_1_1, q_130_1_2, q_130_1_3, q_130_1_4, q_130_1_5, q_130_1_6, q_130_1_7, q_130_1_8, q_130_1_9, q_130_1_10, q_130_1_11, q_130_1_12, q_130_1_13, q_130_1_14, q_130_1_d, q_130_76, q_130_77, q_130_80, q_130_81, q_130_82, q_130_84_t, q_130_84_f, q_130_87, q_130_88, q_130_91, q_130_92, q_130_93, q_130_94, q_130_95, q_130_96, q_130_99, q_130_100, q_130_101_t, q_130_101_f, q_130_104, q_130_105, q_130_108, q_130_109, q_130_110, q_130_111, q_130_114, q_130_115, q_130_116_t, q_130_116_f, q_130_119, q_130_120, q_130_123, q_130_124, q_130_125, q_130_126, q_130_129, q_130_130, q_130_131_t, q_130_131_f, q_130_134, q_130_135, q_130_138, q_130_139, q_130_140, q_130_141, aft_i, aft_l, aft_v, Int.toNat_natCast, kd_sI, kd_sL, kd_sR, kd_cp, gI_sL, gI_sR, gL_sI, gL_sR, gR_sI, gR_sL, gL_cp, gR_cp, kd_aI, gL_aI, gR_aI, gI_aI, gI_aIn, sI_aI, gI_sIn, Int.reduceToNat, Int.reduceAdd, Int.reduceSub, Int.reduceMul, Int.reduceNeg, Int.zero_add, m8, a1, y]
      rfl
    · rw [decide_eq_false y]
      simp (disch := (first | omega | (simp only [kd_sI, kd_sL, kd_sR, kd_cp, kd_aI]; omega) | (unfold catV; exact rfl) | (unfold catS; exact Nat.le_of_ble_eq_true rfl) | assumption)) only [q_130_0, q_130_1_0, q_130_1_1, q_130_1_2, q_130_1_3, q_130_1_4, q_130_1_5, q_130_1_6, q_130_1_7, q_130_1_8, q_130_1_9, q_130_1_10, q_130_1_11, q_130_1_12, q_130_1_13, q_130_1_14, q_130_1_d, q_130_76, q_130_77, q_130_80, q_130_81, q_130_82, q_130_84_t, q_130_84_f, q_130_87, q_130_88, q_130_91, q_130_92, q_130_93, q_130_94, q_130_95, q_130_96, q_130_99, q_130_100, q_130_101_t, q_130_101_f, q_130_104, q_130_105, q_130_108, q_130_109, q_130_110, q_130_111, q_130_114, q_130_115, q_130_116_t, q_130_116_f, q_130_119, q_130_120, q_130_123, q_130_124, q_130_125, q_130_126, q_130_129, q_130_130, q_130_131_t, q_130_131_f, q_130_134, q_130_135, q_130_138, q_130_139, q_130_140, q_130_141, aft_i, aft_l, aft_v, Int.toNat_natCast, kd_sI, kd_sL, kd_sR, kd_cp, gI_sL, gI_sR, gL_sI, gL_sR, gR_sI, gR_sL, gL_cp, gR_cp, kd_aI, gL_aI, gR_aI, gI_aI, gI_aIn, sI_aI, gI_sIn, Int.reduceToNat, Int.reduceAdd, Int.reduceSub, Int.reduceMul, Int.reduceNeg, Int.zero_add, m8, a1]
      rfl
  rw [if_neg z3]
  by_cases z4 : k = 109
  · subst z4
    have hx : x = 109 := hx
    subst hx
    rw [if_pos rfl]
    generalize dF D &&& 2 = e at a2 ⊢
    by_cases y : e = 0
    · rw [decide_eq_true y]
      simp (disch := (first | omega | (simp only [kd_sI, kd_sL, kd_sR, kd_cp, kd_aI]; omega) | (unfold catV; exact rfl) | (unfold catS; exact Nat.le_of_ble_eq_true rfl) | assumption)) only [q_130_0, q_130_1_0, q_130_1_1, q_130_1_2, q_130_1_3, q_130_1_4, q_130_1_5, q_130_1_6, q_130_1_7, q_130_1_8, q_130_1_9, q_130_1_10, q_130_1_11, q_130_1_12, q_130_1_13, q_130_1_14, q_130_1_d, q_130_76, q_130_77, q_130_80, q_130_81, q_130_82, q_130_84_t, q_130_84_f, q_130_87, q_130_88, q_130_91, q_130_92, q_130_93, q_130_94, q_130_95, q_130_96, q_130_99, q_130_100, q_130_101_t, q_130_101_f, q_130_104, q_130_105, q_130_108, q_130_109, q_130_110, q_130_111, q_130_114, q_130_115, q_130_116_t, q_130_116_f, q_130_119, q_130_120, q_130_123, q_130_124, q_130_125, q_130_126, q_130_129, q_130_130, q_130_131_t, q_130_131_f, q_130_134, q_130_135, q_130_138, q_130_139, q_130_140, q_130_141, aft_i, aft_l, aft_v, Int.toNat_natCast, kd_sI, kd_sL, kd_sR, kd_cp, gI_sL, gI_sR, gL_sI, gL_sR, gR_sI, gR_sL, gL_cp, gR_cp, kd_aI, gL_aI, gR_aI, gI_aI, gI_aIn, sI_aI, gI_sIn, Int.reduceToNat, Int.reduceAdd, Int.reduceSub, Int.reduceMul, Int.reduceNeg, Int.zero_add, m8, a2, y]
      rfl
    · rw [decide_eq_false y]
      simp (disch := (first | omega | (simp only [kd_sI, kd_sL, kd_sR, kd_cp, kd_aI]; omega) | (unfold catV; exact rfl) | (unfold catS; exact Nat.le_of_ble_eq_true rfl) | assumption)) only [q_130_0, q_130_1_0, q_130_1_1, q_130_1_2, q_130_1_3, q_130_1_4, q_130_1_5, q_130_1_6, q_130_1_7, q_130_1_8, q_130_1_9, q_130_1_10, q_130_1_11, q_130_1_12, q_130_1_13, q_130_1_14, q_130_1_d, q_130_76, q_130_77, q_130_80, q_130_81, q_130_82, q_130_84_t, q_130_84_f, q_130_87, q_130_88, q_130_91, q_130_92, q_130_93, q_130_94, q_130_95, q_130_96, q_130_99, q_130_100, q_130_101_t, q_130_101_f, q_130_104, q_130_105, q_130_108, q_130_109, q_130_110, q_130_111, q_130_114, q_130_115, q_130_116_t, q_130_116_f, q_130_119, q_130_120, q_130_123, q_130_124, q_130_125, q_130_126, q_130_129, q_130_130, q_130_131_t, q_130_131_f, q_130_134, q_130_135, q_130_138, q_130_139, q_130_140, q_130_141, aft_i, aft_l, aft_v, Int.toNat_natCast, kd_sI, kd_sL, kd_sR, kd_cp, gI_sL, gI_sR, gL_sI, gL_sR, gR_sI, gR_sL, gL_cp, gR_cp, kd_aI, gL_aI, gR_aI, gI_aI, gI_aIn, sI_aI, gI_sIn, Int.reduceToNat, Int.reduceAdd, Int.reduceSub, Int.reduceMul, Int.reduceNeg, Int.zero_add, m8, a2]
      rfl
  rw [if_neg z4]
  by_cases z5 : k = 103
  · subst z5
    have hx : x = 103 := hx
    subst hx
    rw [if_pos rfl]
    generalize dF D &&& 4 = e at a4 ⊢
    by_cases y : e = 0
    · rw [decide_eq_true y]
      simp (disch := (first | omega | (simp only [kd_sI, kd_sL, kd_sR, kd_cp, kd_aI]; omega) | (unfold catV; exact rfl) | (unfold catS; exact Nat.le_of_ble_eq_true rfl) | assumption)) only [q_130_0, q_130_1_0, q_130_1_1, q_130_1_2, q_130_1_3, q_130_1_4, q_130_1_5, q_130_1_6, q_130_1_7, q_130_1_8, q_130_1_9, q_130_1_10, q_130_1_11, q_130_1_12, q_130_1_13, q_130_1_14, q_130_1_d, q_130_76, q_130_77, q_130_80, q_130_81, q_130_82, q_130_84_t, q_130_84_f, q_130_87, q_130_88, q_130_91, q_130_92, q_130_93, q_130_94, q_130_95, q_130_96, q_130_99, q_130_100, q_130_101_t, q_130_101_f, q_130_104, q_130_105, q_130_108, q_130_109, q_130_110, q_130_111, q_130_114, q_130_115, q_130_116_t, q_130_116_f, q_130_119, q_130_120, q_130_123, q_130_124, q_130_125, q_130_126, q_130_129, q_130_130, q_130_131_t, q_130_131_f, q_130_134, q_130_135, q_130_138, q_130_139, q_130_140, q_130_141, aft_i, aft_l, aft_v, Int.toNat_natCast, kd_sI, kd_sL, kd_sR, kd_cp, gI_sL, gI_sR, gL_sI, gL_sR, gR_sI, gR_sL, gL_cp, gR_cp, kd_aI, gL_aI, gR_aI, gI_aI, gI_aIn, sI_aI, gI_sIn, Int.reduceToNat, Int.reduceAdd, Int.reduceSub, Int.reduceMul, Int.reduceNeg, Int.zero_add, m8, a4, y]
      rfl
    · rw [decide_eq_false y]
      simp (disch := (first | omega | (simp only [kd_sI, kd_sL, kd_sR, kd_cp, kd_aI]; omega) | (unfold catV; exact rfl) | (unfold catS; exact Nat.le_of_ble_eq_true rfl) | assumption)) only [q_130_0, q_130_1_0, q_130_1_1, q_130_1_2, q_130_1_3, q_130_1_4, q_130_1_5, q_130_1_6, q_130_1_7, q_130_1_8, q_130_1_9, q_130_1_10, q_130_1_11, q_130_1_12, q_130_1_13, q_130_1_14, q_130_1_d, q_130_76, q_130_77, q_130_80, q_130_81, q_130_82, q_130_84_t, q_130_84_f, q_130_87, q_130_88, q_130_91, q_130_92, q_130_93, q_130_94, q_130_95, q_130_96, q_130_99, q_130_100, q_130_101_t, q_130_101_f, q_130_104, q_130_105, q_130_108, q_130_109, q_130_110, q_130_111, q_130_114, q_130_115, q_130_116_t, q_130_116_f, q_130_119, q_130_120, q_130_123, q_130_124, q_130_125, q_130_126, q_130_129, q_130_130, q_130_131_t, q_130_131_f, q_130_134, q_130_135, q_130_138, q_130_139, q_130_140, q_130_141, aft_i, aft_l, aft_v, Int.toNat_natCast, kd_sI, kd_sL, kd_sR, kd_cp, gI_sL, gI_sR, gL_sI, gL_sR, gR_sI, gR_sL, gL_cp, gR_cp, kd_aI, gL_aI, gR_aI, gI_aI, gI_aIn, sI_aI, gI_sIn, Int.reduceToNat, Int.reduceAdd, Int.reduceSub, Int.reduceMul, Int.reduceNeg, Int.zero_add, m8, a4]
      rfl
  rw [if_neg z5]
  rw [if_neg Bool.false_ne_true]
  by_cases y : x < 99 ∨ 113 < x
  · simp (disch := (first | omega | (simp only [kd_sI, kd_sL, kd_sR, kd_cp, kd_aI]; omega) | (unfold catV; exact rfl) | (unfold catS; exact Nat.le_of_ble_eq_true rfl) | assumption)) only [q_130_0, q_130_1_0, q_130_1_1, q_130_1_2, q_130_1_3, q_130_1_4, q_130_1_5, q_130_1_6, q_130_1_7, q_130_1_8, q_130_1_9, q_130_1_10, q_130_1_11, q_130_1_12, q_130_1_13, q_130_1_14, q_130_1_d, q_130_76, q_130_77, q_130_80, q_130_81, q_130_82, q_130_84_t, q_130_84_f, q_130_87, q_130_88, q_130_91, q_130_92, q_130_93, q_130_94, q_130_95, q_130_96, q_130_99, q_130_100, q_130_101_t, q_130_101_f, q_130_104, q_130_105, q_130_108, q_130_109, q_130_110, q_130_111, q_130_114, q_130_115, q_130_116_t, q_130_116_f, q_130_119, q_130_120, q_130_123, q_130_124, q_130_125, q_130_126, q_130_129, q_130_130, q_130_131_t, q_130_131_f, q_130_134, q_130_135, q_130_138, q_130_139, q_130_140, q_130_141, aft_i, aft_l, aft_v, Int.toNat_natCast, kd_sI, kd_sL, kd_sR, kd_cp, gI_sL, gI_sR, gL_sI, gL_sR, gR_sI, gR_sL, gL_cp, gR_cp, kd_aI, gL_aI, gR_aI, gI_aI, gI_aIn, sI_aI, gI_sIn, Int.reduceToNat, Int.reduceAdd, Int.reduceSub, Int.reduceMul, Int.reduceNeg, Int.zero_add]
  · have : x = 101 ∨ x = 102 ∨ x = 104 ∨ x = 105 ∨ x = 106 ∨ x = 107 ∨ x = 108 ∨ x = 110 ∨ x = 111 ∨ x = 112 := by omega
    clear hx
    rcases this with z | z | z | z | z | z | z | z | z | z <;> subst z
    all_goals simp (disch := (first | omega | (simp only [kd_sI, kd_sL, kd_sR, kd_cp, kd_aI]; omega) | (unfold catV; exact rfl) | (unfold catS; exact Nat.le_of_ble_eq_true rfl) | assumption)) only [q_130_0, q_130_1_0, q_130_1_1, q_130_1_2, q_130_1_3, q_130_1_4, q_130_1_5, q_130_1_6, q_130_1_7, q_130_1_8, q_130_1_9, q_130_1_10, q_130_1_11, q_130_1_12, q_130_1_13, q_130_1_14, q_130_1_d, q_130_76, q_130_77, q_130_80, q_130_81, q_130_82, q_130_84_t, q_130_84_f, q_130_87, q_130_88, q_130_91, q_130_92, q_130_93, q_130_94, q_130_95, q_130_96, q_130_99, q_130_100, q_130_101_t, q_130_101_f, q_130_104, q_130_105, q_130_108, q_130_109, q_130_110, q_130_111, q_130_114, q_130_115, q_130_116_t, q_130_116_f, q_130_119, q_130_120, q_130_123, q_130_124, q_130_125, q_130_126, q_130_129, q_130_130, q_130_131_t, q_130_131_f, q_130_134, q_130_135, q_130_138, q_130_139, q_130_140, q_130_141, aft_i, aft_l, aft_v, Int.toNat_natCast, kd_sI, kd_sL, kd_sR, kd_cp, gI_sL, gI_sR, gL_sI, gL_sR, gR_sI, gR_sL, gL_cp, gR_cp, kd_aI, gL_aI, gR_aI, gI_aI, gI_aIn, sI_aI, gI_sIn, Int.reduceToNat, Int.reduceAdd, Int.reduceSub, Int.reduceMul, Int.reduceNeg, Int.zero_add]
def grI (o : Option Nat) : Int := match o with
  | some k => k
  | none => -9
theorem mGrO_ok (d : Nat) (h : mH) (k : Nat) (x : Int) (hx : x = k) : callA (d + 1) 131 [Sum.inl x] h = some (some (Sum.inl (grI (grO k))), h) := by
  unfold grO
  rw [en_131]
  by_cases z1 : k = 102
  · subst z1
    have hx : x = 102 := hx
    subst hx
    simp (disch := (first | omega | (simp only [kd_sI, kd_sL, kd_sR, kd_cp, kd_aI]; omega) | (unfold catV; exact rfl) | (unfold catS; exact Nat.le_of_ble_eq_true rfl) | assumption)) only [q_131_0, q_131_1, q_131_3_t, q_131_3_f, q_131_6, q_131_7, q_131_10, q_131_11, q_131_13_t, q_131_13_f, q_131_16, q_131_17, q_131_20, q_131_21, q_131_23_t, q_131_23_f, q_131_26, q_131_27, q_131_30, q_131_32, aft_i, aft_l, aft_v, Int.toNat_natCast, kd_sI, kd_sL, kd_sR, kd_cp, gI_sL, gI_sR, gL_sI, gL_sR, gR_sI, gR_sL, gL_cp, gR_cp, kd_aI, gL_aI, gR_aI, gI_aI, gI_aIn, sI_aI, gI_sIn, Int.reduceToNat, Int.reduceAdd, Int.reduceSub, Int.reduceMul, Int.reduceNeg, Int.zero_add]
    rfl
  by_cases z2 : k = 104
  · subst z2
    have hx : x = 104 := hx
    subst hx
    simp (disch := (first | omega | (simp only [kd_sI, kd_sL, kd_sR, kd_cp, kd_aI]; omega) | (unfold catV; exact rfl) | (unfold catS; exact Nat.le_of_ble_eq_true rfl) | assumption)) only [q_131_0, q_131_1, q_131_3_t, q_131_3_f, q_131_6, q_131_7, q_131_10, q_131_11, q_131_13_t, q_131_13_f, q_131_16, q_131_17, q_131_20, q_131_21, q_131_23_t, q_131_23_f, q_131_26, q_131_27, q_131_30, q_131_32, aft_i, aft_l, aft_v, Int.toNat_natCast, kd_sI, kd_sL, kd_sR, kd_cp, gI_sL, gI_sR, gL_sI, gL_sR, gR_sI, gR_sL, gL_cp, gR_cp, kd_aI, gL_aI, gR_aI, gI_aI, gI_aIn, sI_aI, gI_sIn, Int.reduceToNat, Int.reduceAdd, Int.reduceSub, Int.reduceMul, Int.reduceNeg, Int.zero_add]
    rfl
  by_cases z3 : k = 114
  · subst z3
    have hx : x = 114 := hx
    subst hx
    simp (disch := (first | omega | (simp only [kd_sI, kd_sL, kd_sR, kd_cp, kd_aI]; omega) | (unfold catV; exact rfl) | (unfold catS; exact Nat.le_of_ble_eq_true rfl) | assumption)) only [q_131_0, q_131_1, q_131_3_t, q_131_3_f, q_131_6, q_131_7, q_131_10, q_131_11, q_131_13_t, q_131_13_f, q_131_16, q_131_17, q_131_20, q_131_21, q_131_23_t, q_131_23_f, q_131_26, q_131_27, q_131_30, q_131_32, aft_i, aft_l, aft_v, Int.toNat_natCast, kd_sI, kd_sL, kd_sR, kd_cp, gI_sL, gI_sR, gL_sI, gL_sR, gR_sI, gR_sL, gL_cp, gR_cp, kd_aI, gL_aI, gR_aI, gI_aI, gI_aIn, sI_aI, gI_sIn, Int.reduceToNat, Int.reduceAdd, Int.reduceSub, Int.reduceMul, Int.reduceNeg, Int.zero_add]
    rfl
  rw [if_neg z1, if_neg z2, if_neg z3]
  simp (disch := (first | omega | (simp only [kd_sI, kd_sL, kd_sR, kd_cp, kd_aI]; omega) | (unfold catV; exact rfl) | (unfold catS; exact Nat.le_of_ble_eq_true rfl) | assumption)) only [q_131_0, q_131_1, q_131_3_t, q_131_3_f, q_131_6, q_131_7, q_131_10, q_131_11, q_131_13_t, q_131_13_f, q_131_16, q_131_17, q_131_20, q_131_21, q_131_23_t, q_131_23_f, q_131_26, q_131_27, q_131_30, q_131_32, aft_i, aft_l, aft_v, Int.toNat_natCast, kd_sI, kd_sL, kd_sR, kd_cp, gI_sL, gI_sR, gL_sI, gL_sR, gR_sI, gR_sL, gL_cp, gR_cp, kd_aI, gL_aI, gR_aI, gI_aI, gI_aIn, sI_aI, gI_sIn, Int.reduceToNat, Int.reduceAdd, Int.reduceSub, Int.reduceMul, Int.reduceNeg, Int.zero_add]
  rfl
