theorem wInto_ok (d : Nat) (h : mH) (L : LAY h) (X : List Int) (t : ctx h X) : ∃ g, cpF' h g ∧ match prs X (X.length + 1) 0 dNew 0 with
    | Sum.inl e => callA (d + 7) 38 [Sum.inr (Sum.inr (some 1)), Sum.inr (Sum.inr (some 8))] h = some (some (Sum.inl (-10 - (e : Int))), g)
    | Sum.inr q => dC g q.1 ∧ wfD q.1 ∧ callA (d + 7) 38 [Sum.inr (Sum.inr (some 1)), Sum.inr (Sum.inr (some 8))] h = some (some (Sum.inl (q.2 : Int)), g) := by
  have L0 := L
  generalize eg1 : sI (sI (sI (sI (sI (sI (sI h 8 4 0) 8 5 0) 8 6 4) 8 7 9) 1 6 0) 1 7 0) 1 2 0 = g1
  have q1 : cpF' h g1 := by
    rw [← eg1]
    exact cpF_tr (cpF_s (by omega)) (cpF_tr (cpF_s (by omega)) (cpF_tr (cpF_s (by omega)) (cpF_tr (cpF_s (by omega)) (cpF_tr (cpF_s (by omega)) (cpF_tr (cpF_s (by omega)) (cpF_s (by omega)))))))
  have L1 := cpF_L q1 L
  have d1 : dC g1 dNew := by
    rw [← eg1]
    refine ⟨?_, ?_, ?_, ?_, fun c hc => absurd hc (Nat.not_lt_zero _), fun k hk => absurd hk (Nat.not_lt_zero _), ?_, ?_⟩
    · rw [gI_sIn (by omega), gI_sIn (by omega), gI_sIn (by omega), gI_sIo (by omega), gI_sIo (by omega), gI_sIo (by omega), gI_sIs]; rfl
    · rw [gI_sIn (by omega), gI_sIn (by omega), gI_sIn (by omega), gI_sIo (by omega), gI_sIo (by omega), gI_sIs]; rfl
    · rw [gI_sIn (by omega), gI_sIn (by omega), gI_sIn (by omega), gI_sIo (by omega), gI_sIs]; rfl
    · rw [gI_sIn (by omega), gI_sIn (by omega), gI_sIn (by omega), gI_sIs]; rfl
    · rw [gI_sIo (by omega), gI_sIo (by omega), gI_sIs]; rfl
    · rw [gI_sIo (by omega), gI_sIs]; rfl
  have x2 : gI g1 1 2 = ((0 : Nat) : Int) := by rw [← eg1, gI_sIs]; rfl
  obtain ⟨g2, e2, s2, c2⟩ := wTok_ok (d + 3) g1 L1 X (cpF_tx q1 t) 0 x2 (Nat.zero_le _)
  have q2 := cpF_tr q1 (cst_cp s2)
  have L2 := cpF_L q2 L
  obtain ⟨g3, q3, r3⟩ := wInto_loop d X (X.length + 1) 0 0 dNew g2 L2 (cpF_tx q2 t) (Nat.zero_le _) c2 (cst_dC s2 d1) new_wf (Or.inl rfl) (by omega) (Nat.le_refl _)
  have head : callA (d + 7) 38 [Sum.inr (Sum.inr (some 1)), Sum.inr (Sum.inr (some 8))] h = resA (callA (d + 6)) 38 (25, [Sum.inr (Sum.inr (some 1)), Sum.inr (Sum.inr (some 8)), Sum.inl ((0 : Nat) : Int)], [], g2) := by
    have e1 : callA (d + 6) 52 [Sum.inr (Sum.inr (some 8))] h = some (none, sI (sI (sI (sI h 8 4 0) 8 5 0) 8 6 4) 8 7 9) := by
      obtain ⟨k8, j8⟩ := lay_k L0 (a := 8) (t := 6) (n := 8) rfl
      rw [en_52]
      simp (disch := (first | omega | (simp only [kd_sI, kd_sL, kd_sR, kd_cp, kd_aI]; omega) | (unfold catV; exact rfl) | (unfold catS; exact Nat.le_of_ble_eq_true rfl) | assumption)) only [q_52_0, q_52_1, q_52_2, q_52_5, q_52_6, q_52_7, q_52_10, q_52_11, q_52_12, q_52_15, q_52_16, q_52_18, q_52_21, aft_i, aft_l, aft_v, Int.toNat_natCast, kd_sI, kd_sL, kd_sR, kd_cp, gI_sL, gI_sR, gL_sI, gL_sR, gR_sI, gR_sL, gL_cp, gR_cp, kd_aI, gL_aI, gR_aI, gI_aI, gI_aIn, sI_aI, gI_sIn, Int.reduceToNat, Int.reduceAdd, Int.reduceSub, Int.reduceMul, Int.reduceNeg, Int.zero_add]
    obtain ⟨b1, b2⟩ := lay_k L1 (a := 1) (t := 5) (n := 8) rfl
    obtain ⟨k1, j1⟩ := lay_k L0 (a := 1) (t := 5) (n := 8) rfl; obtain ⟨k8, j8⟩ := lay_k L0 (a := 8) (t := 6) (n := 8) rfl
    rw [en_38, show ((0 : Nat) : Int) = 0 from rfl]
    simp (disch := (first | omega | (simp only [kd_sI, kd_sL, kd_sR, kd_cp, kd_aI]; omega) | (unfold catV; exact rfl) | (unfold catS; exact Nat.le_of_ble_eq_true rfl) | assumption)) only [q_38_0, q_38_1, q_38_4, q_38_5, q_38_6, q_38_9, q_38_10, q_38_11, q_38_14, q_38_15, q_38_16, q_38_19, q_38_20, q_38_21, q_38_22, q_38_26, q_38_29, q_38_30_t, q_38_30_f, q_38_33, q_38_34, q_38_37_t, q_38_37_f, q_38_40, q_38_41, q_38_42, q_38_45_t, q_38_45_f, q_38_48, q_38_50, q_38_51, q_38_54, q_38_55, q_38_56, q_38_59, q_38_60, q_38_63, q_38_66, q_38_67, aft_i, aft_l, aft_v, Int.toNat_natCast, kd_sI, kd_sL, kd_sR, kd_cp, gI_sL, gI_sR, gL_sI, gL_sR, gR_sI, gR_sL, gL_cp, gR_cp, kd_aI, gL_aI, gR_aI, gI_aI, gI_aIn, sI_aI, gI_sIn, Int.reduceToNat, Int.reduceAdd, Int.reduceSub, Int.reduceMul, Int.reduceNeg, Int.zero_add, e1, eg1, e2]
  refine ⟨g3, cpF_tr q2 q3, ?_⟩
  rw [head]
  exact r3
def agF (h g : mH) (lo hi : Nat) : Prop := (g.1 = h.1 ∧ gL g = gL h ∧ gR g = gR h) ∧ ∀ q k, ¬ (lo ≤ q ∧ q ≤ hi) → gI g q k = gI h q k
theorem agF_tr {h g k : mH} {a b : Nat} (x : agF h g a b) (y : agF g k a b) : agF h k a b := ⟨⟨y.1.1.trans x.1.1, y.1.2.1.trans x.1.2.1, y.1.2.2.trans x.1.2.2⟩, fun q j n => (y.2 q j n).trans (x.2 q j n)⟩
theorem agF_s {h : mH} {a k lo hi : Nat} {x : Int} (n : lo ≤ a ∧ a ≤ hi) : agF h (sI h a k x) lo hi := ⟨⟨rfl, rfl, rfl⟩, fun q j m => by rw [gI_sI, if_neg (by omega)]⟩
theorem agF_L {h g : mH} {a b : Nat} (x : agF h g a b) (L : LAY h) : LAY g := lay_keep L x.1.1 x.1.2.2
theorem wTb_a (d : Nat) (n : Nat) (n7 : n ≤ 7) : ∀ (k i : Nat) (h : mH) (L : LAY h), gI h 8 4 = n → i + k = n → ∃ g, resA (callA d) 53 (2, [Sum.inr (Sum.inr (some 3)), Sum.inr (Sum.inr (some 8)), Sum.inl (i : Int)], [], h) = resA (callA d) 53 (52, [Sum.inr (Sum.inr (some 3)), Sum.inr (Sum.inr (some 8)), Sum.inl (n : Int)], [], g) ∧ agF h g 4 6 ∧ (∀ j, j < i → gI g 4 j = gI h 4 j ∧ gI g 5 j = gI h 5 j ∧ gI g 6 j = gI h 6 j) ∧ ∀ j, i ≤ j → j < n → gI g 4 j = gI h 9 j ∧ gI g 5 j = gI h 10 j ∧ gI g 6 j = gI h 11 j
  | 0, i, h, L, hn, hi => by
    have e : i = n := hi
    subst e
    refine ⟨h, ?_, ⟨⟨rfl, rfl, rfl⟩, fun _ _ _ => rfl⟩, fun _ _ => ⟨rfl, rfl, rfl⟩, fun j a b => absurd a (by omega)⟩
    obtain ⟨k8, j8⟩ := lay_k L (a := 8) (t := 6) (n := 8) rfl
    simp (disch := (first | omega | (simp only [kd_sI, kd_sL, kd_sR, kd_cp, kd_aI]; omega) | (unfold catV; exact rfl) | (unfold catS; exact Nat.le_of_ble_eq_true rfl) | assumption)) only [q_53_0, q_53_1, q_53_2, q_53_3, q_53_4, q_53_7_t, q_53_7_f, q_53_10, q_53_11, q_53_14, q_53_15, q_53_16, q_53_19, q_53_20, q_53_21, q_53_22, q_53_23, q_53_26, q_53_27, q_53_28, q_53_31, q_53_32, q_53_33, q_53_34, q_53_35, q_53_38, q_53_39, q_53_40, q_53_43, q_53_44, q_53_45, q_53_46, q_53_49, q_53_53, q_53_54, q_53_55, q_53_56, q_53_59_t, q_53_59_f, q_53_62, q_53_63, q_53_66, q_53_67, q_53_68, q_53_71, q_53_72, q_53_73, q_53_74, q_53_77, q_53_80, q_53_81, q_53_82, q_53_85, q_53_88, q_53_89, q_53_90, q_53_93, q_53_96, q_53_97, q_53_98, q_53_101, q_53_104, q_53_105, q_53_106, q_53_109, q_53_112, aft_i, aft_l, aft_v, Int.toNat_natCast, kd_sI, kd_sL, kd_sR, kd_cp, gI_sL, gI_sR, gL_sI, gL_sR, gR_sI, gR_sL, gL_cp, gR_cp, kd_aI, gL_aI, gR_aI, gI_aI, gI_aIn, sI_aI, gI_sIn, Int.reduceToNat, Int.reduceAdd, Int.reduceSub, Int.reduceMul, Int.reduceNeg, Int.zero_add, hn]
  | k + 1, i, h, L, hn, hi => by
    have L0 := L
    generalize eg1 : sI (sI (sI h 4 i (gI h 9 i)) 5 i (gI h 10 i)) 6 i (gI h 11 i) = g1
    have a1 : agF h g1 4 6 := by rw [← eg1]; exact agF_tr (agF_s (by omega)) (agF_tr (agF_s (by omega)) (agF_s (by omega)))
    have L1 := agF_L a1 L
    obtain ⟨g, e, a2, v1, v2⟩ := wTb_a d n n7 k (i + 1) g1 L1 (by rw [a1.2 8 4 (by omega)]; exact hn) (by omega)
    have f4 : ∀ j, gI g1 4 j = upI (gI h 4) i (gI h 9 i) j := fun j => by rw [← eg1, gI_sIn (by omega), gI_sIn (by omega), gI_sIu]
    have f5 : ∀ j, gI g1 5 j = upI (gI h 5) i (gI h 10 i) j := fun j => by rw [← eg1, gI_sIn (by omega), gI_sIu, gI_sIn (by omega)]
    have f6 : ∀ j, gI g1 6 j = upI (gI h 6) i (gI h 11 i) j := fun j => by rw [← eg1, gI_sIu, gI_sIn (by omega), gI_sIn (by omega)]
    refine ⟨g, ?_, agF_tr a1 a2, fun j hj => ?_, fun j x y => ?_⟩
    · have x1 : gI (sI h 4 i (gI h 9 i)) 10 i = gI h 10 i := by rw [gI_sIn (by omega)]
      have x2 : gI (sI (sI h 4 i (gI h 9 i)) 5 i (gI h 10 i)) 11 i = gI h 11 i := by rw [gI_sIn (by omega), gI_sIn (by omega)]
      obtain ⟨k3, j3⟩ := lay_k L0 (a := 3) (t := 6) (n := 8) rfl; obtain ⟨k4, j4⟩ := lay_k L0 (a := 4) (t := 100) (n := 7) rfl; obtain ⟨k5, j5⟩ := lay_k L0 (a := 5) (t := 100) (n := 7) rfl; obtain ⟨k6, j6⟩ := lay_k L0 (a := 6) (t := 100) (n := 7) rfl; obtain ⟨k8, j8⟩ := lay_k L0 (a := 8) (t := 6) (n := 8) rfl; obtain ⟨k9, j9⟩ := lay_k L0 (a := 9) (t := 100) (n := 7) rfl; obtain ⟨k10, j10⟩ := lay_k L0 (a := 10) (t := 100) (n := 7) rfl; obtain ⟨k11, j11⟩ := lay_k L0 (a := 11) (t := 100) (n := 7) rfl; have r3_0 : gR h 3 0 = some 4 := lay_r L0 rfl; have r3_1 : gR h 3 1 = some 5 := lay_r L0 rfl; have r3_2 : gR h 3 2 = some 6 := lay_r L0 rfl; have r8_0 : gR h 8 0 = some 9 := lay_r L0 rfl; have r8_1 : gR h 8 1 = some 10 := lay_r L0 rfl; have r8_2 : gR h 8 2 = some 11 := lay_r L0 rfl
      rw [q_53_2]
      simp (disch := (first | omega | (simp only [kd_sI, kd_sL, kd_sR, kd_cp, kd_aI]; omega) | (unfold catV; exact rfl) | (unfold catS; exact Nat.le_of_ble_eq_true rfl) | assumption)) only [q_53_0, q_53_1, q_53_3, q_53_4, q_53_7_t, q_53_7_f, q_53_10, q_53_11, q_53_14, q_53_15, q_53_16, q_53_19, q_53_20, q_53_21, q_53_22, q_53_23, q_53_26, q_53_27, q_53_28, q_53_31, q_53_32, q_53_33, q_53_34, q_53_35, q_53_38, q_53_39, q_53_40, q_53_43, q_53_44, q_53_45, q_53_46, q_53_49, q_53_53, q_53_54, q_53_55, q_53_56, q_53_59_t, q_53_59_f, q_53_62, q_53_63, q_53_66, q_53_67, q_53_68, q_53_71, q_53_72, q_53_73, q_53_74, q_53_77, q_53_80, q_53_81, q_53_82, q_53_85, q_53_88, q_53_89, q_53_90, q_53_93, q_53_96, q_53_97, q_53_98, q_53_101, q_53_104, q_53_105, q_53_106, q_53_109, q_53_112, aft_i, aft_l, aft_v, Int.toNat_natCast, kd_sI, kd_sL, kd_sR, kd_cp, gI_sL, gI_sR, gL_sI, gL_sR, gR_sI, gR_sL, gL_cp, gR_cp, kd_aI, gL_aI, gR_aI, gI_aI, gI_aIn, sI_aI, gI_sIn, Int.reduceToNat, Int.reduceAdd, Int.reduceSub, Int.reduceMul, Int.reduceNeg, Int.zero_add, hn, r3_0, r3_1, r3_2, r8_0, r8_1, r8_2, x1, x2]
      rw [eg1]
      exact e
    · obtain ⟨u1, u2, u3⟩ := v1 j (by omega)
      rw [u1, u2, u3, f4, f5, f6, upI_n (by omega), upI_n (by omega), upI_n (by omega)]
      exact ⟨rfl, rfl, rfl⟩
    · by_cases z : j = i
      · subst z
        obtain ⟨u1, u2, u3⟩ := v1 j (by omega)
        rw [u1, u2, u3, f4, f5, f6, upI_s, upI_s, upI_s]
        exact ⟨rfl, rfl, rfl⟩
      · obtain ⟨u1, u2, u3⟩ := v2 j (by omega) y
        rw [u1, u2, u3, a1.2 9 j (by omega), a1.2 10 j (by omega), a1.2 11 j (by omega)]
        exact ⟨rfl, rfl, rfl⟩
theorem wTb_b (d : Nat) (n : Nat) (n7 : n ≤ 40) : ∀ (k i : Nat) (h : mH) (L : LAY h), gI h 8 5 = n → i + k = n → ∃ g, resA (callA d) 53 (54, [Sum.inr (Sum.inr (some 3)), Sum.inr (Sum.inr (some 8)), Sum.inl (i : Int)], [], h) = resA (callA d) 53 (80, [Sum.inr (Sum.inr (some 3)), Sum.inr (Sum.inr (some 8)), Sum.inl (n : Int)], [], g) ∧ agF h g 7 7 ∧ (∀ j, j < i → gI g 7 j = gI h 7 j) ∧ ∀ j, i ≤ j → j < n → gI g 7 j = gI h 12 j
  | 0, i, h, L, hn, hi => by
    have e : i = n := hi
    subst e
    refine ⟨h, ?_, ⟨⟨rfl, rfl, rfl⟩, fun _ _ _ => rfl⟩, fun _ _ => rfl, fun j a b => absurd a (by omega)⟩
    obtain ⟨k8, j8⟩ := lay_k L (a := 8) (t := 6) (n := 8) rfl
    simp (disch := (first | omega | (simp only [kd_sI, kd_sL, kd_sR, kd_cp, kd_aI]; omega) | (unfold catV; exact rfl) | (unfold catS; exact Nat.le_of_ble_eq_true rfl) | assumption)) only [q_53_0, q_53_1, q_53_2, q_53_3, q_53_4, q_53_7_t, q_53_7_f, q_53_10, q_53_11, q_53_14, q_53_15, q_53_16, q_53_19, q_53_20, q_53_21, q_53_22, q_53_23, q_53_26, q_53_27, q_53_28, q_53_31, q_53_32, q_53_33, q_53_34, q_53_35, q_53_38, q_53_39, q_53_40, q_53_43, q_53_44, q_53_45, q_53_46, q_53_49, q_53_52, q_53_53, q_53_54, q_53_55, q_53_56, q_53_59_t, q_53_59_f, q_53_62, q_53_63, q_53_66, q_53_67, q_53_68, q_53_71, q_53_72, q_53_73, q_53_74, q_53_77, q_53_81, q_53_82, q_53_85, q_53_88, q_53_89, q_53_90, q_53_93, q_53_96, q_53_97, q_53_98, q_53_101, q_53_104, q_53_105, q_53_106, q_53_109, q_53_112, aft_i, aft_l, aft_v, Int.toNat_natCast, kd_sI, kd_sL, kd_sR, kd_cp, gI_sL, gI_sR, gL_sI, gL_sR, gR_sI, gR_sL, gL_cp, gR_cp, kd_aI, gL_aI, gR_aI, gI_aI, gI_aIn, sI_aI, gI_sIn, Int.reduceToNat, Int.reduceAdd, Int.reduceSub, Int.reduceMul, Int.reduceNeg, Int.zero_add, hn]
  | k + 1, i, h, L, hn, hi => by
    have L0 := L
    have a1 : agF h (sI h 7 i (gI h 12 i)) 7 7 := agF_s (by omega)
    have L1 := agF_L a1 L
    obtain ⟨g, e, a2, v1, v2⟩ := wTb_b d n n7 k (i + 1) _ L1 (by rw [a1.2 8 5 (by omega)]; exact hn) (by omega)
    refine ⟨g, ?_, agF_tr a1 a2, fun j hj => ?_, fun j x y => ?_⟩
    · obtain ⟨k3, j3⟩ := lay_k L0 (a := 3) (t := 6) (n := 8) rfl; obtain ⟨k7, j7⟩ := lay_k L0 (a := 7) (t := 100) (n := 40) rfl; obtain ⟨k8, j8⟩ := lay_k L0 (a := 8) (t := 6) (n := 8) rfl; obtain ⟨k12, j12⟩ := lay_k L0 (a := 12) (t := 100) (n := 40) rfl; have r3_3 : gR h 3 3 = some 7 := lay_r L0 rfl; have r8_3 : gR h 8 3 = some 12 := lay_r L0 rfl
      rw [q_53_54]
      simp (disch := (first | omega | (simp only [kd_sI, kd_sL, kd_sR, kd_cp, kd_aI]; omega) | (unfold catV; exact rfl) | (unfold catS; exact Nat.le_of_ble_eq_true rfl) | assumption)) only [q_53_0, q_53_1, q_53_2, q_53_3, q_53_4, q_53_7_t, q_53_7_f, q_53_10, q_53_11, q_53_14, q_53_15, q_53_16, q_53_19, q_53_20, q_53_21, q_53_22, q_53_23, q_53_26, q_53_27, q_53_28, q_53_31, q_53_32, q_53_33, q_53_34, q_53_35, q_53_38, q_53_39, q_53_40, q_53_43, q_53_44, q_53_45, q_53_46, q_53_49, q_53_52, q_53_53, q_53_55, q_53_56, q_53_59_t, q_53_59_f, q_53_62, q_53_63, q_53_66, q_53_67, q_53_68, q_53_71, q_53_72, q_53_73, q_53_74, q_53_77, q_53_81, q_53_82, q_53_85, q_53_88, q_53_89, q_53_90, q_53_93, q_53_96, q_53_97, q_53_98, q_53_101, q_53_104, q_53_105, q_53_106, q_53_109, q_53_112, aft_i, aft_l, aft_v, Int.toNat_natCast, kd_sI, kd_sL, kd_sR, kd_cp, gI_sL, gI_sR, gL_sI, gL_sR, gR_sI, gR_sL, gL_cp, gR_cp, kd_aI, gL_aI, gR_aI, gI_aI, gI_aIn, sI_aI, gI_sIn, Int.reduceToNat, Int.reduceAdd, Int.reduceSub, Int.reduceMul, Int.reduceNeg, Int.zero_add, hn, r3_3, r8_3]
      exact e
    · rw [v1 j (by omega), gI_sIo (by omega)]
    · by_cases z : j = i
      · subst z
        rw [v1 j (by omega), gI_sIs]
      · rw [v2 j (by omega) y, a1.2 12 j (by omega)]
theorem wTb_ok (d : Nat) (h : mH) (L : LAY h) (D : Dr) (w : wfD D) (m : dC h D) : ∃ g, callA (d + 1) 53 [Sum.inr (Sum.inr (some 3)), Sum.inr (Sum.inr (some 8))] h = some (none, g) ∧ agF h g 3 7 ∧ cT g (dT D) ∧ ∀ c, c < tN (dT D) → gI g 4 c = dX D c := by
  have L0 := L
  have c7 := w.1.1
  have k4 := w.1.2.1
  obtain ⟨m1, m2, m3, m4, m5, m6, m7, m8⟩ := m
  obtain ⟨g1, e1, a1, -, v1⟩ := wTb_a d (tN (dT D)) c7 (tN (dT D)) 0 h L m1 (Nat.zero_add _)
  have L1 := agF_L a1 L
  obtain ⟨g2, e2, a2, -, v2⟩ := wTb_b d (tK (dT D)) k4 (tK (dT D)) 0 g1 L1 (by rw [a1.2 8 5 (by omega)]; exact m2) (Nat.zero_add _)
  have L2 := agF_L a2 L1
  rw [show ((0 : Nat) : Int) = 0 from rfl] at e1 e2
  have x1 : ∀ q k, ¬ (4 ≤ q ∧ q ≤ 7) → gI g2 q k = gI h q k := fun q k n => by rw [a2.2 q k (by omega), a1.2 q k (by omega)]
  have y1 : gI g2 8 4 = tN (dT D) := by rw [x1 8 4 (by omega)]; exact m1
  have y2 : gI (sI g2 3 4 (tN (dT D))) 8 5 = tK (dT D) := by rw [gI_sIn (by omega), x1 8 5 (by omega)]; exact m2
  have y3 : gI (sI (sI g2 3 4 (tN (dT D))) 3 5 (tK (dT D))) 8 6 = tA (dT D) := by rw [gI_sIn (by omega), gI_sIn (by omega), x1 8 6 (by omega)]; exact m3
  have y4 : gI (sI (sI (sI g2 3 4 (tN (dT D))) 3 5 (tK (dT D))) 3 6 (tA (dT D))) 8 7 = tM (dT D) := by rw [gI_sIn (by omega), gI_sIn (by omega), gI_sIn (by omega), x1 8 7 (by omega)]; exact m4
  refine ⟨sI (sI (sI (sI g2 3 4 (tN (dT D))) 3 5 (tK (dT D))) 3 6 (tA (dT D))) 3 7 (tM (dT D)), ?_, ⟨⟨(a2.1.1.trans a1.1.1), (a2.1.2.1.trans a1.1.2.1), (a2.1.2.2.trans a1.1.2.2)⟩, fun q k n => ?_⟩, ⟨?_, ?_, ?_, ?_, fun c hc => ?_, fun k hk => ?_⟩, fun c hc => ?_⟩
  · obtain ⟨u1, u2⟩ := lay_k L2 (a := 8) (t := 6) (n := 8) rfl
    obtain ⟨u3, u4⟩ := lay_k L2 (a := 3) (t := 6) (n := 8) rfl
    rw [en_53]
    simp (disch := (first | omega | (simp only [kd_sI, kd_sL, kd_sR, kd_cp, kd_aI]; omega) | (unfold catV; exact rfl) | (unfold catS; exact Nat.le_of_ble_eq_true rfl) | assumption)) only [q_53_0, q_53_1, q_53_3, q_53_4, q_53_7_t, q_53_7_f, q_53_10, q_53_11, q_53_14, q_53_15, q_53_16, q_53_19, q_53_20, q_53_21, q_53_22, q_53_23, q_53_26, q_53_27, q_53_28, q_53_31, q_53_32, q_53_33, q_53_34, q_53_35, q_53_38, q_53_39, q_53_40, q_53_43, q_53_44, q_53_45, q_53_46, q_53_49, q_53_53, q_53_55, q_53_56, q_53_59_t, q_53_59_f, q_53_62, q_53_63, q_53_66, q_53_67, q_53_68, q_53_71, q_53_72, q_53_73, q_53_74, q_53_77, q_53_81, q_53_82, q_53_85, q_53_88, q_53_89, q_53_90, q_53_93, q_53_96, q_53_97, q_53_98, q_53_101, q_53_104, q_53_105, q_53_106, q_53_109, q_53_112, aft_i, aft_l, aft_v, Int.toNat_natCast, kd_sI, kd_sL, kd_sR, kd_cp, gI_sL, gI_sR, gL_sI, gL_sR, gR_sI, gR_sL, gL_cp, gR_cp, kd_aI, gL_aI, gR_aI, gI_aI, gI_aIn, sI_aI, gI_sIn, Int.reduceToNat, Int.reduceAdd, Int.reduceSub, Int.reduceMul, Int.reduceNeg, Int.zero_add]
    rw [e1]
    simp (disch := (first | omega | (simp only [kd_sI, kd_sL, kd_sR, kd_cp, kd_aI]; omega) | (unfold catV; exact rfl) | (unfold catS; exact Nat.le_of_ble_eq_true rfl) | assumption)) only [q_53_0, q_53_1, q_53_3, q_53_4, q_53_7_t, q_53_7_f, q_53_10, q_53_11, q_53_14, q_53_15, q_53_16, q_53_19, q_53_20, q_53_21, q_53_22, q_53_23, q_53_26, q_53_27, q_53_28, q_53_31, q_53_32, q_53_33, q_53_34, q_53_35, q_53_38, q_53_39, q_53_40, q_53_43, q_53_44, q_53_45, q_53_46, q_53_49, q_53_52, q_53_53, q_53_55, q_53_56, q_53_59_t, q_53_59_f, q_53_62, q_53_63, q_53_66, q_53_67, q_53_68, q_53_71, q_53_72, q_53_73, q_53_74, q_53_77, q_53_81, q_53_82, q_53_85, q_53_88, q_53_89, q_53_90, q_53_93, q_53_96, q_53_97, q_53_98, q_53_101, q_53_104, q_53_105, q_53_106, q_53_109, q_53_112, aft_i, aft_l, aft_v, Int.toNat_natCast, kd_sI, kd_sL, kd_sR, kd_cp, gI_sL, gI_sR, gL_sI, gL_sR, gR_sI, gR_sL, gL_cp, gR_cp, kd_aI, gL_aI, gR_aI, gI_aI, gI_aIn, sI_aI, gI_sIn, Int.reduceToNat, Int.reduceAdd, Int.reduceSub, Int.reduceMul, Int.reduceNeg, Int.zero_add]
    rw [e2]
    simp (disch := (first | omega | (simp only [kd_sI, kd_sL, kd_sR, kd_cp, kd_aI]; omega) | (unfold catV; exact rfl) | (unfold catS; exact Nat.le_of_ble_eq_true rfl) | assumption)) only [q_53_0, q_53_1, q_53_3, q_53_4, q_53_7_t, q_53_7_f, q_53_10, q_53_11, q_53_14, q_53_15, q_53_16, q_53_19, q_53_20, q_53_21, q_53_22, q_53_23, q_53_26, q_53_27, q_53_28, q_53_31, q_53_32, q_53_33, q_53_34, q_53_35, q_53_38, q_53_39, q_53_40, q_53_43, q_53_44, q_53_45, q_53_46, q_53_49, q_53_52, q_53_53, q_53_55, q_53_56, q_53_59_t, q_53_59_f, q_53_62, q_53_63, q_53_66, q_53_67, q_53_68, q_53_71, q_53_72, q_53_73, q_53_74, q_53_77, q_53_80, q_53_81, q_53_82, q_53_85, q_53_88, q_53_89, q_53_90, q_53_93, q_53_96, q_53_97, q_53_98, q_53_101, q_53_104, q_53_105, q_53_106, q_53_109, q_53_112, aft_i, aft_l, aft_v, Int.toNat_natCast, kd_sI, kd_sL, kd_sR, kd_cp, gI_sL, gI_sR, gL_sI, gL_sR, gR_sI, gR_sL, gL_cp, gR_cp, kd_aI, gL_aI, gR_aI, gI_aI, gI_aIn, sI_aI, gI_sIn, Int.reduceToNat, Int.reduceAdd, Int.reduceSub, Int.reduceMul, Int.reduceNeg, Int.zero_add, y1, y2, y3, y4]
  · rw [gI_sIn (by omega), gI_sIn (by omega), gI_sIn (by omega), gI_sIn (by omega)]; exact x1 q k (by omega)
  · rw [gI_sIo (by omega), gI_sIo (by omega), gI_sIo (by omega), gI_sIs]
  · rw [gI_sIo (by omega), gI_sIo (by omega), gI_sIs]
  · rw [gI_sIo (by omega), gI_sIs]
  · rw [gI_sIs]
  · obtain ⟨u1, u2, u3⟩ := v1 c (Nat.zero_le _) hc
    rw [gI_sIn (by omega), gI_sIn (by omega), gI_sIn (by omega), gI_sIn (by omega), gI_sIn (by omega), gI_sIn (by omega), gI_sIn (by omega), gI_sIn (by omega), a2.2 5 c (by omega), a2.2 6 c (by omega), u2, u3]
    exact (m5 c hc).2
  · rw [gI_sIn (by omega), gI_sIn (by omega), gI_sIn (by omega), gI_sIn (by omega), v2 k (Nat.zero_le _) hk, a1.2 12 k (by omega)]
    exact m6 k hk
  · obtain ⟨u1, u2, u3⟩ := v1 c (Nat.zero_le _) hc
    rw [gI_sIn (by omega), gI_sIn (by omega), gI_sIn (by omega), gI_sIn (by omega), a2.2 4 c (by omega), u1]
    exact (m5 c hc).1
