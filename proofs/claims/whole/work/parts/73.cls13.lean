def nAd (h : mH) (a : Nat) : Prop := ((kd h a).1 = 2 ∧ (kd h a).2 = 5) ∧ ((kd h (a + 1)).1 = 100 ∧ (kd h (a + 1)).2 = 7) ∧ ((kd h (a + 2)).1 = 100 ∧ (kd h (a + 2)).2 = 7) ∧ gR h a 0 = some (a + 1) ∧ gR h a 1 = some (a + 2)
theorem nAd_now {h : mH} (L : LAY h) {b : Nat} (hb : b = 13 ∨ b = 49 ∨ b = 84) : nAd h (b + 1) := by
  rcases hb with e | e | e <;> subst e
  all_goals exact ⟨lay_k L rfl, lay_k L rfl, lay_k L rfl, lay_r L rfl, lay_r L rfl⟩
theorem nAd_past {h : mH} (L : LAY h) {b : Nat} (hb : b = 13 ∨ b = 49 ∨ b = 84) {j : Nat} (hj : j < 10) : nAd h (b + 5 + 3 * j) := by
  have : j = 0 ∨ j = 1 ∨ j = 2 ∨ j = 3 ∨ j = 4 ∨ j = 5 ∨ j = 6 ∨ j = 7 ∨ j = 8 ∨ j = 9 := by omega
  rcases hb with e | e | e <;> subst e
  all_goals rcases this with e | e | e | e | e | e | e | e | e | e <;> subst e
  all_goals exact ⟨lay_k L rfl, lay_k L rfl, lay_k L rfl, lay_r L rfl, lay_r L rfl⟩
theorem nAd_kp {h g : mH} {a : Nat} (n : nAd h a) (e1 : g.1 = h.1) (e2 : gR g a = gR h a) : nAd g a := by
  obtain ⟨n1, n2, n3, n4, n5⟩ := n
  unfold nAd kd at *
  rw [e1, e2]
  exact ⟨n1, n2, n3, n4, n5⟩
/-- only one night -/
def nbF (h g : mH) (a : Nat) : Prop := g.1 = h.1 ∧ gR g = gR h ∧ (∀ q k, ¬ (a ≤ q ∧ q ≤ a + 2) → gI g q k = gI h q k) ∧ ∀ q k, q ≠ a → gL g q k = gL h q k
theorem nbF_L {h g : mH} {a : Nat} (f : nbF h g a) (L : LAY h) : LAY g := lay_keep L f.1 f.2.1
theorem nbF_nt {h g : mH} {a b : Nat} (f : nbF h g a) (n : a + 3 ≤ b ∨ b + 3 ≤ a) {T : Td} {N : Nt} (m : ntA h b T N) : ntA g b T N := by
  obtain ⟨m1, m2, m3, m4, m5⟩ := m
  obtain ⟨-, -, f1, f2⟩ := f
  refine ⟨?_, ?_, ?_, fun i hi => ?_, fun c hc => ?_⟩
  · rw [f1 b 2 (by omega)]; exact m1
  · rw [f1 b 3 (by omega)]; exact m2
  · rw [f2 b 4 (by omega)]; exact m3
  · rw [f1 (b + 1) i (by omega)]; exact m4 i hi
  · rw [f1 (b + 2) c (by omega)]; exact m5 c hc
theorem wBe_loop (d : Nat) (a c : Nat) (ac : a + 3 ≤ c ∨ c + 3 ≤ a) : ∀ (k i : Nat) (h : mH), nAd h a → nAd h c → i + k = 7 → ∃ g, resA (callA d) 14 (2, [Sum.inr (Sum.inr (some a)), Sum.inr (Sum.inr (some c)), Sum.inl (i : Int)], [], h) = resA (callA d) 14 (38, [Sum.inr (Sum.inr (some a)), Sum.inr (Sum.inr (some c)), Sum.inl 7], [], g) ∧ (g.1 = h.1 ∧ gL g = gL h ∧ gR g = gR h) ∧ (∀ q j, ¬ (q = a + 1 ∧ i ≤ j ∧ j < 7) → ¬ (q = a + 2 ∧ i ≤ j ∧ j < 7) → gI g q j = gI h q j) ∧ ∀ j, i ≤ j → j < 7 → gI g (a + 1) j = gI h (c + 1) j ∧ gI g (a + 2) j = gI h (c + 2) j
  | 0, i, h, na, nc, hi => by
    have e : i = 7 := hi
    subst e
    refine ⟨h, ?_, ⟨rfl, rfl, rfl⟩, fun _ _ _ _ => rfl, fun j x y => absurd x (by omega)⟩
    simp (disch := (first | omega | (simp only [kd_sI, kd_sL, kd_sR, kd_cp, kd_aI]; omega) | (unfold catV; exact rfl) | (unfold catS; exact Nat.le_of_ble_eq_true rfl) | assumption)) only [q_14_0, q_14_1, q_14_2, q_14_3, q_14_5_t, q_14_5_f, q_14_8, q_14_9, q_14_12, q_14_13, q_14_14, q_14_17, q_14_18, q_14_19, q_14_20, q_14_21, q_14_24, q_14_25, q_14_26, q_14_29, q_14_30, q_14_31, q_14_32, q_14_35, q_14_39, q_14_40, q_14_43, q_14_46, q_14_47, q_14_48, q_14_51, q_14_54, q_14_55, q_14_56, q_14_59, q_14_62, aft_i, aft_l, aft_v, Int.toNat_natCast, kd_sI, kd_sL, kd_sR, kd_cp, gI_sL, gI_sR, gL_sI, gL_sR, gR_sI, gR_sL, gL_cp, gR_cp, kd_aI, gL_aI, gR_aI, gI_aI, gI_aIn, sI_aI, gI_sIn, Int.reduceToNat, Int.reduceAdd, Int.reduceSub, Int.reduceMul, Int.reduceNeg, Int.zero_add]
    rfl
  | k + 1, i, h, na, nc, hi => by
    have s1 : (sI (sI h (a + 1) i (gI h (c + 1) i)) (a + 2) i (gI h (c + 2) i)).1 = h.1 := rfl
    obtain ⟨g, e, ⟨s2, s3, s4⟩, f, v⟩ := wBe_loop d a c ac k (i + 1) (sI (sI h (a + 1) i (gI h (c + 1) i)) (a + 2) i (gI h (c + 2) i)) (nAd_kp na rfl rfl) (nAd_kp nc rfl rfl) (by omega)
    have f0 : ∀ q j, ¬ (q = a + 1 ∧ j = i) → ¬ (q = a + 2 ∧ j = i) → gI (sI (sI h (a + 1) i (gI h (c + 1) i)) (a + 2) i (gI h (c + 2) i)) q j = gI h q j := fun q j n1 n2 => by
      rw [gI_sI, if_neg n2, gI_sI, if_neg n1]
    refine ⟨g, ?_, ⟨s2, s3, s4⟩, fun q j n1 n2 => ?_, fun j x y => ?_⟩
    · obtain ⟨⟨p1, p2⟩, ⟨p3, p4⟩, ⟨p5, p6⟩, p7, p8⟩ := na
      obtain ⟨⟨u1, u2⟩, ⟨u3, u4⟩, ⟨u5, u6⟩, u7, u8⟩ := nc
      have g2 : gI (sI h (a + 1) i (gI h (c + 1) i)) (c + 2) = gI h (c + 2) := gI_sIn (by omega)
      rw [q_14_2]
      simp (disch := (first | omega | (simp only [kd_sI, kd_sL, kd_sR, kd_cp, kd_aI]; omega) | (unfold catV; exact rfl) | (unfold catS; exact Nat.le_of_ble_eq_true rfl) | assumption)) only [q_14_0, q_14_1, q_14_3, q_14_5_t, q_14_5_f, q_14_8, q_14_9, q_14_12, q_14_13, q_14_14, q_14_17, q_14_18, q_14_19, q_14_20, q_14_21, q_14_24, q_14_25, q_14_26, q_14_29, q_14_30, q_14_31, q_14_32, q_14_35, q_14_39, q_14_40, q_14_43, q_14_46, q_14_47, q_14_48, q_14_51, q_14_54, q_14_55, q_14_56, q_14_59, q_14_62, aft_i, aft_l, aft_v, Int.toNat_natCast, kd_sI, kd_sL, kd_sR, kd_cp, gI_sL, gI_sR, gL_sI, gL_sR, gR_sI, gR_sL, gL_cp, gR_cp, kd_aI, gL_aI, gR_aI, gI_aI, gI_aIn, sI_aI, gI_sIn, Int.reduceToNat, Int.reduceAdd, Int.reduceSub, Int.reduceMul, Int.reduceNeg, Int.zero_add, p7, p8, u7, u8, g2]
      exact e
    · rw [f q j (by omega) (by omega)]
      exact f0 q j (by omega) (by omega)
    · by_cases z : j = i
      · subst z
        rw [f (a + 1) j (by omega) (by omega), f (a + 2) j (by omega) (by omega)]
        exact ⟨by rw [gI_sIn (by omega), gI_sIs], by rw [gI_sIs]⟩
      · have := v j (by omega) y
        rw [this.1, this.2]
        exact ⟨f0 (c + 1) j (by omega) (by omega), f0 (c + 2) j (by omega) (by omega)⟩
theorem wBec_ok (d : Nat) (h : mH) (a c : Nat) (ac : a + 3 ≤ c ∨ c + 3 ≤ a) (na : nAd h a) (nc : nAd h c) : ∃ g, callA (d + 1) 14 [Sum.inr (Sum.inr (some a)), Sum.inr (Sum.inr (some c))] h = some (none, g) ∧ nbF h g a ∧ ∀ T N, tN T ≤ 7 → nM N ≤ 7 → ntA h c T N → ntA g a T N := by
  obtain ⟨g1, e1, ⟨s1, s2, s3⟩, f, v⟩ := wBe_loop d a c ac 7 0 h na nc rfl
  rw [show ((0 : Nat) : Int) = 0 from rfl] at e1
  have na1 := nAd_kp (g := g1) na s1 (by rw [s3])
  have nc1 := nAd_kp (g := g1) nc s1 (by rw [s3])
  refine ⟨sL (sI (sI g1 a 2 (gI h c 2)) a 3 (gI h c 3)) a 4 (gL h c 4), ?_, ⟨s1, s3, fun q k n => ?_, fun q k n => ?_⟩, fun T N c7 n7 m => ?_⟩
  · obtain ⟨⟨p1, p2⟩, ⟨p3, p4⟩, ⟨p5, p6⟩, p7, p8⟩ := na1
    obtain ⟨⟨u1, u2⟩, ⟨u3, u4⟩, ⟨u5, u6⟩, u7, u8⟩ := nc1
    have x2 : gI g1 c 2 = gI h c 2 := f c 2 (by omega) (by omega)
    have x3 : gI (sI g1 a 2 (gI h c 2)) c 3 = gI h c 3 := by rw [gI_sIn (by omega)]; exact f c 3 (by omega) (by omega)
    have x4 : gL g1 c 4 = gL h c 4 := by rw [s2]
    rw [en_14]
    simp (disch := (first | omega | (simp only [kd_sI, kd_sL, kd_sR, kd_cp, kd_aI]; omega) | (unfold catV; exact rfl) | (unfold catS; exact Nat.le_of_ble_eq_true rfl) | assumption)) only [q_14_0, q_14_1, q_14_3, q_14_5_t, q_14_5_f, q_14_8, q_14_9, q_14_12, q_14_13, q_14_14, q_14_17, q_14_18, q_14_19, q_14_20, q_14_21, q_14_24, q_14_25, q_14_26, q_14_29, q_14_30, q_14_31, q_14_32, q_14_35, q_14_39, q_14_40, q_14_43, q_14_46, q_14_47, q_14_48, q_14_51, q_14_54, q_14_55, q_14_56, q_14_59, q_14_62, aft_i, aft_l, aft_v, Int.toNat_natCast, kd_sI, kd_sL, kd_sR, kd_cp, gI_sL, gI_sR, gL_sI, gL_sR, gR_sI, gR_sL, gL_cp, gR_cp, kd_aI, gL_aI, gR_aI, gI_aI, gI_aIn, sI_aI, gI_sIn, Int.reduceToNat, Int.reduceAdd, Int.reduceSub, Int.reduceMul, Int.reduceNeg, Int.zero_add]
    rw [e1]
    simp (disch := (first | omega | (simp only [kd_sI, kd_sL, kd_sR, kd_cp, kd_aI]; omega) | (unfold catV; exact rfl) | (unfold catS; exact Nat.le_of_ble_eq_true rfl) | assumption)) only [q_14_0, q_14_1, q_14_3, q_14_5_t, q_14_5_f, q_14_8, q_14_9, q_14_12, q_14_13, q_14_14, q_14_17, q_14_18, q_14_19, q_14_20, q_14_21, q_14_24, q_14_25, q_14_26, q_14_29, q_14_30, q_14_31, q_14_32, q_14_35, q_14_38, q_14_39, q_14_40, q_14_43, q_14_46, q_14_47, q_14_48, q_14_51, q_14_54, q_14_55, q_14_56, q_14_59, q_14_62, aft_i, aft_l, aft_v, Int.toNat_natCast, kd_sI, kd_sL, kd_sR, kd_cp, gI_sL, gI_sR, gL_sI, gL_sR, gR_sI, gR_sL, gL_cp, gR_cp, kd_aI, gL_aI, gR_aI, gI_aI, gI_aIn, sI_aI, gI_sIn, Int.reduceToNat, Int.reduceAdd, Int.reduceSub, Int.reduceMul, Int.reduceNeg, Int.zero_add, x2, x3, x4]
  · show gI (sI (sI g1 a 2 (gI h c 2)) a 3 (gI h c 3)) q k = gI h q k
    rw [gI_sIn (by omega), gI_sIn (by omega)]
    exact f q k (by omega) (by omega)
  · rw [gL_sL, if_neg (fun y => n y.1)]
    show gL g1 q k = gL h q k
    rw [s2]
  · obtain ⟨m1, m2, m3, m4, m5⟩ := m
    refine ⟨?_, ?_, ?_, fun i hi => ?_, fun j hj => ?_⟩
    · show gI (sI (sI g1 a 2 (gI h c 2)) a 3 (gI h c 3)) a 2 = _
      rw [gI_sIo (by omega), gI_sIs]; exact m1
    · show gI (sI (sI g1 a 2 (gI h c 2)) a 3 (gI h c 3)) a 3 = _
      rw [gI_sIs]; exact m2
    · rw [gL_sLs]; exact m3
    · show gI (sI (sI g1 a 2 (gI h c 2)) a 3 (gI h c 3)) (a + 1) i = _
      rw [gI_sIn (by omega), gI_sIn (by omega), (v i (Nat.zero_le _) (by omega)).1]; exact m4 i hi
    · show gI (sI (sI g1 a 2 (gI h c 2)) a 3 (gI h c 3)) (a + 2) j = _
      rw [gI_sIn (by omega), gI_sIn (by omega), (v j (Nat.zero_le _) (by omega)).2]; exact m5 j hj
