theorem imR {h : mH} (L : LAY h) {i : Nat} (hi : i < 2) : gR h 48 i = some (49 + 35 * i) := by
  have : i = 0 ∨ i = 1 := by omega
  rcases this with e | e <;> subst e <;> exact lay_r L rfl
theorem imB {i : Nat} (hi : i < 2) : sB (49 + 35 * i) := by unfold sB; omega
theorem cKeep_ok (d : Nat) (h : mH) (L : LAY h) (σ : Sg) (w : wfS σ) (c : CI h σ) (i : Int) : cOK (d + 3) 88 [Sum.inl i] h (Sum.inl (keeS σ i).1) (keeS σ i).2 := by
  have L0 := L
  unfold keeS
  by_cases z : 0 ≤ i ∧ i ≤ 1
  · rw [if_pos z]
    obtain ⟨j, rfl⟩ : ∃ j : Nat, i = j := ⟨i.toNat, by omega⟩
    rw [Int.toNat_natCast]
    have hj : j < 2 := by omega
    have cc := c
    obtain ⟨⟨m1, ⟨π, m2⟩, m3, m4, m5, m6, m7, m8⟩, c3, c4⟩ := c
    obtain ⟨⟨ρ, pρ⟩, a2, a3⟩ := m3 j hj
    obtain ⟨g1, e1, r1, s1, k1⟩ := wSbe_ok d (49 + 35 * j) 13 (imB hj) (Or.inl rfl) (by omega) (zT σ) (zN σ) (zP σ) w.1 w.2.1 ρ π h L pρ m2
    have L1 : LAY g1 := lay_keep L r1.1 r1.2.1
    have eI : ∀ q k, ¬ (49 + 35 * j ≤ q ∧ q ≤ 49 + 35 * j + 34) → gI (sI g1 (49 + 35 * j) 3 1) q k = gI h q k := fun q k n => by
      rw [gI_sI, if_neg (by omega)]
      exact r1.2.2.1 q k n
    have eL : ∀ q k, ¬ (49 + 35 * j ≤ q ∧ q ≤ 49 + 35 * j + 34) → gL (sI g1 (49 + 35 * j) 3 1) q k = gL h q k := fun q k n => r1.2.2.2 q k n
    have eR : gR (sI g1 (49 + 35 * j) 3 1) = gR h := r1.2.1
    have sj : scA (sI g1 (49 + 35 * j) 3 1) (49 + 35 * j) ρ (zT σ) (zN σ) (zP σ) := by
      obtain ⟨x1, x2, x3, x4, x5⟩ := s1
      exact ⟨x1, ntA_s (by omega) x2, by rw [gI_sIo (by omega)]; exact x3, x4, fun k q => ntA_s (by omega) (x5 k q)⟩
    refine ⟨sI g1 (49 + 35 * j) 3 1, ?_, ⟨r1.1, fun q hq => ⟨funext fun k => eI q k (by omega), funext fun k => eL q k (by omega), by rw [eR]⟩⟩, lay_sI L1 _ _ _, ⟨?_, ⟨π, scA_cg (fun q k x y => eI q k (by omega)) (fun q k x y => eL q k (by omega)) (fun k => by rw [eR]) m2⟩, fun k hk => ?_, ?_, fun k q => ?_, ?_, fun k q => ?_, ?_⟩, ?_, ?_⟩
    · obtain ⟨⟨u1, u2⟩, -⟩ := scK L (imB hj)
      obtain ⟨⟨v1, v2⟩, -⟩ := scK L1 (imB hj)
      have q1 := imR L hj
      have q2 := imR L1 hj
      obtain ⟨w1, w2⟩ := lay_k L1 (a := 0) (t := 7) (n := 17) rfl
      obtain ⟨w3, w4⟩ := lay_k L1 (a := 48) (t := 104) (n := 2) rfl
      obtain ⟨w5, w6⟩ := lay_k L1 (a := 13) (t := 4) (n := 4) rfl
      obtain ⟨w7, w8⟩ := lay_k L1 (a := 14) (t := 2) (n := 5) rfl
      have x1 : gR g1 0 4 = some 48 := lay_r L1 rfl
      have x2 : gR g1 0 3 = some 13 := lay_r L1 rfl
      have x3 : gR g1 13 0 = some 14 := lay_r L1 rfl
      have x4 : gI (sI g1 (49 + 35 * j) 3 1) 14 2 = nM (zN σ) := by rw [eI 14 2 (by omega)]; exact m2.2.1.1
      have k0' : ((j : Int)).toNat = j := Int.toNat_natCast j
      obtain ⟨k0, j0⟩ := lay_k L0 (a := 0) (t := 7) (n := 17) rfl; obtain ⟨k13, j13⟩ := lay_k L0 (a := 13) (t := 4) (n := 4) rfl; obtain ⟨k48, j48⟩ := lay_k L0 (a := 48) (t := 104) (n := 2) rfl; have r0_3 : gR h 0 3 = some 13 := lay_r L0 rfl; have r0_4 : gR h 0 4 = some 48 := lay_r L0 rfl
      rw [en_88]
      simp (disch := (first | omega | (simp only [kd_sI, kd_sL, kd_sR, kd_cp, kd_aI]; omega) | (unfold catV; exact rfl) | (unfold catS; exact Nat.le_of_ble_eq_true rfl) | assumption)) only [q_88_0, q_88_1_t, q_88_1_f, q_88_4, q_88_5, q_88_6_t, q_88_6_f, q_88_9, q_88_10, q_88_11, q_88_12, q_88_15, q_88_16, q_88_17, q_88_18, q_88_21, q_88_24, q_88_25, q_88_28, q_88_29, q_88_30, q_88_31, q_88_34, q_88_35, q_88_38, q_88_41, q_88_44, aft_i, aft_l, aft_v, Int.toNat_natCast, kd_sI, kd_sL, kd_sR, kd_cp, gI_sL, gI_sR, gL_sI, gL_sR, gR_sI, gR_sL, gL_cp, gR_cp, kd_aI, gL_aI, gR_aI, gI_aI, gI_aIn, sI_aI, gI_sIn, Int.reduceToNat, Int.reduceAdd, Int.reduceSub, Int.reduceMul, Int.reduceNeg, Int.zero_add, r0_3, r0_4, q1, e1, x1, x2, x3, q2, x4]
    · obtain ⟨a1, a2, a3, a4, a5, a6⟩ := m1
      refine ⟨?_, ?_, ?_, ?_, fun c hc => ?_, fun k hk => ?_⟩
      · rw [eI 3 4 (by omega)]; exact a1
      · rw [eI 3 5 (by omega)]; exact a2
      · rw [eI 3 6 (by omega)]; exact a3
      · rw [eI 3 7 (by omega)]; exact a4
      · rw [eI 5 c (by omega), eI 6 c (by omega)]; exact a5 c hc
      · rw [eI 7 k (by omega)]; exact a6 k hk
    · by_cases y : k = j
      · subst y
        refine ⟨⟨ρ, sj.1⟩, ?_, fun N P e => ?_⟩
        · have e1 : zI (zim σ (upM (zI σ) k (some (zN σ, zP σ)))) k = some (zN σ, zP σ) := if_pos rfl
          rw [e1, gI_sIs]; rfl
        · have e1 : zI (zim σ (upM (zI σ) k (some (zN σ, zP σ)))) k = some (zN σ, zP σ) := if_pos rfl
          rw [e1] at e
          injection e with e
          injection e with e2 e3
          subst e2
          subst e3
          exact ⟨ρ, sj⟩
      · have e1 : zI (zim σ (upM (zI σ) j (some (zN σ, zP σ)))) k = zI σ k := if_neg y
        obtain ⟨⟨τ, b1⟩, b2, b3⟩ := m3 k hk
        rw [e1]
        refine ⟨⟨τ, fun l hl => ⟨(b1.1 l hl).1, by rw [eR]; exact (b1.1 l hl).2⟩, b1.2⟩, ?_, fun N P e => ?_⟩
        · rw [eI _ 3 (by omega)]; exact b2
        · obtain ⟨τ, x⟩ := b3 N P e
          exact ⟨τ, scA_cg (fun q k x y => eI q k (by omega)) (fun q k x y => eL q k (by omega)) (fun k => by rw [eR]) x⟩
    · rw [eI 0 13 (by omega)]; exact m4
    · rw [eI 137 k (by omega), eI 138 k (by omega)]; exact m5 k q
    · rw [eI 1 1 (by omega)]; exact m6
    · rw [eI 2 k (by omega)]; exact m7 k q
    · rw [eL 0 14 (by omega)]; exact ⟨m8.1, brR_e eR m8.2⟩
    · obtain ⟨b1, b2, b3, b4⟩ := c3
      refine ⟨fun k hk => ?_, ?_, ?_, fun w k x y f => ?_⟩
      · rw [eI 128 k (by omega)]; exact b1 k hk
      · rw [eI 0 7 (by omega)]; exact b2
      · rw [eI 119 1 (by omega)]; exact b3
      · rw [eI (121 + w) k (by omega)]; exact b4 w k x y f
    · rcases c4 with b0 | ⟨b0, b, b1, b2, b3, b4, b5⟩
      · left
        rw [eI 0 9 (by omega)]; exact b0
      · right
        refine ⟨?_, b, b1, ?_, ?_, ?_, rwO_congr (fun i hi => eI 130 _ (by omega)) b5⟩
        · rw [eI 0 9 (by omega)]; exact b0
        · rw [eI 129 1 (by omega)]; exact b2
        · rw [eI 129 2 (by omega)]; exact b3
        · rw [eI 129 1 (by omega), eI 129 3 (by omega)]; exact b4
  · rw [if_neg z]
    refine cOK_s L c ?_
    rw [en_88]
    by_cases y : i < 0
    · simp (disch := (first | omega | (simp only [kd_sI, kd_sL, kd_sR, kd_cp, kd_aI]; omega) | (unfold catV; exact rfl) | (unfold catS; exact Nat.le_of_ble_eq_true rfl) | assumption)) only [q_88_0, q_88_1_t, q_88_1_f, q_88_4, q_88_5, q_88_6_t, q_88_6_f, q_88_9, q_88_10, q_88_11, q_88_12, q_88_15, q_88_16, q_88_17, q_88_18, q_88_21, q_88_24, q_88_25, q_88_28, q_88_29, q_88_30, q_88_31, q_88_34, q_88_35, q_88_38, q_88_41, q_88_44, aft_i, aft_l, aft_v, Int.toNat_natCast, kd_sI, kd_sL, kd_sR, kd_cp, gI_sL, gI_sR, gL_sI, gL_sR, gR_sI, gR_sL, gL_cp, gR_cp, kd_aI, gL_aI, gR_aI, gI_aI, gI_aIn, sI_aI, gI_sIn, Int.reduceToNat, Int.reduceAdd, Int.reduceSub, Int.reduceMul, Int.reduceNeg, Int.zero_add]
    · simp (disch := (first | omega | (simp only [kd_sI, kd_sL, kd_sR, kd_cp, kd_aI]; omega) | (unfold catV; exact rfl) | (unfold catS; exact Nat.le_of_ble_eq_true rfl) | assumption)) only [q_88_0, q_88_1_t, q_88_1_f, q_88_4, q_88_5, q_88_6_t, q_88_6_f, q_88_9, q_88_10, q_88_11, q_88_12, q_88_15, q_88_16, q_88_17, q_88_18, q_88_21, q_88_24, q_88_25, q_88_28, q_88_29, q_88_30, q_88_31, q_88_34, q_88_35, q_88_38, q_88_41, q_88_44, aft_i, aft_l, aft_v, Int.toNat_natCast, kd_sI, kd_sL, kd_sR, kd_cp, gI_sL, gI_sR, gL_sI, gL_sR, gR_sI, gR_sL, gL_cp, gR_cp, kd_aI, gL_aI, gR_aI, gI_aI, gI_aIn, sI_aI, gI_sIn, Int.reduceToNat, Int.reduceAdd, Int.reduceSub, Int.reduceMul, Int.reduceNeg, Int.zero_add]
theorem cBack_ok (d : Nat) (h : mH) (L : LAY h) (σ : Sg) (w : wfS σ) (c : CI h σ) (i : Int) : cOK (d + 4) 89 [Sum.inl i] h (Sum.inl (bacS σ i).1) (bacS σ i).2 := by
  have L0 := L
  unfold bacS
  by_cases z : 0 ≤ i ∧ i ≤ 1
  · rw [if_pos z]
    obtain ⟨j, rfl⟩ : ∃ j : Nat, i = j := ⟨i.toNat, by omega⟩
    rw [Int.toNat_natCast]
    have hj : j < 2 := by omega
    obtain ⟨⟨ρ, pρ⟩, a2, a3⟩ := c.1.2.2.1 j hj
    obtain ⟨⟨u1, u2⟩, -⟩ := scK L (imB hj)
    have q1 := imR L hj
    cases hI : zI σ j with
    | none =>
      rw [hI] at a2
      have a2 : gI h (49 + 35 * j) 3 = 0 := a2
      refine cOK_s L c ?_
      obtain ⟨k0, j0⟩ := lay_k L0 (a := 0) (t := 7) (n := 17) rfl; obtain ⟨k48, j48⟩ := lay_k L0 (a := 48) (t := 104) (n := 2) rfl; have r0_4 : gR h 0 4 = some 48 := lay_r L0 rfl
      rw [en_89]
      simp (disch := (first | omega | (simp only [kd_sI, kd_sL, kd_sR, kd_cp, kd_aI]; omega) | (unfold catV; exact rfl) | (unfold catS; exact Nat.le_of_ble_eq_true rfl) | assumption)) only [q_89_0, q_89_1_t, q_89_1_f, q_89_4, q_89_5, q_89_6_t, q_89_6_f, q_89_9, q_89_10, q_89_11, q_89_12, q_89_15, q_89_16, q_89_17, q_89_20_t, q_89_20_f, q_89_23, q_89_25, q_89_26, q_89_27, q_89_30, q_89_31, q_89_34, q_89_35, q_89_36, q_89_39, q_89_40, q_89_43, q_89_44, q_89_47, q_89_50, q_89_53, aft_i, aft_l, aft_v, Int.toNat_natCast, kd_sI, kd_sL, kd_sR, kd_cp, gI_sL, gI_sR, gL_sI, gL_sR, gR_sI, gR_sL, gL_cp, gR_cp, kd_aI, gL_aI, gR_aI, gI_aI, gI_aIn, sI_aI, gI_sIn, Int.reduceToNat, Int.reduceAdd, Int.reduceSub, Int.reduceMul, Int.reduceNeg, Int.zero_add, r0_4, q1, a2]
    | some NP =>
      obtain ⟨N, P⟩ := NP
      rw [hI] at a2
      have a2 : gI h (49 + 35 * j) 3 = 1 := a2
      obtain ⟨τ, sI⟩ := a3 N P hI
      obtain ⟨π, m2⟩ := c.1.2.1
      obtain ⟨wP, lP⟩ := w.2.2.1 j N P hj hI
      obtain ⟨g1, e1, r1, s1, k1⟩ := wSbe_ok (d + 1) 13 (49 + 35 * j) (Or.inl rfl) (imB hj) (by omega) (zT σ) N P w.1 wP π τ h L m2.1 sI
      have L1 : LAY g1 := lay_keep L r1.1 r1.2.1
      have lv : lvF h g1 ∨ True := Or.inr trivial
      have x3 : gI g1 13 3 = gI h 13 3 := k1
      have c0 : CI0 g1 (zev σ N P) := by
        obtain ⟨m1, -, m3, m4, m5, m6, m7, m8⟩ := c.1
        have eI : ∀ q k, ¬ (13 ≤ q ∧ q ≤ 47) → gI g1 q k = gI h q k := fun q k n => r1.2.2.1 q k n
        have eL : ∀ q k, ¬ (13 ≤ q ∧ q ≤ 47) → gL g1 q k = gL h q k := fun q k n => r1.2.2.2 q k n
        refine ⟨?_, ⟨π, s1⟩, fun k hk => ?_, ?_, fun k q => ?_, ?_, fun k q => ?_, ?_⟩
        · obtain ⟨a1, a2, a3, a4, a5, a6⟩ := m1
          refine ⟨?_, ?_, ?_, ?_, fun c hc => ?_, fun k hk => ?_⟩
          · rw [eI 3 4 (by omega)]; exact a1
          · rw [eI 3 5 (by omega)]; exact a2
          · rw [eI 3 6 (by omega)]; exact a3
          · rw [eI 3 7 (by omega)]; exact a4
          · rw [eI 5 c (by omega), eI 6 c (by omega)]; exact a5 c hc
          · rw [eI 7 k (by omega)]; exact a6 k hk
        · obtain ⟨⟨θ, b1⟩, b2, b3⟩ := m3 k hk
          refine ⟨⟨θ, fun l hl => ⟨(b1.1 l hl).1, by rw [r1.2.1]; exact (b1.1 l hl).2⟩, b1.2⟩, ?_, fun N P e => ?_⟩
          · rw [eI _ 3 (by omega)]; exact b2
          · obtain ⟨θ, x⟩ := b3 N P e
            exact ⟨θ, scA_cg (fun q k x y => eI q k (by omega)) (fun q k x y => eL q k (by omega)) (fun k => by rw [r1.2.1]) x⟩
        · rw [eI 0 13 (by omega)]; exact m4
        · rw [eI 137 k (by omega), eI 138 k (by omega)]; exact m5 k q
        · rw [eI 1 1 (by omega)]; exact m6
        · rw [eI 2 k (by omega)]; exact m7 k q
        · rw [eL 0 14 (by omega)]; exact ⟨m8.1, brR_e r1.2.1 m8.2⟩
      obtain ⟨g, e3, q3, Lg, cg⟩ := settle_CI d g1 L1 (zev σ N P) (wfS_ev w wP lP) c0
      refine ⟨g, ?_, frm_tr ⟨r1.1, fun q hq => ⟨funext fun k => r1.2.2.1 q k (by omega), funext fun k => r1.2.2.2 q k (by omega), by rw [r1.2.1]⟩⟩ (qt_frm q3), Lg, cg⟩
      have ng : gI g 14 2 = nM N := (CI_q cg).2.1.1
      obtain ⟨w1, w2⟩ := lay_k L1 (a := 0) (t := 7) (n := 17) rfl
      obtain ⟨t1, t2⟩ := lay_k Lg (a := 0) (t := 7) (n := 17) rfl
      obtain ⟨t3, t4⟩ := lay_k Lg (a := 13) (t := 4) (n := 4) rfl
      obtain ⟨t5, t6⟩ := lay_k Lg (a := 14) (t := 2) (n := 5) rfl
      have y1 : gR g 0 3 = some 13 := lay_r Lg rfl
      have y2 : gR g 13 0 = some 14 := lay_r Lg rfl
      obtain ⟨k0, j0⟩ := lay_k L0 (a := 0) (t := 7) (n := 17) rfl; obtain ⟨k13, j13⟩ := lay_k L0 (a := 13) (t := 4) (n := 4) rfl; obtain ⟨k48, j48⟩ := lay_k L0 (a := 48) (t := 104) (n := 2) rfl; have r0_3 : gR h 0 3 = some 13 := lay_r L0 rfl; have r0_4 : gR h 0 4 = some 48 := lay_r L0 rfl
      rw [en_89]
      simp (disch := (first | omega | (simp only [kd_sI, kd_sL, kd_sR, kd_cp, kd_aI]; omega) | (unfold catV; exact rfl) | (unfold catS; exact Nat.le_of_ble_eq_true rfl) | assumption)) only [q_89_0, q_89_1_t, q_89_1_f, q_89_4, q_89_5, q_89_6_t, q_89_6_f, q_89_9, q_89_10, q_89_11, q_89_12, q_89_15, q_89_16, q_89_17, q_89_20_t, q_89_20_f, q_89_23, q_89_25, q_89_26, q_89_27, q_89_30, q_89_31, q_89_34, q_89_35, q_89_36, q_89_39, q_89_40, q_89_43, q_89_44, q_89_47, q_89_50, q_89_53, aft_i, aft_l, aft_v, Int.toNat_natCast, kd_sI, kd_sL, kd_sR, kd_cp, gI_sL, gI_sR, gL_sI, gL_sR, gR_sI, gR_sL, gL_cp, gR_cp, kd_aI, gL_aI, gR_aI, gI_aI, gI_aIn, sI_aI, gI_sIn, Int.reduceToNat, Int.reduceAdd, Int.reduceSub, Int.reduceMul, Int.reduceNeg, Int.zero_add, r0_3, r0_4, q1, a2, e1, e3, y1, y2, ng]
  · rw [if_neg z]
    refine cOK_s L c ?_
    rw [en_89]
    by_cases y : i < 0
    · simp (disch := (first | omega | (simp only [kd_sI, kd_sL, kd_sR, kd_cp, kd_aI]; omega) | (unfold catV; exact rfl) | (unfold catS; exact Nat.le_of_ble_eq_true rfl) | assumption)) only [q_89_0, q_89_1_t, q_89_1_f, q_89_4, q_89_5, q_89_6_t, q_89_6_f, q_89_9, q_89_10, q_89_11, q_89_12, q_89_15, q_89_16, q_89_17, q_89_20_t, q_89_20_f, q_89_23, q_89_25, q_89_26, q_89_27, q_89_30, q_89_31, q_89_34, q_89_35, q_89_36, q_89_39, q_89_40, q_89_43, q_89_44, q_89_47, q_89_50, q_89_53, aft_i, aft_l, aft_v, Int.toNat_natCast, kd_sI, kd_sL, kd_sR, kd_cp, gI_sL, gI_sR, gL_sI, gL_sR, gR_sI, gR_sL, gL_cp, gR_cp, kd_aI, gL_aI, gR_aI, gI_aI, gI_aIn, sI_aI, gI_sIn, Int.reduceToNat, Int.reduceAdd, Int.reduceSub, Int.reduceMul, Int.reduceNeg, Int.zero_add]
    · simp (disch := (first | omega | (simp only [kd_sI, kd_sL, kd_sR, kd_cp, kd_aI]; omega) | (unfold catV; exact rfl) | (unfold catS; exact Nat.le_of_ble_eq_true rfl) | assumption)) only [q_89_0, q_89_1_t, q_89_1_f, q_89_4, q_89_5, q_89_6_t, q_89_6_f, q_89_9, q_89_10, q_89_11, q_89_12, q_89_15, q_89_16, q_89_17, q_89_20_t, q_89_20_f, q_89_23, q_89_25, q_89_26, q_89_27, q_89_30, q_89_31, q_89_34, q_89_35, q_89_36, q_89_39, q_89_40, q_89_43, q_89_44, q_89_47, q_89_50, q_89_53, aft_i, aft_l, aft_v, Int.toNat_natCast, kd_sI, kd_sL, kd_sR, kd_cp, gI_sL, gI_sR, gL_sI, gL_sR, gR_sI, gR_sL, gL_cp, gR_cp, kd_aI, gL_aI, gR_aI, gI_aI, gI_aIn, sI_aI, gI_sIn, Int.reduceToNat, Int.reduceAdd, Int.reduceSub, Int.reduceMul, Int.reduceNeg, Int.zero_add]
