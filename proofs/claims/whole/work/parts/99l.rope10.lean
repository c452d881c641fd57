theorem wSrh_ok (d : Nat) (T : Td) (N : Nt) (wT : wfT T) (wN : wfN T N) (h : mH) (L : LAY h) (nt : ntA h 14 T N) (br : brR h) : ∃ g, callA (d + 4) 9 [Sum.inr (Sum.inr (some 133)), Sum.inr (Sum.inr (some 14)), Sum.inl (tK T : Int)] h = some (some (Sum.inl (fwS T N (nV N) : Int)), g) ∧ rpG h g ∧ brR g ∧ LAY g ∧ (fwS T N (nV N) ≤ 3 → ∀ j (q : j < (grd (fwS T N) (tK T) 0 (nV N) (fwS T N (nV N))).length), gI g 134 j = (grd (fwS T N) (tK T) 0 (nV N) (fwS T N (nV N)))[j]) := by
  have L0 := L
  have hV := wN.2.2.2.2.2.2
  have k4 := wT.2.1
  have n3 : gL h 14 4 = nV N := nt.2.2.1
  obtain ⟨g, e1, f, b⟩ := wFew_ok d T N wT wN (nV N) (tK T) hV k4 h L nt br
  have e1 : callA (d + 3) 10 [Sum.inr (Sum.inr (some 133)), Sum.inr (Sum.inr (some 14)), Sum.inr (Sum.inl (nV N : Int)), Sum.inl (tK T : Int)] h = some (some (Sum.inl (fwS T N (nV N) : Int)), g) := e1
  have Lg := rpF_L f L
  have ng := rpF_nt f nt
  by_cases z : fwS T N (nV N) ≤ 3
  · obtain ⟨g2, e2, r2, b2, L2, -, v⟩ := wSr_l d T N wT wN (tK T) (fwS T N (nV N)) k4 z (tK T) 0 (nV N) (fwS T N (nV N)) 0 g Lg (Sum.inr (Sum.inr none)) (Sum.inr (Sum.inr none)) (Nat.zero_add _) hV (Nat.zero_add _) ng b
    refine ⟨g2, ?_, rpG_tr (rpG_F f) r2, b2, L2, fun _ j q => ?_⟩
    · have z2 : ¬ (3 : Int) < (fwS T N (nV N) : Int) := by omega
      have z3 : (fwS T N (nV N) : Int) ≤ 3 := by omega
      have g3 : gL g 14 4 = nV N := ng.2.2.1
      have kg1 : (kd g 14).1 = 2 := lay_k Lg (a := 14) (t := 2) (n := 5) rfl |>.1
      have kg2 : (kd g 14).2 = 5 := lay_k Lg (a := 14) (t := 2) (n := 5) rfl |>.2
      obtain ⟨k133, j133⟩ := lay_k L0 (a := 133) (t := 1) (n := 3) rfl; obtain ⟨k14, j14⟩ := lay_k L0 (a := 14) (t := 2) (n := 5) rfl
      rw [en_9]
      simp (disch := (first | omega | (simp only [kd_sI, kd_sL, kd_sR, kd_cp, kd_aI]; omega) | (unfold catV; exact rfl) | (unfold catS; exact Nat.le_of_ble_eq_true rfl) | assumption)) only [q_9_0, q_9_1, q_9_2, q_9_3, q_9_6, q_9_7, q_9_10, q_9_11, q_9_12, q_9_13_t, q_9_13_f, q_9_16, q_9_17, q_9_18, q_9_19, q_9_22, q_9_24, q_9_25, q_9_27, q_9_28, q_9_32, q_9_33_t, q_9_33_f, q_9_36, q_9_38, q_9_39_t, q_9_39_f, q_9_42, q_9_44, q_9_45, q_9_47, q_9_48, q_9_51, q_9_52, q_9_53, q_9_55, q_9_57, q_9_59, q_9_60_t, q_9_60_f, q_9_63, q_9_64, q_9_65, q_9_67, q_9_68, q_9_71, q_9_72, q_9_74, q_9_75_t, q_9_75_f, q_9_78, q_9_79, q_9_82, q_9_84, q_9_86, q_9_87, q_9_90, q_9_92, q_9_94, q_9_97, q_9_100, q_9_101, aft_i, aft_l, aft_v, Int.toNat_natCast, kd_sI, kd_sL, kd_sR, kd_cp, gI_sL, gI_sR, gL_sI, gL_sR, gR_sI, gR_sL, gL_cp, gR_cp, kd_aI, gL_aI, gR_aI, gI_aI, gI_aIn, sI_aI, gI_sIn, Int.reduceToNat, Int.reduceAdd, Int.reduceSub, Int.reduceMul, Int.reduceNeg, Int.zero_add, n3, e1, g3]
      exact e2
    · have := v j q
      rw [Nat.zero_add] at this
      exact this
  · refine ⟨g, ?_, rpG_F f, b, Lg, fun y => absurd y z⟩
    have z2 : ¬ (fwS T N (nV N) : Int) ≤ 3 := by omega
    obtain ⟨k133, j133⟩ := lay_k L0 (a := 133) (t := 1) (n := 3) rfl; obtain ⟨k14, j14⟩ := lay_k L0 (a := 14) (t := 2) (n := 5) rfl
    rw [en_9]
    simp (disch := (first | omega | (simp only [kd_sI, kd_sL, kd_sR, kd_cp, kd_aI]; omega) | (unfold catV; exact rfl) | (unfold catS; exact Nat.le_of_ble_eq_true rfl) | assumption)) only [q_9_0, q_9_1, q_9_2, q_9_3, q_9_6, q_9_7, q_9_10, q_9_11, q_9_12, q_9_13_t, q_9_13_f, q_9_16, q_9_17, q_9_18, q_9_19, q_9_22, q_9_24, q_9_25, q_9_27, q_9_28, q_9_32, q_9_33_t, q_9_33_f, q_9_36, q_9_38, q_9_39_t, q_9_39_f, q_9_42, q_9_44, q_9_45, q_9_47, q_9_48, q_9_51, q_9_52, q_9_53, q_9_55, q_9_57, q_9_59, q_9_60_t, q_9_60_f, q_9_63, q_9_64, q_9_65, q_9_67, q_9_68, q_9_71, q_9_72, q_9_74, q_9_75_t, q_9_75_f, q_9_78, q_9_79, q_9_82, q_9_84, q_9_86, q_9_87, q_9_90, q_9_92, q_9_94, q_9_97, q_9_100, q_9_101, aft_i, aft_l, aft_v, Int.toNat_natCast, kd_sI, kd_sL, kd_sR, kd_cp, gI_sL, gI_sR, gL_sI, gL_sR, gR_sI, gR_sL, gL_cp, gR_cp, kd_aI, gL_aI, gR_aI, gI_aI, gI_aIn, sI_aI, gI_sIn, Int.reduceToNat, Int.reduceAdd, Int.reduceSub, Int.reduceMul, Int.reduceNeg, Int.zero_add, n3, e1]
theorem rpG_CI {h g : mH} {σ : Sg} (f : rpG h g) (b : brR g) (c : CI h σ) : CI g σ := by
  obtain ⟨c1, ⟨c2, c3, c4, c5⟩, c6⟩ := c
  refine ⟨qt_CI0 (rpG_qt f b) c1, ⟨fun c hc => ?_, ?_, ?_, fun w k a b d => ?_⟩, ?_⟩
  · rw [f.2.1 128 c (by omega)]; exact c2 c hc
  · rw [f.2.1 0 7 (by omega)]; exact c3
  · rw [f.2.1 119 1 (by omega)]; exact c4
  · rw [f.2.1 (121 + w) k (by omega)]; exact c5 w k a b d
  · unfold bKn at *
    rw [f.2.1 0 9 (by omega), f.2.1 129 1 (by omega), f.2.1 129 2 (by omega), f.2.1 129 3 (by omega)]
    rcases c6 with c6 | ⟨c6, b1, b2, b3, b4, b5, b6⟩
    · exact Or.inl c6
    · refine Or.inr ⟨c6, b1, b2, b3, b4, b5, ?_⟩
      have e : gI g 130 = gI h 130 := funext (fun k => f.2.1 130 k (by omega))
      rw [e]
      exact b6
theorem frm_of_rpG {h g : mH} (f : rpG h g) : frm 0 141 h g := by
  refine ⟨f.1, fun q n => ⟨funext (fun k => f.2.1 q k (by omega)), by rw [f.2.2.1], funext (fun k => f.2.2.2 q k (by omega))⟩⟩
theorem cRopes_ok (d : Nat) (h : mH) (L : LAY h) (σ : Sg) (w : wfS σ) (c : CI h σ) (what : Int) : cOK (d + 5) 80 [Sum.inl what] h (Sum.inl (ropesS (zT σ) (zN σ) what)) σ := by
  have L0 := L
  have wT := w.1
  have wN := w.2.1.1
  have q := CI_q c
  have br : brR h := c.1.2.2.2.2.2.2.2.2
  have t5 : gI h 3 5 = tK (zT σ) := q.1.2.1
  unfold ropesS
  by_cases hw : 0 ≤ what ∧ what ≤ 3
  · rw [if_pos hw]
    obtain ⟨g, e1, f, b, Lg, v⟩ := wSrh_ok d (zT σ) (zN σ) wT wN h L q.2.1 br
    have fin : ∀ r : Int, callA (d + 5) 80 [Sum.inr (Sum.inr (some 0)), Sum.inl what] h = some (some (Sum.inl r), g) → cOK (d + 5) 80 [Sum.inl what] h (Sum.inl r) σ := fun r e => ⟨g, e, frm_of_rpG f, Lg, rpG_CI f b c⟩
    apply fin
    have h1 : ¬ what < 0 := by omega
    have h2 : what ≤ 3 := hw.2
    have fo := fw_out wT wN
    have r3 : gR g 0 10 = some 133 := lay_r Lg rfl
    have r4 : gR g 133 0 = some 134 := lay_r Lg rfl
    have g1 : (kd g 0).1 = 7 := lay_k Lg (a := 0) (t := 7) (n := 17) rfl |>.1
    have g2 : (kd g 0).2 = 17 := lay_k Lg (a := 0) (t := 7) (n := 17) rfl |>.2
    have g3 : (kd g 133).1 = 1 := lay_k Lg (a := 133) (t := 1) (n := 3) rfl |>.1
    have g4 : (kd g 133).2 = 3 := lay_k Lg (a := 133) (t := 1) (n := 3) rfl |>.2
    have g5 : (kd g 134).1 = 100 := lay_k Lg (a := 134) (t := 100) (n := 3) rfl |>.1
    have g6 : (kd g 134).2 = 3 := lay_k Lg (a := 134) (t := 100) (n := 3) rfl |>.2
    obtain ⟨k0, j0⟩ := lay_k L0 (a := 0) (t := 7) (n := 17) rfl; obtain ⟨k3, j3⟩ := lay_k L0 (a := 3) (t := 6) (n := 8) rfl; obtain ⟨k13, j13⟩ := lay_k L0 (a := 13) (t := 4) (n := 4) rfl; obtain ⟨k14, j14⟩ := lay_k L0 (a := 14) (t := 2) (n := 5) rfl; obtain ⟨k133, j133⟩ := lay_k L0 (a := 133) (t := 1) (n := 3) rfl; have r0_10 : gR h 0 10 = some 133 := lay_r L0 rfl; have r0_3 : gR h 0 3 = some 13 := lay_r L0 rfl; have r0_1 : gR h 0 1 = some 3 := lay_r L0 rfl; have r13_0 : gR h 13 0 = some 14 := lay_r L0 rfl
    rw [en_80]
    by_cases z : fwS (zT σ) (zN σ) (nV (zN σ)) = 0
    · rw [if_pos (fo.mp z)]
      rw [z] at e1
      by_cases y : what = 0
      · subst y
        rw [if_pos rfl]
        simp (disch := (first | omega | (simp only [kd_sI, kd_sL, kd_sR, kd_cp, kd_aI]; omega) | (unfold catV; exact rfl) | (unfold catS; exact Nat.le_of_ble_eq_true rfl) | assumption)) only [q_80_0, q_80_1_t, q_80_1_f, q_80_4, q_80_5, q_80_6_t, q_80_6_f, q_80_9, q_80_10, q_80_11, q_80_12, q_80_15, q_80_16, q_80_19, q_80_22, q_80_23, q_80_26, q_80_29, q_80_32, q_80_33, q_80_34, q_80_35_t, q_80_35_f, q_80_38, q_80_40, q_80_41, q_80_42_t, q_80_42_f, q_80_45, q_80_46, q_80_47, q_80_48, q_80_49_t, q_80_49_f, q_80_52, q_80_53, q_80_56, q_80_59, q_80_60, q_80_61, q_80_62, q_80_63, q_80_66, q_80_68, aft_i, aft_l, aft_v, Int.toNat_natCast, kd_sI, kd_sL, kd_sR, kd_cp, gI_sL, gI_sR, gL_sI, gL_sR, gR_sI, gR_sL, gL_cp, gR_cp, kd_aI, gL_aI, gR_aI, gI_aI, gI_aIn, sI_aI, gI_sIn, Int.reduceToNat, Int.reduceAdd, Int.reduceSub, Int.reduceMul, Int.reduceNeg, Int.zero_add, r0_10, r0_3, r0_1, r13_0, e1, t5]
        rfl
      · rw [if_neg y]
        have y2 : ¬ what ≤ 0 := by omega
        simp (disch := (first | omega | (simp only [kd_sI, kd_sL, kd_sR, kd_cp, kd_aI]; omega) | (unfold catV; exact rfl) | (unfold catS; exact Nat.le_of_ble_eq_true rfl) | assumption)) only [q_80_0, q_80_1_t, q_80_1_f, q_80_4, q_80_5, q_80_6_t, q_80_6_f, q_80_9, q_80_10, q_80_11, q_80_12, q_80_15, q_80_16, q_80_19, q_80_22, q_80_23, q_80_26, q_80_29, q_80_32, q_80_33, q_80_34, q_80_35_t, q_80_35_f, q_80_38, q_80_40, q_80_41, q_80_42_t, q_80_42_f, q_80_45, q_80_46, q_80_47, q_80_48, q_80_49_t, q_80_49_f, q_80_52, q_80_53, q_80_56, q_80_59, q_80_60, q_80_61, q_80_62, q_80_63, q_80_66, q_80_68, aft_i, aft_l, aft_v, Int.toNat_natCast, kd_sI, kd_sL, kd_sR, kd_cp, gI_sL, gI_sR, gL_sI, gL_sR, gR_sI, gR_sL, gL_cp, gR_cp, kd_aI, gL_aI, gR_aI, gI_aI, gI_aIn, sI_aI, gI_sIn, Int.reduceToNat, Int.reduceAdd, Int.reduceSub, Int.reduceMul, Int.reduceNeg, Int.zero_add, r0_10, r0_3, r0_1, r13_0, e1, t5]
    · rw [if_neg (fun u => z (fo.mpr u))]
      obtain ⟨i1, i2⟩ := ropE_is wT wN (T := zT σ) (N := zN σ) (by omega)
      by_cases y : fwS (zT σ) (zN σ) (nV (zN σ)) ≤ 3
      · obtain ⟨a, b, c, x1, x2⟩ := i2 y
        rw [x1]
        have v := v y
        rw [x2] at v
        show _ = some (some (Sum.inl (ropA what (fwS (zT σ) (zN σ) (nV (zN σ))) a b c)), g)
        unfold ropA
        generalize fwS (zT σ) (zN σ) (nV (zN σ)) = M at *
        have z2 : (M : Int) ≤ 3 := by omega
        by_cases u : what = 0
        · subst u
          rw [if_pos rfl]
          simp (disch := (first | omega | (simp only [kd_sI, kd_sL, kd_sR, kd_cp, kd_aI]; omega) | (unfold catV; exact rfl) | (unfold catS; exact Nat.le_of_ble_eq_true rfl) | assumption)) only [q_80_0, q_80_1_t, q_80_1_f, q_80_4, q_80_5, q_80_6_t, q_80_6_f, q_80_9, q_80_10, q_80_11, q_80_12, q_80_15, q_80_16, q_80_19, q_80_22, q_80_23, q_80_26, q_80_29, q_80_32, q_80_33, q_80_34, q_80_35_t, q_80_35_f, q_80_38, q_80_40, q_80_41, q_80_42_t, q_80_42_f, q_80_45, q_80_46, q_80_47, q_80_48, q_80_49_t, q_80_49_f, q_80_52, q_80_53, q_80_56, q_80_59, q_80_60, q_80_61, q_80_62, q_80_63, q_80_66, q_80_68, aft_i, aft_l, aft_v, Int.toNat_natCast, kd_sI, kd_sL, kd_sR, kd_cp, gI_sL, gI_sR, gL_sI, gL_sR, gR_sI, gR_sL, gL_cp, gR_cp, kd_aI, gL_aI, gR_aI, gI_aI, gI_aIn, sI_aI, gI_sIn, Int.reduceToNat, Int.reduceAdd, Int.reduceSub, Int.reduceMul, Int.reduceNeg, Int.zero_add, r0_10, r0_3, r0_1, r13_0, e1, t5]
        · rw [if_neg u]
          by_cases s : (M : Int) < what
          · rw [if_pos s]
            have s2 : ¬ what ≤ (M : Int) := by omega
            simp (disch := (first | omega | (simp only [kd_sI, kd_sL, kd_sR, kd_cp, kd_aI]; omega) | (unfold catV; exact rfl) | (unfold catS; exact Nat.le_of_ble_eq_true rfl) | assumption)) only [q_80_0, q_80_1_t, q_80_1_f, q_80_4, q_80_5, q_80_6_t, q_80_6_f, q_80_9, q_80_10, q_80_11, q_80_12, q_80_15, q_80_16, q_80_19, q_80_22, q_80_23, q_80_26, q_80_29, q_80_32, q_80_33, q_80_34, q_80_35_t, q_80_35_f, q_80_38, q_80_40, q_80_41, q_80_42_t, q_80_42_f, q_80_45, q_80_46, q_80_47, q_80_48, q_80_49_t, q_80_49_f, q_80_52, q_80_53, q_80_56, q_80_59, q_80_60, q_80_61, q_80_62, q_80_63, q_80_66, q_80_68, aft_i, aft_l, aft_v, Int.toNat_natCast, kd_sI, kd_sL, kd_sR, kd_cp, gI_sL, gI_sR, gL_sI, gL_sR, gR_sI, gR_sL, gL_cp, gR_cp, kd_aI, gL_aI, gR_aI, gI_aI, gI_aIn, sI_aI, gI_sIn, Int.reduceToNat, Int.reduceAdd, Int.reduceSub, Int.reduceMul, Int.reduceNeg, Int.zero_add, r0_10, r0_3, r0_1, r13_0, e1, t5]
          · rw [if_neg s]
            have s2 : what ≤ (M : Int) := by omega
            have va : ∀ j (x : Nat), j < M → ([a, b, c].take M)[j]? = some x → gI g 134 j = x := fun j x jm e => by
              have hl : j < ([a, b, c].take M).length := by
                cases hh : ([a, b, c].take M)[j]? with
                | none => rw [hh] at e; cases e
                | some r => exact (List.getElem?_eq_some_iff.mp hh).1
              have := v j hl
              rw [this, Int.natCast_inj]
              rw [List.getElem?_eq_getElem hl] at e
              exact Option.some.inj e
            have tk : ∀ j, j < M → ([a, b, c].take M)[j]? = [a, b, c][j]? := fun j jm => List.getElem?_take_of_lt jm
            rcases (show what = 1 ∨ what = 2 ∨ what = 3 by omega) with e | e | e
            · subst e
              have w0 := va 0 a (by omega) (by rw [tk 0 (by omega)]; rfl)
              simp (disch := (first | omega | (simp only [kd_sI, kd_sL, kd_sR, kd_cp, kd_aI]; omega) | (unfold catV; exact rfl) | (unfold catS; exact Nat.le_of_ble_eq_true rfl) | assumption)) only [q_80_0, q_80_1_t, q_80_1_f, q_80_4, q_80_5, q_80_6_t, q_80_6_f, q_80_9, q_80_10, q_80_11, q_80_12, q_80_15, q_80_16, q_80_19, q_80_22, q_80_23, q_80_26, q_80_29, q_80_32, q_80_33, q_80_34, q_80_35_t, q_80_35_f, q_80_38, q_80_40, q_80_41, q_80_42_t, q_80_42_f, q_80_45, q_80_46, q_80_47, q_80_48, q_80_49_t, q_80_49_f, q_80_52, q_80_53, q_80_56, q_80_59, q_80_60, q_80_61, q_80_62, q_80_63, q_80_66, q_80_68, aft_i, aft_l, aft_v, Int.toNat_natCast, kd_sI, kd_sL, kd_sR, kd_cp, gI_sL, gI_sR, gL_sI, gL_sR, gR_sI, gR_sL, gL_cp, gR_cp, kd_aI, gL_aI, gR_aI, gI_aI, gI_aIn, sI_aI, gI_sIn, Int.reduceToNat, Int.reduceAdd, Int.reduceSub, Int.reduceMul, Int.reduceNeg, Int.zero_add, r0_10, r0_3, r0_1, r13_0, e1, t5, r3, r4, w0]
              rfl
            · subst e
              have w0 := va 1 b (by omega) (by rw [tk 1 (by omega)]; rfl)
              simp (disch := (first | omega | (simp only [kd_sI, kd_sL, kd_sR, kd_cp, kd_aI]; omega) | (unfold catV; exact rfl) | (unfold catS; exact Nat.le_of_ble_eq_true rfl) | assumption)) only [q_80_0, q_80_1_t, q_80_1_f, q_80_4, q_80_5, q_80_6_t, q_80_6_f, q_80_9, q_80_10, q_80_11, q_80_12, q_80_15, q_80_16, q_80_19, q_80_22, q_80_23, q_80_26, q_80_29, q_80_32, q_80_33, q_80_34, q_80_35_t, q_80_35_f, q_80_38, q_80_40, q_80_41, q_80_42_t, q_80_42_f, q_80_45, q_80_46, q_80_47, q_80_48, q_80_49_t, q_80_49_f, q_80_52, q_80_53, q_80_56, q_80_59, q_80_60, q_80_61, q_80_62, q_80_63, q_80_66, q_80_68, aft_i, aft_l, aft_v, Int.toNat_natCast, kd_sI, kd_sL, kd_sR, kd_cp, gI_sL, gI_sR, gL_sI, gL_sR, gR_sI, gR_sL, gL_cp, gR_cp, kd_aI, gL_aI, gR_aI, gI_aI, gI_aIn, sI_aI, gI_sIn, Int.reduceToNat, Int.reduceAdd, Int.reduceSub, Int.reduceMul, Int.reduceNeg, Int.zero_add, r0_10, r0_3, r0_1, r13_0, e1, t5, r3, r4, w0]
              rfl
            · subst e
              have w0 := va 2 c (by omega) (by rw [tk 2 (by omega)]; rfl)
              simp (disch := (first | omega | (simp only [kd_sI, kd_sL, kd_sR, kd_cp, kd_aI]; omega) | (unfold catV; exact rfl) | (unfold catS; exact Nat.le_of_ble_eq_true rfl) | assumption)) only [q_80_0, q_80_1_t, q_80_1_f, q_80_4, q_80_5, q_80_6_t, q_80_6_f, q_80_9, q_80_10, q_80_11, q_80_12, q_80_15, q_80_16, q_80_19, q_80_22, q_80_23, q_80_26, q_80_29, q_80_32, q_80_33, q_80_34, q_80_35_t, q_80_35_f, q_80_38, q_80_40, q_80_41, q_80_42_t, q_80_42_f, q_80_45, q_80_46, q_80_47, q_80_48, q_80_49_t, q_80_49_f, q_80_52, q_80_53, q_80_56, q_80_59, q_80_60, q_80_61, q_80_62, q_80_63, q_80_66, q_80_68, aft_i, aft_l, aft_v, Int.toNat_natCast, kd_sI, kd_sL, kd_sR, kd_cp, gI_sL, gI_sR, gL_sI, gL_sR, gR_sI, gR_sL, gL_cp, gR_cp, kd_aI, gL_aI, gR_aI, gI_aI, gI_aIn, sI_aI, gI_sIn, Int.reduceToNat, Int.reduceAdd, Int.reduceSub, Int.reduceMul, Int.reduceNeg, Int.zero_add, r0_10, r0_3, r0_1, r13_0, e1, t5, r3, r4, w0]
              rfl
      · rw [i1 (by omega)]
        have z2 : ¬ (fwS (zT σ) (zN σ) (nV (zN σ)) : Int) ≤ 3 := by omega
        show _ = some (some (Sum.inl (-9)), g)
        simp (disch := (first | omega | (simp only [kd_sI, kd_sL, kd_sR, kd_cp, kd_aI]; omega) | (unfold catV; exact rfl) | (unfold catS; exact Nat.le_of_ble_eq_true rfl) | assumption)) only [q_80_0, q_80_1_t, q_80_1_f, q_80_4, q_80_5, q_80_6_t, q_80_6_f, q_80_9, q_80_10, q_80_11, q_80_12, q_80_15, q_80_16, q_80_19, q_80_22, q_80_23, q_80_26, q_80_29, q_80_32, q_80_33, q_80_34, q_80_35_t, q_80_35_f, q_80_38, q_80_40, q_80_41, q_80_42_t, q_80_42_f, q_80_45, q_80_46, q_80_47, q_80_48, q_80_49_t, q_80_49_f, q_80_52, q_80_53, q_80_56, q_80_59, q_80_60, q_80_61, q_80_62, q_80_63, q_80_66, q_80_68, aft_i, aft_l, aft_v, Int.toNat_natCast, kd_sI, kd_sL, kd_sR, kd_cp, gI_sL, gI_sR, gL_sI, gL_sR, gR_sI, gR_sL, gL_cp, gR_cp, kd_aI, gL_aI, gR_aI, gI_aI, gI_aIn, sI_aI, gI_sIn, Int.reduceToNat, Int.reduceAdd, Int.reduceSub, Int.reduceMul, Int.reduceNeg, Int.zero_add, r0_10, r0_3, r0_1, r13_0, e1, t5]
  · rw [if_neg hw]
    refine cOK_s L c ?_
    rw [en_80]
    by_cases z : what < 0
    · simp (disch := (first | omega | (simp only [kd_sI, kd_sL, kd_sR, kd_cp, kd_aI]; omega) | (unfold catV; exact rfl) | (unfold catS; exact Nat.le_of_ble_eq_true rfl) | assumption)) only [q_80_0, q_80_1_t, q_80_1_f, q_80_4, q_80_5, q_80_6_t, q_80_6_f, q_80_9, q_80_10, q_80_11, q_80_12, q_80_15, q_80_16, q_80_19, q_80_22, q_80_23, q_80_26, q_80_29, q_80_32, q_80_33, q_80_34, q_80_35_t, q_80_35_f, q_80_38, q_80_40, q_80_41, q_80_42_t, q_80_42_f, q_80_45, q_80_46, q_80_47, q_80_48, q_80_49_t, q_80_49_f, q_80_52, q_80_53, q_80_56, q_80_59, q_80_60, q_80_61, q_80_62, q_80_63, q_80_66, q_80_68, aft_i, aft_l, aft_v, Int.toNat_natCast, kd_sI, kd_sL, kd_sR, kd_cp, gI_sL, gI_sR, gL_sI, gL_sR, gR_sI, gR_sL, gL_cp, gR_cp, kd_aI, gL_aI, gR_aI, gI_aI, gI_aIn, sI_aI, gI_sIn, Int.reduceToNat, Int.reduceAdd, Int.reduceSub, Int.reduceMul, Int.reduceNeg, Int.zero_add]
    · have z2 : ¬ what ≤ 3 := by omega
      simp (disch := (first | omega | (simp only [kd_sI, kd_sL, kd_sR, kd_cp, kd_aI]; omega) | (unfold catV; exact rfl) | (unfold catS; exact Nat.le_of_ble_eq_true rfl) | assumption)) only [q_80_0, q_80_1_t, q_80_1_f, q_80_4, q_80_5, q_80_6_t, q_80_6_f, q_80_9, q_80_10, q_80_11, q_80_12, q_80_15, q_80_16, q_80_19, q_80_22, q_80_23, q_80_26, q_80_29, q_80_32, q_80_33, q_80_34, q_80_35_t, q_80_35_f, q_80_38, q_80_40, q_80_41, q_80_42_t, q_80_42_f, q_80_45, q_80_46, q_80_47, q_80_48, q_80_49_t, q_80_49_f, q_80_52, q_80_53, q_80_56, q_80_59, q_80_60, q_80_61, q_80_62, q_80_63, q_80_66, q_80_68, aft_i, aft_l, aft_v, Int.toNat_natCast, kd_sI, kd_sL, kd_sR, kd_cp, gI_sL, gI_sR, gL_sI, gL_sR, gR_sI, gR_sL, gL_cp, gR_cp, kd_aI, gL_aI, gR_aI, gI_aI, gI_aIn, sI_aI, gI_sIn, Int.reduceToNat, Int.reduceAdd, Int.reduceSub, Int.reduceMul, Int.reduceNeg, Int.zero_add]
