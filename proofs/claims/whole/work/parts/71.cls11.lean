def rmOK (h : mH) (T : Td) (N : Nt) : Prop := gI h 119 1 = tK T ∧ ∀ w k, 1 ≤ w → w ≤ 6 → k ≤ tK T → gI h (121 + w) k = rmF T N w k
theorem wFf_ok (d : Nat) (h : mH) (L : LAY h) (T : Td) (N : Nt) (k4 : tK T ≤ 40) (r : rmOK h T N) (w k : Nat) (hw : 1 ≤ w ∧ w ≤ 6) (hk : k ≤ tK T) : callA (d + 1) 27 [Sum.inr (Sum.inr (some 119)), Sum.inl (w : Int), Sum.inl (k : Int)] h = some (some (Sum.inl (rmF T N w k)), h) := by
  obtain ⟨r1, r2⟩ := r
  have e := r2 w k hw.1 hw.2 hk
  have rr := rmR L (show w < 7 by omega)
  obtain ⟨q1, q2⟩ := rmK L (show w < 7 by omega)
  obtain ⟨k119, j119⟩ := lay_k L (a := 119) (t := 3) (n := 2) rfl; obtain ⟨k120, j120⟩ := lay_k L (a := 120) (t := 105) (n := 7) rfl; have r119_0 : gR h 119 0 = some 120 := lay_r L rfl
  rw [en_27]
  simp (disch := (first | omega | (simp only [kd_sI, kd_sL, kd_sR, kd_cp, kd_aI]; omega) | (unfold catV; exact rfl) | (unfold catS; exact Nat.le_of_ble_eq_true rfl) | assumption)) only [q_27_0, q_27_1, q_27_2_t, q_27_2_f, q_27_5, q_27_6, q_27_8_t, q_27_8_f, q_27_11, q_27_12_t, q_27_12_f, q_27_15, q_27_16, q_27_17, q_27_20_t, q_27_20_f, q_27_23, q_27_25, q_27_26, q_27_27, q_27_30, q_27_31, q_27_32, q_27_33, q_27_34, aft_i, aft_l, aft_v, Int.toNat_natCast, kd_sI, kd_sL, kd_sR, kd_cp, gI_sL, gI_sR, gL_sI, gL_sR, gR_sI, gR_sL, gL_cp, gR_cp, kd_aI, gL_aI, gR_aI, gI_aI, gI_aIn, sI_aI, gI_sIn, Int.reduceToNat, Int.reduceAdd, Int.reduceSub, Int.reduceMul, Int.reduceNeg, Int.zero_add, r1, r119_0, rr, e]
theorem wSu_a (d : Nat) (h : mH) (p0 p3 : Nat) (n : Int) (q1 : (kd h p3).1 = 100) (q2 : (kd h p3).2 = 7) : ∀ (k i : Nat), i + k = 7 → resA (callA d) 28 (3, [Sum.inr (Sum.inr (some 119)), Sum.inr (Sum.inr (some p0)), Sum.inl n, Sum.inr (Sum.inr (some 16)), Sum.inr (Sum.inr (some p3)), Sum.inl (i : Int), Sum.inr (Sum.inr none), Sum.inr (Sum.inr none), Sum.inr (Sum.inr none)], [], aI h p3 (mixI i (fun _ => -9) (gI h p3))) = resA (callA d) 28 (23, [Sum.inr (Sum.inr (some 119)), Sum.inr (Sum.inr (some p0)), Sum.inl n, Sum.inr (Sum.inr (some 16)), Sum.inr (Sum.inr (some p3)), Sum.inl 7, Sum.inr (Sum.inr none), Sum.inr (Sum.inr none), Sum.inr (Sum.inr none)], [], aI h p3 (mixI 7 (fun _ => -9) (gI h p3)))
  | 0, i, hi => by
    have e : i = 7 := hi
    subst e
    simp (disch := (first | omega | (simp only [kd_sI, kd_sL, kd_sR, kd_cp, kd_aI]; omega) | (unfold catV; exact rfl) | (unfold catS; exact Nat.le_of_ble_eq_true rfl) | assumption)) only [q_28_0, q_28_1, q_28_3, q_28_5, q_28_7_t, q_28_7_f, q_28_10, q_28_12, q_28_14, q_28_16, q_28_17, q_28_20, q_28_24, q_28_26, q_28_27, q_28_29, q_28_31, q_28_32_t, q_28_32_f, q_28_35, q_28_36, q_28_38, q_28_39, q_28_41, q_28_42, q_28_43, q_28_45, q_28_46, q_28_48, q_28_51, q_28_53, q_28_55, q_28_57_t, q_28_57_f, q_28_60, q_28_62, q_28_63, q_28_65, q_28_67, q_28_69, q_28_70, q_28_72, q_28_73, q_28_75, q_28_76, q_28_77, q_28_79, q_28_82, q_28_85, q_28_86, aft_i, aft_l, aft_v, Int.toNat_natCast, kd_sI, kd_sL, kd_sR, kd_cp, gI_sL, gI_sR, gL_sI, gL_sR, gR_sI, gR_sL, gL_cp, gR_cp, kd_aI, gL_aI, gR_aI, gI_aI, gI_aIn, sI_aI, gI_sIn, Int.reduceToNat, Int.reduceAdd, Int.reduceSub, Int.reduceMul, Int.reduceNeg, Int.zero_add]
    rfl
  | k + 1, i, hi => by
    have ih := wSu_a d h p0 p3 n q1 q2 k (i + 1) (by omega)
    rw [q_28_3]
    simp (disch := (first | omega | (simp only [kd_sI, kd_sL, kd_sR, kd_cp, kd_aI]; omega) | (unfold catV; exact rfl) | (unfold catS; exact Nat.le_of_ble_eq_true rfl) | assumption)) only [q_28_0, q_28_1, q_28_5, q_28_7_t, q_28_7_f, q_28_10, q_28_12, q_28_14, q_28_16, q_28_17, q_28_20, q_28_24, q_28_26, q_28_27, q_28_29, q_28_31, q_28_32_t, q_28_32_f, q_28_35, q_28_36, q_28_38, q_28_39, q_28_41, q_28_42, q_28_43, q_28_45, q_28_46, q_28_48, q_28_51, q_28_53, q_28_55, q_28_57_t, q_28_57_f, q_28_60, q_28_62, q_28_63, q_28_65, q_28_67, q_28_69, q_28_70, q_28_72, q_28_73, q_28_75, q_28_76, q_28_77, q_28_79, q_28_82, q_28_85, q_28_86, aft_i, aft_l, aft_v, Int.toNat_natCast, kd_sI, kd_sL, kd_sR, kd_cp, gI_sL, gI_sR, gL_sI, gL_sR, gR_sI, gR_sL, gL_cp, gR_cp, kd_aI, gL_aI, gR_aI, gI_aI, gI_aIn, sI_aI, gI_sIn, Int.reduceToNat, Int.reduceAdd, Int.reduceSub, Int.reduceMul, Int.reduceNeg, Int.zero_add]
    rw [← mixI_up i] at ih
    exact ih
theorem fi_F0 {l : Nat → Int} {cells : Nat} {ax rw_ : Nat → Nat} {F G : Nat → Int} {c : Nat} (e : F c = G c) : ∀ n, fiF l cells ax rw_ F n c = fiF l cells ax rw_ G n c
  | 0 => e
  | n + 1 => by
    show upI _ _ _ c = upI _ _ _ c
    unfold upI
    by_cases z : c = rw_ n
    · rw [if_pos z, if_pos z]
    · rw [if_neg z, if_neg z]
      exact fi_F0 e n
theorem wSu_b (d : Nat) (h : mH) (L : LAY h) (T : Td) (N : Nt) (wT : wfT T) (wN : wfN T N) (r : rmOK h T N) (hx : ∀ c, c < tN T → gI h 16 c = nX N c) (p0 p3 : Nat) (q1 : (kd h p0).1 = 100) (q2 : (kd h p0).2 = 7) (q3 : (kd h p3).1 = 100) (q4 : (kd h p3).2 = 7) (ne : p0 ≠ p3) (n16 : p3 ≠ 16) (n9 : ¬ (119 ≤ p3 ∧ p3 ≤ 127)) (hr : ∀ i, i < nM N → gI h p0 i = nR N i) (F0 : Nat → Int) (h0 : ∀ c, c < 7 → F0 c = -9) : ∀ (k i f : Nat) (x7 x8 : mV), i + k = nM N → suS (lnd T N) (tK T) (nX N) (nR N) i = some f → ∃ G, (∀ c, c < 7 → G c = fcS T N c) ∧ resA (callA (d + 1)) 28 (29, [Sum.inr (Sum.inr (some 119)), Sum.inr (Sum.inr (some p0)), Sum.inl (nM N : Int), Sum.inr (Sum.inr (some 16)), Sum.inr (Sum.inr (some p3)), Sum.inl (f : Int), Sum.inl (i : Int), x7, x8], [], aI h p3 (fiF (lnd T N) (tK T) (nX N) (nR N) F0 i)) = some (some (Sum.inl (stN T N : Int)), aI h p3 G)
  | 0, i, f, x7, x8, hi, hs => by
    have e : i = nM N := hi
    have n7 : nM N ≤ 7 := Nat.le_trans wN.1 wT.1
    subst e
    have sn : stN T N = nM N := by
      have le := stN_le T N
      by_cases z : stN T N < nM N
      · exfalso
        have c := fc_st wN (T := T) z
        have : ¬ (suP (lnd T N) (tK T) (nX N) (nR N) (stN T N)).isSome = true := fun y => by have := (plN_iff z).mpr y; exact Nat.lt_irrefl _ this
        cases hM : nM N with
        | zero => omega
        | succ m =>
          rw [hM, suS_s] at hs
          cases e2 : suP (lnd T N) (tK T) (nX N) (nR N) m with
          | none => rw [e2] at hs; cases hs
          | some p =>
            by_cases y : stN T N = m
            · rw [y, e2] at this; exact this rfl
            · obtain ⟨p2, e3, -⟩ := suP_mono (show stN T N < m by omega) e2
              rw [e3] at this
              exact this rfl
      · omega
    refine ⟨fiF (lnd T N) (tK T) (nX N) (nR N) F0 (nM N), fun c hc => ?_, ?_⟩
    · exact fi_F0 (h0 c hc) _
    · rw [sn, q_28_29]
      simp (disch := (first | omega | (simp only [kd_sI, kd_sL, kd_sR, kd_cp, kd_aI]; omega) | (unfold catV; exact rfl) | (unfold catS; exact Nat.le_of_ble_eq_true rfl) | assumption)) only [q_28_0, q_28_1, q_28_3, q_28_5, q_28_7_t, q_28_7_f, q_28_10, q_28_12, q_28_14, q_28_16, q_28_17, q_28_20, q_28_23, q_28_24, q_28_26, q_28_27, q_28_31, q_28_32_t, q_28_32_f, q_28_35, q_28_36, q_28_38, q_28_39, q_28_41, q_28_42, q_28_43, q_28_45, q_28_46, q_28_48, q_28_51, q_28_53, q_28_55, q_28_57_t, q_28_57_f, q_28_60, q_28_62, q_28_63, q_28_65, q_28_67, q_28_69, q_28_70, q_28_72, q_28_73, q_28_75, q_28_76, q_28_77, q_28_79, q_28_82, q_28_85, q_28_86, aft_i, aft_l, aft_v, Int.toNat_natCast, kd_sI, kd_sL, kd_sR, kd_cp, gI_sL, gI_sR, gL_sI, gL_sR, gR_sI, gR_sL, gL_cp, gR_cp, kd_aI, gL_aI, gR_aI, gI_aI, gI_aIn, sI_aI, gI_sIn, Int.reduceToNat, Int.reduceAdd, Int.reduceSub, Int.reduceMul, Int.reduceNeg, Int.zero_add]
  | k + 1, i, f, x7, x8, hi, hs => by
    have c7 := wT.1
    have k4 := wT.2.1
    have n7 : nM N ≤ 7 := Nat.le_trans wN.1 wT.1
    have ri := wN.2.1 i (by omega)
    have xi := wN.2.2.2.1 (nR N i) ri
    have hi2 := hr i (by omega)
    have hx2 := hx (nR N i) ri
    have fk := suS_le hs
    have sp : suP (lnd T N) (tK T) (nX N) (nR N) i = fstF (lnd T N) (tK T) (nX N (nR N i)) (40 - f) f := by
      unfold suP
      rw [hs]
    have L2 : LAY (aI h p3 (fiF (lnd T N) (tK T) (nX N) (nR N) F0 i)) := lay_aI L _ _
    have r2 : rmOK (aI h p3 (fiF (lnd T N) (tK T) (nX N) (nR N) F0 i)) T N := ⟨by rw [gI_aIn (by omega)]; exact r.1, fun w k a b c => by rw [gI_aIn (by omega)]; exact r.2 w k a b c⟩
    have e1 := wFf_ok d _ L2 T N k4 r2 (nX N (nR N i)) f xi fk
    have eR : rmF T N (nX N (nR N i)) f = vO (suP (lnd T N) (tK T) (nX N) (nR N) i) := by
      rw [sp]
      rfl
    rw [eR] at e1
    have g1 : gI (aI h p3 (fiF (lnd T N) (tK T) (nX N) (nR N) F0 i)) p0 i = nR N i := by rw [gI_aIn ne]; exact hi2
    have g2 : gI (aI h p3 (fiF (lnd T N) (tK T) (nX N) (nR N) F0 i)) 16 (nR N i) = nX N (nR N i) := by rw [gI_aIn (Ne.symm n16)]; exact hx2
    obtain ⟨a1, a2⟩ := lay_k L2 (a := 119) (t := 3) (n := 2) rfl
    obtain ⟨a3, a4⟩ := lay_k L2 (a := 16) (t := 100) (n := 7) rfl
    have b1 : (kd (aI h p3 (fiF (lnd T N) (tK T) (nX N) (nR N) F0 i)) p0).1 = 100 := q1
    have b2 : (kd (aI h p3 (fiF (lnd T N) (tK T) (nX N) (nR N) F0 i)) p0).2 = 7 := q2
    have b3 : (kd (aI h p3 (fiF (lnd T N) (tK T) (nX N) (nR N) F0 i)) p3).1 = 100 := q3
    have b4 : (kd (aI h p3 (fiF (lnd T N) (tK T) (nX N) (nR N) F0 i)) p3).2 = 7 := q4
    cases hp : suP (lnd T N) (tK T) (nX N) (nR N) i with
    | none =>
      rw [hp] at e1
      have e1 : callA (d + 1) 27 [Sum.inr (Sum.inr (some 119)), Sum.inl (nX N (nR N i) : Int), Sum.inl (f : Int)] (aI h p3 (fiF (lnd T N) (tK T) (nX N) (nR N) F0 i)) = some (some (Sum.inl (-9)), aI h p3 (fiF (lnd T N) (tK T) (nX N) (nR N) F0 i)) := e1
      have st : ∀ j, j < nM N → (j < stN T N ↔ (suP (lnd T N) (tK T) (nX N) (nR N) j).isSome = true) := fun j hj => plN_iff hj
      have nx : ∀ j, i ≤ j → suP (lnd T N) (tK T) (nX N) (nR N) j = none := fun j hj => by
        cases q : suP (lnd T N) (tK T) (nX N) (nR N) j with
        | none => rfl
        | some p =>
          by_cases z : j = i
          · subst z; rw [hp] at q; cases q
          · obtain ⟨p2, e3, -⟩ := suP_mono (show i < j by omega) q
            rw [hp] at e3
            cases e3
      have sn : stN T N = i := by
        have le := stN_le T N
        by_cases z : stN T N < i
        · exfalso
          have y : ¬ (suP (lnd T N) (tK T) (nX N) (nR N) (stN T N)).isSome = true := fun y => by have := (st _ (by omega)).mpr y; exact Nat.lt_irrefl _ this
          cases i with
          | zero => omega
          | succ m =>
            rw [suS_s] at hs
            cases e2 : suP (lnd T N) (tK T) (nX N) (nR N) m with
            | none => rw [e2] at hs; cases hs
            | some p =>
              by_cases u : stN T N = m
              · rw [u, e2] at y; exact y rfl
              · obtain ⟨p2, e3, -⟩ := suP_mono (show stN T N < m by omega) e2
                rw [e3] at y
                exact y rfl
        · by_cases y : i < stN T N
          · have := (st i (by omega)).mp y
            rw [hp] at this
            cases this
          · omega
      refine ⟨fiF (lnd T N) (tK T) (nX N) (nR N) F0 i, fun c hc => ?_, ?_⟩
      · by_cases z : ∃ j, j < nM N ∧ nR N j = c
        · obtain ⟨j, hj, e⟩ := z
          subst e
          rw [fc_at wN hj]
          unfold pF
          by_cases y : j < i
          · exact fiF_in (fun a b ha hb => wN.2.2.1 a b (by omega) (by omega)) j y
          · rw [fiF_out (fun a ha u => by have := wN.2.2.1 a j (by omega) hj u; omega), h0 _ hc, nx j (by omega)]
            rfl
        · rw [fc_no (fun j hj e => z ⟨j, hj, e⟩), fiF_out (fun j hj e => z ⟨j, by omega, e⟩)]
          exact h0 c hc
      · rw [sn, q_28_29]
        simp (disch := (first | omega | (simp only [kd_sI, kd_sL, kd_sR, kd_cp, kd_aI]; omega) | (unfold catV; exact rfl) | (unfold catS; exact Nat.le_of_ble_eq_true rfl) | assumption)) only [q_28_0, q_28_1, q_28_3, q_28_5, q_28_7_t, q_28_7_f, q_28_10, q_28_12, q_28_14, q_28_16, q_28_17, q_28_20, q_28_23, q_28_24, q_28_26, q_28_27, q_28_31, q_28_32_t, q_28_32_f, q_28_35, q_28_36, q_28_38, q_28_39, q_28_41, q_28_42, q_28_43, q_28_45, q_28_46, q_28_48, q_28_51, q_28_53, q_28_55, q_28_57_t, q_28_57_f, q_28_60, q_28_62, q_28_63, q_28_65, q_28_67, q_28_69, q_28_70, q_28_72, q_28_73, q_28_75, q_28_76, q_28_77, q_28_79, q_28_82, q_28_85, q_28_86, aft_i, aft_l, aft_v, Int.toNat_natCast, kd_sI, kd_sL, kd_sR, kd_cp, gI_sL, gI_sR, gL_sI, gL_sR, gR_sI, gR_sL, gL_cp, gR_cp, kd_aI, gL_aI, gR_aI, gI_aI, gI_aIn, sI_aI, gI_sIn, Int.reduceToNat, Int.reduceAdd, Int.reduceSub, Int.reduceMul, Int.reduceNeg, Int.zero_add, g1, g2, e1]
    | some p =>
      rw [hp] at e1
      have e1 : callA (d + 1) 27 [Sum.inr (Sum.inr (some 119)), Sum.inl (nX N (nR N i) : Int), Sum.inl (f : Int)] (aI h p3 (fiF (lnd T N) (tK T) (nX N) (nR N) F0 i)) = some (some (Sum.inl (p : Int)), aI h p3 (fiF (lnd T N) (tK T) (nX N) (nR N) F0 i)) := e1
      have pb : p + nX N (nR N i) ≤ tK T := by
        rw [sp] at hp
        exact freeB_le (fstF_some hp).2.2.1
      have s2 : suS (lnd T N) (tK T) (nX N) (nR N) (i + 1) = some (p + nX N (nR N i)) := by
        rw [suS_s, hp]
        rfl
      obtain ⟨G, hG, ih⟩ := wSu_b d h L T N wT wN r hx p0 p3 q1 q2 q3 q4 ne n16 n9 hr F0 h0 k (i + 1) (p + nX N (nR N i)) (Sum.inl (nR N i : Int)) (Sum.inl (p : Int)) (by omega) s2
      refine ⟨G, hG, ?_⟩
      have eF : fiF (lnd T N) (tK T) (nX N) (nR N) F0 (i + 1) = upI (fiF (lnd T N) (tK T) (nX N) (nR N) F0 i) (nR N i) (p : Int) := by
        show upI _ _ (vO (suP (lnd T N) (tK T) (nX N) (nR N) i)) = _
        rw [hp]
        rfl
      have g3 : gI (aI h p3 (upI (fiF (lnd T N) (tK T) (nX N) (nR N) F0 i) (nR N i) (p : Int))) 16 (nR N i) = nX N (nR N i) := by rw [gI_aIn (Ne.symm n16)]; exact hx2
      rw [eF] at ih
      obtain ⟨u1, u2⟩ := lay_k L (a := 16) (t := 100) (n := 7) rfl
      rw [q_28_29]
      simp (disch := (first | omega | (simp only [kd_sI, kd_sL, kd_sR, kd_cp, kd_aI]; omega) | (unfold catV; exact rfl) | (unfold catS; exact Nat.le_of_ble_eq_true rfl) | assumption)) only [q_28_0, q_28_1, q_28_3, q_28_5, q_28_7_t, q_28_7_f, q_28_10, q_28_12, q_28_14, q_28_16, q_28_17, q_28_20, q_28_23, q_28_24, q_28_26, q_28_27, q_28_31, q_28_32_t, q_28_32_f, q_28_35, q_28_36, q_28_38, q_28_39, q_28_41, q_28_42, q_28_43, q_28_45, q_28_46, q_28_48, q_28_51, q_28_53, q_28_55, q_28_57_t, q_28_57_f, q_28_60, q_28_62, q_28_63, q_28_65, q_28_67, q_28_69, q_28_70, q_28_72, q_28_73, q_28_75, q_28_76, q_28_77, q_28_79, q_28_82, q_28_85, q_28_86, aft_i, aft_l, aft_v, Int.toNat_natCast, kd_sI, kd_sL, kd_sR, kd_cp, gI_sL, gI_sR, gL_sI, gL_sR, gR_sI, gR_sL, gL_cp, gR_cp, kd_aI, gL_aI, gR_aI, gI_aI, gI_aIn, sI_aI, gI_sIn, Int.reduceToNat, Int.reduceAdd, Int.reduceSub, Int.reduceMul, Int.reduceNeg, Int.zero_add, g1, g2, e1, g3]
      exact ih
theorem wSetUp_ok (d : Nat) (h : mH) (L : LAY h) (T : Td) (N : Nt) (wT : wfT T) (wN : wfN T N) (r : rmOK h T N) (hx : ∀ c, c < tN T → gI h 16 c = nX N c) (p0 p3 : Nat) (q1 : (kd h p0).1 = 100) (q2 : (kd h p0).2 = 7) (q3 : (kd h p3).1 = 100) (q4 : (kd h p3).2 = 7) (ne : p0 ≠ p3) (n16 : p3 ≠ 16) (n9 : ¬ (119 ≤ p3 ∧ p3 ≤ 127)) (hr : ∀ i, i < nM N → gI h p0 i = nR N i) : ∃ G, (∀ c, c < 7 → G c = fcS T N c) ∧ callA (d + 2) 28 [Sum.inr (Sum.inr (some 119)), Sum.inr (Sum.inr (some p0)), Sum.inl (nM N : Int), Sum.inr (Sum.inr (some 16)), Sum.inr (Sum.inr (some p3))] h = some (some (Sum.inl (stN T N : Int)), aI h p3 G) := by
  have ea := wSu_a (d + 1) h p0 p3 (nM N) q3 q4 7 0 rfl
  rw [mixI_0, aI_id, show ((0 : Nat) : Int) = 0 from rfl] at ea
  obtain ⟨G, hG, eb⟩ := wSu_b d h L T N wT wN r hx p0 p3 q1 q2 q3 q4 ne n16 n9 hr (mixI 7 (fun _ => -9) (gI h p3)) (fun c hc => by rw [mixI_in hc]) (nM N) 0 0 (Sum.inr (Sum.inr none)) (Sum.inr (Sum.inr none)) (Nat.zero_add _) rfl
  refine ⟨G, hG, ?_⟩
  have eb : resA (callA (d + 1)) 28 (29, [Sum.inr (Sum.inr (some 119)), Sum.inr (Sum.inr (some p0)), Sum.inl (nM N : Int), Sum.inr (Sum.inr (some 16)), Sum.inr (Sum.inr (some p3)), Sum.inl 0, Sum.inl 0, Sum.inr (Sum.inr none), Sum.inr (Sum.inr none)], [], aI h p3 (mixI 7 (fun _ => -9) (gI h p3))) = _ := eb
  rw [en_28]
  simp (disch := (first | omega | (simp only [kd_sI, kd_sL, kd_sR, kd_cp, kd_aI]; omega) | (unfold catV; exact rfl) | (unfold catS; exact Nat.le_of_ble_eq_true rfl) | assumption)) only [q_28_0, q_28_1, q_28_5, q_28_7_t, q_28_7_f, q_28_10, q_28_12, q_28_14, q_28_16, q_28_17, q_28_20, q_28_23, q_28_24, q_28_26, q_28_27, q_28_29, q_28_31, q_28_32_t, q_28_32_f, q_28_35, q_28_36, q_28_38, q_28_39, q_28_41, q_28_42, q_28_43, q_28_45, q_28_46, q_28_48, q_28_51, q_28_53, q_28_55, q_28_57_t, q_28_57_f, q_28_60, q_28_62, q_28_63, q_28_65, q_28_67, q_28_69, q_28_70, q_28_72, q_28_73, q_28_75, q_28_76, q_28_77, q_28_79, q_28_82, q_28_85, q_28_86, aft_i, aft_l, aft_v, Int.toNat_natCast, kd_sI, kd_sL, kd_sR, kd_cp, gI_sL, gI_sR, gL_sI, gL_sR, gR_sI, gR_sL, gL_cp, gR_cp, kd_aI, gL_aI, gR_aI, gI_aI, gI_aIn, sI_aI, gI_sIn, Int.reduceToNat, Int.reduceAdd, Int.reduceSub, Int.reduceMul, Int.reduceNeg, Int.zero_add]
  rw [ea]
  simp (disch := (first | omega | (simp only [kd_sI, kd_sL, kd_sR, kd_cp, kd_aI]; omega) | (unfold catV; exact rfl) | (unfold catS; exact Nat.le_of_ble_eq_true rfl) | assumption)) only [q_28_0, q_28_1, q_28_3, q_28_5, q_28_7_t, q_28_7_f, q_28_10, q_28_12, q_28_14, q_28_16, q_28_17, q_28_20, q_28_23, q_28_24, q_28_26, q_28_27, q_28_31, q_28_32_t, q_28_32_f, q_28_35, q_28_36, q_28_38, q_28_39, q_28_41, q_28_42, q_28_43, q_28_45, q_28_46, q_28_48, q_28_51, q_28_53, q_28_55, q_28_57_t, q_28_57_f, q_28_60, q_28_62, q_28_63, q_28_65, q_28_67, q_28_69, q_28_70, q_28_72, q_28_73, q_28_75, q_28_76, q_28_77, q_28_79, q_28_82, q_28_85, q_28_86, aft_i, aft_l, aft_v, Int.toNat_natCast, kd_sI, kd_sL, kd_sR, kd_cp, gI_sL, gI_sR, gL_sI, gL_sR, gR_sI, gR_sL, gL_cp, gR_cp, kd_aI, gL_aI, gR_aI, gI_aI, gI_aIn, sI_aI, gI_sIn, Int.reduceToNat, Int.reduceAdd, Int.reduceSub, Int.reduceMul, Int.reduceNeg, Int.zero_add]
  exact eb
