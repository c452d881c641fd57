def rwB (N : Nt) : Nat → Nat
  | 0 => 0
  | i + 1 => rwB N i ||| 2 ^ nR N i
theorem rwB_bit (N : Nt) (c : Nat) : ∀ i, (rwB N i).testBit c = true ↔ ∃ j, j < i ∧ nR N j = c
  | 0 => by
    constructor
    · intro h
      have h : (0 : Nat).testBit c = true := h
      rw [Nat.zero_testBit] at h
      cases h
    · rintro ⟨j, h, _⟩; exact absurd h (Nat.not_lt_zero _)
  | i + 1 => by
    show (rwB N i ||| 2 ^ nR N i).testBit c = true ↔ _
    rw [Nat.testBit_or, Bool.or_eq_true, rwB_bit N c i, Nat.testBit_two_pow, decide_eq_true_iff]
    constructor
    · rintro (⟨j, h1, h2⟩ | h)
      · exact ⟨j, by omega, h2⟩
      · exact ⟨i, by omega, h⟩
    · rintro ⟨j, h1, h2⟩
      by_cases y : j = i
      · subst y; exact Or.inr h2
      · exact Or.inl ⟨j, by omega, h2⟩
theorem rwB_b {T : Td} {N : Nt} (wT : wfT T) (w : wfN T N) : ∀ {i : Nat}, i ≤ nM N → rwB N i < 128
  | 0, _ => by show 0 < 128; omega
  | i + 1, h => by
    have a := rwB_b wT w (i := i) (by omega)
    have b := w.2.1 i (by omega)
    have c7 := wT.1
    show rwB N i ||| _ < 2 ^ 7
    exact Nat.or_lt_two_pow a (Nat.pow_lt_pow_right (by omega) (by omega))
theorem rwB_nl (T : Td) (N : Nt) : bLf (rwB N (nM N)) (tN T) 0 = notLost N (tN T) := by
  unfold bLf notLost
  rw [List.range_eq_range']
  refine List.filter_congr (fun x _ => ?_)
  rw [Bool.eq_iff_iff, rwB_bit, decide_eq_true_iff, rowL_mem]
theorem least_x {T : Td} {N : Nt} (w : wfN T N) : leastS N = (sumX N (notLost N (tN T)) : Int) := by
  rw [sumX_perm (notLost_perm w)]
  have app : ∀ a b : List Nat, sumX N (a ++ b) = sumX N a + sumX N b := by
    intro a b
    induction a with
    | nil => show sumX N b = 0 + sumX N b; omega
    | cons x a ih => show nX N x + sumX N (a ++ b) = nX N x + sumX N a + sumX N b; omega
  have key : ∀ n, sumI (fun i => (nX N (nR N i) : Int)) n = (sumX N ((List.range n).map (nR N)) : Int) := by
    intro n
    induction n with
    | zero => rfl
    | succ n ih =>
      show sumI (fun i => (nX N (nR N i) : Int)) n + (nX N (nR N n) : Int) = _
      rw [ih, List.range_succ, List.map_append, app]
      show _ = ((sumX N ((List.range n).map (nR N)) + (nX N (nR N n) + 0) : Nat) : Int)
      omega
  exact key (nM N)
theorem wSe_loop (d : Nat) (h : mH) (L : LAY h) (T : Td) (N : Nt) (wT : wfT T) (wN : wfN T N) (u : ntA h 14 T N) : ∀ (k i : Nat), i + k = nM N → resA (callA d) 1 (9, [Sum.inr (Sum.inr (some 129)), Sum.inl (rwB N i : Int), Sum.inl (i : Int)], [], h) = resA (callA d) 1 (40, [Sum.inr (Sum.inr (some 129)), Sum.inl (rwB N (nM N) : Int), Sum.inl (nM N : Int)], [], h)
  | 0, i, hi => by
    have e : i = nM N := hi
    have n7 : nM N ≤ 7 := Nat.le_trans wN.1 wT.1
    have u1 := u.1
    subst e
    obtain ⟨k14, j14⟩ := lay_k L (a := 14) (t := 2) (n := 5) rfl; obtain ⟨k129, j129⟩ := lay_k L (a := 129) (t := 0) (n := 9) rfl; have r129_7 : gR h 129 7 = some 14 := lay_r L rfl
    simp (disch := (first | omega | (simp only [kd_sI, kd_sL, kd_sR, kd_cp, kd_aI]; omega) | (unfold catV; exact rfl) | (unfold catS; exact Nat.le_of_ble_eq_true rfl) | assumption)) only [q_1_0, q_1_1, q_1_2, q_1_5, q_1_6, q_1_7, q_1_8, q_1_9, q_1_10, q_1_11, q_1_14, q_1_17_t, q_1_17_f, q_1_20, q_1_21, q_1_22, q_1_23, q_1_26, q_1_29, q_1_30, q_1_31, q_1_32, q_1_33, q_1_34, q_1_37, q_1_41, q_1_42, q_1_43, q_1_44, q_1_45, q_1_46, q_1_49, q_1_52, q_1_55, aft_i, aft_l, aft_v, Int.toNat_natCast, kd_sI, kd_sL, kd_sR, kd_cp, gI_sL, gI_sR, gL_sI, gL_sR, gR_sI, gR_sL, gL_cp, gR_cp, kd_aI, gL_aI, gR_aI, gI_aI, gI_aIn, sI_aI, gI_sIn, Int.reduceToNat, Int.reduceAdd, Int.reduceSub, Int.reduceMul, Int.reduceNeg, Int.zero_add, r129_7, u1]
  | k + 1, i, hi => by
    have c7 := wT.1
    have n7 : nM N ≤ 7 := Nat.le_trans wN.1 wT.1
    have u1 := u.1
    have r7 := wN.2.1 i (by omega)
    have u2 := u.2.2.2.1 i (by omega)
    have sh := shl1 (j := nR N i) (by omega)
    have p7 : 2 ^ nR N i < 2 ^ 7 := Nat.pow_lt_pow_right (by omega) (by omega)
    have cb := rwB_b wT wN (i := i) (by omega)
    have o1 := orI_n (a := rwB N i) (b := 2 ^ nR N i) (by omega) (by omega)
    have ih := wSe_loop d h L T N wT wN u k (i + 1) (by omega)
    have eC : rwB N (i + 1) = rwB N i ||| 2 ^ nR N i := rfl
    rw [eC] at ih
    obtain ⟨k14, j14⟩ := lay_k L (a := 14) (t := 2) (n := 5) rfl; obtain ⟨k15, j15⟩ := lay_k L (a := 15) (t := 100) (n := 7) rfl; obtain ⟨k129, j129⟩ := lay_k L (a := 129) (t := 0) (n := 9) rfl; have r129_7 : gR h 129 7 = some 14 := lay_r L rfl; have r14_0 : gR h 14 0 = some 15 := lay_r L rfl
    rw [q_1_9]
    simp (disch := (first | omega | (simp only [kd_sI, kd_sL, kd_sR, kd_cp, kd_aI]; omega) | (unfold catV; exact rfl) | (unfold catS; exact Nat.le_of_ble_eq_true rfl) | assumption)) only [q_1_0, q_1_1, q_1_2, q_1_5, q_1_6, q_1_7, q_1_8, q_1_10, q_1_11, q_1_14, q_1_17_t, q_1_17_f, q_1_20, q_1_21, q_1_22, q_1_23, q_1_26, q_1_29, q_1_30, q_1_31, q_1_32, q_1_33, q_1_34, q_1_37, q_1_41, q_1_42, q_1_43, q_1_44, q_1_45, q_1_46, q_1_49, q_1_52, q_1_55, aft_i, aft_l, aft_v, Int.toNat_natCast, kd_sI, kd_sL, kd_sR, kd_cp, gI_sL, gI_sR, gL_sI, gL_sR, gR_sI, gR_sL, gL_cp, gR_cp, kd_aI, gL_aI, gR_aI, gI_aI, gI_aIn, sI_aI, gI_sIn, Int.reduceToNat, Int.reduceAdd, Int.reduceSub, Int.reduceMul, Int.reduceNeg, Int.zero_add, r129_7, u1, r14_0, u2, sh, o1]
    exact ih
theorem wSe_ok (d : Nat) (h : mH) (L : LAY h) (T : Td) (N : Nt) (wT : wfT T) (wN : wfN T N) (r : dfR h T N) : ∃ g b, callA (d + 18) 1 [Sum.inr (Sum.inr (some 129))] h = some (none, g) ∧ dfF h g ∧ bstK g T N (some b) ∧ isBest (keyL T N) (notLost N (tN T)) b := by
  have L0 := L
  have s1 : dfF h (sI h 129 1 (-1)) := dfF_s (by omega)
  have L1 := dfF_L s1 L
  have r1 := dfF_R s1 r
  have n7 : nM N ≤ 7 := Nat.le_trans wN.1 wT.1
  have l0 := (notLost_perm wN).length_eq
  rw [rowL_len] at l0
  have eb := rwB_nl T N
  have pm : (([] : List Nat) ++ bLf (rwB N (nM N)) (tN T) 0).Perm (notLost N (tN T)) := by
    rw [eb]; exact List.Perm.refl _
  obtain ⟨g, e, q1, q2, q3, b, q4, q5, q6, q7, q8⟩ := dStp_all (d + 14 - 2 * nM N) T N wT wN (nM N) [] (rwB N (nM N)) 0 none (sI h 129 1 (-1)) L1 (by rw [eb]; exact l0) ⟨r1, rwB_b wT wN (Nat.le_refl _), pm, rfl, rwO_nil _ _, fun c hc => absurd hc List.not_mem_nil, gI_sIs _ _ _ _, fun b e => (by cases e), fun _ => rfl⟩
  refine ⟨g, b, ?_, dfF_tr s1 q1, q4, q5, fun q pq => q7 q pq⟩
  have n0 : nearS T (onR N []) = 0 := rfl
  have lx := least_x (T := T) wN
  rw [eb, n0, show d + 14 - 2 * nM N + 2 * nM N + 3 = d + 17 by omega] at e
  have e : callA (d + 17) 2 [Sum.inr (Sum.inr (some 129)), Sum.inl 0, Sum.inl (rwB N (nM N) : Int), Sum.inl 0, Sum.inl 0, Sum.inl (sumX N (notLost N (tN T)) : Int)] (sI h 129 1 (-1)) = some (none, g) := e
  rw [← lx] at e
  have el := wSe_loop (d + 17) _ L1 T N wT wN r1.2.1 (nM N) 0 (Nat.zero_add _)
  have el : resA (callA (d + 17)) 1 (9, [Sum.inr (Sum.inr (some 129)), Sum.inl 0, Sum.inl 0], [], sI h 129 1 (-1)) = _ := el
  have ew := wWid_ok (d + 16) _ L1 T N wT wN r1.2.1
  obtain ⟨v1, v2⟩ := lay_k L1 (a := 129) (t := 0) (n := 9) rfl
  obtain ⟨v3, v4⟩ := lay_k L1 (a := 14) (t := 2) (n := 5) rfl
  have t7 : gR (sI h 129 1 (-1)) 129 7 = some 14 := lay_r L1 rfl
  obtain ⟨k129, j129⟩ := lay_k L0 (a := 129) (t := 0) (n := 9) rfl; have r129_7 : gR h 129 7 = some 14 := lay_r L0 rfl
  rw [en_1]
  simp (disch := (first | omega | (simp only [kd_sI, kd_sL, kd_sR, kd_cp, kd_aI]; omega) | (unfold catV; exact rfl) | (unfold catS; exact Nat.le_of_ble_eq_true rfl) | assumption)) only [q_1_0, q_1_1, q_1_2, q_1_5, q_1_6, q_1_7, q_1_8, q_1_10, q_1_11, q_1_14, q_1_17_t, q_1_17_f, q_1_20, q_1_21, q_1_22, q_1_23, q_1_26, q_1_29, q_1_30, q_1_31, q_1_32, q_1_33, q_1_34, q_1_37, q_1_41, q_1_42, q_1_43, q_1_44, q_1_45, q_1_46, q_1_49, q_1_52, q_1_55, aft_i, aft_l, aft_v, Int.toNat_natCast, kd_sI, kd_sL, kd_sR, kd_cp, gI_sL, gI_sR, gL_sI, gL_sR, gR_sI, gR_sL, gL_cp, gR_cp, kd_aI, gL_aI, gR_aI, gI_aI, gI_aIn, sI_aI, gI_sIn, Int.reduceToNat, Int.reduceAdd, Int.reduceSub, Int.reduceMul, Int.reduceNeg, Int.zero_add]
  rw [el]
  simp (disch := (first | omega | (simp only [kd_sI, kd_sL, kd_sR, kd_cp, kd_aI]; omega) | (unfold catV; exact rfl) | (unfold catS; exact Nat.le_of_ble_eq_true rfl) | assumption)) only [q_1_0, q_1_1, q_1_2, q_1_5, q_1_6, q_1_7, q_1_8, q_1_10, q_1_11, q_1_14, q_1_17_t, q_1_17_f, q_1_20, q_1_21, q_1_22, q_1_23, q_1_26, q_1_29, q_1_30, q_1_31, q_1_32, q_1_33, q_1_34, q_1_37, q_1_40, q_1_41, q_1_42, q_1_43, q_1_44, q_1_45, q_1_46, q_1_49, q_1_52, q_1_55, aft_i, aft_l, aft_v, Int.toNat_natCast, kd_sI, kd_sL, kd_sR, kd_cp, gI_sL, gI_sR, gL_sI, gL_sR, gR_sI, gR_sL, gL_cp, gR_cp, kd_aI, gL_aI, gR_aI, gI_aI, gI_aIn, sI_aI, gI_sIn, Int.reduceToNat, Int.reduceAdd, Int.reduceSub, Int.reduceMul, Int.reduceNeg, Int.zero_add, r129_7, ew, e]
theorem cBest_ok (d : Nat) (h : mH) (L : LAY h) (σ : Sg) (w : wfS σ) (c : CI h σ) (i : Int) : ∃ b, isBest (keyL (zT σ) (zN σ)) (notLost (zN σ) (tN (zT σ))) b ∧ cOK (d + 20) 79 [Sum.inl i] h (Sum.inl (bstA (zT σ) (zN σ) i b)) σ := by
  have L0 := L
  have wT := w.1
  have c7 := wT.1
  have wN := w.2.1.1
  have n7 : nM (zN σ) ≤ 7 := Nat.le_trans wN.1 wT.1
  have q := CI_q c
  have l0 := (notLost_perm wN).length_eq
  rw [rowL_len] at l0
  have key : ∃ b g, isBest (keyL (zT σ) (zN σ)) (notLost (zN σ) (tN (zT σ))) b ∧ (-3 ≤ i ∧ i ≤ 6 → resA (callA (d + 19)) 79 (14, [Sum.inr (Sum.inr (some 0)), Sum.inl i], [], h) = resA (callA (d + 19)) 79 (33, [Sum.inr (Sum.inr (some 0)), Sum.inl i], [], g)) ∧ frm 0 141 h g ∧ LAY g ∧ CI g σ ∧ gI g 129 1 = (stN (zT σ) (onR (zN σ) b) : Int) ∧ gI g 129 2 = nearS (zT σ) (onR (zN σ) b) ∧ (0 < stN (zT σ) (onR (zN σ) b) → gI g 129 3 = lastS (zT σ) (onR (zN σ) b)) ∧ rwO (gI g 130) 0 b := by
    obtain ⟨c0, cc, bk⟩ := c
    rcases bk with b0 | ⟨b0, b, b1, b2, b3, b4, b5⟩
    · have r : dfR h (zT σ) (zN σ) := ⟨q.1, q.2.1, q.2.2.2.2⟩
      obtain ⟨g1, b, e1, f1, s1, ib⟩ := wSe_ok (d + 1) h L (zT σ) (zN σ) wT wN r
      have L1 := dfF_L f1 L
      obtain ⟨t1, t2, t3, t4⟩ := s1
      obtain ⟨nb, bb⟩ := nl_b ib.1
      have op := out_st (T := zT σ) (onR_wf wN nb bb)
      have op : outN (zT σ) (onR (zN σ) b) = (b.length : Int) - stN (zT σ) (onR (zN σ) b) := op
      have qq : qt h (sI g1 0 9 1) := qt_tr (show qt h g1 from ⟨f1.1, f1.2.2.1, ⟨fun _ _ _ => by rw [f1.2.2.2], brR_e f1.2.2.2⟩, fun p k n => f1.2.1 p k (fun y => n (Or.inr (Or.inr (Or.inr (Or.inl ⟨by omega, by omega⟩)))))⟩) (qt_s (Or.inl ⟨rfl, Or.inr rfl⟩))
      have x1 : ∀ k, gI (sI g1 0 9 1) 129 k = gI g1 129 k := fun k => by rw [gI_sIn (by omega)]
      have x2 : gI (sI g1 0 9 1) 130 = gI g1 130 := by rw [gI_sIn (by omega)]
      refine ⟨b, sI g1 0 9 1, ib, fun hi => ?_, qt_frm qq, lay_sI L1 _ _ _, ⟨qt_CI0 qq c0, ?_, Or.inr ⟨gI_sIs _ _ _ _, b, ib, ?_, by rw [x1]; exact t2, fun u => ?_, by rw [x2]; exact t4⟩⟩, by rw [x1]; exact t1, by rw [x1]; exact t2, fun u => by rw [x1]; exact t3 u, by rw [x2]; exact t4⟩
      · obtain ⟨v1, v2⟩ := lay_k L1 (a := 0) (t := 7) (n := 17) rfl
        have e1' : callA (d + 19) 1 [Sum.inr (Sum.inr (some 129))] h = some (none, g1) := e1
        obtain ⟨k0, j0⟩ := lay_k L0 (a := 0) (t := 7) (n := 17) rfl; obtain ⟨k129, j129⟩ := lay_k L0 (a := 129) (t := 0) (n := 9) rfl; have r0_8 : gR h 0 8 = some 129 := lay_r L0 rfl
        simp (disch := (first | omega | (simp only [kd_sI, kd_sL, kd_sR, kd_cp, kd_aI]; omega) | (unfold catV; exact rfl) | (unfold catS; exact Nat.le_of_ble_eq_true rfl) | assumption)) only [q_79_0, q_79_1, q_79_3_t, q_79_3_f, q_79_6, q_79_7, q_79_9_t, q_79_9_f, q_79_12, q_79_13, q_79_14, q_79_15, q_79_18_t, q_79_18_f, q_79_21, q_79_22, q_79_25, q_79_28, q_79_29, q_79_30, q_79_34_0, q_79_34_1, q_79_34_2, q_79_34_d, q_79_60, q_79_61, q_79_64, q_79_67, q_79_68, q_79_69, q_79_72, q_79_75, q_79_76, q_79_77, q_79_80, q_79_83_t, q_79_83_f, q_79_86, q_79_87, q_79_90, q_79_93, q_79_96, q_79_98, q_79_99, q_79_100, q_79_101, q_79_104, q_79_107, q_79_110_t, q_79_110_f, q_79_113, q_79_114, q_79_117, q_79_120, q_79_121, q_79_122, q_79_125, q_79_127, aft_i, aft_l, aft_v, Int.toNat_natCast, kd_sI, kd_sL, kd_sR, kd_cp, gI_sL, gI_sR, gL_sI, gL_sR, gR_sI, gR_sL, gL_cp, gR_cp, kd_aI, gL_aI, gR_aI, gI_aI, gI_aIn, sI_aI, gI_sIn, Int.reduceToNat, Int.reduceAdd, Int.reduceSub, Int.reduceMul, Int.reduceNeg, Int.zero_add, b0, r0_8, e1']
      · obtain ⟨u1, u2, u3, u4⟩ := cc
        have fr : ∀ p k, ¬ (129 ≤ p ∧ p ≤ 132) → ¬ (p = 0 ∧ k = 9) → gI (sI g1 0 9 1) p k = gI h p k := fun p k n1 n2 => by
          rw [gI_sI, if_neg n2]; exact f1.2.1 p k n1
        refine ⟨fun k hk => ?_, ?_, ?_, fun w k x y f => ?_⟩
        · rw [fr 128 k (by omega) (by omega)]; exact u1 k hk
        · rw [fr 0 7 (by omega) (by omega)]; exact u2
        · rw [fr 119 1 (by omega) (by omega)]; exact u3
        · rw [fr (121 + w) k (by omega) (by omega)]; exact u4 w k x y f
      · rw [x1, t1, op]; omega
      · rw [x1] at u ⊢
        exact t3 (by omega)
    · obtain ⟨nb, bb⟩ := nl_b b1.1
      have op := out_st (T := zT σ) (onR_wf wN nb bb)
      have op : outN (zT σ) (onR (zN σ) b) = (b.length : Int) - stN (zT σ) (onR (zN σ) b) := op
      refine ⟨b, h, b1, fun hi => ?_, frm_rf _ _ _, L, ⟨c0, cc, Or.inr ⟨b0, b, b1, b2, b3, b4, b5⟩⟩, by rw [b2, op]; omega, b3, fun u => b4 (by rw [b2, op]; omega), b5⟩
      obtain ⟨k0, j0⟩ := lay_k L0 (a := 0) (t := 7) (n := 17) rfl; obtain ⟨k129, j129⟩ := lay_k L0 (a := 129) (t := 0) (n := 9) rfl; have r0_8 : gR h 0 8 = some 129 := lay_r L0 rfl
      simp (disch := (first | omega | (simp only [kd_sI, kd_sL, kd_sR, kd_cp, kd_aI]; omega) | (unfold catV; exact rfl) | (unfold catS; exact Nat.le_of_ble_eq_true rfl) | assumption)) only [q_79_0, q_79_1, q_79_3_t, q_79_3_f, q_79_6, q_79_7, q_79_9_t, q_79_9_f, q_79_12, q_79_13, q_79_14, q_79_15, q_79_18_t, q_79_18_f, q_79_21, q_79_22, q_79_25, q_79_28, q_79_29, q_79_30, q_79_34_0, q_79_34_1, q_79_34_2, q_79_34_d, q_79_60, q_79_61, q_79_64, q_79_67, q_79_68, q_79_69, q_79_72, q_79_75, q_79_76, q_79_77, q_79_80, q_79_83_t, q_79_83_f, q_79_86, q_79_87, q_79_90, q_79_93, q_79_96, q_79_98, q_79_99, q_79_100, q_79_101, q_79_104, q_79_107, q_79_110_t, q_79_110_f, q_79_113, q_79_114, q_79_117, q_79_120, q_79_121, q_79_122, q_79_125, q_79_127, aft_i, aft_l, aft_v, Int.toNat_natCast, kd_sI, kd_sL, kd_sR, kd_cp, gI_sL, gI_sR, gL_sI, gL_sR, gR_sI, gR_sL, gL_cp, gR_cp, kd_aI, gL_aI, gR_aI, gI_aI, gI_aIn, sI_aI, gI_sIn, Int.reduceToNat, Int.reduceAdd, Int.reduceSub, Int.reduceMul, Int.reduceNeg, Int.zero_add, b0]
  obtain ⟨b, g, ib, e1, fr, Lg, cg, t1, t2, t3, t4⟩ := key
  refine ⟨b, ib, ?_⟩
  obtain ⟨nb, bb⟩ := nl_b ib.1
  have wO := onR_wf wN nb bb
  have op := out_st (T := zT σ) wO
  have op : outN (zT σ) (onR (zN σ) b) = (b.length : Int) - stN (zT σ) (onR (zN σ) b) := op
  have lb := ib.1.length_eq
  have qg := CI_q cg
  have u1 := qg.2.1.1
  unfold bstA
  by_cases z : -3 ≤ i ∧ i ≤ 6
  · rw [if_pos z]
    refine ⟨g, ?_, fr, Lg, cg⟩
    have e1 := e1 z
    have hd : callA (d + 20) 79 [Sum.inr (Sum.inr (some 0)), Sum.inl i] h = resA (callA (d + 19)) 79 (33, [Sum.inr (Sum.inr (some 0)), Sum.inl i], [], g) := by
      rw [← e1, en_79]
      simp (disch := (first | omega | (simp only [kd_sI, kd_sL, kd_sR, kd_cp, kd_aI]; omega) | (unfold catV; exact rfl) | (unfold catS; exact Nat.le_of_ble_eq_true rfl) | assumption)) only [q_79_0, q_79_1, q_79_3_t, q_79_3_f, q_79_6, q_79_7, q_79_9_t, q_79_9_f, q_79_12, q_79_13, q_79_15, q_79_18_t, q_79_18_f, q_79_21, q_79_22, q_79_25, q_79_28, q_79_29, q_79_30, q_79_33, q_79_34_0, q_79_34_1, q_79_34_2, q_79_34_d, q_79_60, q_79_61, q_79_64, q_79_67, q_79_68, q_79_69, q_79_72, q_79_75, q_79_76, q_79_77, q_79_80, q_79_83_t, q_79_83_f, q_79_86, q_79_87, q_79_90, q_79_93, q_79_96, q_79_98, q_79_99, q_79_100, q_79_101, q_79_104, q_79_107, q_79_110_t, q_79_110_f, q_79_113, q_79_114, q_79_117, q_79_120, q_79_121, q_79_122, q_79_125, q_79_127, aft_i, aft_l, aft_v, Int.toNat_natCast, kd_sI, kd_sL, kd_sR, kd_cp, gI_sL, gI_sR, gL_sI, gL_sR, gR_sI, gR_sL, gL_cp, gR_cp, kd_aI, gL_aI, gR_aI, gI_aI, gI_aIn, sI_aI, gI_sIn, Int.reduceToNat, Int.reduceAdd, Int.reduceSub, Int.reduceMul, Int.reduceNeg, Int.zero_add]
    rw [hd]
    obtain ⟨v1, v2⟩ := lay_k Lg (a := 0) (t := 7) (n := 17) rfl
    obtain ⟨v3, v4⟩ := lay_k Lg (a := 129) (t := 0) (n := 9) rfl
    obtain ⟨v5, v6⟩ := lay_k Lg (a := 13) (t := 4) (n := 4) rfl
    obtain ⟨v7, v8⟩ := lay_k Lg (a := 14) (t := 2) (n := 5) rfl
    obtain ⟨v9, v10⟩ := lay_k Lg (a := 130) (t := 100) (n := 7) rfl
    have y1 : gR g 0 8 = some 129 := lay_r Lg rfl
    have y2 : gR g 0 3 = some 13 := lay_r Lg rfl
    have y3 : gR g 13 0 = some 14 := lay_r Lg rfl
    have y4 : gR g 129 0 = some 130 := lay_r Lg rfl
    by_cases z1 : i = -1
    · rw [if_pos z1]
      subst z1
      have ea : (b.length : Int) - outN (zT σ) (onR (zN σ) b) = stN (zT σ) (onR (zN σ) b) := by omega
      rw [ea]
      simp (disch := (first | omega | (simp only [kd_sI, kd_sL, kd_sR, kd_cp, kd_aI]; omega) | (unfold catV; exact rfl) | (unfold catS; exact Nat.le_of_ble_eq_true rfl) | assumption)) only [q_79_0, q_79_1, q_79_3_t, q_79_3_f, q_79_6, q_79_7, q_79_9_t, q_79_9_f, q_79_12, q_79_13, q_79_14, q_79_15, q_79_18_t, q_79_18_f, q_79_21, q_79_22, q_79_25, q_79_28, q_79_29, q_79_30, q_79_33, q_79_34_0, q_79_34_1, q_79_34_2, q_79_34_d, q_79_60, q_79_61, q_79_64, q_79_67, q_79_68, q_79_69, q_79_72, q_79_75, q_79_76, q_79_77, q_79_80, q_79_83_t, q_79_83_f, q_79_86, q_79_87, q_79_90, q_79_93, q_79_96, q_79_98, q_79_99, q_79_100, q_79_101, q_79_104, q_79_107, q_79_110_t, q_79_110_f, q_79_113, q_79_114, q_79_117, q_79_120, q_79_121, q_79_122, q_79_125, q_79_127, aft_i, aft_l, aft_v, Int.toNat_natCast, kd_sI, kd_sL, kd_sR, kd_cp, gI_sL, gI_sR, gL_sI, gL_sR, gR_sI, gR_sL, gL_cp, gR_cp, kd_aI, gL_aI, gR_aI, gI_aI, gI_aIn, sI_aI, gI_sIn, Int.reduceToNat, Int.reduceAdd, Int.reduceSub, Int.reduceMul, Int.reduceNeg, Int.zero_add, y1, t1]
    rw [if_neg z1]
    by_cases z2 : i = -2
    · rw [if_pos z2]
      subst z2
      simp (disch := (first | omega | (simp only [kd_sI, kd_sL, kd_sR, kd_cp, kd_aI]; omega) | (unfold catV; exact rfl) | (unfold catS; exact Nat.le_of_ble_eq_true rfl) | assumption)) only [q_79_0, q_79_1, q_79_3_t, q_79_3_f, q_79_6, q_79_7, q_79_9_t, q_79_9_f, q_79_12, q_79_13, q_79_14, q_79_15, q_79_18_t, q_79_18_f, q_79_21, q_79_22, q_79_25, q_79_28, q_79_29, q_79_30, q_79_33, q_79_34_0, q_79_34_1, q_79_34_2, q_79_34_d, q_79_60, q_79_61, q_79_64, q_79_67, q_79_68, q_79_69, q_79_72, q_79_75, q_79_76, q_79_77, q_79_80, q_79_83_t, q_79_83_f, q_79_86, q_79_87, q_79_90, q_79_93, q_79_96, q_79_98, q_79_99, q_79_100, q_79_101, q_79_104, q_79_107, q_79_110_t, q_79_110_f, q_79_113, q_79_114, q_79_117, q_79_120, q_79_121, q_79_122, q_79_125, q_79_127, aft_i, aft_l, aft_v, Int.toNat_natCast, kd_sI, kd_sL, kd_sR, kd_cp, gI_sL, gI_sR, gL_sI, gL_sR, gR_sI, gR_sL, gL_cp, gR_cp, kd_aI, gL_aI, gR_aI, gI_aI, gI_aIn, sI_aI, gI_sIn, Int.reduceToNat, Int.reduceAdd, Int.reduceSub, Int.reduceMul, Int.reduceNeg, Int.zero_add, y1, t2]
    rw [if_neg z2]
    by_cases z3 : i = -3
    · rw [if_pos z3]
      subst z3
      by_cases y : 0 < stN (zT σ) (onR (zN σ) b)
      · have t3 := t3 y
        simp (disch := (first | omega | (simp only [kd_sI, kd_sL, kd_sR, kd_cp, kd_aI]; omega) | (unfold catV; exact rfl) | (unfold catS; exact Nat.le_of_ble_eq_true rfl) | assumption)) only [q_79_0, q_79_1, q_79_3_t, q_79_3_f, q_79_6, q_79_7, q_79_9_t, q_79_9_f, q_79_12, q_79_13, q_79_14, q_79_15, q_79_18_t, q_79_18_f, q_79_21, q_79_22, q_79_25, q_79_28, q_79_29, q_79_30, q_79_33, q_79_34_0, q_79_34_1, q_79_34_2, q_79_34_d, q_79_60, q_79_61, q_79_64, q_79_67, q_79_68, q_79_69, q_79_72, q_79_75, q_79_76, q_79_77, q_79_80, q_79_83_t, q_79_83_f, q_79_86, q_79_87, q_79_90, q_79_93, q_79_96, q_79_98, q_79_99, q_79_100, q_79_101, q_79_104, q_79_107, q_79_110_t, q_79_110_f, q_79_113, q_79_114, q_79_117, q_79_120, q_79_121, q_79_122, q_79_125, q_79_127, aft_i, aft_l, aft_v, Int.toNat_natCast, kd_sI, kd_sL, kd_sR, kd_cp, gI_sL, gI_sR, gL_sI, gL_sR, gR_sI, gR_sL, gL_cp, gR_cp, kd_aI, gL_aI, gR_aI, gI_aI, gI_aIn, sI_aI, gI_sIn, Int.reduceToNat, Int.reduceAdd, Int.reduceSub, Int.reduceMul, Int.reduceNeg, Int.zero_add, y1, t1, t3]
      · have s0 : stN (zT σ) (onR (zN σ) b) = 0 := by omega
        have l9 := (last_is wT wO rfl).1 s0
        rw [s0] at t1
        have t1 : gI g 129 1 = 0 := t1
        rw [l9]
        simp (disch := (first | omega | (simp only [kd_sI, kd_sL, kd_sR, kd_cp, kd_aI]; omega) | (unfold catV; exact rfl) | (unfold catS; exact Nat.le_of_ble_eq_true rfl) | assumption)) only [q_79_0, q_79_1, q_79_3_t, q_79_3_f, q_79_6, q_79_7, q_79_9_t, q_79_9_f, q_79_12, q_79_13, q_79_14, q_79_15, q_79_18_t, q_79_18_f, q_79_21, q_79_22, q_79_25, q_79_28, q_79_29, q_79_30, q_79_33, q_79_34_0, q_79_34_1, q_79_34_2, q_79_34_d, q_79_60, q_79_61, q_79_64, q_79_67, q_79_68, q_79_69, q_79_72, q_79_75, q_79_76, q_79_77, q_79_80, q_79_83_t, q_79_83_f, q_79_86, q_79_87, q_79_90, q_79_93, q_79_96, q_79_98, q_79_99, q_79_100, q_79_101, q_79_104, q_79_107, q_79_110_t, q_79_110_f, q_79_113, q_79_114, q_79_117, q_79_120, q_79_121, q_79_122, q_79_125, q_79_127, aft_i, aft_l, aft_v, Int.toNat_natCast, kd_sI, kd_sL, kd_sR, kd_cp, gI_sL, gI_sR, gL_sI, gL_sR, gR_sI, gR_sL, gL_cp, gR_cp, kd_aI, gL_aI, gR_aI, gI_aI, gI_aIn, sI_aI, gI_sIn, Int.reduceToNat, Int.reduceAdd, Int.reduceSub, Int.reduceMul, Int.reduceNeg, Int.zero_add, y1, t1]
    rw [if_neg z3]
    by_cases y : i < b.length
    · rw [if_pos y]
      have hx := t4 i.toNat (by omega)
      rw [Nat.zero_add, ← ofL_at] at hx
      have yn : i < nM (zN σ) := by omega
      simp (disch := (first | omega | (simp only [kd_sI, kd_sL, kd_sR, kd_cp, kd_aI]; omega) | (unfold catV; exact rfl) | (unfold catS; exact Nat.le_of_ble_eq_true rfl) | assumption)) only [q_79_0, q_79_1, q_79_3_t, q_79_3_f, q_79_6, q_79_7, q_79_9_t, q_79_9_f, q_79_12, q_79_13, q_79_14, q_79_15, q_79_18_t, q_79_18_f, q_79_21, q_79_22, q_79_25, q_79_28, q_79_29, q_79_30, q_79_33, q_79_34_0, q_79_34_1, q_79_34_2, q_79_34_d, q_79_60, q_79_61, q_79_64, q_79_67, q_79_68, q_79_69, q_79_72, q_79_75, q_79_76, q_79_77, q_79_80, q_79_83_t, q_79_83_f, q_79_86, q_79_87, q_79_90, q_79_93, q_79_96, q_79_98, q_79_99, q_79_100, q_79_101, q_79_104, q_79_107, q_79_110_t, q_79_110_f, q_79_113, q_79_114, q_79_117, q_79_120, q_79_121, q_79_122, q_79_125, q_79_127, aft_i, aft_l, aft_v, Int.toNat_natCast, kd_sI, kd_sL, kd_sR, kd_cp, gI_sL, gI_sR, gL_sI, gL_sR, gR_sI, gR_sL, gL_cp, gR_cp, kd_aI, gL_aI, gR_aI, gI_aI, gI_aIn, sI_aI, gI_sIn, Int.reduceToNat, Int.reduceAdd, Int.reduceSub, Int.reduceMul, Int.reduceNeg, Int.zero_add, y1, y2, y3, y4, u1, hx]
    · rw [if_neg y]
      simp (disch := (first | omega | (simp only [kd_sI, kd_sL, kd_sR, kd_cp, kd_aI]; omega) | (unfold catV; exact rfl) | (unfold catS; exact Nat.le_of_ble_eq_true rfl) | assumption)) only [q_79_0, q_79_1, q_79_3_t, q_79_3_f, q_79_6, q_79_7, q_79_9_t, q_79_9_f, q_79_12, q_79_13, q_79_14, q_79_15, q_79_18_t, q_79_18_f, q_79_21, q_79_22, q_79_25, q_79_28, q_79_29, q_79_30, q_79_33, q_79_34_0, q_79_34_1, q_79_34_2, q_79_34_d, q_79_60, q_79_61, q_79_64, q_79_67, q_79_68, q_79_69, q_79_72, q_79_75, q_79_76, q_79_77, q_79_80, q_79_83_t, q_79_83_f, q_79_86, q_79_87, q_79_90, q_79_93, q_79_96, q_79_98, q_79_99, q_79_100, q_79_101, q_79_104, q_79_107, q_79_110_t, q_79_110_f, q_79_113, q_79_114, q_79_117, q_79_120, q_79_121, q_79_122, q_79_125, q_79_127, aft_i, aft_l, aft_v, Int.toNat_natCast, kd_sI, kd_sL, kd_sR, kd_cp, gI_sL, gI_sR, gL_sI, gL_sR, gR_sI, gR_sL, gL_cp, gR_cp, kd_aI, gL_aI, gR_aI, gI_aI, gI_aIn, sI_aI, gI_sIn, Int.reduceToNat, Int.reduceAdd, Int.reduceSub, Int.reduceMul, Int.reduceNeg, Int.zero_add, y1, y2, y3, u1]
  · rw [if_neg z]
    refine ⟨h, ?_, frm_rf _ _ _, L, c⟩
    rw [en_79]
    by_cases y : i < -3
    · simp (disch := (first | omega | (simp only [kd_sI, kd_sL, kd_sR, kd_cp, kd_aI]; omega) | (unfold catV; exact rfl) | (unfold catS; exact Nat.le_of_ble_eq_true rfl) | assumption)) only [q_79_0, q_79_1, q_79_3_t, q_79_3_f, q_79_6, q_79_7, q_79_9_t, q_79_9_f, q_79_12, q_79_13, q_79_15, q_79_18_t, q_79_18_f, q_79_21, q_79_22, q_79_25, q_79_28, q_79_29, q_79_30, q_79_33, q_79_34_0, q_79_34_1, q_79_34_2, q_79_34_d, q_79_60, q_79_61, q_79_64, q_79_67, q_79_68, q_79_69, q_79_72, q_79_75, q_79_76, q_79_77, q_79_80, q_79_83_t, q_79_83_f, q_79_86, q_79_87, q_79_90, q_79_93, q_79_96, q_79_98, q_79_99, q_79_100, q_79_101, q_79_104, q_79_107, q_79_110_t, q_79_110_f, q_79_113, q_79_114, q_79_117, q_79_120, q_79_121, q_79_122, q_79_125, q_79_127, aft_i, aft_l, aft_v, Int.toNat_natCast, kd_sI, kd_sL, kd_sR, kd_cp, gI_sL, gI_sR, gL_sI, gL_sR, gR_sI, gR_sL, gL_cp, gR_cp, kd_aI, gL_aI, gR_aI, gI_aI, gI_aIn, sI_aI, gI_sIn, Int.reduceToNat, Int.reduceAdd, Int.reduceSub, Int.reduceMul, Int.reduceNeg, Int.zero_add]
    · simp (disch := (first | omega | (simp only [kd_sI, kd_sL, kd_sR, kd_cp, kd_aI]; omega) | (unfold catV; exact rfl) | (unfold catS; exact Nat.le_of_ble_eq_true rfl) | assumption)) only [q_79_0, q_79_1, q_79_3_t, q_79_3_f, q_79_6, q_79_7, q_79_9_t, q_79_9_f, q_79_12, q_79_13, q_79_15, q_79_18_t, q_79_18_f, q_79_21, q_79_22, q_79_25, q_79_28, q_79_29, q_79_30, q_79_33, q_79_34_0, q_79_34_1, q_79_34_2, q_79_34_d, q_79_60, q_79_61, q_79_64, q_79_67, q_79_68, q_79_69, q_79_72, q_79_75, q_79_76, q_79_77, q_79_80, q_79_83_t, q_79_83_f, q_79_86, q_79_87, q_79_90, q_79_93, q_79_96, q_79_98, q_79_99, q_79_100, q_79_101, q_79_104, q_79_107, q_79_110_t, q_79_110_f, q_79_113, q_79_114, q_79_117, q_79_120, q_79_121, q_79_122, q_79_125, q_79_127, aft_i, aft_l, aft_v, Int.toNat_natCast, kd_sI, kd_sL, kd_sR, kd_cp, gI_sL, gI_sR, gL_sI, gL_sR, gR_sI, gR_sL, gL_cp, gR_cp, kd_aI, gL_aI, gR_aI, gI_aI, gI_aIn, sI_aI, gI_sIn, Int.reduceToNat, Int.reduceAdd, Int.reduceSub, Int.reduceMul, Int.reduceNeg, Int.zero_add]
