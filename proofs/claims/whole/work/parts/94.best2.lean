def btB (h : mH) (s nr la : Int) : Bool := if s ≠ gI h 129 1 then decide (gI h 129 1 < s) else if nr ≠ gI h 129 2 then decide (nr < gI h 129 2) else decide (la < gI h 129 3)
theorem wBt_ok (d : Nat) (h : mH) (L : LAY h) (s nr la : Int) : callA (d + 1) 5 [Sum.inr (Sum.inr (some 129)), Sum.inl s, Sum.inl nr, Sum.inl la] h = some (some (Sum.inl (bI (btB h s nr la))), h) := by
  unfold btB
  obtain ⟨k129, j129⟩ := lay_k L (a := 129) (t := 0) (n := 9) rfl
  rw [en_5]
  by_cases z : s = gI h 129 1
  · rw [if_neg (fun y => y z)]
    by_cases y : nr = gI h 129 2
    · rw [if_neg (fun v => v y)]
      by_cases x : la < gI h 129 3
      · rw [decide_eq_true x]
        simp (disch := (first | omega | (simp only [kd_sI, kd_sL, kd_sR, kd_cp, kd_aI]; omega) | (unfold catV; exact rfl) | (unfold catS; exact Nat.le_of_ble_eq_true rfl) | assumption)) only [q_5_0, q_5_1, q_5_2, q_5_5_t, q_5_5_f, q_5_8, q_5_9, q_5_10, q_5_13_t, q_5_13_f, q_5_16, q_5_17, q_5_20, q_5_21, q_5_22, q_5_23, q_5_24, q_5_27_t, q_5_27_f, q_5_30, q_5_31, q_5_32, q_5_35_t, q_5_35_f, q_5_38, q_5_39, q_5_42, q_5_43, q_5_46, q_5_47, q_5_48, q_5_51_t, q_5_51_f, q_5_54, q_5_55, q_5_58, q_5_59, aft_i, aft_l, aft_v, Int.toNat_natCast, kd_sI, kd_sL, kd_sR, kd_cp, gI_sL, gI_sR, gL_sI, gL_sR, gR_sI, gR_sL, gL_cp, gR_cp, kd_aI, gL_aI, gR_aI, gI_aI, gI_aIn, sI_aI, gI_sIn, Int.reduceToNat, Int.reduceAdd, Int.reduceSub, Int.reduceMul, Int.reduceNeg, Int.zero_add]
        rfl
      · rw [decide_eq_false x]
        simp (disch := (first | omega | (simp only [kd_sI, kd_sL, kd_sR, kd_cp, kd_aI]; omega) | (unfold catV; exact rfl) | (unfold catS; exact Nat.le_of_ble_eq_true rfl) | assumption)) only [q_5_0, q_5_1, q_5_2, q_5_5_t, q_5_5_f, q_5_8, q_5_9, q_5_10, q_5_13_t, q_5_13_f, q_5_16, q_5_17, q_5_20, q_5_21, q_5_22, q_5_23, q_5_24, q_5_27_t, q_5_27_f, q_5_30, q_5_31, q_5_32, q_5_35_t, q_5_35_f, q_5_38, q_5_39, q_5_42, q_5_43, q_5_46, q_5_47, q_5_48, q_5_51_t, q_5_51_f, q_5_54, q_5_55, q_5_58, q_5_59, aft_i, aft_l, aft_v, Int.toNat_natCast, kd_sI, kd_sL, kd_sR, kd_cp, gI_sL, gI_sR, gL_sI, gL_sR, gR_sI, gR_sL, gL_cp, gR_cp, kd_aI, gL_aI, gR_aI, gI_aI, gI_aIn, sI_aI, gI_sIn, Int.reduceToNat, Int.reduceAdd, Int.reduceSub, Int.reduceMul, Int.reduceNeg, Int.zero_add]
        rfl
    · rw [if_pos y]
      by_cases x : nr < gI h 129 2
      · rw [decide_eq_true x]
        simp (disch := (first | omega | (simp only [kd_sI, kd_sL, kd_sR, kd_cp, kd_aI]; omega) | (unfold catV; exact rfl) | (unfold catS; exact Nat.le_of_ble_eq_true rfl) | assumption)) only [q_5_0, q_5_1, q_5_2, q_5_5_t, q_5_5_f, q_5_8, q_5_9, q_5_10, q_5_13_t, q_5_13_f, q_5_16, q_5_17, q_5_20, q_5_21, q_5_22, q_5_23, q_5_24, q_5_27_t, q_5_27_f, q_5_30, q_5_31, q_5_32, q_5_35_t, q_5_35_f, q_5_38, q_5_39, q_5_42, q_5_43, q_5_46, q_5_47, q_5_48, q_5_51_t, q_5_51_f, q_5_54, q_5_55, q_5_58, q_5_59, aft_i, aft_l, aft_v, Int.toNat_natCast, kd_sI, kd_sL, kd_sR, kd_cp, gI_sL, gI_sR, gL_sI, gL_sR, gR_sI, gR_sL, gL_cp, gR_cp, kd_aI, gL_aI, gR_aI, gI_aI, gI_aIn, sI_aI, gI_sIn, Int.reduceToNat, Int.reduceAdd, Int.reduceSub, Int.reduceMul, Int.reduceNeg, Int.zero_add]
        rfl
      · rw [decide_eq_false x]
        simp (disch := (first | omega | (simp only [kd_sI, kd_sL, kd_sR, kd_cp, kd_aI]; omega) | (unfold catV; exact rfl) | (unfold catS; exact Nat.le_of_ble_eq_true rfl) | assumption)) only [q_5_0, q_5_1, q_5_2, q_5_5_t, q_5_5_f, q_5_8, q_5_9, q_5_10, q_5_13_t, q_5_13_f, q_5_16, q_5_17, q_5_20, q_5_21, q_5_22, q_5_23, q_5_24, q_5_27_t, q_5_27_f, q_5_30, q_5_31, q_5_32, q_5_35_t, q_5_35_f, q_5_38, q_5_39, q_5_42, q_5_43, q_5_46, q_5_47, q_5_48, q_5_51_t, q_5_51_f, q_5_54, q_5_55, q_5_58, q_5_59, aft_i, aft_l, aft_v, Int.toNat_natCast, kd_sI, kd_sL, kd_sR, kd_cp, gI_sL, gI_sR, gL_sI, gL_sR, gR_sI, gR_sL, gL_cp, gR_cp, kd_aI, gL_aI, gR_aI, gI_aI, gI_aIn, sI_aI, gI_sIn, Int.reduceToNat, Int.reduceAdd, Int.reduceSub, Int.reduceMul, Int.reduceNeg, Int.zero_add]
        rfl
  · rw [if_pos z]
    by_cases x : gI h 129 1 < s
    · rw [decide_eq_true x]
      simp (disch := (first | omega | (simp only [kd_sI, kd_sL, kd_sR, kd_cp, kd_aI]; omega) | (unfold catV; exact rfl) | (unfold catS; exact Nat.le_of_ble_eq_true rfl) | assumption)) only [q_5_0, q_5_1, q_5_2, q_5_5_t, q_5_5_f, q_5_8, q_5_9, q_5_10, q_5_13_t, q_5_13_f, q_5_16, q_5_17, q_5_20, q_5_21, q_5_22, q_5_23, q_5_24, q_5_27_t, q_5_27_f, q_5_30, q_5_31, q_5_32, q_5_35_t, q_5_35_f, q_5_38, q_5_39, q_5_42, q_5_43, q_5_46, q_5_47, q_5_48, q_5_51_t, q_5_51_f, q_5_54, q_5_55, q_5_58, q_5_59, aft_i, aft_l, aft_v, Int.toNat_natCast, kd_sI, kd_sL, kd_sR, kd_cp, gI_sL, gI_sR, gL_sI, gL_sR, gR_sI, gR_sL, gL_cp, gR_cp, kd_aI, gL_aI, gR_aI, gI_aI, gI_aIn, sI_aI, gI_sIn, Int.reduceToNat, Int.reduceAdd, Int.reduceSub, Int.reduceMul, Int.reduceNeg, Int.zero_add]
      rfl
    · rw [decide_eq_false x]
      simp (disch := (first | omega | (simp only [kd_sI, kd_sL, kd_sR, kd_cp, kd_aI]; omega) | (unfold catV; exact rfl) | (unfold catS; exact Nat.le_of_ble_eq_true rfl) | assumption)) only [q_5_0, q_5_1, q_5_2, q_5_5_t, q_5_5_f, q_5_8, q_5_9, q_5_10, q_5_13_t, q_5_13_f, q_5_16, q_5_17, q_5_20, q_5_21, q_5_22, q_5_23, q_5_24, q_5_27_t, q_5_27_f, q_5_30, q_5_31, q_5_32, q_5_35_t, q_5_35_f, q_5_38, q_5_39, q_5_42, q_5_43, q_5_46, q_5_47, q_5_48, q_5_51_t, q_5_51_f, q_5_54, q_5_55, q_5_58, q_5_59, aft_i, aft_l, aft_v, Int.toNat_natCast, kd_sI, kd_sL, kd_sR, kd_cp, gI_sL, gI_sR, gL_sI, gL_sR, gR_sI, gR_sL, gL_cp, gR_cp, kd_aI, gL_aI, gR_aI, gI_aI, gI_aIn, sI_aI, gI_sIn, Int.reduceToNat, Int.reduceAdd, Int.reduceSub, Int.reduceMul, Int.reduceNeg, Int.zero_add]
      rfl
theorem wHp_ok (d : Nat) (h : mH) (L : LAY h) (nr la : Int) : callA (d + 2) 4 [Sum.inr (Sum.inr (some 129)), Sum.inl nr, Sum.inl la] h = some (some (Sum.inl (bI (decide (gI h 129 1 = gI h 14 2) && !btB h (gI h 129 1) nr la))), h) := by
  have e := wBt_ok d h L (gI h 129 1) nr la
  obtain ⟨k14, j14⟩ := lay_k L (a := 14) (t := 2) (n := 5) rfl; obtain ⟨k129, j129⟩ := lay_k L (a := 129) (t := 0) (n := 9) rfl; have r129_7 : gR h 129 7 = some 14 := lay_r L rfl
  rw [en_4]
  by_cases z : gI h 129 1 = gI h 14 2
  · rw [decide_eq_true z, Bool.true_and]
    cases y : btB h (gI h 129 1) nr la with
    | true =>
      rw [y] at e
      have e : callA (d + 1) 5 [Sum.inr (Sum.inr (some 129)), Sum.inl (gI h 129 1), Sum.inl nr, Sum.inl la] h = some (some (Sum.inl 1), h) := e
      simp (disch := (first | omega | (simp only [kd_sI, kd_sL, kd_sR, kd_cp, kd_aI]; omega) | (unfold catV; exact rfl) | (unfold catS; exact Nat.le_of_ble_eq_true rfl) | assumption)) only [q_4_0, q_4_1, q_4_4, q_4_5, q_4_8, q_4_11_t, q_4_11_f, q_4_14, q_4_15, q_4_16, q_4_19, q_4_20, q_4_21, q_4_24_t, q_4_24_f, q_4_27, q_4_28, q_4_31, q_4_32, aft_i, aft_l, aft_v, Int.toNat_natCast, kd_sI, kd_sL, kd_sR, kd_cp, gI_sL, gI_sR, gL_sI, gL_sR, gR_sI, gR_sL, gL_cp, gR_cp, kd_aI, gL_aI, gR_aI, gI_aI, gI_aIn, sI_aI, gI_sIn, Int.reduceToNat, Int.reduceAdd, Int.reduceSub, Int.reduceMul, Int.reduceNeg, Int.zero_add, r129_7, e]
      rfl
    | false =>
      rw [y] at e
      have e : callA (d + 1) 5 [Sum.inr (Sum.inr (some 129)), Sum.inl (gI h 129 1), Sum.inl nr, Sum.inl la] h = some (some (Sum.inl 0), h) := e
      simp (disch := (first | omega | (simp only [kd_sI, kd_sL, kd_sR, kd_cp, kd_aI]; omega) | (unfold catV; exact rfl) | (unfold catS; exact Nat.le_of_ble_eq_true rfl) | assumption)) only [q_4_0, q_4_1, q_4_4, q_4_5, q_4_8, q_4_11_t, q_4_11_f, q_4_14, q_4_15, q_4_16, q_4_19, q_4_20, q_4_21, q_4_24_t, q_4_24_f, q_4_27, q_4_28, q_4_31, q_4_32, aft_i, aft_l, aft_v, Int.toNat_natCast, kd_sI, kd_sL, kd_sR, kd_cp, gI_sL, gI_sR, gL_sI, gL_sR, gR_sI, gR_sL, gL_cp, gR_cp, kd_aI, gL_aI, gR_aI, gI_aI, gI_aIn, sI_aI, gI_sIn, Int.reduceToNat, Int.reduceAdd, Int.reduceSub, Int.reduceMul, Int.reduceNeg, Int.zero_add, r129_7, e]
      rfl
  · rw [decide_eq_false z, Bool.false_and]
    simp (disch := (first | omega | (simp only [kd_sI, kd_sL, kd_sR, kd_cp, kd_aI]; omega) | (unfold catV; exact rfl) | (unfold catS; exact Nat.le_of_ble_eq_true rfl) | assumption)) only [q_4_0, q_4_1, q_4_4, q_4_5, q_4_8, q_4_11_t, q_4_11_f, q_4_14, q_4_15, q_4_16, q_4_19, q_4_20, q_4_21, q_4_24_t, q_4_24_f, q_4_27, q_4_28, q_4_31, q_4_32, aft_i, aft_l, aft_v, Int.toNat_natCast, kd_sI, kd_sL, kd_sR, kd_cp, gI_sL, gI_sR, gL_sI, gL_sR, gR_sI, gR_sL, gL_cp, gR_cp, kd_aI, gL_aI, gR_aI, gI_aI, gI_aIn, sI_aI, gI_sIn, Int.reduceToNat, Int.reduceAdd, Int.reduceSub, Int.reduceMul, Int.reduceNeg, Int.zero_add, r129_7]
    rfl
/-- what a call of the search may change -/
def dfF (h g : mH) : Prop := g.1 = h.1 ∧ (∀ q k, ¬ (129 ≤ q ∧ q ≤ 132) → gI g q k = gI h q k) ∧ gL g = gL h ∧ gR g = gR h
theorem dfF_rf (h : mH) : dfF h h := ⟨rfl, fun _ _ _ => rfl, rfl, rfl⟩
theorem dfF_tr {h g k : mH} (a : dfF h g) (b : dfF g k) : dfF h k := ⟨b.1.trans a.1, fun q j x => (b.2.1 q j x).trans (a.2.1 q j x), b.2.2.1.trans a.2.2.1, b.2.2.2.trans a.2.2.2⟩
theorem dfF_s {h : mH} {a k : Nat} {x : Int} (n : 129 ≤ a ∧ a ≤ 132) : dfF h (sI h a k x) := ⟨rfl, fun q j v => by rw [gI_sI, if_neg (by omega)], rfl, rfl⟩
theorem dfF_L {h g : mH} (a : dfF h g) (L : LAY h) : LAY g := lay_keep L a.1 a.2.2.2
/-- what the search reads -/
def dfR (h : mH) (T : Td) (N : Nt) : Prop := cT h T ∧ ntA h 14 T N ∧ rmOK h T N
theorem dfF_R {h g : mH} {T : Td} {N : Nt} (a : dfF h g) (r : dfR h T N) : dfR g T N := by
  obtain ⟨⟨m1, m2, m3, m4, m5, m6⟩, n, r1, r2⟩ := r
  refine ⟨⟨?_, ?_, ?_, ?_, fun c hc => ?_, fun k hk => ?_⟩, ntA_cg (fun q k x y => a.2.1 q k (by omega)) (by rw [a.2.2.1]) n, ?_, fun w k x y z => ?_⟩
  · rw [a.2.1 3 4 (by omega)]; exact m1
  · rw [a.2.1 3 5 (by omega)]; exact m2
  · rw [a.2.1 3 6 (by omega)]; exact m3
  · rw [a.2.1 3 7 (by omega)]; exact m4
  · rw [a.2.1 5 c (by omega), a.2.1 6 c (by omega)]; exact m5 c hc
  · rw [a.2.1 7 k (by omega)]; exact m6 k hk
  · rw [a.2.1 119 1 (by omega)]; exact r1
  · rw [a.2.1 (121 + w) k (by omega)]; exact r2 w k x y z
def nrA (T : Td) (N : Nt) (A : List Nat) (c n : Nat) : Int := sumI (fun j => nearV (fcS T (onR N (A ++ [c]))) (nX N) (tF T) (tA T) 0 c (ofL A j)) n
theorem near_snoc {T : Td} {N : Nt} {A : List Nat} {c : Nat} (n : (A ++ [c]).Nodup) : nearS T (onR N (A ++ [c])) = nearS T (onR N A) + nrA T N A c A.length := by
  rw [← near_split n]
  have lA : (A ++ [c]).length = A.length + 1 := by rw [List.length_append]; rfl
  have e : nearS T (onR N (A ++ [c])) = nearN (fcS T (onR N (A ++ [c]))) (nX N) (tF T) (tA T) 0 (ofL (A ++ [c])) (A ++ [c]).length := rfl
  rw [e, lA]
  show nearN _ _ _ _ _ _ A.length + sumI (fun j => nearV _ _ _ _ _ (ofL (A ++ [c]) A.length) (ofL (A ++ [c]) j)) A.length = _
  congr 1
  refine sumI_congr (fun j hj => ?_)
  rw [ofL_snoc, ofL_app hj]
theorem nrA_b (T : Td) (N : Nt) (A : List Nat) (c n : Nat) : 0 ≤ nrA T N A c n ∧ nrA T N A c n ≤ n := by
  unfold nrA
  exact sumI_b1 (fun j => nearV_b _ _ _ _ _ _ _) n
theorem wNa_loop (d : Nat) (h : mH) (L : LAY h) (T : Td) (N : Nt) (wT : wfT T) (wN : wfN T N) (r : dfR h T N) (A : List Nat) (c f2 : Nat) (n : (A ++ [c]).Nodup) (b : ∀ x, x ∈ A ++ [c] → x < tN T) (hp : plc T N (A ++ [c]) = some f2) (ra : rwO (gI h 131) 0 A) (rf : ∀ x, x ∈ A ++ [c] → gI h 132 x = fcS T (onR N (A ++ [c])) x) : ∀ (k i : Nat) (x5 : mV), i + k = A.length → resA (callA (d + 1)) 7 (5, [Sum.inr (Sum.inr (some 129)), Sum.inl (A.length : Int), Sum.inl (c : Int), Sum.inl (nrA T N A c i), Sum.inl (i : Int), x5], [], h) = some (some (Sum.inl (nrA T N A c A.length)), h)
  | 0, i, x5, hi => by
    have e : i = A.length := hi
    subst e
    simp (disch := (first | omega | (simp only [kd_sI, kd_sL, kd_sR, kd_cp, kd_aI]; omega) | (unfold catV; exact rfl) | (unfold catS; exact Nat.le_of_ble_eq_true rfl) | assumption)) only [q_7_0, q_7_1, q_7_2, q_7_3, q_7_5, q_7_7, q_7_8_t, q_7_8_f, q_7_11, q_7_12, q_7_15, q_7_17, q_7_18, q_7_20, q_7_21, q_7_24, q_7_25, q_7_27, q_7_30_t, q_7_30_f, q_7_33, q_7_34, q_7_35, q_7_38, q_7_39, q_7_40, q_7_41, q_7_44, q_7_46, q_7_47, q_7_48, q_7_49, q_7_52, q_7_55, q_7_57, q_7_58, q_7_59, q_7_60, q_7_63, q_7_66_t, q_7_66_f, q_7_69, q_7_70, q_7_73, q_7_74, q_7_75, q_7_76, q_7_79, q_7_82, q_7_83, aft_i, aft_l, aft_v, Int.toNat_natCast, kd_sI, kd_sL, kd_sR, kd_cp, gI_sL, gI_sR, gL_sI, gL_sR, gR_sI, gR_sL, gL_cp, gR_cp, kd_aI, gL_aI, gR_aI, gI_aI, gI_aIn, sI_aI, gI_sIn, Int.reduceToNat, Int.reduceAdd, Int.reduceSub, Int.reduceMul, Int.reduceNeg, Int.zero_add]
  | k + 1, i, x5, hi => by
    have c7 := wT.1
    have k4 := wT.2.1
    have hi2 : i < A.length := by omega
    have wO := onR_wf wN n b
    have lA : (A ++ [c]).length = A.length + 1 := by rw [List.length_append]; rfl
    have lb := nd_len n b
    have sf := st_full hp
    rw [lA] at sf
    have ra2 := ra i hi2
    rw [Nat.zero_add, ← ofL_at hi2] at ra2
    have mi : ofL A i ∈ A := by rw [ofL_at hi2]; exact List.getElem_mem hi2
    have o7 := b (ofL A i) (List.mem_append_left _ mi)
    have cb := b c (List.mem_append_right _ List.mem_cons_self)
    have f1 := rf (ofL A i) (List.mem_append_left _ mi)
    have fc := rf c (List.mem_append_right _ List.mem_cons_self)
    have lt := fc_lt wO (T := T) (i := i) (j := A.length) hi2 (by omega)
    have fb := fc_b wT wO (i := A.length) (by omega)
    have e1 : nR (onR N (A ++ [c])) i = ofL A i := ofL_app hi2
    have e2 : nR (onR N (A ++ [c])) A.length = c := ofL_snoc A c
    rw [e1, e2] at lt
    rw [e2] at fb
    have xo : gI h 16 (ofL A i) = nX N (ofL A i) := r.2.1.2.2.2.2 _ o7
    have xb := wN.2.2.2.1 (ofL A i) o7
    have xc := wN.2.2.2.1 c cb
    have lt : 0 ≤ fcS T (onR N (A ++ [c])) (ofL A i) ∧ fcS T (onR N (A ++ [c])) (ofL A i) + nX N (ofL A i) ≤ fcS T (onR N (A ++ [c])) c := lt
    have fb : 0 ≤ fcS T (onR N (A ++ [c])) c ∧ fcS T (onR N (A ++ [c])) c + nX N c ≤ tK T := fb
    have ef := wFeud_ok d h L T wT r.1 c (ofL A i) cb (by omega)
    have t3 := r.1.2.2.1
    have nb := nrA_b T N A c i
    have eS : nrA T N A c (i + 1) = nrA T N A c i + nearV (fcS T (onR N (A ++ [c]))) (nX N) (tF T) (tA T) 0 c (ofL A i) := rfl
    have ih := wNa_loop d h L T N wT wN r A c f2 n b hp ra rf k (i + 1) (Sum.inl (ofL A i : Int)) (by omega)
    rw [eS] at ih
    generalize fcS T (onR N (A ++ [c])) = F at f1 fc lt fb ih ⊢
    have ev : nearV F (nX N) (tF T) (tA T) 0 c (ofL A i) = if (tF T c).testBit (ofL A i) = true ∧ F c - F (ofL A i) - nX N (ofL A i) < tA T then 1 else 0 := by
      unfold nearV
      rw [if_neg (show ¬ F c < F (ofL A i) by omega)]
      have z0 : ∀ x, (0 : Nat).testBit x = false := Nat.zero_testBit
      by_cases y : (tF T c).testBit (ofL A i) = true ∧ F c - F (ofL A i) - nX N (ofL A i) < tA T
      · rw [if_pos y, if_pos ⟨by omega, by omega, z0 _, z0 _, y⟩]
      · rw [if_neg y, if_neg (fun v => y v.2.2.2.2)]
    rw [ev] at ih
    obtain ⟨k3, j3⟩ := lay_k L (a := 3) (t := 6) (n := 8) rfl; obtain ⟨k14, j14⟩ := lay_k L (a := 14) (t := 2) (n := 5) rfl; obtain ⟨k16, j16⟩ := lay_k L (a := 16) (t := 100) (n := 7) rfl; obtain ⟨k129, j129⟩ := lay_k L (a := 129) (t := 0) (n := 9) rfl; obtain ⟨k131, j131⟩ := lay_k L (a := 131) (t := 100) (n := 7) rfl; obtain ⟨k132, j132⟩ := lay_k L (a := 132) (t := 100) (n := 7) rfl; have r129_4 : gR h 129 4 = some 131 := lay_r L rfl; have r129_5 : gR h 129 5 = some 132 := lay_r L rfl; have r129_6 : gR h 129 6 = some 3 := lay_r L rfl; have r129_7 : gR h 129 7 = some 14 := lay_r L rfl; have r14_1 : gR h 14 1 = some 16 := lay_r L rfl
    rw [q_7_5]
    by_cases z1 : (tF T c).testBit (ofL A i) = true
    · rw [if_pos z1] at ef
      by_cases z2 : F c - F (ofL A i) - nX N (ofL A i) < tA T
      · rw [if_pos ⟨z1, z2⟩] at ih
        simp (disch := (first | omega | (simp only [kd_sI, kd_sL, kd_sR, kd_cp, kd_aI]; omega) | (unfold catV; exact rfl) | (unfold catS; exact Nat.le_of_ble_eq_true rfl) | assumption)) only [q_7_0, q_7_1, q_7_2, q_7_3, q_7_7, q_7_8_t, q_7_8_f, q_7_11, q_7_12, q_7_15, q_7_17, q_7_18, q_7_20, q_7_21, q_7_24, q_7_25, q_7_27, q_7_30_t, q_7_30_f, q_7_33, q_7_34, q_7_35, q_7_38, q_7_39, q_7_40, q_7_41, q_7_44, q_7_46, q_7_47, q_7_48, q_7_49, q_7_52, q_7_55, q_7_57, q_7_58, q_7_59, q_7_60, q_7_63, q_7_66_t, q_7_66_f, q_7_69, q_7_70, q_7_73, q_7_74, q_7_75, q_7_76, q_7_79, q_7_82, q_7_83, aft_i, aft_l, aft_v, Int.toNat_natCast, kd_sI, kd_sL, kd_sR, kd_cp, gI_sL, gI_sR, gL_sI, gL_sR, gR_sI, gR_sL, gL_cp, gR_cp, kd_aI, gL_aI, gR_aI, gI_aI, gI_aIn, sI_aI, gI_sIn, Int.reduceToNat, Int.reduceAdd, Int.reduceSub, Int.reduceMul, Int.reduceNeg, Int.zero_add, r129_4, r129_5, r129_6, r129_7, r14_1, ra2, ef, f1, fc, xo, t3]
        exact ih
      · rw [if_neg (fun y => z2 y.2), Int.add_zero] at ih
        simp (disch := (first | omega | (simp only [kd_sI, kd_sL, kd_sR, kd_cp, kd_aI]; omega) | (unfold catV; exact rfl) | (unfold catS; exact Nat.le_of_ble_eq_true rfl) | assumption)) only [q_7_0, q_7_1, q_7_2, q_7_3, q_7_7, q_7_8_t, q_7_8_f, q_7_11, q_7_12, q_7_15, q_7_17, q_7_18, q_7_20, q_7_21, q_7_24, q_7_25, q_7_27, q_7_30_t, q_7_30_f, q_7_33, q_7_34, q_7_35, q_7_38, q_7_39, q_7_40, q_7_41, q_7_44, q_7_46, q_7_47, q_7_48, q_7_49, q_7_52, q_7_55, q_7_57, q_7_58, q_7_59, q_7_60, q_7_63, q_7_66_t, q_7_66_f, q_7_69, q_7_70, q_7_73, q_7_74, q_7_75, q_7_76, q_7_79, q_7_82, q_7_83, aft_i, aft_l, aft_v, Int.toNat_natCast, kd_sI, kd_sL, kd_sR, kd_cp, gI_sL, gI_sR, gL_sI, gL_sR, gR_sI, gR_sL, gL_cp, gR_cp, kd_aI, gL_aI, gR_aI, gI_aI, gI_aIn, sI_aI, gI_sIn, Int.reduceToNat, Int.reduceAdd, Int.reduceSub, Int.reduceMul, Int.reduceNeg, Int.zero_add, r129_4, r129_5, r129_6, r129_7, r14_1, ra2, ef, f1, fc, xo, t3, Int.add_zero]
        exact ih
    · rw [if_neg z1] at ef
      rw [if_neg (fun y => z1 y.1), Int.add_zero] at ih
      simp (disch := (first | omega | (simp only [kd_sI, kd_sL, kd_sR, kd_cp, kd_aI]; omega) | (unfold catV; exact rfl) | (unfold catS; exact Nat.le_of_ble_eq_true rfl) | assumption)) only [q_7_0, q_7_1, q_7_2, q_7_3, q_7_7, q_7_8_t, q_7_8_f, q_7_11, q_7_12, q_7_15, q_7_17, q_7_18, q_7_20, q_7_21, q_7_24, q_7_25, q_7_27, q_7_30_t, q_7_30_f, q_7_33, q_7_34, q_7_35, q_7_38, q_7_39, q_7_40, q_7_41, q_7_44, q_7_46, q_7_47, q_7_48, q_7_49, q_7_52, q_7_55, q_7_57, q_7_58, q_7_59, q_7_60, q_7_63, q_7_66_t, q_7_66_f, q_7_69, q_7_70, q_7_73, q_7_74, q_7_75, q_7_76, q_7_79, q_7_82, q_7_83, aft_i, aft_l, aft_v, Int.toNat_natCast, kd_sI, kd_sL, kd_sR, kd_cp, gI_sL, gI_sR, gL_sI, gL_sR, gR_sI, gR_sL, gL_cp, gR_cp, kd_aI, gL_aI, gR_aI, gI_aI, gI_aIn, sI_aI, gI_sIn, Int.reduceToNat, Int.reduceAdd, Int.reduceSub, Int.reduceMul, Int.reduceNeg, Int.zero_add, r129_4, r129_6, ra2, ef]
      exact ih
