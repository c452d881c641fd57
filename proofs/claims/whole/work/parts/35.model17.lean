def hrs (T : Td) (c : Nat) : Nat := (tM T + tP T c - 1) / tP T c
def mxH (T : Td) (r : Nat → Nat) : Nat → Nat
  | 0 => 0
  | i + 1 => if mxH T r i < hrs T (r i) then hrs T (r i) else mxH T r i
def inC (T : Td) (r : Nat → Nat) (h : Int) : Nat → Nat
  | 0 => 0
  | i + 1 => inC T r h i + if (mxH T r (i + 1) : Int) ≤ h then 1 else 0
theorem hrs_b {T : Td} (wT : wfT T) {c : Nat} (hc : c < tN T) : hrs T c ≤ 69 := by
  have a := wT.2.2.2.1
  have b := wT.2.2.2.2.1 c hc
  unfold hrs
  have := Nat.div_le_self (tM T + tP T c - 1) (tP T c)
  omega
theorem hrs_i {T : Td} (wT : wfT T) {c : Nat} (hc : c < tN T) : ((tM T : Int) + (tP T c : Int) - 1) / (tP T c : Int) = (hrs T c : Int) := by
  have b := wT.2.2.2.2.1 c hc
  unfold hrs
  rw [Int.natCast_ediv]
  congr 1
  omega
theorem mxH_b {T : Td} (wT : wfT T) {r : Nat → Nat} : ∀ {n : Nat}, (∀ i, i < n → r i < tN T) → mxH T r n ≤ 69
  | 0, _ => by unfold mxH; omega
  | n + 1, h => by
    have a := mxH_b wT (n := n) (fun i hi => h i (by omega))
    have b := hrs_b wT (h n (by omega))
    unfold mxH
    split <;> omega
theorem inC_b {T : Td} {r : Nat → Nat} {h : Int} : ∀ n, inC T r h n ≤ n
  | 0 => Nat.le_refl _
  | n + 1 => by
    have a := inC_b (T := T) (r := r) (h := h) n
    unfold inC
    split <;> omega
theorem mIn_loop (d : Nat) (g : mH) (L : LAY g) (T : Td) (wT : wfT T) (t : mT g T) (n : Nat) (r : Nat → Nat) (R : rowF g n r) (hr : ∀ i, i < n → r i < tN T) (h : Int) : ∀ (k i : Nat), i + k = n → ∀ a5 : mV, resA (callA d) 180 (7, [Sum.inr (Sum.inr (some 141)), Sum.inl h, Sum.inl (inC T r h i : Int), Sum.inl (mxH T r i : Int), Sum.inl (i : Int), a5], [], g) = some (some (Sum.inl (inC T r h n : Int)), g)
  | 0, i, hi, a5 => by
    obtain ⟨hn, h7, -⟩ := R
    have e : i = n := by omega
    subst e
    obtain ⟨k141, j141⟩ := lay_k L (a := 141) (t := 8) (n := 26) rfl
    simp (disch := (first | omega | (simp only [kd_sI, kd_sL, kd_sR, kd_cp, kd_aI]; omega) | (unfold catV; exact rfl) | (unfold catS; exact Nat.le_of_ble_eq_true rfl) | assumption)) only [q_180_0, q_180_1, q_180_2, q_180_3, q_180_4, q_180_5, q_180_7, q_180_9, q_180_10, q_180_13_t, q_180_13_f, q_180_16, q_180_17, q_180_20, q_180_21, q_180_22, q_180_23, q_180_26, q_180_27, q_180_30, q_180_32, q_180_33, q_180_34, q_180_35, q_180_36, q_180_37, q_180_38, q_180_41, q_180_42, q_180_45, q_180_47, q_180_48, q_180_49, q_180_50, q_180_52, q_180_54, q_180_55_t, q_180_55_f, q_180_58, q_180_60, q_180_63, q_180_64, q_180_65, q_180_66, q_180_67, q_180_68_t, q_180_68_f, q_180_71, q_180_72, q_180_75, q_180_76, q_180_77, q_180_78, q_180_81, q_180_84, q_180_85, aft_i, aft_l, aft_v, Int.toNat_natCast, kd_sI, kd_sL, kd_sR, kd_cp, gI_sL, gI_sR, gL_sI, gL_sR, gR_sI, gR_sL, gL_cp, gR_cp, kd_aI, gL_aI, gR_aI, gI_aI, gI_aIn, sI_aI, gI_sIn, Int.reduceToNat, Int.reduceAdd, Int.reduceSub, Int.reduceMul, Int.reduceNeg, Int.zero_add, hn]
  | k + 1, i, hi, a5 => by
    have ih := mIn_loop d g L T wT t n r R hr h k (i + 1) (by omega)
    obtain ⟨hn, h7, hR⟩ := R
    obtain ⟨r1, r2⟩ := hR i (by omega)
    have rt := hr i (by omega)
    have tp := (t.2.2.2.2.1 (r i) rt).1
    have tm := t.2.2.2.1
    have b1 := wT.2.2.2.2.1 (r i) rt
    have b2 := wT.2.2.2.1
    have b3 := hrs_b wT rt
    have b4 := mxH_b wT (r := r) (n := i) (fun j hj => hr j (by omega))
    have b5 := inC_b (T := T) (r := r) (h := h) i
    have c7 := wT.1
    have eh := hrs_i wT rt
    obtain ⟨k141, j141⟩ := lay_k L (a := 141) (t := 8) (n := 26) rfl; obtain ⟨k149, j149⟩ := lay_k L (a := 149) (t := 100) (n := 4) rfl; obtain ⟨k145, j145⟩ := lay_k L (a := 145) (t := 100) (n := 14) rfl; obtain ⟨k152, j152⟩ := lay_k L (a := 152) (t := 100) (n := 7) rfl; have r141_9 : gR g 141 9 = some 149 := lay_r L rfl; have r141_5 : gR g 141 5 = some 145 := lay_r L rfl; have r141_18 : gR g 141 18 = some 152 := lay_r L rfl
    have eM : mxH T r (i + 1) = if mxH T r i < hrs T (r i) then hrs T (r i) else mxH T r i := rfl
    have eC : inC T r h (i + 1) = inC T r h i + if (mxH T r (i + 1) : Int) ≤ h then 1 else 0 := rfl
    rw [q_180_7]
    by_cases z : mxH T r i < hrs T (r i)
    · rw [if_pos z] at eM
      rw [eM] at ih eC
      by_cases y : (hrs T (r i) : Int) ≤ h
      · rw [if_pos y] at eC
        rw [eC] at ih
        simp (disch := (first | omega | (simp only [kd_sI, kd_sL, kd_sR, kd_cp, kd_aI]; omega) | (unfold catV; exact rfl) | (unfold catS; exact Nat.le_of_ble_eq_true rfl) | assumption)) only [q_180_0, q_180_1, q_180_2, q_180_3, q_180_4, q_180_5, q_180_9, q_180_10, q_180_13_t, q_180_13_f, q_180_16, q_180_17, q_180_20, q_180_21, q_180_22, q_180_23, q_180_26, q_180_27, q_180_30, q_180_32, q_180_33, q_180_34, q_180_35, q_180_36, q_180_37, q_180_38, q_180_41, q_180_42, q_180_45, q_180_47, q_180_48, q_180_49, q_180_50, q_180_52, q_180_54, q_180_55_t, q_180_55_f, q_180_58, q_180_60, q_180_63, q_180_64, q_180_65, q_180_66, q_180_67, q_180_68_t, q_180_68_f, q_180_71, q_180_72, q_180_75, q_180_76, q_180_77, q_180_78, q_180_81, q_180_84, q_180_85, aft_i, aft_l, aft_v, Int.toNat_natCast, kd_sI, kd_sL, kd_sR, kd_cp, gI_sL, gI_sR, gL_sI, gL_sR, gR_sI, gR_sL, gL_cp, gR_cp, kd_aI, gL_aI, gR_aI, gI_aI, gI_aIn, sI_aI, gI_sIn, Int.reduceToNat, Int.reduceAdd, Int.reduceSub, Int.reduceMul, Int.reduceNeg, Int.zero_add, r141_9, r141_5, r141_18, hn, r1, tp, tm, eh]
        exact ih _
      · rw [if_neg y] at eC
        rw [eC] at ih
        simp (disch := (first | omega | (simp only [kd_sI, kd_sL, kd_sR, kd_cp, kd_aI]; omega) | (unfold catV; exact rfl) | (unfold catS; exact Nat.le_of_ble_eq_true rfl) | assumption)) only [q_180_0, q_180_1, q_180_2, q_180_3, q_180_4, q_180_5, q_180_9, q_180_10, q_180_13_t, q_180_13_f, q_180_16, q_180_17, q_180_20, q_180_21, q_180_22, q_180_23, q_180_26, q_180_27, q_180_30, q_180_32, q_180_33, q_180_34, q_180_35, q_180_36, q_180_37, q_180_38, q_180_41, q_180_42, q_180_45, q_180_47, q_180_48, q_180_49, q_180_50, q_180_52, q_180_54, q_180_55_t, q_180_55_f, q_180_58, q_180_60, q_180_63, q_180_64, q_180_65, q_180_66, q_180_67, q_180_68_t, q_180_68_f, q_180_71, q_180_72, q_180_75, q_180_76, q_180_77, q_180_78, q_180_81, q_180_84, q_180_85, aft_i, aft_l, aft_v, Int.toNat_natCast, kd_sI, kd_sL, kd_sR, kd_cp, gI_sL, gI_sR, gL_sI, gL_sR, gR_sI, gR_sL, gL_cp, gR_cp, kd_aI, gL_aI, gR_aI, gI_aI, gI_aIn, sI_aI, gI_sIn, Int.reduceToNat, Int.reduceAdd, Int.reduceSub, Int.reduceMul, Int.reduceNeg, Int.zero_add, r141_9, r141_5, r141_18, hn, r1, tp, tm, eh, Int.add_zero]
        exact ih _
    · rw [if_neg z] at eM
      rw [eM] at ih eC
      by_cases y : (mxH T r i : Int) ≤ h
      · rw [if_pos y] at eC
        rw [eC] at ih
        simp (disch := (first | omega | (simp only [kd_sI, kd_sL, kd_sR, kd_cp, kd_aI]; omega) | (unfold catV; exact rfl) | (unfold catS; exact Nat.le_of_ble_eq_true rfl) | assumption)) only [q_180_0, q_180_1, q_180_2, q_180_3, q_180_4, q_180_5, q_180_9, q_180_10, q_180_13_t, q_180_13_f, q_180_16, q_180_17, q_180_20, q_180_21, q_180_22, q_180_23, q_180_26, q_180_27, q_180_30, q_180_32, q_180_33, q_180_34, q_180_35, q_180_36, q_180_37, q_180_38, q_180_41, q_180_42, q_180_45, q_180_47, q_180_48, q_180_49, q_180_50, q_180_52, q_180_54, q_180_55_t, q_180_55_f, q_180_58, q_180_60, q_180_63, q_180_64, q_180_65, q_180_66, q_180_67, q_180_68_t, q_180_68_f, q_180_71, q_180_72, q_180_75, q_180_76, q_180_77, q_180_78, q_180_81, q_180_84, q_180_85, aft_i, aft_l, aft_v, Int.toNat_natCast, kd_sI, kd_sL, kd_sR, kd_cp, gI_sL, gI_sR, gL_sI, gL_sR, gR_sI, gR_sL, gL_cp, gR_cp, kd_aI, gL_aI, gR_aI, gI_aI, gI_aIn, sI_aI, gI_sIn, Int.reduceToNat, Int.reduceAdd, Int.reduceSub, Int.reduceMul, Int.reduceNeg, Int.zero_add, r141_9, r141_5, r141_18, hn, r1, tp, tm, eh]
        exact ih _
      · rw [if_neg y] at eC
        rw [eC] at ih
        simp (disch := (first | omega | (simp only [kd_sI, kd_sL, kd_sR, kd_cp, kd_aI]; omega) | (unfold catV; exact rfl) | (unfold catS; exact Nat.le_of_ble_eq_true rfl) | assumption)) only [q_180_0, q_180_1, q_180_2, q_180_3, q_180_4, q_180_5, q_180_9, q_180_10, q_180_13_t, q_180_13_f, q_180_16, q_180_17, q_180_20, q_180_21, q_180_22, q_180_23, q_180_26, q_180_27, q_180_30, q_180_32, q_180_33, q_180_34, q_180_35, q_180_36, q_180_37, q_180_38, q_180_41, q_180_42, q_180_45, q_180_47, q_180_48, q_180_49, q_180_50, q_180_52, q_180_54, q_180_55_t, q_180_55_f, q_180_58, q_180_60, q_180_63, q_180_64, q_180_65, q_180_66, q_180_67, q_180_68_t, q_180_68_f, q_180_71, q_180_72, q_180_75, q_180_76, q_180_77, q_180_78, q_180_81, q_180_84, q_180_85, aft_i, aft_l, aft_v, Int.toNat_natCast, kd_sI, kd_sL, kd_sR, kd_cp, gI_sL, gI_sR, gL_sI, gL_sR, gR_sI, gR_sL, gL_cp, gR_cp, kd_aI, gL_aI, gR_aI, gI_aI, gI_aIn, sI_aI, gI_sIn, Int.reduceToNat, Int.reduceAdd, Int.reduceSub, Int.reduceMul, Int.reduceNeg, Int.zero_add, r141_9, r141_5, r141_18, hn, r1, tp, tm, eh, Int.add_zero]
        exact ih _
theorem mIn_ok (d : Nat) (g : mH) (L : LAY g) (T : Td) (wT : wfT T) (t : mT g T) (n : Nat) (r : Nat → Nat) (R : rowF g n r) (hr : ∀ i, i < n → r i < tN T) (h : Int) : callA (d + 1) 180 [Sum.inr (Sum.inr (some 141)), Sum.inl h] g = some (some (Sum.inl (inC T r h n : Int)), g) := by
  have e := mIn_loop d g L T wT t n r R hr h n 0 (Nat.zero_add _) (Sum.inr (Sum.inr none))
  have e : resA (callA d) 180 (7, [Sum.inr (Sum.inr (some 141)), Sum.inl h, Sum.inl 0, Sum.inl 0, Sum.inl 0, Sum.inr (Sum.inr none)], [], g) = some (some (Sum.inl (inC T r h n : Int)), g) := e
  rw [en_180]
  simp (disch := (first | omega | (simp only [kd_sI, kd_sL, kd_sR, kd_cp, kd_aI]; omega) | (unfold catV; exact rfl) | (unfold catS; exact Nat.le_of_ble_eq_true rfl) | assumption)) only [q_180_0, q_180_1, q_180_2, q_180_3, q_180_4, q_180_5, q_180_9, q_180_10, q_180_13_t, q_180_13_f, q_180_16, q_180_17, q_180_20, q_180_21, q_180_22, q_180_23, q_180_26, q_180_27, q_180_30, q_180_32, q_180_33, q_180_34, q_180_35, q_180_36, q_180_37, q_180_38, q_180_41, q_180_42, q_180_45, q_180_47, q_180_48, q_180_49, q_180_50, q_180_52, q_180_54, q_180_55_t, q_180_55_f, q_180_58, q_180_60, q_180_63, q_180_64, q_180_65, q_180_66, q_180_67, q_180_68_t, q_180_68_f, q_180_71, q_180_72, q_180_75, q_180_76, q_180_77, q_180_78, q_180_81, q_180_84, q_180_85, aft_i, aft_l, aft_v, Int.toNat_natCast, kd_sI, kd_sL, kd_sR, kd_cp, gI_sL, gI_sR, gL_sI, gL_sR, gR_sI, gR_sL, gL_cp, gR_cp, kd_aI, gL_aI, gR_aI, gI_aI, gI_aIn, sI_aI, gI_sIn, Int.reduceToNat, Int.reduceAdd, Int.reduceSub, Int.reduceMul, Int.reduceNeg, Int.zero_add, e]
def darS (T : Td) (N : Nt) (h : Int) : Int := if 1 ≤ h ∧ h ≤ 60 then inC T (nR N) h (nM N) else -1
theorem mDark_ok (d : Nat) (h : mH) (L : LAY h) (T : Td) (N : Nt) (wT : wfT T) (wN : wfN T N) (t : mT h T) (u : mNow h T N) (x : Int) : ∃ g, callA (d + 3) 181 [Sum.inr (Sum.inr (some 141)), Sum.inl x] h = some (some (Sum.inl (darS T N x)), g) ∧ scr h g := by
  have L0 := L
  have c7 := wT.1
  have n7 : nM N ≤ 7 := Nat.le_trans wN.1 wT.1
  obtain ⟨k141, j141⟩ := lay_k L (a := 141) (t := 8) (n := 26) rfl
  unfold darS
  by_cases q : 1 ≤ x ∧ x ≤ 60
  · have e := in_t (d + 1) h x 1 60 q
    rw [if_pos q]
    have e2 := mRow_ok (d + 1) h L0 (nM N) u.1 n7
    generalize eg2 : aI (sI h 141 19 (nM N)) 152 (mixI (nM N) (gI h 150) (gI h 152)) = g2 at e2
    have s2 : scr h g2 := by rw [← eg2]; exact scr_tr scr_r (scr_aI (by omega))
    have L2 := scr_L s2 L0
    have R : rowF g2 (nM N) (nR N) := by
      refine ⟨?_, n7, fun i hi => ⟨?_, Nat.lt_of_lt_of_le (wN.2.1 i hi) wT.1⟩⟩
      · rw [← eg2, gI_aIn (by omega), gI_sI, if_pos ⟨rfl, rfl⟩]
      · rw [← eg2, gI_aI, mixI_in hi]
        exact u.2.1 i hi
    have e3 := mIn_ok (d + 1) g2 L2 T wT (scr_mT s2 t) (nM N) (nR N) R wN.2.1 x
    have k2 : (kd g2 141).1 = 8 := by unfold kd at k141 ⊢; rw [s2.1]; exact k141
    have j2 : (kd g2 141).2 = 26 := by unfold kd at j141 ⊢; rw [s2.1]; exact j141
    refine ⟨g2, ?_, s2⟩
    rw [en_181]
    simp (disch := (first | omega | (simp only [kd_sI, kd_sL, kd_sR, kd_cp, kd_aI]; omega) | (unfold catV; exact rfl) | (unfold catS; exact Nat.le_of_ble_eq_true rfl) | assumption)) only [q_181_0, q_181_1, q_181_2, q_181_4, q_181_7_t, q_181_7_f, q_181_10, q_181_11, q_181_12, q_181_13, q_181_16, q_181_17, q_181_18, q_181_21, aft_i, aft_l, aft_v, Int.toNat_natCast, kd_sI, kd_sL, kd_sR, kd_cp, gI_sL, gI_sR, gL_sI, gL_sR, gR_sI, gR_sL, gL_cp, gR_cp, kd_aI, gL_aI, gR_aI, gI_aI, gI_aIn, sI_aI, gI_sIn, Int.reduceToNat, Int.reduceAdd, Int.reduceSub, Int.reduceMul, Int.reduceNeg, Int.zero_add, e, e2, e3]
  · have e := in_f (d + 1) h x 1 60 q
    rw [if_neg q]
    exact ⟨h, by rw [en_181]; simp (disch := (first | omega | (simp only [kd_sI, kd_sL, kd_sR, kd_cp, kd_aI]; omega) | (unfold catV; exact rfl) | (unfold catS; exact Nat.le_of_ble_eq_true rfl) | assumption)) only [q_181_0, q_181_1, q_181_2, q_181_4, q_181_7_t, q_181_7_f, q_181_10, q_181_11, q_181_12, q_181_13, q_181_16, q_181_17, q_181_18, q_181_21, aft_i, aft_l, aft_v, Int.toNat_natCast, kd_sI, kd_sL, kd_sR, kd_cp, gI_sL, gI_sR, gL_sI, gL_sR, gR_sI, gR_sL, gL_cp, gR_cp, kd_aI, gL_aI, gR_aI, gI_aI, gI_aIn, sI_aI, gI_sIn, Int.reduceToNat, Int.reduceAdd, Int.reduceSub, Int.reduceMul, Int.reduceNeg, Int.zero_add, e], scr_rf h⟩
def offS (T : Td) (N : Nt) (c : Nat) : Int := (nX N c : Int) - if cellS T N c = -9 then 0 else cellS T N c
/-- the kinds: what they answer and add to the trace -/
def marS (T : Td) (N : Nt) (k c : Int) (r : Int) : Int × Int := if (0 ≤ k ∧ k ≤ 5) ∧ (0 ≤ c ∧ c < tN T) then (if k = 0 then (nX N c.toNat, wrL (r + 1)) else if k = 1 then (nX N c.toNat + tP T c.toNat, wrL (r + 11)) else if k = 2 then (offS T N c.toNat, wrL (r + 101)) else if k = 3 then (2 * ((nX N c.toNat : Int) + tP T c.toNat), wrL (r + 1011)) else if k = 4 then (offS T N c.toNat + cntB (tF T c.toNat) 7, wrL (r + 10101)) else (nX N c.toNat + cntB (brkN T N) 7, wrL (r + 100001))) else (-1000000, r)
theorem cellS_b {T : Td} {N : Nt} (wT : wfT T) (wN : wfN T N) {c : Nat} : cellS T N c = -9 ∨ (0 ≤ cellS T N c ∧ cellS T N c ≤ 40) := by
  have k4 := wT.2.1
  unfold cellS
  split
  · exact Or.inl rfl
  · rcases fcS_b wT wN c with h | h
    · exact Or.inl h
    · right; omega
theorem MI_tr {h : mH} {σ : Sg} {x : Int} (m : MI h σ) : MI (sL h 141 0 x) (zup σ (zX σ) (zS σ) x) := by
  refine MI_up m (fun q _ _ => by rw [gI_sL]) ?_ (fun k q => ?_) ?_ (fun k q => ?_) ?_
  · rw [gI_sL]; exact m.2.2.2.2.1
  · rw [gI_sL]; exact m.2.2.2.2.2.1 k q
  · rw [gI_sL]; exact m.2.2.2.2.2.2.1
  · rw [gI_sL]; exact m.2.2.2.2.2.2.2.1 k q
  · rw [gL_sL, if_pos ⟨rfl, rfl⟩]
theorem mMark_ok (d : Nat) (h : mH) (L : LAY h) (σ : Sg) (w : wfS σ) (m : MI h σ) (k c : Int) : mOK (d + 6) 188 [Sum.inl k, Sum.inl c] h (Sum.inl (marS (zT σ) (zN σ) k c (zR σ)).1) (zup σ (zX σ) (zS σ) (marS (zT σ) (zN σ) k c (zR σ)).2) := by
  have c7 := w.1.1
  have L0 := L
  unfold marS
  by_cases q : 0 ≤ k ∧ k ≤ 5
  · have e := in_t (d + 4) h k 0 5 q
    by_cases q2 : 0 ≤ c ∧ c < tN (zT σ)
    · have e2 := mCart_t (d + 3) h L c _ m.1.1 q2 c7
      rw [if_pos ⟨q, q2⟩]
      obtain ⟨j, rfl⟩ : ∃ j : Nat, c = j := ⟨c.toNat, by omega⟩
      rw [Int.toNat_natCast]
      have hj : j < tN (zT σ) := by omega
      have u := slG_now.mpr m.2.1.1
      have t := m.1
      obtain ⟨g, eg, sg, -⟩ := mCell_ok (d + 1) h L (zT σ) (zN σ) w.1 w.2.1.1 t u j hj
      have mg := MI_scr w m sg
      have Lg := scr_L sg L0
      have rg := mg.2.2.2.2.2.2.2.2
      have tg := mg.1
      have x1 := u.2.2.2.1 j hj
      have x6 := w.2.1.1.2.2.2.1 j hj
      have p6 := w.1.2.2.2.2.1 j hj
      have f6 := w.1.2.2.2.2.2.1 j hj
      have tp := tg.2.2.2.2.1 j hj
      have cb := cellS_b (c := j) w.1 w.2.1.1
      have ix : (9 + (j : Int)).toNat = 9 + j := by omega
      have emn := manyOf_ok (d + 4) (sL g 141 0 (wrL (zR σ + 10101))) (tF (zT σ) j) f6
      have ecl := cntB_le (tF (zT σ) j) 7
      have ebl := cntB_le (brkN (zT σ) (zN σ)) 7
      have r5 : gR g 141 5 = some 145 := lay_r Lg rfl
      have r6 : gR g 141 6 = some 146 := lay_r Lg rfl
      obtain ⟨k141, j141⟩ := lay_k L (a := 141) (t := 8) (n := 26) rfl
      obtain ⟨k150, j150⟩ := lay_k L (a := 150) (t := 100) (n := 1851) rfl
      have r16 : gR h 141 16 = some 150 := lay_r L rfl
      obtain ⟨m1, m2⟩ := lay_k Lg (a := 141) (t := 8) (n := 26) rfl
      obtain ⟨m3, m4⟩ := lay_k Lg (a := 145) (t := 100) (n := 14) rfl
      obtain ⟨m5, m6⟩ := lay_k Lg (a := 146) (t := 100) (n := 14) rfl
      have fr : ∀ x, frm 141 158 h (sL g 141 0 x) := fun x => frm_tr (evA_frm (evA_scr sg)) (frm_sL (by omega) (by omega))
      have ly : ∀ x, LAY (sL g 141 0 x) := fun x => lay_sL Lg _ _ _
      obtain ⟨g2, eb, sb, -⟩ := mBrk_ok (d + 1) (sL g 141 0 (wrL (zR σ + 100001))) (ly _) (zT σ) (zN σ) w.1 w.2.1.1 (by unfold mT at tg ⊢; rw [gI_sL]; exact tg) (by have := scr_mN sg u; unfold mNow at this ⊢; rw [gI_sL]; exact this)
      have eo : offS (zT σ) (zN σ) j = (nX (zN σ) j : Int) - if cellS (zT σ) (zN σ) j = -9 then 0 else cellS (zT σ) (zN σ) j := rfl
      generalize cellS (zT σ) (zN σ) j = CC at eg cb eo
      by_cases w0 : k = 0
      · subst w0
        refine mOK_w (g := sL g 141 0 (wrL (zR σ + 1))) ?_ (fr _) (ly _) (MI_tr mg)
        rw [en_188]
        by_cases y : CC = -9
        · rw [if_pos y] at eo
          simp (disch := (first | omega | (simp only [kd_sI, kd_sL, kd_sR, kd_cp, kd_aI]; omega) | (unfold catV; exact rfl) | (unfold catS; exact Nat.le_of_ble_eq_true rfl) | assumption)) only [q_188_0, q_188_1, q_188_2, q_188_3, q_188_6_t, q_188_6_f, q_188_9, q_188_10, q_188_11, q_188_14_t, q_188_14_f, q_188_17, q_188_19, q_188_20, q_188_21, q_188_24, q_188_26, q_188_27, q_188_28, q_188_29, q_188_30, q_188_31, q_188_32, q_188_35, q_188_37, q_188_38, q_188_40, q_188_42_t, q_188_42_f, q_188_45, q_188_46, q_188_49, q_188_51, q_188_52, q_188_54, q_188_55_0, q_188_55_1, q_188_55_2, q_188_55_3, q_188_55_4, q_188_55_d, q_188_88, q_188_89, q_188_90, q_188_93, q_188_94, q_188_95, q_188_98, q_188_99, q_188_100, q_188_101, q_188_102, q_188_105, q_188_108, q_188_109, q_188_112, q_188_113, q_188_114, q_188_117, q_188_118, q_188_119, q_188_120, q_188_121, q_188_122, q_188_123, q_188_126, q_188_129, q_188_130, q_188_133, q_188_135, q_188_136, q_188_137, q_188_138, q_188_141, q_188_144, q_188_145, q_188_148, q_188_149, q_188_150, q_188_151, q_188_154, q_188_155, q_188_156, q_188_157, q_188_158, q_188_159, q_188_160, q_188_161, q_188_164, q_188_167, q_188_168, q_188_171, q_188_173, q_188_174, q_188_177, q_188_178, q_188_179, q_188_182, q_188_183, q_188_184, q_188_185, q_188_186, q_188_189, q_188_192, q_188_193, q_188_196, q_188_197, q_188_198, q_188_201, q_188_204, q_188_205, aft_i, aft_l, aft_v, Int.toNat_natCast, kd_sI, kd_sL, kd_sR, kd_cp, gI_sL, gI_sR, gL_sI, gL_sR, gR_sI, gR_sL, gL_cp, gR_cp, kd_aI, gL_aI, gR_aI, gI_aI, gI_aIn, sI_aI, gI_sIn, Int.reduceToNat, Int.reduceAdd, Int.reduceSub, Int.reduceMul, Int.reduceNeg, Int.zero_add, e, e2, eg, r16, ix, x1, y, rg]
          first | rfl | (simp only [eo, Int.sub_zero]; rfl)
        · rw [if_neg y] at eo
          simp (disch := (first | omega | (simp only [kd_sI, kd_sL, kd_sR, kd_cp, kd_aI]; omega) | (unfold catV; exact rfl) | (unfold catS; exact Nat.le_of_ble_eq_true rfl) | assumption)) only [q_188_0, q_188_1, q_188_2, q_188_3, q_188_6_t, q_188_6_f, q_188_9, q_188_10, q_188_11, q_188_14_t, q_188_14_f, q_188_17, q_188_19, q_188_20, q_188_21, q_188_24, q_188_26, q_188_27, q_188_28, q_188_29, q_188_30, q_188_31, q_188_32, q_188_35, q_188_37, q_188_38, q_188_40, q_188_42_t, q_188_42_f, q_188_45, q_188_46, q_188_49, q_188_51, q_188_52, q_188_54, q_188_55_0, q_188_55_1, q_188_55_2, q_188_55_3, q_188_55_4, q_188_55_d, q_188_88, q_188_89, q_188_90, q_188_93, q_188_94, q_188_95, q_188_98, q_188_99, q_188_100, q_188_101, q_188_102, q_188_105, q_188_108, q_188_109, q_188_112, q_188_113, q_188_114, q_188_117, q_188_118, q_188_119, q_188_120, q_188_121, q_188_122, q_188_123, q_188_126, q_188_129, q_188_130, q_188_133, q_188_135, q_188_136, q_188_137, q_188_138, q_188_141, q_188_144, q_188_145, q_188_148, q_188_149, q_188_150, q_188_151, q_188_154, q_188_155, q_188_156, q_188_157, q_188_158, q_188_159, q_188_160, q_188_161, q_188_164, q_188_167, q_188_168, q_188_171, q_188_173, q_188_174, q_188_177, q_188_178, q_188_179, q_188_182, q_188_183, q_188_184, q_188_185, q_188_186, q_188_189, q_188_192, q_188_193, q_188_196, q_188_197, q_188_198, q_188_201, q_188_204, q_188_205, aft_i, aft_l, aft_v, Int.toNat_natCast, kd_sI, kd_sL, kd_sR, kd_cp, gI_sL, gI_sR, gL_sI, gL_sR, gR_sI, gR_sL, gL_cp, gR_cp, kd_aI, gL_aI, gR_aI, gI_aI, gI_aIn, sI_aI, gI_sIn, Int.reduceToNat, Int.reduceAdd, Int.reduceSub, Int.reduceMul, Int.reduceNeg, Int.zero_add, e, e2, eg, r16, ix, x1, y, rg]
          first | rfl | (simp only [eo]; rfl)
      by_cases w1 : k = 1
      · subst w1
        refine mOK_w (g := sL g 141 0 (wrL (zR σ + 11))) ?_ (fr _) (ly _) (MI_tr mg)
        rw [en_188]
        by_cases y : CC = -9
        · rw [if_pos y] at eo
          simp (disch := (first | omega | (simp only [kd_sI, kd_sL, kd_sR, kd_cp, kd_aI]; omega) | (unfold catV; exact rfl) | (unfold catS; exact Nat.le_of_ble_eq_true rfl) | assumption)) only [q_188_0, q_188_1, q_188_2, q_188_3, q_188_6_t, q_188_6_f, q_188_9, q_188_10, q_188_11, q_188_14_t, q_188_14_f, q_188_17, q_188_19, q_188_20, q_188_21, q_188_24, q_188_26, q_188_27, q_188_28, q_188_29, q_188_30, q_188_31, q_188_32, q_188_35, q_188_37, q_188_38, q_188_40, q_188_42_t, q_188_42_f, q_188_45, q_188_46, q_188_49, q_188_51, q_188_52, q_188_54, q_188_55_0, q_188_55_1, q_188_55_2, q_188_55_3, q_188_55_4, q_188_55_d, q_188_88, q_188_89, q_188_90, q_188_93, q_188_94, q_188_95, q_188_98, q_188_99, q_188_100, q_188_101, q_188_102, q_188_105, q_188_108, q_188_109, q_188_112, q_188_113, q_188_114, q_188_117, q_188_118, q_188_119, q_188_120, q_188_121, q_188_122, q_188_123, q_188_126, q_188_129, q_188_130, q_188_133, q_188_135, q_188_136, q_188_137, q_188_138, q_188_141, q_188_144, q_188_145, q_188_148, q_188_149, q_188_150, q_188_151, q_188_154, q_188_155, q_188_156, q_188_157, q_188_158, q_188_159, q_188_160, q_188_161, q_188_164, q_188_167, q_188_168, q_188_171, q_188_173, q_188_174, q_188_177, q_188_178, q_188_179, q_188_182, q_188_183, q_188_184, q_188_185, q_188_186, q_188_189, q_188_192, q_188_193, q_188_196, q_188_197, q_188_198, q_188_201, q_188_204, q_188_205, aft_i, aft_l, aft_v, Int.toNat_natCast, kd_sI, kd_sL, kd_sR, kd_cp, gI_sL, gI_sR, gL_sI, gL_sR, gR_sI, gR_sL, gL_cp, gR_cp, kd_aI, gL_aI, gR_aI, gI_aI, gI_aIn, sI_aI, gI_sIn, Int.reduceToNat, Int.reduceAdd, Int.reduceSub, Int.reduceMul, Int.reduceNeg, Int.zero_add, e, e2, eg, r16, ix, x1, y, rg, r5, tp.1]
          first | rfl | (simp only [eo, Int.sub_zero]; rfl)
        · rw [if_neg y] at eo
          simp (disch := (first | omega | (simp only [kd_sI, kd_sL, kd_sR, kd_cp, kd_aI]; omega) | (unfold catV; exact rfl) | (unfold catS; exact Nat.le_of_ble_eq_true rfl) | assumption)) only [q_188_0, q_188_1, q_188_2, q_188_3, q_188_6_t, q_188_6_f, q_188_9, q_188_10, q_188_11, q_188_14_t, q_188_14_f, q_188_17, q_188_19, q_188_20, q_188_21, q_188_24, q_188_26, q_188_27, q_188_28, q_188_29, q_188_30, q_188_31, q_188_32, q_188_35, q_188_37, q_188_38, q_188_40, q_188_42_t, q_188_42_f, q_188_45, q_188_46, q_188_49, q_188_51, q_188_52, q_188_54, q_188_55_0, q_188_55_1, q_188_55_2, q_188_55_3, q_188_55_4, q_188_55_d, q_188_88, q_188_89, q_188_90, q_188_93, q_188_94, q_188_95, q_188_98, q_188_99, q_188_100, q_188_101, q_188_102, q_188_105, q_188_108, q_188_109, q_188_112, q_188_113, q_188_114, q_188_117, q_188_118, q_188_119, q_188_120, q_188_121, q_188_122, q_188_123, q_188_126, q_188_129, q_188_130, q_188_133, q_188_135, q_188_136, q_188_137, q_188_138, q_188_141, q_188_144, q_188_145, q_188_148, q_188_149, q_188_150, q_188_151, q_188_154, q_188_155, q_188_156, q_188_157, q_188_158, q_188_159, q_188_160, q_188_161, q_188_164, q_188_167, q_188_168, q_188_171, q_188_173, q_188_174, q_188_177, q_188_178, q_188_179, q_188_182, q_188_183, q_188_184, q_188_185, q_188_186, q_188_189, q_188_192, q_188_193, q_188_196, q_188_197, q_188_198, q_188_201, q_188_204, q_188_205, aft_i, aft_l, aft_v, Int.toNat_natCast, kd_sI, kd_sL, kd_sR, kd_cp, gI_sL, gI_sR, gL_sI, gL_sR, gR_sI, gR_sL, gL_cp, gR_cp, kd_aI, gL_aI, gR_aI, gI_aI, gI_aIn, sI_aI, gI_sIn, Int.reduceToNat, Int.reduceAdd, Int.reduceSub, Int.reduceMul, Int.reduceNeg, Int.zero_add, e, e2, eg, r16, ix, x1, y, rg, r5, tp.1]
          first | rfl | (simp only [eo]; rfl)
      by_cases w2 : k = 2
      · subst w2
        refine mOK_w (g := sL g 141 0 (wrL (zR σ + 101))) ?_ (fr _) (ly _) (MI_tr mg)
        rw [en_188]
        by_cases y : CC = -9
        · rw [if_pos y] at eo
          simp (disch := (first | omega | (simp only [kd_sI, kd_sL, kd_sR, kd_cp, kd_aI]; omega) | (unfold catV; exact rfl) | (unfold catS; exact Nat.le_of_ble_eq_true rfl) | assumption)) only [q_188_0, q_188_1, q_188_2, q_188_3, q_188_6_t, q_188_6_f, q_188_9, q_188_10, q_188_11, q_188_14_t, q_188_14_f, q_188_17, q_188_19, q_188_20, q_188_21, q_188_24, q_188_26, q_188_27, q_188_28, q_188_29, q_188_30, q_188_31, q_188_32, q_188_35, q_188_37, q_188_38, q_188_40, q_188_42_t, q_188_42_f, q_188_45, q_188_46, q_188_49, q_188_51, q_188_52, q_188_54, q_188_55_0, q_188_55_1, q_188_55_2, q_188_55_3, q_188_55_4, q_188_55_d, q_188_88, q_188_89, q_188_90, q_188_93, q_188_94, q_188_95, q_188_98, q_188_99, q_188_100, q_188_101, q_188_102, q_188_105, q_188_108, q_188_109, q_188_112, q_188_113, q_188_114, q_188_117, q_188_118, q_188_119, q_188_120, q_188_121, q_188_122, q_188_123, q_188_126, q_188_129, q_188_130, q_188_133, q_188_135, q_188_136, q_188_137, q_188_138, q_188_141, q_188_144, q_188_145, q_188_148, q_188_149, q_188_150, q_188_151, q_188_154, q_188_155, q_188_156, q_188_157, q_188_158, q_188_159, q_188_160, q_188_161, q_188_164, q_188_167, q_188_168, q_188_171, q_188_173, q_188_174, q_188_177, q_188_178, q_188_179, q_188_182, q_188_183, q_188_184, q_188_185, q_188_186, q_188_189, q_188_192, q_188_193, q_188_196, q_188_197, q_188_198, q_188_201, q_188_204, q_188_205, aft_i, aft_l, aft_v, Int.toNat_natCast, kd_sI, kd_sL, kd_sR, kd_cp, gI_sL, gI_sR, gL_sI, gL_sR, gR_sI, gR_sL, gL_cp, gR_cp, kd_aI, gL_aI, gR_aI, gI_aI, gI_aIn, sI_aI, gI_sIn, Int.reduceToNat, Int.reduceAdd, Int.reduceSub, Int.reduceMul, Int.reduceNeg, Int.zero_add, e, e2, eg, r16, ix, x1, y, rg]
          first | rfl | (simp only [eo, Int.sub_zero]; rfl)
        · rw [if_neg y] at eo
          simp (disch := (first | omega | (simp only [kd_sI, kd_sL, kd_sR, kd_cp, kd_aI]; omega) | (unfold catV; exact rfl) | (unfold catS; exact Nat.le_of_ble_eq_true rfl) | assumption)) only [q_188_0, q_188_1, q_188_2, q_188_3, q_188_6_t, q_188_6_f, q_188_9, q_188_10, q_188_11, q_188_14_t, q_188_14_f, q_188_17, q_188_19, q_188_20, q_188_21, q_188_24, q_188_26, q_188_27, q_188_28, q_188_29, q_188_30, q_188_31, q_188_32, q_188_35, q_188_37, q_188_38, q_188_40, q_188_42_t, q_188_42_f, q_188_45, q_188_46, q_188_49, q_188_51, q_188_52, q_188_54, q_188_55_0, q_188_55_1, q_188_55_2, q_188_55_3, q_188_55_4, q_188_55_d, q_188_88, q_188_89, q_188_90, q_188_93, q_188_94, q_188_95, q_188_98, q_188_99, q_188_100, q_188_101, q_188_102, q_188_105, q_188_108, q_188_109, q_188_112, q_188_113, q_188_114, q_188_117, q_188_118, q_188_119, q_188_120, q_188_121, q_188_122, q_188_123, q_188_126, q_188_129, q_188_130, q_188_133, q_188_135, q_188_136, q_188_137, q_188_138, q_188_141, q_188_144, q_188_145, q_188_148, q_188_149, q_188_150, q_188_151, q_188_154, q_188_155, q_188_156, q_188_157, q_188_158, q_188_159, q_188_160, q_188_161, q_188_164, q_188_167, q_188_168, q_188_171, q_188_173, q_188_174, q_188_177, q_188_178, q_188_179, q_188_182, q_188_183, q_188_184, q_188_185, q_188_186, q_188_189, q_188_192, q_188_193, q_188_196, q_188_197, q_188_198, q_188_201, q_188_204, q_188_205, aft_i, aft_l, aft_v, Int.toNat_natCast, kd_sI, kd_sL, kd_sR, kd_cp, gI_sL, gI_sR, gL_sI, gL_sR, gR_sI, gR_sL, gL_cp, gR_cp, kd_aI, gL_aI, gR_aI, gI_aI, gI_aIn, sI_aI, gI_sIn, Int.reduceToNat, Int.reduceAdd, Int.reduceSub, Int.reduceMul, Int.reduceNeg, Int.zero_add, e, e2, eg, r16, ix, x1, y, rg]
          first | rfl | (simp only [eo]; rfl)
      by_cases w3 : k = 3
      · subst w3
        refine mOK_w (g := sL g 141 0 (wrL (zR σ + 1011))) ?_ (fr _) (ly _) (MI_tr mg)
        rw [en_188]
        by_cases y : CC = -9
        · rw [if_pos y] at eo
          simp (disch := (first | omega | (simp only [kd_sI, kd_sL, kd_sR, kd_cp, kd_aI]; omega) | (unfold catV; exact rfl) | (unfold catS; exact Nat.le_of_ble_eq_true rfl) | assumption)) only [q_188_0, q_188_1, q_188_2, q_188_3, q_188_6_t, q_188_6_f, q_188_9, q_188_10, q_188_11, q_188_14_t, q_188_14_f, q_188_17, q_188_19, q_188_20, q_188_21, q_188_24, q_188_26, q_188_27, q_188_28, q_188_29, q_188_30, q_188_31, q_188_32, q_188_35, q_188_37, q_188_38, q_188_40, q_188_42_t, q_188_42_f, q_188_45, q_188_46, q_188_49, q_188_51, q_188_52, q_188_54, q_188_55_0, q_188_55_1, q_188_55_2, q_188_55_3, q_188_55_4, q_188_55_d, q_188_88, q_188_89, q_188_90, q_188_93, q_188_94, q_188_95, q_188_98, q_188_99, q_188_100, q_188_101, q_188_102, q_188_105, q_188_108, q_188_109, q_188_112, q_188_113, q_188_114, q_188_117, q_188_118, q_188_119, q_188_120, q_188_121, q_188_122, q_188_123, q_188_126, q_188_129, q_188_130, q_188_133, q_188_135, q_188_136, q_188_137, q_188_138, q_188_141, q_188_144, q_188_145, q_188_148, q_188_149, q_188_150, q_188_151, q_188_154, q_188_155, q_188_156, q_188_157, q_188_158, q_188_159, q_188_160, q_188_161, q_188_164, q_188_167, q_188_168, q_188_171, q_188_173, q_188_174, q_188_177, q_188_178, q_188_179, q_188_182, q_188_183, q_188_184, q_188_185, q_188_186, q_188_189, q_188_192, q_188_193, q_188_196, q_188_197, q_188_198, q_188_201, q_188_204, q_188_205, aft_i, aft_l, aft_v, Int.toNat_natCast, kd_sI, kd_sL, kd_sR, kd_cp, gI_sL, gI_sR, gL_sI, gL_sR, gR_sI, gR_sL, gL_cp, gR_cp, kd_aI, gL_aI, gR_aI, gI_aI, gI_aIn, sI_aI, gI_sIn, Int.reduceToNat, Int.reduceAdd, Int.reduceSub, Int.reduceMul, Int.reduceNeg, Int.zero_add, e, e2, eg, r16, ix, x1, y, rg, r5, tp.1]
          first | rfl | (simp only [eo, Int.sub_zero]; rfl)
        · rw [if_neg y] at eo
          simp (disch := (first | omega | (simp only [kd_sI, kd_sL, kd_sR, kd_cp, kd_aI]; omega) | (unfold catV; exact rfl) | (unfold catS; exact Nat.le_of_ble_eq_true rfl) | assumption)) only [q_188_0, q_188_1, q_188_2, q_188_3, q_188_6_t, q_188_6_f, q_188_9, q_188_10, q_188_11, q_188_14_t, q_188_14_f, q_188_17, q_188_19, q_188_20, q_188_21, q_188_24, q_188_26, q_188_27, q_188_28, q_188_29, q_188_30, q_188_31, q_188_32, q_188_35, q_188_37, q_188_38, q_188_40, q_188_42_t, q_188_42_f, q_188_45, q_188_46, q_188_49, q_188_51, q_188_52, q_188_54, q_188_55_0, q_188_55_1, q_188_55_2, q_188_55_3, q_188_55_4, q_188_55_d, q_188_88, q_188_89, q_188_90, q_188_93, q_188_94, q_188_95, q_188_98, q_188_99, q_188_100, q_188_101, q_188_102, q_188_105, q_188_108, q_188_109, q_188_112, q_188_113, q_188_114, q_188_117, q_188_118, q_188_119, q_188_120, q_188_121, q_188_122, q_188_123, q_188_126, q_188_129, q_188_130, q_188_133, q_188_135, q_188_136, q_188_137, q_188_138, q_188_141, q_188_144, q_188_145, q_188_148, q_188_149, q_188_150, q_188_151, q_188_154, q_188_155, q_188_156, q_188_157, q_188_158, q_188_159, q_188_160, q_188_161, q_188_164, q_188_167, q_188_168, q_188_171, q_188_173, q_188_174, q_188_177, q_188_178, q_188_179, q_188_182, q_188_183, q_188_184, q_188_185, q_188_186, q_188_189, q_188_192, q_188_193, q_188_196, q_188_197, q_188_198, q_188_201, q_188_204, q_188_205, aft_i, aft_l, aft_v, Int.toNat_natCast, kd_sI, kd_sL, kd_sR, kd_cp, gI_sL, gI_sR, gL_sI, gL_sR, gR_sI, gR_sL, gL_cp, gR_cp, kd_aI, gL_aI, gR_aI, gI_aI, gI_aIn, sI_aI, gI_sIn, Int.reduceToNat, Int.reduceAdd, Int.reduceSub, Int.reduceMul, Int.reduceNeg, Int.zero_add, e, e2, eg, r16, ix, x1, y, rg, r5, tp.1]
          first | rfl | (simp only [eo]; rfl)
      by_cases w4 : k = 4
      · subst w4
        refine mOK_w (g := sL g 141 0 (wrL (zR σ + 10101))) ?_ (fr _) (ly _) (MI_tr mg)
        rw [en_188]
        by_cases y : CC = -9
        · rw [if_pos y] at eo
          simp (disch := (first | omega | (simp only [kd_sI, kd_sL, kd_sR, kd_cp, kd_aI]; omega) | (unfold catV; exact rfl) | (unfold catS; exact Nat.le_of_ble_eq_true rfl) | assumption)) only [q_188_0, q_188_1, q_188_2, q_188_3, q_188_6_t, q_188_6_f, q_188_9, q_188_10, q_188_11, q_188_14_t, q_188_14_f, q_188_17, q_188_19, q_188_20, q_188_21, q_188_24, q_188_26, q_188_27, q_188_28, q_188_29, q_188_30, q_188_31, q_188_32, q_188_35, q_188_37, q_188_38, q_188_40, q_188_42_t, q_188_42_f, q_188_45, q_188_46, q_188_49, q_188_51, q_188_52, q_188_54, q_188_55_0, q_188_55_1, q_188_55_2, q_188_55_3, q_188_55_4, q_188_55_d, q_188_88, q_188_89, q_188_90, q_188_93, q_188_94, q_188_95, q_188_98, q_188_99, q_188_100, q_188_101, q_188_102, q_188_105, q_188_108, q_188_109, q_188_112, q_188_113, q_188_114, q_188_117, q_188_118, q_188_119, q_188_120, q_188_121, q_188_122, q_188_123, q_188_126, q_188_129, q_188_130, q_188_133, q_188_135, q_188_136, q_188_137, q_188_138, q_188_141, q_188_144, q_188_145, q_188_148, q_188_149, q_188_150, q_188_151, q_188_154, q_188_155, q_188_156, q_188_157, q_188_158, q_188_159, q_188_160, q_188_161, q_188_164, q_188_167, q_188_168, q_188_171, q_188_173, q_188_174, q_188_177, q_188_178, q_188_179, q_188_182, q_188_183, q_188_184, q_188_185, q_188_186, q_188_189, q_188_192, q_188_193, q_188_196, q_188_197, q_188_198, q_188_201, q_188_204, q_188_205, aft_i, aft_l, aft_v, Int.toNat_natCast, kd_sI, kd_sL, kd_sR, kd_cp, gI_sL, gI_sR, gL_sI, gL_sR, gR_sI, gR_sL, gL_cp, gR_cp, kd_aI, gL_aI, gR_aI, gI_aI, gI_aIn, sI_aI, gI_sIn, Int.reduceToNat, Int.reduceAdd, Int.reduceSub, Int.reduceMul, Int.reduceNeg, Int.zero_add, e, e2, eg, r16, ix, x1, y, rg, r6, tp.2, emn]
          first | rfl | (simp only [eo, Int.sub_zero]; rfl)
        · rw [if_neg y] at eo
          simp (disch := (first | omega | (simp only [kd_sI, kd_sL, kd_sR, kd_cp, kd_aI]; omega) | (unfold catV; exact rfl) | (unfold catS; exact Nat.le_of_ble_eq_true rfl) | assumption)) only [q_188_0, q_188_1, q_188_2, q_188_3, q_188_6_t, q_188_6_f, q_188_9, q_188_10, q_188_11, q_188_14_t, q_188_14_f, q_188_17, q_188_19, q_188_20, q_188_21, q_188_24, q_188_26, q_188_27, q_188_28, q_188_29, q_188_30, q_188_31, q_188_32, q_188_35, q_188_37, q_188_38, q_188_40, q_188_42_t, q_188_42_f, q_188_45, q_188_46, q_188_49, q_188_51, q_188_52, q_188_54, q_188_55_0, q_188_55_1, q_188_55_2, q_188_55_3, q_188_55_4, q_188_55_d, q_188_88, q_188_89, q_188_90, q_188_93, q_188_94, q_188_95, q_188_98, q_188_99, q_188_100, q_188_101, q_188_102, q_188_105, q_188_108, q_188_109, q_188_112, q_188_113, q_188_114, q_188_117, q_188_118, q_188_119, q_188_120, q_188_121, q_188_122, q_188_123, q_188_126, q_188_129, q_188_130, q_188_133, q_188_135, q_188_136, q_188_137, q_188_138, q_188_141, q_188_144, q_188_145, q_188_148, q_188_149, q_188_150, q_188_151, q_188_154, q_188_155, q_188_156, q_188_157, q_188_158, q_188_159, q_188_160, q_188_161, q_188_164, q_188_167, q_188_168, q_188_171, q_188_173, q_188_174, q_188_177, q_188_178, q_188_179, q_188_182, q_188_183, q_188_184, q_188_185, q_188_186, q_188_189, q_188_192, q_188_193, q_188_196, q_188_197, q_188_198, q_188_201, q_188_204, q_188_205, aft_i, aft_l, aft_v, Int.toNat_natCast, kd_sI, kd_sL, kd_sR, kd_cp, gI_sL, gI_sR, gL_sI, gL_sR, gR_sI, gR_sL, gL_cp, gR_cp, kd_aI, gL_aI, gR_aI, gI_aI, gI_aIn, sI_aI, gI_sIn, Int.reduceToNat, Int.reduceAdd, Int.reduceSub, Int.reduceMul, Int.reduceNeg, Int.zero_add, e, e2, eg, r16, ix, x1, y, rg, r6, tp.2, emn]
          first | rfl | (simp only [eo]; rfl)
      have k5 : k = 5 := by omega
      subst k5
      have wz : wfS (zup σ (zX σ) (zS σ) (wrL (zR σ + 100001))) := w
      have emb := manyOf_ok (d + 4) g2 (brkN (zT σ) (zN σ)) (brkF_b (fun i hi => by have := w.2.1.1.2.1 i hi; omega))
      refine mOK_w (g := g2) ?_ (frm_tr (fr _) (evA_frm (evA_scr sb))) (scr_L sb (ly _)) (MI_scr wz (MI_tr mg) sb)
      rw [en_188]
      by_cases y : CC = -9
      · simp (disch := (first | omega | (simp only [kd_sI, kd_sL, kd_sR, kd_cp, kd_aI]; omega) | (unfold catV; exact rfl) | (unfold catS; exact Nat.le_of_ble_eq_true rfl) | assumption)) only [q_188_0, q_188_1, q_188_2, q_188_3, q_188_6_t, q_188_6_f, q_188_9, q_188_10, q_188_11, q_188_14_t, q_188_14_f, q_188_17, q_188_19, q_188_20, q_188_21, q_188_24, q_188_26, q_188_27, q_188_28, q_188_29, q_188_30, q_188_31, q_188_32, q_188_35, q_188_37, q_188_38, q_188_40, q_188_42_t, q_188_42_f, q_188_45, q_188_46, q_188_49, q_188_51, q_188_52, q_188_54, q_188_55_0, q_188_55_1, q_188_55_2, q_188_55_3, q_188_55_4, q_188_55_d, q_188_88, q_188_89, q_188_90, q_188_93, q_188_94, q_188_95, q_188_98, q_188_99, q_188_100, q_188_101, q_188_102, q_188_105, q_188_108, q_188_109, q_188_112, q_188_113, q_188_114, q_188_117, q_188_118, q_188_119, q_188_120, q_188_121, q_188_122, q_188_123, q_188_126, q_188_129, q_188_130, q_188_133, q_188_135, q_188_136, q_188_137, q_188_138, q_188_141, q_188_144, q_188_145, q_188_148, q_188_149, q_188_150, q_188_151, q_188_154, q_188_155, q_188_156, q_188_157, q_188_158, q_188_159, q_188_160, q_188_161, q_188_164, q_188_167, q_188_168, q_188_171, q_188_173, q_188_174, q_188_177, q_188_178, q_188_179, q_188_182, q_188_183, q_188_184, q_188_185, q_188_186, q_188_189, q_188_192, q_188_193, q_188_196, q_188_197, q_188_198, q_188_201, q_188_204, q_188_205, aft_i, aft_l, aft_v, Int.toNat_natCast, kd_sI, kd_sL, kd_sR, kd_cp, gI_sL, gI_sR, gL_sI, gL_sR, gR_sI, gR_sL, gL_cp, gR_cp, kd_aI, gL_aI, gR_aI, gI_aI, gI_aIn, sI_aI, gI_sIn, Int.reduceToNat, Int.reduceAdd, Int.reduceSub, Int.reduceMul, Int.reduceNeg, Int.zero_add, e, e2, eg, r16, ix, x1, y, rg, eb, emb]
        rfl
      · simp (disch := (first | omega | (simp only [kd_sI, kd_sL, kd_sR, kd_cp, kd_aI]; omega) | (unfold catV; exact rfl) | (unfold catS; exact Nat.le_of_ble_eq_true rfl) | assumption)) only [q_188_0, q_188_1, q_188_2, q_188_3, q_188_6_t, q_188_6_f, q_188_9, q_188_10, q_188_11, q_188_14_t, q_188_14_f, q_188_17, q_188_19, q_188_20, q_188_21, q_188_24, q_188_26, q_188_27, q_188_28, q_188_29, q_188_30, q_188_31, q_188_32, q_188_35, q_188_37, q_188_38, q_188_40, q_188_42_t, q_188_42_f, q_188_45, q_188_46, q_188_49, q_188_51, q_188_52, q_188_54, q_188_55_0, q_188_55_1, q_188_55_2, q_188_55_3, q_188_55_4, q_188_55_d, q_188_88, q_188_89, q_188_90, q_188_93, q_188_94, q_188_95, q_188_98, q_188_99, q_188_100, q_188_101, q_188_102, q_188_105, q_188_108, q_188_109, q_188_112, q_188_113, q_188_114, q_188_117, q_188_118, q_188_119, q_188_120, q_188_121, q_188_122, q_188_123, q_188_126, q_188_129, q_188_130, q_188_133, q_188_135, q_188_136, q_188_137, q_188_138, q_188_141, q_188_144, q_188_145, q_188_148, q_188_149, q_188_150, q_188_151, q_188_154, q_188_155, q_188_156, q_188_157, q_188_158, q_188_159, q_188_160, q_188_161, q_188_164, q_188_167, q_188_168, q_188_171, q_188_173, q_188_174, q_188_177, q_188_178, q_188_179, q_188_182, q_188_183, q_188_184, q_188_185, q_188_186, q_188_189, q_188_192, q_188_193, q_188_196, q_188_197, q_188_198, q_188_201, q_188_204, q_188_205, aft_i, aft_l, aft_v, Int.toNat_natCast, kd_sI, kd_sL, kd_sR, kd_cp, gI_sL, gI_sR, gL_sI, gL_sR, gR_sI, gR_sL, gL_cp, gR_cp, kd_aI, gL_aI, gR_aI, gI_aI, gI_aIn, sI_aI, gI_sIn, Int.reduceToNat, Int.reduceAdd, Int.reduceSub, Int.reduceMul, Int.reduceNeg, Int.zero_add, e, e2, eg, r16, ix, x1, y, rg, eb, emb]
        rfl
    · have e2 := mCart_f (d + 3) h L c _ m.1.1 q2 c7
      rw [if_neg (fun z => q2 z.2)]
      refine mOK_s L0 m ?_
      obtain ⟨k141, j141⟩ := lay_k L (a := 141) (t := 8) (n := 26) rfl
      rw [en_188]
      simp (disch := (first | omega | (simp only [kd_sI, kd_sL, kd_sR, kd_cp, kd_aI]; omega) | (unfold catV; exact rfl) | (unfold catS; exact Nat.le_of_ble_eq_true rfl) | assumption)) only [q_188_0, q_188_1, q_188_2, q_188_3, q_188_6_t, q_188_6_f, q_188_9, q_188_10, q_188_11, q_188_14_t, q_188_14_f, q_188_17, q_188_19, q_188_20, q_188_21, q_188_24, q_188_26, q_188_27, q_188_28, q_188_29, q_188_30, q_188_31, q_188_32, q_188_35, q_188_37, q_188_38, q_188_40, q_188_42_t, q_188_42_f, q_188_45, q_188_46, q_188_49, q_188_51, q_188_52, q_188_54, q_188_55_0, q_188_55_1, q_188_55_2, q_188_55_3, q_188_55_4, q_188_55_d, q_188_88, q_188_89, q_188_90, q_188_93, q_188_94, q_188_95, q_188_98, q_188_99, q_188_100, q_188_101, q_188_102, q_188_105, q_188_108, q_188_109, q_188_112, q_188_113, q_188_114, q_188_117, q_188_118, q_188_119, q_188_120, q_188_121, q_188_122, q_188_123, q_188_126, q_188_129, q_188_130, q_188_133, q_188_135, q_188_136, q_188_137, q_188_138, q_188_141, q_188_144, q_188_145, q_188_148, q_188_149, q_188_150, q_188_151, q_188_154, q_188_155, q_188_156, q_188_157, q_188_158, q_188_159, q_188_160, q_188_161, q_188_164, q_188_167, q_188_168, q_188_171, q_188_173, q_188_174, q_188_177, q_188_178, q_188_179, q_188_182, q_188_183, q_188_184, q_188_185, q_188_186, q_188_189, q_188_192, q_188_193, q_188_196, q_188_197, q_188_198, q_188_201, q_188_204, q_188_205, aft_i, aft_l, aft_v, Int.toNat_natCast, kd_sI, kd_sL, kd_sR, kd_cp, gI_sL, gI_sR, gL_sI, gL_sR, gR_sI, gR_sL, gL_cp, gR_cp, kd_aI, gL_aI, gR_aI, gI_aI, gI_aIn, sI_aI, gI_sIn, Int.reduceToNat, Int.reduceAdd, Int.reduceSub, Int.reduceMul, Int.reduceNeg, Int.zero_add, e, e2]
  · have e := in_f (d + 4) h k 0 5 q
    rw [if_neg (fun z => q z.1)]
    refine mOK_s L0 m ?_
    rw [en_188]
    simp (disch := (first | omega | (simp only [kd_sI, kd_sL, kd_sR, kd_cp, kd_aI]; omega) | (unfold catV; exact rfl) | (unfold catS; exact Nat.le_of_ble_eq_true rfl) | assumption)) only [q_188_0, q_188_1, q_188_2, q_188_3, q_188_6_t, q_188_6_f, q_188_9, q_188_10, q_188_11, q_188_14_t, q_188_14_f, q_188_17, q_188_19, q_188_20, q_188_21, q_188_24, q_188_26, q_188_27, q_188_28, q_188_29, q_188_30, q_188_31, q_188_32, q_188_35, q_188_37, q_188_38, q_188_40, q_188_42_t, q_188_42_f, q_188_45, q_188_46, q_188_49, q_188_51, q_188_52, q_188_54, q_188_55_0, q_188_55_1, q_188_55_2, q_188_55_3, q_188_55_4, q_188_55_d, q_188_88, q_188_89, q_188_90, q_188_93, q_188_94, q_188_95, q_188_98, q_188_99, q_188_100, q_188_101, q_188_102, q_188_105, q_188_108, q_188_109, q_188_112, q_188_113, q_188_114, q_188_117, q_188_118, q_188_119, q_188_120, q_188_121, q_188_122, q_188_123, q_188_126, q_188_129, q_188_130, q_188_133, q_188_135, q_188_136, q_188_137, q_188_138, q_188_141, q_188_144, q_188_145, q_188_148, q_188_149, q_188_150, q_188_151, q_188_154, q_188_155, q_188_156, q_188_157, q_188_158, q_188_159, q_188_160, q_188_161, q_188_164, q_188_167, q_188_168, q_188_171, q_188_173, q_188_174, q_188_177, q_188_178, q_188_179, q_188_182, q_188_183, q_188_184, q_188_185, q_188_186, q_188_189, q_188_192, q_188_193, q_188_196, q_188_197, q_188_198, q_188_201, q_188_204, q_188_205, aft_i, aft_l, aft_v, Int.toNat_natCast, kd_sI, kd_sL, kd_sR, kd_cp, gI_sL, gI_sR, gL_sI, gL_sR, gR_sI, gR_sL, gL_cp, gR_cp, kd_aI, gL_aI, gR_aI, gI_aI, gI_aIn, sI_aI, gI_sIn, Int.reduceToNat, Int.reduceAdd, Int.reduceSub, Int.reduceMul, Int.reduceNeg, Int.zero_add, e]
