def bLf (left : Nat) (k c : Nat) : List Nat := (List.range' c k).filter (fun x => left.testBit x)
theorem wTk2_loop (d : Nat) (T : Td) (c7 : tN T ≤ 7) (left : Nat) (hl : left < 128) (dep nr la : Int) : ∀ (k c : Nat) (F : List Nat) (h : mH) (L : LAY h), gI h 3 4 = tN T → c + k = tN T → F.length + (bLf left k c).length ≤ 7 → rwO (gI h 130) 0 F → ∃ G, resA (callA d) 6 (36, [Sum.inr (Sum.inr (some 129)), Sum.inl dep, Sum.inl (left : Int), Sum.inl nr, Sum.inl la, Sum.inl (F.length : Int), Sum.inl (c : Int)], [], h) = some (none, aI h 130 G) ∧ rwO G 0 (F ++ bLf left k c)
  | 0, c, F, h, L, t1, hc, hF, r => by
    have e : c = tN T := hc
    subst e
    rw [show F ++ bLf left 0 (tN T) = F from List.append_nil F]
    refine ⟨gI h 130, ?_, r⟩
    rw [aI_id]
    obtain ⟨k3, j3⟩ := lay_k L (a := 3) (t := 6) (n := 8) rfl; obtain ⟨k129, j129⟩ := lay_k L (a := 129) (t := 0) (n := 9) rfl; have r129_6 : gR h 129 6 = some 3 := lay_r L rfl
    simp (disch := (first | omega | (simp only [kd_sI, kd_sL, kd_sR, kd_cp, kd_aI]; omega) | (unfold catV; exact rfl) | (unfold catS; exact Nat.le_of_ble_eq_true rfl) | assumption)) only [q_6_0, q_6_1, q_6_2, q_6_5, q_6_6, q_6_7, q_6_10, q_6_11, q_6_13, q_6_16, q_6_17, q_6_19, q_6_20, q_6_23, q_6_24, q_6_25, q_6_28, q_6_29, q_6_30, q_6_33, q_6_34, q_6_36, q_6_38, q_6_39, q_6_42, q_6_45_t, q_6_45_f, q_6_48, q_6_50, q_6_52_t, q_6_52_f, q_6_55, q_6_56, q_6_58, q_6_59, q_6_60, q_6_61, q_6_62_t, q_6_62_f, q_6_65, q_6_66, q_6_69, q_6_71, q_6_73, q_6_74, q_6_77, q_6_80, q_6_83, aft_i, aft_l, aft_v, Int.toNat_natCast, kd_sI, kd_sL, kd_sR, kd_cp, gI_sL, gI_sR, gL_sI, gL_sR, gR_sI, gR_sL, gL_cp, gR_cp, kd_aI, gL_aI, gR_aI, gI_aI, gI_aIn, sI_aI, gI_sIn, Int.reduceToNat, Int.reduceAdd, Int.reduceSub, Int.reduceMul, Int.reduceNeg, Int.zero_add, r129_6, t1]
  | k + 1, c, F, h, L, t1, hc, hF, r => by
    have L0 := L
    have bt := bitI (a := left) (c := c) (by omega) (by omega)
    unfold bLf at hF ⊢
    rw [List.range'_succ, List.filter_cons] at hF ⊢
    by_cases z : left.testBit c = true
    · rw [if_pos z] at hF bt ⊢
      rw [List.length_cons] at hF
      have lF : (F ++ [c]).length = F.length + 1 := by rw [List.length_append]; rfl
      obtain ⟨G, e, r2⟩ := wTk2_loop d T c7 left hl dep nr la k (c + 1) (F ++ [c]) (sI h 130 F.length c) (lay_sI L _ _ _) (by rw [gI_sIn (by omega)]; exact t1) (by omega) (by unfold bLf; omega) (by
        rw [gI_sIu]
        refine rwO_app.mpr ⟨rwO_congr (fun i hi => upI_n (by omega)) r, rwO_cons.mpr ⟨?_, rwO_nil _ _⟩⟩
        rw [Nat.zero_add, upI_s])
      have eA : F ++ c :: (List.range' (c + 1) k).filter (fun x => left.testBit x) = F ++ [c] ++ bLf left k (c + 1) := by unfold bLf; simp
      rw [eA]
      refine ⟨G, ?_, r2⟩
      rw [lF, sI_is h, aI_aI] at e
      obtain ⟨k3, j3⟩ := lay_k L0 (a := 3) (t := 6) (n := 8) rfl; obtain ⟨k129, j129⟩ := lay_k L0 (a := 129) (t := 0) (n := 9) rfl; obtain ⟨k130, j130⟩ := lay_k L0 (a := 130) (t := 100) (n := 7) rfl; have r129_0 : gR h 129 0 = some 130 := lay_r L0 rfl; have r129_6 : gR h 129 6 = some 3 := lay_r L0 rfl
      rw [q_6_36]
      simp (disch := (first | omega | (simp only [kd_sI, kd_sL, kd_sR, kd_cp, kd_aI]; omega) | (unfold catV; exact rfl) | (unfold catS; exact Nat.le_of_ble_eq_true rfl) | assumption)) only [q_6_0, q_6_1, q_6_2, q_6_5, q_6_6, q_6_7, q_6_10, q_6_11, q_6_13, q_6_16, q_6_17, q_6_19, q_6_20, q_6_23, q_6_24, q_6_25, q_6_28, q_6_29, q_6_30, q_6_33, q_6_34, q_6_38, q_6_39, q_6_42, q_6_45_t, q_6_45_f, q_6_48, q_6_50, q_6_52_t, q_6_52_f, q_6_55, q_6_56, q_6_58, q_6_59, q_6_60, q_6_61, q_6_62_t, q_6_62_f, q_6_65, q_6_66, q_6_69, q_6_71, q_6_73, q_6_74, q_6_77, q_6_80, q_6_83, aft_i, aft_l, aft_v, Int.toNat_natCast, kd_sI, kd_sL, kd_sR, kd_cp, gI_sL, gI_sR, gL_sI, gL_sR, gR_sI, gR_sL, gL_cp, gR_cp, kd_aI, gL_aI, gR_aI, gI_aI, gI_aIn, sI_aI, gI_sIn, Int.reduceToNat, Int.reduceAdd, Int.reduceSub, Int.reduceMul, Int.reduceNeg, Int.zero_add, r129_0, r129_6, t1, bt]
      rw [sI_is h]
      exact e
    · rw [if_neg z] at hF bt ⊢
      by_cases y : F.length < 7
      · obtain ⟨G, e, r2⟩ := wTk2_loop d T c7 left hl dep nr la k (c + 1) F h L t1 (by omega) hF r
        refine ⟨G, ?_, r2⟩
        obtain ⟨k3, j3⟩ := lay_k L0 (a := 3) (t := 6) (n := 8) rfl; obtain ⟨k129, j129⟩ := lay_k L0 (a := 129) (t := 0) (n := 9) rfl; obtain ⟨k130, j130⟩ := lay_k L0 (a := 130) (t := 100) (n := 7) rfl; have r129_0 : gR h 129 0 = some 130 := lay_r L0 rfl; have r129_6 : gR h 129 6 = some 3 := lay_r L0 rfl
        rw [q_6_36]
        simp (disch := (first | omega | (simp only [kd_sI, kd_sL, kd_sR, kd_cp, kd_aI]; omega) | (unfold catV; exact rfl) | (unfold catS; exact Nat.le_of_ble_eq_true rfl) | assumption)) only [q_6_0, q_6_1, q_6_2, q_6_5, q_6_6, q_6_7, q_6_10, q_6_11, q_6_13, q_6_16, q_6_17, q_6_19, q_6_20, q_6_23, q_6_24, q_6_25, q_6_28, q_6_29, q_6_30, q_6_33, q_6_34, q_6_38, q_6_39, q_6_42, q_6_45_t, q_6_45_f, q_6_48, q_6_50, q_6_52_t, q_6_52_f, q_6_55, q_6_56, q_6_58, q_6_59, q_6_60, q_6_61, q_6_62_t, q_6_62_f, q_6_65, q_6_66, q_6_69, q_6_71, q_6_73, q_6_74, q_6_77, q_6_80, q_6_83, aft_i, aft_l, aft_v, Int.toNat_natCast, kd_sI, kd_sL, kd_sR, kd_cp, gI_sL, gI_sR, gL_sI, gL_sR, gR_sI, gR_sL, gL_cp, gR_cp, kd_aI, gL_aI, gR_aI, gI_aI, gI_aIn, sI_aI, gI_sIn, Int.reduceToNat, Int.reduceAdd, Int.reduceSub, Int.reduceMul, Int.reduceNeg, Int.zero_add, r129_6, t1, bt]
        exact e
      · have em : (List.range' (c + 1) k).filter (fun x => left.testBit x) = [] := List.eq_nil_of_length_eq_zero (by omega)
        rw [em, List.append_nil]
        refine ⟨gI h 130, ?_, r⟩
        rw [aI_id]
        obtain ⟨k3, j3⟩ := lay_k L0 (a := 3) (t := 6) (n := 8) rfl; obtain ⟨k129, j129⟩ := lay_k L0 (a := 129) (t := 0) (n := 9) rfl; obtain ⟨k130, j130⟩ := lay_k L0 (a := 130) (t := 100) (n := 7) rfl; have r129_0 : gR h 129 0 = some 130 := lay_r L0 rfl; have r129_6 : gR h 129 6 = some 3 := lay_r L0 rfl
        simp (disch := (first | omega | (simp only [kd_sI, kd_sL, kd_sR, kd_cp, kd_aI]; omega) | (unfold catV; exact rfl) | (unfold catS; exact Nat.le_of_ble_eq_true rfl) | assumption)) only [q_6_0, q_6_1, q_6_2, q_6_5, q_6_6, q_6_7, q_6_10, q_6_11, q_6_13, q_6_16, q_6_17, q_6_19, q_6_20, q_6_23, q_6_24, q_6_25, q_6_28, q_6_29, q_6_30, q_6_33, q_6_34, q_6_36, q_6_38, q_6_39, q_6_42, q_6_45_t, q_6_45_f, q_6_48, q_6_50, q_6_52_t, q_6_52_f, q_6_55, q_6_56, q_6_58, q_6_59, q_6_60, q_6_61, q_6_62_t, q_6_62_f, q_6_65, q_6_66, q_6_69, q_6_71, q_6_73, q_6_74, q_6_77, q_6_80, q_6_83, aft_i, aft_l, aft_v, Int.toNat_natCast, kd_sI, kd_sL, kd_sR, kd_cp, gI_sL, gI_sR, gL_sI, gL_sR, gR_sI, gR_sL, gL_cp, gR_cp, kd_aI, gL_aI, gR_aI, gI_aI, gI_aIn, sI_aI, gI_sIn, Int.reduceToNat, Int.reduceAdd, Int.reduceSub, Int.reduceMul, Int.reduceNeg, Int.zero_add, r129_6, t1]
theorem wTk2_ok (d : Nat) (h : mH) (L : LAY h) (T : Td) (c7 : tN T ≤ 7) (t1 : gI h 3 4 = tN T) (A : List Nat) (left : Nat) (hl : left < 128) (nr la : Int) (hA : A.length + (bLf left (tN T) 0).length ≤ 7) (ra : rwO (gI h 131) 0 A) : ∃ g, callA (d + 1) 6 [Sum.inr (Sum.inr (some 129)), Sum.inl (A.length : Int), Sum.inl (left : Int), Sum.inl nr, Sum.inl la] h = some (none, g) ∧ dfF h g ∧ gI g 131 = gI h 131 ∧ gI g 132 = gI h 132 ∧ gI g 129 1 = A.length ∧ gI g 129 2 = nr ∧ gI g 129 3 = la ∧ rwO (gI g 130) 0 (A ++ bLf left (tN T) 0) := by
  have L0 := L
  generalize eg1 : cpI (sI (sI (sI h 129 1 (A.length : Nat)) 129 2 nr) 129 3 la) 131 0 130 0 A.length = g1
  have q1 : dfF h g1 := by
    rw [← eg1]
    refine ⟨rfl, fun q k n => ?_, rfl, rfl⟩
    rw [gI_cp, if_neg (by omega), gI_sI, if_neg (by omega), gI_sI, if_neg (by omega), gI_sI, if_neg (by omega)]
  have L1 := dfF_L q1 L
  have r1 : rwO (gI g1 130) 0 A := fun i hi => by
    rw [← eg1, gI_cp, if_pos (by omega), Nat.zero_add, Nat.sub_zero, Nat.zero_add, gI_sIn (by omega), gI_sIn (by omega), gI_sIn (by omega)]
    have := ra i hi
    rw [Nat.zero_add] at this
    exact this
  obtain ⟨G, e, r2⟩ := wTk2_loop d T c7 left hl (A.length : Int) nr la (tN T) 0 A g1 L1 (by rw [q1.2.1 3 4 (by omega)]; exact t1) (Nat.zero_add _) hA r1
  have qn : ∀ q k, q ≠ 130 → gI g1 q k = gI (sI (sI (sI h 129 1 (A.length : Nat)) 129 2 nr) 129 3 la) q k := fun q k n => by rw [← eg1, gI_cp, if_neg (by omega)]
  refine ⟨aI g1 130 G, ?_, dfF_tr q1 ⟨rfl, fun q k n => by rw [gI_aIn (by omega)], rfl, rfl⟩, ?_, ?_, ?_, ?_, ?_, by rw [gI_aI]; exact r2⟩
  · have kc : (kd g1 129).1 = 0 ∧ (kd g1 129).2 = 9 := lay_k (a := 129) L1 rfl
    obtain ⟨k129, j129⟩ := lay_k L0 (a := 129) (t := 0) (n := 9) rfl; obtain ⟨k130, j130⟩ := lay_k L0 (a := 130) (t := 100) (n := 7) rfl; obtain ⟨k131, j131⟩ := lay_k L0 (a := 131) (t := 100) (n := 7) rfl; have r129_0 : gR h 129 0 = some 130 := lay_r L0 rfl; have r129_4 : gR h 129 4 = some 131 := lay_r L0 rfl
    rw [show ((0 : Nat) : Int) = 0 from rfl] at e
    rw [en_6]
    simp (disch := (first | omega | (simp only [kd_sI, kd_sL, kd_sR, kd_cp, kd_aI]; omega) | (unfold catV; exact rfl) | (unfold catS; exact Nat.le_of_ble_eq_true rfl) | assumption)) only [q_6_0, q_6_1, q_6_2, q_6_5, q_6_6, q_6_7, q_6_10, q_6_11, q_6_13, q_6_16, q_6_17, q_6_19, q_6_20, q_6_23, q_6_24, q_6_25, q_6_28, q_6_29, q_6_30, q_6_33, q_6_34, q_6_38, q_6_39, q_6_42, q_6_45_t, q_6_45_f, q_6_48, q_6_50, q_6_52_t, q_6_52_f, q_6_55, q_6_56, q_6_58, q_6_59, q_6_60, q_6_61, q_6_62_t, q_6_62_f, q_6_65, q_6_66, q_6_69, q_6_71, q_6_73, q_6_74, q_6_77, q_6_80, q_6_83, aft_i, aft_l, aft_v, Int.toNat_natCast, kd_sI, kd_sL, kd_sR, kd_cp, gI_sL, gI_sR, gL_sI, gL_sR, gR_sI, gR_sL, gL_cp, gR_cp, kd_aI, gL_aI, gR_aI, gI_aI, gI_aIn, sI_aI, gI_sIn, Int.reduceToNat, Int.reduceAdd, Int.reduceSub, Int.reduceMul, Int.reduceNeg, Int.zero_add, r129_0, r129_4]
    rw [eg1]
    exact e
  · funext k
    rw [gI_aIn (by omega), qn 131 k (by omega), gI_sIn (by omega), gI_sIn (by omega), gI_sIn (by omega)]
  · funext k
    rw [gI_aIn (by omega), qn 132 k (by omega), gI_sIn (by omega), gI_sIn (by omega), gI_sIn (by omega)]
  · rw [gI_aIn (by omega), qn 129 1 (by omega), gI_sIo (by omega), gI_sIo (by omega), gI_sIs]
  · rw [gI_aIn (by omega), qn 129 2 (by omega), gI_sIo (by omega), gI_sIs]
  · rw [gI_aIn (by omega), qn 129 3 (by omega), gI_sIs]
/-- the best known so far -/
def bstK (h : mH) (T : Td) (N : Nt) (o : Option (List Nat)) : Prop := match o with
  | none => gI h 129 1 = -1
  | some b => gI h 129 1 = (stN T (onR N b) : Int) ∧ gI h 129 2 = nearS T (onR N b) ∧ (0 < stN T (onR N b) → gI h 129 3 = lastS T (onR N b)) ∧ rwO (gI h 130) 0 b
theorem kcmp {T : Td} {N : Nt} (wT : wfT T) (wN : wfN T N) {p q : List Nat} (np : p.Nodup) (bp : ∀ c, c ∈ p → c < tN T) (nq : q.Nodup) (bq : ∀ c, c ∈ q → c < tN T) (e : p.length = q.length) : (keyL T N p < keyL T N q ↔ stN T (onR N q) < stN T (onR N p) ∨ (stN T (onR N p) = stN T (onR N q) ∧ (nearS T (onR N p) < nearS T (onR N q) ∨ (nearS T (onR N p) = nearS T (onR N q) ∧ lastS T (onR N p) < lastS T (onR N q))))) ∧ (keyL T N p = keyL T N q ↔ stN T (onR N p) = stN T (onR N q) ∧ nearS T (onR N p) = nearS T (onR N q) ∧ lastS T (onR N p) = lastS T (onR N q)) := by
  obtain ⟨-, -, -, p1, p2⟩ := keyL_b wT wN np bp
  obtain ⟨-, -, -, q1, q2⟩ := keyL_b wT wN nq bq
  have op := out_st (T := T) (onR_wf wN np bp)
  have oq := out_st (T := T) (onR_wf wN nq bq)
  have op : outN T (onR N p) = (p.length : Int) - stN T (onR N p) := op
  have oq : outN T (onR N q) = (q.length : Int) - stN T (onR N q) := oq
  unfold keyL
  rw [op, oq, e]
  omega
