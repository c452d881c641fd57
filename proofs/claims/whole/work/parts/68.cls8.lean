theorem wDark_loop (d : Nat) (h : mH) (L : LAY h) (T : Td) (N : Nt) (wT : wfT T) (wN : wfN T N) (q : Cq h T N) (hh : Int) : ∀ (k i : Nat), i + k = nM N → (∀ j, j < i → (hrs T (nR N j) : Int) ≤ hh) → ∃ r : Nat, r ≤ nM N ∧ i ≤ r ∧ (∀ j, j < r → (hrs T (nR N j) : Int) ≤ hh) ∧ (r < nM N → ¬ (hrs T (nR N r) : Int) ≤ hh) ∧ resA (callA (d + 1)) 81 (11, [Sum.inr (Sum.inr (some 0)), Sum.inl hh, Sum.inl (i : Int)], [], h) = some (some (Sum.inl (r : Int)), h)
  | 0, i, hi, hn => by
    have e : i = nM N := hi
    have n7 : nM N ≤ 7 := Nat.le_trans wN.1 wT.1
    have u1 := q.2.1.1
    subst e
    refine ⟨nM N, Nat.le_refl _, Nat.le_refl _, hn, fun x => absurd x (Nat.lt_irrefl _), ?_⟩
    obtain ⟨k0, j0⟩ := lay_k L (a := 0) (t := 7) (n := 17) rfl; obtain ⟨k13, j13⟩ := lay_k L (a := 13) (t := 4) (n := 4) rfl; obtain ⟨k14, j14⟩ := lay_k L (a := 14) (t := 2) (n := 5) rfl; have r0_3 : gR h 0 3 = some 13 := lay_r L rfl; have r13_0 : gR h 13 0 = some 14 := lay_r L rfl
    simp (disch := (first | omega | (simp only [kd_sI, kd_sL, kd_sR, kd_cp, kd_aI]; omega) | (unfold catV; exact rfl) | (unfold catS; exact Nat.le_of_ble_eq_true rfl) | assumption)) only [q_81_0, q_81_1, q_81_4_t, q_81_4_f, q_81_7, q_81_8, q_81_9, q_81_10, q_81_11, q_81_12, q_81_13, q_81_16, q_81_19, q_81_22_t, q_81_22_f, q_81_25, q_81_26, q_81_29, q_81_30, q_81_33, q_81_36, q_81_39, q_81_40, q_81_41, q_81_44, q_81_45_t, q_81_45_f, q_81_48, q_81_51, q_81_54, q_81_55, aft_i, aft_l, aft_v, Int.toNat_natCast, kd_sI, kd_sL, kd_sR, kd_cp, gI_sL, gI_sR, gL_sI, gL_sR, gR_sI, gR_sL, gL_cp, gR_cp, kd_aI, gL_aI, gR_aI, gI_aI, gI_aIn, sI_aI, gI_sIn, Int.reduceToNat, Int.reduceAdd, Int.reduceSub, Int.reduceMul, Int.reduceNeg, Int.zero_add, r0_3, r13_0, u1]
  | k + 1, i, hi, hn => by
    have c7 := wT.1
    have n7 : nM N ≤ 7 := Nat.le_trans wN.1 wT.1
    have u1 := q.2.1.1
    have r2 := wN.2.1 i (by omega)
    have u2 := q.2.1.2.2.2.1 i (by omega)
    have e1 := wHours_ok d h L T wT q.1 (nR N i) r2
    obtain ⟨k0, j0⟩ := lay_k L (a := 0) (t := 7) (n := 17) rfl; obtain ⟨k3, j3⟩ := lay_k L (a := 3) (t := 6) (n := 8) rfl; obtain ⟨k13, j13⟩ := lay_k L (a := 13) (t := 4) (n := 4) rfl; obtain ⟨k14, j14⟩ := lay_k L (a := 14) (t := 2) (n := 5) rfl; obtain ⟨k15, j15⟩ := lay_k L (a := 15) (t := 100) (n := 7) rfl; have r0_1 : gR h 0 1 = some 3 := lay_r L rfl; have r0_3 : gR h 0 3 = some 13 := lay_r L rfl; have r13_0 : gR h 13 0 = some 14 := lay_r L rfl; have r14_0 : gR h 14 0 = some 15 := lay_r L rfl
    by_cases z : (hrs T (nR N i) : Int) ≤ hh
    · obtain ⟨r, h1, h2, h3, h4, ih⟩ := wDark_loop d h L T N wT wN q hh k (i + 1) (by omega) (fun j hj => by
        by_cases y : j = i
        · subst y; exact z
        · exact hn j (by omega))
      refine ⟨r, h1, by omega, h3, h4, ?_⟩
      rw [q_81_11]
      simp (disch := (first | omega | (simp only [kd_sI, kd_sL, kd_sR, kd_cp, kd_aI]; omega) | (unfold catV; exact rfl) | (unfold catS; exact Nat.le_of_ble_eq_true rfl) | assumption)) only [q_81_0, q_81_1, q_81_4_t, q_81_4_f, q_81_7, q_81_8, q_81_9, q_81_10, q_81_12, q_81_13, q_81_16, q_81_19, q_81_22_t, q_81_22_f, q_81_25, q_81_26, q_81_29, q_81_30, q_81_33, q_81_36, q_81_39, q_81_40, q_81_41, q_81_44, q_81_45_t, q_81_45_f, q_81_48, q_81_51, q_81_54, q_81_55, aft_i, aft_l, aft_v, Int.toNat_natCast, kd_sI, kd_sL, kd_sR, kd_cp, gI_sL, gI_sR, gL_sI, gL_sR, gR_sI, gR_sL, gL_cp, gR_cp, kd_aI, gL_aI, gR_aI, gI_aI, gI_aIn, sI_aI, gI_sIn, Int.reduceToNat, Int.reduceAdd, Int.reduceSub, Int.reduceMul, Int.reduceNeg, Int.zero_add, r0_1, r0_3, r13_0, r14_0, u1, u2, e1]
      exact ih
    · refine ⟨i, by omega, Nat.le_refl _, hn, fun _ => z, ?_⟩
      simp (disch := (first | omega | (simp only [kd_sI, kd_sL, kd_sR, kd_cp, kd_aI]; omega) | (unfold catV; exact rfl) | (unfold catS; exact Nat.le_of_ble_eq_true rfl) | assumption)) only [q_81_0, q_81_1, q_81_4_t, q_81_4_f, q_81_7, q_81_8, q_81_9, q_81_10, q_81_11, q_81_12, q_81_13, q_81_16, q_81_19, q_81_22_t, q_81_22_f, q_81_25, q_81_26, q_81_29, q_81_30, q_81_33, q_81_36, q_81_39, q_81_40, q_81_41, q_81_44, q_81_45_t, q_81_45_f, q_81_48, q_81_51, q_81_54, q_81_55, aft_i, aft_l, aft_v, Int.toNat_natCast, kd_sI, kd_sL, kd_sR, kd_cp, gI_sL, gI_sR, gL_sI, gL_sR, gR_sI, gR_sL, gL_cp, gR_cp, kd_aI, gL_aI, gR_aI, gI_aI, gI_aIn, sI_aI, gI_sIn, Int.reduceToNat, Int.reduceAdd, Int.reduceSub, Int.reduceMul, Int.reduceNeg, Int.zero_add, r0_1, r0_3, r13_0, r14_0, u1, u2, e1]
theorem inC_pre {T : Td} {r : Nat → Nat} {h : Int} (h1 : 1 ≤ h) {m : Nat} (hm : ∀ j, j < m → (hrs T (r j) : Int) ≤ h) : ∀ i, i ≤ m → inC T r h i = i ∧ (mxH T r i : Int) ≤ h
  | 0, _ => ⟨rfl, by show ((0 : Nat) : Int) ≤ h; omega⟩
  | i + 1, hi => by
    obtain ⟨a, b⟩ := inC_pre h1 hm i (by omega)
    have c := hm i (by omega)
    have e : mxH T r (i + 1) = if mxH T r i < hrs T (r i) then hrs T (r i) else mxH T r i := rfl
    have m1 : (mxH T r (i + 1) : Int) ≤ h := by
      rw [e]
      split
      · exact c
      · exact b
    refine ⟨?_, m1⟩
    show inC T r h i + (if (mxH T r (i + 1) : Int) ≤ h then 1 else 0) = i + 1
    rw [if_pos m1, a]
theorem inC_stop {T : Td} {r : Nat → Nat} {h : Int} {m : Nat} (hm : ¬ (hrs T (r m) : Int) ≤ h) : ∀ k, inC T r h (m + 1 + k) = inC T r h m ∧ ¬ (mxH T r (m + 1 + k) : Int) ≤ h
  | 0 => by
    have e : mxH T r (m + 1) = if mxH T r m < hrs T (r m) then hrs T (r m) else mxH T r m := rfl
    have m1 : ¬ (mxH T r (m + 1) : Int) ≤ h := by
      rw [e]
      split <;> omega
    refine ⟨?_, m1⟩
    show inC T r h m + (if (mxH T r (m + 1) : Int) ≤ h then 1 else 0) = _
    rw [if_neg m1]
    omega
  | k + 1 => by
    obtain ⟨a, b⟩ := inC_stop hm k
    have e : mxH T r (m + 1 + k + 1) = if mxH T r (m + 1 + k) < hrs T (r (m + 1 + k)) then hrs T (r (m + 1 + k)) else mxH T r (m + 1 + k) := rfl
    have m1 : ¬ (mxH T r (m + 1 + k + 1) : Int) ≤ h := by
      rw [e]
      split <;> omega
    refine ⟨?_, m1⟩
    show inC T r h (m + 1 + k) + (if (mxH T r (m + 1 + k + 1) : Int) ≤ h then 1 else 0) = _
    rw [if_neg m1, a]
    omega
/-- how many are in: those ahead of the first that is too slow -/
theorem inC_is {T : Td} {r : Nat → Nat} {h : Int} (h1 : 1 ≤ h) {n m : Nat} (le : m ≤ n) (hm : ∀ j, j < m → (hrs T (r j) : Int) ≤ h) (hs : m < n → ¬ (hrs T (r m) : Int) ≤ h) : inC T r h n = m := by
  by_cases z : m = n
  · subst z
    exact (inC_pre h1 hm m (Nat.le_refl _)).1
  · have a := inC_stop (T := T) (r := r) (h := h) (m := m) (hs (by omega)) (n - (m + 1))
    rw [show m + 1 + (n - (m + 1)) = n by omega] at a
    rw [a.1]
    exact (inC_pre h1 hm m (Nat.le_refl _)).1
theorem cDark_ok (d : Nat) (h : mH) (L : LAY h) (T : Td) (N : Nt) (wT : wfT T) (wN : wfN T N) (q : Cq h T N) (hh : Int) : callA (d + 2) 81 [Sum.inr (Sum.inr (some 0)), Sum.inl hh] h = some (some (Sum.inl (darS T N hh)), h) := by
  have e := wHour_ok d h hh
  unfold darS
  obtain ⟨k0, j0⟩ := lay_k L (a := 0) (t := 7) (n := 17) rfl
  rw [en_81]
  by_cases z : 1 ≤ hh ∧ hh ≤ 60
  · rw [if_pos z] at e ⊢
    obtain ⟨r, h1, h2, h3, h4, el⟩ := wDark_loop d h L T N wT wN q hh (nM N) 0 (Nat.zero_add _) (fun j hj => absurd hj (Nat.not_lt_zero _))
    rw [inC_is z.1 h1 h3 h4]
    rw [show ((0 : Nat) : Int) = 0 from rfl] at el
    simp (disch := (first | omega | (simp only [kd_sI, kd_sL, kd_sR, kd_cp, kd_aI]; omega) | (unfold catV; exact rfl) | (unfold catS; exact Nat.le_of_ble_eq_true rfl) | assumption)) only [q_81_0, q_81_1, q_81_4_t, q_81_4_f, q_81_7, q_81_8, q_81_9, q_81_10, q_81_12, q_81_13, q_81_16, q_81_19, q_81_22_t, q_81_22_f, q_81_25, q_81_26, q_81_29, q_81_30, q_81_33, q_81_36, q_81_39, q_81_40, q_81_41, q_81_44, q_81_45_t, q_81_45_f, q_81_48, q_81_51, q_81_54, q_81_55, aft_i, aft_l, aft_v, Int.toNat_natCast, kd_sI, kd_sL, kd_sR, kd_cp, gI_sL, gI_sR, gL_sI, gL_sR, gR_sI, gR_sL, gL_cp, gR_cp, kd_aI, gL_aI, gR_aI, gI_aI, gI_aIn, sI_aI, gI_sIn, Int.reduceToNat, Int.reduceAdd, Int.reduceSub, Int.reduceMul, Int.reduceNeg, Int.zero_add, e]
    exact el
  · rw [if_neg z] at e ⊢
    simp (disch := (first | omega | (simp only [kd_sI, kd_sL, kd_sR, kd_cp, kd_aI]; omega) | (unfold catV; exact rfl) | (unfold catS; exact Nat.le_of_ble_eq_true rfl) | assumption)) only [q_81_0, q_81_1, q_81_4_t, q_81_4_f, q_81_7, q_81_8, q_81_9, q_81_10, q_81_12, q_81_13, q_81_16, q_81_19, q_81_22_t, q_81_22_f, q_81_25, q_81_26, q_81_29, q_81_30, q_81_33, q_81_36, q_81_39, q_81_40, q_81_41, q_81_44, q_81_45_t, q_81_45_f, q_81_48, q_81_51, q_81_54, q_81_55, aft_i, aft_l, aft_v, Int.toNat_natCast, kd_sI, kd_sL, kd_sR, kd_cp, gI_sL, gI_sR, gL_sI, gL_sR, gR_sI, gR_sL, gL_cp, gR_cp, kd_aI, gL_aI, gR_aI, gI_aI, gI_aIn, sI_aI, gI_sIn, Int.reduceToNat, Int.reduceAdd, Int.reduceSub, Int.reduceMul, Int.reduceNeg, Int.zero_add, e]
/-- who is quick enough -/
def qkB (T : Td) (hh : Int) (c : Nat) : Bool := decide ((hrs T c : Int) ≤ hh)
def qkL (T : Td) (N : Nt) (hh : Int) (b : Bool) : List Nat := (notLost N (tN T)).filter (fun c => qkB T hh c == b)
theorem mem_tw {p : Nat → Bool} {a : Nat} : ∀ {l : List Nat}, a ∈ l.takeWhile p → p a = true
  | [], h => absurd h List.not_mem_nil
  | b :: l, h => by
    rw [List.takeWhile_cons] at h
    by_cases z : p b = true
    · rw [if_pos z] at h
      rcases List.mem_cons.mp h with e | e
      · rw [e]; exact z
      · exact mem_tw e
    · rw [if_neg z] at h
      exact absurd h List.not_mem_nil
theorem inC_tw {T : Td} {hh : Int} (h1 : 1 ≤ hh) (l : List Nat) : inC T (ofL l) hh l.length = (l.takeWhile (qkB T hh)).length := by
  have pre : (l.takeWhile (qkB T hh)).length ≤ l.length := (List.takeWhile_prefix _).length_le
  refine inC_is h1 pre (fun j hj => ?_) (fun hl => ?_)
  · have hj2 : j < l.length := by omega
    rw [ofL_at hj2]
    have m := mem_tw (List.getElem_mem hj)
    have e : (l.takeWhile (qkB T hh))[j] = l[j] := (List.takeWhile_prefix (qkB T hh)).getElem hj
    rw [e] at m
    exact of_decide_eq_true m
  · rw [ofL_at hl]
    intro y
    have key : ∀ (m : List Nat) (hm : (m.takeWhile (qkB T hh)).length < m.length), ¬ qkB T hh (m[(m.takeWhile (qkB T hh)).length]'hm) = true := by
      intro m
      induction m with
      | nil => intro hm; exact absurd hm (Nat.lt_irrefl _)
      | cons a m ih =>
        intro hm
        by_cases z : qkB T hh a = true
        · have e : (a :: m).takeWhile (qkB T hh) = a :: m.takeWhile (qkB T hh) := by rw [List.takeWhile_cons, if_pos z]
          have hm2 : (m.takeWhile (qkB T hh)).length < m.length := by
            rw [e] at hm
            simp only [List.length_cons] at hm
            omega
          have := ih hm2
          simp only [e, List.length_cons, List.getElem_cons_succ]
          exact this
        · have e : (a :: m).takeWhile (qkB T hh) = [] := by rw [List.takeWhile_cons, if_neg z]
          simp only [e, List.length_nil, List.getElem_cons_zero]
          exact z
    exact key l hl (decide_eq_true y)
theorem lexV_app : ∀ {a b : List Nat}, lexV (a ++ b) = lexV a * 8 ^ b.length + lexV b
  | [], b => by
    show lexV b = 0 * 8 ^ b.length + lexV b
    omega
  | x :: a, b => by
    show x * 8 ^ (a ++ b).length + lexV (a ++ b) = (x * 8 ^ a.length + lexV a) * 8 ^ b.length + lexV b
    rw [lexV_app (a := a), List.length_append, Nat.pow_add, Nat.add_mul, Nat.mul_assoc, Nat.add_assoc]
theorem soon_in {T : Td} {N : Nt} {hh : Int} (h1 : 1 ≤ hh) : inC T (ofL (qkL T N hh true ++ qkL T N hh false)) hh (qkL T N hh true ++ qkL T N hh false).length = (qkL T N hh true).length := by
  rw [inC_tw h1]
  rw [List.takeWhile_append_of_pos (fun a ha => ?_)]
  · rw [List.length_append]
    have e0 : (qkL T N hh false).takeWhile (qkB T hh) = [] := by
      cases hc : qkL T N hh false with
      | nil => rfl
      | cons a m =>
        have ha : a ∈ qkL T N hh false := by rw [hc]; exact List.mem_cons_self
        unfold qkL at ha
        have := (List.mem_filter.mp ha).2
        rw [List.takeWhile_cons, if_neg (by intro y; rw [y] at this; cases this)]
    rw [e0]
    rfl
  · unfold qkL at ha
    have := (List.mem_filter.mp ha).2
    simpa using this
/-- the quick ones by their numbers, then the others: the first order with the most in by then -/
theorem soon_best {T : Td} {N : Nt} (wT : wfT T) {hh : Int} (h1 : 1 ≤ hh) : isBest (soK T hh) (notLost N (tN T)) (qkL T N hh true ++ qkL T N hh false) := by
  have c7 := wT.1
  have h8 : b8 (notLost N (tN T)) := fun x hx => by have := (notLost_mem.mp hx).1; omega
  have ef : (fun c => qkB T hh c == true) = qkB T hh := funext (fun c => by cases qkB T hh c <;> rfl)
  have eg : (fun c => qkB T hh c == false) = fun c => !qkB T hh c := funext (fun c => by cases qkB T hh c <;> rfl)
  have pm : (qkL T N hh true ++ qkL T N hh false).Perm (notLost N (tN T)) := by
    unfold qkL
    rw [ef, eg]
    exact List.filter_append_perm _ _
  refine ⟨pm, fun q pq => ?_⟩
  have kb : soK T hh (qkL T N hh true ++ qkL T N hh false) = -((qkL T N hh true).length : Int) := by
    unfold soK
    rw [soon_in h1]
  have qf : (q.filter (qkB T hh)).Perm (qkL T N hh true) := by
    unfold qkL
    rw [ef]
    exact pq.filter _
  have kq : soK T hh q = -((q.takeWhile (qkB T hh)).length : Int) := by
    unfold soK
    rw [inC_tw h1]
  have tw : ((q.takeWhile (qkB T hh)).filter (qkB T hh)) = q.takeWhile (qkB T hh) := List.filter_eq_self.mpr (fun a ha => mem_tw ha)
  have sub : (q.takeWhile (qkB T hh)).Sublist (q.filter (qkB T hh)) := by
    have := List.Sublist.filter (qkB T hh) (List.takeWhile_prefix (l := q) (qkB T hh)).sublist
    rw [tw] at this
    exact this
  have le := sub.length_le
  rw [qf.length_eq] at le
  unfold bet
  rw [kb, kq]
  by_cases z : (q.takeWhile (qkB T hh)).length = (qkL T N hh true).length
  · refine Or.inr ⟨by rw [z], ?_⟩
    have e1 : q.takeWhile (qkB T hh) = q.filter (qkB T hh) := sub.eq_of_length (by rw [z, qf.length_eq])
    have p1 : (q.takeWhile (qkB T hh)).Perm (qkL T N hh true) := by rw [e1]; exact qf
    have e2 : q.takeWhile (qkB T hh) ++ q.dropWhile (qkB T hh) = q := List.takeWhile_append_dropWhile
    have p2 : (q.dropWhile (qkB T hh)).Perm (qkL T N hh false) := by
      have a : (q.takeWhile (qkB T hh) ++ q.dropWhile (qkB T hh)).Perm (qkL T N hh true ++ qkL T N hh false) := by
        rw [e2]
        exact pq.trans pm.symm
      exact (List.perm_append_left_iff (q.takeWhile (qkB T hh))).mp (a.trans (List.Perm.append_right _ p1.symm))
    have asc : ∀ b, Asc (qkL T N hh b) := fun b => List.Pairwise.filter _ (notLost_asc N _)
    have b8q : ∀ b, b8 (qkL T N hh b) := fun b x hx => h8 x (List.mem_filter.mp hx).1
    have l1 := asc_bot (b8q true) (asc true) _ p1
    have l2 := asc_bot (b8q false) (asc false) _ p2
    rw [← e2, lexV_app, lexV_app, p2.length_eq]
    have := Nat.mul_le_mul_right (8 ^ (qkL T N hh false).length) l1
    omega
  · left
    omega
