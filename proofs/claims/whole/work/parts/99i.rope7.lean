theorem out0 {l : Nat → Int} {cells : Nat} {ax rw_ : Nat → Nat} : ∀ n : Nat, 0 ≤ sumI (fun i => if vO (suP l cells ax rw_ i) = -9 then 1 else 0) n ∧ (sumI (fun i => if vO (suP l cells ax rw_ i) = -9 then 1 else 0) n = 0 ↔ (suS l cells ax rw_ n).isSome = true)
  | 0 => ⟨Int.le_refl _, fun _ => rfl, fun _ => rfl⟩
  | n + 1 => by
    obtain ⟨ih1, ih2⟩ := out0 (l := l) (cells := cells) (ax := ax) (rw_ := rw_) n
    have e : sumI (fun i => if vO (suP l cells ax rw_ i) = -9 then (1 : Int) else 0) (n + 1) = sumI (fun i => if vO (suP l cells ax rw_ i) = -9 then 1 else 0) n + (if vO (suP l cells ax rw_ n) = -9 then 1 else 0) := rfl
    have vs := vO_some (o := suP l cells ax rw_ n)
    rw [suS_s]
    by_cases z : vO (suP l cells ax rw_ n) = -9
    · rw [if_pos z] at e
      refine ⟨by omega, fun h => by omega, fun h => ?_⟩
      exfalso
      cases q : suP l cells ax rw_ n with
      | none => rw [q] at h; cases h
      | some p => rw [q] at vs; exact vs.mp rfl (by rw [← q]; exact z)
    · rw [if_neg z] at e
      have sp := vs.mpr z
      have ss : (suS l cells ax rw_ n).isSome = true := by
        unfold suP at sp
        cases q : suS l cells ax rw_ n with
        | none => rw [q] at sp; cases sp
        | some f => rfl
      refine ⟨by omega, fun h => ?_, fun h => ?_⟩
      · cases q : suP l cells ax rw_ n with
        | none => rw [q] at sp; cases sp
        | some p => rfl
      · have := ih2.mpr ss
        omega
theorem freeB_2 {l l2 : Nat → Int} {cells : Nat} (e : ∀ j, j < cells → (l j = 2 ↔ l2 j = 2)) (k w : Nat) : freeB l cells k w = freeB l2 cells k w := by
  unfold freeB
  by_cases q : k + w ≤ cells
  · rw [decide_eq_true q, Bool.true_and, Bool.true_and]
    rw [Bool.eq_iff_iff, List.all_eq_true, List.all_eq_true]
    constructor
    · intro h x hx
      have := of_decide_eq_true (h x hx)
      exact decide_eq_true (fun u => this ((e _ (by have := List.mem_range.mp hx; omega)).mpr u))
    · intro h x hx
      have := of_decide_eq_true (h x hx)
      exact decide_eq_true (fun u => this ((e _ (by have := List.mem_range.mp hx; omega)).mp u))
  · rw [decide_eq_false q, Bool.false_and, Bool.false_and]
theorem fstF_2 {l l2 : Nat → Int} {cells w : Nat} (e : ∀ j, j < cells → (l j = 2 ↔ l2 j = 2)) : ∀ f k, fstF l cells w f k = fstF l2 cells w f k
  | 0, _ => rfl
  | f + 1, k => by unfold fstF; rw [freeB_2 e, fstF_2 e f (k + 1)]
theorem suS_2 {l l2 : Nat → Int} {cells : Nat} {ax rw_ : Nat → Nat} (e : ∀ j, j < cells → (l j = 2 ↔ l2 j = 2)) : ∀ i, suS l cells ax rw_ i = suS l2 cells ax rw_ i
  | 0 => rfl
  | i + 1 => by
    rw [suS_s, suS_s]
    unfold suP
    rw [suS_2 e i]
    cases suS l2 cells ax rw_ i with
    | none => rfl
    | some f => dsimp only; rw [fstF_2 e]
/-- the fewest of these rivers -/
def fwS (T : Td) (N : Nt) (V : Nat) : Nat := ndK V (tK T) (wdR N) (nM N) (tK T)
theorem fw_fit {T : Td} {N : Nt} (wT : wfT T) (w : wfN T N) (V : Nat) : fwS T N V = 0 ↔ (suS (lnd T (onV N V)) (tK T) (nX N) (nR N) (nM N)).isSome = true := by
  have := fit_iff w wT.2.1 V (nM N) 0 (Nat.le_refl _) (by rw [Nat.sub_self]; rfl)
  rw [Nat.sub_zero] at this
  exact this
theorem fw_out {T : Td} {N : Nt} (wT : wfT T) (w : wfN T N) : fwS T N (nV N) = 0 ↔ outN T N = 0 := by
  rw [fw_fit wT w]
  have e := (out0 (l := lnd T N) (cells := tK T) (ax := nX N) (rw_ := nR N) (nM N)).2
  have o : outN T N = sumI (fun i => if vO (suP (lnd T N) (tK T) (nX N) (nR N) i) = -9 then 1 else 0) (nM N) := by
    unfold outN
    exact sumI_congr (fun i hi => by
      have : fcS T N (nR N i) = vO (suP (lnd T N) (tK T) (nX N) (nR N) i) := fiF_in w.2.2.1 i hi
      rw [this])
  rw [o, e]
  exact Iff.rfl
theorem fw_outB {T : Td} {N : Nt} (wT : wfT T) (w : wfN T N) (a b c V : Nat) (hV : ∀ j, V.testBit j = ((nV N).testBit j && !(decide (a = j) || decide (b = j) || decide (c = j)))) : fwS T N V = 0 ↔ outB T N a b c = 0 := by
  rw [fw_fit wT w]
  have e := (out0 (l := lnB T N a b c) (cells := tK T) (ax := nX N) (rw_ := nR N) (nM N)).2
  have o : outB T N a b c = sumI (fun i => if vO (suP (lnB T N a b c) (tK T) (nX N) (nR N) i) = -9 then 1 else 0) (nM N) := by
    unfold outB
    exact sumI_congr (fun i hi => by rw [fiF_in w.2.2.1 i hi])
  rw [o, e]
  rw [suS_2 (l := lnd T (onV N V)) (l2 := lnB T N a b c) (fun j hj => by
    have l2 : lnd T (onV N V) j = 2 ↔ V.testBit j = true := lnd_2 (T := T) (N := onV N V) (k := j)
    rw [l2, hV j]
    unfold lnB
    by_cases z : j = a ∨ j = b ∨ j = c
    · rw [if_pos z]
      constructor
      · intro h
        rcases z with z | z | z <;> subst z <;> simp at h
      · intro h; cases h
    · rw [if_neg z, lnd_2 (T := T) (N := N) (k := j), decide_eq_false (show ¬ a = j by omega), decide_eq_false (show ¬ b = j by omega), decide_eq_false (show ¬ c = j by omega)]
      simp)]
