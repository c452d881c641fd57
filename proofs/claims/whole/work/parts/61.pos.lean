def pF (T : Td) (N : Nt) (i : Nat) : Option Nat := suP (lnd T N) (tK T) (nX N) (nR N) i
theorem suP_S {l : Nat → Int} {cells : Nat} {ax rw_ : Nat → Nat} {i p : Nat} (h : suP l cells ax rw_ i = some p) : ∃ f, suS l cells ax rw_ i = some f ∧ f ≤ p ∧ fstF l cells (ax (rw_ i)) (40 - f) f = some p := by
  unfold suP at h
  cases q : suS l cells ax rw_ i with
  | none => rw [q] at h; cases h
  | some f =>
    rw [q] at h
    exact ⟨f, rfl, (fstF_some h).1, h⟩
theorem suP_mono {l : Nat → Int} {cells : Nat} {ax rw_ : Nat → Nat} {i : Nat} : ∀ {j q : Nat}, i < j → suP l cells ax rw_ j = some q → ∃ p, suP l cells ax rw_ i = some p ∧ p + ax (rw_ i) ≤ q
  | 0, q, h, _ => absurd h (Nat.not_lt_zero _)
  | j + 1, q, h, e => by
    obtain ⟨f, e1, le, -⟩ := suP_S e
    rw [suS_s] at e1
    cases e2 : suP l cells ax rw_ j with
    | none => rw [e2] at e1; cases e1
    | some p =>
      rw [e2] at e1
      have e1 : some (p + ax (rw_ j)) = some f := e1
      injection e1 with e1
      by_cases z : i = j
      · subst z
        exact ⟨p, e2, by omega⟩
      · obtain ⟨p2, e3, le2⟩ := suP_mono (show i < j by omega) e2
        exact ⟨p2, e3, by omega⟩
theorem plN_le (l : Nat → Int) (cells : Nat) (ax rw_ : Nat → Nat) : ∀ n, plN l cells ax rw_ n ≤ n
  | 0 => Nat.le_refl _
  | n + 1 => by
    have := plN_le l cells ax rw_ n
    unfold plN
    split <;> omega
theorem plN_iff {l : Nat → Int} {cells : Nat} {ax rw_ : Nat → Nat} : ∀ {n i : Nat}, i < n → (i < plN l cells ax rw_ n ↔ (suP l cells ax rw_ i).isSome = true)
  | 0, i, h => absurd h (Nat.not_lt_zero _)
  | n + 1, i, h => by
    have le := plN_le l cells ax rw_ n
    by_cases z : i = n
    · subst z
      unfold plN
      constructor
      · intro q
        split at q
        next c => exact c.2
        · omega
      · intro q
        have full : plN l cells ax rw_ i = i := by
          by_cases y : plN l cells ax rw_ i = i
          · exact y
          · have lt : plN l cells ax rw_ i < i := by omega
            obtain ⟨q0, hq0⟩ := Option.isSome_iff_exists.mp q
            obtain ⟨p, hp, -⟩ := suP_mono lt hq0
            have := (plN_iff (n := i) (i := plN l cells ax rw_ i) lt).mpr (by rw [hp]; rfl)
            omega
        rw [if_pos ⟨full, q⟩]
        omega
    · have ih := plN_iff (l := l) (cells := cells) (ax := ax) (rw_ := rw_) (n := n) (i := i) (by omega)
      rw [← ih]
      have e : plN l cells ax rw_ (n + 1) = if plN l cells ax rw_ n = n ∧ (suP l cells ax rw_ n).isSome = true then n + 1 else plN l cells ax rw_ n := rfl
      rw [e]
      split
      next c => omega
      · exact Iff.rfl
theorem fc_at {T : Td} {N : Nt} (w : wfN T N) {i : Nat} (hi : i < nM N) : fcS T N (nR N i) = vO (pF T N i) := by
  unfold fcS
  exact fiF_in w.2.2.1 i hi
theorem vO_some {o : Option Nat} : o.isSome = true ↔ vO o ≠ -9 := by
  cases o with
  | none => exact ⟨fun h => (by cases h), fun h => absurd rfl h⟩
  | some p =>
    refine ⟨fun _ => ?_, fun _ => rfl⟩
    show (p : Int) ≠ -9
    omega
theorem fc_st {T : Td} {N : Nt} (w : wfN T N) {i : Nat} (hi : i < nM N) : i < stN T N ↔ fcS T N (nR N i) ≠ -9 := by
  rw [fc_at w hi, ← vO_some]
  exact plN_iff hi
theorem stN_le (T : Td) (N : Nt) : stN T N ≤ nM N := plN_le _ _ _ _ _
theorem fc_lt {T : Td} {N : Nt} (w : wfN T N) {i j : Nat} (h : i < j) (hj : j < stN T N) : 0 ≤ fcS T N (nR N i) ∧ fcS T N (nR N i) + nX N (nR N i) ≤ fcS T N (nR N j) := by
  have le := stN_le T N
  have h2 := (plN_iff (show j < nM N by omega)).mp hj
  obtain ⟨q, hq⟩ := Option.isSome_iff_exists.mp h2
  obtain ⟨p, hp, lp⟩ := suP_mono h hq
  rw [fc_at w (by omega), fc_at w (by omega)]
  unfold pF
  rw [hq, hp]
  show 0 ≤ (p : Int) ∧ (p : Int) + _ ≤ (q : Int)
  omega
theorem fc_b {T : Td} {N : Nt} (wT : wfT T) (w : wfN T N) {i : Nat} (h : i < stN T N) : 0 ≤ fcS T N (nR N i) ∧ fcS T N (nR N i) + nX N (nR N i) ≤ tK T := by
  have le := stN_le T N
  have := (fc_st w (show i < nM N by omega)).mp h
  rcases fcS_b wT w (nR N i) with q | q
  · exact absurd q this
  · exact q
/-- a cart that is not in the row -/
theorem fc_no {T : Td} {N : Nt} {c : Nat} (h : ∀ i, i < nM N → nR N i ≠ c) : fcS T N c = -9 := fiF_out h
theorem out_st {T : Td} {N : Nt} (w : wfN T N) : outN T N = (nM N : Int) - stN T N := by
  have le := stN_le T N
  have key : ∀ n, n ≤ nM N → sumI (fun i => if fcS T N (nR N i) = -9 then 1 else 0) n = if n ≤ stN T N then 0 else (n : Int) - stN T N := by
    intro n
    induction n with
    | zero => intro _; rw [if_pos (by omega)]; rfl
    | succ n ih =>
      intro h
      have e : sumI (fun i => if fcS T N (nR N i) = -9 then 1 else 0) (n + 1) = sumI (fun i => if fcS T N (nR N i) = -9 then 1 else 0) n + (if fcS T N (nR N n) = -9 then 1 else 0) := rfl
      rw [e, ih (by omega)]
      have c := fc_st w (T := T) (show n < nM N by omega)
      by_cases z : n < stN T N
      · rw [if_pos (show n ≤ stN T N by omega), if_neg (c.mp z), if_pos (show n + 1 ≤ stN T N by omega)]; rfl
      · rw [if_pos (show fcS T N (nR N n) = -9 from Decidable.byContradiction (fun y => z (c.mpr y)))]
        by_cases y : n ≤ stN T N
        · rw [if_pos y, if_neg (show ¬ n + 1 ≤ stN T N by omega)]; omega
        · rw [if_neg y, if_neg (show ¬ n + 1 ≤ stN T N by omega)]; omega
  unfold outN
  rw [key (nM N) (Nat.le_refl _)]
  by_cases z : nM N ≤ stN T N
  · rw [if_pos z]; omega
  · rw [if_neg z]
theorem last_st {T : Td} {N : Nt} (w : wfN T N) : ∀ n, n ≤ nM N → (∀ j, n ≤ j → j < nM N → lstV (fcS T N) (nX N) (nL N) (nR N j) = -9) → lastS T N = mxI (fun i => lstV (fcS T N) (nX N) (nL N) (nR N i)) n := by
  intro n hn h
  unfold lastS
  have key : ∀ k, n + k ≤ nM N → mxI (fun i => lstV (fcS T N) (nX N) (nL N) (nR N i)) (n + k) = mxI (fun i => lstV (fcS T N) (nX N) (nL N) (nR N i)) n := by
    intro k
    induction k with
    | zero => intro _; rfl
    | succ k ih =>
      intro hk
      have e : mxI (fun i => lstV (fcS T N) (nX N) (nL N) (nR N i)) (n + k + 1) = if mxI (fun i => lstV (fcS T N) (nX N) (nL N) (nR N i)) (n + k) < lstV (fcS T N) (nX N) (nL N) (nR N (n + k)) then lstV (fcS T N) (nX N) (nL N) (nR N (n + k)) else mxI (fun i => lstV (fcS T N) (nX N) (nL N) (nR N i)) (n + k) := rfl
      have g9 : ∀ m, -9 ≤ mxI (fun i => lstV (fcS T N) (nX N) (nL N) (nR N i)) m := by
        intro m
        induction m with
        | zero => exact Int.le_refl _
        | succ m ih2 =>
          show -9 ≤ if _ then _ else _
          split <;> omega
      rw [show n + (k + 1) = n + k + 1 from rfl, e, h (n + k) (by omega) (by omega), if_neg (by have := g9 (n + k); omega)]
      exact ih (by omega)
  have := key (nM N - n) (by omega)
  rw [show n + (nM N - n) = nM N by omega] at this
  exact this
theorem last_up {T : Td} {N : Nt} (wT : wfT T) (w : wfN T N) {n : Nat} (h : n < stN T N) : mxI (fun i => lstV (fcS T N) (nX N) (nL N) (nR N i)) n < fcS T N (nR N n) + nX N (nR N n) - 1 := by
  have b := fc_b wT w h
  have le := stN_le T N
  have x1 := (w.2.2.2.1 _ (w.2.1 n (by omega))).1
  have key : ∀ k, k ≤ n → mxI (fun i => lstV (fcS T N) (nX N) (nL N) (nR N i)) k < fcS T N (nR N n) + nX N (nR N n) - 1 := by
    intro k
    induction k with
    | zero => intro _; show (-9 : Int) < _; omega
    | succ k ih =>
      intro hk
      show (if mxI (fun i => lstV (fcS T N) (nX N) (nL N) (nR N i)) k < lstV (fcS T N) (nX N) (nL N) (nR N k) then lstV (fcS T N) (nX N) (nL N) (nR N k) else mxI (fun i => lstV (fcS T N) (nX N) (nL N) (nR N i)) k) < _
      split
      · unfold lstV
        split
        · omega
        · have := fc_lt w (T := T) (show k < n by omega) h
          omega
      · exact ih (by omega)
  exact key n (Nat.le_refl _)
