def onV (N : Nt) (V : Nat) : Nt := (nM N, nR N, nX N, nL N, V)
/-- the width of the one with i behind it -/
def wdR (N : Nt) (i : Nat) : Nat := if nX N (nR N (nM N - 1 - i)) = 0 then 1 else nX N (nR N (nM N - 1 - i))
theorem wdR_1 (N : Nt) (i : Nat) : 1 ≤ wdR N i := by unfold wdR; split <;> omega
theorem wdR_is {T : Td} {N : Nt} (w : wfN T N) {i : Nat} (h : i < nM N) : wdR N i = nX N (nR N (nM N - 1 - i)) := by
  have := (w.2.2.2.1 _ (w.2.1 (nM N - 1 - i) (by omega))).1
  unfold wdR
  rw [if_neg (by omega)]
theorem suS_none {l : Nat → Int} {cells : Nat} {ax rw_ : Nat → Nat} {i : Nat} (h : suS l cells ax rw_ i = none) : ∀ k, suS l cells ax rw_ (i + k) = none
  | 0 => h
  | k + 1 => by
    show suS l cells ax rw_ (i + k + 1) = none
    rw [suS_s]
    unfold suP
    rw [suS_none h k]
    rfl
theorem free_rv {T : Td} {N : Nt} {V p w : Nat} : freeB (lnd T (onV N V)) (tK T) p w = true ↔ p + w ≤ tK T ∧ rvC V p w = 0 := by
  unfold freeB
  rw [Bool.and_eq_true, decide_eq_true_iff, List.all_eq_true, rvC_0]
  have key : ∀ j, decide (lnd T (onV N V) (p + j) ≠ 2) = true ↔ V.testBit (p + j) = false := fun j => by
    rw [decide_eq_true_iff]
    have := lnd_2 (T := T) (N := onV N V) (k := p + j)
    have this : lnd T (onV N V) (p + j) = 2 ↔ V.testBit (p + j) = true := this
    rw [ne_eq, this]
    cases V.testBit (p + j) <;> simp
  constructor
  · rintro ⟨a, b⟩
    exact ⟨a, fun j hj => (key j).mp (b j (List.mem_range.mpr hj))⟩
  · rintro ⟨a, b⟩
    exact ⟨a, fun j hj => (key j).mpr (b j (List.mem_range.mp hj))⟩
theorem fit_iff {T : Td} {N : Nt} (w : wfN T N) (k4 : tK T ≤ 40) (V : Nat) : ∀ i f, i ≤ nM N → suS (lnd T (onV N V)) (tK T) (nX N) (nR N) (nM N - i) = some f → (ndK V (tK T) (wdR N) i (tK T - f) = 0 ↔ (suS (lnd T (onV N V)) (tK T) (nX N) (nR N) (nM N)).isSome = true)
  | 0, f, hi, h => by
    rw [Nat.sub_zero] at h
    rw [h]
    exact ⟨fun _ => rfl, fun _ => rfl⟩
  | i + 1, f, hi, h => by
    have fk := suS_le h
    have ej : nM N - i = (nM N - (i + 1)) + 1 := by omega
    have es : suS (lnd T (onV N V)) (tK T) (nX N) (nR N) (nM N - i) = (fstF (lnd T (onV N V)) (tK T) (nX N (nR N (nM N - (i + 1)))) (40 - f) f).map (fun p => p + nX N (nR N (nM N - (i + 1)))) := by
      rw [ej, suS_s]
      unfold suP
      rw [h]
    have wi : wdR N i = nX N (nR N (nM N - (i + 1))) := by
      rw [wdR_is w (by omega), show nM N - 1 - i = nM N - (i + 1) by omega]
    have w1 := wdR_1 N i
    rw [← wi] at es
    rw [ndK_0iff (wdR_1 N) _ (by omega)]
    cases hp : fstF (lnd T (onV N V)) (tK T) (wdR N i) (40 - f) f with
    | none =>
      rw [hp] at es
      have nn : suS (lnd T (onV N V)) (tK T) (nX N) (nR N) (nM N) = none := by
        have := suS_none (k := i) es
        rw [show nM N - i + i = nM N by omega] at this
        exact this
      rw [nn]
      constructor
      · rintro ⟨q, h1, h2, h3, -⟩
        exfalso
        have fr := free_rv (T := T) (N := N) (V := V) (p := tK T - q) (w := wdR N i) |>.mpr ⟨by omega, h3⟩
        exact fstF_none hp (tK T - q) (by omega) (by omega) fr
      · intro h; cases h
    | some p0 =>
      rw [hp] at es
      have es : suS (lnd T (onV N V)) (tK T) (nX N) (nR N) (nM N - i) = some (p0 + wdR N i) := es
      obtain ⟨a1, a2, a3, a4⟩ := fstF_some hp
      have fr := free_rv.mp a3
      have ih := fit_iff w k4 V i (p0 + wdR N i) (by omega) es
      constructor
      · rintro ⟨q, h1, h2, h3, h4⟩
        refine ih.mp ?_
        have le : p0 ≤ tK T - q := by
          by_cases y : p0 ≤ tK T - q
          · exact y
          · exact absurd (free_rv.mpr ⟨by omega, h3⟩) (a4 (tK T - q) (by omega) (by omega))
        have := ndK_mono (V := V) (K := tK T) (wd := wdR N) (i := i) (k2 := tK T - (p0 + wdR N i)) (k := q - wdR N i) (by omega)
        omega
      · intro hs
        have := ih.mpr hs
        refine ⟨tK T - p0, by omega, by omega, ?_, ?_⟩
        · rw [show tK T - (tK T - p0) = p0 by omega]; exact fr.2
        · rw [show tK T - p0 - wdR N i = tK T - (p0 + wdR N i) by omega]; exact this
