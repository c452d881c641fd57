/-- the first rows of bridges, in order: f cells from k on, left still to choose -/
def srch (F : Nat → Nat) : Nat → Nat → Nat → Nat → Option (List Nat)
  | 0, _, V, left => if left = 0 then (if F V = 0 then some [] else none) else none
  | f + 1, k, V, left => if left = 0 then (if F V = 0 then some [] else none) else if V.testBit k = true then (match srch F f (k + 1) (clr1 V k) (left - 1) with
    | some p => some (k :: p)
    | none => srch F f (k + 1) V left) else srch F f (k + 1) V left
theorem srch_0 {F : Nat → Nat} {f k V : Nat} : srch F f k V 0 = if F V = 0 then some [] else none := by
  cases f with
  | zero => rfl
  | succ f => rfl
theorem srch_s {F : Nat → Nat} {f k V l : Nat} : srch F (f + 1) k V (l + 1) = if V.testBit k = true then (match srch F f (k + 1) (clr1 V k) l with
    | some p => some (k :: p)
    | none => srch F f (k + 1) V (l + 1)) else srch F f (k + 1) V (l + 1) := rfl
theorem srch_A {F : Nat → Nat} (P1 : ∀ V x, V.testBit x = true → F V ≤ F (clr1 V x) + 1) : ∀ (f k V left : Nat) (p : List Nat), srch F f k V left = some p → F V ≤ left
  | f, k, V, 0, p, h => by
    rw [srch_0] at h
    by_cases z : F V = 0
    · omega
    · rw [if_neg z] at h; cases h
  | 0, k, V, l + 1, p, h => by cases h
  | f + 1, k, V, l + 1, p, h => by
    rw [srch_s] at h
    by_cases z : V.testBit k = true
    · rw [if_pos z] at h
      cases q : srch F f (k + 1) (clr1 V k) l with
      | some r =>
        have := srch_A P1 f (k + 1) (clr1 V k) l r q
        have := P1 V k z
        omega
      | none =>
        rw [q] at h
        exact srch_A P1 f (k + 1) V (l + 1) p h
    · rw [if_neg z] at h
      exact srch_A P1 f (k + 1) V (l + 1) p h
theorem clr1_cm (V x y : Nat) : clr1 (clr1 V x) y = clr1 (clr1 V y) x := by
  apply Nat.eq_of_testBit_eq
  intro j
  rw [clr1_bit, clr1_bit, clr1_bit, clr1_bit, Bool.and_assoc, Bool.and_assoc, Bool.and_comm (!decide (x = j))]
theorem srch_C {F : Nat → Nat} {K : Nat} (P1 : ∀ V x, V.testBit x = true → F V ≤ F (clr1 V x) + 1) (P3 : ∀ V, 0 < F V → F V ≤ 3 → ∃ x, x < K ∧ V.testBit x = true ∧ F (clr1 V x) + 1 ≤ F V) : ∀ (f k V left : Nat), k + f = K → F V = left → left ≤ 3 → (∀ x, x < k → V.testBit x = true → F V ≤ F (clr1 V x)) → srch F f k V left = some (grd F f k V left)
  | f, k, V, 0, hk, hF, h3, hI => by
    rw [srch_0, if_pos hF]
    cases f with
    | zero => rfl
    | succ f => rfl
  | 0, k, V, l + 1, hk, hF, h3, hI => by
    exfalso
    obtain ⟨x, x1, x2, x3⟩ := P3 V (by omega) (by omega)
    have := hI x (by omega) x2
    omega
  | f + 1, k, V, l + 1, hk, hF, h3, hI => by
    have eg : grd F (f + 1) k V (l + 1) = if V.testBit k = true ∧ F (clr1 V k) < l + 1 then k :: grd F f (k + 1) (clr1 V k) l else grd F f (k + 1) V (l + 1) := by
      show (if l + 1 = 0 then [] else _) = _
      rw [if_neg (by omega)]
      rfl
    rw [srch_s, eg]
    by_cases z : V.testBit k = true
    · have p1 := P1 V k z
      by_cases y : F (clr1 V k) < l + 1
      · rw [if_pos z, if_pos ⟨z, y⟩, srch_C P1 P3 f (k + 1) (clr1 V k) l (by omega) (by omega) (by omega) (fun x hx hb => by
          rw [clr1_bit, Bool.and_eq_true] at hb
          have xk : x ≠ k := fun u => by
            rw [u, decide_eq_true rfl] at hb
            cases hb.2
          have i1 := hI x (by omega) hb.1
          have i2 := P1 (clr1 V x) k (by rw [clr1_bit, z, decide_eq_false xk]; rfl)
          rw [clr1_cm V k x]
          omega)]
      · have nn : srch F f (k + 1) (clr1 V k) l = none := by
          cases q : srch F f (k + 1) (clr1 V k) l with
          | none => rfl
          | some r =>
            have := srch_A P1 f (k + 1) (clr1 V k) l r q
            omega
        rw [if_pos z, if_neg (fun u => y u.2), nn]
        dsimp only
        exact srch_C P1 P3 f (k + 1) V (l + 1) (by omega) hF h3 (fun x hx hb => by
          by_cases xk : x = k
          · subst xk; omega
          · exact hI x (by omega) hb)
    · rw [if_neg z, if_neg (fun u => z u.1)]
      exact srch_C P1 P3 f (k + 1) V (l + 1) (by omega) hF h3 (fun x hx hb => by
        by_cases xk : x = k
        · subst xk; exact absurd hb z
        · exact hI x (by omega) hb)
theorem fw_P1 {T : Td} {N : Nt} : ∀ V x, V.testBit x = true → fwS T N V ≤ fwS T N (clr1 V x) + 1 := fun V x h => ndK_P2 (wdR_1 N) h (nM N) (tK T) (Nat.le_refl _)
theorem fw_P3 {T : Td} {N : Nt} : ∀ V, 0 < fwS T N V → fwS T N V ≤ 3 → ∃ x, x < tK T ∧ V.testBit x = true ∧ fwS T N (clr1 V x) + 1 ≤ fwS T N V := fun V h1 h2 => by
  obtain ⟨x, -, x2, x3, x4⟩ := ndK_P3 (V := V) (K := tK T) (wd := wdR N) (wdR_1 N) (nM N) (tK T) (Nat.le_refl _) h1 h2
  exact ⟨x, x2, x3, x4⟩
