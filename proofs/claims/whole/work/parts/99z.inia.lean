theorem z12_L : LAY_Z z12 := by
  refine ⟨z12_1, fun q k b e => ?_⟩
  unfold refZ at e
  by_cases z : q < 141
  · rw [if_pos z] at e
    unfold refT at e
    cases f : refL.find? (fun e => e.1.1 == q && e.1.2 == k) with
    | none => rw [f] at e; cases e
    | some p =>
      rw [f] at e
      have m := List.mem_of_find?_eq_some f
      have t := List.find?_some f
      simp only [Bool.and_eq_true, beq_iff_eq] at t
      have := z12_r p m (by omega)
      rw [t.1, t.2] at this
      rw [this]
      exact e
  · rw [if_neg z] at e; cases e
theorem z12_p (b : Nat) (hb : ∀ i, i < 10 → gR z12 (b + 4) i = some (b + 5 + 3 * i)) : pmA z12 b id := ⟨fun i hi => ⟨hi, hb i hi⟩, fun i j _ _ e => e⟩
theorem z12_f : frsh z12 dNew 0 := by
  refine ⟨⟨by decide +kernel, by decide +kernel, by decide +kernel, by decide +kernel, fun c hc => absurd hc (Nat.not_lt_zero _), fun c hc => absurd hc (Nat.not_lt_zero _)⟩, fun c hc => absurd hc (Nat.not_lt_zero _), ⟨id, z12_p 13 (by decide +kernel)⟩, fun i hi => ⟨id, ?_⟩, by decide +kernel, by decide +kernel, Or.inl ⟨by decide +kernel, by decide +kernel⟩⟩
  rcases (show i = 0 ∨ i = 1 by omega) with e | e <;> subst e
  · exact z12_p 49 (by decide +kernel)
  · exact z12_p 84 (by decide +kernel)
