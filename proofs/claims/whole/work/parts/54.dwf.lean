theorem new_wf : wfD dNew := by
  refine ⟨⟨?_, ?_, ⟨?_, ?_⟩, ⟨?_, ?_⟩, fun c hc => ?_, fun c hc => ?_, fun a b ha hb => ?_, fun k hk => ?_⟩, fun c hc => ?_, ?_, fun c hc => rfl, fun _ => rfl, fun a b hb => ?_⟩
  · show 0 ≤ 7; omega
  · show 0 ≤ 40; omega
  · show 1 ≤ 4; omega
  · show 4 ≤ 9; omega
  · show 1 ≤ 9; omega
  · show 9 ≤ 60; omega
  · have hc : c < 0 := hc; omega
  · have hc : c < 0 := hc; omega
  · have hc : a < 0 := ha; omega
  · have hc : k < 0 := hk; omega
  · have hc : c < 0 := hc; omega
  · show 0 < 8; omega
  · exact Nat.zero_testBit b
theorem cart_wf {D : Dr} (w : wfD D) {a p : Nat} (n7 : tN (dT D) < 7) (ha : 1 ≤ a ∧ a < 7) (hp : 1 ≤ p ∧ p < 10) : wfD (dCart D a p) := by
  obtain ⟨⟨w1, w2, w3, w4, w5, w6, w7, w8⟩, wx, wf, wz, wg, wb⟩ := w
  refine ⟨⟨n7, w2, w3, w4, fun c hc => ?_, fun c hc => ?_, fun x y hx hy => ?_, w8⟩, fun c hc => ?_, wf, fun c hc => ?_, wg, fun x y hy => ?_⟩
  · have hc : c < tN (dT D) + 1 := hc
    show 1 ≤ (if c = tN (dT D) then p else tP (dT D) c) ∧ (if c = tN (dT D) then p else tP (dT D) c) ≤ 9
    by_cases z : c = tN (dT D)
    · rw [if_pos z]; omega
    · rw [if_neg z]; exact w5 c (by omega)
  · have hc : c < tN (dT D) + 1 := hc
    show tF (dT D) c < 128
    by_cases z : c = tN (dT D)
    · rw [wz c (by omega)]; omega
    · exact w6 c (by omega)
  · have hx : x < tN (dT D) + 1 := hx
    have hy : y < tN (dT D) + 1 := hy
    show (tF (dT D) x).testBit y = (tF (dT D) y).testBit x
    by_cases z : x < tN (dT D)
    · by_cases u : y < tN (dT D)
      · exact w7 x y z u
      · rw [wb x y (by omega), wz y (by omega), Nat.zero_testBit]
    · rw [wb y x (by omega), wz x (by omega), Nat.zero_testBit]
  · have hc : c < tN (dT D) + 1 := hc
    show 1 ≤ (if c = tN (dT D) then a else dX D c) ∧ (if c = tN (dT D) then a else dX D c) ≤ 6
    by_cases z : c = tN (dT D)
    · rw [if_pos z]; omega
    · rw [if_neg z]; exact wx c (by omega)
  · have hc : tN (dT D) + 1 ≤ c := hc
    exact wz c (by omega)
  · have hy : tN (dT D) + 1 ≤ y := hy
    exact wb x y (by omega)
theorem feud_bit (D : Dr) (a b : Nat) (ne : b ≠ a) (x y : Nat) : (tF (dT (dFeud D a b)) x).testBit y = ((tF (dT D) x).testBit y || decide ((x = a ∧ y = b) ∨ (x = b ∧ y = a))) := by
  show (if x = b then tF (dT D) b ||| 2 ^ a else if x = a then tF (dT D) a ||| 2 ^ b else tF (dT D) x).testBit y = _
  by_cases z : x = b
  · rw [if_pos z, Nat.testBit_or, Nat.testBit_two_pow, z]
    congr 1
    rw [decide_eq_decide]
    omega
  · rw [if_neg z]
    by_cases u : x = a
    · rw [if_pos u, Nat.testBit_or, Nat.testBit_two_pow, u]
      congr 1
      rw [decide_eq_decide]
      omega
    · rw [if_neg u, decide_eq_false (by omega), Bool.or_false]
theorem feud_wf {D : Dr} (w : wfD D) {a b : Nat} (ha : a < tN (dT D)) (hb : b < tN (dT D)) (ne : b ≠ a) : wfD (dFeud D a b) := by
  obtain ⟨⟨w1, w2, w3, w4, w5, w6, w7, w8⟩, wx, wf, wz, wg, wb⟩ := w
  have pa : 2 ^ a < 2 ^ 7 := Nat.pow_lt_pow_right (by omega) (by omega)
  have pb : 2 ^ b < 2 ^ 7 := Nat.pow_lt_pow_right (by omega) (by omega)
  refine ⟨⟨w1, w2, w3, w4, w5, fun c hc => ?_, fun x y hx hy => ?_, w8⟩, wx, wf, fun c hc => ?_, wg, fun x y hy => ?_⟩
  · show (if c = b then tF (dT D) b ||| 2 ^ a else if c = a then tF (dT D) a ||| 2 ^ b else tF (dT D) c) < 2 ^ 7
    by_cases z : c = b
    · rw [if_pos z]; exact Nat.or_lt_two_pow (w6 b hb) pa
    · rw [if_neg z]
      by_cases u : c = a
      · rw [if_pos u]; exact Nat.or_lt_two_pow (w6 a ha) pb
      · rw [if_neg u]; exact w6 c hc
  · rw [feud_bit D a b ne, feud_bit D a b ne, w7 x y hx hy]
    congr 1
    rw [decide_eq_decide]
    omega
  · have hc : tN (dT D) ≤ c := hc
    show (if c = b then tF (dT D) b ||| 2 ^ a else if c = a then tF (dT D) a ||| 2 ^ b else tF (dT D) c) = 0
    rw [if_neg (by omega), if_neg (by omega)]
    exact wz c hc
  · have hy : tN (dT D) ≤ y := hy
    rw [feud_bit D a b ne, wb x y hy, decide_eq_false (by omega), Bool.false_or]
theorem or8 {a b : Nat} (ha : a < 8) (hb : b < 8) : a ||| b < 8 := Nat.or_lt_two_pow (n := 3) ha hb
theorem and_or4 : ∀ a : Nat, a < 8 → ((a ||| 1) &&& 4 = a &&& 4) ∧ ((a ||| 2) &&& 4 = a &&& 4) ∧ (a ||| 4) &&& 4 = 4 := by decide
theorem apart_wf {D : Dr} (w : wfD D) {v : Nat} (hv : 1 ≤ v ∧ v < 10) : wfD (dApart D v) := by
  obtain ⟨⟨w1, w2, w3, w4, w5, w6, w7, w8⟩, wx, wf, wz, wg, wb⟩ := w
  refine ⟨⟨w1, w2, ⟨hv.1, by show v ≤ 9; omega⟩, w4, w5, w6, w7, w8⟩, wx, or8 wf (by omega), wz, fun h => ?_, wb⟩
  have h : (dF D ||| 1) &&& 4 = 0 := h
  rw [(and_or4 _ wf).1] at h
  exact wg h
theorem miles_wf {D : Dr} (w : wfD D) {v : Nat} (hv : 1 ≤ v ∧ v < 61) : wfD (dMiles D v) := by
  obtain ⟨⟨w1, w2, w3, w4, w5, w6, w7, w8⟩, wx, wf, wz, wg, wb⟩ := w
  refine ⟨⟨w1, w2, w3, ⟨hv.1, by show v ≤ 60; omega⟩, w5, w6, w7, w8⟩, wx, or8 wf (by omega), wz, fun h => ?_, wb⟩
  have h : (dF D ||| 2) &&& 4 = 0 := h
  rw [(and_or4 _ wf).2.1] at h
  exact wg h
theorem grd_wf {D : Dr} (w : wfD D) : wfD (dGrd D) ∧ ¬ dF (dGrd D) &&& 4 = 0 := by
  obtain ⟨⟨w1, w2, w3, w4, w5, w6, w7, w8⟩, wx, wf, wz, wg, wb⟩ := w
  have a : (dF D ||| 4) &&& 4 = 4 := (and_or4 _ wf).2.2
  refine ⟨⟨⟨w1, w2, w3, w4, w5, w6, w7, w8⟩, wx, or8 wf (by omega), wz, fun h => ?_, wb⟩, fun h => ?_⟩
  · have h : (dF D ||| 4) &&& 4 = 0 := h
    omega
  · have h : (dF D ||| 4) &&& 4 = 0 := h
    omega
theorem grO_b {k g : Nat} (h : grO k = some g) : g ≤ 2 := by
  unfold grO at h
  split at h
  · injection h with h; omega
  · split at h
    · injection h with h; omega
    · split at h
      · injection h with h; omega
      · cases h
theorem gnd_wf {X : List Int} : ∀ (f p : Nat) (D : Dr), wfD D ∧ ¬ dF D &&& 4 = 0 → wfD (gnd X f p D).2
  | 0, p, D, w => w.1
  | f + 1, p, D, w => by
    unfold gnd
    split
    next k hk =>
      split
      next h40 =>
        refine gnd_wf f _ _ ⟨?_, w.2⟩
        have kb := grO_b hk
        obtain ⟨⟨⟨w1, w2, w3, w4, w5, w6, w7, w8⟩, wx, wf, wz, wg, wb⟩, w9⟩ := w
        refine ⟨⟨w1, h40, w3, w4, w5, w6, w7, fun j hj => ?_⟩, wx, wf, wz, fun h => absurd h w9, wb⟩
        have hj : j < tK (dT D) + 1 := hj
        show (if j = tK (dT D) then k else tG (dT D) j) ≤ 2
        by_cases z : j = tK (dT D)
        · rw [if_pos z]; exact kb
        · rw [if_neg z]; exact w8 j (by omega)
      · exact w.1
    · exact w.1
theorem numB_v {t : Tk} {lo hi : Nat} (h : numB t lo hi = true) : kk t = 1 ∧ lo ≤ kv t ∧ kv t < hi := of_decide_eq_true h
theorem itm_wf {X : List Int} {k p : Nat} {D : Dr} {q : Dr × Nat} (w : wfD D) (hm : mayB D k = true) (h : itm X k p D = Sum.inr q) : wfD q.1 := by
  unfold itm at h
  by_cases z1 : k = 99
  · rw [if_pos z1] at h
    unfold itmC at h
    unfold mayB at hm
    rw [if_pos z1] at hm
    split at h
    next b1 =>
      split at h
      next b2 =>
        injection h with h
        subst h
        exact cart_wf w (of_decide_eq_true hm) (numB_v b1).2 (numB_v b2).2
      · cases h
    · cases h
  rw [if_neg z1] at h
  by_cases z2 : k = 113
  · rw [if_pos z2] at h
    unfold itmQ at h
    split at h
    next b1 =>
      split at h
      next b2 =>
        injection h with h
        subst h
        exact feud_wf w (numB_v b1).2.2 (numB_v b2.1).2.2 b2.2
      · cases h
    · cases h
  rw [if_neg z2] at h
  by_cases z3 : k = 100
  · rw [if_pos z3] at h
    unfold itmD at h
    split at h
    next b1 =>
      injection h with h
      subst h
      exact apart_wf w (numB_v b1).2
    · cases h
  rw [if_neg z3] at h
  by_cases z4 : k = 109
  · rw [if_pos z4] at h
    unfold itmM at h
    split at h
    next b1 =>
      injection h with h
      subst h
      exact miles_wf w (numB_v b1).2
    · cases h
  rw [if_neg z4] at h
  unfold itmG at h
  split at h
  · injection h with h
    subst h
    exact gnd_wf 40 p (dGrd D) (grd_wf w)
  · cases h
