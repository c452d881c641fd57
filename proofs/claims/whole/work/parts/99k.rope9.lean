theorem goo_is {T : Td} {N : Nt} (wT : wfT T) (w : wfN T N) {a b c V : Nat} (hV : ∀ j, V.testBit j = ((nV N).testBit j && !(decide (a = j) || decide (b = j) || decide (c = j)))) (h1 : (nV N).testBit a = true) (h2 : (nV N).testBit b = true) (h3 : (nV N).testBit c = true) : gooB T N a b c = decide (fwS T N V = 0) := by
  unfold gooB rivB
  rw [h1, h2, h3, Bool.true_and, Bool.true_and, Bool.true_and]
  have := fw_outB wT w a b c V hV
  by_cases z : outB T N a b c = 0
  · rw [decide_eq_true z, decide_eq_true (this.mpr z)]
  · rw [decide_eq_false z, decide_eq_false (fun u => z (this.mp u))]
theorem goo_no {T : Td} {N : Nt} {a b c : Nat} (h : (nV N).testBit a = false ∨ (nV N).testBit b = false ∨ (nV N).testBit c = false) : gooB T N a b c = false := by
  unfold gooB rivB
  rcases h with h | h | h <;> rw [h] <;> simp
theorem fndN_no {p : Nat → Bool} (h : ∀ x, p x = false) : ∀ f c, fndN p f c = none
  | 0, _ => rfl
  | f + 1, c => by
    show (if p c = true then some c else fndN p f (c + 1)) = none
    rw [h c, if_neg Bool.false_ne_true]
    exact fndN_no h f (c + 1)
theorem ropC_no {T : Td} {N : Nt} {m a b : Nat} (h : (nV N).testBit a = false ∨ (nV N).testBit b = false) : ropC T N m a b = none := fndN_no (fun x => goo_no (h.elim Or.inl (fun u => Or.inr (Or.inl u)))) _ _
theorem ropB_s {T : Td} {N : Nt} {m a f b : Nat} : ropB T N m a (f + 1) b = match ropC T N m a b with
    | some c => some (b, c)
    | none => ropB T N m a f (b + 1) := rfl
theorem ropD_s {T : Td} {N : Nt} {m f a : Nat} : ropD T N m (f + 1) a = match ropL T N m a with
    | some p => some (a, p)
    | none => ropD T N m f (a + 1) := rfl
theorem ropB_no {T : Td} {N : Nt} {m a : Nat} (h : (nV N).testBit a = false) : ∀ f b, ropB T N m a f b = none
  | 0, _ => rfl
  | f + 1, b => by
    rw [ropB_s, ropC_no (Or.inl h)]
    exact ropB_no h f (b + 1)
theorem srch_3 {T : Td} {N : Nt} (wT : wfT T) (w : wfN T N) {a b : Nat} (ab : a < b) (ha : (nV N).testBit a = true) (hb : (nV N).testBit b = true) : ∀ f c, b < c → srch (fwS T N) f c (clr1 (clr1 (nV N) a) b) 1 = (fndN (gooB T N a b) f c).map (fun x => [x])
  | 0, _, _ => rfl
  | f + 1, c, bc => by
    have ih := srch_3 wT w ab ha hb f (c + 1) (by omega)
    have tb : (clr1 (clr1 (nV N) a) b).testBit c = (nV N).testBit c := by
      rw [clr1_bit, clr1_bit, decide_eq_false (show ¬ a = c by omega), decide_eq_false (show ¬ b = c by omega)]
      simp
    rw [srch_s, srch_0, tb]
    show _ = (if gooB T N a b c = true then some c else fndN (gooB T N a b) f (c + 1)).map _
    by_cases z : (nV N).testBit c = true
    · have g := goo_is wT w (a := a) (b := b) (c := c) (V := clr1 (clr1 (clr1 (nV N) a) b) c) (fun j => by
        rw [clr1_bit, clr1_bit, clr1_bit, Bool.not_or, Bool.not_or, Bool.and_assoc, Bool.and_assoc, Bool.and_assoc]) ha hb z
      rw [if_pos z, g]
      by_cases y : fwS T N (clr1 (clr1 (clr1 (nV N) a) b) c) = 0
      · rw [if_pos y, if_pos (decide_eq_true y)]; rfl
      · rw [if_neg y, if_neg (by rw [decide_eq_false y]; exact Bool.false_ne_true)]; exact ih
    · have z0 : (nV N).testBit c = false := by cases u : (nV N).testBit c <;> first | rfl | exact absurd u z
      rw [if_neg z, if_neg (by rw [goo_no (Or.inr (Or.inr z0))]; exact Bool.false_ne_true)]
      exact ih
theorem srch_2 {T : Td} {N : Nt} (wT : wfT T) (w : wfN T N) {a : Nat} (ha : (nV N).testBit a = true) : ∀ f b, a < b → b + f = tK T → srch (fwS T N) f b (clr1 (nV N) a) 2 = (ropB T N 3 a f b).map (fun p => [p.1, p.2])
  | 0, _, _, _ => rfl
  | f + 1, b, ab, hf => by
    have ih := srch_2 wT w ha f (b + 1) (by omega) (by omega)
    have tb : (clr1 (nV N) a).testBit b = (nV N).testBit b := by
      rw [clr1_bit, decide_eq_false (show ¬ a = b by omega)]
      simp
    rw [srch_s, ropB_s, tb]
    by_cases z : (nV N).testBit b = true
    · have e := srch_3 wT w ab ha z f (b + 1) (by omega)
      have ec : ropC T N 3 a b = fndN (gooB T N a b) f (b + 1) := by
        show fndN (gooB T N a b) (tK T - (b + 1)) (b + 1) = _
        rw [show tK T - (b + 1) = f by omega]
      rw [if_pos z, ec, e]
      cases fndN (gooB T N a b) f (b + 1) with
      | none => exact ih
      | some c => rfl
    · have z0 : (nV N).testBit b = false := by cases u : (nV N).testBit b <;> first | rfl | exact absurd u z
      rw [if_neg z, ropC_no (Or.inr z0)]
      exact ih
theorem srch_m3 {T : Td} {N : Nt} (wT : wfT T) (w : wfN T N) : ∀ f a, a + f = tK T → srch (fwS T N) f a (nV N) 3 = (ropD T N 3 f a).map (fun p => [p.1, p.2.1, p.2.2])
  | 0, _, _ => rfl
  | f + 1, a, hf => by
    have ih := srch_m3 wT w f (a + 1) (by omega)
    have el : ropL T N 3 a = ropB T N 3 a f (a + 1) := by
      show ropB T N 3 a (tK T - (a + 1)) (a + 1) = _
      rw [show tK T - (a + 1) = f by omega]
    rw [srch_s, ropD_s, el]
    by_cases z : (nV N).testBit a = true
    · rw [if_pos z, srch_2 wT w z f (a + 1) (by omega) (by omega)]
      cases ropB T N 3 a f (a + 1) with
      | none => exact ih
      | some c => rfl
    · have z0 : (nV N).testBit a = false := by cases u : (nV N).testBit a <;> first | rfl | exact absurd u z
      rw [if_neg z, ropB_no z0]
      exact ih
theorem ropC_1 {T : Td} {N : Nt} {m a b : Nat} (m2 : m ≤ 2) : ropC T N m a b = if gooB T N a b b = true then some b else none := by
  unfold ropC
  rw [if_neg (by omega), if_neg (by omega)]
  rfl
theorem srch_2b {T : Td} {N : Nt} (wT : wfT T) (w : wfN T N) {a : Nat} (ha : (nV N).testBit a = true) : ∀ f b, a < b → b + f = tK T → srch (fwS T N) f b (clr1 (nV N) a) 1 = (ropB T N 2 a f b).map (fun p => [p.1])
  | 0, _, _, _ => rfl
  | f + 1, b, ab, hf => by
    have ih := srch_2b wT w ha f (b + 1) (by omega) (by omega)
    have tb : (clr1 (nV N) a).testBit b = (nV N).testBit b := by
      rw [clr1_bit, decide_eq_false (show ¬ a = b by omega)]
      simp
    rw [srch_s, srch_0, ropB_s, tb, ropC_1 (Nat.le_refl _)]
    by_cases z : (nV N).testBit b = true
    · have g := goo_is wT w (a := a) (b := b) (c := b) (V := clr1 (clr1 (nV N) a) b) (fun j => by
        rw [clr1_bit, clr1_bit, Bool.or_assoc, Bool.or_self, Bool.not_or, Bool.and_assoc]) ha z z
      rw [if_pos z, g]
      by_cases y : fwS T N (clr1 (clr1 (nV N) a) b) = 0
      · rw [if_pos y, if_pos (decide_eq_true y)]; rfl
      · rw [if_neg y, if_neg (by rw [decide_eq_false y]; exact Bool.false_ne_true)]; exact ih
    · have z0 : (nV N).testBit b = false := by cases u : (nV N).testBit b <;> first | rfl | exact absurd u z
      rw [if_neg z, if_neg (by rw [goo_no (Or.inr (Or.inl z0))]; exact Bool.false_ne_true)]
      exact ih
theorem srch_m2 {T : Td} {N : Nt} (wT : wfT T) (w : wfN T N) : ∀ f a, a + f = tK T → srch (fwS T N) f a (nV N) 2 = (ropD T N 2 f a).map (fun p => [p.1, p.2.1])
  | 0, _, _ => rfl
  | f + 1, a, hf => by
    have ih := srch_m2 wT w f (a + 1) (by omega)
    have el : ropL T N 2 a = ropB T N 2 a f (a + 1) := by
      show ropB T N 2 a (tK T - (a + 1)) (a + 1) = _
      rw [show tK T - (a + 1) = f by omega]
    rw [srch_s, ropD_s, el]
    by_cases z : (nV N).testBit a = true
    · rw [if_pos z, srch_2b wT w z f (a + 1) (by omega) (by omega)]
      cases ropB T N 2 a f (a + 1) with
      | none => exact ih
      | some c => rfl
    · have z0 : (nV N).testBit a = false := by cases u : (nV N).testBit a <;> first | rfl | exact absurd u z
      rw [if_neg z, ropB_no z0]
      exact ih
theorem srch_m1 {T : Td} {N : Nt} (wT : wfT T) (w : wfN T N) : ∀ f a, a + f = tK T → srch (fwS T N) f a (nV N) 1 = (ropD T N 1 f a).map (fun p => [p.1])
  | 0, _, _ => rfl
  | f + 1, a, hf => by
    have ih := srch_m1 wT w f (a + 1) (by omega)
    have el : ropL T N 1 a = if gooB T N a a a = true then some (a, a) else none := by
      show ropB T N 1 a 1 a = _
      rw [ropB_s, ropC_1 (by omega)]
      by_cases q : gooB T N a a a = true
      · rw [if_pos q, if_pos q]
      · rw [if_neg q, if_neg q]; rfl
    rw [srch_s, srch_0, ropD_s, el]
    by_cases z : (nV N).testBit a = true
    · have g := goo_is wT w (a := a) (b := a) (c := a) (V := clr1 (nV N) a) (fun j => by
        rw [clr1_bit, Bool.or_self, Bool.or_self]) z z z
      rw [if_pos z, g]
      by_cases y : fwS T N (clr1 (nV N) a) = 0
      · rw [if_pos y, if_pos (decide_eq_true y)]; rfl
      · rw [if_neg y, if_neg (by rw [decide_eq_false y]; exact Bool.false_ne_true)]; exact ih
    · have z0 : (nV N).testBit a = false := by cases u : (nV N).testBit a <;> first | rfl | exact absurd u z
      rw [if_neg z, if_neg (by rw [goo_no (Or.inl z0)]; exact Bool.false_ne_true)]
      exact ih
theorem ropE_is {T : Td} {N : Nt} (wT : wfT T) (w : wfN T N) (h1 : 1 ≤ fwS T N (nV N)) : (3 < fwS T N (nV N) → ropE T N 3 1 = none) ∧ (fwS T N (nV N) ≤ 3 → ∃ a b c, ropE T N 3 1 = some (fwS T N (nV N), a, b, c) ∧ grd (fwS T N) (tK T) 0 (nV N) (fwS T N (nV N)) = [a, b, c].take (fwS T N (nV N))) := by
  have m1 := srch_m1 wT w (tK T) 0 (Nat.zero_add _)
  have m2 := srch_m2 wT w (tK T) 0 (Nat.zero_add _)
  have m3 := srch_m3 wT w (tK T) 0 (Nat.zero_add _)
  have A := srch_A (F := fwS T N) fw_P1 (tK T) 0 (nV N)
  have C := srch_C (F := fwS T N) (K := tK T) fw_P1 fw_P3 (tK T) 0 (nV N)
  have n1 : 1 < fwS T N (nV N) → ropD T N 1 (tK T) 0 = none := fun u => by
    cases q : ropD T N 1 (tK T) 0 with
    | none => rfl
    | some p => rw [q] at m1; have := A 1 _ m1; omega
  have n2 : 2 < fwS T N (nV N) → ropD T N 2 (tK T) 0 = none := fun u => by
    cases q : ropD T N 2 (tK T) 0 with
    | none => rfl
    | some p => rw [q] at m2; have := A 2 _ m2; omega
  have n3 : 3 < fwS T N (nV N) → ropD T N 3 (tK T) 0 = none := fun u => by
    cases q : ropD T N 3 (tK T) 0 with
    | none => rfl
    | some p => rw [q] at m3; have := A 3 _ m3; omega
  have eE : ropE T N 3 1 = match ropD T N 1 (tK T) 0 with
    | some p => some (1, p)
    | none => match ropD T N 2 (tK T) 0 with
      | some p => some (2, p)
      | none => match ropD T N 3 (tK T) 0 with
        | some p => some (3, p)
        | none => none := rfl
  refine ⟨fun u => ?_, fun u => ?_⟩
  · rw [eE, n1 (by omega), n2 (by omega), n3 u]
  · rcases (show fwS T N (nV N) = 1 ∨ fwS T N (nV N) = 2 ∨ fwS T N (nV N) = 3 by omega) with e | e | e
    · have c := C 1 (Nat.zero_add _) e (by omega) (fun x hx => absurd hx (Nat.not_lt_zero _))
      rw [m1] at c
      cases q : ropD T N 1 (tK T) 0 with
      | none => rw [q] at c; cases c
      | some p =>
        rw [q] at c
        refine ⟨p.1, p.2.1, p.2.2, by rw [eE, q, e], ?_⟩
        rw [e]
        exact (Option.some.inj c).symm
    · have c := C 2 (Nat.zero_add _) e (by omega) (fun x hx => absurd hx (Nat.not_lt_zero _))
      rw [m2] at c
      cases q : ropD T N 2 (tK T) 0 with
      | none => rw [q] at c; cases c
      | some p =>
        rw [q] at c
        refine ⟨p.1, p.2.1, p.2.2, by rw [eE, n1 (by omega), q, e], ?_⟩
        rw [e]
        exact (Option.some.inj c).symm
    · have c := C 3 (Nat.zero_add _) e (by omega) (fun x hx => absurd hx (Nat.not_lt_zero _))
      rw [m3] at c
      cases q : ropD T N 3 (tK T) 0 with
      | none => rw [q] at c; cases c
      | some p =>
        rw [q] at c
        refine ⟨p.1, p.2.1, p.2.2, by rw [eE, n1 (by omega), n2 (by omega), q, e], ?_⟩
        rw [e]
        exact (Option.some.inj c).symm
