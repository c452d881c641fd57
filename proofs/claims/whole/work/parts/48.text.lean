/-- THE TEXT: a byte, -1 behind its end -/
def ch (X : List Int) (p : Nat) : Int := X[p]?.getD (-1)
theorem ch_in {X : List Int} {p : Nat} (h : p < X.length) : ch X p = X[p] := by unfold ch; rw [List.getElem?_eq_getElem h]; rfl
theorem ch_out {X : List Int} {p : Nat} (h : X.length ≤ p) : ch X p = -1 := by unfold ch; rw [List.getElem?_eq_none h]; rfl
def byX (X : List Int) : Prop := ∀ x, x ∈ X → 0 ≤ x ∧ x ≤ 255
theorem ch_b {X : List Int} (w : byX X) (p : Nat) : -1 ≤ ch X p ∧ ch X p ≤ 255 ∧ (ch X p < 0 ↔ X.length ≤ p) := by
  by_cases h : p < X.length
  · have := w _ (List.getElem_mem h)
    rw [ch_in h]
    omega
  · rw [ch_out (by omega)]
    omega
def skF (X : List Int) : Nat → Nat → Nat
  | 0, p => p
  | f + 1, p => if ch X p = 32 then skF X f (p + 1) else p
def dgV (v : Nat) (c : Int) : Nat := if 99 < v then v else 10 * v + (c - 48).toNat
def dgF (X : List Int) : Nat → Nat → Nat → Nat × Nat
  | 0, p, v => (p, v)
  | f + 1, p, v => if 48 ≤ ch X p ∧ ch X p ≤ 57 then dgF X f (p + 1) (dgV v (ch X p)) else (p, v)
/-- the token from p on: kind (1 number, 2 semicolon, 3 end, 4 unfit, or its letter), value, start, the place behind it -/
def tk (X : List Int) (p : Nat) : Nat × Nat × Nat × Nat :=
  if ch X (skF X X.length p) < 0 then (3, 0, skF X X.length p, skF X X.length p)
  else if 48 ≤ ch X (skF X X.length p) ∧ ch X (skF X X.length p) ≤ 57 then (if 99 < (dgF X X.length (skF X X.length p) 0).2 ∨ (ch X (skF X X.length p) = 48 ∧ 1 < (dgF X X.length (skF X X.length p) 0).1 - skF X X.length p) then 4 else 1, (dgF X X.length (skF X X.length p) 0).2, skF X X.length p, (dgF X X.length (skF X X.length p) 0).1)
  else (if ch X (skF X X.length p) = 59 then 2 else if 97 ≤ ch X (skF X X.length p) ∧ ch X (skF X X.length p) ≤ 122 then (ch X (skF X X.length p)).toNat else 4, 0, skF X X.length p, skF X X.length p + 1)
abbrev Tk : Type := Nat × Nat × Nat × Nat
def kk (t : Tk) : Nat := t.1
def kv (t : Tk) : Nat := t.2.1
def ks (t : Tk) : Nat := t.2.2.1
def kn (t : Tk) : Nat := t.2.2.2
theorem skF_ge (X : List Int) : ∀ (f p : Nat), p ≤ skF X f p
  | 0, p => Nat.le_refl _
  | f + 1, p => by
    unfold skF
    split
    · have := skF_ge X f (p + 1); omega
    · exact Nat.le_refl _
theorem skF_le {X : List Int} : ∀ (f p : Nat), p ≤ X.length → skF X f p ≤ X.length
  | 0, p, h => h
  | f + 1, p, h => by
    unfold skF
    split
    next z =>
      refine skF_le f (p + 1) ?_
      by_cases y : p < X.length
      · exact y
      · rw [ch_out (by omega)] at z
        omega
    · exact h
theorem dgF_ge (X : List Int) : ∀ (f p v : Nat), p ≤ (dgF X f p v).1
  | 0, p, v => Nat.le_refl _
  | f + 1, p, v => by
    unfold dgF
    split
    · have := dgF_ge X f (p + 1) (dgV v (ch X p)); omega
    · exact Nat.le_refl _
theorem dgF_le {X : List Int} : ∀ (f p v : Nat), p ≤ X.length → (dgF X f p v).1 ≤ X.length
  | 0, p, v, h => h
  | f + 1, p, v, h => by
    unfold dgF
    split
    next z =>
      refine dgF_le f (p + 1) _ ?_
      by_cases y : p < X.length
      · exact y
      · rw [ch_out (by omega)] at z
        omega
    · exact h
theorem dgV_b {v : Nat} {c : Int} (hv : v ≤ 999) (hc : 48 ≤ c ∧ c ≤ 57) : dgV v c ≤ 999 := by
  unfold dgV
  split <;> omega
theorem dgF_b {X : List Int} : ∀ (f p v : Nat), v ≤ 999 → (dgF X f p v).2 ≤ 999
  | 0, p, v, h => h
  | f + 1, p, v, h => by
    unfold dgF
    split
    next z => exact dgF_b f (p + 1) _ (dgV_b h z)
    · exact h
theorem tk_b {X : List Int} (w : byX X) {p : Nat} (hp : p ≤ X.length) : kk (tk X p) ≤ 122 ∧ kv (tk X p) ≤ 999 ∧ p ≤ ks (tk X p) ∧ ks (tk X p) ≤ kn (tk X p) ∧ kn (tk X p) ≤ X.length ∧ (kk (tk X p) ≠ 3 → p < kn (tk X p)) := by
  have a := skF_ge X X.length p
  have b := skF_le X.length p hp
  have cb := ch_b w (skF X X.length p)
  unfold tk
  generalize skF X X.length p = s at a b cb ⊢
  by_cases z : ch X s < 0
  · rw [if_pos z]
    refine ⟨by show 3 ≤ 122; omega, by show 0 ≤ 999; omega, a, Nat.le_refl _, b, fun h => absurd rfl h⟩
  · rw [if_neg z]
    have sl : s < X.length := by omega
    by_cases y : 48 ≤ ch X s ∧ ch X s ≤ 57
    · rw [if_pos y]
      have c := dgF_ge X X.length s 0
      have e := dgF_le (X := X) X.length s 0 b
      have v := dgF_b (X := X) X.length s 0 (by omega)
      have pos : s < (dgF X X.length s 0).1 := by
        cases q : X.length with
        | zero => omega
        | succ m =>
          unfold dgF
          rw [if_pos y]
          have := dgF_ge X m (s + 1) (dgV 0 (ch X s))
          omega
      refine ⟨?_, v, a, c, e, fun _ => by show p < (dgF X X.length s 0).1; omega⟩
      show (if _ then 4 else 1) ≤ 122
      split <;> omega
    · rw [if_neg y]
      refine ⟨?_, by show 0 ≤ 999; omega, a, by show s ≤ s + 1; omega, sl, fun _ => by show p < s + 1; omega⟩
      show (if ch X s = 59 then 2 else if 97 ≤ ch X s ∧ ch X s ≤ 122 then (ch X s).toNat else 4) ≤ 122
      split
      · omega
      · split <;> omega
/-- a draft: what is told so far, axles, which laws are told -/
abbrev Dr : Type := Td × (Nat → Nat) × Nat
def dT (D : Dr) : Td := D.1
def dX (D : Dr) : Nat → Nat := D.2.1
def dF (D : Dr) : Nat := D.2.2
def dCart (D : Dr) (a p : Nat) : Dr := ((tN (dT D) + 1, tK (dT D), tA (dT D), tM (dT D), fun c => if c = tN (dT D) then p else tP (dT D) c, tF (dT D), tG (dT D)), fun c => if c = tN (dT D) then a else dX D c, dF D)
def dFeud (D : Dr) (a b : Nat) : Dr := ((tN (dT D), tK (dT D), tA (dT D), tM (dT D), tP (dT D), fun c => if c = b then tF (dT D) b ||| 2 ^ a else if c = a then tF (dT D) a ||| 2 ^ b else tF (dT D) c, tG (dT D)), dX D, dF D)
def dApart (D : Dr) (v : Nat) : Dr := ((tN (dT D), tK (dT D), v, tM (dT D), tP (dT D), tF (dT D), tG (dT D)), dX D, dF D ||| 1)
def dMiles (D : Dr) (v : Nat) : Dr := ((tN (dT D), tK (dT D), tA (dT D), v, tP (dT D), tF (dT D), tG (dT D)), dX D, dF D ||| 2)
def dGrd (D : Dr) : Dr := (dT D, dX D, dF D ||| 4)
def dCell (D : Dr) (k : Nat) : Dr := ((tN (dT D), tK (dT D) + 1, tA (dT D), tM (dT D), tP (dT D), tF (dT D), fun j => if j = tK (dT D) then k else tG (dT D) j), dX D, dF D)
def dNew : Dr := ((0, 0, 4, 9, fun _ => 0, fun _ => 0, fun _ => 0), fun _ => 0, 0)
def wfD (D : Dr) : Prop := wfT (dT D) ∧ (∀ c, c < tN (dT D) → 1 ≤ dX D c ∧ dX D c ≤ 6) ∧ dF D < 8 ∧ (∀ c, tN (dT D) ≤ c → tF (dT D) c = 0) ∧ (dF D &&& 4 = 0 → tK (dT D) = 0) ∧ ∀ a b, tN (dT D) ≤ b → (tF (dT D) a).testBit b = false
def numB (t : Tk) (lo hi : Nat) : Bool := decide (kk t = 1 ∧ lo ≤ kv t ∧ kv t < hi)
def semi (X : List Int) (p : Nat) (D : Dr) : Nat ⊕ (Dr × Nat) := if kk (tk X p) = 2 then Sum.inr (D, kn (tk X p)) else Sum.inl (ks (tk X p))
/-- an item but for its semicolon -/
def itmC (X : List Int) (p : Nat) (D : Dr) : Nat ⊕ (Dr × Nat) :=
  if numB (tk X p) 1 7 = true then (if numB (tk X (kn (tk X p))) 1 10 = true then Sum.inr (dCart D (kv (tk X p)) (kv (tk X (kn (tk X p)))), kn (tk X (kn (tk X p)))) else Sum.inl (ks (tk X (kn (tk X p))))) else Sum.inl (ks (tk X p))
def itmQ (X : List Int) (p : Nat) (D : Dr) : Nat ⊕ (Dr × Nat) :=
  if numB (tk X p) 0 (tN (dT D)) = true then (if numB (tk X (kn (tk X p))) 0 (tN (dT D)) = true ∧ kv (tk X (kn (tk X p))) ≠ kv (tk X p) then Sum.inr (dFeud D (kv (tk X p)) (kv (tk X (kn (tk X p)))), kn (tk X (kn (tk X p)))) else Sum.inl (ks (tk X (kn (tk X p))))) else Sum.inl (ks (tk X p))
def itmD (X : List Int) (p : Nat) (D : Dr) : Nat ⊕ (Dr × Nat) := if numB (tk X p) 1 10 = true then Sum.inr (dApart D (kv (tk X p)), kn (tk X p)) else Sum.inl (ks (tk X p))
def itmM (X : List Int) (p : Nat) (D : Dr) : Nat ⊕ (Dr × Nat) := if numB (tk X p) 1 61 = true then Sum.inr (dMiles D (kv (tk X p)), kn (tk X p)) else Sum.inl (ks (tk X p))
def grO (k : Nat) : Option Nat := if k = 102 then some 0 else if k = 104 then some 1 else if k = 114 then some 2 else none
def gnd (X : List Int) : Nat → Nat → Dr → Nat × Dr
  | 0, p, D => (p, D)
  | f + 1, p, D => match grO (kk (tk X p)) with
    | some k => if tK (dT D) < 40 then gnd X f (kn (tk X p)) (dCell D k) else (p, D)
    | none => (p, D)
def itmG (X : List Int) (p : Nat) (D : Dr) : Nat ⊕ (Dr × Nat) := if (grO (kk (tk X p))).isSome = true then Sum.inr ((gnd X 40 p D).2, (gnd X 40 p D).1) else Sum.inl (ks (tk X p))
def mayB (D : Dr) (k : Nat) : Bool := if k = 99 then decide (tN (dT D) < 7) else if k = 113 then true else if k = 100 then decide (dF D &&& 1 = 0) else if k = 109 then decide (dF D &&& 2 = 0) else if k = 103 then decide (dF D &&& 4 = 0) else false
def itm (X : List Int) (k p : Nat) (D : Dr) : Nat ⊕ (Dr × Nat) := if k = 99 then itmC X p D else if k = 113 then itmQ X p D else if k = 100 then itmD X p D else if k = 109 then itmM X p D else itmG X p (dGrd D)
def full (X : List Int) (r : Nat ⊕ (Dr × Nat)) : Nat ⊕ (Dr × Nat) := match r with
  | Sum.inl e => Sum.inl e
  | Sum.inr q => semi X q.2 q.1
def prs (X : List Int) : Nat → Nat → Dr → Nat → Nat ⊕ (Dr × Nat)
  | 0, _, D, n => Sum.inr (D, n)
  | f + 1, p, D, n => if kk (tk X p) = 3 then Sum.inr (D, n) else if mayB D (kk (tk X p)) = true then (match full X (itm X (kk (tk X p)) (kn (tk X p)) D) with
    | Sum.inl e => Sum.inl e
    | Sum.inr q => prs X f q.2 q.1 (n + 1)) else Sum.inl (ks (tk X p))
