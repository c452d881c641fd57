def lsS (f : Nat → Int) : List Nat → Int
  | [] => 0
  | c :: l => f c + lsS f l
def prS (g : Nat → Nat → Int) : List Nat → Int
  | [] => 0
  | c :: l => lsS (g c) l + prS g l
theorem lsS_app {f : Nat → Int} : ∀ {a b : List Nat}, lsS f (a ++ b) = lsS f a + lsS f b
  | [], b => (Int.zero_add _).symm
  | c :: a, b => by
    show f c + lsS f (a ++ b) = f c + lsS f a + lsS f b
    rw [lsS_app (a := a), Int.add_assoc]
theorem lsS_perm {f : Nat → Int} {a b : List Nat} (p : a.Perm b) : lsS f a = lsS f b := by
  induction p with
  | nil => rfl
  | cons x _ ih => show f x + _ = f x + _; rw [ih]
  | swap x y l => show f y + (f x + lsS f l) = f x + (f y + lsS f l); omega
  | trans _ _ h1 h2 => exact h1.trans h2
theorem prS_perm {g : Nat → Nat → Int} (s : ∀ a b, g a b = g b a) {a b : List Nat} (p : a.Perm b) : prS g a = prS g b := by
  induction p with
  | nil => rfl
  | cons x q ih => show lsS (g x) _ + _ = lsS (g x) _ + _; rw [ih, lsS_perm q]
  | swap x y l =>
    show g y x + lsS (g y) l + (lsS (g x) l + prS g l) = g x y + lsS (g x) l + (lsS (g y) l + prS g l)
    rw [s y x]
    omega
  | trans _ _ h1 h2 => exact h1.trans h2
theorem lsS_fil {f : Nat → Int} {p : Nat → Bool} (h : ∀ x, p x = false → f x = 0) : ∀ l : List Nat, lsS f (l.filter p) = lsS f l
  | [] => rfl
  | c :: l => by
    rw [List.filter_cons]
    by_cases z : p c = true
    · rw [if_pos z]; show f c + _ = f c + _; rw [lsS_fil h l]
    · rw [if_neg z]
      show lsS f (l.filter p) = f c + lsS f l
      rw [lsS_fil h l, h c (by simpa using z)]
      omega
theorem prS_fil {g : Nat → Nat → Int} {p : Nat → Bool} (h1 : ∀ x y, p x = false → g x y = 0) (h2 : ∀ x y, p y = false → g x y = 0) : ∀ l : List Nat, prS g (l.filter p) = prS g l
  | [] => rfl
  | c :: l => by
    rw [List.filter_cons]
    by_cases z : p c = true
    · rw [if_pos z]
      show lsS (g c) (l.filter p) + prS g (l.filter p) = lsS (g c) l + prS g l
      rw [prS_fil h1 h2 l, lsS_fil (fun y hy => h2 c y hy)]
    · rw [if_neg z]
      show prS g (l.filter p) = lsS (g c) l + prS g l
      have e0 : lsS (g c) l = 0 := by
        have : ∀ m : List Nat, lsS (g c) m = 0 := by
          intro m
          induction m with
          | nil => rfl
          | cons x m ih => show g c x + lsS (g c) m = 0; rw [ih, h1 c x (by simpa using z)]; rfl
        exact this l
      rw [prS_fil h1 h2 l, e0]
      omega
theorem prS_snoc {g : Nat → Nat → Int} (s : ∀ a b, g a b = g b a) {l : List Nat} {x : Nat} : prS g (l ++ [x]) = prS g l + lsS (g x) l := by
  rw [prS_perm s (List.perm_append_comm (l₁ := l) (l₂ := [x]))]
  show lsS (g x) l + prS g l = _
  omega
theorem lsS_map {f : Nat → Int} {r : Nat → Nat} : ∀ n, lsS f ((List.range n).map r) = sumI (fun j => f (r j)) n
  | 0 => rfl
  | n + 1 => by
    rw [List.range_succ, List.map_append, lsS_app, lsS_map n]
    show _ + (f (r n) + 0) = sumI (fun j => f (r j)) n + f (r n)
    omega
theorem prS_map {g : Nat → Nat → Int} (s : ∀ a b, g a b = g b a) {r : Nat → Nat} : ∀ n, prS g ((List.range n).map r) = sumI (fun i => sumI (fun j => g (r i) (r j)) i) n
  | 0 => rfl
  | n + 1 => by
    rw [List.range_succ, List.map_append]
    show prS g (_ ++ [r n]) = _
    rw [prS_snoc s, prS_map s n, lsS_map]
    rfl
theorem nearV_sym {F : Nat → Int} {ax fe : Nat → Nat} {apart : Int} {late a b : Nat} (hf : (fe a).testBit b = (fe b).testBit a) (ap : 0 ≤ apart) (xa : 1 ≤ ax a) (xb : 1 ≤ ax b) : nearV F ax fe apart late a b = nearV F ax fe apart late b a := by
  unfold nearV
  have key : (F a ≠ -9 ∧ F b ≠ -9 ∧ late.testBit a = false ∧ late.testBit b = false ∧ (fe a).testBit b = true ∧ (if F a < F b then F b - F a - ax a else F a - F b - ax b) < apart) ↔ (F b ≠ -9 ∧ F a ≠ -9 ∧ late.testBit b = false ∧ late.testBit a = false ∧ (fe b).testBit a = true ∧ (if F b < F a then F a - F b - ax b else F b - F a - ax a) < apart) := by
    rw [hf]
    have e : ((if F a < F b then F b - F a - (ax a : Int) else F a - F b - ax b) < apart) ↔ ((if F b < F a then F a - F b - (ax b : Int) else F b - F a - ax a) < apart) := by
      by_cases z : F a < F b
      · rw [if_pos z, if_neg (by omega)]
      · rw [if_neg z]
        by_cases y : F b < F a
        · rw [if_pos y]
        · rw [if_neg y]
          omega
    rw [e]
    constructor
    · rintro ⟨a, b, c, d, e, f⟩; exact ⟨b, a, d, c, e, f⟩
    · rintro ⟨a, b, c, d, e, f⟩; exact ⟨b, a, d, c, e, f⟩
  by_cases z : F a ≠ -9 ∧ F b ≠ -9 ∧ late.testBit a = false ∧ late.testBit b = false ∧ (fe a).testBit b = true ∧ (if F a < F b then F b - F a - ax a else F a - F b - ax b) < apart
  · rw [if_pos z, if_pos (key.mp z)]
  · rw [if_neg z, if_neg (fun y => z (key.mpr y))]
/-- near each other in this night, among those of the town -/
def nvG (T : Td) (N : Nt) (a b : Nat) : Int := if a < tN T ∧ b < tN T then nearV (fcS T N) (nX N) (tF T) (tA T) (nL N) a b else 0
theorem nvG_sym {T : Td} {N : Nt} (wT : wfT T) (w : wfN T N) (a b : Nat) : nvG T N a b = nvG T N b a := by
  unfold nvG
  by_cases z : a < tN T ∧ b < tN T
  · rw [if_pos z, if_pos ⟨z.2, z.1⟩]
    exact nearV_sym (wT.2.2.2.2.2.2.1 a b z.1 z.2) (by omega) (w.2.2.2.1 a z.1).1 (w.2.2.2.1 b z.2).1
  · rw [if_neg z, if_neg (fun y => z ⟨y.2, y.1⟩)]
theorem nvG_no {T : Td} {N : Nt} {a b : Nat} (h : ¬ a ∈ rowL N ∨ ¬ b ∈ rowL N) : nvG T N a b = 0 := by
  unfold nvG
  split
  · unfold nearV
    have f : ∀ c, ¬ c ∈ rowL N → fcS T N c = -9 := fun c hc => fc_no (fun i hi e => hc (rowL_mem.mpr ⟨i, hi, e⟩))
    rcases h with h | h
    · rw [if_neg (fun y => y.1 (f a h))]
    · rw [if_neg (fun y => y.2.1 (f b h))]
  · rfl
theorem near_pr {T : Td} {N : Nt} (wT : wfT T) (w : wfN T N) : nearS T N = prS (nvG T N) (List.range (tN T)) := by
  have e1 : nearS T N = prS (nvG T N) (rowL N) := by
    unfold rowL
    rw [prS_map (nvG_sym wT w)]
    unfold nearS nearN
    refine sumI_congr (fun i hi => sumI_congr (fun j hj => ?_))
    unfold nvG
    rw [if_pos ⟨w.2.1 i hi, w.2.1 j (by omega)⟩]
  rw [e1, ← prS_perm (nvG_sym wT w) (notLost_perm w)]
  unfold notLost
  exact prS_fil (g := nvG T N) (p := fun c => decide (c ∈ rowL N)) (fun x y hx => nvG_no (Or.inl (of_decide_eq_false hx))) (fun x y hy => nvG_no (Or.inr (of_decide_eq_false hy))) _
