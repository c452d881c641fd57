def rvC (V k : Nat) : Nat → Nat
  | 0 => 0
  | w + 1 => rvC V k w + if V.testBit (k + w) = true then 1 else 0
/-- the fewest rivers to bridge for the last i of the row in the last k cells, 4: too many -/
def ndW (V K w : Nat) (pv : Nat → Nat) : Nat → Nat
  | 0 => 4
  | k + 1 => if k + 1 < w then 4 else min (min (rvC V (K - (k + 1)) w + pv (k + 1 - w)) (ndW V K w pv k)) 4
def ndK (V K : Nat) (wd : Nat → Nat) : Nat → Nat → Nat
  | 0 => fun _ => 0
  | i + 1 => ndW V K (wd i) (ndK V K wd i)
def clr1 (V x : Nat) : Nat := V ^^^ (V &&& 2 ^ x)
theorem clr1_bit (V x j : Nat) : (clr1 V x).testBit j = (V.testBit j && !decide (x = j)) := by
  unfold clr1
  rw [clr_bit, Nat.testBit_two_pow]
theorem rvC_out {V x k : Nat} : ∀ w, (x < k ∨ k + w ≤ x) → rvC (clr1 V x) k w = rvC V k w
  | 0, _ => rfl
  | w + 1, h => by
    show rvC (clr1 V x) k w + (if (clr1 V x).testBit (k + w) = true then 1 else 0) = rvC V k w + _
    rw [rvC_out w (by omega), clr1_bit, decide_eq_false (by omega), Bool.not_false, Bool.and_true]
theorem rvC_in {V x k : Nat} (hb : V.testBit x = true) : ∀ w, k ≤ x → x < k + w → rvC (clr1 V x) k w + 1 = rvC V k w
  | 0, h1, h2 => absurd h2 (by omega)
  | w + 1, h1, h2 => by
    show rvC (clr1 V x) k w + (if (clr1 V x).testBit (k + w) = true then 1 else 0) + 1 = rvC V k w + (if V.testBit (k + w) = true then 1 else 0)
    by_cases z : x = k + w
    · subst z
      rw [rvC_out w (by omega), clr1_bit, decide_eq_true rfl, Bool.not_true, Bool.and_false, if_neg Bool.false_ne_true, if_pos hb]
    · have ih := rvC_in hb w h1 (by omega)
      rw [clr1_bit, decide_eq_false z, Bool.not_false, Bool.and_true]
      omega
theorem rvC_pos {V k : Nat} : ∀ w, 0 < rvC V k w → ∃ x, k ≤ x ∧ x < k + w ∧ V.testBit x = true
  | 0, h => absurd h (Nat.lt_irrefl _)
  | w + 1, h => by
    by_cases z : V.testBit (k + w) = true
    · exact ⟨k + w, by omega, by omega, z⟩
    · have h : 0 < rvC V k w + (if V.testBit (k + w) = true then 1 else 0) := h
      rw [if_neg z] at h
      obtain ⟨x, h1, h2, h3⟩ := rvC_pos w h
      exact ⟨x, h1, by omega, h3⟩
theorem rvC_clr (V x k : Nat) : ∀ w, rvC (clr1 V x) k w ≤ rvC V k w
  | 0 => Nat.le_refl _
  | w + 1 => by
    have ih := rvC_clr V x k w
    show rvC (clr1 V x) k w + (if (clr1 V x).testBit (k + w) = true then 1 else 0) ≤ rvC V k w + (if V.testBit (k + w) = true then 1 else 0)
    by_cases z : (clr1 V x).testBit (k + w) = true
    · have : V.testBit (k + w) = true := by
        rw [clr1_bit, Bool.and_eq_true] at z
        exact z.1
      rw [if_pos z, if_pos this]
      omega
    · rw [if_neg z]
      split <;> omega
theorem rvC_0 {V k w : Nat} : rvC V k w = 0 ↔ ∀ j, j < w → V.testBit (k + j) = false := by
  induction w with
  | zero => exact ⟨fun _ j h => absurd h (Nat.not_lt_zero _), fun _ => rfl⟩
  | succ w ih =>
    show rvC V k w + (if V.testBit (k + w) = true then 1 else 0) = 0 ↔ _
    constructor
    · intro h j hj
      by_cases z : j = w
      · subst z
        cases q : V.testBit (k + j) with
        | false => rfl
        | true => rw [q, if_pos rfl] at h; omega
      · exact ih.mp (by omega) j (by omega)
    · intro h
      rw [h w (by omega), if_neg Bool.false_ne_true, ih.mpr (fun j hj => h j (by omega))]
theorem ndK_0 (V K : Nat) (wd : Nat → Nat) (i : Nat) : ndK V K wd (i + 1) 0 = 4 := rfl
theorem ndK_s {V K : Nat} {wd : Nat → Nat} {i k : Nat} (h : ¬ k + 1 < wd i) : ndK V K wd (i + 1) (k + 1) = min (min (rvC V (K - (k + 1)) (wd i) + ndK V K wd i (k + 1 - wd i)) (ndK V K wd (i + 1) k)) 4 := by
  show (if k + 1 < wd i then 4 else _) = _
  rw [if_neg h]
  rfl
theorem ndK_lt {V K : Nat} {wd : Nat → Nat} {i k : Nat} (h : k < wd i) : ndK V K wd (i + 1) k = 4 := by
  cases k with
  | zero => rfl
  | succ k =>
    show (if k + 1 < wd i then 4 else _) = _
    rw [if_pos h]
theorem ndK_le (V K : Nat) (wd : Nat → Nat) : ∀ i k, ndK V K wd i k ≤ 4
  | 0, _ => Nat.zero_le _
  | i + 1, 0 => Nat.le_refl _
  | i + 1, k + 1 => by
    by_cases z : k + 1 < wd i
    · rw [ndK_lt z]; exact Nat.le_refl _
    · rw [ndK_s z]; exact Nat.min_le_right _ _
/-- cells ahead don't matter -/
theorem ndK_far {V K x : Nat} {wd : Nat → Nat} : ∀ i k, k ≤ K → x < K - k → ndK (clr1 V x) K wd i k = ndK V K wd i k
  | 0, _, _, _ => rfl
  | i + 1, 0, hk, hx => rfl
  | i + 1, k + 1, hk, hx => by
    by_cases z : k + 1 < wd i
    · rw [ndK_lt z, ndK_lt z]
    · rw [ndK_s z, ndK_s z, rvC_out _ (Or.inl hx), ndK_far i (k + 1 - wd i) (by omega) (by omega), ndK_far (i + 1) k (by omega) (by omega)]
theorem ndK_P2 {V K x : Nat} {wd : Nat → Nat} (w1 : ∀ i, 1 ≤ wd i) (hb : V.testBit x = true) : ∀ i k, k ≤ K → ndK V K wd i k ≤ ndK (clr1 V x) K wd i k + 1
  | 0, _, _ => Nat.zero_le _
  | i + 1, 0, hk => by rw [ndK_0, ndK_0]; omega
  | i + 1, k + 1, hk => by
    by_cases z : k + 1 < wd i
    · rw [ndK_lt z, ndK_lt z]; omega
    · have w := w1 i
      have a := ndK_P2 (V := V) (K := K) w1 hb i (k + 1 - wd i) (by omega)
      have b := ndK_P2 (V := V) (K := K) w1 hb (i + 1) k (by omega)
      rw [ndK_s z, ndK_s z]
      by_cases y : K - (k + 1) ≤ x ∧ x < K - (k + 1) + wd i
      · have r := rvC_in hb (wd i) y.1 y.2
        have f := ndK_far (V := V) (wd := wd) (x := x) (K := K) i (k + 1 - wd i) (by omega) (by omega)
        omega
      · have r := rvC_out (V := V) (x := x) (k := K - (k + 1)) (wd i) (by omega)
        omega
theorem ndK_P3 {V K : Nat} {wd : Nat → Nat} (w1 : ∀ i, 1 ≤ wd i) : ∀ i k, k ≤ K → 0 < ndK V K wd i k → ndK V K wd i k ≤ 3 → ∃ x, K - k ≤ x ∧ x < K ∧ V.testBit x = true ∧ ndK (clr1 V x) K wd i k + 1 ≤ ndK V K wd i k
  | 0, _, _, h, _ => absurd h (Nat.lt_irrefl _)
  | i + 1, 0, hk, h1, h2 => by
    have e := ndK_0 V K wd i
    omega
  | i + 1, k + 1, hk, h1, h2 => by
    by_cases z : k + 1 < wd i
    · rw [ndK_lt z] at h2; omega
    · have w := w1 i
      rw [ndK_s z] at h1 h2
      by_cases y : ndK V K wd (i + 1) k ≤ rvC V (K - (k + 1)) (wd i) + ndK V K wd i (k + 1 - wd i)
      · obtain ⟨x, x1, x2, x3, x4⟩ := ndK_P3 (V := V) (K := K) w1 (i + 1) k (by omega) (by omega) (by omega)
        refine ⟨x, by omega, x2, x3, ?_⟩
        rw [ndK_s z, ndK_s z]
        omega
      · by_cases r : 0 < rvC V (K - (k + 1)) (wd i)
        · obtain ⟨x, x1, x2, x3⟩ := rvC_pos _ r
          have ri := rvC_in x3 (wd i) x1 x2
          have f := ndK_far (V := V) (wd := wd) (x := x) (K := K) i (k + 1 - wd i) (by omega) (by omega)
          refine ⟨x, x1, by omega, x3, ?_⟩
          rw [ndK_s z, ndK_s z]
          omega
        · obtain ⟨x, x1, x2, x3, x4⟩ := ndK_P3 (V := V) (K := K) w1 i (k + 1 - wd i) (by omega) (by omega) (by omega)
          have rc := rvC_clr V x (K - (k + 1)) (wd i)
          refine ⟨x, by omega, x2, x3, ?_⟩
          rw [ndK_s z, ndK_s z]
          omega
theorem ndK_mono {V K : Nat} {wd : Nat → Nat} {i : Nat} : ∀ {k2 k : Nat}, k ≤ k2 → ndK V K wd i k2 ≤ ndK V K wd i k
  | 0, k, h => by rw [show k = 0 by omega]; exact Nat.le_refl _
  | k2 + 1, k, h => by
    by_cases e : k = k2 + 1
    · rw [e]; exact Nat.le_refl _
    · have ih := ndK_mono (V := V) (K := K) (wd := wd) (i := i) (k2 := k2) (k := k) (by omega)
      cases i with
      | zero => exact Nat.le_refl _
      | succ i =>
        by_cases z : k2 + 1 < wd i
        · rw [ndK_lt (show k < wd i by omega), ndK_lt z]
          exact Nat.le_refl _
        · rw [ndK_s z]
          omega
theorem ndK_0iff {V K : Nat} {wd : Nat → Nat} (w1 : ∀ i, 1 ≤ wd i) {i : Nat} : ∀ k, k ≤ K → (ndK V K wd (i + 1) k = 0 ↔ ∃ q, q ≤ k ∧ wd i ≤ q ∧ rvC V (K - q) (wd i) = 0 ∧ ndK V K wd i (q - wd i) = 0)
  | 0, hk => by
    rw [ndK_0]
    constructor
    · intro h; omega
    · rintro ⟨q, h1, h2, -⟩
      have := w1 i
      omega
  | k + 1, hk => by
    have ih := ndK_0iff (V := V) (K := K) (wd := wd) (i := i) w1 k (by omega)
    have w := w1 i
    by_cases z : k + 1 < wd i
    · rw [ndK_lt z]
      constructor
      · intro h; omega
      · rintro ⟨q, h1, h2, -⟩; omega
    · rw [ndK_s z]
      constructor
      · intro h
        by_cases y : ndK V K wd (i + 1) k = 0
        · obtain ⟨q, h1, h2, h3⟩ := ih.mp y
          exact ⟨q, by omega, h2, h3⟩
        · exact ⟨k + 1, Nat.le_refl _, by omega, by omega, by omega⟩
      · rintro ⟨q, h1, h2, h3, h4⟩
        by_cases y : q = k + 1
        · subst y; omega
        · have := ih.mpr ⟨q, by omega, h2, h3, h4⟩
          omega
