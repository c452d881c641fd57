/-- the array a holds f -/
def aI (h : mH) (a : Nat) (f : Nat → Int) : mH := (h.1, (fun q j => if q = a then f j else h.2.1 q j), h.2.2.1, h.2.2.2)
def upI (f : Nat → Int) (k : Nat) (x : Int) : Nat → Int := fun j => if j = k then x else f j
theorem aI_len (h : mH) (a : Nat) (f : Nat → Int) : (aI h a f).1 = h.1 := rfl
theorem kd_aI (h : mH) (a : Nat) (f : Nat → Int) : kd (aI h a f) = kd h := rfl
theorem gL_aI (h : mH) (a : Nat) (f : Nat → Int) : gL (aI h a f) = gL h := rfl
theorem gR_aI (h : mH) (a : Nat) (f : Nat → Int) : gR (aI h a f) = gR h := rfl
theorem gI_aI (h : mH) (a : Nat) (f : Nat → Int) : gI (aI h a f) a = f := by funext j; simp [gI, aI]
theorem gI_aIn {h : mH} {a b : Nat} {f : Nat → Int} (n : b ≠ a) : gI (aI h a f) b = gI h b := by funext j; simp [gI, aI, n]
theorem gI_sIn {h : mH} {a b k : Nat} {x : Int} (n : b ≠ a) : gI (sI h a k x) b = gI h b := by funext j; simp [gI_sI, n]
theorem gI_sIu (h : mH) (a k : Nat) (x : Int) : gI (sI h a k x) a = upI (gI h a) k x := by funext j; simp [gI_sI, upI]
theorem sI_aI (h : mH) (a k : Nat) (f : Nat → Int) (x : Int) : sI (aI h a f) a k x = aI h a (upI f k x) := by
  refine mH_ext rfl (fun q j => ?_) (fun _ _ => rfl) (fun _ _ => rfl)
  rw [gI_sI]
  by_cases e : q = a
  · subst e
    rw [gI_aI, gI_aI]
    simp [upI]
  · rw [gI_aIn e, gI_aIn e, if_neg (fun z => e z.1)]
theorem aI_aI (h : mH) (a : Nat) (f g : Nat → Int) : aI (aI h a f) a g = aI h a g := by
  refine mH_ext rfl (fun q j => ?_) (fun _ _ => rfl) (fun _ _ => rfl)
  by_cases e : q = a
  · subst e
    rw [gI_aI, gI_aI]
  · rw [gI_aIn e, gI_aIn e, gI_aIn e]
theorem aI_id (h : mH) (a : Nat) : aI h a (gI h a) = h := by
  refine mH_ext rfl (fun q j => ?_) (fun _ _ => rfl) (fun _ _ => rfl)
  by_cases e : q = a
  · subst e
    rw [gI_aI]
  · rw [gI_aIn e]
theorem sI_is (h : mH) (a k : Nat) (x : Int) : sI h a k x = aI h a (upI (gI h a) k x) := by
  conv => lhs; rw [← aI_id h a]
  rw [sI_aI]
theorem aI_sw {h : mH} {a b : Nat} {f g : Nat → Int} (n : a ≠ b) : aI (aI h a f) b g = aI (aI h b g) a f := by
  refine mH_ext rfl (fun q j => ?_) (fun _ _ => rfl) (fun _ _ => rfl)
  by_cases e : q = b
  · subst e
    rw [gI_aI, gI_aIn (Ne.symm n), gI_aI]
  · rw [gI_aIn e]
    by_cases e2 : q = a
    · subst e2
      rw [gI_aI, gI_aI]
    · rw [gI_aIn e2, gI_aIn e2, gI_aIn e]
theorem lay_aI {h : mH} (L : LAY h) (a : Nat) (f : Nat → Int) : LAY (aI h a f) := lay_keep L rfl rfl
theorem frm_aI {lo hi : Nat} {h : mH} {a : Nat} {f : Nat → Int} (h1 : lo ≤ a) (h2 : a < hi) : frm lo hi h (aI h a f) := ⟨rfl, fun q hq => ⟨gI_aIn (by omega), rfl, rfl⟩⟩
theorem upI_s (f : Nat → Int) (k : Nat) (x : Int) : upI f k x k = x := if_pos rfl
theorem upI_n {f : Nat → Int} {k j : Nat} {x : Int} (n : j ≠ k) : upI f k x j = f j := if_neg n
/-- the first n of g, then f -/
def mixI (n : Nat) (g f : Nat → Int) : Nat → Int := fun j => if j < n then g j else f j
theorem mixI_0 (g f : Nat → Int) : mixI 0 g f = f := by funext j; simp [mixI]
theorem mixI_up (n : Nat) (g f : Nat → Int) : upI (mixI n g f) n (g n) = mixI (n + 1) g f := by
  funext j
  unfold upI mixI
  by_cases e : j = n
  · subst e
    rw [if_pos rfl, if_pos (by omega)]
  · rw [if_neg e]
    by_cases e2 : j < n
    · rw [if_pos e2, if_pos (by omega)]
    · rw [if_neg e2, if_neg (by omega)]
theorem mixI_in {n j : Nat} {g f : Nat → Int} (q : j < n) : mixI n g f j = g j := if_pos q
theorem mixI_out {n j : Nat} {g f : Nat → Int} (q : n ≤ j) : mixI n g f j = f j := if_neg (by omega)
