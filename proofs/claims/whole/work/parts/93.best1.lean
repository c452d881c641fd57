theorem ofL_app {A r : List Nat} {i : Nat} (h : i < A.length) : ofL (A ++ r) i = ofL A i := by
  unfold ofL
  rw [List.getElem?_append_left h]
def sSl (T : Td) (N : Nt) (l : List Nat) (i : Nat) : Option Nat := suS (lnd T N) (tK T) (nX N) (ofL l) i
def sPl (T : Td) (N : Nt) (l : List Nat) (i : Nat) : Option Nat := suP (lnd T N) (tK T) (nX N) (ofL l) i
theorem sS_app {T : Td} {N : Nt} {A r : List Nat} {i : Nat} (h : i ≤ A.length) : sSl T N (A ++ r) i = sSl T N A i := suS_congr (fun _ _ => rfl) (fun j hj => by rw [ofL_app (by omega)]; exact ⟨rfl, rfl⟩)
theorem sP_app {T : Td} {N : Nt} {A r : List Nat} {i : Nat} (h : i < A.length) : sPl T N (A ++ r) i = sPl T N A i := suP_congr (fun _ _ => rfl) (fun j hj => by rw [ofL_app (by omega)]; exact ⟨rfl, rfl⟩)
/-- where the next may begin behind these, if all of them stand -/
def plc (T : Td) (N : Nt) (A : List Nat) : Option Nat := sSl T N A A.length
theorem ofL_snoc (A : List Nat) (c : Nat) : ofL (A ++ [c]) A.length = c := by
  unfold ofL
  rw [List.getElem?_append_right (Nat.le_refl _), Nat.sub_self]
  rfl
theorem plc_snoc {T : Td} {N : Nt} {A : List Nat} {f c : Nat} (h : plc T N A = some f) : sPl T N (A ++ [c]) A.length = fstF (lnd T N) (tK T) (nX N c) (40 - f) f ∧ plc T N (A ++ [c]) = (fstF (lnd T N) (tK T) (nX N c) (40 - f) f).map (fun p => p + nX N c) := by
  have e1 : sSl T N (A ++ [c]) A.length = some f := by rw [sS_app (Nat.le_refl _)]; exact h
  have e2 : sPl T N (A ++ [c]) A.length = fstF (lnd T N) (tK T) (nX N c) (40 - f) f := by
    unfold sPl suP
    unfold sSl at e1
    rw [e1, ofL_snoc]
  refine ⟨e2, ?_⟩
  have lA : (A ++ [c]).length = A.length + 1 := by rw [List.length_append]; rfl
  unfold plc
  rw [lA]
  unfold sSl
  rw [suS_s]
  unfold sPl at e2
  rw [e2, ofL_snoc]
theorem plc_P {T : Td} {N : Nt} {A : List Nat} {f : Nat} (h : plc T N A = some f) : ∀ i, i < A.length → (sPl T N A i).isSome = true := by
  intro i hi
  cases hA : A.length with
  | zero => omega
  | succ m =>
    have h2 : sSl T N A (m + 1) = some f := by unfold plc at h; rw [hA] at h; exact h
    unfold sSl at h2
    rw [suS_s] at h2
    cases e : suP (lnd T N) (tK T) (nX N) (ofL A) m with
    | none => rw [e] at h2; cases h2
    | some p =>
      by_cases z : i = m
      · subst z
        unfold sPl
        rw [e]; rfl
      · obtain ⟨p2, e2, -⟩ := suP_mono (show i < m by omega) e
        unfold sPl
        rw [e2]; rfl
theorem onR_st {T : Td} {N : Nt} {l : List Nat} {i : Nat} (hi : i < l.length) : i < stN T (onR N l) ↔ (sPl T N l i).isSome = true := plN_iff hi
theorem st_full {T : Td} {N : Nt} {A : List Nat} {f : Nat} (h : plc T N A = some f) : stN T (onR N A) = A.length := by
  have le := stN_le T (onR N A)
  have le : stN T (onR N A) ≤ A.length := le
  by_cases z : stN T (onR N A) = A.length
  · exact z
  · have lt : stN T (onR N A) < A.length := by omega
    have := (onR_st lt).mpr (plc_P h _ lt)
    omega
/-- when the next one finds no room, none behind stands -/
theorem st_dead {T : Td} {N : Nt} {A r : List Nat} {f : Nat} (h : plc T N A = some f) (hr : r = [] ∨ ∃ c r2, r = c :: r2 ∧ fstF (lnd T N) (tK T) (nX N c) (40 - f) f = none) : stN T (onR N (A ++ r)) = A.length := by
  have le : stN T (onR N (A ++ r)) ≤ (A ++ r).length := stN_le T (onR N (A ++ r))
  rw [List.length_append] at le
  have lo : A.length ≤ stN T (onR N (A ++ r)) := by
    by_cases z : A.length ≤ stN T (onR N (A ++ r))
    · exact z
    · have lt : stN T (onR N (A ++ r)) < A.length := by omega
      have := (onR_st (T := T) (N := N) (l := A ++ r) (i := stN T (onR N (A ++ r))) (by rw [List.length_append]; omega)).mpr (by rw [sP_app lt]; exact plc_P h _ lt)
      omega
  rcases hr with e | ⟨c, r2, e, hn⟩
  · subst e
    rw [List.length_nil] at le
    omega
  · subst e
    by_cases z : stN T (onR N (A ++ c :: r2)) = A.length
    · exact z
    · exfalso
      have lt : A.length < stN T (onR N (A ++ c :: r2)) := by omega
      have s := (onR_st (l := A ++ c :: r2) (show A.length < (A ++ c :: r2).length by rw [List.length_append, List.length_cons]; omega)).mp lt
      have ea : A ++ c :: r2 = (A ++ [c]) ++ r2 := by simp
      rw [ea, sP_app (by rw [List.length_append]; show A.length < A.length + 1; omega), (plc_snoc h).1, hn] at s
      cases s
theorem nearN_cg {F G : Nat → Int} {ax fe r q : Nat → Nat} {apart : Int} {late n : Nat} (h : ∀ i, i < n → r i = q i ∧ F (r i) = G (q i)) : nearN F ax fe apart late r n = nearN G ax fe apart late q n := by
  unfold nearN
  refine sumI_congr fun i hi => sumI_congr fun j hj => ?_
  unfold nearV
  obtain ⟨a1, a2⟩ := h i hi
  obtain ⟨b1, b2⟩ := h j (by omega)
  rw [a2, b2, a1, b1]
theorem fc_app {T : Td} {N : Nt} {A r : List Nat} (n : (A ++ r).Nodup) {i : Nat} (hi : i < A.length) : fcS T (onR N (A ++ r)) (ofL A i) = fcS T (onR N A) (ofL A i) := by
  have nA : A.Nodup := (List.nodup_append.mp n).1
  have inj : ∀ (l : List Nat), l.Nodup → ∀ i j, i < l.length → j < l.length → ofL l i = ofL l j → i = j := fun l nl i j hi hj e => by
    rw [ofL_at hi, ofL_at hj] at e
    exact (List.getElem_inj nl).mp e
  have hi2 : i < (A ++ r).length := by rw [List.length_append]; omega
  have e1 : fcS T (onR N (A ++ r)) (ofL (A ++ r) i) = vO (sPl T N (A ++ r) i) := fiF_in (inj _ n) i hi2
  have e2 : fcS T (onR N A) (ofL A i) = vO (sPl T N A i) := fiF_in (inj _ nA) i hi
  rw [ofL_app hi, sP_app hi] at e1
  rw [e1, e2]
theorem near_split {T : Td} {N : Nt} {A r : List Nat} (n : (A ++ r).Nodup) : nearN (fcS T (onR N (A ++ r))) (nX N) (tF T) (tA T) 0 (ofL (A ++ r)) A.length = nearS T (onR N A) := nearN_cg (fun i hi => ⟨ofL_app hi, by rw [ofL_app hi]; exact fc_app n hi⟩)
theorem nearN_up {F : Nat → Int} {ax fe r : Nat → Nat} {apart : Int} {late n : Nat} : ∀ k, nearN F ax fe apart late r n ≤ nearN F ax fe apart late r (n + k)
  | 0 => Int.le_refl _
  | k + 1 => by
    have ih := nearN_up (F := F) (ax := ax) (fe := fe) (r := r) (apart := apart) (late := late) (n := n) k
    have sb := sumI_b1 (fun j => nearV_b F ax fe apart late (r (n + k)) (r j)) (n + k)
    have e : nearN F ax fe apart late r (n + k + 1) = nearN F ax fe apart late r (n + k) + sumI (fun j => nearV F ax fe apart late (r (n + k)) (r j)) (n + k) := rfl
    show _ ≤ nearN F ax fe apart late r (n + k + 1)
    omega
theorem nearN_st {F : Nat → Int} {ax fe r : Nat → Nat} {apart : Int} {late n : Nat} : ∀ k, (∀ i, n ≤ i → i < n + k → F (r i) = -9) → nearN F ax fe apart late r (n + k) = nearN F ax fe apart late r n
  | 0, _ => rfl
  | k + 1, h => by
    have ih := nearN_st (F := F) (ax := ax) (fe := fe) (r := r) (apart := apart) (late := late) (n := n) k (fun i a b => h i a (by omega))
    have e : nearN F ax fe apart late r (n + k + 1) = nearN F ax fe apart late r (n + k) + sumI (fun j => nearV F ax fe apart late (r (n + k)) (r j)) (n + k) := rfl
    have z : sumI (fun j => nearV F ax fe apart late (r (n + k)) (r j)) (n + k) = 0 := by
      have key : ∀ m, sumI (fun j => nearV F ax fe apart late (r (n + k)) (r j)) m = 0 := by
        intro m
        induction m with
        | zero => rfl
        | succ m ihm =>
          show sumI _ m + nearV F ax fe apart late (r (n + k)) (r m) = 0
          rw [ihm]
          unfold nearV
          rw [if_neg (fun y => y.1 (h (n + k) (by omega) (by omega)))]
          rfl
      exact key _
    show nearN F ax fe apart late r (n + k + 1) = _
    rw [e, z, ih, Int.add_zero]
theorem near_ge {T : Td} {N : Nt} {A r : List Nat} (n : (A ++ r).Nodup) : nearS T (onR N A) ≤ nearS T (onR N (A ++ r)) := by
  rw [← near_split n]
  have := nearN_up (F := fcS T (onR N (A ++ r))) (ax := nX N) (fe := tF T) (r := ofL (A ++ r)) (apart := tA T) (late := 0) (n := A.length) r.length
  rw [← List.length_append] at this
  exact this
theorem near_dead {T : Td} {N : Nt} {A r : List Nat} (wT : wfT T) (w : wfN T (onR N (A ++ r))) (n : (A ++ r).Nodup) (s : stN T (onR N (A ++ r)) = A.length) : nearS T (onR N (A ++ r)) = nearS T (onR N A) := by
  rw [← near_split n]
  have := nearN_st (F := fcS T (onR N (A ++ r))) (ax := nX N) (fe := tF T) (r := ofL (A ++ r)) (apart := tA T) (late := 0) (n := A.length) r.length (fun i a b => by
    have hi : i < nM (onR N (A ++ r)) := by show i < (A ++ r).length; rw [List.length_append]; exact b
    have c := fc_st w (T := T) hi
    exact Decidable.byContradiction (fun y => by have := c.mpr y; omega))
  rw [← List.length_append] at this
  exact this
theorem last_is {T : Td} {W : Nt} (wT : wfT T) (w : wfN T W) (l0 : nL W = 0) : (stN T W = 0 → lastS T W = -9) ∧ ∀ m, stN T W = m + 1 → lastS T W = fcS T W (nR W m) + nX W (nR W m) - 1 := by
  have le := stN_le T W
  have out : ∀ j, stN T W ≤ j → j < nM W → lstV (fcS T W) (nX W) (nL W) (nR W j) = -9 := fun j h1 h2 => by
    have c := fc_st w (T := T) h2
    unfold lstV
    rw [if_pos (Or.inl (Decidable.byContradiction (fun y => by have := c.mpr y; omega)))]
  constructor
  · intro z
    exact last_st w 0 (Nat.zero_le _) (fun j _ h2 => out j (by omega) h2)
  · intro m hm
    rw [last_st w (m + 1) (by omega) (fun j h1 h2 => out j (by omega) h2)]
    have up := last_up wT w (show m < stN T W by omega)
    have ne := (fc_st w (T := T) (show m < nM W by omega)).mp (by omega)
    have lv : lstV (fcS T W) (nX W) (nL W) (nR W m) = fcS T W (nR W m) + nX W (nR W m) - 1 := by
      unfold lstV
      rw [if_neg (fun y => y.elim ne (fun z => by rw [l0, Nat.zero_testBit] at z; cases z))]
    show (if mxI (fun i => lstV (fcS T W) (nX W) (nL W) (nR W i)) m < lstV (fcS T W) (nX W) (nL W) (nR W m) then lstV (fcS T W) (nX W) (nL W) (nR W m) else _) = _
    rw [lv, if_pos up]
theorem last_plc {T : Td} {N : Nt} {A r : List Nat} {f : Nat} (wT : wfT T) (w : wfN T (onR N (A ++ r))) (n : (A ++ r).Nodup) (h : plc T N A = some f) (s : stN T (onR N (A ++ r)) = A.length) : (A = [] → lastS T (onR N (A ++ r)) = -9 ∧ f = 0) ∧ (A ≠ [] → lastS T (onR N (A ++ r)) = (f : Int) - 1) := by
  have l0 : nL (onR N (A ++ r)) = 0 := rfl
  have li := last_is wT w l0
  constructor
  · intro e
    subst e
    refine ⟨li.1 s, ?_⟩
    have h : (some 0 : Option Nat) = some f := h
    injection h with h
    exact h.symm
  · intro e
    cases hA : A.length with
    | zero => exact absurd (List.eq_nil_of_length_eq_zero hA) e
    | succ m =>
      rw [hA] at s
      rw [li.2 m s]
      have hm : m < A.length := by omega
      have e1 : nR (onR N (A ++ r)) m = ofL A m := ofL_app hm
      have hmi : m < nM (onR N (A ++ r)) := by show m < (A ++ r).length; rw [List.length_append]; omega
      have e2 : fcS T (onR N (A ++ r)) (nR (onR N (A ++ r)) m) = vO (sPl T N (A ++ r) m) := fc_at w hmi
      rw [sP_app hm] at e2
      have h2 : sSl T N A (m + 1) = some f := by unfold plc at h; rw [hA] at h; exact h
      unfold sSl at h2
      rw [suS_s] at h2
      unfold sPl at e2
      cases e : suP (lnd T N) (tK T) (nX N) (ofL A) m with
      | none => rw [e] at h2; cases h2
      | some p =>
        rw [e] at h2 e2
        have h2 : some (p + nX N (ofL A m)) = some f := h2
        injection h2 with h2
        rw [e2, e1]
        show (p : Int) + (nX N (ofL A m) : Int) - 1 = (f : Int) - 1
        omega
/-- how far at least all of them reach -/
def sumX (N : Nt) : List Nat → Nat
  | [] => 0
  | c :: l => nX N c + sumX N l
theorem sumX_perm {N : Nt} {a b : List Nat} (p : a.Perm b) : sumX N a = sumX N b := by
  induction p with
  | nil => rfl
  | cons x _ ih => show nX N x + _ = nX N x + _; rw [ih]
  | swap x y l => show nX N y + (nX N x + sumX N l) = nX N x + (nX N y + sumX N l); omega
  | trans _ _ h1 h2 => exact h1.trans h2
theorem plc_far {T : Td} {N : Nt} : ∀ (r A : List Nat) (f f2 : Nat), plc T N A = some f → plc T N (A ++ r) = some f2 → f + sumX N r ≤ f2
  | [], A, f, f2, h, h2 => by
    rw [List.append_nil, h] at h2
    injection h2 with h2
    show f + 0 ≤ f2
    omega
  | c :: r, A, f, f2, h, h2 => by
    have e := (plc_snoc (c := c) h).2
    have ea : A ++ c :: r = (A ++ [c]) ++ r := by simp
    rw [ea] at h2
    cases hf : fstF (lnd T N) (tK T) (nX N c) (40 - f) f with
    | some p =>
      rw [hf] at e
      have e : plc T N (A ++ [c]) = some (p + nX N c) := e
      have := plc_far r (A ++ [c]) (p + nX N c) f2 e h2
      have := (fstF_some hf).1
      show f + (nX N c + sumX N r) ≤ f2
      omega
    | none =>
      exfalso
      have s := plc_P h2 A.length (by rw [List.length_append, List.length_append]; show _ < A.length + 1 + _; omega)
      rw [sP_app (by rw [List.length_append]; show _ < A.length + 1; omega), (plc_snoc h).1, hf] at s
      cases s
theorem plc_of_st {T : Td} {N : Nt} {l : List Nat} (s : stN T (onR N l) = l.length) : ∃ f, plc T N l = some f := by
  unfold plc sSl
  cases hl : l.length with
  | zero => exact ⟨0, rfl⟩
  | succ m =>
    rw [suS_s]
    have := (onR_st (T := T) (N := N) (l := l) (i := m) (by omega)).mp (by omega)
    unfold sPl at this
    obtain ⟨p, hp⟩ := Option.isSome_iff_exists.mp this
    rw [hp]
    exact ⟨_, rfl⟩
