def inR (x : Int) : Prop := -2147483648 ≤ x ∧ x < 2147483648
def inL (x : Int) : Prop := -9223372036854775808 ≤ x ∧ x < 9223372036854775808
theorem i32_of {x : Int} (h : inR x) : (Int32.ofInt x).toInt = x := Int32.toInt_ofInt_of_le (by have := h.1; omega) (by have := h.2; omega)
theorem i64_of {x : Int} (h : inL x) : (Int64.ofInt x).toInt = x := Int64.toInt_ofInt_of_le (by have := h.1; omega) (by have := h.2; omega)
theorem t32_in (x : Int32) : inR x.toInt := ⟨by have := Int32.le_toInt x; omega, by have := Int32.toInt_lt x; omega⟩
theorem t64_in (x : Int64) : inL x.toInt := ⟨by have := Int64.le_toInt x; omega, by have := Int64.toInt_lt x; omega⟩
theorem wr_of (z : Int) : Int32.ofInt (wr z) = Int32.ofInt z := Int32.ofInt_toInt _
theorem wrL_of (z : Int) : Int64.ofInt (wrL z) = Int64.ofInt z := Int64.ofInt_toInt _
theorem wr_id {z : Int} (h : inR z) : wr z = z := i32_of h
theorem wrL_id {z : Int} (h : inL z) : wrL z = z := i64_of h
theorem i32_lt {x y : Int} (hx : inR x) (hy : inR y) : Int32.ofInt x < Int32.ofInt y ↔ x < y := by rw [Int32.lt_iff_toInt_lt, i32_of hx, i32_of hy]
theorem i32_le {x y : Int} (hx : inR x) (hy : inR y) : Int32.ofInt x ≤ Int32.ofInt y ↔ x ≤ y := by rw [Int32.le_iff_toInt_le, i32_of hx, i32_of hy]
theorem i32_eq {x y : Int} (hx : inR x) (hy : inR y) : Int32.ofInt x = Int32.ofInt y ↔ x = y := by rw [← Int32.toInt_inj, i32_of hx, i32_of hy]
theorem i64_lt {x y : Int} (hx : inL x) (hy : inL y) : Int64.ofInt x < Int64.ofInt y ↔ x < y := by rw [Int64.lt_iff_toInt_lt, i64_of hx, i64_of hy]
theorem i64_eq {x y : Int} (hx : inL x) (hy : inL y) : Int64.ofInt x = Int64.ofInt y ↔ x = y := by rw [← Int64.toInt_inj, i64_of hx, i64_of hy]
theorem i32_div {x y z : Int} (hx : inR x) (hy : inR y) (h : divI x y = some z) : Int32.ofInt z = Int32.ofInt x / Int32.ofInt y ∧ inR z ∧ y ≠ 0 := by
  unfold divI at h
  split at h
  next hc =>
    cases h
    have e : x / y = x.tdiv y := (Int.tdiv_eq_ediv_of_nonneg hc.1).symm
    have h0 : 0 ≤ x / y := Int.ediv_nonneg hc.1 (by omega)
    have h1 : x / y ≤ x := Int.ediv_le_self y hc.1
    refine ⟨?_, ⟨by omega, by have := hx.2; omega⟩, by omega⟩
    rw [e]
    exact Int32.ofInt_tdiv (by have := hx.1; simp [Int32.toInt_minValue]; omega) (by have := hx.2; simp [Int32.toInt_maxValue]; omega) (by have := hy.1; simp [Int32.toInt_minValue]; omega) (by have := hy.2; simp [Int32.toInt_maxValue]; omega)
  next => cases h
theorem i32_rem {x y z : Int} (hx : inR x) (hy : inR y) (h : remI x y = some z) : Int32.ofInt z = Int32.ofInt x - Int32.ofInt x / Int32.ofInt y * Int32.ofInt y ∧ inR z ∧ y ≠ 0 := by
  unfold remI at h
  split at h
  next hc =>
    cases h
    have hd : divI x y = some (x / y) := by unfold divI; rw [if_pos hc]
    obtain ⟨e, -, -⟩ := i32_div hx hy hd
    have h0 : 0 ≤ x % y := Int.emod_nonneg x (by omega)
    have h1 : x % y < y := Int.emod_lt_of_pos x hc.2
    refine ⟨?_, ⟨by omega, by have := hy.2; omega⟩, by omega⟩
    rw [← e, ← Int32.ofInt_mul, ← Int32.ofInt_sub, Int.emod_def, Int.mul_comm]
  next => cases h
theorem i32_nc {i : Int} (h0 : 0 ≤ i) (h : inR i) : (Int32.ofInt i).toNatClampNeg = i.toNat := by
  rw [Int32.toNatClampNeg, i32_of h]
theorem i32_in {i : Int} {n : Nat} (h0 : 0 ≤ i) (hn : i < n) (h : inR i) : vp_in (Int32.ofInt i) n := by
  rw [vp_in_iff, i32_of h]
  exact ⟨h0, hn⟩
def adr (ads : List (Nat × Nat)) (k : Nat) : Nat := (ads.getD k (0, 0)).1
def acl (ads : List (Nat × Nat)) (k : Nat) : Nat := (ads.getD k (0, 0)).2
def rV (ads : List (Nat × Nat)) (v : mV) : Value := match v with
  | .inl x => .int (Int32.ofInt x)
  | .inr (.inl x) => .long (Int64.ofInt x)
  | .inr (.inr none) => .null
  | .inr (.inr (some k)) => .ref (adr ads k)
def okV (n : Nat) (v : mV) : Prop := match v with
  | .inl x => inR x
  | .inr (.inl x) => inL x
  | .inr (.inr none) => True
  | .inr (.inr (some k)) => k < n
theorem okV.up {n m : Nat} (h : n ≤ m) : ∀ {v : mV}, okV n v → okV m v
  | .inl _, q => q
  | .inr (.inl _), q => q
  | .inr (.inr none), _ => trivial
  | .inr (.inr (some _)), q => Nat.lt_of_lt_of_le q h
theorem adr_app {ads m : List (Nat × Nat)} {k : Nat} (h : k < ads.length) : adr (ads ++ m) k = adr ads k := by
  simp [adr, List.getD_eq_getElem?_getD, List.getElem?_append_left h]
theorem acl_app {ads m : List (Nat × Nat)} {k : Nat} (h : k < ads.length) : acl (ads ++ m) k = acl ads k := by
  simp [acl, List.getD_eq_getElem?_getD, List.getElem?_append_left h]
theorem rV_app {ads m : List (Nat × Nat)} : ∀ {v : mV}, okV ads.length v → rV (ads ++ m) v = rV ads v
  | .inl _, _ => rfl
  | .inr (.inl _), _ => rfl
  | .inr (.inr none), _ => rfl
  | .inr (.inr (some k)), q => by show Value.ref _ = Value.ref _; rw [adr_app q]
theorem rV_pre {a b : List (Nat × Nat)} (h : a <+: b) {v : mV} (hv : okV a.length v) : rV b v = rV a v := by
  obtain ⟨m, rfl⟩ := h
  exact rV_app hv
theorem rV_cat (ads : List (Nat × Nat)) : ∀ v : mV, (rV ads v).category = catV v
  | .inl _ => rfl
  | .inr (.inl _) => rfl
  | .inr (.inr none) => rfl
  | .inr (.inr (some _)) => rfl
def WfH (h : mH) : Prop := (∀ a k, inR (gI h a k)) ∧ (∀ a k, inL (gL h a k)) ∧ (∀ a k b, gR h a k = some b → b < h.1.length) ∧ (∀ k, k < h.1.length → (kd h k).1 < 100 → (kd h k).1 < 9 ∧ (kd h k).2 = clN (kd h k).1) ∧ ∀ k, k < h.1.length → 100 ≤ (kd h k).1 → (kd h k).1 ≤ 105 ∧ (kd h k).2 ≤ 100000
def payA (ads : List (Nat × Nat)) (h : mH) (k t : Nat) : (Nat → Int32) ⊕ (Nat → Int64) ⊕ (Nat → UInt32) ⊕ (Nat → UInt64) ⊕ (Nat → Option Nat) :=
  if t < 103 then .inl (fun j => Int32.ofInt (gI h k j)) else .inr (.inr (.inr (.inr (fun j => (gR h k j).map (adr ads)))))
def cellA (ads : List (Nat × Nat)) (h : mH) (k : Nat) : va_E :=
  if (kd h k).1 < 100 then .inr ((kd h k).1, (List.range (kd h k).2).map (fun j => rV ads (ldF h k (kd h k).1 j)))
  else .inl (acl ads k, (kd h k).2, payA ads h k (kd h k).1)
def wsA (ads : List (Nat × Nat)) (h : mH) : va_W := (List.range h.1.length).map (fun k => (adr ads k, cellA ads h k))
def tagT (t : Nat) : FieldType := if t = 100 then .int else if t = 101 then .byte else if t = 102 then .boolean else if t = 103 then .object RX2 else if t = 104 then .object RX4 else .array .int
def tyOK (ads : List (Nat × Nat)) (tys : List (ClassId × FieldType)) (h : mH) : Prop := ∀ k, k < h.1.length → 100 ≤ (kd h k).1 → ∃ t0 : Nat, tys[t0]? = some (acl ads k, tagT (kd h k).1)
theorem ws_at {ads : List (Nat × Nat)} {h : mH} {k : Nat} (hk : k < h.1.length) : (wsA ads h)[k]? = some (adr ads k, cellA ads h k) := by
  simp [wsA, List.getElem?_map, List.getElem?_range hk]
theorem ws_len (ads : List (Nat × Nat)) (h : mH) : (wsA ads h).length = h.1.length := by simp [wsA]
theorem kd_lt {h : mH} {a ci n : Nat} (e : kd h a = (ci, n)) (hc : ci ≠ 99) : a < h.1.length := by
  by_cases q : a < h.1.length
  · exact q
  · exfalso
    apply hc
    have : kd h a = (99, 0) := by
      unfold kd
      rw [List.getD_eq_getElem?_getD, List.getElem?_eq_none (by omega)]
      rfl
    rw [this] at e
    exact (congrArg Prod.fst e).symm
/-- what a write at the cell a leaves -/
def offA (h h2 : mH) (a : Nat) : Prop := h2.1 = h.1 ∧ ∀ b, b ≠ a → gI h2 b = gI h b ∧ gL h2 b = gL h b ∧ gR h2 b = gR h b
theorem off_kd {h h2 : mH} {a : Nat} (o : offA h h2 a) (k : Nat) : kd h2 k = kd h k := by unfold kd; rw [o.1]
theorem off_ldF {h h2 : mH} {a : Nat} (o : offA h h2 a) {b : Nat} (hb : b ≠ a) (ci j : Nat) : ldF h2 b ci j = ldF h b ci j := by
  obtain ⟨e1, e2, e3⟩ := o.2 b hb
  unfold ldF
  rw [e1, e2, e3]
theorem off_cell {ads : List (Nat × Nat)} {h h2 : mH} {a : Nat} (o : offA h h2 a) {b : Nat} (hb : b ≠ a) : cellA ads h2 b = cellA ads h b := by
  have e0 := off_kd o b
  obtain ⟨e1, e2, e3⟩ := o.2 b hb
  unfold cellA payA
  simp only [e0, off_ldF o hb, e1, e2, e3]
theorem off_ws {ads : List (Nat × Nat)} {h h2 : mH} {a : Nat} (o : offA h h2 a) : wsA ads h2 = (wsA ads h).set a (adr ads a, cellA ads h2 a) := by
  apply List.ext_getElem?
  intro k
  by_cases hk : k < h.1.length
  · rw [ws_at (by rw [o.1]; exact hk), List.getElem?_set]
    by_cases e : a = k
    · subst e
      rw [if_pos rfl, if_pos (by rw [ws_len]; exact hk)]
    · rw [if_neg e, ws_at hk, off_cell o (Ne.symm e)]
  · rw [List.getElem?_eq_none (by rw [ws_len, o.1]; omega), List.getElem?_eq_none (by rw [List.length_set, ws_len]; omega)]
theorem off_ty {ads : List (Nat × Nat)} {tys : List (ClassId × FieldType)} {h h2 : mH} {a : Nat} (o : offA h h2 a) (t : tyOK ads tys h) : tyOK ads tys h2 := fun k hk h1 => by
  rw [off_kd o] at h1 ⊢
  exact t k (by rw [← o.1]; exact hk) h1
theorem sI_off (h : mH) (a k : Nat) (x : Int) : offA h (sI h a k x) a := ⟨rfl, fun b hb => ⟨by funext j; simp [gI, sI, hb], rfl, rfl⟩⟩
theorem sL_off (h : mH) (a k : Nat) (x : Int) : offA h (sL h a k x) a := ⟨rfl, fun b hb => ⟨rfl, by funext j; simp [gL, sL, hb], rfl⟩⟩
theorem sR_off (h : mH) (a k : Nat) (x : Option Nat) : offA h (sR h a k x) a := ⟨rfl, fun b hb => ⟨rfl, rfl, by funext j; simp [gR, sR, hb]⟩⟩
theorem cpI_off (h : mH) (a sp b dp n : Nat) : offA h (cpI h a sp b dp n) b := ⟨rfl, fun q hq => ⟨by funext j; simp [gI, cpI, hq], rfl, rfl⟩⟩
theorem gI_sI (h : mH) (a k : Nat) (x : Int) (b j : Nat) : gI (sI h a k x) b j = if b = a ∧ j = k then x else gI h b j := rfl
theorem gL_sL (h : mH) (a k : Nat) (x : Int) (b j : Nat) : gL (sL h a k x) b j = if b = a ∧ j = k then x else gL h b j := rfl
theorem gR_sR (h : mH) (a k : Nat) (x : Option Nat) (b j : Nat) : gR (sR h a k x) b j = if b = a ∧ j = k then x else gR h b j := rfl
theorem sI_wf {h : mH} {a k : Nat} {x : Int} (w : WfH h) (hx : inR x) : WfH (sI h a k x) := by
  refine ⟨fun b j => ?_, w.2.1, w.2.2.1, w.2.2.2⟩
  rw [gI_sI]
  split
  · exact hx
  · exact w.1 b j
theorem sL_wf {h : mH} {a k : Nat} {x : Int} (w : WfH h) (hx : inL x) : WfH (sL h a k x) := by
  refine ⟨w.1, fun b j => ?_, w.2.2.1, w.2.2.2⟩
  rw [gL_sL]
  split
  · exact hx
  · exact w.2.1 b j
theorem sR_wf {h : mH} {a k x : Nat} (w : WfH h) (hx : x < h.1.length) : WfH (sR h a k (some x)) := by
  refine ⟨w.1, w.2.1, fun b j q hq => ?_, w.2.2.2⟩
  rw [gR_sR] at hq
  split at hq
  · cases hq
    exact hx
  · exact w.2.2.1 b j q hq
theorem cpI_wf {h : mH} {a sp b dp n : Nat} (w : WfH h) : WfH (cpI h a sp b dp n) := by
  refine ⟨fun q j => ?_, w.2.1, w.2.2.1, w.2.2.2⟩
  show inR (if q = b ∧ dp ≤ j ∧ j < dp + n then h.2.1 a (sp + (j - dp)) else h.2.1 q j)
  split
  · exact w.1 a _
  · exact w.1 q j
/-- what a stored field is, and what it leaves -/
theorem stF_facts {h h2 : mH} {a ci k : Nat} {v : mV} (e : stF h a ci k v = some h2) (w : WfH h) (hv : okV h.1.length v) : offA h h2 a ∧ WfH h2 ∧ ldF h2 a ci k = v ∧ (∀ j, j ≠ k → ldF h2 a ci j = ldF h a ci j) ∧ ∀ ads, narrow (clF ci k) (rV ads v) = rV ads v ∧ fits (clF ci k) (rV ads v) = true := by
  unfold stF at e
  have L1 : ∀ (x : Int) (j : Nat), j ≠ k → ldF (sI h a k x) a ci j = ldF h a ci j := fun x j hj => by
    have e1 : gI (sI h a k x) a j = gI h a j := by rw [gI_sI, if_neg (fun q => hj q.2)]
    unfold ldF
    rw [e1]
    rfl
  have L2 : ∀ (x : Int) (j : Nat), j ≠ k → ldF (sL h a k x) a ci j = ldF h a ci j := fun x j hj => by
    have e1 : gL (sL h a k x) a j = gL h a j := by rw [gL_sL, if_neg (fun q => hj q.2)]
    unfold ldF
    rw [e1]
    rfl
  have L3 : ∀ (x : Option Nat) (j : Nat), j ≠ k → ldF (sR h a k x) a ci j = ldF h a ci j := fun x j hj => by
    have e1 : gR (sR h a k x) a j = gR h a j := by rw [gR_sR, if_neg (fun q => hj q.2)]
    unfold ldF
    rw [e1]
    rfl
  cases hc : clF ci k <;> rw [hc] at e <;> dsimp only at e
  case int =>
    rcases v with x | x | _ | b <;> dsimp only at e <;> first | cases e | skip
    exact ⟨sI_off h a k x, sI_wf w hv, by unfold ldF; rw [hc]; simp [gI_sI], L1 x, fun ads => ⟨rfl, rfl⟩⟩
  case boolean =>
    rcases v with x | x | _ | b <;> dsimp only at e <;> first | cases e | skip
    split at e
    next hx =>
      cases e
      refine ⟨sI_off h a k x, sI_wf w hv, by unfold ldF; rw [hc]; simp [gI_sI], L1 x, fun ads => ?_⟩
      rcases hx with rfl | rfl
      · exact ⟨by rfl, by rfl⟩
      · exact ⟨by rfl, by rfl⟩
    next => cases e
  case long =>
    rcases v with x | x | _ | b <;> dsimp only at e <;> first | cases e | skip
    exact ⟨sL_off h a k x, sL_wf w hv, by unfold ldF; rw [hc]; simp [gL_sL], L2 x, fun ads => ⟨rfl, rfl⟩⟩
  case object n =>
    rcases v with x | x | _ | b <;> dsimp only at e <;> first | cases e | skip
    exact ⟨sR_off h a k _, sR_wf w hv, by unfold ldF; rw [hc]; simp [gR_sR], L3 _, fun ads => ⟨rfl, rfl⟩⟩
  case array n =>
    rcases v with x | x | _ | b <;> dsimp only at e <;> first | cases e | skip
    exact ⟨sR_off h a k _, sR_wf w hv, by unfold ldF; rw [hc]; simp [gR_sR], L3 _, fun ads => ⟨rfl, rfl⟩⟩
  all_goals cases e
theorem ldF_ok {h : mH} (w : WfH h) (a ci k : Nat) : okV h.1.length (ldF h a ci k) := by
  unfold ldF
  split
  · exact w.1 a k
  · exact w.1 a k
  · exact w.2.1 a k
  · cases e : gR h a k with
    | none => trivial
    | some b => exact w.2.2.1 a k b e
theorem cell_obj {ads : List (Nat × Nat)} {h : mH} {a ci n : Nat} (e : kd h a = (ci, n)) (hc : ci < 100) : cellA ads h a = .inr (ci, (List.range n).map (fun j => rV ads (ldF h a ci j))) := by
  unfold cellA
  rw [e]
  rw [if_pos hc]
theorem cell_arr {ads : List (Nat × Nat)} {h : mH} {a t n : Nat} (e : kd h a = (t, n)) (hc : 100 ≤ t) : cellA ads h a = .inl (acl ads a, n, payA ads h a t) := by
  unfold cellA
  rw [e]
  rw [if_neg (by simp; omega)]
