def lvA (ads : List (Nat × Nat)) (L : List mV) : List (Nat × Value) := (List.range L.length).filterMap (fun i => match ld L i with
  | .inr (.inr none) => none
  | v => some (i, rV ads v))
def lrA (ads : List (Nat × Nat)) (ls : Array Slot) (L : List mV) : Prop := lv_has ls L.length (lvA ads L)
theorem lv_mem {ads : List (Nat × Nat)} {L : List mV} {i : Nat} (hi : i < L.length) (hn : ld L i ≠ vR none) : (i, rV ads (ld L i)) ∈ lvA ads L := by
  unfold lvA
  rw [List.mem_filterMap]
  refine ⟨i, List.mem_range.mpr hi, ?_⟩
  split
  next q => exact absurd q hn
  next v q => rfl
theorem lv_mem2 {ads : List (Nat × Nat)} {L : List mV} {q : Nat × Value} (h : q ∈ lvA ads L) : q.1 < L.length ∧ ld L q.1 ≠ vR none ∧ q.2 = rV ads (ld L q.1) := by
  unfold lvA at h
  rw [List.mem_filterMap] at h
  obtain ⟨i, hi, e⟩ := h
  split at e
  next => cases e
  next v hv => cases e; exact ⟨List.mem_range.mp hi, hv, rfl⟩
theorem lr_mk {ads : List (Nat × Nat)} {ls : Array Slot} {L : List mV} (h1 : ls.size = L.length) (h2 : lv_wf ls) (h3 : ∀ i, i < L.length → ld L i ≠ vR none → ls[i]? = some (.val (rV ads (ld L i)))) : lrA ads ls L :=
  ⟨h1, h2, fun q hq => by obtain ⟨a, b, d⟩ := lv_mem2 hq; rw [d]; exact h3 _ a b⟩
theorem ld_lt {L : List mV} {i : Nat} (h : ld L i ≠ vR none) : i < L.length := by
  by_cases q : i < L.length
  · exact q
  · exfalso
    apply h
    unfold ld
    rw [List.getD_eq_getElem?_getD, List.getElem?_eq_none (by omega)]
    rfl
theorem lr_get {ads : List (Nat × Nat)} {ls : Array Slot} {L : List mV} (h : lrA ads ls L) {i : Nat} {v : mV} (hv : ld L i = v) (hn : v ≠ vR none) : ls[i]? = some (.val (rV ads v)) := by
  subst hv
  exact h.2.2 _ (lv_mem (ld_lt hn) hn)
theorem lr_pre {a b : List (Nat × Nat)} {ls : Array Slot} {L : List mV} (hp : a <+: b) (hL : ∀ v ∈ L, okV a.length v) (h : lrA a ls L) : lrA b ls L := by
  refine lr_mk h.1 h.2.1 fun i hi hn => ?_
  rw [rV_pre hp (hL _ ?_)]
  · exact lr_get h rfl hn
  · unfold ld
    rw [List.getD_eq_getElem?_getD, List.getElem?_eq_getElem hi]
    exact List.getElem_mem hi
theorem ld_set {L : List mV} {i j : Nat} {v : mV} (hi : i < L.length) : ld (L.set i v) j = if j = i then v else ld L j := by
  unfold ld
  rw [List.getD_eq_getElem?_getD, List.getD_eq_getElem?_getD, List.getElem?_set]
  by_cases e : i = j
  · subst e
    simp [hi]
  · rw [if_neg e, if_neg (fun q => e q.symm)]
theorem kl_len (L : List mV) (i : Nat) : (kl L i).length = L.length := by
  unfold kl
  split
  · rfl
  · split
    · exact List.length_set
    · rfl
theorem kl_ld {L : List mV} {i j : Nat} (hn : ld (kl L i) j ≠ vR none) : ld (kl L i) j = ld L j ∧ ¬ (j + 1 = i ∧ catV (ld L j) = 2) := by
  unfold kl at hn ⊢
  split
  · exact ⟨rfl, fun q => by omega⟩
  · next k =>
    cases hk : ld L k with
    | inl x =>
      simp only [hk] at hn ⊢
      refine ⟨trivial, fun q => ?_⟩
      have : j = k := by omega
      subst this
      rw [hk] at q
      exact absurd q.2 (by show ¬ (1 = 2); decide)
    | inr w =>
      cases w with
      | inl x =>
        simp only [hk] at hn ⊢
        have hkl : k < L.length := ld_lt (by rw [hk]; intro q; cases q)
        rw [ld_set hkl] at hn ⊢
        by_cases e : j = k
        · rw [if_pos e] at hn
          exact absurd rfl hn
        · rw [if_neg e]
          exact ⟨rfl, fun q => e (by omega)⟩
      | inr r =>
        simp only [hk] at hn ⊢
        refine ⟨trivial, fun q => ?_⟩
        have : j = k := by omega
        subst this
        rw [hk] at q
        exact absurd q.2 (by show ¬ (1 = 2); decide)
theorem lr_s1 {ads : List (Nat × Nat)} {ls2 : Array Slot} {L : List mV} {i : Nat} {v : mV} (hi : i < L.length) (h : lv_has ls2 L.length ((i, rV ads v) :: (lvA ads L).filter (fun q => !(q.1 == i) && !(q.1 + 1 == i && q.2.category == 2)))) : lrA ads ls2 (s1 L i v) := by
  have hkl := kl_len L i
  refine lr_mk (by rw [h.1]; simp [s1, hkl]) h.2.1 fun j hj hn => ?_
  unfold s1 at hn ⊢
  rw [ld_set (by rw [hkl]; exact hi)] at hn ⊢
  by_cases e : j = i
  · rw [if_pos e]
    subst e
    exact h.2.2 _ List.mem_cons_self
  · rw [if_neg e] at hn ⊢
    obtain ⟨e1, e2⟩ := kl_ld hn
    rw [e1] at hn ⊢
    refine h.2.2 (j, rV ads (ld L j)) (List.mem_cons_of_mem _ (List.mem_filter.mpr ⟨lv_mem (ld_lt hn) hn, ?_⟩))
    simp only [rV_cat]
    by_cases c2 : catV (ld L j) = 2
    · have : j + 1 ≠ i := fun q => e2 ⟨q, c2⟩
      simp [e, this]
    · simp [e, c2]
theorem lr_s2 {ads : List (Nat × Nat)} {ls2 : Array Slot} {L : List mV} {i : Nat} {v : mV} (hi : i + 1 < L.length) (h : lv_has ls2 L.length ((i, rV ads v) :: (lvA ads L).filter (fun q => !(q.1 == i) && (!(q.1 == i + 1) && !(q.1 + 1 == i && q.2.category == 2))))) : lrA ads ls2 (s2 L i v) := by
  have hkl := kl_len L i
  refine lr_mk (by rw [h.1]; simp [s2, hkl]) h.2.1 fun j hj hn => ?_
  unfold s2 at hn ⊢
  rw [ld_set (by simp [hkl]; exact hi)] at hn ⊢
  by_cases e0 : j = i + 1
  · rw [if_pos e0] at hn
    exact absurd rfl hn
  · rw [if_neg e0] at hn ⊢
    rw [ld_set (by rw [hkl]; omega)] at hn ⊢
    by_cases e : j = i
    · rw [if_pos e]
      subst e
      exact h.2.2 _ List.mem_cons_self
    · rw [if_neg e] at hn ⊢
      obtain ⟨e1, e2⟩ := kl_ld hn
      rw [e1] at hn ⊢
      refine h.2.2 (j, rV ads (ld L j)) (List.mem_cons_of_mem _ (List.mem_filter.mpr ⟨lv_mem (ld_lt hn) hn, ?_⟩))
      simp only [rV_cat]
      by_cases c2 : catV (ld L j) = 2
      · have : j + 1 ≠ i := fun q => e2 ⟨q, c2⟩
        simp [e, e0, this]
      · simp [e, e0, c2]
theorem ok_ld {n : Nat} {L : List mV} (h : ∀ v ∈ L, okV n v) (i : Nat) : okV n (ld L i) := by
  unfold ld
  by_cases q : i < L.length
  · rw [List.getD_eq_getElem?_getD, List.getElem?_eq_getElem q]
    exact h _ (List.getElem_mem q)
  · rw [List.getD_eq_getElem?_getD, List.getElem?_eq_none (by omega)]
    trivial
theorem ok_set {n : Nat} {L : List mV} {i : Nat} {v : mV} (h : ∀ v ∈ L, okV n v) (hv : okV n v) : ∀ w ∈ L.set i v, okV n w := fun w hw => by
  rcases List.mem_or_eq_of_mem_set hw with q | q
  · exact h w q
  · rw [q]; exact hv
theorem ok_kl {n : Nat} {L : List mV} {i : Nat} (h : ∀ v ∈ L, okV n v) : ∀ w ∈ kl L i, okV n w := by
  unfold kl
  split
  · exact h
  · split
    · exact ok_set h trivial
    · exact h
theorem ok_s1 {n : Nat} {L : List mV} {i : Nat} {v : mV} (h : ∀ v ∈ L, okV n v) (hv : okV n v) : ∀ w ∈ s1 L i v, okV n w := ok_set (ok_kl h) hv
theorem ok_s2 {n : Nat} {L : List mV} {i : Nat} {v : mV} (h : ∀ v ∈ L, okV n v) (hv : okV n v) : ∀ w ∈ s2 L i v, okV n w := ok_set (ok_set (ok_kl h) hv) trivial
theorem ok_c {n : Nat} {v : mV} {st : List mV} (hv : okV n v) (h : ∀ v ∈ st, okV n v) : ∀ w ∈ v :: st, okV n w := fun w hw => by
  rcases List.mem_cons.mp hw with q | q
  · rw [q]; exact hv
  · exact h w q
theorem ok_t {n : Nat} {v : mV} {st : List mV} (h : ∀ w ∈ v :: st, okV n w) : ∀ w ∈ st, okV n w := fun w hw => h w (List.mem_cons_of_mem _ hw)
theorem ok_h {n : Nat} {v : mV} {st : List mV} (h : ∀ w ∈ v :: st, okV n w) : okV n v := h v List.mem_cons_self
def nestW : Jvm.Cond → Bool
  | .fieldLinkNest .. => true
  | .methodLinkNest .. => true
  | _ => false
def KN (U : State) : Prop := (∀ w ∈ lw_tbl, nestW w = true → va_Nw w U) ∧ va_AO RX2 U ∧ va_AO RX4 U ∧ va_AOA .int U
theorem KN.warm {s U : State} (hW : s.WarmedH U.vm) (h : KN s) : KN U := by
  refine ⟨fun w hw hn => ?_, h.2.1.moved hW.alike, h.2.2.1.moved hW.alike, h.2.2.2.moved hW.alike⟩
  have h1 := h.1 w hw hn
  cases w <;> first | exact va_Nw.warmF hW h1 | exact va_Nw.warmM hW h1 | exact absurd hn (by simp [nestW])
def gdW : List Jvm.Cond := lw_tbl.filter goodWord
def wsB (y : Nat) : List Jvm.Cond := .code (namB y) (codB y) (maxB y) (retB y) :: gdW
def InvA (dC : Nat → ClassId) (dI : Nat → Nat → Nat) (A : Nat → Prop) (H0 : Heap) (s : State) (ads0 : List (Nat × Nat)) (sh0 : List (Nat × Nat)) (ads : List (Nat × Nat)) (tys : List (ClassId × FieldType)) (h : mH) (H : Heap) (locs : List Loc) : Prop :=
  ads0 <+: ads ∧ sh0 <+: h.1 ∧ ads.length = h.1.length ∧ va_P (dC, dI) vwCl (wsA ads h) H ∧ va_D A (wsA ads h) ∧ va_K (dC, dI) vwCl tys s ∧ tyOK ads tys h ∧ va_S A H0 H locs ∧ WfH h
def slS (sh : List (Nat × Nat)) : Nat := (sh.map (·.2)).sum
def WI (p : Program) (l : Launch) (e : Env) (R : Room) (s : State) (m : MethodId) (args : Array Value) (below : List Frame) (meth : Method) (c : Code) (Q : State → Prop) (dC : Nat → ClassId) (dI : Nat → Nat → Nat) (A : Nat → Prop) (H0 : Heap) (ads0 : List (Nat × Nat)) (sh0 : List (Nat × Nat)) (k : mC) : Prop :=
  ∀ (ads : List (Nat × Nat)) (tys : List (ClassId × FieldType)) (H : Heap) (locs : List Loc) (ls : Array Slot), InvA dC dI A H0 s ads0 sh0 ads tys k.2.2.2 H locs → lrA ads ls k.2.1 → k.2.1.length = c.maxLocals → (∀ v ∈ k.2.1, okV k.2.2.2.1.length v) → (∀ v ∈ k.2.2.1, okV k.2.2.2.1.length v) →
    W p l e R s m args below meth c H locs (k.2.2.2.1.length - sh0.length) (slS k.2.2.2.1 - slS sh0) Q (F0 m k.1 ls (k.2.2.1.map (rV ads)))
