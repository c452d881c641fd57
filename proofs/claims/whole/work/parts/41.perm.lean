/-- a row as a number: the order by numbers -/
def lexV : List Nat → Nat
  | [] => 0
  | a :: t => a * 8 ^ t.length + lexV t
theorem lexV_lt : ∀ {l : List Nat}, (∀ x, x ∈ l → x < 8) → lexV l < 8 ^ l.length
  | [], _ => Nat.one_pos
  | a :: t, h => by
    have ih := lexV_lt (l := t) (fun x hx => h x (List.mem_cons_of_mem _ hx))
    have ha := h a List.mem_cons_self
    rw [lexV, List.length_cons, Nat.pow_succ]
    have := Nat.mul_le_mul_right (8 ^ t.length) (show a + 1 ≤ 8 by omega)
    rw [Nat.succ_mul] at this
    omega
theorem lexV_c {a b : Nat} {t s : List Nat} (h : a < b) (e : t.length = s.length) (ht : ∀ x, x ∈ t → x < 8) : lexV (a :: t) < lexV (b :: s) := by
  have l1 := lexV_lt ht
  rw [lexV, lexV, ← e]
  have := Nat.mul_le_mul_right (8 ^ t.length) (show a + 1 ≤ b from h)
  rw [Nat.succ_mul] at this
  omega
theorem lexV_e {a : Nat} {t s : List Nat} (e : t.length = s.length) : (lexV (a :: t) ≤ lexV (a :: s) ↔ lexV t ≤ lexV s) ∧ (lexV (a :: t) < lexV (a :: s) ↔ lexV t < lexV s) := by
  rw [lexV, lexV, e]
  omega
abbrev Desc (l : List Nat) : Prop := l.Pairwise (fun a b => b < a)
abbrev Asc (l : List Nat) : Prop := l.Pairwise (fun a b => a < b)
abbrev b8 (l : List Nat) : Prop := ∀ x, x ∈ l → x < 8
theorem b8_p {l q : List Nat} (p : q.Perm l) (h : b8 l) : b8 q := fun x hx => h x (p.mem_iff.mp hx)
theorem b8_t {a : Nat} {t : List Nat} (h : b8 (a :: t)) : b8 t := fun x hx => h x (List.mem_cons_of_mem _ hx)
theorem desc_top : ∀ {l : List Nat}, b8 l → Desc l → ∀ q : List Nat, q.Perm l → lexV q ≤ lexV l
  | [], _, _, q, p => by rw [List.perm_nil.mp p]; exact Nat.le_refl _
  | a :: t, hb, hd, [], p => absurd (List.nil_perm.mp p) (by simp)
  | a :: t, hb, hd, b :: s, p => by
    have hd := List.pairwise_cons.mp hd
    have lq := p.length_eq
    simp only [List.length_cons] at lq
    have hm : b ∈ a :: t := p.mem_iff.mp List.mem_cons_self
    rcases List.mem_cons.mp hm with e | e
    · subst e
      exact (lexV_e (by omega)).1.mpr (desc_top (b8_t hb) hd.2 s (List.perm_cons b |>.mp p))
    · exact Nat.le_of_lt (lexV_c (hd.1 b e) (by omega) (b8_t (b8_p p hb)))
theorem asc_bot : ∀ {l : List Nat}, b8 l → Asc l → ∀ q : List Nat, q.Perm l → lexV l ≤ lexV q
  | [], _, _, q, p => by rw [List.perm_nil.mp p]; exact Nat.le_refl _
  | a :: t, hb, hd, [], p => absurd (List.nil_perm.mp p) (by simp)
  | a :: t, hb, hd, b :: s, p => by
    have hd := List.pairwise_cons.mp hd
    have lq := p.length_eq
    simp only [List.length_cons] at lq
    have hm : b ∈ a :: t := p.mem_iff.mp List.mem_cons_self
    rcases List.mem_cons.mp hm with e | e
    · subst e
      exact (lexV_e (by omega)).1.mpr (asc_bot (b8_t hb) hd.2 s (List.perm_cons b |>.mp p))
    · exact Nat.le_of_lt (lexV_c (hd.1 b e) (by omega) (b8_t hb))
theorem nxt_p (x y : Nat) (s1 s2 : List Nat) : (y :: (s1 ++ x :: s2).reverse).Perm (x :: (s1 ++ y :: s2)) := by
  have a : (y :: (s1 ++ x :: s2).reverse).Perm (y :: (s1 ++ x :: s2)) := (List.reverse_perm _).cons y
  have b : (y :: (s1 ++ x :: s2)).Perm (y :: x :: (s1 ++ s2)) := List.perm_middle.cons y
  have c : (y :: x :: (s1 ++ s2)).Perm (x :: y :: (s1 ++ s2)) := List.Perm.swap x y _
  have e : (x :: y :: (s1 ++ s2)).Perm (x :: (s1 ++ y :: s2)) := (List.perm_middle.symm).cons x
  exact a.trans (b.trans (c.trans e))
def NX (l l2 : List Nat) : Prop := l2.Perm l ∧ lexV l < lexV l2 ∧ ∀ q : List Nat, q.Perm l → lexV l < lexV q → lexV l2 ≤ lexV q
theorem nxt_ok {x y : Nat} {s1 s2 : List Nat} (hd : Desc (s1 ++ y :: s2)) (hy : x < y) (h2 : ∀ z, z ∈ s2 → z < x) (hb : b8 (x :: (s1 ++ y :: s2))) : NX (x :: (s1 ++ y :: s2)) (y :: (s1 ++ x :: s2).reverse) := by
  obtain ⟨d1, d2, d3⟩ := List.pairwise_append.mp hd
  have d4 := List.pairwise_cons.mp d2
  have hb2 := b8_p (nxt_p x y s1 s2) hb
  have ll : (s1 ++ y :: s2).length = (s1 ++ x :: s2).reverse.length := by simp only [List.length_append, List.length_cons, List.length_reverse]
  refine ⟨nxt_p x y s1 s2, lexV_c hy ll (b8_t hb), fun q p hq => ?_⟩
  cases q with
  | nil => exact absurd (List.nil_perm.mp p) (by simp)
  | cons b s =>
    have lq := p.length_eq
    simp only [List.length_cons] at lq
    have hbs := b8_p p hb
    have hm : b ∈ x :: (s1 ++ y :: s2) := p.mem_iff.mp List.mem_cons_self
    have contra : b < x → lexV (y :: (s1 ++ x :: s2).reverse) ≤ lexV (b :: s) := fun z => absurd (lexV_c z (t := s) (s := s1 ++ y :: s2) (by omega) (b8_t hbs)) (Nat.not_lt.mpr (Nat.le_of_lt hq))
    rcases List.mem_cons.mp hm with e | e
    · subst e
      have := desc_top (b8_t hb) hd s (List.perm_cons b |>.mp p)
      have := (lexV_e (a := b) (t := s1 ++ y :: s2) (s := s) (by omega)).2.mp hq
      omega
    · rcases List.mem_append.mp e with e | e
      · have := d3 b e y List.mem_cons_self
        exact Nat.le_of_lt (lexV_c this (by omega) (b8_t hb2))
      · rcases List.mem_cons.mp e with e | e
        · subst e
          refine (lexV_e (by omega)).1.mpr ?_
          have p2 : s.Perm (s1 ++ x :: s2) := by
            have := p.trans (nxt_p x b s1 s2).symm
            exact (List.perm_cons b |>.mp this).trans (List.reverse_perm _)
          refine asc_bot (b8_t hb2) ?_ s (p2.trans (List.reverse_perm _).symm)
          rw [Asc, List.pairwise_reverse]
          refine List.pairwise_append.mpr ⟨d1, List.pairwise_cons.mpr ⟨fun z hz => h2 z hz, d4.2⟩, fun u hu v hv => ?_⟩
          rcases List.mem_cons.mp hv with f | f
          · subst f
            have := d3 u hu b List.mem_cons_self
            omega
          · have := d3 u hu v (List.mem_cons_of_mem _ f)
            exact this
        · exact contra (h2 b e)
theorem nxt_pre {l l2 : List Nat} (h : NX l l2) : ∀ (p : List Nat), b8 (p ++ l) → NX (p ++ l) (p ++ l2)
  | [], _ => h
  | a :: p, hb => by
    have ih := nxt_pre h p (b8_t hb)
    have le := ih.1.length_eq
    show NX (a :: (p ++ l)) (a :: (p ++ l2))
    refine ⟨ih.1.cons a, (lexV_e (by omega)).2.mpr ih.2.1, fun q pq hq => ?_⟩
    cases q with
    | nil => exact absurd (List.nil_perm.mp pq) (by simp)
    | cons b s =>
      have lq := pq.length_eq
      simp only [List.cons_append, List.length_cons] at lq
      by_cases z : b = a
      · subst z
        exact (lexV_e (by omega)).1.mpr (ih.2.2 s (List.perm_cons b |>.mp pq) ((lexV_e (by omega)).2.mp hq))
      · by_cases y : b < a
        · have := lexV_c y (t := s) (s := p ++ l) (by omega) (b8_t (b8_p pq hb))
          exact absurd hq (Nat.not_lt.mpr (Nat.le_of_lt this))
        · refine Nat.le_of_lt (lexV_c (show a < b by omega) (by omega) ?_)
          exact b8_p ih.1 (b8_t hb)
theorem desc_split : ∀ {l : List Nat}, l.Nodup → Desc l ∨ ∃ p x s, l = p ++ x :: s ∧ Desc s ∧ ∃ y t, s = y :: t ∧ x < y
  | [], _ => Or.inl List.Pairwise.nil
  | a :: t, hn => by
    have hn := List.nodup_cons.mp hn
    rcases desc_split hn.2 with h | ⟨p, x, s, e, h⟩
    · cases t with
      | nil => exact Or.inl (List.pairwise_singleton _ _)
      | cons b t =>
        by_cases z : a < b
        · exact Or.inr ⟨[], a, b :: t, rfl, h, b, t, rfl, z⟩
        · have ne : a ≠ b := fun y => hn.1 (by rw [y]; exact List.mem_cons_self)
          refine Or.inl (List.pairwise_cons.mpr ⟨fun c hc => ?_, h⟩)
          rcases List.mem_cons.mp hc with f | f
          · omega
          · have := (List.pairwise_cons.mp h).1 c f
            omega
    · exact Or.inr ⟨a :: p, x, s, by rw [e]; rfl, h⟩
theorem last_gt : ∀ {s : List Nat} {x : Nat}, Desc s → (∃ y t, s = y :: t ∧ x < y) → ¬ x ∈ s → ∃ s1 y s2, s = s1 ++ y :: s2 ∧ x < y ∧ ∀ z, z ∈ s2 → z < x
  | [], x, _, ⟨y, t, e, _⟩, _ => by cases e
  | a :: s, x, hd, ⟨y, t, e, hy⟩, hx => by
    injection e with e1 e2
    subst e1
    have hd2 := List.pairwise_cons.mp hd
    cases s with
    | nil => exact ⟨[], a, [], rfl, hy, fun z hz => absurd hz (by simp)⟩
    | cons b s =>
      by_cases z : x < b
      · obtain ⟨s1, y2, s2, e3, h3⟩ := last_gt hd2.2 ⟨b, s, rfl, z⟩ (fun m => hx (List.mem_cons_of_mem _ m))
        exact ⟨a :: s1, y2, s2, by rw [e3]; rfl, h3⟩
      · refine ⟨[], a, b :: s, rfl, hy, fun c hc => ?_⟩
        have ne : x ≠ b := fun y => hx (by rw [y]; exact List.mem_cons_of_mem _ List.mem_cons_self)
        rcases List.mem_cons.mp hc with f | f
        · omega
        · have := (List.pairwise_cons.mp hd2.2).1 c f
          omega
