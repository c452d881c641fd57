theorem p_soo {h : mH} {σ : Sg} (r : RR h σ) (hh i : Int) : pst Sum.inl 40 82 182 [Sum.inl hh, Sum.inl i] h := by
  have e := cSoon_ok 36 h r.1 _ _ r.2.1.1 r.2.1.2.1.1 (CI_q r.2.2.1) hh i
  refine pst_mk r (cOK_s r.1 r.2.2.1 e) (fun g L M => ?_) r.2.1
  obtain ⟨b3, g2, c1, c2, c3⟩ := mSoon_ok 37 g L _ _ r.2.1.1 r.2.1.2.1.1 M.1 (MI_now M) hh i
  refine mOK_q L r.2.1 M ⟨g2, ?_, c3⟩
  rw [c2]
  by_cases z : 1 ≤ hh
  · rw [isBest_un (b8_nl r.2.1.1) c1 (soon_best r.2.1.1 z)]
  · unfold sooA
    rw [if_neg (fun u => z u.1.1), if_neg (fun u => z u.1.1)]
theorem wfS_up {σ : Sg} (w : wfS σ) {X : List Int} {S : List (Nat × Nat)} {R : Int} (h1 : S.length ≤ 6) (h2 : ∀ e, e ∈ S → e.1 < tN (zT σ) ∧ e.2 < tN (zT σ)) (h3 : X.length ≤ 180) (h4 : ∀ x, x ∈ X → 0 ≤ x ∧ x ≤ 255) : wfS (zup σ X S R) := ⟨w.1, w.2.1, w.2.2.1, h1, h2, h3, h4, w.2.2.2.2.2.2.2⟩
theorem p_clr {h : mH} {σ : Sg} (r : RR h σ) : pst Sum.inl 40 62 125 [] h := pst_mk r (cClr_ok 38 h r.1 σ r.2.2.1) (fun g L M => mClr_ok 39 g L σ M) (wfS_up r.2.1 r.2.1.2.2.2.1 r.2.1.2.2.2.2.1 (Nat.zero_le _) (fun x hx => by cases hx))
theorem p_for {h : mH} {σ : Sg} (r : RR h σ) : pst Sum.inl 40 84 184 [] h := pst_mk r (cFor_ok 39 h r.1 σ r.2.2.1) (fun g L M => mFor_ok 39 g L σ M) (wfS_up r.2.1 (Nat.zero_le _) (fun x hx => by cases hx) r.2.1.2.2.2.2.2.1 r.2.1.2.2.2.2.2.2.1)
theorem p_typ {h : mH} {σ : Sg} (r : RR h σ) (c : Int) : pst Sum.inl 40 61 124 [Sum.inl c] h := pst_mk r (cTyp_ok 38 h r.1 σ r.2.1 r.2.2.1 c) (fun g L M => mTyp_ok 38 g L σ r.2.1 M c) (by
  have x1 := r.2.1.2.2.2.2.2.1
  have x2 := r.2.1.2.2.2.2.2.2.1
  have key : (typS σ c).2.length ≤ 180 ∧ ∀ x, x ∈ (typS σ c).2 → 0 ≤ x ∧ x ≤ 255 := by
    unfold typS
    by_cases z : 0 ≤ c ∧ c ≤ 255
    · rw [if_pos z]
      by_cases y : (zX σ).length = 180
      · rw [if_pos y]; exact ⟨x1, x2⟩
      · rw [if_neg y]
        refine ⟨?_, fun x hx => ?_⟩
        · show (zX σ ++ [c]).length ≤ 180
          rw [List.length_append]
          show (zX σ).length + 1 ≤ 180
          omega
        · rcases List.mem_append.mp hx with u | u
          · exact x2 x u
          · rw [List.mem_singleton.mp u]; exact z
    · rw [if_neg z]; exact ⟨x1, x2⟩
  exact wfS_up r.2.1 r.2.1.2.2.2.1 r.2.1.2.2.2.2.1 key.1 key.2)
theorem p_saw {h : mH} {σ : Sg} (r : RR h σ) (a b : Int) : pst Sum.inl 40 83 183 [Sum.inl a, Sum.inl b] h := pst_mk r (cSaw_ok 37 h r.1 σ r.2.1 r.2.2.1 a b) (fun g L M => mSaw_ok 37 g L σ r.2.1 M a b) (by
  have x1 := r.2.1.2.2.2.1
  have x2 := r.2.1.2.2.2.2.1
  have key : (sawS σ a b).2.length ≤ 6 ∧ ∀ e, e ∈ (sawS σ a b).2 → e.1 < tN (zT σ) ∧ e.2 < tN (zT σ) := by
    unfold sawS
    by_cases z : (0 ≤ a ∧ a < tN (zT σ)) ∧ (0 ≤ b ∧ b < tN (zT σ)) ∧ a ≠ b
    · rw [if_pos z]
      by_cases y : (zS σ).length = 6
      · rw [if_pos y]; exact ⟨x1, x2⟩
      · rw [if_neg y]
        refine ⟨?_, fun x hx => ?_⟩
        · show (zS σ ++ [(a.toNat, b.toNat)]).length ≤ 6
          rw [List.length_append]
          show (zS σ).length + 1 ≤ 6
          omega
        · rcases List.mem_append.mp hx with u | u
          · exact x2 x u
          · rw [List.mem_singleton.mp u]
            show a.toNat < _ ∧ b.toNat < _
            omega
    · rw [if_neg z]; exact ⟨x1, x2⟩
  exact wfS_up r.2.1 key.1 key.2 r.2.1.2.2.2.2.2.1 r.2.1.2.2.2.2.2.2.1)
theorem p_mar {h : mH} {σ : Sg} (r : RR h σ) (k c : Int) : pst Sum.inl 40 87 188 [Sum.inl k, Sum.inl c] h := by
  have e := cMark_ok 35 h r.1 _ _ r.2.1.1 r.2.1.2.1.1 (CI_q r.2.2.1) k c
  have x := r.2.2.1.1.2.2.2.2.2.2.2.1
  rw [x] at e
  have cc : CI (sL h 0 14 (marS (zT σ) (zN σ) k c (zR σ)).2) (zup σ (zX σ) (zS σ) (marS (zT σ) (zN σ) k c (zR σ)).2) := CI_up r.2.2.1 rfl rfl (fun _ _ _ _ _ _ _ => rfl) (fun q k n => by
    rw [gL_sL, if_neg n]) r.2.2.1.1.2.2.2.1 r.2.2.1.1.2.2.2.2.1 r.2.2.1.1.2.2.2.2.2.1 r.2.2.1.1.2.2.2.2.2.2.1 (by rw [gL_sL, if_pos ⟨rfl, rfl⟩])
  have fr : frm 0 141 h (sL h 0 14 (marS (zT σ) (zN σ) k c (zR σ)).2) := ⟨rfl, fun q n => ⟨rfl, funext (fun k => by rw [gL_sL, if_neg (by omega)]), rfl⟩⟩
  exact pst_mk r ⟨_, e, fr, r.1, cc⟩ (fun g L M => mMark_ok 34 g L σ r.2.1 M k c) (wfS_up r.2.1 r.2.1.2.2.2.1 r.2.1.2.2.2.2.1 r.2.1.2.2.2.2.2.1 r.2.1.2.2.2.2.2.2.1)
theorem p_kee {h : mH} {σ : Sg} (r : RR h σ) (i : Int) : pst Sum.inl 40 88 189 [Sum.inl i] h := pst_mk r (cKeep_ok 37 h r.1 σ r.2.1 r.2.2.1 i) (fun g L M => mKeep_ok 38 g L σ r.2.1 M i) (by
  have w := r.2.1
  unfold keeS
  by_cases z : 0 ≤ i ∧ i ≤ 1
  · rw [if_pos z]
    refine ⟨w.1, w.2.1, fun j N P hj e => ?_, w.2.2.2.1, w.2.2.2.2.1, w.2.2.2.2.2.1, w.2.2.2.2.2.2.1, w.2.2.2.2.2.2.2⟩
    by_cases y : j = i.toNat
    · have e2 : upM (zI σ) i.toNat (some (zN σ, zP σ)) j = some (N, P) := e
      unfold upM at e2
      rw [if_pos y] at e2
      cases e2
      exact ⟨w.2.1, w.2.2.2.2.2.2.2⟩
    · have e2 : upM (zI σ) i.toNat (some (zN σ, zP σ)) j = some (N, P) := e
      unfold upM at e2
      rw [if_neg y] at e2
      exact w.2.2.1 j N P hj e2
  · rw [if_neg z]; exact w)
theorem p_bac {h : mH} {σ : Sg} (r : RR h σ) (i : Int) : pst Sum.inl 40 89 190 [Sum.inl i] h := pst_mk r (cBack_ok 36 h r.1 σ r.2.1 r.2.2.1 i) (fun g L M => mBack_ok 38 g L σ r.2.1 M i) (by
  have w := r.2.1
  unfold bacS
  by_cases z : 0 ≤ i ∧ i ≤ 1
  · rw [if_pos z]
    cases q : zI σ i.toNat with
    | none => exact w
    | some x =>
      have := w.2.2.1 i.toNat x.1 x.2 (by omega) q
      exact wfS_ev w this.1 this.2
  · rw [if_neg z]; exact w)
theorem prs_wf {X : List Int} : ∀ (f p : Nat) (D : Dr) (n : Nat) (q : Dr × Nat), wfD D → prs X f p D n = Sum.inr q → wfD q.1
  | 0, p, D, n, q, w, h => by
    injection h with h
    rw [← h]
    exact w
  | f + 1, p, D, n, q, w, h => by
    have e : prs X (f + 1) p D n = if kk (tk X p) = 3 then Sum.inr (D, n) else if mayB D (kk (tk X p)) = true then (match full X (itm X (kk (tk X p)) (kn (tk X p)) D) with
      | Sum.inl e => Sum.inl e
      | Sum.inr q => prs X f q.2 q.1 (n + 1)) else Sum.inl (ks (tk X p)) := rfl
    rw [e] at h
    by_cases z : kk (tk X p) = 3
    · rw [if_pos z] at h
      injection h with h
      rw [← h]
      exact w
    · rw [if_neg z] at h
      by_cases y : mayB D (kk (tk X p)) = true
      · rw [if_pos y] at h
        cases u : full X (itm X (kk (tk X p)) (kn (tk X p)) D) with
        | inl e => rw [u] at h; cases h
        | inr x =>
          rw [u] at h
          exact prs_wf f x.2 x.1 (n + 1) q (full_wf w y u) h
      · rw [if_neg y] at h; cases h
theorem p_twn {h : mH} {σ : Sg} (r : RR h σ) : pst Sum.inl 40 63 136 [] h := pst_mk r (cTown_ok 32 h r.1 σ r.2.1 r.2.2.1) (fun g L M => mTown_ok 34 g L σ r.2.1 M) (by
  have w := r.2.1
  unfold townS
  cases q : prs (zX σ) ((zX σ).length + 1) 0 dNew 0 with
  | inl e => exact w
  | inr x => exact twn_wf (prs_wf _ _ _ _ _ new_wf q))
