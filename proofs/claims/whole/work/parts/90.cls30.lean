theorem gOK_itm {X : List Int} {k p : Nat} {D : Dr} {q : Dr × Nat} (w : wfD D) (gk : gOK D) (hm : mayB D k = true) (h : itm X k p D = Sum.inr q) : gOK q.1 := by
  have fa := and_or4 (dF D) w.2.2.1
  unfold itm at h
  rcases mayB_k hm with ⟨e, n7⟩ | e | e | e | ⟨e, f4⟩
  · subst e
    rw [if_pos rfl] at h
    unfold itmC at h
    split at h
    · split at h
      · injection h with h; subst h; exact gk
      · cases h
    · cases h
  · subst e
    rw [if_neg (by omega), if_pos rfl] at h
    unfold itmQ at h
    split at h
    · split at h
      · injection h with h; subst h; exact gk
      · cases h
    · cases h
  · subst e
    rw [if_neg (by omega), if_neg (by omega), if_pos rfl] at h
    unfold itmD at h
    split at h
    · injection h with h
      subst h
      unfold gOK
      show (dF D ||| 1) &&& 4 = 0 ∨ 0 < tK (dT D)
      rw [fa.1]; exact gk
    · cases h
  · subst e
    rw [if_neg (by omega), if_neg (by omega), if_neg (by omega), if_pos rfl] at h
    unfold itmM at h
    split at h
    · injection h with h
      subst h
      unfold gOK
      show (dF D ||| 2) &&& 4 = 0 ∨ 0 < tK (dT D)
      rw [fa.2.1]; exact gk
    · cases h
  · subst e
    rw [if_neg (by omega), if_neg (by omega), if_neg (by omega), if_neg (by omega)] at h
    unfold itmG at h
    split at h
    next z =>
      injection h with h
      subst h
      exact Or.inr (gnd_pos (D := dGrd D) z (w.2.2.2.2.1 f4))
    · cases h
theorem gOK_full {X : List Int} {k p : Nat} {D : Dr} {q : Dr × Nat} (w : wfD D) (gk : gOK D) (hm : mayB D k = true) (h : full X (itm X k p D) = Sum.inr q) : gOK q.1 := by
  cases hi : itm X k p D with
  | inl e => rw [hi] at h; cases h
  | inr q0 =>
    rw [hi] at h
    have h : semi X q0.2 q0.1 = Sum.inr q := h
    unfold semi at h
    split at h
    · injection h with h
      subst h
      have := gOK_itm w gk hm hi
      exact this
    · cases h
theorem itR_e {X : List Int} (w : byX X) {p : Nat} {D : Dr} (hl : p ≤ X.length) {e : Nat} (h : itR X p D = Sum.inl e) : e ≤ X.length := by
  have tb := tk_b w hl
  unfold itR at h
  split at h
  · cases hi : itm X (kk (tk X p)) (kn (tk X p)) D with
    | inl e2 =>
      have := itm_e w tb.2.2.2.2.1 hi
      rw [hi] at h
      have h : (Sum.inl e2 : Nat ⊕ (Dr × Nat)) = Sum.inl e := h
      injection h with h
      omega
    | inr q0 =>
      rw [hi] at h
      have h : semi X q0.2 q0.1 = Sum.inl e := h
      unfold semi at h
      split at h
      · cases h
      · injection h with h
        have hq : q0.2 ≤ X.length := by
          have gb : ∀ (f p : Nat) (D : Dr), p ≤ X.length → (gnd X f p D).1 ≤ X.length := by
            intro f
            induction f with
            | zero => exact fun p D hp => hp
            | succ f ih =>
              intro p D hp
              have tb := tk_b w hp
              unfold gnd
              split
              next k5 hk5 =>
                split
                · exact ih (kn (tk X p)) (dCell D k5) tb.2.2.2.2.1
                · exact hp
              · exact hp
          have tb2 := tk_b w tb.2.2.2.2.1
          have tb3 := tk_b w tb2.2.2.2.2.1
          unfold itm at hi
          split at hi
          · unfold itmC at hi
            split at hi
            · split at hi
              · injection hi with hi; subst hi; exact tb3.2.2.2.2.1
              · cases hi
            · cases hi
          · split at hi
            · unfold itmQ at hi
              split at hi
              · split at hi
                · injection hi with hi; subst hi; exact tb3.2.2.2.2.1
                · cases hi
              · cases hi
            · split at hi
              · unfold itmD at hi
                split at hi
                · injection hi with hi; subst hi; exact tb2.2.2.2.2.1
                · cases hi
              · split at hi
                · unfold itmM at hi
                  split at hi
                  · injection hi with hi; subst hi; exact tb2.2.2.2.2.1
                  · cases hi
                · unfold itmG at hi
                  split at hi
                  · injection hi with hi; subst hi; exact gb 40 _ _ tb.2.2.2.2.1
                  · cases hi
        have tq := tk_b w hq
        omega
  · injection h with h
    omega
theorem wInto_loop (d : Nat) (X : List Int) : ∀ (f p n : Nat) (D : Dr) (h : mH) (L : LAY h), ctx h X → p ≤ X.length → ctk h (tk X p) → dC h D → wfD D → gOK D → X.length < p + f → n ≤ p → ∃ g, cpF' h g ∧ match prs X f p D n with
    | Sum.inl e => resA (callA (d + 6)) 38 (25, [Sum.inr (Sum.inr (some 1)), Sum.inr (Sum.inr (some 8)), Sum.inl (n : Int)], [], h) = some (some (Sum.inl (-10 - (e : Int))), g)
    | Sum.inr q => dC g q.1 ∧ wfD q.1 ∧ resA (callA (d + 6)) 38 (25, [Sum.inr (Sum.inr (some 1)), Sum.inr (Sum.inr (some 8)), Sum.inl (n : Int)], [], h) = some (some (Sum.inl (q.2 : Int)), g)
  | 0, p, n, D, h, L, t, hl, c, m, w, gk, hf, hn => absurd hl (by omega)
  | f + 1, p, n, D, h, L, t, hl, c, m, w, gk, hf, hn => by
    have L0 := L
    have tb := tk_b t.2.2.2 hl
    have X180 := t.2.2.1
    have kb := tk_kk t.2.2.2 p
    have c3 := c.2.2.1
    by_cases z3 : kk (tk X p) = 3
    · rw [z3] at c3
      have c3 : gI h 1 4 = 3 := c3
      refine ⟨h, cpF_rf h, ?_⟩
      rw [prs, if_pos z3]
      refine ⟨m, w, ?_⟩
      obtain ⟨k1, j1⟩ := lay_k L0 (a := 1) (t := 5) (n := 8) rfl
      simp (disch := (first | omega | (simp only [kd_sI, kd_sL, kd_sR, kd_cp, kd_aI]; omega) | (unfold catV; exact rfl) | (unfold catS; exact Nat.le_of_ble_eq_true rfl) | assumption)) only [q_38_0, q_38_1, q_38_4, q_38_5, q_38_6, q_38_9, q_38_10, q_38_11, q_38_14, q_38_15, q_38_16, q_38_19, q_38_20, q_38_21, q_38_22, q_38_25, q_38_26, q_38_29, q_38_30_t, q_38_30_f, q_38_33, q_38_34, q_38_37_t, q_38_37_f, q_38_40, q_38_41, q_38_42, q_38_45_t, q_38_45_f, q_38_48, q_38_50, q_38_51, q_38_54, q_38_55, q_38_56, q_38_59, q_38_60, q_38_63, q_38_66, q_38_67, aft_i, aft_l, aft_v, Int.toNat_natCast, kd_sI, kd_sL, kd_sR, kd_cp, gI_sL, gI_sR, gL_sI, gL_sR, gR_sI, gR_sL, gL_cp, gR_cp, kd_aI, gL_aI, gR_aI, gI_aI, gI_aIn, sI_aI, gI_sIn, Int.reduceToNat, Int.reduceAdd, Int.reduceSub, Int.reduceMul, Int.reduceNeg, Int.zero_add, c3]
    · have c9 : gI h 1 4 ≠ 3 := by rw [c3]; split <;> omega
      have pl := tb.2.2.2.2.2 z3
      obtain ⟨g1, e1, q1, r1⟩ := wItem_ok d h L X p D t hl c m w gk
      have L1 := cpF_L q1 L
      obtain ⟨a1, a2⟩ := lay_k L1 (a := 1) (t := 5) (n := 8) rfl
      rw [prs, if_neg z3]
      cases hi : itR X p D with
      | inl e =>
        have eb := itR_e t.2.2.2 hl hi
        rw [hi] at e1 r1
        have e1 : callA (d + 6) 39 [Sum.inr (Sum.inr (some 1)), Sum.inr (Sum.inr (some 8))] h = some (some (Sum.inl 0), g1) := e1
        have r1 : gI g1 1 3 = (e : Int) := r1
        have fin : resA (callA (d + 6)) 38 (25, [Sum.inr (Sum.inr (some 1)), Sum.inr (Sum.inr (some 8)), Sum.inl (n : Int)], [], h) = some (some (Sum.inl (-10 - (e : Int))), g1) := by
          obtain ⟨k1, j1⟩ := lay_k L0 (a := 1) (t := 5) (n := 8) rfl
          rw [q_38_25]
          simp (disch := (first | omega | (simp only [kd_sI, kd_sL, kd_sR, kd_cp, kd_aI]; omega) | (unfold catV; exact rfl) | (unfold catS; exact Nat.le_of_ble_eq_true rfl) | assumption)) only [q_38_0, q_38_1, q_38_4, q_38_5, q_38_6, q_38_9, q_38_10, q_38_11, q_38_14, q_38_15, q_38_16, q_38_19, q_38_20, q_38_21, q_38_22, q_38_26, q_38_29, q_38_30_t, q_38_30_f, q_38_33, q_38_34, q_38_37_t, q_38_37_f, q_38_40, q_38_41, q_38_42, q_38_45_t, q_38_45_f, q_38_48, q_38_50, q_38_51, q_38_54, q_38_55, q_38_56, q_38_59, q_38_60, q_38_63, q_38_66, q_38_67, aft_i, aft_l, aft_v, Int.toNat_natCast, kd_sI, kd_sL, kd_sR, kd_cp, gI_sL, gI_sR, gL_sI, gL_sR, gR_sI, gR_sL, gL_cp, gR_cp, kd_aI, gL_aI, gR_aI, gI_aI, gI_aIn, sI_aI, gI_sIn, Int.reduceToNat, Int.reduceAdd, Int.reduceSub, Int.reduceMul, Int.reduceNeg, Int.zero_add, c9, e1, r1]
        refine ⟨g1, q1, ?_⟩
        unfold itR at hi
        by_cases hm : mayB D (kk (tk X p)) = true
        · rw [if_pos hm] at hi
          rw [if_pos hm, hi]
          exact fin
        · rw [if_neg hm] at hi
          rw [if_neg hm]
          injection hi with hi
          subst hi
          exact fin
      | inr q =>
        rw [hi] at e1 r1
        have e1 : callA (d + 6) 39 [Sum.inr (Sum.inr (some 1)), Sum.inr (Sum.inr (some 8))] h = some (some (Sum.inl 1), g1) := e1
        obtain ⟨b1, x2, d1⟩ := r1
        obtain ⟨g2, e2, s2, c2⟩ := wTok_ok (d + 3) g1 L1 X (cpF_tx q1 t) q.2 x2 b1
        have q2 := cpF_tr q1 (cst_cp s2)
        have L2 := cpF_L q2 L
        have hm : mayB D (kk (tk X p)) = true := by
          unfold itR at hi
          split at hi
          next hm => exact hm
          next hm => cases hi
        have hf2 : full X (itm X (kk (tk X p)) (kn (tk X p)) D) = Sum.inr q := by
          unfold itR at hi
          rw [if_pos hm] at hi
          exact hi
        have fb := full_b t.2.2.2 tb.2.2.2.2.1 hf2
        rw [if_pos hm, hf2]
        obtain ⟨g3, q3, r3⟩ := wInto_loop d X f q.2 (n + 1) q.1 g2 L2 (cpF_tx q2 t) b1 c2 (cst_dC s2 d1) (full_wf w hm hf2) (gOK_full w gk hm hf2) (by omega) (by omega)
        refine ⟨g3, cpF_tr q2 q3, ?_⟩
        have eh : resA (callA (d + 6)) 38 (25, [Sum.inr (Sum.inr (some 1)), Sum.inr (Sum.inr (some 8)), Sum.inl (n : Int)], [], h) = resA (callA (d + 6)) 38 (25, [Sum.inr (Sum.inr (some 1)), Sum.inr (Sum.inr (some 8)), Sum.inl ((n : Int) + 1)], [], g2) := by
          obtain ⟨k1, j1⟩ := lay_k L0 (a := 1) (t := 5) (n := 8) rfl
          rw [q_38_25]
          simp (disch := (first | omega | (simp only [kd_sI, kd_sL, kd_sR, kd_cp, kd_aI]; omega) | (unfold catV; exact rfl) | (unfold catS; exact Nat.le_of_ble_eq_true rfl) | assumption)) only [q_38_0, q_38_1, q_38_4, q_38_5, q_38_6, q_38_9, q_38_10, q_38_11, q_38_14, q_38_15, q_38_16, q_38_19, q_38_20, q_38_21, q_38_22, q_38_26, q_38_29, q_38_30_t, q_38_30_f, q_38_33, q_38_34, q_38_37_t, q_38_37_f, q_38_40, q_38_41, q_38_42, q_38_45_t, q_38_45_f, q_38_48, q_38_50, q_38_51, q_38_54, q_38_55, q_38_56, q_38_59, q_38_60, q_38_63, q_38_66, q_38_67, aft_i, aft_l, aft_v, Int.toNat_natCast, kd_sI, kd_sL, kd_sR, kd_cp, gI_sL, gI_sR, gL_sI, gL_sR, gR_sI, gR_sL, gL_cp, gR_cp, kd_aI, gL_aI, gR_aI, gI_aI, gI_aIn, sI_aI, gI_sIn, Int.reduceToNat, Int.reduceAdd, Int.reduceSub, Int.reduceMul, Int.reduceNeg, Int.zero_add, c9, e1, e2]
        rw [eh]
        exact r3
