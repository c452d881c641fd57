theorem scA_cg {h g : mH} {b : Nat} {π : Nat → Nat} {T : Td} {N : Nt} {P : List Nt} (e1 : ∀ q k, b ≤ q → q ≤ b + 34 → gI g q k = gI h q k) (e2 : ∀ q k, b ≤ q → q ≤ b + 34 → gL g q k = gL h q k) (e3 : ∀ k, gR g (b + 4) k = gR h (b + 4) k) (m : scA h b π T N P) : scA g b π T N P := by
  obtain ⟨m1, m2, m3, m4, m5⟩ := m
  refine ⟨⟨fun i hi => ⟨(m1.1 i hi).1, by rw [e3]; exact (m1.1 i hi).2⟩, m1.2⟩, ntA_cg (fun q k x y => e1 q k (by omega) (by omega)) (e2 _ 4 (by omega) (by omega)) m2, ?_, m4, fun j q => ?_⟩
  · rw [e1 b 2 (by omega) (by omega)]; exact m3
  · have := (m1.1 j (by omega)).1
    exact ntA_cg (fun q k x y => e1 q k (by omega) (by omega)) (e2 _ 4 (by omega) (by omega)) (m5 j q)
theorem lv_cT {h g : mH} (a : lvF h g) {T : Td} (m : cT h T) : cT g T := by
  obtain ⟨m1, m2, m3, m4, m5, m6⟩ := m
  refine ⟨?_, ?_, ?_, ?_, fun c hc => ?_, fun k hk => ?_⟩
  · rw [a.2.1 3 4 (by omega) (by omega)]; exact m1
  · rw [a.2.1 3 5 (by omega) (by omega)]; exact m2
  · rw [a.2.1 3 6 (by omega) (by omega)]; exact m3
  · rw [a.2.1 3 7 (by omega) (by omega)]; exact m4
  · rw [a.2.1 5 c (by omega) (by omega), a.2.1 6 c (by omega) (by omega)]; exact m5 c hc
  · rw [a.2.1 7 k (by omega) (by omega)]; exact m6 k hk
theorem lv_CI0 {h g : mH} (a : lvF h g) {σ : Sg} {N : Nt} {P : List Nt} {π : Nat → Nat} (m : CI0 h σ) (s : scA g 13 π (zT σ) N P) : CI0 g (zev σ N P) := by
  obtain ⟨m1, -, m3, m4, m5, m6, m7, m8⟩ := m
  refine ⟨lv_cT a m1, ⟨π, s⟩, fun i hi => ?_, ?_, fun k q => ?_, ?_, fun k q => ?_, ?_⟩
  · obtain ⟨⟨ρ, a1⟩, a2, a3⟩ := m3 i hi
    refine ⟨⟨ρ, fun j hj => ⟨(a1.1 j hj).1, by rw [a.2.2.2 _ j (by omega)]; exact (a1.1 j hj).2⟩, a1.2⟩, ?_, fun N P e => ?_⟩
    · rw [a.2.1 _ 3 (by omega) (by omega)]; exact a2
    · obtain ⟨ρ, x⟩ := a3 N P e
      exact ⟨ρ, scA_cg (fun q k y1 y2 => a.2.1 q k (by omega) (by omega)) (fun q k y1 y2 => a.2.2.1 q k (by omega)) (fun k => a.2.2.2 _ k (by omega)) x⟩
  · rw [a.2.1 0 13 (by omega) (by omega)]; exact m4
  · rw [a.2.1 137 k (by omega) (by omega), a.2.1 138 k (by omega) (by omega)]; exact m5 k q
  · rw [a.2.1 1 1 (by omega) (by omega)]; exact m6
  · rw [a.2.1 2 k (by omega) (by omega)]; exact m7 k q
  · rw [a.2.2.1 0 14 (by omega)]; exact ⟨m8.1, by unfold brR; rw [a.2.2.2 133 1 (by omega), a.2.2.2 133 2 (by omega)]; exact m8.2⟩
theorem lvF_frm {h g : mH} (a : lvF h g) : frm 0 141 h g := ⟨a.1, fun q hq => ⟨funext fun k => a.2.1 q k (by omega) (by omega), funext fun k => a.2.2.1 q k (by omega), funext fun k => a.2.2.2 q k (by omega)⟩⟩
theorem wfS_ev {σ : Sg} (w : wfS σ) {N : Nt} {P : List Nt} (w2 : wfW (zT σ) N P) (l : P.length ≤ 10) : wfS (zev σ N P) := ⟨w.1, w2, w.2.2.1, w.2.2.2.1, w.2.2.2.2.1, w.2.2.2.2.2.1, w.2.2.2.2.2.2.1, l⟩
theorem knP_len {P : List Nt} {N : Nt} (h : P.length ≤ 10) : (knP P N).length ≤ 10 := by
  unfold knP
  rw [List.length_append]
  show _ + 1 ≤ 10
  by_cases z : P.length = 10
  · rw [if_pos z, List.length_tail]; omega
  · rw [if_neg z]; omega
theorem scA_N {h g : mH} {π : Nat → Nat} {T : Td} {N N2 : Nt} {P : List Nt} (s : scA h 13 π T N P) (e1 : ∀ q k, ¬ (14 ≤ q ∧ q ≤ 16) → gI g q k = gI h q k) (e2 : ∀ q k, q ≠ 14 → gL g q k = gL h q k) (e3 : gR g = gR h) (n : ntA g 14 T N2) : scA g 13 π T N2 P := by
  obtain ⟨m1, m2, m3, m4, m5⟩ := s
  refine ⟨⟨fun i hi => ⟨(m1.1 i hi).1, by rw [e3]; exact (m1.1 i hi).2⟩, m1.2⟩, n, ?_, m4, fun j q => ?_⟩
  · rw [e1 13 2 (by omega)]; exact m3
  · exact ntA_cg (fun q k x y => e1 q k (by omega)) (e2 _ 4 (by omega)) (m5 j q)
theorem lv_14 {h g : mH} (e0 : g.1 = h.1) (e1 : ∀ q k, ¬ (14 ≤ q ∧ q ≤ 16) → gI g q k = gI h q k) (e2 : ∀ q k, q ≠ 14 → gL g q k = gL h q k) (e3 : gR g = gR h) : lvF h g := ⟨e0, fun q k _ m => e1 q k (by omega), fun q k m => e2 q k (by omega), fun q k _ => by rw [e3]⟩
/-- the end of an event: the night is changed, then all is settled -/
theorem ev_fin (d : Nat) (h g1 g2 : mH) (L : LAY h) (σ : Sg) (w : wfS σ) (c : CI0 h σ) {N : Nt} {P : List Nt} {N2 : Nt} {π : Nat → Nat} (a : lvF h g1) (s : scA g1 13 π (zT σ) N P) (w2 : wfW (zT σ) N2 P) (e0 : g2.1 = g1.1) (e1 : ∀ q k, ¬ (14 ≤ q ∧ q ≤ 16) → gI g2 q k = gI g1 q k) (e2 : ∀ q k, q ≠ 14 → gL g2 q k = gL g1 q k) (e3 : gR g2 = gR g1) (n : ntA g2 14 (zT σ) N2) : ∃ g, callA (d + 3) 98 [Sum.inr (Sum.inr (some 0))] g2 = some (none, g) ∧ frm 0 141 h g ∧ LAY g ∧ CI g (zev σ N2 P) := by
  have lv := lvF_tr a (lv_14 e0 e1 e2 e3)
  have L2 := lvF_L lv L
  have c2 : CI0 g2 (zev σ N2 P) := lv_CI0 lv c (scA_N s e1 e2 e3 n)
  obtain ⟨g, e, q, Lg, cg⟩ := settle_CI d g2 L2 (zev σ N2 P) (wfS_ev w w2 s.2.2.2.1) c2
  exact ⟨g, e, frm_tr (lvF_frm lv) (qt_frm q), Lg, cg⟩
theorem cWid_ok (d : Nat) (h : mH) (L : LAY h) (σ : Sg) (w : wfS σ) (c : CI h σ) (j : Int) : cOK (d + 4) 71 [Sum.inl j] h (Sum.inl (widS (zT σ) (zN σ) (zP σ) j).1) (zev σ (widS (zT σ) (zN σ) (zP σ) j).2.1 (widS (zT σ) (zN σ) (zP σ) j).2.2) := by
  have L0 := L
  have wT := w.1
  have c7 := wT.1
  have wN := w.2.1.1
  have q := CI_q c
  have e := wCart_ok (d + 2) h L (zT σ) q.1 j
  unfold widS
  by_cases z : 0 ≤ j ∧ j < tN (zT σ)
  · rw [if_pos z] at e ⊢
    obtain ⟨i, rfl⟩ : ∃ i : Nat, j = i := ⟨j.toNat, by omega⟩
    rw [Int.toNat_natCast]
    have hi : i < tN (zT σ) := by omega
    have x := q.2.1.2.2.2.2 i hi
    have xb := wN.2.2.2.1 i hi
    by_cases y : nX (zN σ) i = 6
    · rw [if_pos y]
      rw [y] at x
      have x : gI h 16 i = 6 := x
      refine cOK_s L c ?_
      obtain ⟨k0, j0⟩ := lay_k L0 (a := 0) (t := 7) (n := 17) rfl; obtain ⟨k13, j13⟩ := lay_k L0 (a := 13) (t := 4) (n := 4) rfl; obtain ⟨k14, j14⟩ := lay_k L0 (a := 14) (t := 2) (n := 5) rfl; obtain ⟨k16, j16⟩ := lay_k L0 (a := 16) (t := 100) (n := 7) rfl; have r0_3 : gR h 0 3 = some 13 := lay_r L0 rfl; have r13_0 : gR h 13 0 = some 14 := lay_r L0 rfl; have r14_1 : gR h 14 1 = some 16 := lay_r L0 rfl
      rw [en_71]
      simp (disch := (first | omega | (simp only [kd_sI, kd_sL, kd_sR, kd_cp, kd_aI]; omega) | (unfold catV; exact rfl) | (unfold catS; exact Nat.le_of_ble_eq_true rfl) | assumption)) only [q_71_0, q_71_1, q_71_2, q_71_5_t, q_71_5_f, q_71_8, q_71_9, q_71_10, q_71_11, q_71_14, q_71_17, q_71_20, q_71_21, q_71_22, q_71_24_t, q_71_24_f, q_71_27, q_71_29, q_71_30, q_71_31, q_71_34, q_71_37, q_71_38, q_71_41, q_71_44, q_71_47, q_71_48, q_71_49, q_71_50, q_71_51, q_71_52, q_71_53, q_71_54, q_71_57, q_71_58, q_71_61, q_71_64, q_71_67, q_71_68, q_71_69, aft_i, aft_l, aft_v, Int.toNat_natCast, kd_sI, kd_sL, kd_sR, kd_cp, gI_sL, gI_sR, gL_sI, gL_sR, gR_sI, gR_sL, gL_cp, gR_cp, kd_aI, gL_aI, gR_aI, gI_aI, gI_aIn, sI_aI, gI_sIn, Int.reduceToNat, Int.reduceAdd, Int.reduceSub, Int.reduceMul, Int.reduceNeg, Int.zero_add, e, r0_3, r13_0, r14_1, x]
    · rw [if_neg y]
      obtain ⟨π, s⟩ := c.1.2.1
      obtain ⟨g1, π2, e1, s1, a1, n1⟩ := wRem_ok (d + 1) h L (zT σ) (zN σ) (zP σ) wT w.2.1 π s
      have L1 := lvF_L a1 L
      have x1 := n1.2.2.2.2 i hi
      have x1 : gI g1 16 i = nX (zN σ) i := x1
      obtain ⟨g, e3, fr, Lg, cg⟩ := ev_fin d h g1 (sI g1 16 i ((nX (zN σ) i : Int) + 1)) L σ w c.1 a1 s1 (knP_wf w.2.1 (wid_wf wN y hi)) rfl (fun q k n => by rw [gI_sIn (by omega)]) (fun _ _ _ => rfl) rfl (N2 := wid (zN σ) i) ⟨by rw [gI_sIn (by omega)]; exact n1.1, by rw [gI_sIn (by omega)]; exact n1.2.1, n1.2.2.1, fun k hk => by rw [gI_sIn (by omega)]; exact n1.2.2.2.1 k hk, fun k hk => by
        show gI _ 16 k = ((if k = i then nX (zN σ) k + 1 else nX (zN σ) k : Nat) : Int)
        by_cases v : k = i
        · subst v; rw [if_pos rfl, gI_sIs]; rfl
        · rw [if_neg v, gI_sIo v]; exact n1.2.2.2.2 k hk⟩
      refine ⟨g, ?_, fr, Lg, cg⟩
      have xg : gI g 16 i = ((nX (zN σ) i + 1 : Nat) : Int) := by
        have := (CI_q cg).2.1.2.2.2.2 i hi
        have e5 : nX (wid (zN σ) i) i = nX (zN σ) i + 1 := if_pos rfl
        have this : gI g 16 i = nX (wid (zN σ) i) i := this
        rw [this, e5]
      have x : gI h 16 i = nX (zN σ) i := x
      obtain ⟨m1, m2⟩ := lay_k L1 (a := 0) (t := 7) (n := 17) rfl
      obtain ⟨m3, m4⟩ := lay_k L1 (a := 13) (t := 4) (n := 4) rfl
      obtain ⟨m5, m6⟩ := lay_k L1 (a := 14) (t := 2) (n := 5) rfl
      obtain ⟨m7, m8⟩ := lay_k L1 (a := 16) (t := 100) (n := 7) rfl
      have r1 : gR g1 0 3 = some 13 := lay_r L1 rfl
      have r2 : gR g1 13 0 = some 14 := lay_r L1 rfl
      have r3 : gR g1 14 1 = some 16 := lay_r L1 rfl
      obtain ⟨u1, u2⟩ := lay_k Lg (a := 0) (t := 7) (n := 17) rfl
      obtain ⟨u3, u4⟩ := lay_k Lg (a := 13) (t := 4) (n := 4) rfl
      obtain ⟨u5, u6⟩ := lay_k Lg (a := 14) (t := 2) (n := 5) rfl
      obtain ⟨u7, u8⟩ := lay_k Lg (a := 16) (t := 100) (n := 7) rfl
      have t1 : gR g 0 3 = some 13 := lay_r Lg rfl
      have t2 : gR g 13 0 = some 14 := lay_r Lg rfl
      have t3 : gR g 14 1 = some 16 := lay_r Lg rfl
      obtain ⟨k0, j0⟩ := lay_k L0 (a := 0) (t := 7) (n := 17) rfl; obtain ⟨k13, j13⟩ := lay_k L0 (a := 13) (t := 4) (n := 4) rfl; obtain ⟨k14, j14⟩ := lay_k L0 (a := 14) (t := 2) (n := 5) rfl; obtain ⟨k16, j16⟩ := lay_k L0 (a := 16) (t := 100) (n := 7) rfl; have r0_3 : gR h 0 3 = some 13 := lay_r L0 rfl; have r13_0 : gR h 13 0 = some 14 := lay_r L0 rfl; have r14_1 : gR h 14 1 = some 16 := lay_r L0 rfl
      rw [en_71]
      simp (disch := (first | omega | (simp only [kd_sI, kd_sL, kd_sR, kd_cp, kd_aI]; omega) | (unfold catV; exact rfl) | (unfold catS; exact Nat.le_of_ble_eq_true rfl) | assumption)) only [q_71_0, q_71_1, q_71_2, q_71_5_t, q_71_5_f, q_71_8, q_71_9, q_71_10, q_71_11, q_71_14, q_71_17, q_71_20, q_71_21, q_71_22, q_71_24_t, q_71_24_f, q_71_27, q_71_29, q_71_30, q_71_31, q_71_34, q_71_37, q_71_38, q_71_41, q_71_44, q_71_47, q_71_48, q_71_49, q_71_50, q_71_51, q_71_52, q_71_53, q_71_54, q_71_57, q_71_58, q_71_61, q_71_64, q_71_67, q_71_68, q_71_69, aft_i, aft_l, aft_v, Int.toNat_natCast, kd_sI, kd_sL, kd_sR, kd_cp, gI_sL, gI_sR, gL_sI, gL_sR, gR_sI, gR_sL, gL_cp, gR_cp, kd_aI, gL_aI, gR_aI, gI_aI, gI_aIn, sI_aI, gI_sIn, Int.reduceToNat, Int.reduceAdd, Int.reduceSub, Int.reduceMul, Int.reduceNeg, Int.zero_add, e, r0_3, r13_0, r14_1, x, e1, r1, r2, r3, x1, e3, t1, t2, t3, xg]
      rfl
  · rw [if_neg z] at e ⊢
    refine cOK_s L c ?_
    obtain ⟨k0, j0⟩ := lay_k L0 (a := 0) (t := 7) (n := 17) rfl
    rw [en_71]
    simp (disch := (first | omega | (simp only [kd_sI, kd_sL, kd_sR, kd_cp, kd_aI]; omega) | (unfold catV; exact rfl) | (unfold catS; exact Nat.le_of_ble_eq_true rfl) | assumption)) only [q_71_0, q_71_1, q_71_2, q_71_5_t, q_71_5_f, q_71_8, q_71_9, q_71_10, q_71_11, q_71_14, q_71_17, q_71_20, q_71_21, q_71_22, q_71_24_t, q_71_24_f, q_71_27, q_71_29, q_71_30, q_71_31, q_71_34, q_71_37, q_71_38, q_71_41, q_71_44, q_71_47, q_71_48, q_71_49, q_71_50, q_71_51, q_71_52, q_71_53, q_71_54, q_71_57, q_71_58, q_71_61, q_71_64, q_71_67, q_71_68, q_71_69, aft_i, aft_l, aft_v, Int.toNat_natCast, kd_sI, kd_sL, kd_sR, kd_cp, gI_sL, gI_sR, gL_sI, gL_sR, gR_sI, gR_sL, gL_cp, gR_cp, kd_aI, gL_aI, gR_aI, gI_aI, gI_aIn, sI_aI, gI_sIn, Int.reduceToNat, Int.reduceAdd, Int.reduceSub, Int.reduceMul, Int.reduceNeg, Int.zero_add, e]
