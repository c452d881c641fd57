def dC (h : mH) (D : Dr) : Prop := gI h 8 4 = tN (dT D) ∧ gI h 8 5 = tK (dT D) ∧ gI h 8 6 = tA (dT D) ∧ gI h 8 7 = tM (dT D) ∧ (∀ c, c < tN (dT D) → gI h 9 c = dX D c ∧ gI h 10 c = tP (dT D) c ∧ gI h 11 c = tF (dT D) c) ∧ (∀ k, k < tK (dT D) → gI h 12 k = tG (dT D) k) ∧ gI h 1 6 = (if dF D &&& 1 = 0 then 0 else 1) ∧ gI h 1 7 = (if dF D &&& 2 = 0 then 0 else 1)
def cpF' (h g : mH) : Prop := g.1 = h.1 ∧ (∀ q k, ¬ (q = 1 ∧ 2 ≤ k) → ¬ (8 ≤ q ∧ q ≤ 12) → gI g q k = gI h q k) ∧ gL g = gL h ∧ gR g = gR h
theorem cpF_rf (h : mH) : cpF' h h := ⟨rfl, fun _ _ _ _ => rfl, rfl, rfl⟩
theorem cpF_tr {h g k : mH} (a : cpF' h g) (b : cpF' g k) : cpF' h k := ⟨b.1.trans a.1, fun q j x y => (b.2.1 q j x y).trans (a.2.1 q j x y), b.2.2.1.trans a.2.2.1, b.2.2.2.trans a.2.2.2⟩
theorem cpF_s {h : mH} {a k : Nat} {x : Int} (n : (a = 1 ∧ 2 ≤ k) ∨ (8 ≤ a ∧ a ≤ 12)) : cpF' h (sI h a k x) := ⟨rfl, fun q j v w => by rw [gI_sI, if_neg (by omega)], rfl, rfl⟩
theorem cst_cp {h g : mH} (a : cst h g) : cpF' h g := ⟨a.1, fun q k v _ => a.2.1 q k (by omega), a.2.2.1, a.2.2.2⟩
theorem cpF_L {h g : mH} (a : cpF' h g) (L : LAY h) : LAY g := lay_keep L a.1 a.2.2.2
theorem cpF_tx {h g : mH} {X : List Int} (a : cpF' h g) (t : ctx h X) : ctx g X := ⟨(a.2.1 1 1 (by omega) (by omega)).trans t.1, fun k q => by rw [a.2.1 2 k (by omega) (by omega)]; exact t.2.1 k q, t.2.2⟩
theorem cpF_qt {h g : mH} (a : cpF' h g) : qt h g := ⟨a.1, a.2.2.1, ⟨fun _ _ _ => by rw [a.2.2.2], brR_e a.2.2.2⟩, fun q k n => a.2.1 q k (fun y => n (Or.inr (Or.inl y))) (fun y => n (Or.inr (Or.inr (Or.inl y))))⟩
theorem cst_dC {h g : mH} {D : Dr} (a : cst h g) (m : dC h D) : dC g D := by
  obtain ⟨m1, m2, m3, m4, m5, m6, m7, m8⟩ := m
  refine ⟨?_, ?_, ?_, ?_, fun c hc => ?_, fun k hk => ?_, ?_, ?_⟩
  · rw [a.2.1 8 4 (by omega)]; exact m1
  · rw [a.2.1 8 5 (by omega)]; exact m2
  · rw [a.2.1 8 6 (by omega)]; exact m3
  · rw [a.2.1 8 7 (by omega)]; exact m4
  · rw [a.2.1 9 c (by omega), a.2.1 10 c (by omega), a.2.1 11 c (by omega)]; exact m5 c hc
  · rw [a.2.1 12 k (by omega)]; exact m6 k hk
  · rw [a.2.1 1 6 (by omega)]; exact m7
  · rw [a.2.1 1 7 (by omega)]; exact m8
theorem tk_kk {X : List Int} (w : byX X) (p : Nat) : (1 ≤ kk (tk X p) ∧ kk (tk X p) ≤ 4) ∨ (97 ≤ kk (tk X p) ∧ kk (tk X p) ≤ 122) := by
  unfold tk
  generalize skF X X.length p = s
  by_cases z : ch X s < 0
  · rw [if_pos z]; left; show 1 ≤ 3 ∧ 3 ≤ 4; omega
  · rw [if_neg z]
    by_cases y : 48 ≤ ch X s ∧ ch X s ≤ 57
    · rw [if_pos y]
      left
      show 1 ≤ (if _ then 4 else 1) ∧ (if _ then 4 else 1) ≤ 4
      split <;> omega
    · rw [if_neg y]
      show (1 ≤ (if ch X s = 59 then 2 else if 97 ≤ ch X s ∧ ch X s ≤ 122 then (ch X s).toNat else 4) ∧ (if ch X s = 59 then 2 else if 97 ≤ ch X s ∧ ch X s ≤ 122 then (ch X s).toNat else 4) ≤ 4) ∨ _
      by_cases u : ch X s = 59
      · rw [if_pos u]; left; omega
      · rw [if_neg u]
        by_cases v : 97 ≤ ch X s ∧ ch X s ≤ 122
        · right
          show 97 ≤ (if 97 ≤ ch X s ∧ ch X s ≤ 122 then (ch X s).toNat else 4) ∧ (if 97 ≤ ch X s ∧ ch X s ≤ 122 then (ch X s).toNat else 4) ≤ 122
          rw [if_pos v]; omega
        · rw [if_neg v]; left; omega
theorem wNum_ok (d : Nat) (h : mH) (L : LAY h) (X : List Int) (t : ctx h X) (p : Nat) (hp : gI h 1 2 = p) (hl : p ≤ X.length) (lo hi : Nat) (hi2 : Int) (eh : hi2 = (hi : Int) - 1) : ∃ g, callA (d + 4) 46 [Sum.inr (Sum.inr (some 1)), Sum.inl (lo : Int), Sum.inl hi2] h = some (some (Sum.inl (if numB (tk X p) lo hi = true then 1 else 0)), g) ∧ cst h g ∧ ctk g (tk X p) := by
  obtain ⟨g, e, s, c⟩ := wTok_ok d h L X t p hp hl
  have Lg := cst_L s L
  refine ⟨g, ?_, s, c⟩
  obtain ⟨c1, c2, c3, c4, c5⟩ := c
  obtain ⟨m1, m2⟩ := lay_k Lg (a := 1) (t := 5) (n := 8) rfl
  have kb := tk_kk t.2.2.2 p
  unfold numB
  obtain ⟨k1, j1⟩ := lay_k L (a := 1) (t := 5) (n := 8) rfl
  rw [en_46]
  by_cases z : kk (tk X p) = 1
  · have c3 : gI g 1 4 = 1 := by rw [c3, z]; rfl
    have c5 := c4 z
    by_cases y1 : lo ≤ kv (tk X p)
    · by_cases y2 : kv (tk X p) < hi
      · rw [decide_eq_true ⟨z, y1, y2⟩]
        simp (disch := (first | omega | (simp only [kd_sI, kd_sL, kd_sR, kd_cp, kd_aI]; omega) | (unfold catV; exact rfl) | (unfold catS; exact Nat.le_of_ble_eq_true rfl) | assumption)) only [q_46_0, q_46_1, q_46_4, q_46_5, q_46_8, q_46_9_t, q_46_9_f, q_46_12, q_46_13, q_46_16, q_46_17_t, q_46_17_f, q_46_20, q_46_21, q_46_24, q_46_25_t, q_46_25_f, q_46_28, q_46_29, q_46_32, q_46_33, aft_i, aft_l, aft_v, Int.toNat_natCast, kd_sI, kd_sL, kd_sR, kd_cp, gI_sL, gI_sR, gL_sI, gL_sR, gR_sI, gR_sL, gL_cp, gR_cp, kd_aI, gL_aI, gR_aI, gI_aI, gI_aIn, sI_aI, gI_sIn, Int.reduceToNat, Int.reduceAdd, Int.reduceSub, Int.reduceMul, Int.reduceNeg, Int.zero_add, e, c3, c5]
        rfl
      · rw [decide_eq_false (fun q => y2 q.2.2)]
        simp (disch := (first | omega | (simp only [kd_sI, kd_sL, kd_sR, kd_cp, kd_aI]; omega) | (unfold catV; exact rfl) | (unfold catS; exact Nat.le_of_ble_eq_true rfl) | assumption)) only [q_46_0, q_46_1, q_46_4, q_46_5, q_46_8, q_46_9_t, q_46_9_f, q_46_12, q_46_13, q_46_16, q_46_17_t, q_46_17_f, q_46_20, q_46_21, q_46_24, q_46_25_t, q_46_25_f, q_46_28, q_46_29, q_46_32, q_46_33, aft_i, aft_l, aft_v, Int.toNat_natCast, kd_sI, kd_sL, kd_sR, kd_cp, gI_sL, gI_sR, gL_sI, gL_sR, gR_sI, gR_sL, gL_cp, gR_cp, kd_aI, gL_aI, gR_aI, gI_aI, gI_aIn, sI_aI, gI_sIn, Int.reduceToNat, Int.reduceAdd, Int.reduceSub, Int.reduceMul, Int.reduceNeg, Int.zero_add, e, c3, c5]
        rfl
    · rw [decide_eq_false (fun q => y1 q.2.1)]
      simp (disch := (first | omega | (simp only [kd_sI, kd_sL, kd_sR, kd_cp, kd_aI]; omega) | (unfold catV; exact rfl) | (unfold catS; exact Nat.le_of_ble_eq_true rfl) | assumption)) only [q_46_0, q_46_1, q_46_4, q_46_5, q_46_8, q_46_9_t, q_46_9_f, q_46_12, q_46_13, q_46_16, q_46_17_t, q_46_17_f, q_46_20, q_46_21, q_46_24, q_46_25_t, q_46_25_f, q_46_28, q_46_29, q_46_32, q_46_33, aft_i, aft_l, aft_v, Int.toNat_natCast, kd_sI, kd_sL, kd_sR, kd_cp, gI_sL, gI_sR, gL_sI, gL_sR, gR_sI, gR_sL, gL_cp, gR_cp, kd_aI, gL_aI, gR_aI, gI_aI, gI_aIn, sI_aI, gI_sIn, Int.reduceToNat, Int.reduceAdd, Int.reduceSub, Int.reduceMul, Int.reduceNeg, Int.zero_add, e, c3, c5]
      rfl
  · have c3 : gI g 1 4 ≠ 1 := by rw [c3]; split <;> omega
    rw [decide_eq_false (fun q => z q.1)]
    simp (disch := (first | omega | (simp only [kd_sI, kd_sL, kd_sR, kd_cp, kd_aI]; omega) | (unfold catV; exact rfl) | (unfold catS; exact Nat.le_of_ble_eq_true rfl) | assumption)) only [q_46_0, q_46_1, q_46_4, q_46_5, q_46_8, q_46_9_t, q_46_9_f, q_46_12, q_46_13, q_46_16, q_46_17_t, q_46_17_f, q_46_20, q_46_21, q_46_24, q_46_25_t, q_46_25_f, q_46_28, q_46_29, q_46_32, q_46_33, aft_i, aft_l, aft_v, Int.toNat_natCast, kd_sI, kd_sL, kd_sR, kd_cp, gI_sL, gI_sR, gL_sI, gL_sR, gR_sI, gR_sL, gL_cp, gR_cp, kd_aI, gL_aI, gR_aI, gI_aI, gI_aIn, sI_aI, gI_sIn, Int.reduceToNat, Int.reduceAdd, Int.reduceSub, Int.reduceMul, Int.reduceNeg, Int.zero_add, e, c3]
    rfl
theorem wSem_ok (d : Nat) (h : mH) (L : LAY h) (X : List Int) (t : ctx h X) (p : Nat) (hp : gI h 1 2 = p) (hl : p ≤ X.length) : ∃ g, callA (d + 4) 47 [Sum.inr (Sum.inr (some 1))] h = some (some (Sum.inl (if kk (tk X p) = 2 then 1 else 0)), g) ∧ cst h g ∧ ctk g (tk X p) := by
  obtain ⟨g, e, s, c⟩ := wTok_ok d h L X t p hp hl
  have Lg := cst_L s L
  refine ⟨g, ?_, s, c⟩
  obtain ⟨c1, c2, c3, c4, c5⟩ := c
  obtain ⟨m1, m2⟩ := lay_k Lg (a := 1) (t := 5) (n := 8) rfl
  have kb := tk_kk t.2.2.2 p
  obtain ⟨k1, j1⟩ := lay_k L (a := 1) (t := 5) (n := 8) rfl
  rw [en_47]
  by_cases z : kk (tk X p) = 2
  · have c3 : gI g 1 4 = 2 := by rw [c3, z]; rfl
    rw [if_pos z]
    simp (disch := (first | omega | (simp only [kd_sI, kd_sL, kd_sR, kd_cp, kd_aI]; omega) | (unfold catV; exact rfl) | (unfold catS; exact Nat.le_of_ble_eq_true rfl) | assumption)) only [q_47_0, q_47_1, q_47_4, q_47_5, q_47_8, q_47_9_t, q_47_9_f, q_47_12, q_47_13, q_47_16, q_47_17, aft_i, aft_l, aft_v, Int.toNat_natCast, kd_sI, kd_sL, kd_sR, kd_cp, gI_sL, gI_sR, gL_sI, gL_sR, gR_sI, gR_sL, gL_cp, gR_cp, kd_aI, gL_aI, gR_aI, gI_aI, gI_aIn, sI_aI, gI_sIn, Int.reduceToNat, Int.reduceAdd, Int.reduceSub, Int.reduceMul, Int.reduceNeg, Int.zero_add, e, c3]
  · have c3 : gI g 1 4 ≠ 2 := by rw [c3]; split <;> omega
    rw [if_neg z]
    simp (disch := (first | omega | (simp only [kd_sI, kd_sL, kd_sR, kd_cp, kd_aI]; omega) | (unfold catV; exact rfl) | (unfold catS; exact Nat.le_of_ble_eq_true rfl) | assumption)) only [q_47_0, q_47_1, q_47_4, q_47_5, q_47_8, q_47_9_t, q_47_9_f, q_47_12, q_47_13, q_47_16, q_47_17, aft_i, aft_l, aft_v, Int.toNat_natCast, kd_sI, kd_sL, kd_sR, kd_cp, gI_sL, gI_sR, gL_sI, gL_sR, gR_sI, gR_sL, gL_cp, gR_cp, kd_aI, gL_aI, gR_aI, gI_aI, gI_aIn, sI_aI, gI_sIn, Int.reduceToNat, Int.reduceAdd, Int.reduceSub, Int.reduceMul, Int.reduceNeg, Int.zero_add, e, c3]
def CRs (h g : mH) (X : List Int) (r : Nat ⊕ (Dr × Nat)) : Prop := cpF' h g ∧ match r with
  | Sum.inl e => gI g 1 3 = (e : Int)
  | Sum.inr q => q.2 ≤ X.length ∧ gI g 1 2 = q.2 ∧ dC g q.1
def rB (r : Nat ⊕ (Dr × Nat)) : Int := match r with
  | Sum.inl _ => 0
  | Sum.inr _ => 1
/-- the semicolon behind an item -/
theorem wEnd (d : Nat) (h g : mH) (Lg : LAY g) (X : List Int) (t : ctx g X) (p : Nat) (hp : gI g 1 2 = p) (hl : p ≤ X.length) (a : cpF' h g) (D : Dr) (m : dC g D) : ∃ g2, callA (d + 4) 47 [Sum.inr (Sum.inr (some 1))] g = some (some (Sum.inl (rB (semi X p D))), g2) ∧ CRs h g2 X (semi X p D) := by
  obtain ⟨g2, e, s, c⟩ := wSem_ok d g Lg X t p hp hl
  have tb := tk_b t.2.2.2 hl
  unfold semi
  refine ⟨g2, ?_, cpF_tr a (cst_cp s), ?_⟩
  · by_cases z : kk (tk X p) = 2
    · rw [if_pos z] at e ⊢; exact e
    · rw [if_neg z] at e ⊢; exact e
  · by_cases z : kk (tk X p) = 2
    · rw [if_pos z]
      exact ⟨tb.2.2.2.2.1, c.1, cst_dC s m⟩
    · rw [if_neg z]
      exact c.2.1
theorem wAdd_ok (d : Nat) (h : mH) (L : LAY h) (D : Dr) (m : dC h D) (wz : ∀ c, tN (dT D) ≤ c → tF (dT D) c = 0) (n7 : tN (dT D) < 7) (a p : Nat) : ∃ g, callA (d + 1) 54 [Sum.inr (Sum.inr (some 8)), Sum.inl (a : Int), Sum.inl (p : Int)] h = some (none, g) ∧ cpF' h g ∧ (∀ k, gI g 1 k = gI h 1 k) ∧ dC g (dCart D a p) := by
  obtain ⟨m1, m2, m3, m4, m5, m6, m7, m8⟩ := m
  generalize eg : sI (sI (sI (sI h 9 (tN (dT D)) a) 10 (tN (dT D)) p) 11 (tN (dT D)) 0) 8 4 ((tN (dT D) : Int) + 1) = g
  refine ⟨g, ?_, ?_, fun k => ?_, ⟨?_, ?_, ?_, ?_, fun c hc => ?_, fun k hk => ?_, ?_, ?_⟩⟩
  · have x1 : gI (sI h 9 (tN (dT D)) a) 8 4 = tN (dT D) := by rw [gI_sIn (by omega)]; exact m1
    have x2 : gI (sI (sI h 9 (tN (dT D)) a) 10 (tN (dT D)) p) 8 4 = tN (dT D) := by rw [gI_sIn (by omega)]; exact x1
    have x3 : gI (sI (sI (sI h 9 (tN (dT D)) a) 10 (tN (dT D)) p) 11 (tN (dT D)) 0) 8 4 = tN (dT D) := by rw [gI_sIn (by omega)]; exact x2
    obtain ⟨k8, j8⟩ := lay_k L (a := 8) (t := 6) (n := 8) rfl; obtain ⟨k9, j9⟩ := lay_k L (a := 9) (t := 100) (n := 7) rfl; obtain ⟨k10, j10⟩ := lay_k L (a := 10) (t := 100) (n := 7) rfl; obtain ⟨k11, j11⟩ := lay_k L (a := 11) (t := 100) (n := 7) rfl; have r8_0 : gR h 8 0 = some 9 := lay_r L rfl; have r8_1 : gR h 8 1 = some 10 := lay_r L rfl; have r8_2 : gR h 8 2 = some 11 := lay_r L rfl
    rw [en_54]
    simp (disch := (first | omega | (simp only [kd_sI, kd_sL, kd_sR, kd_cp, kd_aI]; omega) | (unfold catV; exact rfl) | (unfold catS; exact Nat.le_of_ble_eq_true rfl) | assumption)) only [q_54_0, q_54_1, q_54_4, q_54_5, q_54_8, q_54_9, q_54_10, q_54_11, q_54_14, q_54_15, q_54_18, q_54_19, q_54_20, q_54_21, q_54_24, q_54_25, q_54_28, q_54_29, q_54_30, q_54_31, q_54_32, q_54_35, q_54_36, q_54_37, q_54_40, aft_i, aft_l, aft_v, Int.toNat_natCast, kd_sI, kd_sL, kd_sR, kd_cp, gI_sL, gI_sR, gL_sI, gL_sR, gR_sI, gR_sL, gL_cp, gR_cp, kd_aI, gL_aI, gR_aI, gI_aI, gI_aIn, sI_aI, gI_sIn, Int.reduceToNat, Int.reduceAdd, Int.reduceSub, Int.reduceMul, Int.reduceNeg, Int.zero_add, m1, r8_0, r8_1, r8_2, x1, x2, x3]
    rw [eg]
  · rw [← eg]
    exact cpF_tr (cpF_s (by omega)) (cpF_tr (cpF_s (by omega)) (cpF_tr (cpF_s (by omega)) (cpF_s (by omega))))
  · rw [← eg, gI_sIn (by omega), gI_sIn (by omega), gI_sIn (by omega), gI_sIn (by omega)]
  · rw [← eg, gI_sIs]; rfl
  · rw [← eg, gI_sIo (by omega), gI_sIn (by omega), gI_sIn (by omega), gI_sIn (by omega)]; exact m2
  · rw [← eg, gI_sIo (by omega), gI_sIn (by omega), gI_sIn (by omega), gI_sIn (by omega)]; exact m3
  · rw [← eg, gI_sIo (by omega), gI_sIn (by omega), gI_sIn (by omega), gI_sIn (by omega)]; exact m4
  · have hc : c < tN (dT D) + 1 := hc
    have e9 : gI g 9 c = upI (gI h 9) (tN (dT D)) a c := by rw [← eg, gI_sIn (by omega), gI_sIn (by omega), gI_sIn (by omega), gI_sIu]
    have e10 : gI g 10 c = upI (gI h 10) (tN (dT D)) p c := by rw [← eg, gI_sIn (by omega), gI_sIn (by omega), gI_sIu, gI_sIn (by omega)]
    have e11 : gI g 11 c = upI (gI h 11) (tN (dT D)) 0 c := by rw [← eg, gI_sIn (by omega), gI_sIu, gI_sIn (by omega), gI_sIn (by omega)]
    rw [e9, e10, e11]
    show _ = ((if c = tN (dT D) then a else dX D c : Nat) : Int) ∧ _ = ((if c = tN (dT D) then p else tP (dT D) c : Nat) : Int) ∧ _ = (tF (dT D) c : Int)
    by_cases z : c = tN (dT D)
    · subst z
      rw [if_pos rfl, if_pos rfl, upI_s, upI_s, upI_s, wz _ (Nat.le_refl _)]
      exact ⟨rfl, rfl, rfl⟩
    · rw [if_neg z, if_neg z, upI_n z, upI_n z, upI_n z]
      exact m5 c (by omega)
  · rw [← eg, gI_sIn (by omega), gI_sIn (by omega), gI_sIn (by omega), gI_sIn (by omega)]; exact m6 k hk
  · rw [← eg, gI_sIn (by omega), gI_sIn (by omega), gI_sIn (by omega), gI_sIn (by omega)]; exact m7
  · rw [← eg, gI_sIn (by omega), gI_sIn (by omega), gI_sIn (by omega), gI_sIn (by omega)]; exact m8
