/-- the nights that a scene's past holds, in the order of its array -/
def pmA (h : mH) (b : Nat) (π : Nat → Nat) : Prop := (∀ i, i < 10 → π i < 10 ∧ gR h (b + 4) i = some (b + 5 + 3 * π i)) ∧ ∀ i j, i < 10 → j < 10 → π i = π j → i = j
def scA (h : mH) (b : Nat) (π : Nat → Nat) (T : Td) (N : Nt) (P : List Nt) : Prop := pmA h b π ∧ ntA h (b + 1) T N ∧ gI h b 2 = P.length ∧ P.length ≤ 10 ∧ ∀ j (q : j < P.length), ntA h (b + 5 + 3 * π j) T P[j]
/-- which of its two rows the bridges' search uses for what -/
def brR (h : mH) : Prop := (gR h 133 1 = some 135 ∧ gR h 133 2 = some 136) ∨ (gR h 133 1 = some 136 ∧ gR h 133 2 = some 135)
def CI0 (h : mH) (σ : Sg) : Prop := cT h (zT σ) ∧ (∃ π, scA h 13 π (zT σ) (zN σ) (zP σ)) ∧ (∀ i, i < 2 → (∃ π, pmA h (49 + 35 * i) π) ∧ gI h (49 + 35 * i) 3 = (if (zI σ i).isSome = true then 1 else 0) ∧ ∀ N P, zI σ i = some (N, P) → ∃ π, scA h (49 + 35 * i) π (zT σ) N P) ∧ gI h 0 13 = (zS σ).length ∧ (∀ k (q : k < (zS σ).length), gI h 137 k = (zS σ)[k].1 ∧ gI h 138 k = (zS σ)[k].2) ∧ gI h 1 1 = (zX σ).length ∧ (∀ k (q : k < (zX σ).length), gI h 2 k = (zX σ)[k]) ∧ gL h 0 14 = zR σ ∧ brR h
def bKn (h : mH) (T : Td) (N : Nt) : Prop := gI h 0 9 = 0 ∨ (gI h 0 9 = 1 ∧ ∃ b, isBest (keyL T N) (notLost N (tN T)) b ∧ gI h 129 1 = b.length - outN T (onR N b) ∧ gI h 129 2 = nearS T (onR N b) ∧ (0 < gI h 129 1 → gI h 129 3 = lastS T (onR N b)) ∧ rwO (gI h 130) 0 b)
def CI (h : mH) (σ : Sg) : Prop := CI0 h σ ∧ cC h (zT σ) (zN σ) ∧ bKn h (zT σ) (zN σ)
theorem CI_q {h : mH} {σ : Sg} (c : CI h σ) : Cq h (zT σ) (zN σ) := by
  obtain ⟨⟨c1, ⟨π, c2⟩, -⟩, c3, -⟩ := c
  exact ⟨c1, c2.2.1, c3⟩
/-- cells that tell nothing of the state -/
def qtc (q k : Nat) : Prop := (q = 0 ∧ (k = 7 ∨ k = 9)) ∨ (q = 1 ∧ 2 ≤ k) ∨ (8 ≤ q ∧ q ≤ 12) ∨ (119 ≤ q ∧ q ≤ 136) ∨ q = 139 ∨ q = 140
def qt (h g : mH) : Prop := g.1 = h.1 ∧ gL g = gL h ∧ ((∀ q k, q ≠ 133 → gR g q k = gR h q k) ∧ (brR h → brR g)) ∧ ∀ q k, ¬ qtc q k → gI g q k = gI h q k
theorem qt_rf (h : mH) : qt h h := ⟨rfl, rfl, ⟨fun _ _ _ => rfl, fun x => x⟩, fun _ _ _ => rfl⟩
theorem brR_e {h g : mH} (e : gR g = gR h) (b : brR h) : brR g := by unfold brR at *; rw [e]; exact b
theorem qt_tr {h g k : mH} (a : qt h g) (b : qt g k) : qt h k := ⟨b.1.trans a.1, b.2.1.trans a.2.1, ⟨fun q j n => (b.2.2.1.1 q j n).trans (a.2.2.1.1 q j n), fun x => b.2.2.1.2 (a.2.2.1.2 x)⟩, fun q j n => (b.2.2.2 q j n).trans (a.2.2.2 q j n)⟩
theorem qt_s {h : mH} {a k : Nat} {x : Int} (n : qtc a k) : qt h (sI h a k x) := ⟨rfl, rfl, ⟨fun _ _ _ => rfl, fun x => x⟩, fun q j v => by
  rw [gI_sI, if_neg]
  rintro ⟨rfl, rfl⟩
  exact v n⟩
theorem qt_a {h : mH} {a : Nat} {f : Nat → Int} (n : ∀ k, qtc a k) : qt h (aI h a f) := ⟨rfl, rfl, ⟨fun _ _ _ => rfl, fun x => x⟩, fun q j v => by
  rw [gI_aIn]
  intro e
  subst e
  exact v (n j)⟩
theorem qt_frm {h g : mH} (a : qt h g) : frm 0 141 h g := ⟨a.1, fun q hq => ⟨funext fun k => a.2.2.2 q k (by unfold qtc; omega), by rw [a.2.1], funext fun k => a.2.2.1.1 q k (by omega)⟩⟩
theorem qt_nt {h g : mH} (a : qt h g) {b : Nat} {T : Td} {N : Nt} (n : 13 ≤ b ∧ b ≤ 116) (m : ntA h b T N) : ntA g b T N := by
  obtain ⟨m1, m2, m3, m4, m5⟩ := m
  refine ⟨?_, ?_, ?_, fun i hi => ?_, fun c hc => ?_⟩
  · rw [a.2.2.2 b 2 (by unfold qtc; omega)]; exact m1
  · rw [a.2.2.2 b 3 (by unfold qtc; omega)]; exact m2
  · rw [a.2.1]; exact m3
  · rw [a.2.2.2 (b + 1) i (by unfold qtc; omega)]; exact m4 i hi
  · rw [a.2.2.2 (b + 2) c (by unfold qtc; omega)]; exact m5 c hc
theorem qt_pm {h g : mH} (a : qt h g) {b : Nat} {π : Nat → Nat} (n : b ≤ 84) (m : pmA h b π) : pmA g b π := ⟨fun i hi => ⟨(m.1 i hi).1, by rw [a.2.2.1.1 (b + 4) i (by omega)]; exact (m.1 i hi).2⟩, m.2⟩
theorem qt_sc {h g : mH} (a : qt h g) {b : Nat} {π : Nat → Nat} {T : Td} {N : Nt} {P : List Nt} (n : 13 ≤ b ∧ b ≤ 84) (m : scA h b π T N P) : scA g b π T N P := by
  obtain ⟨m1, m2, m3, m4, m5⟩ := m
  refine ⟨qt_pm a n.2 m1, qt_nt a (by omega) m2, ?_, m4, fun j q => qt_nt a ?_ (m5 j q)⟩
  · rw [a.2.2.2 b 2 (by unfold qtc; omega)]; exact m3
  · have := (m1.1 j (by omega)).1
    omega
theorem qt_cT {h g : mH} (a : qt h g) {T : Td} (m : cT h T) : cT g T := by
  obtain ⟨m1, m2, m3, m4, m5, m6⟩ := m
  refine ⟨?_, ?_, ?_, ?_, fun c hc => ?_, fun k hk => ?_⟩
  · rw [a.2.2.2 3 4 (by unfold qtc; omega)]; exact m1
  · rw [a.2.2.2 3 5 (by unfold qtc; omega)]; exact m2
  · rw [a.2.2.2 3 6 (by unfold qtc; omega)]; exact m3
  · rw [a.2.2.2 3 7 (by unfold qtc; omega)]; exact m4
  · rw [a.2.2.2 5 c (by unfold qtc; omega), a.2.2.2 6 c (by unfold qtc; omega)]; exact m5 c hc
  · rw [a.2.2.2 7 k (by unfold qtc; omega)]; exact m6 k hk
theorem qt_CI0 {h g : mH} (a : qt h g) {σ : Sg} (m : CI0 h σ) : CI0 g σ := by
  obtain ⟨m1, ⟨π, m2⟩, m3, m4, m5, m6, m7, m8⟩ := m
  refine ⟨qt_cT a m1, ⟨π, qt_sc a (by omega) m2⟩, fun i hi => ?_, ?_, fun k q => ?_, ?_, fun k q => ?_, ?_⟩
  · obtain ⟨⟨π, a1⟩, a2, a3⟩ := m3 i hi
    refine ⟨⟨π, qt_pm a (by omega) a1⟩, ?_, fun N P e => ?_⟩
    · rw [a.2.2.2 _ 3 (by unfold qtc; omega)]; exact a2
    · obtain ⟨π, x⟩ := a3 N P e
      exact ⟨π, qt_sc a (by omega) x⟩
  · rw [a.2.2.2 0 13 (by unfold qtc; omega)]; exact m4
  · rw [a.2.2.2 137 k (by unfold qtc; omega), a.2.2.2 138 k (by unfold qtc; omega)]; exact m5 k q
  · rw [a.2.2.2 1 1 (by unfold qtc; omega)]; exact m6
  · rw [a.2.2.2 2 k (by unfold qtc; omega)]; exact m7 k q
  · rw [a.2.1]; exact ⟨m8.1, a.2.2.1.2 m8.2⟩
theorem rmS_qt {h g : mH} (a : rmS h g) : qt h g := ⟨a.1, a.2.1, ⟨fun _ _ _ => by rw [a.2.2.1], brR_e a.2.2.1⟩, fun q k n => a.2.2.2 q k (fun y => n (Or.inr (Or.inr (Or.inr (Or.inl ⟨by omega, by omega⟩)))))⟩
theorem wSettle_ok (d : Nat) (h : mH) (L : LAY h) (T : Td) (N : Nt) (wT : wfT T) (wN : wfN T N) (t : cT h T) (u : ntA h 14 T N) : ∃ g, callA (d + 3) 98 [Sum.inr (Sum.inr (some 0))] h = some (none, g) ∧ ((g.1 = h.1 ∧ gL g = gL h ∧ gR g = gR h) ∧ ∀ q k, ¬ (q = 0 ∧ (k = 7 ∨ k = 9)) → ¬ (119 ≤ q ∧ q ≤ 128) → gI g q k = gI h q k) ∧ LAY g ∧ cC g T N ∧ gI g 0 9 = 0 := by
  have L0 := L
  have k4 := wT.2.1
  have t5 := t.2.1
  have u2 := u.1
  have u4 := u.2.2.1
  have v40 := wN.2.2.2.2.2.2
  obtain ⟨g1, e1, s1, r1⟩ := wMs_ok (d + 1) h L T N k4 v40
  have L1 := rmS_L s1 (lay_sI L _ _ _)
  have q1 : ∀ q k, ¬ (119 ≤ q ∧ q ≤ 127) → gI g1 q k = gI h q k := fun q k n => by rw [s1.2.2.2 q k (by omega), gI_sIn (by omega)]
  have rm1 : rmOK g1 T N := ⟨by rw [s1.2.2.2 119 1 (by omega), gI_sIs], fun w k a b c => r1 w k a b c⟩
  obtain ⟨a1, a2⟩ := lay_k L1 (a := 15) (t := 100) (n := 7) rfl
  obtain ⟨a3, a4⟩ := lay_k L1 (a := 128) (t := 100) (n := 7) rfl
  obtain ⟨G, hG, e2⟩ := wSetUp_ok d g1 L1 T N wT wN rm1 (fun c hc => by rw [q1 16 c (by omega)]; exact u.2.2.2.2 c hc) 15 128 a1 a2 a3 a4 (by omega) (by omega) (by omega) (fun i hi => by rw [q1 15 i (by omega)]; exact u.2.2.2.1 i hi)
  have L2 : LAY (aI g1 128 G) := lay_aI L1 _ _
  refine ⟨sI (sI (aI g1 128 G) 0 7 (stN T N)) 0 9 0, ?_, ⟨⟨s1.1, s1.2.1, s1.2.2.1⟩, fun q k n1 n2 => ?_⟩, lay_sI (lay_sI L2 _ _ _) _ _ _, ⟨fun c hc => ?_, ?_, ?_, fun w k x1 x2 x3 => ?_⟩, gI_sIs _ _ _ _⟩
  · obtain ⟨b1, b2⟩ := lay_k L1 (a := 0) (t := 7) (n := 17) rfl
    obtain ⟨b3, b4⟩ := lay_k L1 (a := 13) (t := 4) (n := 4) rfl
    obtain ⟨b5, b6⟩ := lay_k L1 (a := 14) (t := 2) (n := 5) rfl
    have x1 : gR g1 0 5 = some 119 := lay_r L1 rfl
    have x2 : gR g1 0 3 = some 13 := lay_r L1 rfl
    have x3 : gR g1 13 0 = some 14 := lay_r L1 rfl
    have x4 : gR g1 14 0 = some 15 := lay_r L1 rfl
    have x5 : gR g1 14 1 = some 16 := lay_r L1 rfl
    have x6 : gR g1 0 6 = some 128 := lay_r L1 rfl
    have x7 : gI g1 14 2 = nM N := by rw [q1 14 2 (by omega)]; exact u2
    obtain ⟨b7, b8⟩ := lay_k L1 (a := 119) (t := 3) (n := 2) rfl
    obtain ⟨k0, j0⟩ := lay_k L0 (a := 0) (t := 7) (n := 17) rfl; obtain ⟨k3, j3⟩ := lay_k L0 (a := 3) (t := 6) (n := 8) rfl; obtain ⟨k13, j13⟩ := lay_k L0 (a := 13) (t := 4) (n := 4) rfl; obtain ⟨k14, j14⟩ := lay_k L0 (a := 14) (t := 2) (n := 5) rfl; obtain ⟨k119, j119⟩ := lay_k L0 (a := 119) (t := 3) (n := 2) rfl; have r0_1 : gR h 0 1 = some 3 := lay_r L0 rfl; have r0_3 : gR h 0 3 = some 13 := lay_r L0 rfl; have r0_5 : gR h 0 5 = some 119 := lay_r L0 rfl; have r13_0 : gR h 13 0 = some 14 := lay_r L0 rfl
    rw [en_98]
    simp (disch := (first | omega | (simp only [kd_sI, kd_sL, kd_sR, kd_cp, kd_aI]; omega) | (unfold catV; exact rfl) | (unfold catS; exact Nat.le_of_ble_eq_true rfl) | assumption)) only [q_98_0, q_98_1, q_98_4, q_98_5, q_98_8, q_98_11, q_98_14, q_98_15, q_98_18, q_98_21, q_98_24, q_98_25, q_98_26, q_98_29, q_98_30, q_98_33, q_98_36, q_98_39, q_98_40, q_98_43, q_98_46, q_98_49, q_98_50, q_98_53, q_98_56, q_98_59, q_98_60, q_98_63, q_98_66, q_98_69, q_98_70, q_98_71, q_98_74, aft_i, aft_l, aft_v, Int.toNat_natCast, kd_sI, kd_sL, kd_sR, kd_cp, gI_sL, gI_sR, gL_sI, gL_sR, gR_sI, gR_sL, gL_cp, gR_cp, kd_aI, gL_aI, gR_aI, gI_aI, gI_aIn, sI_aI, gI_sIn, Int.reduceToNat, Int.reduceAdd, Int.reduceSub, Int.reduceMul, Int.reduceNeg, Int.zero_add, r0_5, r0_3, r13_0, r0_1, t5, u4, e1, x1, x2, x3, x4, x5, x6, x7, e2]
  · rw [gI_sI, if_neg (by omega), gI_sI, if_neg (by omega), gI_aIn (by omega), q1 q k (by omega)]
  · rw [gI_sIn (by omega), gI_sIn (by omega), gI_aI]; exact hG c hc
  · rw [gI_sIo (by omega), gI_sIs]
  · rw [gI_sIn (by omega), gI_sIn (by omega), gI_aIn (by omega)]; exact rm1.1
  · rw [gI_sIn (by omega), gI_sIn (by omega), gI_aIn (by omega)]; exact rm1.2 w k x1 x2 x3
/-- a call of the class: its answer and what it is then -/
def cOK (D id : Nat) (as : List mV) (h : mH) (r : mV) (σ : Sg) : Prop := ∃ g, callA D id (Sum.inr (Sum.inr (some 0)) :: as) h = some (some r, g) ∧ frm 0 141 h g ∧ LAY g ∧ CI g σ
theorem cOK_s {D id : Nat} {as : List mV} {h : mH} {σ : Sg} {r : mV} (L : LAY h) (c : CI h σ) (e : callA D id (Sum.inr (Sum.inr (some 0)) :: as) h = some (some r, h)) : cOK D id as h r σ := ⟨h, e, frm_rf _ _ _, L, c⟩
theorem settle_CI (d : Nat) (h : mH) (L : LAY h) (σ : Sg) (w : wfS σ) (c : CI0 h σ) : ∃ g, callA (d + 3) 98 [Sum.inr (Sum.inr (some 0))] h = some (none, g) ∧ qt h g ∧ LAY g ∧ CI g σ := by
  obtain ⟨π, c2⟩ := c.2.1
  obtain ⟨g, e, ⟨⟨s1, s2, s3⟩, s4⟩, Lg, cc, b0⟩ := wSettle_ok d h L (zT σ) (zN σ) w.1 w.2.1.1 c.1 c2.2.1
  have q : qt h g := ⟨s1, s2, ⟨fun _ _ _ => by rw [s3], brR_e s3⟩, fun q k n => s4 q k (fun y => n (Or.inl y)) (fun y => n (Or.inr (Or.inr (Or.inr (Or.inl ⟨y.1, by omega⟩)))))⟩
  exact ⟨g, e, q, Lg, qt_CI0 q c, cc, Or.inl b0⟩
