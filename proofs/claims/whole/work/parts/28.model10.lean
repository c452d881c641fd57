/-- the night at an offset -/
def slG (G : Nat → Int) (o : Nat) (T : Td) (N : Nt) : Prop := G (o + 7) = nM N ∧ (∀ i, i < nM N → G (o + i) = nR N i) ∧ G (o + 8) = nL N ∧ (∀ c, c < tN T → G (o + 9 + c) = nX N c) ∧ ∀ k, k < tK T → G (o + 16 + k) = lnd T N k
theorem slG_now {h : mH} {T : Td} {N : Nt} : mNow h T N ↔ slG (gI h 150) 0 T N := by
  unfold mNow slG
  simp only [Nat.zero_add]
theorem slG_congr {G G2 : Nat → Int} {o o2 : Nat} {T : Td} {N : Nt} (wT : wfT T) (wN : wfN T N) (e : ∀ i, i < 56 → G2 (o2 + i) = G (o + i)) (s : slG G o T N) : slG G2 o2 T N := by
  have n7 : nM N ≤ 7 := Nat.le_trans wN.1 wT.1
  have c7 := wT.1
  have k4 := wT.2.1
  obtain ⟨s1, s2, s3, s4, s5⟩ := s
  refine ⟨(e 7 (by omega)).trans s1, fun i hi => (e i (by omega)).trans (s2 i hi), (e 8 (by omega)).trans s3, fun c hc => ?_, fun k hk => ?_⟩
  · have := e (9 + c) (by omega)
    rw [← Nat.add_assoc, ← Nat.add_assoc] at this
    exact this.trans (s4 c hc)
  · have := e (16 + k) (by omega)
    rw [← Nat.add_assoc, ← Nat.add_assoc] at this
    exact this.trans (s5 k hk)
/-- a night and its past at an offset -/
def whG (G : Nat → Int) (b : Nat) (T : Td) (N : Nt) (P : List Nt) : Prop := slG G b T N ∧ G (b + 56) = P.length ∧ P.length ≤ 10 ∧ ∀ j (q : j < P.length), slG G (b + 57 + 56 * j) T P[j]
def wfW (T : Td) (N : Nt) (P : List Nt) : Prop := wfN T N ∧ ∀ Q, Q ∈ P → wfN T Q
theorem whG_congr {G G2 : Nat → Int} {b b2 : Nat} {T : Td} {N : Nt} {P : List Nt} (wT : wfT T) (wW : wfW T N P) (e : ∀ i, i < 617 → G2 (b2 + i) = G (b + i)) (s : whG G b T N P) : whG G2 b2 T N P := by
  obtain ⟨s1, s2, s3, s4⟩ := s
  refine ⟨slG_congr wT wW.1 (fun i hi => e i (by omega)) s1, (e 56 (by omega)).trans s2, s3, fun j q => slG_congr wT (wW.2 _ (List.getElem_mem q)) (fun i hi => ?_) (s4 j q)⟩
  have := e (57 + 56 * j + i) (by omega)
  rw [show b2 + (57 + 56 * j + i) = b2 + 57 + 56 * j + i by omega, show b + (57 + 56 * j + i) = b + 57 + 56 * j + i by omega] at this
  exact this
theorem whG_ev {G G2 : Nat → Int} {T : Td} {N N2 : Nt} {P : List Nt} (wT : wfT T) (wP : ∀ Q, Q ∈ P → wfN T Q) (e : ∀ i, 56 ≤ i → i < 617 → G2 i = G i) (s2 : slG G2 0 T N2) (s : whG G 0 T N P) : whG G2 0 T N2 P := by
  obtain ⟨-, q2, q3, q4⟩ := s
  refine ⟨s2, (e 56 (by omega) (by omega)).trans q2, q3, fun j q => slG_congr wT (wP _ (List.getElem_mem q)) (fun i hi => ?_) (q4 j q)⟩
  exact e _ (by omega) (by omega)
theorem whG_push {G : Nat → Int} {T : Td} {N : Nt} {P : List Nt} (wT : wfT T) (wW : wfW T N P) (m : Nat) (hm : P.length = m) (h9 : m ≤ 9) (s : whG G 0 T N P) : whG (upI (cpF G 0 (57 + 56 * m) 56) 56 ((m + 1 : Nat) : Int)) 0 T N (P ++ [N]) := by
  obtain ⟨s1, s2, s3, s4⟩ := s
  have e : ∀ i, (i < 56 ∨ (57 ≤ i ∧ i < 57 + 56 * m)) → upI (cpF G 0 (57 + 56 * m) 56) 56 ((m + 1 : Nat) : Int) i = G i := fun i hi => by
    rw [upI_n (by omega), cpF_out (by omega)]
  refine ⟨slG_congr wT wW.1 (fun i hi => e _ (by omega)) s1, ?_, by simp only [List.length_append, List.length_cons, List.length_nil]; omega, fun j q => ?_⟩
  · rw [show (0 : Nat) + 56 = 56 from rfl, upI_s]
    simp only [List.length_append, List.length_cons, List.length_nil, hm]
  · simp only [List.length_append, List.length_cons, List.length_nil] at q
    by_cases z : j < P.length
    · rw [List.getElem_append_left z]
      exact slG_congr wT (wW.2 _ (List.getElem_mem z)) (fun i hi => e _ (by omega)) (s4 j z)
    · have zj : j = m := by omega
      subst zj
      rw [List.getElem_append_right (by omega)]
      simp only [hm, Nat.sub_self, List.getElem_cons_zero]
      refine slG_congr wT wW.1 (fun i hi => ?_) s1
      rw [upI_n (by omega), Nat.zero_add, cpF_in hi]
theorem whG_shift {G : Nat → Int} {T : Td} {N : Nt} {P : List Nt} (wT : wfT T) (wW : wfW T N P) (hm : P.length = 10) (s : whG G 0 T N P) : whG (upI (cpF G 113 57 504) 56 9) 0 T N P.tail := by
  obtain ⟨s1, s2, s3, s4⟩ := s
  refine ⟨slG_congr wT wW.1 (fun i hi => ?_) s1, ?_, by rw [List.length_tail]; omega, fun j q => ?_⟩
  · rw [upI_n (by omega), cpF_out (by omega)]
  · rw [show (0 : Nat) + 56 = 56 from rfl, upI_s, List.length_tail, hm]
    rfl
  · rw [List.length_tail] at q
    rw [List.getElem_tail]
    refine slG_congr wT (wW.2 _ (List.getElem_mem (by omega))) (fun i hi => ?_) (s4 (j + 1) (by omega))
    rw [upI_n (by omega), show 0 + 57 + 56 * j + i = 57 + (56 * j + i) by omega, cpF_in (by omega)]
    exact congrArg G (by omega)
/-- what was known, one night more -/
def knP (P : List Nt) (N : Nt) : List Nt := (if P.length = 10 then P.tail else P) ++ [N]
theorem knP_wf {T : Td} {P : List Nt} {N N2 : Nt} (w : wfW T N P) (w2 : wfN T N2) : wfW T N2 (knP P N) := by
  refine ⟨w2, fun Q hQ => ?_⟩
  unfold knP at hQ
  rcases List.mem_append.mp hQ with z | z
  · split at z
    · exact w.2 _ (List.mem_of_mem_tail z)
    · exact w.2 _ z
  · rw [List.mem_singleton.mp z]
    exact w.1
theorem mKnow_c (d : Nat) (h : mH) (L : LAY h) (m : Nat) (hm : m ≤ 9) (e56 : gI h 150 56 = m) : resA (callA d) 158 (58, [Sum.inr (Sum.inr (some 141)), Sum.inl 0], [], h) = some (none, aI h 150 (upI (cpF (gI h 150) 0 (57 + 56 * m) 56) 56 ((m + 1 : Nat) : Int))) := by
  have e := mKnow_b d h L m hm e56 56 0 rfl
  rw [cpF_0, aI_id] at e
  exact e
theorem mKnow_ok (d : Nat) (h : mH) (L : LAY h) (T : Td) (N : Nt) (P : List Nt) (wT : wfT T) (wW : wfW T N P) (s : whG (gI h 150) 0 T N P) : ∃ G, callA (d + 1) 158 [Sum.inr (Sum.inr (some 141))] h = some (none, aI h 150 G) ∧ whG G 0 T N (knP P N) ∧ ∀ k, (k < 56 ∨ 617 ≤ k) → G k = gI h 150 k := by
  have s2 : gI h 150 56 = P.length := s.2.1
  have s3 := s.2.2.1
  obtain ⟨k141, j141⟩ := lay_k L (a := 141) (t := 8) (n := 26) rfl; obtain ⟨k150, j150⟩ := lay_k L (a := 150) (t := 100) (n := 1851) rfl; have r141_16 : gR h 141 16 = some 150 := lay_r L rfl
  rw [en_158]
  by_cases z : P.length = 10
  · have w := whG_shift wT wW z s
    have e := mKnow_a d h L 504 0 rfl
    rw [cpF_0, aI_id, show ((0 : Nat) : Int) = 0 from rfl] at e
    generalize eg : aI h 150 (upI (cpF (gI h 150) 113 57 504) 56 9) = g
    have gg : gI g 150 = upI (cpF (gI h 150) 113 57 504) 56 9 := by rw [← eg, gI_aI]
    have L2 : LAY g := by rw [← eg]; exact lay_aI L _ _
    have e3 : cpF (gI h 150) 113 57 504 56 = 10 := by rw [cpF_out (by omega), s2, z]; rfl
    have c := mKnow_c d g L2 9 (by omega) (by rw [gg, upI_s]; rfl)
    rw [gg, ← eg, aI_aI] at c
    refine ⟨upI (cpF (upI (cpF (gI h 150) 113 57 504) 56 9) 0 (57 + 56 * 9) 56) 56 ((9 + 1 : Nat) : Int), ?_, ?_, ?_⟩
    rotate_left
    · unfold knP
      rw [if_pos z]
      refine whG_push wT ⟨wW.1, fun Q hQ => wW.2 _ (List.mem_of_mem_tail hQ)⟩ 9 (by rw [List.length_tail]; omega) (by omega) w
    · intro k hk
      rw [upI_n (by omega), cpF_out (by omega), upI_n (by omega), cpF_out (by omega)]
    · simp (disch := (first | omega | (simp only [kd_sI, kd_sL, kd_sR, kd_cp, kd_aI]; omega) | (unfold catV; exact rfl) | (unfold catS; exact Nat.le_of_ble_eq_true rfl) | assumption)) only [q_158_0, q_158_1, q_158_4, q_158_6, q_158_7, q_158_9_t, q_158_9_f, q_158_12, q_158_13, q_158_15, q_158_18_t, q_158_18_f, q_158_21, q_158_22, q_158_25, q_158_27, q_158_28, q_158_29, q_158_30, q_158_33, q_158_35, q_158_36, q_158_37, q_158_38, q_158_39, q_158_42, q_158_45, q_158_46, q_158_49, q_158_51, q_158_52, q_158_53, q_158_54, q_158_55, q_158_56, q_158_57, q_158_59, q_158_61_t, q_158_61_f, q_158_64, q_158_65, q_158_68, q_158_70, q_158_72, q_158_73, q_158_76, q_158_78, q_158_79, q_158_80, q_158_81, q_158_82, q_158_83, q_158_84, q_158_87, q_158_88, q_158_89, q_158_90, q_158_93, q_158_96, q_158_97, q_158_100, q_158_102, q_158_103, q_158_104, q_158_105, q_158_106, q_158_107, aft_i, aft_l, aft_v, Int.toNat_natCast, kd_sI, kd_sL, kd_sR, kd_cp, gI_sL, gI_sR, gL_sI, gL_sR, gR_sI, gR_sL, gL_cp, gR_cp, kd_aI, gL_aI, gR_aI, gI_aI, gI_aIn, sI_aI, gI_sIn, Int.reduceToNat, Int.reduceAdd, Int.reduceSub, Int.reduceMul, Int.reduceNeg, Int.zero_add, r141_16, s2, z, e, e3]
      exact c
  · have c := mKnow_c d h L P.length (by omega) s2
    refine ⟨upI (cpF (gI h 150) 0 (57 + 56 * P.length) 56) 56 ((P.length + 1 : Nat) : Int), ?_, ?_, ?_⟩
    rotate_left
    · unfold knP
      rw [if_neg z]
      exact whG_push wT wW _ rfl (by omega) s
    · intro k hk
      rw [upI_n (by omega), cpF_out (by omega)]
    · have zi : (P.length : Int) ≠ 10 := by omega
      simp (disch := (first | omega | (simp only [kd_sI, kd_sL, kd_sR, kd_cp, kd_aI]; omega) | (unfold catV; exact rfl) | (unfold catS; exact Nat.le_of_ble_eq_true rfl) | assumption)) only [q_158_0, q_158_1, q_158_4, q_158_6, q_158_7, q_158_9_t, q_158_9_f, q_158_12, q_158_13, q_158_15, q_158_18_t, q_158_18_f, q_158_21, q_158_22, q_158_25, q_158_27, q_158_28, q_158_29, q_158_30, q_158_33, q_158_35, q_158_36, q_158_37, q_158_38, q_158_39, q_158_42, q_158_45, q_158_46, q_158_49, q_158_51, q_158_52, q_158_53, q_158_54, q_158_55, q_158_56, q_158_57, q_158_59, q_158_61_t, q_158_61_f, q_158_64, q_158_65, q_158_68, q_158_70, q_158_72, q_158_73, q_158_76, q_158_78, q_158_79, q_158_80, q_158_81, q_158_82, q_158_83, q_158_84, q_158_87, q_158_88, q_158_89, q_158_90, q_158_93, q_158_96, q_158_97, q_158_100, q_158_102, q_158_103, q_158_104, q_158_105, q_158_106, q_158_107, aft_i, aft_l, aft_v, Int.toNat_natCast, kd_sI, kd_sL, kd_sR, kd_cp, gI_sL, gI_sR, gL_sI, gL_sR, gR_sI, gR_sL, gL_cp, gR_cp, kd_aI, gL_aI, gR_aI, gI_aI, gI_aIn, sI_aI, gI_sIn, Int.reduceToNat, Int.reduceAdd, Int.reduceSub, Int.reduceMul, Int.reduceNeg, Int.zero_add, r141_16, s2, zi]
      exact c
/-- only the living night, its past and the tables of the moment -/
def evA (h g : mH) : Prop := g.1 = h.1 ∧ (∀ q k, (q ≠ 150 ∨ 617 ≤ k) → ¬ (152 ≤ q ∧ q ≤ 155) → ¬ (q = 141 ∧ k = 19) → gI g q k = gI h q k) ∧ gL g = gL h ∧ gR g = gR h
theorem evA_tr {h g k : mH} (a : evA h g) (b : evA g k) : evA h k := ⟨b.1.trans a.1, fun q j w x y => (b.2.1 q j w x y).trans (a.2.1 q j w x y), b.2.2.1.trans a.2.2.1, b.2.2.2.trans a.2.2.2⟩
theorem evA_scr {h g : mH} (a : scr h g) : evA h g := ⟨a.1, fun q k _ x y => a.2.1 q k x y, a.2.2⟩
theorem evA_rf (h : mH) : evA h h := evA_scr (scr_rf h)
theorem evA_L {h g : mH} (a : evA h g) (L : LAY h) : LAY g := lay_keep L a.1 a.2.2.2
theorem evA_aI {h : mH} {G : Nat → Int} (x : ∀ k, 617 ≤ k → G k = gI h 150 k) : evA h (aI h 150 G) := ⟨rfl, fun q k w _ _ => by
  by_cases z : q = 150
  · subst z
    rw [gI_aI]
    exact x k (by omega)
  · rw [gI_aIn z], rfl, rfl⟩
theorem evA_q {h g : mH} (a : evA h g) {q : Nat} (x : ¬ (152 ≤ q ∧ q ≤ 155)) (y : q ≠ 141) (z : q ≠ 150) : gI g q = gI h q := funext fun k => a.2.1 q k (Or.inl z) x (fun z => y z.1)
theorem evA_mT {h g : mH} {T : Td} (a : evA h g) (t : mT h T) : mT g T := by
  unfold mT at t ⊢
  rw [evA_q a (by omega) (by omega) (by omega), evA_q a (by omega) (by omega) (by omega), evA_q a (by omega) (by omega) (by omega), evA_q a (by omega) (by omega) (by omega), evA_q a (by omega) (by omega) (by omega), evA_q a (by omega) (by omega) (by omega)]
  exact t
