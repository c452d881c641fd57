theorem lexV_inj : ∀ {l q : List Nat}, b8 l → b8 q → l.length = q.length → lexV l = lexV q → l = q
  | [], [], _, _, _, _ => rfl
  | [], _ :: _, _, _, e, _ => by cases e
  | _ :: _, [], _, _, e, _ => by cases e
  | a :: t, b :: s, h1, h2, e, v => by
    have e2 : t.length = s.length := by simpa using e
    have l1 := b8_t h1
    have l2 := b8_t h2
    by_cases z : a = b
    · subst z
      have : lexV t = lexV s := Nat.le_antisymm ((lexV_e e2).1.mp (Nat.le_of_eq v)) ((lexV_e e2.symm).1.mp (Nat.le_of_eq v.symm))
      rw [lexV_inj l1 l2 e2 this]
    · by_cases y : a < b
      · have := lexV_c y e2 l1
        omega
      · have := lexV_c (show b < a by omega) e2.symm l2
        omega
/-- p before q: by a key, then by numbers -/
def bet (K : List Nat → Int) (p q : List Nat) : Prop := K p < K q ∨ (K p = K q ∧ lexV p ≤ lexV q)
def isBest (K : List Nat → Int) (l0 b : List Nat) : Prop := b.Perm l0 ∧ ∀ q : List Nat, q.Perm l0 → bet K b q
theorem bet_tr {K : List Nat → Int} {p q r : List Nat} (a : bet K p q) (b : bet K q r) : bet K p r := by
  unfold bet at *
  omega
theorem isBest_un {K : List Nat → Int} {l0 b c : List Nat} (h8 : b8 l0) (x : isBest K l0 b) (y : isBest K l0 c) : b = c := by
  have p := x.2 c y.1
  have q := y.2 b x.1
  unfold bet at p q
  exact lexV_inj (b8_p x.1 h8) (b8_p y.1 h8) (x.1.length_eq.trans y.1.length_eq.symm) (by omega)
def nwB (K : List Nat → Int) (o : Option (List Nat)) (l : List Nat) : Prop := match o with
  | none => True
  | some b => K l < K b
def seenB (K : List Nat → Int) (l0 : List Nat) (o : Option (List Nat)) (l : List Nat) : Prop := (∀ b, o = some b → b.Perm l0 ∧ lexV b < lexV l) ∧ ∀ q : List Nat, q.Perm l0 → lexV q < lexV l → ∃ b, o = some b ∧ bet K b q
def doneB (K : List Nat → Int) (l0 b l : List Nat) : Prop := b.Perm l0 ∧ lexV b ≤ lexV l ∧ ∀ q : List Nat, q.Perm l0 → lexV q ≤ lexV l → bet K b q
theorem seen_0 {K : List Nat → Int} {l0 : List Nat} (h8 : b8 l0) (ha : Asc l0) : seenB K l0 none l0 := ⟨fun b e => (by cases e), fun q p lt => absurd (asc_bot h8 ha q p) (Nat.not_le.mpr lt)⟩
theorem seen_t {K : List Nat → Int} {l0 l : List Nat} {o : Option (List Nat)} (h8 : b8 l0) (p : l.Perm l0) (s : seenB K l0 o l) (n : nwB K o l) : doneB K l0 l l := by
  refine ⟨p, Nat.le_refl _, fun q pq le => ?_⟩
  by_cases z : lexV q = lexV l
  · exact Or.inr ⟨by rw [lexV_inj (b8_p pq h8) (b8_p p h8) (pq.length_eq.trans p.length_eq.symm) z], Nat.le_of_eq z.symm⟩
  · obtain ⟨b, e, hb⟩ := s.2 q pq (by omega)
    subst e
    have n : K l < K b := n
    unfold bet at hb
    left
    omega
theorem seen_f {K : List Nat → Int} {l0 l : List Nat} {o : Option (List Nat)} (h8 : b8 l0) (p : l.Perm l0) (s : seenB K l0 o l) (n : ¬ nwB K o l) : ∃ b, o = some b ∧ doneB K l0 b l := by
  cases o with
  | none => exact absurd trivial n
  | some b =>
    have n : ¬ K l < K b := n
    obtain ⟨pb, lb⟩ := s.1 b rfl
    refine ⟨b, rfl, pb, Nat.le_of_lt lb, fun q pq le => ?_⟩
    by_cases z : lexV q = lexV l
    · have e := lexV_inj (b8_p pq h8) (b8_p p h8) (pq.length_eq.trans p.length_eq.symm) z
      subst e
      unfold bet
      omega
    · obtain ⟨b2, e, hb⟩ := s.2 q pq (by omega)
      injection e with e
      subst e
      exact hb
theorem done_n {K : List Nat → Int} {l0 b l l2 : List Nat} (p : l.Perm l0) (h : doneB K l0 b l) (n : NX l l2) : seenB K l0 (some b) l2 := by
  refine ⟨fun c e => ?_, fun q pq lt => ⟨b, rfl, h.2.2 q pq ?_⟩⟩
  · injection e with e
    subst e
    exact ⟨h.1, Nat.lt_of_le_of_lt h.2.1 n.2.1⟩
  · by_cases z : lexV q ≤ lexV l
    · exact z
    · have := n.2.2 q (pq.trans p.symm) (by omega)
      omega
theorem done_e {K : List Nat → Int} {l0 b l : List Nat} (h8 : b8 l0) (p : l.Perm l0) (h : doneB K l0 b l) (n : Desc l) : isBest K l0 b := ⟨h.1, fun q pq => h.2.2 q pq (desc_top (b8_p p h8) n q (pq.trans p.symm))⟩
def bK (T : Td) (N : Nt) : Option (List Nat) → Int
  | none => -1
  | some b => keyL T N b
def bS (T : Td) (N : Nt) : Option (List Nat) → Int
  | none => 0
  | some b => b.length - outN T (onR N b)
def bN (T : Td) (N : Nt) : Option (List Nat) → Int
  | none => 0
  | some b => nearS T (onR N b)
def bL (T : Td) (N : Nt) : Option (List Nat) → Int
  | none => -9
  | some b => lastS T (onR N b)
theorem keyL_b {T : Td} {N : Nt} (wT : wfT T) (wN : wfN T N) {l : List Nat} (nd : l.Nodup) (lb : ∀ c, c ∈ l → c < tN T) : 1 ≤ keyL T N l ∧ keyL T N l ≤ 800000 ∧ (0 ≤ outN T (onR N l) ∧ outN T (onR N l) ≤ l.length) ∧ (0 ≤ nearS T (onR N l) ∧ nearS T (onR N l) ≤ 49) ∧ -9 ≤ lastS T (onR N l) ∧ lastS T (onR N l) ≤ 40 := by
  have w2 := onR_wf wN nd lb
  have n7 : l.length ≤ 7 := Nat.le_trans (nd_len nd lb) wT.1
  have a := outN_b T (onR N l)
  have b := nearS_b T (onR N l) l.length n7
  have c := lastS_b wT w2
  have a : 0 ≤ outN T (onR N l) ∧ outN T (onR N l) ≤ l.length := a
  have b : 0 ≤ nearS T (onR N l) ∧ nearS T (onR N l) ≤ 7 * l.length := b
  unfold keyL
  omega
theorem mBest_step (d : Nat) (h : mH) (L0 : LAY h) (T : Td) (N : Nt) (wT : wfT T) (wN : wfN T N) (t : mT h T) (u : mNow h T N) (i : Int) (l : List Nat) (nd : l.Nodup) (lb : ∀ c, c ∈ l → c < tN T) (o : Option (List Nat)) (ob : ∀ b, o = some b → b.Nodup ∧ (∀ c, c ∈ b → c < tN T)) (g : mH) (s : kSt h g T N l) (x7 x8 : mV) : ∃ g2, kSt h g2 T N l ∧ (nwB (keyL T N) o l → rwO (gI g2 155) 0 l ∧ resA (callA (d + 3)) 176 (40, [Sum.inr (Sum.inr (some 141)), Sum.inl i, Sum.inl (bK T N o), Sum.inl (bS T N o), Sum.inl (bN T N o), Sum.inl (bL T N o), Sum.inl 1, x7, x8], [], g) = resA (callA (d + 3)) 176 (115, [Sum.inr (Sum.inr (some 141)), Sum.inl i, Sum.inl (bK T N (some l)), Sum.inl (bS T N (some l)), Sum.inl (bN T N (some l)), Sum.inl (bL T N (some l)), Sum.inl 1, Sum.inl (outN T (onR N l)), Sum.inl (keyL T N l)], [], g2)) ∧ (¬ nwB (keyL T N) o l → gI g2 155 = gI g 155 ∧ resA (callA (d + 3)) 176 (40, [Sum.inr (Sum.inr (some 141)), Sum.inl i, Sum.inl (bK T N o), Sum.inl (bS T N o), Sum.inl (bN T N o), Sum.inl (bL T N o), Sum.inl 1, x7, x8], [], g) = resA (callA (d + 3)) 176 (115, [Sum.inr (Sum.inr (some 141)), Sum.inl i, Sum.inl (bK T N o), Sum.inl (bS T N o), Sum.inl (bN T N o), Sum.inl (bL T N o), Sum.inl 1, Sum.inl (outN T (onR N l)), Sum.inl (keyL T N l)], [], g2)) := by
  have s0 := s
  obtain ⟨sg, h19, hr, hl⟩ := s
  have n7 : l.length ≤ 7 := Nat.le_trans (nd_len nd lb) wT.1
  obtain ⟨F, e1, su⟩ := mSetR_ok (d + 1) h L0 T N wT wN t u l nd lb g s0
  generalize eg1 : aI g 154 F = g1 at e1 su
  have s1 : scr g g1 := by rw [← eg1]; exact scr_aI (by omega)
  have sg1 := scr_tr sg s1
  have L1 := scr_L sg1 L0
  obtain ⟨e2, e3, e4⟩ := mKeys (d + 1) h L0 T N wT wN t u l nd lb g1 sg1 su
  obtain ⟨kb1, kb2, ⟨ob1, ob2⟩, ⟨nb1, nb2⟩, lb1, lb2⟩ := keyL_b wT wN nd lb
  have k1 : kSt h g1 T N l := by
    refine ⟨sg1, ?_, ?_, fun k hk => ?_⟩
    · rw [← eg1, gI_aIn (by omega)]; exact h19
    · rw [← eg1, gI_aIn (by omega)]; exact hr
    · rw [← eg1, gI_aIn (by omega)]; exact hl k hk
  have ek : 100000 * outN T (onR N l) + 1000 * nearS T (onR N l) + lastS T (onR N l) + 10 = keyL T N l := rfl
  have oo : ∀ b, o = some b → 1 ≤ bK T N o := fun b e => by
    subst e
    obtain ⟨n, x⟩ := ob b rfl
    exact (keyL_b wT wN n x).1
  by_cases z : nwB (keyL T N) o l
  · have e5 := mKeepRow_ok (d + 2) g1 L1 l.length k1.2.1 n7
    generalize eg2 : aI g1 155 (mixI l.length (gI g1 152) (gI g1 155)) = g2 at e5
    have s2 : scr g1 g2 := by rw [← eg2]; exact scr_aI (by omega)
    refine ⟨g2, ⟨scr_tr sg1 s2, ?_, ?_, fun k hk => ?_⟩, fun _ => ⟨?_, ?_⟩, fun y => absurd z y⟩
    · rw [← eg2, gI_aIn (by omega)]; exact k1.2.1
    · rw [← eg2, gI_aIn (by omega)]; exact k1.2.2.1
    · rw [← eg2, gI_aIn (by omega)]; exact k1.2.2.2 k hk
    · rw [← eg2, gI_aI]
      refine rwO_congr (fun i hi => ?_) k1.2.2.1
      rw [Nat.zero_add, mixI_in hi]
    · have kc : bK T N o < 0 ∨ keyL T N l < bK T N o := by
        cases o with
        | none => left; show (-1 : Int) < 0; omega
        | some b => right; exact z
      have h19b := k1.2.1
      generalize bK T N o = ko at kc oo ⊢
      show _ = resA (callA (d + 3)) 176 (115, [Sum.inr (Sum.inr (some 141)), Sum.inl i, Sum.inl (keyL T N l), Sum.inl ((l.length : Int) - outN T (onR N l)), Sum.inl (nearS T (onR N l)), Sum.inl (lastS T (onR N l)), Sum.inl 1, Sum.inl (outN T (onR N l)), Sum.inl (keyL T N l)], [], g2)
      obtain ⟨m1, m2⟩ := lay_k (scr_L sg L0) (a := 141) (t := 8) (n := 26) rfl
      obtain ⟨m3, m4⟩ := lay_k L1 (a := 141) (t := 8) (n := 26) rfl
      by_cases y : ko < 0
      · simp (disch := (first | omega | (simp only [kd_sI, kd_sL, kd_sR, kd_cp, kd_aI]; omega) | (unfold catV; exact rfl) | (unfold catS; exact Nat.le_of_ble_eq_true rfl) | assumption)) only [q_176_0, q_176_1, q_176_3, q_176_5, q_176_8_t, q_176_8_f, q_176_11, q_176_12, q_176_13, q_176_14, q_176_17, q_176_18, q_176_21, q_176_22, q_176_23, q_176_24, q_176_25, q_176_26, q_176_28, q_176_30, q_176_32, q_176_33, q_176_35, q_176_37_t, q_176_37_f, q_176_40, q_176_41, q_176_44, q_176_45, q_176_48, q_176_50, q_176_52, q_176_54, q_176_55, q_176_58, q_176_59, q_176_60, q_176_63, q_176_64, q_176_65, q_176_66, q_176_67, q_176_70, q_176_71, q_176_73, q_176_74, q_176_76, q_176_77_t, q_176_77_f, q_176_80, q_176_82, q_176_83_t, q_176_83_f, q_176_86, q_176_88, q_176_89, q_176_90, q_176_93, q_176_95, q_176_96, q_176_97, q_176_98, q_176_99, q_176_102, q_176_104, q_176_105, q_176_106, q_176_109, q_176_111, q_176_112, q_176_116, q_176_119, q_176_121, q_176_124, q_176_125_0, q_176_125_1, q_176_125_2, q_176_125_d, q_176_152, q_176_153, q_176_154, q_176_156, q_176_157, q_176_159, q_176_160, q_176_161, q_176_162, q_176_165_t, q_176_165_f, q_176_168, q_176_169, q_176_172, q_176_173, q_176_174, q_176_177, q_176_179, aft_i, aft_l, aft_v, Int.toNat_natCast, kd_sI, kd_sL, kd_sR, kd_cp, gI_sL, gI_sR, gL_sI, gL_sR, gR_sI, gR_sL, gL_cp, gR_cp, kd_aI, gL_aI, gR_aI, gI_aI, gI_aIn, sI_aI, gI_sIn, Int.reduceToNat, Int.reduceAdd, Int.reduceSub, Int.reduceMul, Int.reduceNeg, Int.zero_add, e1, e2, e3, e4, e5, ek, h19b]
      · have y2 : keyL T N l < ko := by omega
        simp (disch := (first | omega | (simp only [kd_sI, kd_sL, kd_sR, kd_cp, kd_aI]; omega) | (unfold catV; exact rfl) | (unfold catS; exact Nat.le_of_ble_eq_true rfl) | assumption)) only [q_176_0, q_176_1, q_176_3, q_176_5, q_176_8_t, q_176_8_f, q_176_11, q_176_12, q_176_13, q_176_14, q_176_17, q_176_18, q_176_21, q_176_22, q_176_23, q_176_24, q_176_25, q_176_26, q_176_28, q_176_30, q_176_32, q_176_33, q_176_35, q_176_37_t, q_176_37_f, q_176_40, q_176_41, q_176_44, q_176_45, q_176_48, q_176_50, q_176_52, q_176_54, q_176_55, q_176_58, q_176_59, q_176_60, q_176_63, q_176_64, q_176_65, q_176_66, q_176_67, q_176_70, q_176_71, q_176_73, q_176_74, q_176_76, q_176_77_t, q_176_77_f, q_176_80, q_176_82, q_176_83_t, q_176_83_f, q_176_86, q_176_88, q_176_89, q_176_90, q_176_93, q_176_95, q_176_96, q_176_97, q_176_98, q_176_99, q_176_102, q_176_104, q_176_105, q_176_106, q_176_109, q_176_111, q_176_112, q_176_116, q_176_119, q_176_121, q_176_124, q_176_125_0, q_176_125_1, q_176_125_2, q_176_125_d, q_176_152, q_176_153, q_176_154, q_176_156, q_176_157, q_176_159, q_176_160, q_176_161, q_176_162, q_176_165_t, q_176_165_f, q_176_168, q_176_169, q_176_172, q_176_173, q_176_174, q_176_177, q_176_179, aft_i, aft_l, aft_v, Int.toNat_natCast, kd_sI, kd_sL, kd_sR, kd_cp, gI_sL, gI_sR, gL_sI, gL_sR, gR_sI, gR_sL, gL_cp, gR_cp, kd_aI, gL_aI, gR_aI, gI_aI, gI_aIn, sI_aI, gI_sIn, Int.reduceToNat, Int.reduceAdd, Int.reduceSub, Int.reduceMul, Int.reduceNeg, Int.zero_add, e1, e2, e3, e4, e5, ek, h19b]
  · refine ⟨g1, k1, fun y => absurd y z, fun _ => ⟨?_, ?_⟩⟩
    · rw [← eg1, gI_aIn (by omega)]
    · have kc : 0 ≤ bK T N o ∧ bK T N o ≤ keyL T N l := by
        cases o with
        | none => exact absurd trivial z
        | some b =>
          have := oo b rfl
          have z2 : ¬ keyL T N l < keyL T N b := z
          show 0 ≤ keyL T N b ∧ keyL T N b ≤ _
          have : 1 ≤ keyL T N b := this
          omega
      generalize bK T N o = ko at kc oo ⊢
      obtain ⟨m1, m2⟩ := lay_k (scr_L sg L0) (a := 141) (t := 8) (n := 26) rfl
      obtain ⟨m3, m4⟩ := lay_k L1 (a := 141) (t := 8) (n := 26) rfl
      simp (disch := (first | omega | (simp only [kd_sI, kd_sL, kd_sR, kd_cp, kd_aI]; omega) | (unfold catV; exact rfl) | (unfold catS; exact Nat.le_of_ble_eq_true rfl) | assumption)) only [q_176_0, q_176_1, q_176_3, q_176_5, q_176_8_t, q_176_8_f, q_176_11, q_176_12, q_176_13, q_176_14, q_176_17, q_176_18, q_176_21, q_176_22, q_176_23, q_176_24, q_176_25, q_176_26, q_176_28, q_176_30, q_176_32, q_176_33, q_176_35, q_176_37_t, q_176_37_f, q_176_40, q_176_41, q_176_44, q_176_45, q_176_48, q_176_50, q_176_52, q_176_54, q_176_55, q_176_58, q_176_59, q_176_60, q_176_63, q_176_64, q_176_65, q_176_66, q_176_67, q_176_70, q_176_71, q_176_73, q_176_74, q_176_76, q_176_77_t, q_176_77_f, q_176_80, q_176_82, q_176_83_t, q_176_83_f, q_176_86, q_176_88, q_176_89, q_176_90, q_176_93, q_176_95, q_176_96, q_176_97, q_176_98, q_176_99, q_176_102, q_176_104, q_176_105, q_176_106, q_176_109, q_176_111, q_176_112, q_176_116, q_176_119, q_176_121, q_176_124, q_176_125_0, q_176_125_1, q_176_125_2, q_176_125_d, q_176_152, q_176_153, q_176_154, q_176_156, q_176_157, q_176_159, q_176_160, q_176_161, q_176_162, q_176_165_t, q_176_165_f, q_176_168, q_176_169, q_176_172, q_176_173, q_176_174, q_176_177, q_176_179, aft_i, aft_l, aft_v, Int.toNat_natCast, kd_sI, kd_sL, kd_sR, kd_cp, gI_sL, gI_sR, gL_sI, gL_sR, gR_sI, gR_sL, gL_cp, gR_cp, kd_aI, gL_aI, gR_aI, gI_aI, gI_aIn, sI_aI, gI_sIn, Int.reduceToNat, Int.reduceAdd, Int.reduceSub, Int.reduceMul, Int.reduceNeg, Int.zero_add, e1, e2, e3, e4, ek]
theorem mBest_loop (d : Nat) (h : mH) (L0 : LAY h) (T : Td) (N : Nt) (wT : wfT T) (wN : wfN T N) (t : mT h T) (u : mNow h T N) (i : Int) (l0 : List Nat) (nd : l0.Nodup) (lb : ∀ c, c ∈ l0 → c < tN T) : ∀ (f : Nat) (l : List Nat) (o : Option (List Nat)) (g : mH) (x7 x8 : mV), 8 ^ 7 - lexV l ≤ f → l.Perm l0 → kSt h g T N l → (∀ b, o = some b → rwO (gI g 155) 0 b) → seenB (keyL T N) l0 o l → ∃ b g2 x9 x10, isBest (keyL T N) l0 b ∧ scr h g2 ∧ rwO (gI g2 155) 0 b ∧ gI g2 141 19 = l0.length ∧ resA (callA (d + 3)) 176 (40, [Sum.inr (Sum.inr (some 141)), Sum.inl i, Sum.inl (bK T N o), Sum.inl (bS T N o), Sum.inl (bN T N o), Sum.inl (bL T N o), Sum.inl 1, x7, x8], [], g) = resA (callA (d + 3)) 176 (124, [Sum.inr (Sum.inr (some 141)), Sum.inl i, Sum.inl (bK T N (some b)), Sum.inl (bS T N (some b)), Sum.inl (bN T N (some b)), Sum.inl (bL T N (some b)), Sum.inl 0, x9, x10], [], g2)
  | f, l, o, g, x7, x8, hf, p, s, ho, sb => by
    have c7 := wT.1
    have h8 : b8 l0 := fun x hx => by have := lb x hx; omega
    have h8l := b8_p p h8
    have ndl : l.Nodup := p.nodup_iff.mpr nd
    have lbl : ∀ c, c ∈ l → c < tN T := fun c hc => lb c (p.mem_iff.mp hc)
    have n7 : l.length ≤ 7 := Nat.le_trans (nd_len ndl lbl) c7
    have ob : ∀ b, o = some b → b.Nodup ∧ ∀ c, c ∈ b → c < tN T := fun b e => by
      have pb := (sb.1 b e).1
      exact ⟨pb.nodup_iff.mpr nd, fun c hc => lb c (pb.mem_iff.mp hc)⟩
    obtain ⟨g1, k1, hT, hF⟩ := mBest_step d h L0 T N wT wN t u i l ndl lbl o ob g s x7 x8
    have L1 := scr_L k1.1 L0
    have big : lexV l < 8 ^ 7 := Nat.lt_of_lt_of_le (lexV_lt h8l) (Nat.pow_le_pow_right (by omega) n7)
    have mid : ∃ b, doneB (keyL T N) l0 b l ∧ rwO (gI g1 155) 0 b ∧ resA (callA (d + 3)) 176 (40, [Sum.inr (Sum.inr (some 141)), Sum.inl i, Sum.inl (bK T N o), Sum.inl (bS T N o), Sum.inl (bN T N o), Sum.inl (bL T N o), Sum.inl 1, x7, x8], [], g) = resA (callA (d + 3)) 176 (115, [Sum.inr (Sum.inr (some 141)), Sum.inl i, Sum.inl (bK T N (some b)), Sum.inl (bS T N (some b)), Sum.inl (bN T N (some b)), Sum.inl (bL T N (some b)), Sum.inl 1, Sum.inl (outN T (onR N l)), Sum.inl (keyL T N l)], [], g1) := by
      by_cases z : nwB (keyL T N) o l
      · obtain ⟨r1, e1⟩ := hT z
        exact ⟨l, seen_t h8 p sb z, r1, e1⟩
      · obtain ⟨r1, e1⟩ := hF z
        obtain ⟨b, eo, db⟩ := seen_f h8 p sb z
        refine ⟨b, db, ?_, ?_⟩
        · rw [r1]; exact ho b eo
        · rw [e1, eo]
    obtain ⟨b, db, rb, e1⟩ := mid
    obtain ⟨m1, m2⟩ := lay_k L1 (a := 141) (t := 8) (n := 26) rfl
    rcases mNext_ok (d + 2) g1 L1 l ndl h8l n7 k1.2.1 k1.2.2.1 with ⟨de, e2⟩ | ⟨l2, G, nx, e2, r2⟩
    · refine ⟨b, g1, Sum.inl (outN T (onR N l)), Sum.inl (keyL T N l), done_e h8 p db de, k1.1, rb, ?_, e1.trans ?_⟩
      · rw [k1.2.1, p.length_eq]
      · simp (disch := (first | omega | (simp only [kd_sI, kd_sL, kd_sR, kd_cp, kd_aI]; omega) | (unfold catV; exact rfl) | (unfold catS; exact Nat.le_of_ble_eq_true rfl) | assumption)) only [q_176_0, q_176_1, q_176_3, q_176_5, q_176_8_t, q_176_8_f, q_176_11, q_176_12, q_176_13, q_176_14, q_176_17, q_176_18, q_176_21, q_176_22, q_176_23, q_176_24, q_176_25, q_176_26, q_176_28, q_176_30, q_176_32, q_176_33, q_176_35, q_176_37_t, q_176_37_f, q_176_40, q_176_41, q_176_44, q_176_45, q_176_48, q_176_50, q_176_52, q_176_54, q_176_55, q_176_58, q_176_59, q_176_60, q_176_63, q_176_64, q_176_65, q_176_66, q_176_67, q_176_70, q_176_71, q_176_73, q_176_74, q_176_76, q_176_77_t, q_176_77_f, q_176_80, q_176_82, q_176_83_t, q_176_83_f, q_176_86, q_176_88, q_176_89, q_176_90, q_176_93, q_176_95, q_176_96, q_176_97, q_176_98, q_176_99, q_176_102, q_176_104, q_176_105, q_176_106, q_176_109, q_176_111, q_176_112, q_176_115, q_176_116, q_176_119, q_176_121, q_176_125_0, q_176_125_1, q_176_125_2, q_176_125_d, q_176_152, q_176_153, q_176_154, q_176_156, q_176_157, q_176_159, q_176_160, q_176_161, q_176_162, q_176_165_t, q_176_165_f, q_176_168, q_176_169, q_176_172, q_176_173, q_176_174, q_176_177, q_176_179, aft_i, aft_l, aft_v, Int.toNat_natCast, kd_sI, kd_sL, kd_sR, kd_cp, gI_sL, gI_sR, gL_sI, gL_sR, gR_sI, gR_sL, gL_cp, gR_cp, kd_aI, gL_aI, gR_aI, gI_aI, gI_aIn, sI_aI, gI_sIn, Int.reduceToNat, Int.reduceAdd, Int.reduceSub, Int.reduceMul, Int.reduceNeg, Int.zero_add, e2]
    · cases f with
      | zero => omega
      | succ f =>
        have p2 := nx.1.trans p
        have s2 : scr g1 (aI g1 152 G) := scr_aI (by omega)
        obtain ⟨b3, g3, x9, x10, ib, s3, r3, n3, e3⟩ := mBest_loop d h L0 T N wT wN t u i l0 nd lb f l2 (some b) (aI g1 152 G) (Sum.inl (outN T (onR N l))) (Sum.inl (keyL T N l)) (by have := nx.2.1; omega) p2 ⟨scr_tr k1.1 s2, by rw [gI_aIn (by omega), nx.1.length_eq]; exact k1.2.1, by rw [gI_aI]; exact r2, fun k hk => by rw [gI_aIn (by omega)]; exact k1.2.2.2 k hk⟩ (fun c ec => by
          injection ec with ec
          subst ec
          rw [gI_aIn (by omega)]
          exact rb) (done_n p db nx)
        refine ⟨b3, g3, x9, x10, ib, s3, r3, n3, e1.trans ?_⟩
        rw [← e3]
        simp (disch := (first | omega | (simp only [kd_sI, kd_sL, kd_sR, kd_cp, kd_aI]; omega) | (unfold catV; exact rfl) | (unfold catS; exact Nat.le_of_ble_eq_true rfl) | assumption)) only [q_176_0, q_176_1, q_176_3, q_176_5, q_176_8_t, q_176_8_f, q_176_11, q_176_12, q_176_13, q_176_14, q_176_17, q_176_18, q_176_21, q_176_22, q_176_23, q_176_24, q_176_25, q_176_26, q_176_28, q_176_30, q_176_32, q_176_33, q_176_35, q_176_37_t, q_176_37_f, q_176_41, q_176_44, q_176_45, q_176_48, q_176_50, q_176_52, q_176_54, q_176_55, q_176_58, q_176_59, q_176_60, q_176_63, q_176_64, q_176_65, q_176_66, q_176_67, q_176_70, q_176_71, q_176_73, q_176_74, q_176_76, q_176_77_t, q_176_77_f, q_176_80, q_176_82, q_176_83_t, q_176_83_f, q_176_86, q_176_88, q_176_89, q_176_90, q_176_93, q_176_95, q_176_96, q_176_97, q_176_98, q_176_99, q_176_102, q_176_104, q_176_105, q_176_106, q_176_109, q_176_111, q_176_112, q_176_115, q_176_116, q_176_119, q_176_121, q_176_124, q_176_125_0, q_176_125_1, q_176_125_2, q_176_125_d, q_176_152, q_176_153, q_176_154, q_176_156, q_176_157, q_176_159, q_176_160, q_176_161, q_176_162, q_176_165_t, q_176_165_f, q_176_168, q_176_169, q_176_172, q_176_173, q_176_174, q_176_177, q_176_179, aft_i, aft_l, aft_v, Int.toNat_natCast, kd_sI, kd_sL, kd_sR, kd_cp, gI_sL, gI_sR, gL_sI, gL_sR, gR_sI, gR_sL, gL_cp, gR_cp, kd_aI, gL_aI, gR_aI, gI_aI, gI_aIn, sI_aI, gI_sIn, Int.reduceToNat, Int.reduceAdd, Int.reduceSub, Int.reduceMul, Int.reduceNeg, Int.zero_add, e2]
theorem notLost_asc (N : Nt) (n : Nat) : Asc (notLost N n) := List.Pairwise.filter _ List.pairwise_lt_range
theorem notLost_mem {N : Nt} {n c : Nat} : c ∈ notLost N n ↔ c < n ∧ c ∈ rowL N := by
  unfold notLost
  rw [List.mem_filter, List.mem_range, decide_eq_true_iff]
theorem notLost_nd (N : Nt) (n : Nat) : (notLost N n).Nodup := List.Pairwise.filter _ List.nodup_range
theorem notLost_perm {T : Td} {N : Nt} (w : wfN T N) : (notLost N (tN T)).Perm (rowL N) := (List.perm_ext_iff_of_nodup (notLost_nd N _) (rowL_nd w)).mpr (fun c => by
  rw [notLost_mem]
  exact ⟨fun h => h.2, fun h => ⟨rowL_lt w h, h⟩⟩)
def bstA (T : Td) (N : Nt) (i : Int) (b : List Nat) : Int := if -3 ≤ i ∧ i ≤ 6 then (if i = -1 then b.length - outN T (onR N b) else if i = -2 then nearS T (onR N b) else if i = -3 then lastS T (onR N b) else if i < b.length then ofL b i.toNat else -9) else -1
theorem mBest_ok (d : Nat) (h : mH) (L0 : LAY h) (T : Td) (N : Nt) (wT : wfT T) (wN : wfN T N) (t : mT h T) (u : mNow h T N) (i : Int) : ∃ b g, isBest (keyL T N) (notLost N (tN T)) b ∧ callA (d + 4) 176 [Sum.inr (Sum.inr (some 141)), Sum.inl i] h = some (some (Sum.inl (bstA T N i b)), g) ∧ scr h g := by
  have c7 := wT.1
  have k4 := wT.2.1
  have e1 := mLand_ok (d + 2) h L0
  generalize eg1 : aI h 153 (mixI 40 (fun j => gI h 150 (16 + j)) (gI h 153)) = g1 at e1
  have s1 : scr h g1 := by rw [← eg1]; exact scr_aI (by omega)
  have L1 := scr_L s1 L0
  obtain ⟨g2, e2, s2, h19, hr, hf⟩ := mFirst_ok (d + 1) g1 L1 T N wT wN (scr_mT s1 t) (scr_mN s1 u)
  have s12 := scr_tr s1 s2
  have hl2 : ∀ k, k < tK T → gI g2 153 k = lnd T N k := fun k hk => by
    rw [hf, ← eg1, gI_aI, mixI_in (by omega)]
    exact u.2.2.2.2 k hk
  have h8 : b8 (notLost N (tN T)) := fun x hx => by have := (notLost_mem.mp hx).1; omega
  obtain ⟨b, g3, x9, x10, ib, s3, r3, n3, e3⟩ := mBest_loop d h L0 T N wT wN t u i (notLost N (tN T)) (notLost_nd N _) (fun c hc => (notLost_mem.mp hc).1) (8 ^ 7) (notLost N (tN T)) none g2 (Sum.inr (Sum.inr none)) (Sum.inr (Sum.inr none)) (by omega) (List.Perm.refl _) ⟨s12, h19, hr, hl2⟩ (fun b e => (by cases e)) (seen_0 h8 (notLost_asc N _))
  have e4 : resA (callA (d + 3)) 176 (40, [Sum.inr (Sum.inr (some 141)), Sum.inl i, Sum.inl (-1), Sum.inl 0, Sum.inl 0, Sum.inl (-9), Sum.inl 1, Sum.inr (Sum.inr none), Sum.inr (Sum.inr none)], [], g2) = resA (callA (d + 3)) 176 (124, [Sum.inr (Sum.inr (some 141)), Sum.inl i, Sum.inl (keyL T N b), Sum.inl ((b.length : Int) - outN T (onR N b)), Sum.inl (nearS T (onR N b)), Sum.inl (lastS T (onR N b)), Sum.inl 0, x9, x10], [], g3) := e3
  have L2 := scr_L s12 L0
  have L3 := scr_L s3 L0
  have bl := ib.1.length_eq
  have b7 : b.length ≤ 7 := by have := notLost_le (N := N) (n := tN T); omega
  rw [← bl] at n3
  refine ⟨b, if -3 ≤ i ∧ i ≤ 6 then g3 else h, ib, ?_, by split; exact s3; exact scr_rf h⟩
  unfold bstA
  obtain ⟨m1, m2⟩ := lay_k L2 (a := 141) (t := 8) (n := 26) rfl
  obtain ⟨m3, m4⟩ := lay_k L1 (a := 141) (t := 8) (n := 26) rfl
  obtain ⟨m5, m6⟩ := lay_k L3 (a := 141) (t := 8) (n := 26) rfl
  obtain ⟨m7, m8⟩ := lay_k L3 (a := 155) (t := 100) (n := 7) rfl
  have r22 : gR g3 141 22 = some 155 := lay_r L3 rfl
  by_cases hi : -3 ≤ i ∧ i ≤ 6
  · rw [if_pos hi, if_pos hi]
    have fin := in_t (d + 2) h i (-3) 6 hi
    obtain ⟨k141, j141⟩ := lay_k L0 (a := 141) (t := 8) (n := 26) rfl
    rw [en_176]
    by_cases z1 : i = -1
    · subst z1
      simp (disch := (first | omega | (simp only [kd_sI, kd_sL, kd_sR, kd_cp, kd_aI]; omega) | (unfold catV; exact rfl) | (unfold catS; exact Nat.le_of_ble_eq_true rfl) | assumption)) only [q_176_0, q_176_1, q_176_3, q_176_5, q_176_8_t, q_176_8_f, q_176_11, q_176_12, q_176_13, q_176_14, q_176_17, q_176_18, q_176_21, q_176_22, q_176_23, q_176_24, q_176_25, q_176_26, q_176_28, q_176_30, q_176_32, q_176_33, q_176_35, q_176_37_t, q_176_37_f, q_176_41, q_176_44, q_176_45, q_176_48, q_176_50, q_176_52, q_176_54, q_176_55, q_176_58, q_176_59, q_176_60, q_176_63, q_176_64, q_176_65, q_176_66, q_176_67, q_176_70, q_176_71, q_176_73, q_176_74, q_176_76, q_176_77_t, q_176_77_f, q_176_80, q_176_82, q_176_83_t, q_176_83_f, q_176_86, q_176_88, q_176_89, q_176_90, q_176_93, q_176_95, q_176_96, q_176_97, q_176_98, q_176_99, q_176_102, q_176_104, q_176_105, q_176_106, q_176_109, q_176_111, q_176_112, q_176_115, q_176_116, q_176_119, q_176_121, q_176_124, q_176_125_0, q_176_125_1, q_176_125_2, q_176_125_d, q_176_152, q_176_153, q_176_154, q_176_156, q_176_157, q_176_159, q_176_160, q_176_161, q_176_162, q_176_165_t, q_176_165_f, q_176_168, q_176_169, q_176_172, q_176_173, q_176_174, q_176_177, q_176_179, aft_i, aft_l, aft_v, Int.toNat_natCast, kd_sI, kd_sL, kd_sR, kd_cp, gI_sL, gI_sR, gL_sI, gL_sR, gR_sI, gR_sL, gL_cp, gR_cp, kd_aI, gL_aI, gR_aI, gI_aI, gI_aIn, sI_aI, gI_sIn, Int.reduceToNat, Int.reduceAdd, Int.reduceSub, Int.reduceMul, Int.reduceNeg, Int.zero_add, fin, e1, e2]
      rw [e4]
      simp (disch := (first | omega | (simp only [kd_sI, kd_sL, kd_sR, kd_cp, kd_aI]; omega) | (unfold catV; exact rfl) | (unfold catS; exact Nat.le_of_ble_eq_true rfl) | assumption)) only [q_176_0, q_176_1, q_176_3, q_176_5, q_176_8_t, q_176_8_f, q_176_11, q_176_12, q_176_13, q_176_14, q_176_17, q_176_18, q_176_21, q_176_22, q_176_23, q_176_24, q_176_25, q_176_26, q_176_28, q_176_30, q_176_32, q_176_33, q_176_35, q_176_37_t, q_176_37_f, q_176_41, q_176_44, q_176_45, q_176_48, q_176_50, q_176_52, q_176_54, q_176_55, q_176_58, q_176_59, q_176_60, q_176_63, q_176_64, q_176_65, q_176_66, q_176_67, q_176_70, q_176_71, q_176_73, q_176_74, q_176_76, q_176_77_t, q_176_77_f, q_176_80, q_176_82, q_176_83_t, q_176_83_f, q_176_86, q_176_88, q_176_89, q_176_90, q_176_93, q_176_95, q_176_96, q_176_97, q_176_98, q_176_99, q_176_102, q_176_104, q_176_105, q_176_106, q_176_109, q_176_111, q_176_112, q_176_115, q_176_116, q_176_119, q_176_121, q_176_124, q_176_125_0, q_176_125_1, q_176_125_2, q_176_125_d, q_176_152, q_176_153, q_176_154, q_176_156, q_176_157, q_176_159, q_176_160, q_176_161, q_176_162, q_176_165_t, q_176_165_f, q_176_168, q_176_169, q_176_172, q_176_173, q_176_174, q_176_177, q_176_179, aft_i, aft_l, aft_v, Int.toNat_natCast, kd_sI, kd_sL, kd_sR, kd_cp, gI_sL, gI_sR, gL_sI, gL_sR, gR_sI, gR_sL, gL_cp, gR_cp, kd_aI, gL_aI, gR_aI, gI_aI, gI_aIn, sI_aI, gI_sIn, Int.reduceToNat, Int.reduceAdd, Int.reduceSub, Int.reduceMul, Int.reduceNeg, Int.zero_add]
      rfl
    by_cases z2 : i = -2
    · subst z2
      simp (disch := (first | omega | (simp only [kd_sI, kd_sL, kd_sR, kd_cp, kd_aI]; omega) | (unfold catV; exact rfl) | (unfold catS; exact Nat.le_of_ble_eq_true rfl) | assumption)) only [q_176_0, q_176_1, q_176_3, q_176_5, q_176_8_t, q_176_8_f, q_176_11, q_176_12, q_176_13, q_176_14, q_176_17, q_176_18, q_176_21, q_176_22, q_176_23, q_176_24, q_176_25, q_176_26, q_176_28, q_176_30, q_176_32, q_176_33, q_176_35, q_176_37_t, q_176_37_f, q_176_41, q_176_44, q_176_45, q_176_48, q_176_50, q_176_52, q_176_54, q_176_55, q_176_58, q_176_59, q_176_60, q_176_63, q_176_64, q_176_65, q_176_66, q_176_67, q_176_70, q_176_71, q_176_73, q_176_74, q_176_76, q_176_77_t, q_176_77_f, q_176_80, q_176_82, q_176_83_t, q_176_83_f, q_176_86, q_176_88, q_176_89, q_176_90, q_176_93, q_176_95, q_176_96, q_176_97, q_176_98, q_176_99, q_176_102, q_176_104, q_176_105, q_176_106, q_176_109, q_176_111, q_176_112, q_176_115, q_176_116, q_176_119, q_176_121, q_176_124, q_176_125_0, q_176_125_1, q_176_125_2, q_176_125_d, q_176_152, q_176_153, q_176_154, q_176_156, q_176_157, q_176_159, q_176_160, q_176_161, q_176_162, q_176_165_t, q_176_165_f, q_176_168, q_176_169, q_176_172, q_176_173, q_176_174, q_176_177, q_176_179, aft_i, aft_l, aft_v, Int.toNat_natCast, kd_sI, kd_sL, kd_sR, kd_cp, gI_sL, gI_sR, gL_sI, gL_sR, gR_sI, gR_sL, gL_cp, gR_cp, kd_aI, gL_aI, gR_aI, gI_aI, gI_aIn, sI_aI, gI_sIn, Int.reduceToNat, Int.reduceAdd, Int.reduceSub, Int.reduceMul, Int.reduceNeg, Int.zero_add, fin, e1, e2]
      rw [e4]
      simp (disch := (first | omega | (simp only [kd_sI, kd_sL, kd_sR, kd_cp, kd_aI]; omega) | (unfold catV; exact rfl) | (unfold catS; exact Nat.le_of_ble_eq_true rfl) | assumption)) only [q_176_0, q_176_1, q_176_3, q_176_5, q_176_8_t, q_176_8_f, q_176_11, q_176_12, q_176_13, q_176_14, q_176_17, q_176_18, q_176_21, q_176_22, q_176_23, q_176_24, q_176_25, q_176_26, q_176_28, q_176_30, q_176_32, q_176_33, q_176_35, q_176_37_t, q_176_37_f, q_176_41, q_176_44, q_176_45, q_176_48, q_176_50, q_176_52, q_176_54, q_176_55, q_176_58, q_176_59, q_176_60, q_176_63, q_176_64, q_176_65, q_176_66, q_176_67, q_176_70, q_176_71, q_176_73, q_176_74, q_176_76, q_176_77_t, q_176_77_f, q_176_80, q_176_82, q_176_83_t, q_176_83_f, q_176_86, q_176_88, q_176_89, q_176_90, q_176_93, q_176_95, q_176_96, q_176_97, q_176_98, q_176_99, q_176_102, q_176_104, q_176_105, q_176_106, q_176_109, q_176_111, q_176_112, q_176_115, q_176_116, q_176_119, q_176_121, q_176_124, q_176_125_0, q_176_125_1, q_176_125_2, q_176_125_d, q_176_152, q_176_153, q_176_154, q_176_156, q_176_157, q_176_159, q_176_160, q_176_161, q_176_162, q_176_165_t, q_176_165_f, q_176_168, q_176_169, q_176_172, q_176_173, q_176_174, q_176_177, q_176_179, aft_i, aft_l, aft_v, Int.toNat_natCast, kd_sI, kd_sL, kd_sR, kd_cp, gI_sL, gI_sR, gL_sI, gL_sR, gR_sI, gR_sL, gL_cp, gR_cp, kd_aI, gL_aI, gR_aI, gI_aI, gI_aIn, sI_aI, gI_sIn, Int.reduceToNat, Int.reduceAdd, Int.reduceSub, Int.reduceMul, Int.reduceNeg, Int.zero_add]
      rfl
    by_cases z3 : i = -3
    · subst z3
      simp (disch := (first | omega | (simp only [kd_sI, kd_sL, kd_sR, kd_cp, kd_aI]; omega) | (unfold catV; exact rfl) | (unfold catS; exact Nat.le_of_ble_eq_true rfl) | assumption)) only [q_176_0, q_176_1, q_176_3, q_176_5, q_176_8_t, q_176_8_f, q_176_11, q_176_12, q_176_13, q_176_14, q_176_17, q_176_18, q_176_21, q_176_22, q_176_23, q_176_24, q_176_25, q_176_26, q_176_28, q_176_30, q_176_32, q_176_33, q_176_35, q_176_37_t, q_176_37_f, q_176_41, q_176_44, q_176_45, q_176_48, q_176_50, q_176_52, q_176_54, q_176_55, q_176_58, q_176_59, q_176_60, q_176_63, q_176_64, q_176_65, q_176_66, q_176_67, q_176_70, q_176_71, q_176_73, q_176_74, q_176_76, q_176_77_t, q_176_77_f, q_176_80, q_176_82, q_176_83_t, q_176_83_f, q_176_86, q_176_88, q_176_89, q_176_90, q_176_93, q_176_95, q_176_96, q_176_97, q_176_98, q_176_99, q_176_102, q_176_104, q_176_105, q_176_106, q_176_109, q_176_111, q_176_112, q_176_115, q_176_116, q_176_119, q_176_121, q_176_124, q_176_125_0, q_176_125_1, q_176_125_2, q_176_125_d, q_176_152, q_176_153, q_176_154, q_176_156, q_176_157, q_176_159, q_176_160, q_176_161, q_176_162, q_176_165_t, q_176_165_f, q_176_168, q_176_169, q_176_172, q_176_173, q_176_174, q_176_177, q_176_179, aft_i, aft_l, aft_v, Int.toNat_natCast, kd_sI, kd_sL, kd_sR, kd_cp, gI_sL, gI_sR, gL_sI, gL_sR, gR_sI, gR_sL, gL_cp, gR_cp, kd_aI, gL_aI, gR_aI, gI_aI, gI_aIn, sI_aI, gI_sIn, Int.reduceToNat, Int.reduceAdd, Int.reduceSub, Int.reduceMul, Int.reduceNeg, Int.zero_add, fin, e1, e2]
      rw [e4]
      simp (disch := (first | omega | (simp only [kd_sI, kd_sL, kd_sR, kd_cp, kd_aI]; omega) | (unfold catV; exact rfl) | (unfold catS; exact Nat.le_of_ble_eq_true rfl) | assumption)) only [q_176_0, q_176_1, q_176_3, q_176_5, q_176_8_t, q_176_8_f, q_176_11, q_176_12, q_176_13, q_176_14, q_176_17, q_176_18, q_176_21, q_176_22, q_176_23, q_176_24, q_176_25, q_176_26, q_176_28, q_176_30, q_176_32, q_176_33, q_176_35, q_176_37_t, q_176_37_f, q_176_41, q_176_44, q_176_45, q_176_48, q_176_50, q_176_52, q_176_54, q_176_55, q_176_58, q_176_59, q_176_60, q_176_63, q_176_64, q_176_65, q_176_66, q_176_67, q_176_70, q_176_71, q_176_73, q_176_74, q_176_76, q_176_77_t, q_176_77_f, q_176_80, q_176_82, q_176_83_t, q_176_83_f, q_176_86, q_176_88, q_176_89, q_176_90, q_176_93, q_176_95, q_176_96, q_176_97, q_176_98, q_176_99, q_176_102, q_176_104, q_176_105, q_176_106, q_176_109, q_176_111, q_176_112, q_176_115, q_176_116, q_176_119, q_176_121, q_176_124, q_176_125_0, q_176_125_1, q_176_125_2, q_176_125_d, q_176_152, q_176_153, q_176_154, q_176_156, q_176_157, q_176_159, q_176_160, q_176_161, q_176_162, q_176_165_t, q_176_165_f, q_176_168, q_176_169, q_176_172, q_176_173, q_176_174, q_176_177, q_176_179, aft_i, aft_l, aft_v, Int.toNat_natCast, kd_sI, kd_sL, kd_sR, kd_cp, gI_sL, gI_sR, gL_sI, gL_sR, gR_sI, gR_sL, gL_cp, gR_cp, kd_aI, gL_aI, gR_aI, gI_aI, gI_aIn, sI_aI, gI_sIn, Int.reduceToNat, Int.reduceAdd, Int.reduceSub, Int.reduceMul, Int.reduceNeg, Int.zero_add]
      rfl
    rw [if_neg z1, if_neg z2, if_neg z3]
    simp (disch := (first | omega | (simp only [kd_sI, kd_sL, kd_sR, kd_cp, kd_aI]; omega) | (unfold catV; exact rfl) | (unfold catS; exact Nat.le_of_ble_eq_true rfl) | assumption)) only [q_176_0, q_176_1, q_176_3, q_176_5, q_176_8_t, q_176_8_f, q_176_11, q_176_12, q_176_13, q_176_14, q_176_17, q_176_18, q_176_21, q_176_22, q_176_23, q_176_24, q_176_25, q_176_26, q_176_28, q_176_30, q_176_32, q_176_33, q_176_35, q_176_37_t, q_176_37_f, q_176_41, q_176_44, q_176_45, q_176_48, q_176_50, q_176_52, q_176_54, q_176_55, q_176_58, q_176_59, q_176_60, q_176_63, q_176_64, q_176_65, q_176_66, q_176_67, q_176_70, q_176_71, q_176_73, q_176_74, q_176_76, q_176_77_t, q_176_77_f, q_176_80, q_176_82, q_176_83_t, q_176_83_f, q_176_86, q_176_88, q_176_89, q_176_90, q_176_93, q_176_95, q_176_96, q_176_97, q_176_98, q_176_99, q_176_102, q_176_104, q_176_105, q_176_106, q_176_109, q_176_111, q_176_112, q_176_115, q_176_116, q_176_119, q_176_121, q_176_124, q_176_125_0, q_176_125_1, q_176_125_2, q_176_125_d, q_176_152, q_176_153, q_176_154, q_176_156, q_176_157, q_176_159, q_176_160, q_176_161, q_176_162, q_176_165_t, q_176_165_f, q_176_168, q_176_169, q_176_172, q_176_173, q_176_174, q_176_177, q_176_179, aft_i, aft_l, aft_v, Int.toNat_natCast, kd_sI, kd_sL, kd_sR, kd_cp, gI_sL, gI_sR, gL_sI, gL_sR, gR_sI, gR_sL, gL_cp, gR_cp, kd_aI, gL_aI, gR_aI, gI_aI, gI_aIn, sI_aI, gI_sIn, Int.reduceToNat, Int.reduceAdd, Int.reduceSub, Int.reduceMul, Int.reduceNeg, Int.zero_add, fin, e1, e2]
    rw [e4]
    by_cases y : i < b.length
    · rw [if_pos y]
      have hx := r3 i.toNat (by omega)
      rw [Nat.zero_add, ← ofL_at] at hx
      simp (disch := (first | omega | (simp only [kd_sI, kd_sL, kd_sR, kd_cp, kd_aI]; omega) | (unfold catV; exact rfl) | (unfold catS; exact Nat.le_of_ble_eq_true rfl) | assumption)) only [q_176_0, q_176_1, q_176_3, q_176_5, q_176_8_t, q_176_8_f, q_176_11, q_176_12, q_176_13, q_176_14, q_176_17, q_176_18, q_176_21, q_176_22, q_176_23, q_176_24, q_176_25, q_176_26, q_176_28, q_176_30, q_176_32, q_176_33, q_176_35, q_176_37_t, q_176_37_f, q_176_41, q_176_44, q_176_45, q_176_48, q_176_50, q_176_52, q_176_54, q_176_55, q_176_58, q_176_59, q_176_60, q_176_63, q_176_64, q_176_65, q_176_66, q_176_67, q_176_70, q_176_71, q_176_73, q_176_74, q_176_76, q_176_77_t, q_176_77_f, q_176_80, q_176_82, q_176_83_t, q_176_83_f, q_176_86, q_176_88, q_176_89, q_176_90, q_176_93, q_176_95, q_176_96, q_176_97, q_176_98, q_176_99, q_176_102, q_176_104, q_176_105, q_176_106, q_176_109, q_176_111, q_176_112, q_176_115, q_176_116, q_176_119, q_176_121, q_176_124, q_176_125_0, q_176_125_1, q_176_125_2, q_176_125_d, q_176_152, q_176_153, q_176_154, q_176_156, q_176_157, q_176_159, q_176_160, q_176_161, q_176_162, q_176_165_t, q_176_165_f, q_176_168, q_176_169, q_176_172, q_176_173, q_176_174, q_176_177, q_176_179, aft_i, aft_l, aft_v, Int.toNat_natCast, kd_sI, kd_sL, kd_sR, kd_cp, gI_sL, gI_sR, gL_sI, gL_sR, gR_sI, gR_sL, gL_cp, gR_cp, kd_aI, gL_aI, gR_aI, gI_aI, gI_aIn, sI_aI, gI_sIn, Int.reduceToNat, Int.reduceAdd, Int.reduceSub, Int.reduceMul, Int.reduceNeg, Int.zero_add, n3, r22, hx]
    · rw [if_neg y]
      simp (disch := (first | omega | (simp only [kd_sI, kd_sL, kd_sR, kd_cp, kd_aI]; omega) | (unfold catV; exact rfl) | (unfold catS; exact Nat.le_of_ble_eq_true rfl) | assumption)) only [q_176_0, q_176_1, q_176_3, q_176_5, q_176_8_t, q_176_8_f, q_176_11, q_176_12, q_176_13, q_176_14, q_176_17, q_176_18, q_176_21, q_176_22, q_176_23, q_176_24, q_176_25, q_176_26, q_176_28, q_176_30, q_176_32, q_176_33, q_176_35, q_176_37_t, q_176_37_f, q_176_41, q_176_44, q_176_45, q_176_48, q_176_50, q_176_52, q_176_54, q_176_55, q_176_58, q_176_59, q_176_60, q_176_63, q_176_64, q_176_65, q_176_66, q_176_67, q_176_70, q_176_71, q_176_73, q_176_74, q_176_76, q_176_77_t, q_176_77_f, q_176_80, q_176_82, q_176_83_t, q_176_83_f, q_176_86, q_176_88, q_176_89, q_176_90, q_176_93, q_176_95, q_176_96, q_176_97, q_176_98, q_176_99, q_176_102, q_176_104, q_176_105, q_176_106, q_176_109, q_176_111, q_176_112, q_176_115, q_176_116, q_176_119, q_176_121, q_176_124, q_176_125_0, q_176_125_1, q_176_125_2, q_176_125_d, q_176_152, q_176_153, q_176_154, q_176_156, q_176_157, q_176_159, q_176_160, q_176_161, q_176_162, q_176_165_t, q_176_165_f, q_176_168, q_176_169, q_176_172, q_176_173, q_176_174, q_176_177, q_176_179, aft_i, aft_l, aft_v, Int.toNat_natCast, kd_sI, kd_sL, kd_sR, kd_cp, gI_sL, gI_sR, gL_sI, gL_sR, gR_sI, gR_sL, gL_cp, gR_cp, kd_aI, gL_aI, gR_aI, gI_aI, gI_aIn, sI_aI, gI_sIn, Int.reduceToNat, Int.reduceAdd, Int.reduceSub, Int.reduceMul, Int.reduceNeg, Int.zero_add, n3]
  · rw [if_neg hi, if_neg hi]
    have fin := in_f (d + 2) h i (-3) 6 hi
    obtain ⟨k141, j141⟩ := lay_k L0 (a := 141) (t := 8) (n := 26) rfl
    rw [en_176]
    simp (disch := (first | omega | (simp only [kd_sI, kd_sL, kd_sR, kd_cp, kd_aI]; omega) | (unfold catV; exact rfl) | (unfold catS; exact Nat.le_of_ble_eq_true rfl) | assumption)) only [q_176_0, q_176_1, q_176_3, q_176_5, q_176_8_t, q_176_8_f, q_176_11, q_176_12, q_176_13, q_176_14, q_176_17, q_176_18, q_176_21, q_176_22, q_176_23, q_176_24, q_176_25, q_176_26, q_176_28, q_176_30, q_176_32, q_176_33, q_176_35, q_176_37_t, q_176_37_f, q_176_40, q_176_41, q_176_44, q_176_45, q_176_48, q_176_50, q_176_52, q_176_54, q_176_55, q_176_58, q_176_59, q_176_60, q_176_63, q_176_64, q_176_65, q_176_66, q_176_67, q_176_70, q_176_71, q_176_73, q_176_74, q_176_76, q_176_77_t, q_176_77_f, q_176_80, q_176_82, q_176_83_t, q_176_83_f, q_176_86, q_176_88, q_176_89, q_176_90, q_176_93, q_176_95, q_176_96, q_176_97, q_176_98, q_176_99, q_176_102, q_176_104, q_176_105, q_176_106, q_176_109, q_176_111, q_176_112, q_176_115, q_176_116, q_176_119, q_176_121, q_176_124, q_176_125_0, q_176_125_1, q_176_125_2, q_176_125_d, q_176_152, q_176_153, q_176_154, q_176_156, q_176_157, q_176_159, q_176_160, q_176_161, q_176_162, q_176_165_t, q_176_165_f, q_176_168, q_176_169, q_176_172, q_176_173, q_176_174, q_176_177, q_176_179, aft_i, aft_l, aft_v, Int.toNat_natCast, kd_sI, kd_sL, kd_sR, kd_cp, gI_sL, gI_sR, gL_sI, gL_sR, gR_sI, gR_sL, gL_cp, gR_cp, kd_aI, gL_aI, gR_aI, gI_aI, gI_aIn, sI_aI, gI_sIn, Int.reduceToNat, Int.reduceAdd, Int.reduceSub, Int.reduceMul, Int.reduceNeg, Int.zero_add, fin]
