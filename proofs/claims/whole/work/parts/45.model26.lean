def soK (T : Td) (hh : Int) (l : List Nat) : Int := -(inC T (ofL l) hh l.length : Int)
def soV (T : Td) (hh : Int) : Option (List Nat) → Int
  | none => -1
  | some b => inC T (ofL b) hh b.length
def qSt (h g : mH) (l : List Nat) : Prop := scr h g ∧ gI g 141 19 = l.length ∧ rwO (gI g 152) 0 l
theorem mSoon_step (d : Nat) (h : mH) (L0 : LAY h) (T : Td) (wT : wfT T) (t : mT h T) (hh i : Int) (l : List Nat) (nd : l.Nodup) (lb : ∀ c, c ∈ l → c < tN T) (o : Option (List Nat)) (g : mH) (s : qSt h g l) (x5 : mV) : ∃ g2, qSt h g2 l ∧ (nwB (soK T hh) o l → rwO (gI g2 155) 0 l ∧ resA (callA (d + 1)) 182 (36, [Sum.inr (Sum.inr (some 141)), Sum.inl hh, Sum.inl i, Sum.inl (soV T hh o), Sum.inl 1, x5], [], g) = resA (callA (d + 1)) 182 (56, [Sum.inr (Sum.inr (some 141)), Sum.inl hh, Sum.inl i, Sum.inl (soV T hh (some l)), Sum.inl 1, Sum.inl (soV T hh (some l))], [], g2)) ∧ (¬ nwB (soK T hh) o l → gI g2 155 = gI g 155 ∧ resA (callA (d + 1)) 182 (36, [Sum.inr (Sum.inr (some 141)), Sum.inl hh, Sum.inl i, Sum.inl (soV T hh o), Sum.inl 1, x5], [], g) = resA (callA (d + 1)) 182 (56, [Sum.inr (Sum.inr (some 141)), Sum.inl hh, Sum.inl i, Sum.inl (soV T hh o), Sum.inl 1, Sum.inl (soV T hh (some l))], [], g2)) := by
  have s0 := s
  obtain ⟨sg, h19, hr⟩ := s
  have c7 := wT.1
  have n7 : l.length ≤ 7 := Nat.le_trans (nd_len nd lb) wT.1
  have Lg := scr_L sg L0
  have tg := scr_mT sg t
  have R : rowF g l.length (ofL l) := ⟨h19, n7, fun i hi => by
    rw [ofL_at hi]
    have := hr i hi
    rw [Nat.zero_add] at this
    exact ⟨this, Nat.lt_of_lt_of_le (lb _ (List.getElem_mem hi)) c7⟩⟩
  have e1 := mIn_ok d g Lg T wT tg l.length (ofL l) R (fun i hi => by rw [ofL_at hi]; exact lb _ (List.getElem_mem hi)) hh
  have eV : (inC T (ofL l) hh l.length : Int) = soV T hh (some l) := rfl
  rw [eV] at e1
  obtain ⟨m1, m2⟩ := lay_k Lg (a := 141) (t := 8) (n := 26) rfl
  by_cases z : nwB (soK T hh) o l
  · have e5 := mKeepRow_ok d g Lg l.length h19 n7
    generalize eg2 : aI g 155 (mixI l.length (gI g 152) (gI g 155)) = g2 at e5
    have s2 : scr g g2 := by rw [← eg2]; exact scr_aI (by omega)
    refine ⟨g2, ⟨scr_tr sg s2, ?_, ?_⟩, fun _ => ⟨?_, ?_⟩, fun y => absurd z y⟩
    · rw [← eg2, gI_aIn (by omega)]; exact h19
    · rw [← eg2, gI_aIn (by omega)]; exact hr
    · rw [← eg2, gI_aI]
      refine rwO_congr (fun i hi => ?_) hr
      rw [Nat.zero_add, mixI_in hi]
    · have kc : soV T hh o < soV T hh (some l) := by
        cases o with
        | none => show (-1 : Int) < (inC T (ofL l) hh l.length : Int); omega
        | some b =>
          have z2 : -(inC T (ofL l) hh l.length : Int) < -(inC T (ofL b) hh b.length : Int) := z
          show (inC T (ofL b) hh b.length : Int) < (inC T (ofL l) hh l.length : Int)
          omega
      generalize soV T hh o = ko at kc ⊢
      generalize soV T hh (some l) = kl at kc e1 ⊢
      simp (disch := (first | omega | (simp only [kd_sI, kd_sL, kd_sR, kd_cp, kd_aI]; omega) | (unfold catV; exact rfl) | (unfold catS; exact Nat.le_of_ble_eq_true rfl) | assumption)) only [q_182_0, q_182_1, q_182_2, q_182_4, q_182_7_t, q_182_7_f, q_182_10, q_182_11, q_182_12, q_182_14, q_182_17_t, q_182_17_f, q_182_20, q_182_21, q_182_22, q_182_23, q_182_26, q_182_27, q_182_28, q_182_29, q_182_31, q_182_33_t, q_182_33_f, q_182_36, q_182_37, q_182_38, q_182_41, q_182_43, q_182_45, q_182_46_t, q_182_46_f, q_182_49, q_182_51, q_182_52, q_182_53, q_182_57, q_182_60, q_182_62, q_182_65, q_182_66, q_182_67_t, q_182_67_f, q_182_70, q_182_71, q_182_74, q_182_75, q_182_76, q_182_79_t, q_182_79_f, q_182_82, q_182_83, q_182_86, q_182_87, q_182_88, q_182_91, q_182_93, aft_i, aft_l, aft_v, Int.toNat_natCast, kd_sI, kd_sL, kd_sR, kd_cp, gI_sL, gI_sR, gL_sI, gL_sR, gR_sI, gR_sL, gL_cp, gR_cp, kd_aI, gL_aI, gR_aI, gI_aI, gI_aIn, sI_aI, gI_sIn, Int.reduceToNat, Int.reduceAdd, Int.reduceSub, Int.reduceMul, Int.reduceNeg, Int.zero_add, e1, e5]
  · refine ⟨g, s0, fun y => absurd y z, fun _ => ⟨rfl, ?_⟩⟩
    have kc : soV T hh (some l) ≤ soV T hh o := by
      cases o with
      | none => exact absurd trivial z
      | some b =>
        have z2 : ¬ -(inC T (ofL l) hh l.length : Int) < -(inC T (ofL b) hh b.length : Int) := z
        show (inC T (ofL l) hh l.length : Int) ≤ (inC T (ofL b) hh b.length : Int)
        omega
    generalize soV T hh o = ko at kc ⊢
    generalize soV T hh (some l) = kl at kc e1 ⊢
    simp (disch := (first | omega | (simp only [kd_sI, kd_sL, kd_sR, kd_cp, kd_aI]; omega) | (unfold catV; exact rfl) | (unfold catS; exact Nat.le_of_ble_eq_true rfl) | assumption)) only [q_182_0, q_182_1, q_182_2, q_182_4, q_182_7_t, q_182_7_f, q_182_10, q_182_11, q_182_12, q_182_14, q_182_17_t, q_182_17_f, q_182_20, q_182_21, q_182_22, q_182_23, q_182_26, q_182_27, q_182_28, q_182_29, q_182_31, q_182_33_t, q_182_33_f, q_182_36, q_182_37, q_182_38, q_182_41, q_182_43, q_182_45, q_182_46_t, q_182_46_f, q_182_49, q_182_51, q_182_52, q_182_53, q_182_57, q_182_60, q_182_62, q_182_65, q_182_66, q_182_67_t, q_182_67_f, q_182_70, q_182_71, q_182_74, q_182_75, q_182_76, q_182_79_t, q_182_79_f, q_182_82, q_182_83, q_182_86, q_182_87, q_182_88, q_182_91, q_182_93, aft_i, aft_l, aft_v, Int.toNat_natCast, kd_sI, kd_sL, kd_sR, kd_cp, gI_sL, gI_sR, gL_sI, gL_sR, gR_sI, gR_sL, gL_cp, gR_cp, kd_aI, gL_aI, gR_aI, gI_aI, gI_aIn, sI_aI, gI_sIn, Int.reduceToNat, Int.reduceAdd, Int.reduceSub, Int.reduceMul, Int.reduceNeg, Int.zero_add, e1]
theorem mSoon_loop (d : Nat) (h : mH) (L0 : LAY h) (T : Td) (wT : wfT T) (t : mT h T) (hh i : Int) (l0 : List Nat) (nd : l0.Nodup) (lb : ∀ c, c ∈ l0 → c < tN T) : ∀ (f : Nat) (l : List Nat) (o : Option (List Nat)) (g : mH) (x5 : mV), 8 ^ 7 - lexV l ≤ f → l.Perm l0 → qSt h g l → (∀ b, o = some b → rwO (gI g 155) 0 b) → seenB (soK T hh) l0 o l → ∃ b g2 x9, isBest (soK T hh) l0 b ∧ scr h g2 ∧ rwO (gI g2 155) 0 b ∧ gI g2 141 19 = l0.length ∧ resA (callA (d + 1)) 182 (36, [Sum.inr (Sum.inr (some 141)), Sum.inl hh, Sum.inl i, Sum.inl (soV T hh o), Sum.inl 1, x5], [], g) = resA (callA (d + 1)) 182 (65, [Sum.inr (Sum.inr (some 141)), Sum.inl hh, Sum.inl i, Sum.inl (soV T hh (some b)), Sum.inl 0, x9], [], g2)
  | f, l, o, g, x5, hf, p, s, ho, sb => by
    have c7 := wT.1
    have h8 : b8 l0 := fun x hx => by have := lb x hx; omega
    have h8l := b8_p p h8
    have ndl : l.Nodup := p.nodup_iff.mpr nd
    have lbl : ∀ c, c ∈ l → c < tN T := fun c hc => lb c (p.mem_iff.mp hc)
    have n7 : l.length ≤ 7 := Nat.le_trans (nd_len ndl lbl) c7
    obtain ⟨g1, k1, hT, hF⟩ := mSoon_step d h L0 T wT t hh i l ndl lbl o g s x5
    have L1 := scr_L k1.1 L0
    have big : lexV l < 8 ^ 7 := Nat.lt_of_lt_of_le (lexV_lt h8l) (Nat.pow_le_pow_right (by omega) n7)
    have mid : ∃ b, doneB (soK T hh) l0 b l ∧ rwO (gI g1 155) 0 b ∧ resA (callA (d + 1)) 182 (36, [Sum.inr (Sum.inr (some 141)), Sum.inl hh, Sum.inl i, Sum.inl (soV T hh o), Sum.inl 1, x5], [], g) = resA (callA (d + 1)) 182 (56, [Sum.inr (Sum.inr (some 141)), Sum.inl hh, Sum.inl i, Sum.inl (soV T hh (some b)), Sum.inl 1, Sum.inl (soV T hh (some l))], [], g1) := by
      by_cases z : nwB (soK T hh) o l
      · obtain ⟨r1, e1⟩ := hT z
        exact ⟨l, seen_t h8 p sb z, r1, e1⟩
      · obtain ⟨r1, e1⟩ := hF z
        obtain ⟨b, eo, db⟩ := seen_f h8 p sb z
        refine ⟨b, db, ?_, ?_⟩
        · rw [r1]; exact ho b eo
        · rw [e1, eo]
    obtain ⟨b, db, rb, e1⟩ := mid
    obtain ⟨m1, m2⟩ := lay_k L1 (a := 141) (t := 8) (n := 26) rfl
    rcases mNext_ok d g1 L1 l ndl h8l n7 k1.2.1 k1.2.2 with ⟨de, e2⟩ | ⟨l2, G, nx, e2, r2⟩
    · refine ⟨b, g1, Sum.inl (soV T hh (some l)), done_e h8 p db de, k1.1, rb, ?_, e1.trans ?_⟩
      · rw [k1.2.1, p.length_eq]
      · simp (disch := (first | omega | (simp only [kd_sI, kd_sL, kd_sR, kd_cp, kd_aI]; omega) | (unfold catV; exact rfl) | (unfold catS; exact Nat.le_of_ble_eq_true rfl) | assumption)) only [q_182_0, q_182_1, q_182_2, q_182_4, q_182_7_t, q_182_7_f, q_182_10, q_182_11, q_182_12, q_182_14, q_182_17_t, q_182_17_f, q_182_20, q_182_21, q_182_22, q_182_23, q_182_26, q_182_27, q_182_28, q_182_29, q_182_31, q_182_33_t, q_182_33_f, q_182_36, q_182_37, q_182_38, q_182_41, q_182_43, q_182_45, q_182_46_t, q_182_46_f, q_182_49, q_182_51, q_182_52, q_182_53, q_182_56, q_182_57, q_182_60, q_182_62, q_182_66, q_182_67_t, q_182_67_f, q_182_70, q_182_71, q_182_74, q_182_75, q_182_76, q_182_79_t, q_182_79_f, q_182_82, q_182_83, q_182_86, q_182_87, q_182_88, q_182_91, q_182_93, aft_i, aft_l, aft_v, Int.toNat_natCast, kd_sI, kd_sL, kd_sR, kd_cp, gI_sL, gI_sR, gL_sI, gL_sR, gR_sI, gR_sL, gL_cp, gR_cp, kd_aI, gL_aI, gR_aI, gI_aI, gI_aIn, sI_aI, gI_sIn, Int.reduceToNat, Int.reduceAdd, Int.reduceSub, Int.reduceMul, Int.reduceNeg, Int.zero_add, e2]
    · cases f with
      | zero => omega
      | succ f =>
        have p2 := nx.1.trans p
        have s2 : scr g1 (aI g1 152 G) := scr_aI (by omega)
        obtain ⟨b3, g3, x9, ib, s3, r3, n3, e3⟩ := mSoon_loop d h L0 T wT t hh i l0 nd lb f l2 (some b) (aI g1 152 G) (Sum.inl (soV T hh (some l))) (by have := nx.2.1; omega) p2 ⟨scr_tr k1.1 s2, by rw [gI_aIn (by omega), nx.1.length_eq]; exact k1.2.1, by rw [gI_aI]; exact r2⟩ (fun c ec => by
          injection ec with ec
          subst ec
          rw [gI_aIn (by omega)]
          exact rb) (done_n p db nx)
        refine ⟨b3, g3, x9, ib, s3, r3, n3, e1.trans ?_⟩
        rw [← e3]
        simp (disch := (first | omega | (simp only [kd_sI, kd_sL, kd_sR, kd_cp, kd_aI]; omega) | (unfold catV; exact rfl) | (unfold catS; exact Nat.le_of_ble_eq_true rfl) | assumption)) only [q_182_0, q_182_1, q_182_2, q_182_4, q_182_7_t, q_182_7_f, q_182_10, q_182_11, q_182_12, q_182_14, q_182_17_t, q_182_17_f, q_182_20, q_182_21, q_182_22, q_182_23, q_182_26, q_182_27, q_182_28, q_182_29, q_182_31, q_182_33_t, q_182_33_f, q_182_37, q_182_38, q_182_41, q_182_43, q_182_45, q_182_46_t, q_182_46_f, q_182_49, q_182_51, q_182_52, q_182_53, q_182_56, q_182_57, q_182_60, q_182_62, q_182_65, q_182_66, q_182_67_t, q_182_67_f, q_182_70, q_182_71, q_182_74, q_182_75, q_182_76, q_182_79_t, q_182_79_f, q_182_82, q_182_83, q_182_86, q_182_87, q_182_88, q_182_91, q_182_93, aft_i, aft_l, aft_v, Int.toNat_natCast, kd_sI, kd_sL, kd_sR, kd_cp, gI_sL, gI_sR, gL_sI, gL_sR, gR_sI, gR_sL, gL_cp, gR_cp, kd_aI, gL_aI, gR_aI, gI_aI, gI_aIn, sI_aI, gI_sIn, Int.reduceToNat, Int.reduceAdd, Int.reduceSub, Int.reduceMul, Int.reduceNeg, Int.zero_add, e2]
def sooA (T : Td) (hh i : Int) (b : List Nat) : Int := if (1 ≤ hh ∧ hh ≤ 60) ∧ (-1 ≤ i ∧ i ≤ 6) then (if i = -1 then inC T (ofL b) hh b.length else if i < b.length then ofL b i.toNat else -9) else -1
theorem mSoon_ok (d : Nat) (h : mH) (L0 : LAY h) (T : Td) (N : Nt) (wT : wfT T) (wN : wfN T N) (t : mT h T) (u : mNow h T N) (hh i : Int) : ∃ b g, isBest (soK T hh) (notLost N (tN T)) b ∧ callA (d + 3) 182 [Sum.inr (Sum.inr (some 141)), Sum.inl hh, Sum.inl i] h = some (some (Sum.inl (sooA T hh i b)), g) ∧ scr h g := by
  have c7 := wT.1
  obtain ⟨g2, e2, s2, h19, hr, hf⟩ := mFirst_ok d h L0 T N wT wN t u
  have h8 : b8 (notLost N (tN T)) := fun x hx => by have := (notLost_mem.mp hx).1; omega
  obtain ⟨b, g3, x9, ib, s3, r3, n3, e3⟩ := mSoon_loop (d + 1) h L0 T wT t hh i (notLost N (tN T)) (notLost_nd N _) (fun c hc => (notLost_mem.mp hc).1) (8 ^ 7) (notLost N (tN T)) none g2 (Sum.inr (Sum.inr none)) (by omega) (List.Perm.refl _) ⟨s2, h19, hr⟩ (fun b e => (by cases e)) (seen_0 h8 (notLost_asc N _))
  have e4 : resA (callA (d + 2)) 182 (36, [Sum.inr (Sum.inr (some 141)), Sum.inl hh, Sum.inl i, Sum.inl (-1), Sum.inl 1, Sum.inr (Sum.inr none)], [], g2) = resA (callA (d + 2)) 182 (65, [Sum.inr (Sum.inr (some 141)), Sum.inl hh, Sum.inl i, Sum.inl (inC T (ofL b) hh b.length : Int), Sum.inl 0, x9], [], g3) := e3
  have L2 := scr_L s2 L0
  have L3 := scr_L s3 L0
  have bl := ib.1.length_eq
  have b7 : b.length ≤ 7 := by have := notLost_le (N := N) (n := tN T); omega
  rw [← bl] at n3
  refine ⟨b, if (1 ≤ hh ∧ hh ≤ 60) ∧ (-1 ≤ i ∧ i ≤ 6) then g3 else h, ib, ?_, by split; exact s3; exact scr_rf h⟩
  unfold sooA
  obtain ⟨m1, m2⟩ := lay_k L2 (a := 141) (t := 8) (n := 26) rfl
  obtain ⟨m5, m6⟩ := lay_k L3 (a := 141) (t := 8) (n := 26) rfl
  obtain ⟨m7, m8⟩ := lay_k L3 (a := 155) (t := 100) (n := 7) rfl
  have r22 : gR g3 141 22 = some 155 := lay_r L3 rfl
  obtain ⟨k141, j141⟩ := lay_k L0 (a := 141) (t := 8) (n := 26) rfl
  by_cases h1 : 1 ≤ hh ∧ hh ≤ 60
  · have fin1 := in_t (d + 1) h hh 1 60 h1
    by_cases h2 : -1 ≤ i ∧ i ≤ 6
    · have hc : (1 ≤ hh ∧ hh ≤ 60) ∧ (-1 ≤ i ∧ i ≤ 6) := ⟨h1, h2⟩
      rw [if_pos hc, if_pos hc]
      have fin2 := in_t (d + 1) h i (-1) 6 h2
      rw [en_182]
      by_cases z1 : i = -1
      · subst z1
        simp (disch := (first | omega | (simp only [kd_sI, kd_sL, kd_sR, kd_cp, kd_aI]; omega) | (unfold catV; exact rfl) | (unfold catS; exact Nat.le_of_ble_eq_true rfl) | assumption)) only [q_182_0, q_182_1, q_182_2, q_182_4, q_182_7_t, q_182_7_f, q_182_10, q_182_11, q_182_12, q_182_14, q_182_17_t, q_182_17_f, q_182_20, q_182_21, q_182_22, q_182_23, q_182_26, q_182_27, q_182_28, q_182_29, q_182_31, q_182_33_t, q_182_33_f, q_182_37, q_182_38, q_182_41, q_182_43, q_182_45, q_182_46_t, q_182_46_f, q_182_49, q_182_51, q_182_52, q_182_53, q_182_56, q_182_57, q_182_60, q_182_62, q_182_65, q_182_66, q_182_67_t, q_182_67_f, q_182_70, q_182_71, q_182_74, q_182_75, q_182_76, q_182_79_t, q_182_79_f, q_182_82, q_182_83, q_182_86, q_182_87, q_182_88, q_182_91, q_182_93, aft_i, aft_l, aft_v, Int.toNat_natCast, kd_sI, kd_sL, kd_sR, kd_cp, gI_sL, gI_sR, gL_sI, gL_sR, gR_sI, gR_sL, gL_cp, gR_cp, kd_aI, gL_aI, gR_aI, gI_aI, gI_aIn, sI_aI, gI_sIn, Int.reduceToNat, Int.reduceAdd, Int.reduceSub, Int.reduceMul, Int.reduceNeg, Int.zero_add, fin1, fin2, e2]
        rw [e4]
        simp (disch := (first | omega | (simp only [kd_sI, kd_sL, kd_sR, kd_cp, kd_aI]; omega) | (unfold catV; exact rfl) | (unfold catS; exact Nat.le_of_ble_eq_true rfl) | assumption)) only [q_182_0, q_182_1, q_182_2, q_182_4, q_182_7_t, q_182_7_f, q_182_10, q_182_11, q_182_12, q_182_14, q_182_17_t, q_182_17_f, q_182_20, q_182_21, q_182_22, q_182_23, q_182_26, q_182_27, q_182_28, q_182_29, q_182_31, q_182_33_t, q_182_33_f, q_182_37, q_182_38, q_182_41, q_182_43, q_182_45, q_182_46_t, q_182_46_f, q_182_49, q_182_51, q_182_52, q_182_53, q_182_56, q_182_57, q_182_60, q_182_62, q_182_65, q_182_66, q_182_67_t, q_182_67_f, q_182_70, q_182_71, q_182_74, q_182_75, q_182_76, q_182_79_t, q_182_79_f, q_182_82, q_182_83, q_182_86, q_182_87, q_182_88, q_182_91, q_182_93, aft_i, aft_l, aft_v, Int.toNat_natCast, kd_sI, kd_sL, kd_sR, kd_cp, gI_sL, gI_sR, gL_sI, gL_sR, gR_sI, gR_sL, gL_cp, gR_cp, kd_aI, gL_aI, gR_aI, gI_aI, gI_aIn, sI_aI, gI_sIn, Int.reduceToNat, Int.reduceAdd, Int.reduceSub, Int.reduceMul, Int.reduceNeg, Int.zero_add]
        rfl
      rw [if_neg z1]
      simp (disch := (first | omega | (simp only [kd_sI, kd_sL, kd_sR, kd_cp, kd_aI]; omega) | (unfold catV; exact rfl) | (unfold catS; exact Nat.le_of_ble_eq_true rfl) | assumption)) only [q_182_0, q_182_1, q_182_2, q_182_4, q_182_7_t, q_182_7_f, q_182_10, q_182_11, q_182_12, q_182_14, q_182_17_t, q_182_17_f, q_182_20, q_182_21, q_182_22, q_182_23, q_182_26, q_182_27, q_182_28, q_182_29, q_182_31, q_182_33_t, q_182_33_f, q_182_37, q_182_38, q_182_41, q_182_43, q_182_45, q_182_46_t, q_182_46_f, q_182_49, q_182_51, q_182_52, q_182_53, q_182_56, q_182_57, q_182_60, q_182_62, q_182_65, q_182_66, q_182_67_t, q_182_67_f, q_182_70, q_182_71, q_182_74, q_182_75, q_182_76, q_182_79_t, q_182_79_f, q_182_82, q_182_83, q_182_86, q_182_87, q_182_88, q_182_91, q_182_93, aft_i, aft_l, aft_v, Int.toNat_natCast, kd_sI, kd_sL, kd_sR, kd_cp, gI_sL, gI_sR, gL_sI, gL_sR, gR_sI, gR_sL, gL_cp, gR_cp, kd_aI, gL_aI, gR_aI, gI_aI, gI_aIn, sI_aI, gI_sIn, Int.reduceToNat, Int.reduceAdd, Int.reduceSub, Int.reduceMul, Int.reduceNeg, Int.zero_add, fin1, fin2, e2]
      rw [e4]
      by_cases y : i < b.length
      · rw [if_pos y]
        have hx := r3 i.toNat (by omega)
        rw [Nat.zero_add, ← ofL_at] at hx
        simp (disch := (first | omega | (simp only [kd_sI, kd_sL, kd_sR, kd_cp, kd_aI]; omega) | (unfold catV; exact rfl) | (unfold catS; exact Nat.le_of_ble_eq_true rfl) | assumption)) only [q_182_0, q_182_1, q_182_2, q_182_4, q_182_7_t, q_182_7_f, q_182_10, q_182_11, q_182_12, q_182_14, q_182_17_t, q_182_17_f, q_182_20, q_182_21, q_182_22, q_182_23, q_182_26, q_182_27, q_182_28, q_182_29, q_182_31, q_182_33_t, q_182_33_f, q_182_37, q_182_38, q_182_41, q_182_43, q_182_45, q_182_46_t, q_182_46_f, q_182_49, q_182_51, q_182_52, q_182_53, q_182_56, q_182_57, q_182_60, q_182_62, q_182_65, q_182_66, q_182_67_t, q_182_67_f, q_182_70, q_182_71, q_182_74, q_182_75, q_182_76, q_182_79_t, q_182_79_f, q_182_82, q_182_83, q_182_86, q_182_87, q_182_88, q_182_91, q_182_93, aft_i, aft_l, aft_v, Int.toNat_natCast, kd_sI, kd_sL, kd_sR, kd_cp, gI_sL, gI_sR, gL_sI, gL_sR, gR_sI, gR_sL, gL_cp, gR_cp, kd_aI, gL_aI, gR_aI, gI_aI, gI_aIn, sI_aI, gI_sIn, Int.reduceToNat, Int.reduceAdd, Int.reduceSub, Int.reduceMul, Int.reduceNeg, Int.zero_add, n3, r22, hx]
      · rw [if_neg y]
        simp (disch := (first | omega | (simp only [kd_sI, kd_sL, kd_sR, kd_cp, kd_aI]; omega) | (unfold catV; exact rfl) | (unfold catS; exact Nat.le_of_ble_eq_true rfl) | assumption)) only [q_182_0, q_182_1, q_182_2, q_182_4, q_182_7_t, q_182_7_f, q_182_10, q_182_11, q_182_12, q_182_14, q_182_17_t, q_182_17_f, q_182_20, q_182_21, q_182_22, q_182_23, q_182_26, q_182_27, q_182_28, q_182_29, q_182_31, q_182_33_t, q_182_33_f, q_182_37, q_182_38, q_182_41, q_182_43, q_182_45, q_182_46_t, q_182_46_f, q_182_49, q_182_51, q_182_52, q_182_53, q_182_56, q_182_57, q_182_60, q_182_62, q_182_65, q_182_66, q_182_67_t, q_182_67_f, q_182_70, q_182_71, q_182_74, q_182_75, q_182_76, q_182_79_t, q_182_79_f, q_182_82, q_182_83, q_182_86, q_182_87, q_182_88, q_182_91, q_182_93, aft_i, aft_l, aft_v, Int.toNat_natCast, kd_sI, kd_sL, kd_sR, kd_cp, gI_sL, gI_sR, gL_sI, gL_sR, gR_sI, gR_sL, gL_cp, gR_cp, kd_aI, gL_aI, gR_aI, gI_aI, gI_aIn, sI_aI, gI_sIn, Int.reduceToNat, Int.reduceAdd, Int.reduceSub, Int.reduceMul, Int.reduceNeg, Int.zero_add, n3]
    · rw [if_neg (fun z => h2 z.2), if_neg (fun z => h2 z.2)]
      have fin2 := in_f (d + 1) h i (-1) 6 h2
      rw [en_182]
      simp (disch := (first | omega | (simp only [kd_sI, kd_sL, kd_sR, kd_cp, kd_aI]; omega) | (unfold catV; exact rfl) | (unfold catS; exact Nat.le_of_ble_eq_true rfl) | assumption)) only [q_182_0, q_182_1, q_182_2, q_182_4, q_182_7_t, q_182_7_f, q_182_10, q_182_11, q_182_12, q_182_14, q_182_17_t, q_182_17_f, q_182_20, q_182_21, q_182_22, q_182_23, q_182_26, q_182_27, q_182_28, q_182_29, q_182_31, q_182_33_t, q_182_33_f, q_182_37, q_182_38, q_182_41, q_182_43, q_182_45, q_182_46_t, q_182_46_f, q_182_49, q_182_51, q_182_52, q_182_53, q_182_56, q_182_57, q_182_60, q_182_62, q_182_65, q_182_66, q_182_67_t, q_182_67_f, q_182_70, q_182_71, q_182_74, q_182_75, q_182_76, q_182_79_t, q_182_79_f, q_182_82, q_182_83, q_182_86, q_182_87, q_182_88, q_182_91, q_182_93, aft_i, aft_l, aft_v, Int.toNat_natCast, kd_sI, kd_sL, kd_sR, kd_cp, gI_sL, gI_sR, gL_sI, gL_sR, gR_sI, gR_sL, gL_cp, gR_cp, kd_aI, gL_aI, gR_aI, gI_aI, gI_aIn, sI_aI, gI_sIn, Int.reduceToNat, Int.reduceAdd, Int.reduceSub, Int.reduceMul, Int.reduceNeg, Int.zero_add, fin1, fin2]
  · rw [if_neg (fun z => h1 z.1), if_neg (fun z => h1 z.1)]
    have fin1 := in_f (d + 1) h hh 1 60 h1
    rw [en_182]
    simp (disch := (first | omega | (simp only [kd_sI, kd_sL, kd_sR, kd_cp, kd_aI]; omega) | (unfold catV; exact rfl) | (unfold catS; exact Nat.le_of_ble_eq_true rfl) | assumption)) only [q_182_0, q_182_1, q_182_2, q_182_4, q_182_7_t, q_182_7_f, q_182_10, q_182_11, q_182_12, q_182_14, q_182_17_t, q_182_17_f, q_182_20, q_182_21, q_182_22, q_182_23, q_182_26, q_182_27, q_182_28, q_182_29, q_182_31, q_182_33_t, q_182_33_f, q_182_37, q_182_38, q_182_41, q_182_43, q_182_45, q_182_46_t, q_182_46_f, q_182_49, q_182_51, q_182_52, q_182_53, q_182_56, q_182_57, q_182_60, q_182_62, q_182_65, q_182_66, q_182_67_t, q_182_67_f, q_182_70, q_182_71, q_182_74, q_182_75, q_182_76, q_182_79_t, q_182_79_f, q_182_82, q_182_83, q_182_86, q_182_87, q_182_88, q_182_91, q_182_93, aft_i, aft_l, aft_v, Int.toNat_natCast, kd_sI, kd_sL, kd_sR, kd_cp, gI_sL, gI_sR, gL_sI, gL_sR, gR_sI, gR_sL, gL_cp, gR_cp, kd_aI, gL_aI, gR_aI, gI_aI, gI_aIn, sI_aI, gI_sIn, Int.reduceToNat, Int.reduceAdd, Int.reduceSub, Int.reduceMul, Int.reduceNeg, Int.zero_add, fin1]
