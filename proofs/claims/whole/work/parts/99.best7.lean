/-- where nobody finds room behind these -/
theorem dead_k {T : Td} {N : Nt} (wT : wfT T) (wN : wfN T N) {A r : List Nat} {f : Nat} (pl : plc T N A = some f) (hr : (A ++ r).Perm (notLost N (tN T))) (hd : r = [] ∨ ∃ c r2, r = c :: r2 ∧ fstF (lnd T N) (tK T) (nX N c) (40 - f) f = none) : stN T (onR N (A ++ r)) = A.length ∧ nearS T (onR N (A ++ r)) = nearS T (onR N A) ∧ (A ≠ [] → lastS T (onR N (A ++ r)) = (f : Int) - 1) ∧ (A = [] → lastS T (onR N (A ++ r)) = -9) := by
  obtain ⟨nd, lb⟩ := nl_b hr
  have wO := onR_wf wN nd lb
  have s := st_dead pl hd
  have la := last_plc wT wO nd pl s
  exact ⟨s, near_dead wT wO nd s, la.2, fun e => (la.1 e).1⟩
theorem dead_take {T : Td} {N : Nt} (wT : wfT T) (wN : wfN T N) {A : List Nat} {left f : Nat} (pm : (A ++ bLf left (tN T) 0).Perm (notLost N (tN T))) (pl : plc T N A = some f) (nr : ∀ c, c < tN T → left.testBit c = true → fstF (lnd T N) (tK T) (nX N c) (40 - f) f = none) (r : List Nat) (hr : (A ++ r).Perm (notLost N (tN T))) : (r = [] ∨ ∃ c r2, r = c :: r2 ∧ fstF (lnd T N) (tK T) (nX N c) (40 - f) f = none) ∧ bet (keyL T N) (A ++ bLf left (tN T) 0) (A ++ r) := by
  have pr : r.Perm (bLf left (tN T) 0) := (List.perm_append_left_iff A).mp (hr.trans pm.symm)
  have key : ∀ r : List Nat, r.Perm (bLf left (tN T) 0) → (r = [] ∨ ∃ c r2, r = c :: r2 ∧ fstF (lnd T N) (tK T) (nX N c) (40 - f) f = none) := fun r pr => by
    cases r with
    | nil => exact Or.inl rfl
    | cons c r2 =>
      have := bLf_mem.mp (pr.mem_iff.mp List.mem_cons_self)
      exact Or.inr ⟨c, r2, rfl, nr c this.1 this.2⟩
  refine ⟨key r pr, ?_⟩
  obtain ⟨a1, a2, a3, a4⟩ := dead_k wT wN pl hr (key r pr)
  obtain ⟨b1, b2, b3, b4⟩ := dead_k wT wN pl pm (key _ (List.Perm.refl _))
  obtain ⟨nq, bq⟩ := nl_b hr
  obtain ⟨nb, bb⟩ := nl_b pm
  have c7 := wT.1
  have k := kcmp wT wN nb bb nq bq (pm.length_eq.trans hr.length_eq.symm)
  refine Or.inr ⟨k.2.mpr ⟨by omega, by omega, ?_⟩, ?_⟩
  · by_cases e : A = []
    · rw [a4 e, b4 e]
    · rw [a3 e, b3 e]
  · refine (lexV_pre pr.length_eq.symm).1.mpr ?_
    exact asc_bot (fun x hx => by have := (bLf_mem.mp hx).1; omega) (bLf_asc _ _) r pr
theorem dStp_one (D : Nat) (T : Td) (N : Nt) (wT : wfT T) (wN : wfN T N) (A : List Nat) (left f : Nat) (o : Option (List Nat)) (h : mH) (L : LAY h) (pre : dPre h T N A left f o) (loop : ∃ g2 o3 y6 y7, resA (callA (D + 2)) 2 (19, [Sum.inr (Sum.inr (some 129)), Sum.inl (A.length : Int), Sum.inl (left : Int), Sum.inl (f : Int), Sum.inl (nearS T (onR N A)), Sum.inl (sumX N (bLf left (tN T) 0) : Int), Sum.inl 0, Sum.inr (Sum.inr none)], [], h) = resA (callA (D + 2)) 2 (106, [Sum.inr (Sum.inr (some 129)), Sum.inl (A.length : Int), Sum.inl (left : Int), Sum.inl (f : Int), Sum.inl (nearS T (onR N A)), Sum.inl (sumX N (bLf left (tN T) 0) : Int), y6, y7], [], g2) ∧ dInv h g2 T N A left f (tN T) o o3) : ∃ g, callA (D + 3) 2 [Sum.inr (Sum.inr (some 129)), Sum.inl (A.length : Int), Sum.inl (left : Int), Sum.inl (f : Int), Sum.inl (nearS T (onR N A)), Sum.inl (sumX N (bLf left (tN T) 0) : Int)] h = some (none, g) ∧ dPost h g T N A o := by
  have L0 := L
  obtain ⟨r, l7, pm, pl, ra, rf, bk, po, pA⟩ := pre
  have c7 := wT.1
  have k4 := wT.2.1
  obtain ⟨nd, lb⟩ := nl_b pm
  have lle := nd_len nd lb
  have l0 := (notLost_perm wN).length_eq
  rw [rowL_len] at l0
  have lpm := pm.length_eq
  rw [List.length_append] at lle lpm
  have ndA : A.Nodup := (List.nodup_append.mp nd).1
  have lbA : ∀ c, c ∈ A → c < tN T := fun c hc => lb c (List.mem_append_left _ hc)
  have nb := nearS_i wT (onR_wf wN ndA lbA)
  have sx := sumX_b wN (bLf left (tN T) 0) (fun x hx => (bLf_mem.mp hx).1)
  have fk : f ≤ tK T := by
    unfold plc sSl at pl
    exact suS_le pl
  have u1 : gI h 14 2 = nM N := r.2.1.1
  have eh := wHp_ok D h L (nearS T (onR N A)) ((f : Int) + (sumX N (bLf left (tN T) 0) : Nat) - 1)
  by_cases z : (decide (gI h 129 1 = gI h 14 2) && !btB h (gI h 129 1) (nearS T (onR N A)) ((f : Int) + (sumX N (bLf left (tN T) 0) : Nat) - 1)) = true
  · rw [z] at eh
    have eh : callA (D + 2) 4 [Sum.inr (Sum.inr (some 129)), Sum.inl (nearS T (onR N A)), Sum.inl ((f : Int) + (sumX N (bLf left (tN T) 0) : Nat) - 1)] h = some (some (Sum.inl 1), h) := eh
    refine ⟨h, ?_, dfF_rf h, ra, fun _ _ => rfl, ?_⟩
    · obtain ⟨k129, j129⟩ := lay_k L0 (a := 129) (t := 0) (n := 9) rfl
      rw [en_2]
      simp (disch := (first | omega | (simp only [kd_sI, kd_sL, kd_sR, kd_cp, kd_aI]; omega) | (unfold catV; exact rfl) | (unfold catS; exact Nat.le_of_ble_eq_true rfl) | assumption)) only [q_2_0, q_2_1, q_2_3, q_2_4, q_2_6, q_2_7, q_2_8, q_2_9, q_2_12_t, q_2_12_f, q_2_15, q_2_16, q_2_17, q_2_21, q_2_22, q_2_25, q_2_28_t, q_2_28_f, q_2_31, q_2_32, q_2_34_t, q_2_34_f, q_2_37, q_2_38, q_2_40, q_2_41, q_2_42, q_2_43, q_2_44_t, q_2_44_f, q_2_47, q_2_48, q_2_51, q_2_52, q_2_55, q_2_58, q_2_60, q_2_61, q_2_62, q_2_65, q_2_68, q_2_70, q_2_72, q_2_74, q_2_76_t, q_2_76_f, q_2_79, q_2_80, q_2_83, q_2_85, q_2_87, q_2_88, q_2_89, q_2_90, q_2_91, q_2_93, q_2_95, q_2_97, q_2_100, q_2_103, q_2_106, q_2_107, q_2_108, q_2_110, q_2_111, q_2_112, q_2_113, q_2_116_t, q_2_116_f, q_2_119, q_2_120, q_2_121, q_2_122, q_2_124, q_2_125, q_2_126, q_2_127, q_2_130, aft_i, aft_l, aft_v, Int.toNat_natCast, kd_sI, kd_sL, kd_sR, kd_cp, gI_sL, gI_sR, gL_sI, gL_sR, gR_sI, gR_sL, gL_cp, gR_cp, kd_aI, gL_aI, gR_aI, gI_aI, gI_aIn, sI_aI, gI_sIn, Int.reduceToNat, Int.reduceAdd, Int.reduceSub, Int.reduceMul, Int.reduceNeg, Int.zero_add, eh]
    · rw [Bool.and_eq_true, decide_eq_true_iff] at z
      obtain ⟨z1, z2⟩ := z
      cases o with
      | none =>
        have bk : gI h 129 1 = -1 := bk
        omega
      | some b =>
        have ne : A ≠ [] := fun y => by have := pA y; cases this
        have lA : 1 ≤ A.length := List.length_pos_iff.mpr ne
        obtain ⟨pb, pl2⟩ := po b rfl
        obtain ⟨k1, k2, k3, k4'⟩ := bk
        refine ⟨b, ⟨k1, k2, k3, k4'⟩, pb, Or.inl rfl, ?_, fun b2 e => Or.inr (by injection e)⟩
        have sb : stN T (onR N b) = nM N := by omega
        have k3 := k3 (by omega)
        intro r2 hr
        refine hop_ok wT wN pm pl pb pl2 (by omega) sb ?_ r2 hr
        unfold btB at z2
        rw [if_neg (fun y => y rfl)] at z2
        by_cases v : nearS T (onR N A) = gI h 129 2
        · rw [if_neg (fun y => y v)] at z2
          have z2 : ¬ ((f : Int) + (sumX N (bLf left (tN T) 0) : Nat) - 1 < gI h 129 3) := by
            intro y
            rw [decide_eq_true y] at z2
            cases z2
          exact Or.inr ⟨by omega, by omega⟩
        · rw [if_pos v] at z2
          have z2 : ¬ (nearS T (onR N A) < gI h 129 2) := by
            intro y
            rw [decide_eq_true y] at z2
            cases z2
          exact Or.inl (by omega)
  · have z := Bool.eq_false_iff.mpr z
    rw [z] at eh
    have eh : callA (D + 2) 4 [Sum.inr (Sum.inr (some 129)), Sum.inl (nearS T (onR N A)), Sum.inl ((f : Int) + (sumX N (bLf left (tN T) 0) : Nat) - 1)] h = some (some (Sum.inl 0), h) := eh
    obtain ⟨g2, o3, y6, y7, el, i1, i2, i3, i4, i5, i6, i7, i8, i9⟩ := loop
    have L2 := dfF_L i1 L0
    have r2 := dfF_R i1 r
    have eb := wBt_ok (D + 1) g2 L2 (A.length : Int) (nearS T (onR N A)) ((f : Int) - 1)
    obtain ⟨v1, v2⟩ := lay_k L2 (a := 129) (t := 0) (n := 9) rfl
    have head : callA (D + 3) 2 [Sum.inr (Sum.inr (some 129)), Sum.inl (A.length : Int), Sum.inl (left : Int), Sum.inl (f : Int), Sum.inl (nearS T (onR N A)), Sum.inl (sumX N (bLf left (tN T) 0) : Int)] h = resA (callA (D + 2)) 2 (106, [Sum.inr (Sum.inr (some 129)), Sum.inl (A.length : Int), Sum.inl (left : Int), Sum.inl (f : Int), Sum.inl (nearS T (onR N A)), Sum.inl (sumX N (bLf left (tN T) 0) : Int), y6, y7], [], g2) := by
      rw [← el]
      obtain ⟨k129, j129⟩ := lay_k L0 (a := 129) (t := 0) (n := 9) rfl
      rw [en_2]
      simp (disch := (first | omega | (simp only [kd_sI, kd_sL, kd_sR, kd_cp, kd_aI]; omega) | (unfold catV; exact rfl) | (unfold catS; exact Nat.le_of_ble_eq_true rfl) | assumption)) only [q_2_0, q_2_1, q_2_3, q_2_4, q_2_6, q_2_7, q_2_8, q_2_9, q_2_12_t, q_2_12_f, q_2_15, q_2_16, q_2_17, q_2_21, q_2_22, q_2_25, q_2_28_t, q_2_28_f, q_2_31, q_2_32, q_2_34_t, q_2_34_f, q_2_37, q_2_38, q_2_40, q_2_41, q_2_42, q_2_43, q_2_44_t, q_2_44_f, q_2_47, q_2_48, q_2_51, q_2_52, q_2_55, q_2_58, q_2_60, q_2_61, q_2_62, q_2_65, q_2_68, q_2_70, q_2_72, q_2_74, q_2_76_t, q_2_76_f, q_2_79, q_2_80, q_2_83, q_2_85, q_2_87, q_2_88, q_2_89, q_2_90, q_2_91, q_2_93, q_2_95, q_2_97, q_2_100, q_2_103, q_2_106, q_2_107, q_2_108, q_2_110, q_2_111, q_2_112, q_2_113, q_2_116_t, q_2_116_f, q_2_119, q_2_120, q_2_121, q_2_122, q_2_124, q_2_125, q_2_126, q_2_127, q_2_130, aft_i, aft_l, aft_v, Int.toNat_natCast, kd_sI, kd_sL, kd_sR, kd_cp, gI_sL, gI_sR, gL_sI, gL_sR, gR_sI, gR_sL, gL_cp, gR_cp, kd_aI, gL_aI, gR_aI, gI_aI, gI_aIn, sI_aI, gI_sIn, Int.reduceToNat, Int.reduceAdd, Int.reduceSub, Int.reduceMul, Int.reduceNeg, Int.zero_add, eh]
    by_cases rm : ∃ x, x < tN T ∧ left.testBit x = true ∧ (fstF (lnd T N) (tK T) (nX N x) (40 - f) f).isSome = true
    · obtain ⟨x, x1, x2, x3⟩ := rm
      obtain ⟨p, hp⟩ := Option.isSome_iff_exists.mp x3
      obtain ⟨b, e3, bb⟩ := i8 x x1 x2 x3
      subst e3
      have pb := i6 b rfl
      have pq : (A ++ x :: bLf (left ^^^ (left &&& 2 ^ x)) (tN T) 0).Perm (notLost N (tN T)) := (List.Perm.append_left A (bLf_cl x1 x2)).trans pm
      have hb := bb _ pq
      have sq := st_ge (r := bLf (left ^^^ (left &&& 2 ^ x)) (tN T) 0) pl hp
      obtain ⟨nb1, bb1⟩ := nl_b pb
      obtain ⟨nq1, bq1⟩ := nl_b pq
      have kc := kcmp wT wN nq1 bq1 nb1 bb1 (pq.length_eq.trans pb.length_eq.symm)
      have sb : A.length < stN T (onR N b) := by
        by_cases u : A.length < stN T (onR N b)
        · exact u
        · exfalso
          have := kc.1.mpr (Or.inl (by omega))
          unfold bet at hb
          omega
      have k1 : gI g2 129 1 = (stN T (onR N b) : Int) := i4.1
      have bf : btB g2 (A.length : Int) (nearS T (onR N A)) ((f : Int) - 1) = false := by
        unfold btB
        rw [if_pos (by omega)]
        exact decide_eq_false (by omega)
      rw [bf] at eb
      have eb : callA (D + 2) 5 [Sum.inr (Sum.inr (some 129)), Sum.inl (A.length : Int), Sum.inl (nearS T (onR N A)), Sum.inl ((f : Int) - 1)] g2 = some (some (Sum.inl 0), g2) := eb
      refine ⟨g2, ?_, i1, i2, i3, b, i4, pb, ?_, fun r hr => ?_, fun b2 e2 => ?_⟩
      · rw [head]
        simp (disch := (first | omega | (simp only [kd_sI, kd_sL, kd_sR, kd_cp, kd_aI]; omega) | (unfold catV; exact rfl) | (unfold catS; exact Nat.le_of_ble_eq_true rfl) | assumption)) only [q_2_0, q_2_1, q_2_3, q_2_4, q_2_6, q_2_7, q_2_8, q_2_9, q_2_12_t, q_2_12_f, q_2_15, q_2_16, q_2_17, q_2_21, q_2_22, q_2_25, q_2_28_t, q_2_28_f, q_2_31, q_2_32, q_2_34_t, q_2_34_f, q_2_37, q_2_38, q_2_40, q_2_41, q_2_42, q_2_43, q_2_44_t, q_2_44_f, q_2_47, q_2_48, q_2_51, q_2_52, q_2_55, q_2_58, q_2_60, q_2_61, q_2_62, q_2_65, q_2_68, q_2_70, q_2_72, q_2_74, q_2_76_t, q_2_76_f, q_2_79, q_2_80, q_2_83, q_2_85, q_2_87, q_2_88, q_2_89, q_2_90, q_2_91, q_2_93, q_2_95, q_2_97, q_2_100, q_2_103, q_2_106, q_2_107, q_2_108, q_2_110, q_2_111, q_2_112, q_2_113, q_2_116_t, q_2_116_f, q_2_119, q_2_120, q_2_121, q_2_122, q_2_124, q_2_125, q_2_126, q_2_127, q_2_130, aft_i, aft_l, aft_v, Int.toNat_natCast, kd_sI, kd_sL, kd_sR, kd_cp, gI_sL, gI_sR, gL_sI, gL_sR, gR_sI, gR_sL, gL_cp, gR_cp, kd_aI, gL_aI, gR_aI, gI_aI, gI_aIn, sI_aI, gI_sIn, Int.reduceToNat, Int.reduceAdd, Int.reduceSub, Int.reduceMul, Int.reduceNeg, Int.zero_add, eb]
      · rcases i5 with u | ⟨y, r, -, u⟩
        · exact Or.inl u.symm
        · injection u with u
          exact Or.inr ⟨y :: r, u⟩
      · have pr : r.Perm (bLf left (tN T) 0) := (List.perm_append_left_iff A).mp (hr.trans pm.symm)
        cases r with
        | nil =>
          have := List.nil_perm.mp pr
          have m := bLf_mem.mpr ⟨x1, x2⟩
          rw [this] at m
          exact absurd m List.not_mem_nil
        | cons y r =>
          have my := bLf_mem.mp (pr.mem_iff.mp List.mem_cons_self)
          cases hy : fstF (lnd T N) (tK T) (nX N y) (40 - f) f with
          | some p2 =>
            obtain ⟨b2, e2, bb2⟩ := i8 y my.1 my.2 (by rw [hy]; rfl)
            injection e2 with e2
            subst e2
            exact bb2 r hr
          | none =>
            obtain ⟨a1, -⟩ := dead_k wT wN pl hr (Or.inr ⟨y, r, rfl, hy⟩)
            obtain ⟨nq2, bq2⟩ := nl_b hr
            have kc2 := kcmp wT wN nb1 bb1 nq2 bq2 (pb.length_eq.trans hr.length_eq.symm)
            exact Or.inl (kc2.1.mpr (Or.inl (by omega)))
      · obtain ⟨b3, e3, u⟩ := i7 b2 e2
        injection e3 with e3
        subst e3
        exact u
    · have nr : ∀ c, c < tN T → left.testBit c = true → fstF (lnd T N) (tK T) (nX N c) (40 - f) f = none := fun c h1 h2 => by
        cases q : fstF (lnd T N) (tK T) (nX N c) (40 - f) f with
        | none => rfl
        | some p => exact absurd ⟨c, h1, h2, by rw [q]; rfl⟩ rm
      have eo := i9 nr
      subst eo
      have dk := fun r hr => (dead_take wT wN pm pl nr r hr)
      have keep : (∀ b, o3 = some b → ¬ btB g2 (A.length : Int) (nearS T (onR N A)) ((f : Int) - 1) = true → ∀ r : List Nat, (A ++ r).Perm (notLost N (tN T)) → bet (keyL T N) b (A ++ r)) ∧ (∀ b, o3 = some b → btB g2 (A.length : Int) (nearS T (onR N A)) ((f : Int) - 1) = true → keyL T N (A ++ bLf left (tN T) 0) < keyL T N b) := by
        have pieces : ∀ b, o3 = some b → ∀ r : List Nat, (A ++ r).Perm (notLost N (tN T)) → (btB g2 (A.length : Int) (nearS T (onR N A)) ((f : Int) - 1) = true ↔ keyL T N (A ++ r) < keyL T N b) := fun b e r hr => by
          subst e
          have ne : A ≠ [] := fun y => by have := pA y; cases this
          have lA : 1 ≤ A.length := List.length_pos_iff.mpr ne
          obtain ⟨pb, -⟩ := po b rfl
          obtain ⟨k1, k2, k3, -⟩ := i4
          obtain ⟨a1, a2, a3, -⟩ := dead_k wT wN pl hr (dk r hr).1
          have a3 := a3 ne
          obtain ⟨nq, bq⟩ := nl_b hr
          obtain ⟨nb2, bb2⟩ := nl_b pb
          rw [(kcmp wT wN nq bq nb2 bb2 (hr.length_eq.trans pb.length_eq.symm)).1, a1, a2, a3]
          unfold btB
          by_cases y1 : (A.length : Int) = gI g2 129 1
          · rw [if_neg (fun u => u y1)]
            have k3 := k3 (by omega)
            by_cases y2 : nearS T (onR N A) = gI g2 129 2
            · rw [if_neg (fun u => u y2), decide_eq_true_iff]
              omega
            · rw [if_pos y2, decide_eq_true_iff]
              omega
          · rw [if_pos y1, decide_eq_true_iff]
            omega
        refine ⟨fun b e nb r hr => ?_, fun b e hb => (pieces b e _ pm).mp hb⟩
        have := pieces b e r hr
        have po2 := (po b e).2 r hr
        unfold bet
        by_cases y : keyL T N b < keyL T N (A ++ r)
        · exact Or.inl y
        · have n2 : ¬ keyL T N (A ++ r) < keyL T N b := fun u => nb (this.mpr u)
          exact Or.inr ⟨by omega, po2⟩
      by_cases bf : btB g2 (A.length : Int) (nearS T (onR N A)) ((f : Int) - 1) = true
      · rw [bf] at eb
        have eb : callA (D + 2) 5 [Sum.inr (Sum.inr (some 129)), Sum.inl (A.length : Int), Sum.inl (nearS T (onR N A)), Sum.inl ((f : Int) - 1)] g2 = some (some (Sum.inl 1), g2) := eb
        obtain ⟨g3, e3, q3, t1, t2, t3, t4, t5, t6⟩ := wTk2_ok (D + 1) g2 L2 T c7 r2.1.1 A left l7 (nearS T (onR N A)) ((f : Int) - 1) (by omega) i2
        obtain ⟨a1, a2, a3, a4⟩ := dead_k wT wN pl pm (dk _ pm).1
        refine ⟨g3, ?_, dfF_tr i1 q3, by rw [t1]; exact i2, fun x hx => by rw [t2]; exact i3 x hx, A ++ bLf left (tN T) 0, ⟨?_, ?_, fun u => ?_, t6⟩, pm, Or.inr ⟨_, rfl⟩, fun r hr => (dk r hr).2, fun b2 e2 => Or.inl (keep.2 b2 e2 bf)⟩
        · rw [head]
          simp (disch := (first | omega | (simp only [kd_sI, kd_sL, kd_sR, kd_cp, kd_aI]; omega) | (unfold catV; exact rfl) | (unfold catS; exact Nat.le_of_ble_eq_true rfl) | assumption)) only [q_2_0, q_2_1, q_2_3, q_2_4, q_2_6, q_2_7, q_2_8, q_2_9, q_2_12_t, q_2_12_f, q_2_15, q_2_16, q_2_17, q_2_21, q_2_22, q_2_25, q_2_28_t, q_2_28_f, q_2_31, q_2_32, q_2_34_t, q_2_34_f, q_2_37, q_2_38, q_2_40, q_2_41, q_2_42, q_2_43, q_2_44_t, q_2_44_f, q_2_47, q_2_48, q_2_51, q_2_52, q_2_55, q_2_58, q_2_60, q_2_61, q_2_62, q_2_65, q_2_68, q_2_70, q_2_72, q_2_74, q_2_76_t, q_2_76_f, q_2_79, q_2_80, q_2_83, q_2_85, q_2_87, q_2_88, q_2_89, q_2_90, q_2_91, q_2_93, q_2_95, q_2_97, q_2_100, q_2_103, q_2_106, q_2_107, q_2_108, q_2_110, q_2_111, q_2_112, q_2_113, q_2_116_t, q_2_116_f, q_2_119, q_2_120, q_2_121, q_2_122, q_2_124, q_2_125, q_2_126, q_2_127, q_2_130, aft_i, aft_l, aft_v, Int.toNat_natCast, kd_sI, kd_sL, kd_sR, kd_cp, gI_sL, gI_sR, gL_sI, gL_sR, gR_sI, gR_sL, gL_cp, gR_cp, kd_aI, gL_aI, gR_aI, gI_aI, gI_aIn, sI_aI, gI_sIn, Int.reduceToNat, Int.reduceAdd, Int.reduceSub, Int.reduceMul, Int.reduceNeg, Int.zero_add, eb, e3]
        · rw [t3, a1]
        · rw [t4, a2]
        · have ne : A ≠ [] := fun y => by subst y; rw [a1] at u; exact Nat.lt_irrefl _ u
          rw [t5, a3 ne]
      · rw [Bool.eq_false_iff.mpr bf] at eb
        have eb : callA (D + 2) 5 [Sum.inr (Sum.inr (some 129)), Sum.inl (A.length : Int), Sum.inl (nearS T (onR N A)), Sum.inl ((f : Int) - 1)] g2 = some (some (Sum.inl 0), g2) := eb
        cases o3 with
        | none =>
          exfalso
          have i4 : gI g2 129 1 = -1 := i4
          apply bf
          unfold btB
          rw [if_pos (by omega)]
          exact decide_eq_true (by omega)
        | some b =>
          refine ⟨g2, ?_, i1, i2, i3, b, i4, i6 b rfl, Or.inl rfl, keep.1 b rfl bf, fun b2 e2 => Or.inr (by injection e2)⟩
          rw [head]
          simp (disch := (first | omega | (simp only [kd_sI, kd_sL, kd_sR, kd_cp, kd_aI]; omega) | (unfold catV; exact rfl) | (unfold catS; exact Nat.le_of_ble_eq_true rfl) | assumption)) only [q_2_0, q_2_1, q_2_3, q_2_4, q_2_6, q_2_7, q_2_8, q_2_9, q_2_12_t, q_2_12_f, q_2_15, q_2_16, q_2_17, q_2_21, q_2_22, q_2_25, q_2_28_t, q_2_28_f, q_2_31, q_2_32, q_2_34_t, q_2_34_f, q_2_37, q_2_38, q_2_40, q_2_41, q_2_42, q_2_43, q_2_44_t, q_2_44_f, q_2_47, q_2_48, q_2_51, q_2_52, q_2_55, q_2_58, q_2_60, q_2_61, q_2_62, q_2_65, q_2_68, q_2_70, q_2_72, q_2_74, q_2_76_t, q_2_76_f, q_2_79, q_2_80, q_2_83, q_2_85, q_2_87, q_2_88, q_2_89, q_2_90, q_2_91, q_2_93, q_2_95, q_2_97, q_2_100, q_2_103, q_2_106, q_2_107, q_2_108, q_2_110, q_2_111, q_2_112, q_2_113, q_2_116_t, q_2_116_f, q_2_119, q_2_120, q_2_121, q_2_122, q_2_124, q_2_125, q_2_126, q_2_127, q_2_130, aft_i, aft_l, aft_v, Int.toNat_natCast, kd_sI, kd_sL, kd_sR, kd_cp, gI_sL, gI_sR, gL_sI, gL_sR, gR_sI, gR_sL, gL_cp, gR_cp, kd_aI, gL_aI, gR_aI, gI_aI, gI_aIn, sI_aI, gI_sIn, Int.reduceToNat, Int.reduceAdd, Int.reduceSub, Int.reduceMul, Int.reduceNeg, Int.zero_add, eb]
theorem dInv_0 {h : mH} {T : Td} {N : Nt} {A : List Nat} {left f : Nat} {o : Option (List Nat)} (pre : dPre h T N A left f o) : dInv h h T N A left f 0 o o := by
  obtain ⟨r, l7, pm, pl, ra, rf, bk, po, pA⟩ := pre
  exact ⟨dfF_rf h, ra, fun _ _ => rfl, bk, Or.inl rfl, fun b e => (po b e).1, fun b e => ⟨b, e, Or.inr rfl⟩, fun x hx => absurd hx (Nat.not_lt_zero _), fun _ => rfl⟩
theorem dStp_all (d : Nat) (T : Td) (N : Nt) (wT : wfT T) (wN : wfN T N) : ∀ m, dStp d T N m := by
  intro m
  induction m with
  | zero =>
    intro A left f o h L hm pre
    have no : ∀ c, c < tN T → left.testBit c = false := fun c hc => by
      cases q : left.testBit c with
      | false => rfl
      | true =>
        have m := bLf_mem.mpr ⟨hc, q⟩
        rw [List.eq_nil_of_length_eq_zero hm] at m
        exact absurd m List.not_mem_nil
    obtain ⟨y6, y7, e⟩ := wNil_loop (d + 2) T N wT.1 (A.length : Int) (f : Int) (nearS T (onR N A)) (sumX N (bLf left (tN T) 0) : Int) left pre.2.1 h L pre.1.1.1 no (tN T) 0 (Sum.inr (Sum.inr none)) (Nat.zero_add _)
    have iv := dInv_0 pre
    refine dStp_one d T N wT wN A left f o h L pre ⟨h, o, y6, y7, e, ?_⟩
    obtain ⟨i1, i2, i3, i4, i5, i6, i7, i8, i9⟩ := iv
    exact ⟨i1, i2, i3, i4, Or.inl rfl, i6, i7, fun x hx hb => (by rw [no x hx] at hb; cases hb), fun _ => rfl⟩
  | succ m ih =>
    intro A left f o h L hm pre
    obtain ⟨g2, o3, y7, e, iv⟩ := wAll_loop d T N wT wN m ih A left f o h L hm pre (tN T) 0 o h (Sum.inr (Sum.inr none)) (Nat.zero_add _) (dInv_0 pre)
    exact dStp_one (d + 2 * m + 2) T N wT wN A left f o h L pre ⟨g2, o3, _, y7, e, iv⟩
