theorem wNil_loop (d : Nat) (T : Td) (N : Nt) (c7 : tN T ≤ 7) (dep f nr wi : Int) (left : Nat) (l7 : left < 128) (h : mH) (L : LAY h) (t1 : gI h 3 4 = tN T) (h0 : ∀ c, c < tN T → left.testBit c = false) : ∀ (k c : Nat) (x7 : mV), c + k = tN T → ∃ y6 y7 : mV, resA (callA d) 2 (19, [Sum.inr (Sum.inr (some 129)), Sum.inl dep, Sum.inl (left : Int), Sum.inl f, Sum.inl nr, Sum.inl wi, Sum.inl (c : Int), x7], [], h) = resA (callA d) 2 (106, [Sum.inr (Sum.inr (some 129)), Sum.inl dep, Sum.inl (left : Int), Sum.inl f, Sum.inl nr, Sum.inl wi, y6, y7], [], h)
  | 0, c, x7, hc => by
    have e : c = tN T := hc
    subst e
    refine ⟨Sum.inl (tN T : Int), x7, ?_⟩
    obtain ⟨k3, j3⟩ := lay_k L (a := 3) (t := 6) (n := 8) rfl; obtain ⟨k129, j129⟩ := lay_k L (a := 129) (t := 0) (n := 9) rfl; have r129_6 : gR h 129 6 = some 3 := lay_r L rfl
    simp (disch := (first | omega | (simp only [kd_sI, kd_sL, kd_sR, kd_cp, kd_aI]; omega) | (unfold catV; exact rfl) | (unfold catS; exact Nat.le_of_ble_eq_true rfl) | assumption)) only [q_2_0, q_2_1, q_2_3, q_2_4, q_2_6, q_2_7, q_2_8, q_2_9, q_2_12_t, q_2_12_f, q_2_15, q_2_16, q_2_17, q_2_19, q_2_21, q_2_22, q_2_25, q_2_28_t, q_2_28_f, q_2_31, q_2_32, q_2_34_t, q_2_34_f, q_2_37, q_2_38, q_2_40, q_2_41, q_2_42, q_2_43, q_2_44_t, q_2_44_f, q_2_47, q_2_48, q_2_51, q_2_52, q_2_55, q_2_58, q_2_60, q_2_61, q_2_62, q_2_65, q_2_68, q_2_70, q_2_72, q_2_74, q_2_76_t, q_2_76_f, q_2_79, q_2_80, q_2_83, q_2_85, q_2_87, q_2_88, q_2_89, q_2_90, q_2_91, q_2_93, q_2_95, q_2_97, q_2_100, q_2_103, q_2_107, q_2_108, q_2_110, q_2_111, q_2_112, q_2_113, q_2_116_t, q_2_116_f, q_2_119, q_2_120, q_2_121, q_2_122, q_2_124, q_2_125, q_2_126, q_2_127, q_2_130, aft_i, aft_l, aft_v, Int.toNat_natCast, kd_sI, kd_sL, kd_sR, kd_cp, gI_sL, gI_sR, gL_sI, gL_sR, gR_sI, gR_sL, gL_cp, gR_cp, kd_aI, gL_aI, gR_aI, gI_aI, gI_aIn, sI_aI, gI_sIn, Int.reduceToNat, Int.reduceAdd, Int.reduceSub, Int.reduceMul, Int.reduceNeg, Int.zero_add, r129_6, t1]
  | k + 1, c, x7, hc => by
    have bt := bitI (a := left) (c := c) (by omega) (by omega)
    rw [h0 c (by omega), if_neg Bool.false_ne_true] at bt
    obtain ⟨y6, y2, e2⟩ := wNil_loop d T N c7 dep f nr wi left l7 h L t1 h0 k (c + 1) (Sum.inl (-9)) (by omega)
    obtain ⟨k3, j3⟩ := lay_k L (a := 3) (t := 6) (n := 8) rfl; obtain ⟨k129, j129⟩ := lay_k L (a := 129) (t := 0) (n := 9) rfl; have r129_6 : gR h 129 6 = some 3 := lay_r L rfl
    by_cases z : dep < 7
    · refine ⟨y6, y2, ?_⟩
      rw [← e2, q_2_19]
      simp (disch := (first | omega | (simp only [kd_sI, kd_sL, kd_sR, kd_cp, kd_aI]; omega) | (unfold catV; exact rfl) | (unfold catS; exact Nat.le_of_ble_eq_true rfl) | assumption)) only [q_2_0, q_2_1, q_2_3, q_2_4, q_2_6, q_2_7, q_2_8, q_2_9, q_2_12_t, q_2_12_f, q_2_15, q_2_16, q_2_17, q_2_21, q_2_22, q_2_25, q_2_28_t, q_2_28_f, q_2_31, q_2_32, q_2_34_t, q_2_34_f, q_2_37, q_2_38, q_2_40, q_2_41, q_2_42, q_2_43, q_2_44_t, q_2_44_f, q_2_47, q_2_48, q_2_51, q_2_52, q_2_55, q_2_58, q_2_60, q_2_61, q_2_62, q_2_65, q_2_68, q_2_70, q_2_72, q_2_74, q_2_76_t, q_2_76_f, q_2_79, q_2_80, q_2_83, q_2_85, q_2_87, q_2_88, q_2_89, q_2_90, q_2_91, q_2_93, q_2_95, q_2_97, q_2_100, q_2_103, q_2_107, q_2_108, q_2_110, q_2_111, q_2_112, q_2_113, q_2_116_t, q_2_116_f, q_2_119, q_2_120, q_2_121, q_2_122, q_2_124, q_2_125, q_2_126, q_2_127, q_2_130, aft_i, aft_l, aft_v, Int.toNat_natCast, kd_sI, kd_sL, kd_sR, kd_cp, gI_sL, gI_sR, gL_sI, gL_sR, gR_sI, gR_sL, gL_cp, gR_cp, kd_aI, gL_aI, gR_aI, gI_aI, gI_aIn, sI_aI, gI_sIn, Int.reduceToNat, Int.reduceAdd, Int.reduceSub, Int.reduceMul, Int.reduceNeg, Int.zero_add, r129_6, t1, bt]
      rfl
    · refine ⟨Sum.inl (c : Int), x7, ?_⟩
      simp (disch := (first | omega | (simp only [kd_sI, kd_sL, kd_sR, kd_cp, kd_aI]; omega) | (unfold catV; exact rfl) | (unfold catS; exact Nat.le_of_ble_eq_true rfl) | assumption)) only [q_2_0, q_2_1, q_2_3, q_2_4, q_2_6, q_2_7, q_2_8, q_2_9, q_2_12_t, q_2_12_f, q_2_15, q_2_16, q_2_17, q_2_19, q_2_21, q_2_22, q_2_25, q_2_28_t, q_2_28_f, q_2_31, q_2_32, q_2_34_t, q_2_34_f, q_2_37, q_2_38, q_2_40, q_2_41, q_2_42, q_2_43, q_2_44_t, q_2_44_f, q_2_47, q_2_48, q_2_51, q_2_52, q_2_55, q_2_58, q_2_60, q_2_61, q_2_62, q_2_65, q_2_68, q_2_70, q_2_72, q_2_74, q_2_76_t, q_2_76_f, q_2_79, q_2_80, q_2_83, q_2_85, q_2_87, q_2_88, q_2_89, q_2_90, q_2_91, q_2_93, q_2_95, q_2_97, q_2_100, q_2_103, q_2_107, q_2_108, q_2_110, q_2_111, q_2_112, q_2_113, q_2_116_t, q_2_116_f, q_2_119, q_2_120, q_2_121, q_2_122, q_2_124, q_2_125, q_2_126, q_2_127, q_2_130, aft_i, aft_l, aft_v, Int.toNat_natCast, kd_sI, kd_sL, kd_sR, kd_cp, gI_sL, gI_sR, gL_sI, gL_sR, gR_sI, gR_sL, gL_cp, gR_cp, kd_aI, gL_aI, gR_aI, gI_aI, gI_aIn, sI_aI, gI_sIn, Int.reduceToNat, Int.reduceAdd, Int.reduceSub, Int.reduceMul, Int.reduceNeg, Int.zero_add, r129_6, t1]
theorem st_ge {T : Td} {N : Nt} {A r : List Nat} {f c p : Nat} (h : plc T N A = some f) (hp : fstF (lnd T N) (tK T) (nX N c) (40 - f) f = some p) : A.length < stN T (onR N (A ++ c :: r)) := by
  have hl : A.length < (A ++ c :: r).length := by rw [List.length_append, List.length_cons]; omega
  refine (onR_st hl).mpr ?_
  have ea : A ++ c :: r = (A ++ [c]) ++ r := by simp
  rw [ea, sP_app (by rw [List.length_append]; show A.length < A.length + 1; omega), (plc_snoc h).1, hp]
  rfl
theorem lastS_q {T : Td} {N : Nt} (wT : wfT T) (wN : wfN T N) {q : List Nat} {f2 : Nat} (nd : q.Nodup) (lb : ∀ c, c ∈ q → c < tN T) (h : plc T N q = some f2) (ne : q ≠ []) : lastS T (onR N q) = (f2 : Int) - 1 := by
  have e : q ++ [] = q := List.append_nil q
  have := (last_plc (r := []) wT (by rw [e]; exact onR_wf wN nd lb) (by rw [e]; exact nd) h (by rw [e]; exact st_full h)).2 ne
  rw [e] at this
  exact this
/-- no order that goes on so can be better -/
theorem hop_ok {T : Td} {N : Nt} (wT : wfT T) (wN : wfN T N) {A : List Nat} {left f : Nat} {b : List Nat} (pm : (A ++ bLf left (tN T) 0).Perm (notLost N (tN T))) (pl : plc T N A = some f) (pb : b.Perm (notLost N (tN T))) (po : ∀ r : List Nat, (A ++ r).Perm (notLost N (tN T)) → lexV b ≤ lexV (A ++ r)) (n0 : 1 ≤ nM N) (sb : stN T (onR N b) = nM N) (hn : nearS T (onR N b) < nearS T (onR N A) ∨ (nearS T (onR N A) = nearS T (onR N b) ∧ lastS T (onR N b) ≤ (f : Int) + sumX N (bLf left (tN T) 0) - 1)) (r : List Nat) (hr : (A ++ r).Perm (notLost N (tN T))) : bet (keyL T N) b (A ++ r) := by
  obtain ⟨nb, bb⟩ := nl_b pb
  obtain ⟨nq, bq⟩ := nl_b hr
  have lq := hr.length_eq
  have lb := pb.length_eq
  have l0 := (notLost_perm wN).length_eq
  rw [rowL_len] at l0
  obtain ⟨k1, k2⟩ := kcmp wT wN nb bb nq bq (by omega)
  have sle : stN T (onR N (A ++ r)) ≤ (A ++ r).length := stN_le T (onR N (A ++ r))
  have ng := near_ge (T := T) (N := N) nq
  unfold bet
  by_cases z : stN T (onR N (A ++ r)) < nM N
  · left
    exact k1.mpr (Or.inl (by omega))
  · have sq : stN T (onR N (A ++ r)) = (A ++ r).length := by omega
    obtain ⟨f2, hf2⟩ := plc_of_st sq
    have far := plc_far r A f f2 pl hf2
    have pr : r.Perm (bLf left (tN T) 0) := (List.perm_append_left_iff A).mp (hr.trans pm.symm)
    rw [sumX_perm pr] at far
    have ne : A ++ r ≠ [] := fun y => by
      rw [y, List.length_nil] at lq
      omega
    have ls := lastS_q wT wN nq bq hf2 ne
    rcases hn with u | ⟨u1, u2⟩
    · left
      exact k1.mpr (Or.inr ⟨by omega, Or.inl (by omega)⟩)
    · by_cases v : nearS T (onR N b) < nearS T (onR N (A ++ r))
      · left
        exact k1.mpr (Or.inr ⟨by omega, Or.inl v⟩)
      · by_cases x : lastS T (onR N b) < lastS T (onR N (A ++ r))
        · left
          exact k1.mpr (Or.inr ⟨by omega, Or.inr ⟨by omega, x⟩⟩)
        · right
          exact ⟨k2.mpr ⟨by omega, by omega, by omega⟩, po r hr⟩
