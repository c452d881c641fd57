theorem wSet_ok (d : Nat) (h : mH) (L : LAY h) (l : Nat) (hl : gI h 14 3 = l) (l7 : l < 128) (c : Nat) (hc : c < 7) (b : Bool) : callA (d + 1) 18 [Sum.inr (Sum.inr (some 14)), Sum.inl (c : Int), Sum.inl (if b = true then 1 else 0)] h = some (none, sI h 14 3 ((if b = true then l ||| 2 ^ c else l ^^^ (l &&& 2 ^ c) : Nat) : Int)) := by
  have sh := shl1 (j := c) (by omega)
  have p31 : 2 ^ c < 2 ^ 31 := Nat.pow_lt_pow_right (by omega) (by omega)
  have o := orI_n (a := l) (b := 2 ^ c) (by omega) p31
  have x := clrI_n (a := l) (2 ^ c) (by omega)
  obtain ⟨k14, j14⟩ := lay_k L (a := 14) (t := 2) (n := 5) rfl
  rw [en_18]
  cases b with
  | true =>
    rw [if_pos rfl, if_pos rfl]
    simp (disch := (first | omega | (simp only [kd_sI, kd_sL, kd_sR, kd_cp, kd_aI]; omega) | (unfold catV; exact rfl) | (unfold catS; exact Nat.le_of_ble_eq_true rfl) | assumption)) only [q_18_0, q_18_1, q_18_2_t, q_18_2_f, q_18_5, q_18_6, q_18_9, q_18_10, q_18_11, q_18_12, q_18_13, q_18_16, q_18_17, q_18_20, q_18_21, q_18_22, q_18_23, q_18_24, q_18_25, q_18_26, q_18_29, aft_i, aft_l, aft_v, Int.toNat_natCast, kd_sI, kd_sL, kd_sR, kd_cp, gI_sL, gI_sR, gL_sI, gL_sR, gR_sI, gR_sL, gL_cp, gR_cp, kd_aI, gL_aI, gR_aI, gI_aI, gI_aIn, sI_aI, gI_sIn, Int.reduceToNat, Int.reduceAdd, Int.reduceSub, Int.reduceMul, Int.reduceNeg, Int.zero_add, hl, sh, o]
  | false =>
    rw [if_neg Bool.false_ne_true, if_neg Bool.false_ne_true]
    simp (disch := (first | omega | (simp only [kd_sI, kd_sL, kd_sR, kd_cp, kd_aI]; omega) | (unfold catV; exact rfl) | (unfold catS; exact Nat.le_of_ble_eq_true rfl) | assumption)) only [q_18_0, q_18_1, q_18_2_t, q_18_2_f, q_18_5, q_18_6, q_18_9, q_18_10, q_18_11, q_18_12, q_18_13, q_18_16, q_18_17, q_18_20, q_18_21, q_18_22, q_18_23, q_18_24, q_18_25, q_18_26, q_18_29, aft_i, aft_l, aft_v, Int.toNat_natCast, kd_sI, kd_sL, kd_sR, kd_cp, gI_sL, gI_sR, gL_sI, gL_sR, gR_sI, gR_sL, gL_cp, gR_cp, kd_aI, gL_aI, gR_aI, gI_aI, gI_aIn, sI_aI, gI_sIn, Int.reduceToNat, Int.reduceAdd, Int.reduceSub, Int.reduceMul, Int.reduceNeg, Int.zero_add, hl, sh, x]
theorem xor_set {l c : Nat} (h : l.testBit c = false) : l ||| 2 ^ c = l ^^^ 2 ^ c := by
  refine Nat.eq_of_testBit_eq (fun k => ?_)
  rw [Nat.testBit_or, Nat.testBit_xor, Nat.testBit_two_pow]
  by_cases z : c = k
  · subst z; rw [h, decide_eq_true rfl]; rfl
  · rw [decide_eq_false z]; cases l.testBit k <;> rfl
theorem xor_clr {l c : Nat} (h : l.testBit c = true) : l ^^^ (l &&& 2 ^ c) = l ^^^ 2 ^ c := by
  refine Nat.eq_of_testBit_eq (fun k => ?_)
  rw [Nat.testBit_xor, Nat.testBit_and, Nat.testBit_xor, Nat.testBit_two_pow]
  by_cases z : c = k
  · subst z; rw [h, decide_eq_true rfl]; rfl
  · rw [decide_eq_false z]; cases l.testBit k <;> rfl
theorem cLate_ok (d : Nat) (h : mH) (L : LAY h) (σ : Sg) (w : wfS σ) (c : CI h σ) (j is : Int) : cOK (d + 4) 67 [Sum.inl j, Sum.inl is] h (Sum.inl (latS (zT σ) (zN σ) (zP σ) j is).1) (zev σ (latS (zT σ) (zN σ) (zP σ) j is).2.1 (latS (zT σ) (zN σ) (zP σ) j is).2.2) := by
  have L0 := L
  have wT := w.1
  have c7 := wT.1
  have wN := w.2.1.1
  have q := CI_q c
  have e := wCart_ok (d + 2) h L (zT σ) q.1 j
  have ef := wFlag_ok (d + 2) h is
  unfold latS
  by_cases z : 0 ≤ j ∧ j < tN (zT σ)
  · rw [if_pos z] at e
    by_cases zf : is = 0 ∨ is = 1
    · rw [if_pos zf] at ef
      rw [if_pos ⟨z, zf⟩]
      obtain ⟨i, rfl⟩ : ∃ i : Nat, j = i := ⟨j.toNat, by omega⟩
      rw [Int.toNat_natCast]
      have hi : i < tN (zT σ) := by omega
      have el := wLost_ok (d + 1) h L (zT σ) (zN σ) wT wN q.2.1 i
      have et := wLate_ok (d + 2) h L (zT σ) (zN σ) wN q.2.1 i (by omega)
      by_cases y : plF (fun i => (nR (zN σ) i : Int)) i (nM (zN σ)) 0 = -9
      · rw [if_pos y] at el
        rw [if_pos (Or.inl y)]
        refine cOK_s L c ?_
        obtain ⟨k0, j0⟩ := lay_k L0 (a := 0) (t := 7) (n := 17) rfl; obtain ⟨k13, j13⟩ := lay_k L0 (a := 13) (t := 4) (n := 4) rfl; obtain ⟨k14, j14⟩ := lay_k L0 (a := 14) (t := 2) (n := 5) rfl; have r0_3 : gR h 0 3 = some 13 := lay_r L0 rfl; have r13_0 : gR h 13 0 = some 14 := lay_r L0 rfl
        rw [en_67]
        simp (disch := (first | omega | (simp only [kd_sI, kd_sL, kd_sR, kd_cp, kd_aI]; omega) | (unfold catV; exact rfl) | (unfold catS; exact Nat.le_of_ble_eq_true rfl) | assumption)) only [q_67_0, q_67_1, q_67_2, q_67_5_t, q_67_5_f, q_67_8, q_67_9, q_67_12_t, q_67_12_f, q_67_15, q_67_16, q_67_17, q_67_18, q_67_21, q_67_24, q_67_25, q_67_28_t, q_67_28_f, q_67_31, q_67_32, q_67_35, q_67_38, q_67_39, q_67_42, q_67_43, q_67_44_t, q_67_44_f, q_67_47, q_67_48, q_67_51, q_67_52_t, q_67_52_f, q_67_55, q_67_57, q_67_58, q_67_59, q_67_62, q_67_65, q_67_66, q_67_69, q_67_72, q_67_73, q_67_74, q_67_75_t, q_67_75_f, q_67_78, q_67_79, q_67_82, q_67_83, q_67_86, q_67_87, q_67_90, q_67_91, q_67_92, q_67_95, aft_i, aft_l, aft_v, Int.toNat_natCast, kd_sI, kd_sL, kd_sR, kd_cp, gI_sL, gI_sR, gL_sI, gL_sR, gR_sI, gR_sL, gL_cp, gR_cp, kd_aI, gL_aI, gR_aI, gI_aI, gI_aIn, sI_aI, gI_sIn, Int.reduceToNat, Int.reduceAdd, Int.reduceSub, Int.reduceMul, Int.reduceNeg, Int.zero_add, e, ef, r0_3, r13_0, el]
      · rw [if_neg y] at el
        by_cases v : (if (nL (zN σ)).testBit i = true then (1 : Int) else 0) = is
        · rw [if_pos (Or.inr v)]
          refine cOK_s L c ?_
          obtain ⟨k0, j0⟩ := lay_k L0 (a := 0) (t := 7) (n := 17) rfl; obtain ⟨k13, j13⟩ := lay_k L0 (a := 13) (t := 4) (n := 4) rfl; obtain ⟨k14, j14⟩ := lay_k L0 (a := 14) (t := 2) (n := 5) rfl; have r0_3 : gR h 0 3 = some 13 := lay_r L0 rfl; have r13_0 : gR h 13 0 = some 14 := lay_r L0 rfl
          rw [en_67]
          rw [v] at et
          rcases zf with f | f
          · subst f
            simp (disch := (first | omega | (simp only [kd_sI, kd_sL, kd_sR, kd_cp, kd_aI]; omega) | (unfold catV; exact rfl) | (unfold catS; exact Nat.le_of_ble_eq_true rfl) | assumption)) only [q_67_0, q_67_1, q_67_2, q_67_5_t, q_67_5_f, q_67_8, q_67_9, q_67_12_t, q_67_12_f, q_67_15, q_67_16, q_67_17, q_67_18, q_67_21, q_67_24, q_67_25, q_67_28_t, q_67_28_f, q_67_31, q_67_32, q_67_35, q_67_38, q_67_39, q_67_42, q_67_43, q_67_44_t, q_67_44_f, q_67_47, q_67_48, q_67_51, q_67_52_t, q_67_52_f, q_67_55, q_67_57, q_67_58, q_67_59, q_67_62, q_67_65, q_67_66, q_67_69, q_67_72, q_67_73, q_67_74, q_67_75_t, q_67_75_f, q_67_78, q_67_79, q_67_82, q_67_83, q_67_86, q_67_87, q_67_90, q_67_91, q_67_92, q_67_95, aft_i, aft_l, aft_v, Int.toNat_natCast, kd_sI, kd_sL, kd_sR, kd_cp, gI_sL, gI_sR, gL_sI, gL_sR, gR_sI, gR_sL, gL_cp, gR_cp, kd_aI, gL_aI, gR_aI, gI_aI, gI_aIn, sI_aI, gI_sIn, Int.reduceToNat, Int.reduceAdd, Int.reduceSub, Int.reduceMul, Int.reduceNeg, Int.zero_add, e, ef, r0_3, r13_0, el, et]
          · subst f
            simp (disch := (first | omega | (simp only [kd_sI, kd_sL, kd_sR, kd_cp, kd_aI]; omega) | (unfold catV; exact rfl) | (unfold catS; exact Nat.le_of_ble_eq_true rfl) | assumption)) only [q_67_0, q_67_1, q_67_2, q_67_5_t, q_67_5_f, q_67_8, q_67_9, q_67_12_t, q_67_12_f, q_67_15, q_67_16, q_67_17, q_67_18, q_67_21, q_67_24, q_67_25, q_67_28_t, q_67_28_f, q_67_31, q_67_32, q_67_35, q_67_38, q_67_39, q_67_42, q_67_43, q_67_44_t, q_67_44_f, q_67_47, q_67_48, q_67_51, q_67_52_t, q_67_52_f, q_67_55, q_67_57, q_67_58, q_67_59, q_67_62, q_67_65, q_67_66, q_67_69, q_67_72, q_67_73, q_67_74, q_67_75_t, q_67_75_f, q_67_78, q_67_79, q_67_82, q_67_83, q_67_86, q_67_87, q_67_90, q_67_91, q_67_92, q_67_95, aft_i, aft_l, aft_v, Int.toNat_natCast, kd_sI, kd_sL, kd_sR, kd_cp, gI_sL, gI_sR, gL_sI, gL_sR, gR_sI, gR_sL, gL_cp, gR_cp, kd_aI, gL_aI, gR_aI, gI_aI, gI_aIn, sI_aI, gI_sIn, Int.reduceToNat, Int.reduceAdd, Int.reduceSub, Int.reduceMul, Int.reduceNeg, Int.zero_add, e, ef, r0_3, r13_0, el, et]
        · rw [if_neg (fun u => u.elim y v)]
          obtain ⟨π, s⟩ := c.1.2.1
          obtain ⟨g1, π2, e1, s1, a1, n1⟩ := wRem_ok (d + 1) h L (zT σ) (zN σ) (zP σ) wT w.2.1 π s
          have L1 := lvF_L a1 L
          have l7 := wN.2.2.2.2.1
          have bt : (nL (zN σ)).testBit i = !decide (is = 1) := by
            rcases zf with f | f
            · subst f
              cases u : (nL (zN σ)).testBit i with
              | true => rfl
              | false => rw [u] at v; exact absurd rfl v
            · subst f
              cases u : (nL (zN σ)).testBit i with
              | false => rfl
              | true => rw [u] at v; exact absurd rfl v
          have e2 := wSet_ok (d + 2) g1 L1 (nL (zN σ)) n1.2.1 l7 i (by omega) (decide (is = 1))
          have eL : (if decide (is = 1) = true then nL (zN σ) ||| 2 ^ i else nL (zN σ) ^^^ (nL (zN σ) &&& 2 ^ i)) = nL (lat (zN σ) i) := by
            show _ = nL (zN σ) ^^^ 2 ^ i
            by_cases f : is = 1
            · rw [if_pos (decide_eq_true f)]
              rw [decide_eq_true f] at bt
              exact xor_set bt
            · rw [if_neg (by rw [decide_eq_false f]; exact Bool.false_ne_true)]
              rw [decide_eq_false f] at bt
              exact xor_clr bt
          rw [eL] at e2
          obtain ⟨g, e3, fr, Lg, cg⟩ := ev_fin d h g1 (sI g1 14 3 (nL (lat (zN σ) i))) L σ w c.1 a1 s1 (knP_wf w.2.1 (lat_wf wT wN hi y)) rfl (fun q k n => by rw [gI_sIn (by omega)]) (fun _ _ _ => rfl) rfl (N2 := lat (zN σ) i) ⟨by rw [gI_sIo (by omega)]; exact n1.1, gI_sIs _ _ _ _, n1.2.2.1, fun k hk => by rw [gI_sIn (by omega)]; exact n1.2.2.2.1 k hk, fun k hk => by rw [gI_sIn (by omega)]; exact n1.2.2.2.2 k hk⟩
          refine ⟨g, ?_, fr, Lg, cg⟩
          have e5 := wCellOf_ok (d + 1) g Lg (zT σ) (lat (zN σ) i) wT (lat_wf wT wN hi y) (CI_q cg) i hi
          obtain ⟨m1, m2⟩ := lay_k L1 (a := 0) (t := 7) (n := 17) rfl
          obtain ⟨m3, m4⟩ := lay_k L1 (a := 13) (t := 4) (n := 4) rfl
          obtain ⟨m5, m6⟩ := lay_k L1 (a := 14) (t := 2) (n := 5) rfl
          have r1 : gR g1 0 3 = some 13 := lay_r L1 rfl
          have r2 : gR g1 13 0 = some 14 := lay_r L1 rfl
          obtain ⟨u1, u2⟩ := lay_k Lg (a := 0) (t := 7) (n := 17) rfl
          obtain ⟨k0, j0⟩ := lay_k L0 (a := 0) (t := 7) (n := 17) rfl; obtain ⟨k13, j13⟩ := lay_k L0 (a := 13) (t := 4) (n := 4) rfl; obtain ⟨k14, j14⟩ := lay_k L0 (a := 14) (t := 2) (n := 5) rfl; have r0_3 : gR h 0 3 = some 13 := lay_r L0 rfl; have r13_0 : gR h 13 0 = some 14 := lay_r L0 rfl
          rw [en_67]
          rcases zf with f | f
          · subst f
            have bt : (nL (zN σ)).testBit i = true := bt
            rw [if_pos bt] at et
            have e2 : callA (d + 3) 18 [Sum.inr (Sum.inr (some 14)), Sum.inl (i : Int), Sum.inl 0] g1 = _ := e2
            simp (disch := (first | omega | (simp only [kd_sI, kd_sL, kd_sR, kd_cp, kd_aI]; omega) | (unfold catV; exact rfl) | (unfold catS; exact Nat.le_of_ble_eq_true rfl) | assumption)) only [q_67_0, q_67_1, q_67_2, q_67_5_t, q_67_5_f, q_67_8, q_67_9, q_67_12_t, q_67_12_f, q_67_15, q_67_16, q_67_17, q_67_18, q_67_21, q_67_24, q_67_25, q_67_28_t, q_67_28_f, q_67_31, q_67_32, q_67_35, q_67_38, q_67_39, q_67_42, q_67_43, q_67_44_t, q_67_44_f, q_67_47, q_67_48, q_67_51, q_67_52_t, q_67_52_f, q_67_55, q_67_57, q_67_58, q_67_59, q_67_62, q_67_65, q_67_66, q_67_69, q_67_72, q_67_73, q_67_74, q_67_75_t, q_67_75_f, q_67_78, q_67_79, q_67_82, q_67_83, q_67_86, q_67_87, q_67_90, q_67_91, q_67_92, q_67_95, aft_i, aft_l, aft_v, Int.toNat_natCast, kd_sI, kd_sL, kd_sR, kd_cp, gI_sL, gI_sR, gL_sI, gL_sR, gR_sI, gR_sL, gL_cp, gR_cp, kd_aI, gL_aI, gR_aI, gI_aI, gI_aIn, sI_aI, gI_sIn, Int.reduceToNat, Int.reduceAdd, Int.reduceSub, Int.reduceMul, Int.reduceNeg, Int.zero_add, e, ef, r0_3, r13_0, el, et, e1, r1, r2, e2, e3, e5]
          · subst f
            have bt : (nL (zN σ)).testBit i = false := bt
            rw [bt, if_neg Bool.false_ne_true] at et
            have e2 : callA (d + 3) 18 [Sum.inr (Sum.inr (some 14)), Sum.inl (i : Int), Sum.inl 1] g1 = _ := e2
            simp (disch := (first | omega | (simp only [kd_sI, kd_sL, kd_sR, kd_cp, kd_aI]; omega) | (unfold catV; exact rfl) | (unfold catS; exact Nat.le_of_ble_eq_true rfl) | assumption)) only [q_67_0, q_67_1, q_67_2, q_67_5_t, q_67_5_f, q_67_8, q_67_9, q_67_12_t, q_67_12_f, q_67_15, q_67_16, q_67_17, q_67_18, q_67_21, q_67_24, q_67_25, q_67_28_t, q_67_28_f, q_67_31, q_67_32, q_67_35, q_67_38, q_67_39, q_67_42, q_67_43, q_67_44_t, q_67_44_f, q_67_47, q_67_48, q_67_51, q_67_52_t, q_67_52_f, q_67_55, q_67_57, q_67_58, q_67_59, q_67_62, q_67_65, q_67_66, q_67_69, q_67_72, q_67_73, q_67_74, q_67_75_t, q_67_75_f, q_67_78, q_67_79, q_67_82, q_67_83, q_67_86, q_67_87, q_67_90, q_67_91, q_67_92, q_67_95, aft_i, aft_l, aft_v, Int.toNat_natCast, kd_sI, kd_sL, kd_sR, kd_cp, gI_sL, gI_sR, gL_sI, gL_sR, gR_sI, gR_sL, gL_cp, gR_cp, kd_aI, gL_aI, gR_aI, gI_aI, gI_aIn, sI_aI, gI_sIn, Int.reduceToNat, Int.reduceAdd, Int.reduceSub, Int.reduceMul, Int.reduceNeg, Int.zero_add, e, ef, r0_3, r13_0, el, et, e1, r1, r2, e2, e3, e5]
    · rw [if_neg zf] at ef
      rw [if_neg (fun u => zf u.2)]
      refine cOK_s L c ?_
      obtain ⟨k0, j0⟩ := lay_k L0 (a := 0) (t := 7) (n := 17) rfl
      rw [en_67]
      simp (disch := (first | omega | (simp only [kd_sI, kd_sL, kd_sR, kd_cp, kd_aI]; omega) | (unfold catV; exact rfl) | (unfold catS; exact Nat.le_of_ble_eq_true rfl) | assumption)) only [q_67_0, q_67_1, q_67_2, q_67_5_t, q_67_5_f, q_67_8, q_67_9, q_67_12_t, q_67_12_f, q_67_15, q_67_16, q_67_17, q_67_18, q_67_21, q_67_24, q_67_25, q_67_28_t, q_67_28_f, q_67_31, q_67_32, q_67_35, q_67_38, q_67_39, q_67_42, q_67_43, q_67_44_t, q_67_44_f, q_67_47, q_67_48, q_67_51, q_67_52_t, q_67_52_f, q_67_55, q_67_57, q_67_58, q_67_59, q_67_62, q_67_65, q_67_66, q_67_69, q_67_72, q_67_73, q_67_74, q_67_75_t, q_67_75_f, q_67_78, q_67_79, q_67_82, q_67_83, q_67_86, q_67_87, q_67_90, q_67_91, q_67_92, q_67_95, aft_i, aft_l, aft_v, Int.toNat_natCast, kd_sI, kd_sL, kd_sR, kd_cp, gI_sL, gI_sR, gL_sI, gL_sR, gR_sI, gR_sL, gL_cp, gR_cp, kd_aI, gL_aI, gR_aI, gI_aI, gI_aIn, sI_aI, gI_sIn, Int.reduceToNat, Int.reduceAdd, Int.reduceSub, Int.reduceMul, Int.reduceNeg, Int.zero_add, e, ef]
  · rw [if_neg z] at e
    rw [if_neg (fun u => z u.1)]
    refine cOK_s L c ?_
    obtain ⟨k0, j0⟩ := lay_k L0 (a := 0) (t := 7) (n := 17) rfl
    rw [en_67]
    simp (disch := (first | omega | (simp only [kd_sI, kd_sL, kd_sR, kd_cp, kd_aI]; omega) | (unfold catV; exact rfl) | (unfold catS; exact Nat.le_of_ble_eq_true rfl) | assumption)) only [q_67_0, q_67_1, q_67_2, q_67_5_t, q_67_5_f, q_67_8, q_67_9, q_67_12_t, q_67_12_f, q_67_15, q_67_16, q_67_17, q_67_18, q_67_21, q_67_24, q_67_25, q_67_28_t, q_67_28_f, q_67_31, q_67_32, q_67_35, q_67_38, q_67_39, q_67_42, q_67_43, q_67_44_t, q_67_44_f, q_67_47, q_67_48, q_67_51, q_67_52_t, q_67_52_f, q_67_55, q_67_57, q_67_58, q_67_59, q_67_62, q_67_65, q_67_66, q_67_69, q_67_72, q_67_73, q_67_74, q_67_75_t, q_67_75_f, q_67_78, q_67_79, q_67_82, q_67_83, q_67_86, q_67_87, q_67_90, q_67_91, q_67_92, q_67_95, aft_i, aft_l, aft_v, Int.toNat_natCast, kd_sI, kd_sL, kd_sR, kd_cp, gI_sL, gI_sR, gL_sI, gL_sR, gR_sI, gR_sL, gL_cp, gR_cp, kd_aI, gL_aI, gR_aI, gI_aI, gI_aIn, sI_aI, gI_sIn, Int.reduceToNat, Int.reduceAdd, Int.reduceSub, Int.reduceMul, Int.reduceNeg, Int.zero_add, e]
theorem shlL1 {k : Nat} (h : k < 40) : shlL 1 k = ((2 ^ k : Nat) : Int) := by
  have p : 2 ^ k < 2 ^ 63 := Nat.pow_lt_pow_right (by omega) (by omega)
  have := shlL_n (a := 1) (c := k) (by omega) (by omega)
  rw [Nat.one_mul] at this
  exact this
theorem cFlo_ok (d : Nat) (h : mH) (L : LAY h) (σ : Sg) (w : wfS σ) (c : CI h σ) (j is : Int) : cOK (d + 4) 72 [Sum.inl j, Sum.inl is] h (Sum.inl (floS (zT σ) (zN σ) (zP σ) j is).1) (zev σ (floS (zT σ) (zN σ) (zP σ) j is).2.1 (floS (zT σ) (zN σ) (zP σ) j is).2.2) := by
  have L0 := L
  have wT := w.1
  have k4 := wT.2.1
  have wN := w.2.1.1
  have q := CI_q c
  have e := wCell_ok (d + 2) h L (zT σ) q.1 j
  have ef := wFlag_ok (d + 2) h is
  unfold floS
  by_cases z : 0 ≤ j ∧ j < tK (zT σ)
  · rw [if_pos z] at e
    by_cases zf : is = 0 ∨ is = 1
    · rw [if_pos zf] at ef
      rw [if_pos ⟨z, zf⟩]
      obtain ⟨i, rfl⟩ : ∃ i : Nat, j = i := ⟨j.toNat, by omega⟩
      rw [Int.toNat_natCast]
      have hi : i < tK (zT σ) := by omega
      have et := wRiver_ok (d + 2) h L (zT σ) (zN σ) wN q.2.1 i (by omega)
      by_cases v : (if (nV (zN σ)).testBit i = true then (1 : Int) else 0) = is
      · rw [if_pos v]
        refine cOK_s L c ?_
        obtain ⟨k0, j0⟩ := lay_k L0 (a := 0) (t := 7) (n := 17) rfl; obtain ⟨k13, j13⟩ := lay_k L0 (a := 13) (t := 4) (n := 4) rfl; obtain ⟨k14, j14⟩ := lay_k L0 (a := 14) (t := 2) (n := 5) rfl; have r0_3 : gR h 0 3 = some 13 := lay_r L0 rfl; have r13_0 : gR h 13 0 = some 14 := lay_r L0 rfl
        rw [en_72]
        rw [v] at et
        rcases zf with f | f
        · subst f
          simp (disch := (first | omega | (simp only [kd_sI, kd_sL, kd_sR, kd_cp, kd_aI]; omega) | (unfold catV; exact rfl) | (unfold catS; exact Nat.le_of_ble_eq_true rfl) | assumption)) only [q_72_0, q_72_1, q_72_2, q_72_5_t, q_72_5_f, q_72_8, q_72_9, q_72_12_t, q_72_12_f, q_72_15, q_72_16, q_72_17, q_72_18, q_72_21, q_72_24, q_72_25, q_72_28, q_72_29, q_72_30_t, q_72_30_f, q_72_33, q_72_34, q_72_37, q_72_38_t, q_72_38_f, q_72_41, q_72_43, q_72_44, q_72_45, q_72_48, q_72_51, q_72_52, q_72_55, q_72_58, q_72_59, q_72_62, q_72_63, q_72_64, q_72_65, q_72_66, q_72_69, q_72_70, q_72_73, q_72_74, q_72_75, q_72_78, aft_i, aft_l, aft_v, Int.toNat_natCast, kd_sI, kd_sL, kd_sR, kd_cp, gI_sL, gI_sR, gL_sI, gL_sR, gR_sI, gR_sL, gL_cp, gR_cp, kd_aI, gL_aI, gR_aI, gI_aI, gI_aIn, sI_aI, gI_sIn, Int.reduceToNat, Int.reduceAdd, Int.reduceSub, Int.reduceMul, Int.reduceNeg, Int.zero_add, e, ef, r0_3, r13_0, et]
        · subst f
          simp (disch := (first | omega | (simp only [kd_sI, kd_sL, kd_sR, kd_cp, kd_aI]; omega) | (unfold catV; exact rfl) | (unfold catS; exact Nat.le_of_ble_eq_true rfl) | assumption)) only [q_72_0, q_72_1, q_72_2, q_72_5_t, q_72_5_f, q_72_8, q_72_9, q_72_12_t, q_72_12_f, q_72_15, q_72_16, q_72_17, q_72_18, q_72_21, q_72_24, q_72_25, q_72_28, q_72_29, q_72_30_t, q_72_30_f, q_72_33, q_72_34, q_72_37, q_72_38_t, q_72_38_f, q_72_41, q_72_43, q_72_44, q_72_45, q_72_48, q_72_51, q_72_52, q_72_55, q_72_58, q_72_59, q_72_62, q_72_63, q_72_64, q_72_65, q_72_66, q_72_69, q_72_70, q_72_73, q_72_74, q_72_75, q_72_78, aft_i, aft_l, aft_v, Int.toNat_natCast, kd_sI, kd_sL, kd_sR, kd_cp, gI_sL, gI_sR, gL_sI, gL_sR, gR_sI, gR_sL, gL_cp, gR_cp, kd_aI, gL_aI, gR_aI, gI_aI, gI_aIn, sI_aI, gI_sIn, Int.reduceToNat, Int.reduceAdd, Int.reduceSub, Int.reduceMul, Int.reduceNeg, Int.zero_add, e, ef, r0_3, r13_0, et]
      · rw [if_neg v]
        obtain ⟨π, s⟩ := c.1.2.1
        obtain ⟨g1, π2, e1, s1, a1, n1⟩ := wRem_ok (d + 1) h L (zT σ) (zN σ) (zP σ) wT w.2.1 π s
        have L1 := lvF_L a1 L
        have v40 := wN.2.2.2.2.2.2
        have sh := shlL1 (k := i) (by omega)
        have p63 : 2 ^ i < 2 ^ 63 := Nat.pow_lt_pow_right (by omega) (by omega)
        have xo := xorL_n (a := nV (zN σ)) (b := 2 ^ i) (by omega) p63
        have x4 : gL g1 14 4 = nV (zN σ) := n1.2.2.1
        have wF := flo_wf wT wN hi
        obtain ⟨g, e3, fr, Lg, cg⟩ := ev_fin d h g1 (sL g1 14 4 ((nV (zN σ) ^^^ 2 ^ i : Nat) : Int)) L σ w c.1 a1 s1 (knP_wf w.2.1 wF) rfl (fun q k n => rfl) (fun q k n => by rw [gL_sL, if_neg (fun y => n y.1)]) rfl (N2 := flo (zN σ) i) ⟨n1.1, n1.2.1, gL_sLs _ _ _ _, n1.2.2.2.1, n1.2.2.2.2⟩
        refine ⟨g, ?_, fr, Lg, cg⟩
        have e5 := wGrd_ok (d + 1) g Lg (zT σ) (flo (zN σ) i) wT wF (CI_q cg).1 (CI_q cg).2.1 i hi
        obtain ⟨m1, m2⟩ := lay_k L1 (a := 0) (t := 7) (n := 17) rfl
        obtain ⟨m3, m4⟩ := lay_k L1 (a := 13) (t := 4) (n := 4) rfl
        obtain ⟨m5, m6⟩ := lay_k L1 (a := 14) (t := 2) (n := 5) rfl
        have r1 : gR g1 0 3 = some 13 := lay_r L1 rfl
        have r2 : gR g1 13 0 = some 14 := lay_r L1 rfl
        obtain ⟨u1, u2⟩ := lay_k Lg (a := 0) (t := 7) (n := 17) rfl
        obtain ⟨k0, j0⟩ := lay_k L0 (a := 0) (t := 7) (n := 17) rfl; obtain ⟨k13, j13⟩ := lay_k L0 (a := 13) (t := 4) (n := 4) rfl; obtain ⟨k14, j14⟩ := lay_k L0 (a := 14) (t := 2) (n := 5) rfl; have r0_3 : gR h 0 3 = some 13 := lay_r L0 rfl; have r13_0 : gR h 13 0 = some 14 := lay_r L0 rfl
        rw [en_72]
        rcases zf with f | f
        · subst f
          have bt : (nV (zN σ)).testBit i = true := by
            cases u : (nV (zN σ)).testBit i with
            | true => rfl
            | false => rw [u] at v; exact absurd rfl v
          rw [if_pos bt] at et
          simp (disch := (first | omega | (simp only [kd_sI, kd_sL, kd_sR, kd_cp, kd_aI]; omega) | (unfold catV; exact rfl) | (unfold catS; exact Nat.le_of_ble_eq_true rfl) | assumption)) only [q_72_0, q_72_1, q_72_2, q_72_5_t, q_72_5_f, q_72_8, q_72_9, q_72_12_t, q_72_12_f, q_72_15, q_72_16, q_72_17, q_72_18, q_72_21, q_72_24, q_72_25, q_72_28, q_72_29, q_72_30_t, q_72_30_f, q_72_33, q_72_34, q_72_37, q_72_38_t, q_72_38_f, q_72_41, q_72_43, q_72_44, q_72_45, q_72_48, q_72_51, q_72_52, q_72_55, q_72_58, q_72_59, q_72_62, q_72_63, q_72_64, q_72_65, q_72_66, q_72_69, q_72_70, q_72_73, q_72_74, q_72_75, q_72_78, aft_i, aft_l, aft_v, Int.toNat_natCast, kd_sI, kd_sL, kd_sR, kd_cp, gI_sL, gI_sR, gL_sI, gL_sR, gR_sI, gR_sL, gL_cp, gR_cp, kd_aI, gL_aI, gR_aI, gI_aI, gI_aIn, sI_aI, gI_sIn, Int.reduceToNat, Int.reduceAdd, Int.reduceSub, Int.reduceMul, Int.reduceNeg, Int.zero_add, e, ef, r0_3, r13_0, et, e1, r1, r2, x4, sh, xo, e3, e5]
        · subst f
          have bt : ¬ (nV (zN σ)).testBit i = true := fun u => v (by rw [u]; rfl)
          rw [if_neg bt] at et
          simp (disch := (first | omega | (simp only [kd_sI, kd_sL, kd_sR, kd_cp, kd_aI]; omega) | (unfold catV; exact rfl) | (unfold catS; exact Nat.le_of_ble_eq_true rfl) | assumption)) only [q_72_0, q_72_1, q_72_2, q_72_5_t, q_72_5_f, q_72_8, q_72_9, q_72_12_t, q_72_12_f, q_72_15, q_72_16, q_72_17, q_72_18, q_72_21, q_72_24, q_72_25, q_72_28, q_72_29, q_72_30_t, q_72_30_f, q_72_33, q_72_34, q_72_37, q_72_38_t, q_72_38_f, q_72_41, q_72_43, q_72_44, q_72_45, q_72_48, q_72_51, q_72_52, q_72_55, q_72_58, q_72_59, q_72_62, q_72_63, q_72_64, q_72_65, q_72_66, q_72_69, q_72_70, q_72_73, q_72_74, q_72_75, q_72_78, aft_i, aft_l, aft_v, Int.toNat_natCast, kd_sI, kd_sL, kd_sR, kd_cp, gI_sL, gI_sR, gL_sI, gL_sR, gR_sI, gR_sL, gL_cp, gR_cp, kd_aI, gL_aI, gR_aI, gI_aI, gI_aIn, sI_aI, gI_sIn, Int.reduceToNat, Int.reduceAdd, Int.reduceSub, Int.reduceMul, Int.reduceNeg, Int.zero_add, e, ef, r0_3, r13_0, et, e1, r1, r2, x4, sh, xo, e3, e5]
    · rw [if_neg zf] at ef
      rw [if_neg (fun u => zf u.2)]
      refine cOK_s L c ?_
      obtain ⟨k0, j0⟩ := lay_k L0 (a := 0) (t := 7) (n := 17) rfl
      rw [en_72]
      simp (disch := (first | omega | (simp only [kd_sI, kd_sL, kd_sR, kd_cp, kd_aI]; omega) | (unfold catV; exact rfl) | (unfold catS; exact Nat.le_of_ble_eq_true rfl) | assumption)) only [q_72_0, q_72_1, q_72_2, q_72_5_t, q_72_5_f, q_72_8, q_72_9, q_72_12_t, q_72_12_f, q_72_15, q_72_16, q_72_17, q_72_18, q_72_21, q_72_24, q_72_25, q_72_28, q_72_29, q_72_30_t, q_72_30_f, q_72_33, q_72_34, q_72_37, q_72_38_t, q_72_38_f, q_72_41, q_72_43, q_72_44, q_72_45, q_72_48, q_72_51, q_72_52, q_72_55, q_72_58, q_72_59, q_72_62, q_72_63, q_72_64, q_72_65, q_72_66, q_72_69, q_72_70, q_72_73, q_72_74, q_72_75, q_72_78, aft_i, aft_l, aft_v, Int.toNat_natCast, kd_sI, kd_sL, kd_sR, kd_cp, gI_sL, gI_sR, gL_sI, gL_sR, gR_sI, gR_sL, gL_cp, gR_cp, kd_aI, gL_aI, gR_aI, gI_aI, gI_aIn, sI_aI, gI_sIn, Int.reduceToNat, Int.reduceAdd, Int.reduceSub, Int.reduceMul, Int.reduceNeg, Int.zero_add, e, ef]
  · rw [if_neg z] at e
    rw [if_neg (fun u => z u.1)]
    refine cOK_s L c ?_
    obtain ⟨k0, j0⟩ := lay_k L0 (a := 0) (t := 7) (n := 17) rfl
    rw [en_72]
    simp (disch := (first | omega | (simp only [kd_sI, kd_sL, kd_sR, kd_cp, kd_aI]; omega) | (unfold catV; exact rfl) | (unfold catS; exact Nat.le_of_ble_eq_true rfl) | assumption)) only [q_72_0, q_72_1, q_72_2, q_72_5_t, q_72_5_f, q_72_8, q_72_9, q_72_12_t, q_72_12_f, q_72_15, q_72_16, q_72_17, q_72_18, q_72_21, q_72_24, q_72_25, q_72_28, q_72_29, q_72_30_t, q_72_30_f, q_72_33, q_72_34, q_72_37, q_72_38_t, q_72_38_f, q_72_41, q_72_43, q_72_44, q_72_45, q_72_48, q_72_51, q_72_52, q_72_55, q_72_58, q_72_59, q_72_62, q_72_63, q_72_64, q_72_65, q_72_66, q_72_69, q_72_70, q_72_73, q_72_74, q_72_75, q_72_78, aft_i, aft_l, aft_v, Int.toNat_natCast, kd_sI, kd_sL, kd_sR, kd_cp, gI_sL, gI_sR, gL_sI, gL_sR, gR_sI, gR_sL, gL_cp, gR_cp, kd_aI, gL_aI, gR_aI, gI_aI, gI_aIn, sI_aI, gI_sIn, Int.reduceToNat, Int.reduceAdd, Int.reduceSub, Int.reduceMul, Int.reduceNeg, Int.zero_add, e]
theorem cUnd_ok (d : Nat) (h : mH) (L : LAY h) (σ : Sg) (w : wfS σ) (c : CI h σ) : cOK (d + 4) 74 [] h (Sum.inl (undS (zN σ) (zP σ)).1) (zev σ (undS (zN σ) (zP σ)).2.1 (undS (zN σ) (zP σ)).2.2) := by
  have L0 := L
  have wT := w.1
  obtain ⟨π, s⟩ := c.1.2.1
  unfold undS
  rcases wRec_ok (d + 1) h L (zT σ) (zN σ) (zP σ) wT w.2.1 π s with ⟨e0, e1⟩ | ⟨Q, g1, e0, e1, s1, a1⟩
  · rw [e0]
    refine cOK_s L c ?_
    obtain ⟨k0, j0⟩ := lay_k L0 (a := 0) (t := 7) (n := 17) rfl; obtain ⟨k13, j13⟩ := lay_k L0 (a := 13) (t := 4) (n := 4) rfl; have r0_3 : gR h 0 3 = some 13 := lay_r L0 rfl
    rw [en_74]
    simp (disch := (first | omega | (simp only [kd_sI, kd_sL, kd_sR, kd_cp, kd_aI]; omega) | (unfold catV; exact rfl) | (unfold catS; exact Nat.le_of_ble_eq_true rfl) | assumption)) only [q_74_0, q_74_1, q_74_4, q_74_7_t, q_74_7_f, q_74_10, q_74_12, q_74_13, q_74_14, q_74_17, q_74_18, q_74_21, q_74_24, aft_i, aft_l, aft_v, Int.toNat_natCast, kd_sI, kd_sL, kd_sR, kd_cp, gI_sL, gI_sR, gL_sI, gL_sR, gR_sI, gR_sL, gL_cp, gR_cp, kd_aI, gL_aI, gR_aI, gI_aI, gI_aIn, sI_aI, gI_sIn, Int.reduceToNat, Int.reduceAdd, Int.reduceSub, Int.reduceMul, Int.reduceNeg, Int.zero_add, r0_3, e1]
  · rw [e0]
    have L1 := lvF_L a1 L
    have hQ : Q ∈ zP σ := List.mem_of_getLast? e0
    have w2 : wfW (zT σ) Q (zP σ).dropLast := ⟨w.2.1.2 Q hQ, fun x hx => w.2.1.2 x (List.dropLast_subset _ hx)⟩
    obtain ⟨g, e3, q3, Lg, cg⟩ := settle_CI d g1 L1 (zev σ Q (zP σ).dropLast) (wfS_ev w w2 s1.2.2.2.1) (lv_CI0 a1 c.1 s1)
    refine ⟨g, ?_, frm_tr (lvF_frm a1) (qt_frm q3), Lg, cg⟩
    have x2 : gI g 13 2 = ((zP σ).length - 1 : Nat) := by
      rw [q3.2.2.2 13 2 (by unfold qtc; omega), s1.2.2.1, List.length_dropLast]
    obtain ⟨m1, m2⟩ := lay_k L1 (a := 0) (t := 7) (n := 17) rfl
    obtain ⟨u1, u2⟩ := lay_k Lg (a := 0) (t := 7) (n := 17) rfl
    obtain ⟨u3, u4⟩ := lay_k Lg (a := 13) (t := 4) (n := 4) rfl
    have t1 : gR g 0 3 = some 13 := lay_r Lg rfl
    obtain ⟨k0, j0⟩ := lay_k L0 (a := 0) (t := 7) (n := 17) rfl; obtain ⟨k13, j13⟩ := lay_k L0 (a := 13) (t := 4) (n := 4) rfl; have r0_3 : gR h 0 3 = some 13 := lay_r L0 rfl
    rw [en_74]
    simp (disch := (first | omega | (simp only [kd_sI, kd_sL, kd_sR, kd_cp, kd_aI]; omega) | (unfold catV; exact rfl) | (unfold catS; exact Nat.le_of_ble_eq_true rfl) | assumption)) only [q_74_0, q_74_1, q_74_4, q_74_7_t, q_74_7_f, q_74_10, q_74_12, q_74_13, q_74_14, q_74_17, q_74_18, q_74_21, q_74_24, aft_i, aft_l, aft_v, Int.toNat_natCast, kd_sI, kd_sL, kd_sR, kd_cp, gI_sL, gI_sR, gL_sI, gL_sR, gR_sI, gR_sL, gL_cp, gR_cp, kd_aI, gL_aI, gR_aI, gI_aI, gI_aIn, sI_aI, gI_sIn, Int.reduceToNat, Int.reduceAdd, Int.reduceSub, Int.reduceMul, Int.reduceNeg, Int.zero_add, r0_3, e1, e3, t1, x2]
