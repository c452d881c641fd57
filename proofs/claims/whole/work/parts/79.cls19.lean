theorem ntA_set {h : mH} {T : Td} {N : Nt} {l : List Nat} {late : Nat} (e2 : gI h 14 2 = l.length) (e3 : gI h 14 3 = late) (e4 : gL h 14 4 = nV N) (r : rwO (gI h 15) 0 l) (x : ∀ c, c < tN T → gI h 16 c = nX N c) : ntA h 14 T (setR N l late) := by
  refine ⟨e2, e3, e4, fun i hi => ?_, x⟩
  have hi : i < l.length := hi
  have := r i hi
  rw [Nat.zero_add] at this
  show gI h 15 i = (ofL l i : Int)
  rw [this, ofL_at hi]
theorem beh_len {l : List Nat} {c : Nat} (n : l.Nodup) (hc : c ∈ l) : (l.filter (fun x => decide (x ≠ c))).length + 1 = l.length := by
  have p : (behL l c).Perm l := (List.perm_ext_iff_of_nodup (beh_nd n) n).mpr (fun x => beh_mem hc)
  have := p.length_eq
  unfold behL at this
  rw [List.length_append] at this
  exact this
theorem cPin_ok (d : Nat) (h : mH) (L : LAY h) (σ : Sg) (w : wfS σ) (c : CI h σ) (j : Int) : cOK (d + 4) 69 [Sum.inl j] h (Sum.inl (pinS (zT σ) (zN σ) (zP σ) j).1) (zev σ (pinS (zT σ) (zN σ) (zP σ) j).2.1 (pinS (zT σ) (zN σ) (zP σ) j).2.2) := by
  have L0 := L
  have wT := w.1
  have c7 := wT.1
  have wN := w.2.1.1
  have n7 : nM (zN σ) ≤ 7 := Nat.le_trans wN.1 wT.1
  have q := CI_q c
  have e := wCart_ok (d + 2) h L (zT σ) q.1 j
  unfold pinS
  by_cases z : 0 ≤ j ∧ j < tN (zT σ)
  · rw [if_pos z] at e ⊢
    obtain ⟨i, rfl⟩ : ∃ i : Nat, j = i := ⟨j.toNat, by omega⟩
    rw [Int.toNat_natCast]
    have hi : i < tN (zT σ) := by omega
    have ep := wPlace_ok (d + 2) h L (zT σ) (zN σ) wT wN q.2.1 i
    have u1 := q.2.1.1
    by_cases y1 : plF (fun i => (nR (zN σ) i : Int)) i (nM (zN σ)) 0 = -9
    · rw [if_pos (Or.inl y1)]
      rw [y1] at ep
      refine cOK_s L c ?_
      obtain ⟨k0, j0⟩ := lay_k L0 (a := 0) (t := 7) (n := 17) rfl; obtain ⟨k13, j13⟩ := lay_k L0 (a := 13) (t := 4) (n := 4) rfl; obtain ⟨k14, j14⟩ := lay_k L0 (a := 14) (t := 2) (n := 5) rfl; have r0_3 : gR h 0 3 = some 13 := lay_r L0 rfl; have r13_0 : gR h 13 0 = some 14 := lay_r L0 rfl
      rw [en_69]
      simp (disch := (first | omega | (simp only [kd_sI, kd_sL, kd_sR, kd_cp, kd_aI]; omega) | (unfold catV; exact rfl) | (unfold catS; exact Nat.le_of_ble_eq_true rfl) | assumption)) only [q_69_0, q_69_1, q_69_2, q_69_5_t, q_69_5_f, q_69_8, q_69_9, q_69_10, q_69_11, q_69_14, q_69_17, q_69_18, q_69_21, q_69_22, q_69_23, q_69_25_t, q_69_25_f, q_69_28, q_69_29, q_69_30, q_69_33, q_69_36, q_69_39, q_69_40, q_69_41_t, q_69_41_f, q_69_44, q_69_46, q_69_47, q_69_48, q_69_51, q_69_54, q_69_55, q_69_58, q_69_61, q_69_62, q_69_65, q_69_66, q_69_69, q_69_72, q_69_73, q_69_76, q_69_77, q_69_80, q_69_81, q_69_82, q_69_85, aft_i, aft_l, aft_v, Int.toNat_natCast, kd_sI, kd_sL, kd_sR, kd_cp, gI_sL, gI_sR, gL_sI, gL_sR, gR_sI, gR_sL, gL_cp, gR_cp, kd_aI, gL_aI, gR_aI, gI_aI, gI_aIn, sI_aI, gI_sIn, Int.reduceToNat, Int.reduceAdd, Int.reduceSub, Int.reduceMul, Int.reduceNeg, Int.zero_add, e, r0_3, r13_0, ep]
    · by_cases y2 : plF (fun i => (nR (zN σ) i : Int)) i (nM (zN σ)) 0 = (nM (zN σ) : Int) - 1
      · rw [if_pos (Or.inr y2)]
        refine cOK_s L c ?_
        have y3 : (nM (zN σ) : Int) - 1 ≠ -9 := by omega
        rw [y2] at ep
        obtain ⟨k0, j0⟩ := lay_k L0 (a := 0) (t := 7) (n := 17) rfl; obtain ⟨k13, j13⟩ := lay_k L0 (a := 13) (t := 4) (n := 4) rfl; obtain ⟨k14, j14⟩ := lay_k L0 (a := 14) (t := 2) (n := 5) rfl; have r0_3 : gR h 0 3 = some 13 := lay_r L0 rfl; have r13_0 : gR h 13 0 = some 14 := lay_r L0 rfl
        rw [en_69]
        simp (disch := (first | omega | (simp only [kd_sI, kd_sL, kd_sR, kd_cp, kd_aI]; omega) | (unfold catV; exact rfl) | (unfold catS; exact Nat.le_of_ble_eq_true rfl) | assumption)) only [q_69_0, q_69_1, q_69_2, q_69_5_t, q_69_5_f, q_69_8, q_69_9, q_69_10, q_69_11, q_69_14, q_69_17, q_69_18, q_69_21, q_69_22, q_69_23, q_69_25_t, q_69_25_f, q_69_28, q_69_29, q_69_30, q_69_33, q_69_36, q_69_39, q_69_40, q_69_41_t, q_69_41_f, q_69_44, q_69_46, q_69_47, q_69_48, q_69_51, q_69_54, q_69_55, q_69_58, q_69_61, q_69_62, q_69_65, q_69_66, q_69_69, q_69_72, q_69_73, q_69_76, q_69_77, q_69_80, q_69_81, q_69_82, q_69_85, aft_i, aft_l, aft_v, Int.toNat_natCast, kd_sI, kd_sL, kd_sR, kd_cp, gI_sL, gI_sR, gL_sI, gL_sR, gR_sI, gR_sL, gL_cp, gR_cp, kd_aI, gL_aI, gR_aI, gI_aI, gI_aIn, sI_aI, gI_sIn, Int.reduceToNat, Int.reduceAdd, Int.reduceSub, Int.reduceMul, Int.reduceNeg, Int.zero_add, e, r0_3, r13_0, ep, u1]
      · rw [if_neg (fun u => u.elim y1 y2)]
        have hm : i ∈ rowL (zN σ) := plF_in.mp y1
        obtain ⟨π, s⟩ := c.1.2.1
        obtain ⟨g1, π2, e1, s1, a1, n1⟩ := wRem_ok (d + 1) h L (zT σ) (zN σ) (zP σ) wT w.2.1 π s
        have L1 := lvF_L a1 L
        obtain ⟨G, e2, r2⟩ := wTo_ok (d + 2) g1 L1 (zT σ) (zN σ) wT wN n1 i
        have bl := beh_len (rowL_nd wN) hm
        rw [rowL_len] at bl
        generalize eF : (rowL (zN σ)).filter (fun x => decide (x ≠ i)) = F at e2 r2 bl
        have L2 : LAY (sI (aI g1 15 G) 14 2 (F.length : Nat)) := lay_sI (lay_aI L1 _ _) _ _ _
        have e3 := wAb_ok (d + 2) _ L2 F.length i (gI_sIs _ _ _ _) (by omega)
        have wP := pin_wf wN hm
        have eP : pinN (zN σ) i = setR (zN σ) (F ++ [i]) (nL (zN σ)) := by unfold pinN behL; rw [eF]
        rw [eP] at wP ⊢
        obtain ⟨g, e4, fr, Lg, cg⟩ := ev_fin d h g1 (sI (sI (sI (aI g1 15 G) 14 2 (F.length : Nat)) 15 F.length i) 14 2 ((F.length : Int) + 1)) L σ w c.1 a1 s1 (knP_wf w.2.1 wP) rfl (fun q k n => by rw [gI_sIn (by omega), gI_sIn (by omega), gI_sIn (by omega), gI_aIn (by omega)]) (fun _ _ _ => rfl) rfl (ntA_set (by rw [gI_sIs, List.length_append]; rfl) (by rw [gI_sIo (by omega), gI_sIn (by omega), gI_sIo (by omega), gI_aIn (by omega)]; exact n1.2.1) n1.2.2.1 (by
          rw [gI_sIn (by omega), gI_sIu, gI_sIn (by omega), gI_aI]
          refine rwO_app.mpr ⟨rwO_congr (fun j hj => upI_n (by omega)) r2, rwO_cons.mpr ⟨?_, rwO_nil _ _⟩⟩
          rw [Nat.zero_add, upI_s]) (fun k hk => by rw [gI_sIn (by omega), gI_sIn (by omega), gI_sIn (by omega), gI_aIn (by omega)]; exact n1.2.2.2.2 k hk))
        refine ⟨g, ?_, fr, Lg, cg⟩
        have e5 := wCellOf_ok (d + 1) g Lg (zT σ) _ wT wP (CI_q cg) i hi
        obtain ⟨m1, m2⟩ := lay_k L1 (a := 0) (t := 7) (n := 17) rfl
        obtain ⟨m3, m4⟩ := lay_k L1 (a := 13) (t := 4) (n := 4) rfl
        obtain ⟨m5, m6⟩ := lay_k L1 (a := 14) (t := 2) (n := 5) rfl
        have r1 : gR g1 0 3 = some 13 := lay_r L1 rfl
        have r3 : gR g1 13 0 = some 14 := lay_r L1 rfl
        obtain ⟨m7, m8⟩ := lay_k L2 (a := 0) (t := 7) (n := 17) rfl
        obtain ⟨v1, v2⟩ := lay_k Lg (a := 0) (t := 7) (n := 17) rfl
        obtain ⟨k0, j0⟩ := lay_k L0 (a := 0) (t := 7) (n := 17) rfl; obtain ⟨k13, j13⟩ := lay_k L0 (a := 13) (t := 4) (n := 4) rfl; obtain ⟨k14, j14⟩ := lay_k L0 (a := 14) (t := 2) (n := 5) rfl; have r0_3 : gR h 0 3 = some 13 := lay_r L0 rfl; have r13_0 : gR h 13 0 = some 14 := lay_r L0 rfl
        rw [en_69]
        simp (disch := (first | omega | (simp only [kd_sI, kd_sL, kd_sR, kd_cp, kd_aI]; omega) | (unfold catV; exact rfl) | (unfold catS; exact Nat.le_of_ble_eq_true rfl) | assumption)) only [q_69_0, q_69_1, q_69_2, q_69_5_t, q_69_5_f, q_69_8, q_69_9, q_69_10, q_69_11, q_69_14, q_69_17, q_69_18, q_69_21, q_69_22, q_69_23, q_69_25_t, q_69_25_f, q_69_28, q_69_29, q_69_30, q_69_33, q_69_36, q_69_39, q_69_40, q_69_41_t, q_69_41_f, q_69_44, q_69_46, q_69_47, q_69_48, q_69_51, q_69_54, q_69_55, q_69_58, q_69_61, q_69_62, q_69_65, q_69_66, q_69_69, q_69_72, q_69_73, q_69_76, q_69_77, q_69_80, q_69_81, q_69_82, q_69_85, aft_i, aft_l, aft_v, Int.toNat_natCast, kd_sI, kd_sL, kd_sR, kd_cp, gI_sL, gI_sR, gL_sI, gL_sR, gR_sI, gR_sL, gL_cp, gR_cp, kd_aI, gL_aI, gR_aI, gI_aI, gI_aIn, sI_aI, gI_sIn, Int.reduceToNat, Int.reduceAdd, Int.reduceSub, Int.reduceMul, Int.reduceNeg, Int.zero_add, e, r0_3, r13_0, ep, u1, e1, r1, r3, e2, e3, e4, e5]
  · rw [if_neg z] at e ⊢
    refine cOK_s L c ?_
    obtain ⟨k0, j0⟩ := lay_k L0 (a := 0) (t := 7) (n := 17) rfl
    rw [en_69]
    simp (disch := (first | omega | (simp only [kd_sI, kd_sL, kd_sR, kd_cp, kd_aI]; omega) | (unfold catV; exact rfl) | (unfold catS; exact Nat.le_of_ble_eq_true rfl) | assumption)) only [q_69_0, q_69_1, q_69_2, q_69_5_t, q_69_5_f, q_69_8, q_69_9, q_69_10, q_69_11, q_69_14, q_69_17, q_69_18, q_69_21, q_69_22, q_69_23, q_69_25_t, q_69_25_f, q_69_28, q_69_29, q_69_30, q_69_33, q_69_36, q_69_39, q_69_40, q_69_41_t, q_69_41_f, q_69_44, q_69_46, q_69_47, q_69_48, q_69_51, q_69_54, q_69_55, q_69_58, q_69_61, q_69_62, q_69_65, q_69_66, q_69_69, q_69_72, q_69_73, q_69_76, q_69_77, q_69_80, q_69_81, q_69_82, q_69_85, aft_i, aft_l, aft_v, Int.toNat_natCast, kd_sI, kd_sL, kd_sR, kd_cp, gI_sL, gI_sR, gL_sI, gL_sR, gR_sI, gR_sL, gL_cp, gR_cp, kd_aI, gL_aI, gR_aI, gI_aI, gI_aIn, sI_aI, gI_sIn, Int.reduceToNat, Int.reduceAdd, Int.reduceSub, Int.reduceMul, Int.reduceNeg, Int.zero_add, e]
theorem cSto_ok (d : Nat) (h : mH) (L : LAY h) (σ : Sg) (w : wfS σ) (c : CI h σ) : cOK (d + 4) 70 [] h (Sum.inl (stoS (zN σ) (zP σ)).1) (zev σ (stoS (zN σ) (zP σ)).2.1 (stoS (zN σ) (zP σ)).2.2) := by
  have L0 := L
  have wT := w.1
  have c7 := wT.1
  have wN := w.2.1.1
  have n7 : nM (zN σ) ≤ 7 := Nat.le_trans wN.1 wT.1
  obtain ⟨π, s⟩ := c.1.2.1
  obtain ⟨g1, π2, e1, s1, a1, n1⟩ := wRem_ok (d + 1) h L (zT σ) (zN σ) (zP σ) wT w.2.1 π s
  have L1 := lvF_L a1 L
  have e2 := wTa_ok (d + 2) g1 L1 (nM (zN σ)) n1.1 n7
  have rr := revF_row (rwO_rowL n1)
  rw [rowL_len] at rr
  have wP := sto_wf wN
  have lr : (rowL (zN σ)).reverse.length = nM (zN σ) := by rw [List.length_reverse, rowL_len]
  obtain ⟨g, e4, fr, Lg, cg⟩ := ev_fin d h g1 (aI g1 15 (revF (gI g1 15) (nM (zN σ)) (nM (zN σ) / 2))) L σ w c.1 a1 s1 (knP_wf w.2.1 wP) rfl (fun q k n => by rw [gI_aIn (by omega)]) (fun _ _ _ => rfl) rfl (ntA_set (by rw [gI_aIn (by omega), lr]; exact n1.1) (by rw [gI_aIn (by omega)]; exact n1.2.1) n1.2.2.1 (by rw [gI_aI]; exact rr) (fun k hk => by rw [gI_aIn (by omega)]; exact n1.2.2.2.2 k hk))
  refine ⟨g, ?_, fr, Lg, cg⟩
  have ng := (CI_q cg).2.1
  have ng1 : gI g 14 2 = ((rowL (zN σ)).reverse.length : Nat) := ng.1
  rw [lr] at ng1
  obtain ⟨m1, m2⟩ := lay_k L1 (a := 0) (t := 7) (n := 17) rfl
  obtain ⟨m3, m4⟩ := lay_k L1 (a := 13) (t := 4) (n := 4) rfl
  obtain ⟨m5, m6⟩ := lay_k L1 (a := 14) (t := 2) (n := 5) rfl
  have r1 : gR g1 0 3 = some 13 := lay_r L1 rfl
  have r3 : gR g1 13 0 = some 14 := lay_r L1 rfl
  obtain ⟨u1, u2⟩ := lay_k Lg (a := 0) (t := 7) (n := 17) rfl
  obtain ⟨u3, u4⟩ := lay_k Lg (a := 13) (t := 4) (n := 4) rfl
  obtain ⟨u5, u6⟩ := lay_k Lg (a := 14) (t := 2) (n := 5) rfl
  obtain ⟨u7, u8⟩ := lay_k Lg (a := 15) (t := 100) (n := 7) rfl
  have t1 : gR g 0 3 = some 13 := lay_r Lg rfl
  have t2 : gR g 13 0 = some 14 := lay_r Lg rfl
  have t3 : gR g 14 0 = some 15 := lay_r Lg rfl
  unfold stoS
  obtain ⟨k0, j0⟩ := lay_k L0 (a := 0) (t := 7) (n := 17) rfl; obtain ⟨k13, j13⟩ := lay_k L0 (a := 13) (t := 4) (n := 4) rfl; have r0_3 : gR h 0 3 = some 13 := lay_r L0 rfl
  rw [en_70]
  by_cases z : nM (zN σ) = 0
  · rw [if_pos z]
    rw [z] at ng1
    have ng1 : gI g 14 2 = 0 := ng1
    simp (disch := (first | omega | (simp only [kd_sI, kd_sL, kd_sR, kd_cp, kd_aI]; omega) | (unfold catV; exact rfl) | (unfold catS; exact Nat.le_of_ble_eq_true rfl) | assumption)) only [q_70_0, q_70_1, q_70_4, q_70_7, q_70_8, q_70_11, q_70_14, q_70_17, q_70_18, q_70_21, q_70_22, q_70_25, q_70_28, q_70_31_t, q_70_31_f, q_70_34, q_70_35, q_70_38, q_70_41, q_70_44, q_70_45, q_70_46, q_70_49, q_70_51, aft_i, aft_l, aft_v, Int.toNat_natCast, kd_sI, kd_sL, kd_sR, kd_cp, gI_sL, gI_sR, gL_sI, gL_sR, gR_sI, gR_sL, gL_cp, gR_cp, kd_aI, gL_aI, gR_aI, gI_aI, gI_aIn, sI_aI, gI_sIn, Int.reduceToNat, Int.reduceAdd, Int.reduceSub, Int.reduceMul, Int.reduceNeg, Int.zero_add, r0_3, e1, r1, r3, e2, e4, t1, t2, ng1]
  · rw [if_neg z]
    have n0 := ng.2.2.2.1 0 (by show 0 < (rowL (zN σ)).reverse.length; omega)
    have n0 : gI g 15 0 = nR (stoN (zN σ)) 0 := n0
    simp (disch := (first | omega | (simp only [kd_sI, kd_sL, kd_sR, kd_cp, kd_aI]; omega) | (unfold catV; exact rfl) | (unfold catS; exact Nat.le_of_ble_eq_true rfl) | assumption)) only [q_70_0, q_70_1, q_70_4, q_70_7, q_70_8, q_70_11, q_70_14, q_70_17, q_70_18, q_70_21, q_70_22, q_70_25, q_70_28, q_70_31_t, q_70_31_f, q_70_34, q_70_35, q_70_38, q_70_41, q_70_44, q_70_45, q_70_46, q_70_49, q_70_51, aft_i, aft_l, aft_v, Int.toNat_natCast, kd_sI, kd_sL, kd_sR, kd_cp, gI_sL, gI_sR, gL_sI, gL_sR, gR_sI, gR_sL, gL_cp, gR_cp, kd_aI, gL_aI, gR_aI, gI_aI, gI_aIn, sI_aI, gI_sIn, Int.reduceToNat, Int.reduceAdd, Int.reduceSub, Int.reduceMul, Int.reduceNeg, Int.zero_add, r0_3, e1, r1, r3, e2, e4, t1, t2, t3, ng1, n0]
theorem cLos_ok (d : Nat) (h : mH) (L : LAY h) (σ : Sg) (w : wfS σ) (c : CI h σ) (j is : Int) (wL : ∀ i : Nat, i < tN (zT σ) → ¬ (if plF (fun i => (nR (zN σ) i : Int)) i (nM (zN σ)) 0 = -9 then (1 : Int) else 0) = is → is = 0 ∨ is = 1 → wfN (zT σ) (losN (zN σ) i is)) : cOK (d + 4) 73 [Sum.inl j, Sum.inl is] h (Sum.inl (losS (zT σ) (zN σ) (zP σ) j is).1) (zev σ (losS (zT σ) (zN σ) (zP σ) j is).2.1 (losS (zT σ) (zN σ) (zP σ) j is).2.2) := by
  have L0 := L
  have wT := w.1
  have c7 := wT.1
  have wN := w.2.1.1
  have n7 : nM (zN σ) ≤ 7 := Nat.le_trans wN.1 wT.1
  have q := CI_q c
  have e := wCart_ok (d + 2) h L (zT σ) q.1 j
  have ef := wFlag_ok (d + 2) h is
  unfold losS
  by_cases z : 0 ≤ j ∧ j < tN (zT σ)
  · rw [if_pos z] at e
    by_cases zf : is = 0 ∨ is = 1
    · rw [if_pos zf] at ef
      rw [if_pos ⟨z, zf⟩]
      obtain ⟨i, rfl⟩ : ∃ i : Nat, j = i := ⟨j.toNat, by omega⟩
      rw [Int.toNat_natCast]
      have hi : i < tN (zT σ) := by omega
      have el := wLost_ok (d + 1) h L (zT σ) (zN σ) wT wN q.2.1 i
      by_cases v : (if plF (fun i => (nR (zN σ) i : Int)) i (nM (zN σ)) 0 = -9 then (1 : Int) else 0) = is
      · rw [if_pos v]
        rw [v] at el
        refine cOK_s L c ?_
        obtain ⟨k0, j0⟩ := lay_k L0 (a := 0) (t := 7) (n := 17) rfl; obtain ⟨k13, j13⟩ := lay_k L0 (a := 13) (t := 4) (n := 4) rfl; obtain ⟨k14, j14⟩ := lay_k L0 (a := 14) (t := 2) (n := 5) rfl; have r0_3 : gR h 0 3 = some 13 := lay_r L0 rfl; have r13_0 : gR h 13 0 = some 14 := lay_r L0 rfl
        rw [en_73]
        rcases zf with f | f
        · subst f
          simp (disch := (first | omega | (simp only [kd_sI, kd_sL, kd_sR, kd_cp, kd_aI]; omega) | (unfold catV; exact rfl) | (unfold catS; exact Nat.le_of_ble_eq_true rfl) | assumption)) only [q_73_0, q_73_1, q_73_2, q_73_5_t, q_73_5_f, q_73_8, q_73_9, q_73_12_t, q_73_12_f, q_73_15, q_73_16, q_73_17, q_73_18, q_73_21, q_73_24, q_73_25, q_73_28, q_73_29, q_73_30_t, q_73_30_f, q_73_33, q_73_34, q_73_37, q_73_38_t, q_73_38_f, q_73_41, q_73_43, q_73_44, q_73_45, q_73_48, q_73_51, q_73_52, q_73_53_t, q_73_53_f, q_73_56, q_73_57, q_73_60, q_73_63, q_73_64, q_73_67, q_73_68, q_73_71, q_73_74, q_73_75, q_73_76, q_73_79, q_73_82, q_73_83, q_73_86, q_73_89, q_73_90, q_73_93, q_73_94, q_73_97, q_73_98, q_73_101, q_73_104, q_73_107, aft_i, aft_l, aft_v, Int.toNat_natCast, kd_sI, kd_sL, kd_sR, kd_cp, gI_sL, gI_sR, gL_sI, gL_sR, gR_sI, gR_sL, gL_cp, gR_cp, kd_aI, gL_aI, gR_aI, gI_aI, gI_aIn, sI_aI, gI_sIn, Int.reduceToNat, Int.reduceAdd, Int.reduceSub, Int.reduceMul, Int.reduceNeg, Int.zero_add, e, ef, r0_3, r13_0, el]
        · subst f
          simp (disch := (first | omega | (simp only [kd_sI, kd_sL, kd_sR, kd_cp, kd_aI]; omega) | (unfold catV; exact rfl) | (unfold catS; exact Nat.le_of_ble_eq_true rfl) | assumption)) only [q_73_0, q_73_1, q_73_2, q_73_5_t, q_73_5_f, q_73_8, q_73_9, q_73_12_t, q_73_12_f, q_73_15, q_73_16, q_73_17, q_73_18, q_73_21, q_73_24, q_73_25, q_73_28, q_73_29, q_73_30_t, q_73_30_f, q_73_33, q_73_34, q_73_37, q_73_38_t, q_73_38_f, q_73_41, q_73_43, q_73_44, q_73_45, q_73_48, q_73_51, q_73_52, q_73_53_t, q_73_53_f, q_73_56, q_73_57, q_73_60, q_73_63, q_73_64, q_73_67, q_73_68, q_73_71, q_73_74, q_73_75, q_73_76, q_73_79, q_73_82, q_73_83, q_73_86, q_73_89, q_73_90, q_73_93, q_73_94, q_73_97, q_73_98, q_73_101, q_73_104, q_73_107, aft_i, aft_l, aft_v, Int.toNat_natCast, kd_sI, kd_sL, kd_sR, kd_cp, gI_sL, gI_sR, gL_sI, gL_sR, gR_sI, gR_sL, gL_cp, gR_cp, kd_aI, gL_aI, gR_aI, gI_aI, gI_aIn, sI_aI, gI_sIn, Int.reduceToNat, Int.reduceAdd, Int.reduceSub, Int.reduceMul, Int.reduceNeg, Int.zero_add, e, ef, r0_3, r13_0, el]
      · rw [if_neg v]
        have wX := wL i hi v zf
        obtain ⟨π, s⟩ := c.1.2.1
        obtain ⟨g1, π2, e1, s1, a1, n1⟩ := wRem_ok (d + 1) h L (zT σ) (zN σ) (zP σ) wT w.2.1 π s
        have L1 := lvF_L a1 L
        obtain ⟨m1, m2⟩ := lay_k L1 (a := 0) (t := 7) (n := 17) rfl
        obtain ⟨m3, m4⟩ := lay_k L1 (a := 13) (t := 4) (n := 4) rfl
        obtain ⟨m5, m6⟩ := lay_k L1 (a := 14) (t := 2) (n := 5) rfl
        have r1 : gR g1 0 3 = some 13 := lay_r L1 rfl
        have r3 : gR g1 13 0 = some 14 := lay_r L1 rfl
        rcases zf with f | f
        · subst f
          have y : plF (fun i => (nR (zN σ) i : Int)) i (nM (zN σ)) 0 = -9 := Decidable.byContradiction (fun u => v (if_neg u))
          rw [if_pos y] at el
          have nm : ¬ i ∈ rowL (zN σ) := fun u => plF_in.mpr u y
          have lt7 : nM (zN σ) < 7 := by
            have nd : (i :: rowL (zN σ)).Nodup := List.nodup_cons.mpr ⟨nm, rowL_nd wN⟩
            have := nd_len nd (n := tN (zT σ)) (fun x hx => by
              rcases List.mem_cons.mp hx with u | u
              · rw [u]; exact hi
              · exact rowL_lt wN u)
            rw [List.length_cons, rowL_len] at this
            omega
          have e2 := wAb_ok (d + 2) g1 L1 (nM (zN σ)) i n1.1 lt7
          have eX : losN (zN σ) i 0 = setR (zN σ) (rowL (zN σ) ++ [i]) (nL (zN σ)) := by unfold losN; rw [if_neg (by omega)]
          rw [eX] at wX ⊢
          have ll : (rowL (zN σ) ++ [i]).length = nM (zN σ) + 1 := by rw [List.length_append, rowL_len]; rfl
          obtain ⟨g, e4, fr, Lg, cg⟩ := ev_fin d h g1 (sI (sI g1 15 (nM (zN σ)) i) 14 2 ((nM (zN σ) : Int) + 1)) L σ w c.1 a1 s1 (knP_wf w.2.1 wX) rfl (fun q k n => by rw [gI_sIn (by omega), gI_sIn (by omega)]) (fun _ _ _ => rfl) rfl (ntA_set (by rw [gI_sIs, ll]; rfl) (by rw [gI_sIo (by omega), gI_sIn (by omega)]; exact n1.2.1) n1.2.2.1 (by
            rw [gI_sIn (by omega), gI_sIu]
            refine rwO_app.mpr ⟨rwO_congr (fun j hj => upI_n (by rw [rowL_len] at hj; omega)) (rwO_rowL n1), rwO_cons.mpr ⟨?_, rwO_nil _ _⟩⟩
            rw [rowL_len, Nat.zero_add, upI_s]) (fun k hk => by rw [gI_sIn (by omega), gI_sIn (by omega)]; exact n1.2.2.2.2 k hk))
          refine ⟨g, ?_, fr, Lg, cg⟩
          have ng : gI g 14 2 = ((rowL (zN σ) ++ [i]).length : Nat) := (CI_q cg).2.1.1
          have nS : nM (setR (zN σ) (rowL (zN σ) ++ [i]) (nL (zN σ))) = (rowL (zN σ) ++ [i]).length := rfl
          obtain ⟨u1, u2⟩ := lay_k Lg (a := 0) (t := 7) (n := 17) rfl
          obtain ⟨u3, u4⟩ := lay_k Lg (a := 13) (t := 4) (n := 4) rfl
          obtain ⟨u5, u6⟩ := lay_k Lg (a := 14) (t := 2) (n := 5) rfl
          have t1 : gR g 0 3 = some 13 := lay_r Lg rfl
          have t2 : gR g 13 0 = some 14 := lay_r Lg rfl
          dsimp only
          rw [nS]
          obtain ⟨k0, j0⟩ := lay_k L0 (a := 0) (t := 7) (n := 17) rfl; obtain ⟨k13, j13⟩ := lay_k L0 (a := 13) (t := 4) (n := 4) rfl; obtain ⟨k14, j14⟩ := lay_k L0 (a := 14) (t := 2) (n := 5) rfl; have r0_3 : gR h 0 3 = some 13 := lay_r L0 rfl; have r13_0 : gR h 13 0 = some 14 := lay_r L0 rfl
          rw [en_73]
          simp (disch := (first | omega | (simp only [kd_sI, kd_sL, kd_sR, kd_cp, kd_aI]; omega) | (unfold catV; exact rfl) | (unfold catS; exact Nat.le_of_ble_eq_true rfl) | assumption)) only [q_73_0, q_73_1, q_73_2, q_73_5_t, q_73_5_f, q_73_8, q_73_9, q_73_12_t, q_73_12_f, q_73_15, q_73_16, q_73_17, q_73_18, q_73_21, q_73_24, q_73_25, q_73_28, q_73_29, q_73_30_t, q_73_30_f, q_73_33, q_73_34, q_73_37, q_73_38_t, q_73_38_f, q_73_41, q_73_43, q_73_44, q_73_45, q_73_48, q_73_51, q_73_52, q_73_53_t, q_73_53_f, q_73_56, q_73_57, q_73_60, q_73_63, q_73_64, q_73_67, q_73_68, q_73_71, q_73_74, q_73_75, q_73_76, q_73_79, q_73_82, q_73_83, q_73_86, q_73_89, q_73_90, q_73_93, q_73_94, q_73_97, q_73_98, q_73_101, q_73_104, q_73_107, aft_i, aft_l, aft_v, Int.toNat_natCast, kd_sI, kd_sL, kd_sR, kd_cp, gI_sL, gI_sR, gL_sI, gL_sR, gR_sI, gR_sL, gL_cp, gR_cp, kd_aI, gL_aI, gR_aI, gI_aI, gI_aIn, sI_aI, gI_sIn, Int.reduceToNat, Int.reduceAdd, Int.reduceSub, Int.reduceMul, Int.reduceNeg, Int.zero_add, e, ef, r0_3, r13_0, el, e1, r1, r3, e2, e4, t1, t2, ng]
        · subst f
          have y : ¬ plF (fun i => (nR (zN σ) i : Int)) i (nM (zN σ)) 0 = -9 := fun u => v (if_pos u)
          rw [if_neg y] at el
          obtain ⟨G, e2, r2⟩ := wTo_ok (d + 2) g1 L1 (zT σ) (zN σ) wT wN n1 i
          have eX : losN (zN σ) i 1 = setR (zN σ) ((rowL (zN σ)).filter (fun x => decide (x ≠ i))) (clrB (nL (zN σ)) i) := by unfold losN; rw [if_pos rfl]
          rw [eX] at wX ⊢
          generalize eF : (rowL (zN σ)).filter (fun x => decide (x ≠ i)) = F at e2 r2 wX ⊢
          have L2 : LAY (sI (aI g1 15 G) 14 2 (F.length : Nat)) := lay_sI (lay_aI L1 _ _) _ _ _
          have e3 := wSet_ok (d + 2) _ L2 (nL (zN σ)) (by rw [gI_sIo (by omega), gI_aIn (by omega)]; exact n1.2.1) wN.2.2.2.2.1 i (by omega) false
          rw [if_neg Bool.false_ne_true, if_neg Bool.false_ne_true] at e3
          have eC : nL (zN σ) ^^^ (nL (zN σ) &&& 2 ^ i) = clrB (nL (zN σ)) i := rfl
          rw [eC] at e3
          obtain ⟨g, e4, fr, Lg, cg⟩ := ev_fin d h g1 (sI (sI (aI g1 15 G) 14 2 (F.length : Nat)) 14 3 (clrB (nL (zN σ)) i : Nat)) L σ w c.1 a1 s1 (knP_wf w.2.1 wX) rfl (fun q k n => by rw [gI_sIn (by omega), gI_sIn (by omega), gI_aIn (by omega)]) (fun _ _ _ => rfl) rfl (ntA_set (by rw [gI_sIo (by omega), gI_sIs]) (gI_sIs _ _ _ _) n1.2.2.1 (by
            rw [gI_sIn (by omega), gI_sIn (by omega), gI_aI]
            exact r2) (fun k hk => by rw [gI_sIn (by omega), gI_sIn (by omega), gI_aIn (by omega)]; exact n1.2.2.2.2 k hk))
          refine ⟨g, ?_, fr, Lg, cg⟩
          have ng : gI g 14 2 = (F.length : Nat) := (CI_q cg).2.1.1
          have nS : nM (setR (zN σ) F (clrB (nL (zN σ)) i)) = F.length := rfl
          obtain ⟨m7, m8⟩ := lay_k L2 (a := 0) (t := 7) (n := 17) rfl
          obtain ⟨u1, u2⟩ := lay_k Lg (a := 0) (t := 7) (n := 17) rfl
          obtain ⟨u3, u4⟩ := lay_k Lg (a := 13) (t := 4) (n := 4) rfl
          obtain ⟨u5, u6⟩ := lay_k Lg (a := 14) (t := 2) (n := 5) rfl
          have t1 : gR g 0 3 = some 13 := lay_r Lg rfl
          have t2 : gR g 13 0 = some 14 := lay_r Lg rfl
          dsimp only
          rw [nS]
          obtain ⟨k0, j0⟩ := lay_k L0 (a := 0) (t := 7) (n := 17) rfl; obtain ⟨k13, j13⟩ := lay_k L0 (a := 13) (t := 4) (n := 4) rfl; obtain ⟨k14, j14⟩ := lay_k L0 (a := 14) (t := 2) (n := 5) rfl; have r0_3 : gR h 0 3 = some 13 := lay_r L0 rfl; have r13_0 : gR h 13 0 = some 14 := lay_r L0 rfl
          rw [en_73]
          simp (disch := (first | omega | (simp only [kd_sI, kd_sL, kd_sR, kd_cp, kd_aI]; omega) | (unfold catV; exact rfl) | (unfold catS; exact Nat.le_of_ble_eq_true rfl) | assumption)) only [q_73_0, q_73_1, q_73_2, q_73_5_t, q_73_5_f, q_73_8, q_73_9, q_73_12_t, q_73_12_f, q_73_15, q_73_16, q_73_17, q_73_18, q_73_21, q_73_24, q_73_25, q_73_28, q_73_29, q_73_30_t, q_73_30_f, q_73_33, q_73_34, q_73_37, q_73_38_t, q_73_38_f, q_73_41, q_73_43, q_73_44, q_73_45, q_73_48, q_73_51, q_73_52, q_73_53_t, q_73_53_f, q_73_56, q_73_57, q_73_60, q_73_63, q_73_64, q_73_67, q_73_68, q_73_71, q_73_74, q_73_75, q_73_76, q_73_79, q_73_82, q_73_83, q_73_86, q_73_89, q_73_90, q_73_93, q_73_94, q_73_97, q_73_98, q_73_101, q_73_104, q_73_107, aft_i, aft_l, aft_v, Int.toNat_natCast, kd_sI, kd_sL, kd_sR, kd_cp, gI_sL, gI_sR, gL_sI, gL_sR, gR_sI, gR_sL, gL_cp, gR_cp, kd_aI, gL_aI, gR_aI, gI_aI, gI_aIn, sI_aI, gI_sIn, Int.reduceToNat, Int.reduceAdd, Int.reduceSub, Int.reduceMul, Int.reduceNeg, Int.zero_add, e, ef, r0_3, r13_0, el, e1, r1, r3, e2, e3, e4, t1, t2, ng]
    · rw [if_neg zf] at ef
      rw [if_neg (fun u => zf u.2)]
      refine cOK_s L c ?_
      obtain ⟨k0, j0⟩ := lay_k L0 (a := 0) (t := 7) (n := 17) rfl
      rw [en_73]
      simp (disch := (first | omega | (simp only [kd_sI, kd_sL, kd_sR, kd_cp, kd_aI]; omega) | (unfold catV; exact rfl) | (unfold catS; exact Nat.le_of_ble_eq_true rfl) | assumption)) only [q_73_0, q_73_1, q_73_2, q_73_5_t, q_73_5_f, q_73_8, q_73_9, q_73_12_t, q_73_12_f, q_73_15, q_73_16, q_73_17, q_73_18, q_73_21, q_73_24, q_73_25, q_73_28, q_73_29, q_73_30_t, q_73_30_f, q_73_33, q_73_34, q_73_37, q_73_38_t, q_73_38_f, q_73_41, q_73_43, q_73_44, q_73_45, q_73_48, q_73_51, q_73_52, q_73_53_t, q_73_53_f, q_73_56, q_73_57, q_73_60, q_73_63, q_73_64, q_73_67, q_73_68, q_73_71, q_73_74, q_73_75, q_73_76, q_73_79, q_73_82, q_73_83, q_73_86, q_73_89, q_73_90, q_73_93, q_73_94, q_73_97, q_73_98, q_73_101, q_73_104, q_73_107, aft_i, aft_l, aft_v, Int.toNat_natCast, kd_sI, kd_sL, kd_sR, kd_cp, gI_sL, gI_sR, gL_sI, gL_sR, gR_sI, gR_sL, gL_cp, gR_cp, kd_aI, gL_aI, gR_aI, gI_aI, gI_aIn, sI_aI, gI_sIn, Int.reduceToNat, Int.reduceAdd, Int.reduceSub, Int.reduceMul, Int.reduceNeg, Int.zero_add, e, ef]
  · rw [if_neg z] at e
    rw [if_neg (fun u => z u.1)]
    refine cOK_s L c ?_
    obtain ⟨k0, j0⟩ := lay_k L0 (a := 0) (t := 7) (n := 17) rfl
    rw [en_73]
    simp (disch := (first | omega | (simp only [kd_sI, kd_sL, kd_sR, kd_cp, kd_aI]; omega) | (unfold catV; exact rfl) | (unfold catS; exact Nat.le_of_ble_eq_true rfl) | assumption)) only [q_73_0, q_73_1, q_73_2, q_73_5_t, q_73_5_f, q_73_8, q_73_9, q_73_12_t, q_73_12_f, q_73_15, q_73_16, q_73_17, q_73_18, q_73_21, q_73_24, q_73_25, q_73_28, q_73_29, q_73_30_t, q_73_30_f, q_73_33, q_73_34, q_73_37, q_73_38_t, q_73_38_f, q_73_41, q_73_43, q_73_44, q_73_45, q_73_48, q_73_51, q_73_52, q_73_53_t, q_73_53_f, q_73_56, q_73_57, q_73_60, q_73_63, q_73_64, q_73_67, q_73_68, q_73_71, q_73_74, q_73_75, q_73_76, q_73_79, q_73_82, q_73_83, q_73_86, q_73_89, q_73_90, q_73_93, q_73_94, q_73_97, q_73_98, q_73_101, q_73_104, q_73_107, aft_i, aft_l, aft_v, Int.toNat_natCast, kd_sI, kd_sL, kd_sR, kd_cp, gI_sL, gI_sR, gL_sI, gL_sR, gR_sI, gR_sL, gL_cp, gR_cp, kd_aI, gL_aI, gR_aI, gI_aI, gI_aIn, sI_aI, gI_sIn, Int.reduceToNat, Int.reduceAdd, Int.reduceSub, Int.reduceMul, Int.reduceNeg, Int.zero_add, e]
