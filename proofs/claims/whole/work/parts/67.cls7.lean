def bc1 (n : Int) : Int := n - andI (ushI n 1) 1431655765
def bc2 (n : Int) : Int := andI (bc1 n) 858993459 + andI (ushI (bc1 n) 2) 858993459
def bc3 (n : Int) : Int := andI (bc2 n + ushI (bc2 n) 4) 252645135
def bc4 (n : Int) : Int := bc3 n + ushI (bc3 n) 8
def bc5 (n : Int) : Int := bc4 n + ushI (bc4 n) 16
theorem bc_all : ∀ n : Nat, n < 128 → (0 ≤ bc1 n ∧ bc1 n ≤ 1000) ∧ (0 ≤ bc2 n ∧ bc2 n ≤ 1000) ∧ (0 ≤ bc2 n + ushI (bc2 n) 4 ∧ bc2 n + ushI (bc2 n) 4 ≤ 1000) ∧ (0 ≤ bc4 n ∧ bc4 n ≤ 1000) ∧ (0 ≤ bc5 n ∧ bc5 n ≤ 1000) ∧ andI (bc5 n) 63 = (cntB n 7 : Int) := by decide +kernel
theorem bitC_ok (d : Nat) (h : mH) (n : Nat) (hn : n < 128) : callA (d + 1) 193 [Sum.inl (n : Int)] h = some (some (Sum.inl (cntB n 7 : Int)), h) := by
  obtain ⟨a1, a2, a3, a4, a5, a6⟩ := bc_all n hn
  have f1 : (n : Int) - andI (ushI n 1) 1431655765 = bc1 n := rfl
  have f2 : andI (bc1 n) 858993459 + andI (ushI (bc1 n) 2) 858993459 = bc2 n := rfl
  have f3 : andI (bc2 n + ushI (bc2 n) 4) 252645135 = bc3 n := rfl
  have f4 : bc3 n + ushI (bc3 n) 8 = bc4 n := rfl
  have f5 : bc4 n + ushI (bc4 n) 16 = bc5 n := rfl
  have r1 : -2147483648 ≤ (n : Int) - andI (ushI n 1) 1431655765 ∧ (n : Int) - andI (ushI n 1) 1431655765 < 2147483648 := by rw [f1]; omega
  have r2 : -2147483648 ≤ andI (bc1 n) 858993459 + andI (ushI (bc1 n) 2) 858993459 ∧ andI (bc1 n) 858993459 + andI (ushI (bc1 n) 2) 858993459 < 2147483648 := by rw [f2]; omega
  have r4 : -2147483648 ≤ bc3 n + ushI (bc3 n) 8 ∧ bc3 n + ushI (bc3 n) 8 < 2147483648 := by rw [f4]; omega
  have r5 : -2147483648 ≤ bc4 n + ushI (bc4 n) 16 ∧ bc4 n + ushI (bc4 n) 16 < 2147483648 := by rw [f5]; omega
  rw [en_193]
  simp (disch := (first | omega | (simp only [kd_sI, kd_sL, kd_sR, kd_cp, kd_aI]; omega) | (unfold catV; exact rfl) | (unfold catS; exact Nat.le_of_ble_eq_true rfl) | assumption)) only [q_193_0, q_193_1, q_193_2, q_193_3, q_193_4, q_193_7, q_193_8, q_193_9, q_193_10, q_193_11, q_193_14, q_193_15, q_193_16, q_193_17, q_193_18, q_193_21, q_193_22, q_193_23, q_193_24, q_193_25, q_193_26, q_193_27, q_193_28, q_193_29, q_193_32, q_193_33, q_193_34, q_193_35, q_193_36, q_193_38, q_193_39, q_193_40, q_193_41, q_193_42, q_193_43, q_193_45, q_193_46, q_193_47, q_193_48, q_193_49, q_193_51, q_193_52, aft_i, aft_l, aft_v, Int.toNat_natCast, kd_sI, kd_sL, kd_sR, kd_cp, gI_sL, gI_sR, gL_sI, gL_sR, gR_sI, gR_sL, gL_cp, gR_cp, kd_aI, gL_aI, gR_aI, gI_aI, gI_aIn, sI_aI, gI_sIn, Int.reduceToNat, Int.reduceAdd, Int.reduceSub, Int.reduceMul, Int.reduceNeg, Int.zero_add, f1, f2, f3, f4, f5, a6]
theorem wrL_bm (x : Int) : wrL x = x.bmod (2 ^ 64) := Int64.toInt_ofInt
theorem wrL_add (a b : Int) : wrL (wrL a + b) = wrL (a + b) := by
  rw [wrL_bm, wrL_bm, wrL_bm, Int.bmod_add_bmod]
theorem wMk_cart (d : Nat) (h : mH) (L : LAY h) (T : Td) (N : Nt) (wT : wfT T) (wN : wfN T N) (u : ntA h 14 T N) (c : Nat) (hc : c < tN T) : callA (d + 1) 116 [Sum.inr (Sum.inr (some 0)), Sum.inl (c : Int)] h = some (some (Sum.inl (nX N c : Int)), sL h 0 14 (wrL (gL h 0 14 + 1))) := by
  have c7 := wT.1
  have x := u.2.2.2.2 c hc
  obtain ⟨k0, j0⟩ := lay_k L (a := 0) (t := 7) (n := 17) rfl; obtain ⟨k13, j13⟩ := lay_k L (a := 13) (t := 4) (n := 4) rfl; obtain ⟨k14, j14⟩ := lay_k L (a := 14) (t := 2) (n := 5) rfl; obtain ⟨k16, j16⟩ := lay_k L (a := 16) (t := 100) (n := 7) rfl; have r0_3 : gR h 0 3 = some 13 := lay_r L rfl; have r13_0 : gR h 13 0 = some 14 := lay_r L rfl; have r14_1 : gR h 14 1 = some 16 := lay_r L rfl
  rw [en_116]
  simp (disch := (first | omega | (simp only [kd_sI, kd_sL, kd_sR, kd_cp, kd_aI]; omega) | (unfold catV; exact rfl) | (unfold catS; exact Nat.le_of_ble_eq_true rfl) | assumption)) only [q_116_0, q_116_1, q_116_2, q_116_5, q_116_6, q_116_7, q_116_10, q_116_11, q_116_14, q_116_17, q_116_20, q_116_21, q_116_22, aft_i, aft_l, aft_v, Int.toNat_natCast, kd_sI, kd_sL, kd_sR, kd_cp, gI_sL, gI_sR, gL_sI, gL_sR, gR_sI, gR_sL, gL_cp, gR_cp, kd_aI, gL_aI, gR_aI, gI_aI, gI_aIn, sI_aI, gI_sIn, Int.reduceToNat, Int.reduceAdd, Int.reduceSub, Int.reduceMul, Int.reduceNeg, Int.zero_add, r0_3, r13_0, r14_1, x]
theorem sL_sL (h : mH) (a k : Nat) (x y : Int) : sL (sL h a k x) a k y = sL h a k y := mH_ext rfl (fun _ _ => rfl) (fun q j => by
  by_cases z : q = a ∧ j = k
  · rw [gL_sL, if_pos z, gL_sL, if_pos z]
  · rw [gL_sL, if_neg z, gL_sL, gL_sL, if_neg z, if_neg z]) (fun _ _ => rfl)
theorem gL_sLs (h : mH) (a k : Nat) (x : Int) : gL (sL h a k x) a k = x := by rw [gL_sL, if_pos ⟨rfl, rfl⟩]
/-- only the trace -/
theorem Cq_tr {h : mH} {T : Td} {N : Nt} (q : Cq h T N) (x : Int) : Cq (sL h 0 14 x) T N := ⟨q.1, ⟨q.2.1.1, q.2.1.2.1, by rw [gL_sL, if_neg (by omega)]; exact q.2.1.2.2.1, q.2.1.2.2.2⟩, q.2.2⟩
theorem wMk_church (d : Nat) (h : mH) (L : LAY h) (T : Td) (N : Nt) (wT : wfT T) (wN : wfN T N) (q : Cq h T N) (c : Nat) (hc : c < tN T) : callA (d + 2) 117 [Sum.inr (Sum.inr (some 0)), Sum.inl (c : Int)] h = some (some (Sum.inl ((nX N c : Int) + tP T c)), sL h 0 14 (wrL (gL h 0 14 + 11))) := by
  have c7 := wT.1
  have L1 := lay_sL L 0 14 (wrL (gL h 0 14 + 10))
  have e := wMk_cart d _ L1 T N wT wN (Cq_tr q _).2.1 c hc
  have p := (q.1.2.2.2.2.1 c hc).1
  have pb := wT.2.2.2.2.1 c hc
  have xb := wN.2.2.2.1 c hc
  have ew : wrL (wrL (gL h 0 14 + 10) + 1) = wrL (gL h 0 14 + 11) := by rw [wrL_add, Int.add_assoc]; rfl
  rw [sL_sL, gL_sLs, ew] at e
  obtain ⟨k0, j0⟩ := lay_k L (a := 0) (t := 7) (n := 17) rfl; obtain ⟨k3, j3⟩ := lay_k L (a := 3) (t := 6) (n := 8) rfl; obtain ⟨k5, j5⟩ := lay_k L (a := 5) (t := 100) (n := 7) rfl; have r0_1 : gR h 0 1 = some 3 := lay_r L rfl; have r3_1 : gR h 3 1 = some 5 := lay_r L rfl
  rw [en_117]
  simp (disch := (first | omega | (simp only [kd_sI, kd_sL, kd_sR, kd_cp, kd_aI]; omega) | (unfold catV; exact rfl) | (unfold catS; exact Nat.le_of_ble_eq_true rfl) | assumption)) only [q_117_0, q_117_1, q_117_2, q_117_5, q_117_8, q_117_9, q_117_12, q_117_13, q_117_14, q_117_17, q_117_18, q_117_21, q_117_24, q_117_25, q_117_26, q_117_27, aft_i, aft_l, aft_v, Int.toNat_natCast, kd_sI, kd_sL, kd_sR, kd_cp, gI_sL, gI_sR, gL_sI, gL_sR, gR_sI, gR_sL, gL_cp, gR_cp, kd_aI, gL_aI, gR_aI, gI_aI, gI_aIn, sI_aI, gI_sIn, Int.reduceToNat, Int.reduceAdd, Int.reduceSub, Int.reduceMul, Int.reduceNeg, Int.zero_add, e, r0_1, r3_1, p]
theorem wMk_baker (d : Nat) (h : mH) (L : LAY h) (T : Td) (N : Nt) (wT : wfT T) (wN : wfN T N) (q : Cq h T N) (c : Nat) (hc : c < tN T) : callA (d + 3) 118 [Sum.inr (Sum.inr (some 0)), Sum.inl (c : Int)] h = some (some (Sum.inl (offS T N c)), sL h 0 14 (wrL (gL h 0 14 + 101))) := by
  have c7 := wT.1
  have L1 := lay_sL L 0 14 (wrL (gL h 0 14 + 100))
  have e := wMk_cart (d + 1) _ L1 T N wT wN (Cq_tr q _).2.1 c hc
  have e2 := wCellOf_ok d _ L1 T N wT wN (Cq_tr q _) c hc
  have xb := wN.2.2.2.1 c hc
  have fb := fcS_i wT wN c hc
  have ew : wrL (wrL (gL h 0 14 + 100) + 1) = wrL (gL h 0 14 + 101) := by rw [wrL_add, Int.add_assoc]; rfl
  rw [sL_sL, gL_sLs, ew] at e
  unfold offS
  obtain ⟨k0, j0⟩ := lay_k L (a := 0) (t := 7) (n := 17) rfl
  rw [en_118]
  by_cases z : cellS T N c = -9
  · rw [if_pos z]
    rw [z] at e2
    simp (disch := (first | omega | (simp only [kd_sI, kd_sL, kd_sR, kd_cp, kd_aI]; omega) | (unfold catV; exact rfl) | (unfold catS; exact Nat.le_of_ble_eq_true rfl) | assumption)) only [q_118_0, q_118_1, q_118_2, q_118_5, q_118_8, q_118_9, q_118_12, q_118_13, q_118_14, q_118_17, q_118_18, q_118_19, q_118_20, q_118_23, q_118_24, q_118_26_t, q_118_26_f, q_118_29, q_118_30, q_118_33, q_118_34, q_118_35, aft_i, aft_l, aft_v, Int.toNat_natCast, kd_sI, kd_sL, kd_sR, kd_cp, gI_sL, gI_sR, gL_sI, gL_sR, gR_sI, gR_sL, gL_cp, gR_cp, kd_aI, gL_aI, gR_aI, gI_aI, gI_aIn, sI_aI, gI_sIn, Int.reduceToNat, Int.reduceAdd, Int.reduceSub, Int.reduceMul, Int.reduceNeg, Int.zero_add, e, e2]
  · rw [if_neg z]
    simp (disch := (first | omega | (simp only [kd_sI, kd_sL, kd_sR, kd_cp, kd_aI]; omega) | (unfold catV; exact rfl) | (unfold catS; exact Nat.le_of_ble_eq_true rfl) | assumption)) only [q_118_0, q_118_1, q_118_2, q_118_5, q_118_8, q_118_9, q_118_12, q_118_13, q_118_14, q_118_17, q_118_18, q_118_19, q_118_20, q_118_23, q_118_24, q_118_26_t, q_118_26_f, q_118_29, q_118_30, q_118_33, q_118_34, q_118_35, aft_i, aft_l, aft_v, Int.toNat_natCast, kd_sI, kd_sL, kd_sR, kd_cp, gI_sL, gI_sR, gL_sI, gL_sR, gR_sI, gR_sL, gL_cp, gR_cp, kd_aI, gL_aI, gR_aI, gI_aI, gI_aIn, sI_aI, gI_sIn, Int.reduceToNat, Int.reduceAdd, Int.reduceSub, Int.reduceMul, Int.reduceNeg, Int.zero_add, e, e2]
theorem wMk_mill (d : Nat) (h : mH) (L : LAY h) (T : Td) (N : Nt) (wT : wfT T) (wN : wfN T N) (q : Cq h T N) (c : Nat) (hc : c < tN T) : callA (d + 3) 119 [Sum.inr (Sum.inr (some 0)), Sum.inl (c : Int)] h = some (some (Sum.inl (2 * ((nX N c : Int) + tP T c))), sL h 0 14 (wrL (gL h 0 14 + 1011))) := by
  have c7 := wT.1
  have L1 := lay_sL L 0 14 (wrL (gL h 0 14 + 1000))
  have e := wMk_church d _ L1 T N wT wN (Cq_tr q _) c hc
  have pb := wT.2.2.2.2.1 c hc
  have xb := wN.2.2.2.1 c hc
  have ew : wrL (wrL (gL h 0 14 + 1000) + 11) = wrL (gL h 0 14 + 1011) := by rw [wrL_add, Int.add_assoc]; rfl
  rw [sL_sL, gL_sLs, ew] at e
  have em : 2 * ((nX N c : Int) + tP T c) = ((nX N c : Int) + tP T c) * 2 := Int.mul_comm _ _
  rw [em]
  obtain ⟨k0, j0⟩ := lay_k L (a := 0) (t := 7) (n := 17) rfl
  rw [en_119]
  simp (disch := (first | omega | (simp only [kd_sI, kd_sL, kd_sR, kd_cp, kd_aI]; omega) | (unfold catV; exact rfl) | (unfold catS; exact Nat.le_of_ble_eq_true rfl) | assumption)) only [q_119_0, q_119_1, q_119_2, q_119_5, q_119_8, q_119_9, q_119_12, q_119_13, q_119_14, q_119_17, q_119_18, q_119_19, aft_i, aft_l, aft_v, Int.toNat_natCast, kd_sI, kd_sL, kd_sR, kd_cp, gI_sL, gI_sR, gL_sI, gL_sR, gR_sI, gR_sL, gL_cp, gR_cp, kd_aI, gL_aI, gR_aI, gI_aI, gI_aIn, sI_aI, gI_sIn, Int.reduceToNat, Int.reduceAdd, Int.reduceSub, Int.reduceMul, Int.reduceNeg, Int.zero_add, e]
theorem wMk_dyer (d : Nat) (h : mH) (L : LAY h) (T : Td) (N : Nt) (wT : wfT T) (wN : wfN T N) (q : Cq h T N) (c : Nat) (hc : c < tN T) : callA (d + 4) 120 [Sum.inr (Sum.inr (some 0)), Sum.inl (c : Int)] h = some (some (Sum.inl (offS T N c + cntB (tF T c) 7)), sL h 0 14 (wrL (gL h 0 14 + 10101))) := by
  have c7 := wT.1
  have L1 := lay_sL L 0 14 (wrL (gL h 0 14 + 10000))
  have e := wMk_baker d _ L1 T N wT wN (Cq_tr q _) c hc
  have p := (q.1.2.2.2.2.1 c hc).2
  have xb := wN.2.2.2.1 c hc
  have fb := fcS_i wT wN c hc
  have cb := cntB_le (tF T c) 7
  have ew : wrL (wrL (gL h 0 14 + 10000) + 101) = wrL (gL h 0 14 + 10101) := by rw [wrL_add, Int.add_assoc]; rfl
  rw [sL_sL, gL_sLs, ew] at e
  have e2 := fun g => bitC_ok (d + 2) g (tF T c) (wT.2.2.2.2.2.1 c hc)
  have ob : -40 ≤ offS T N c ∧ offS T N c ≤ 40 := by
    unfold offS
    split <;> omega
  obtain ⟨k0, j0⟩ := lay_k L (a := 0) (t := 7) (n := 17) rfl; obtain ⟨k3, j3⟩ := lay_k L (a := 3) (t := 6) (n := 8) rfl; obtain ⟨k6, j6⟩ := lay_k L (a := 6) (t := 100) (n := 7) rfl; have r0_1 : gR h 0 1 = some 3 := lay_r L rfl; have r3_2 : gR h 3 2 = some 6 := lay_r L rfl
  rw [en_120]
  simp (disch := (first | omega | (simp only [kd_sI, kd_sL, kd_sR, kd_cp, kd_aI]; omega) | (unfold catV; exact rfl) | (unfold catS; exact Nat.le_of_ble_eq_true rfl) | assumption)) only [q_120_0, q_120_1, q_120_2, q_120_5, q_120_8, q_120_9, q_120_12, q_120_13, q_120_14, q_120_17, q_120_18, q_120_21, q_120_24, q_120_25, q_120_26, q_120_29, q_120_30, aft_i, aft_l, aft_v, Int.toNat_natCast, kd_sI, kd_sL, kd_sR, kd_cp, gI_sL, gI_sR, gL_sI, gL_sR, gR_sI, gR_sL, gL_cp, gR_cp, kd_aI, gL_aI, gR_aI, gI_aI, gI_aIn, sI_aI, gI_sIn, Int.reduceToNat, Int.reduceAdd, Int.reduceSub, Int.reduceMul, Int.reduceNeg, Int.zero_add, e, r0_1, r3_2, p, e2]
theorem wMk_guest (d : Nat) (h : mH) (L : LAY h) (T : Td) (N : Nt) (wT : wfT T) (wN : wfN T N) (q : Cq h T N) (c : Nat) (hc : c < tN T) : callA (d + 2) 121 [Sum.inr (Sum.inr (some 0)), Sum.inl (c : Int)] h = some (some (Sum.inl ((nX N c : Int) + cntB (brkN T N) 7)), sL h 0 14 (wrL (gL h 0 14 + 100001))) := by
  have c7 := wT.1
  have L1 := lay_sL L 0 14 (wrL (gL h 0 14 + 100000))
  have e := wMk_cart d _ L1 T N wT wN (Cq_tr q _).2.1 c hc
  have xb := wN.2.2.2.1 c hc
  have cb := cntB_le (brkN T N) 7
  have ew : wrL (wrL (gL h 0 14 + 100000) + 1) = wrL (gL h 0 14 + 100001) := by rw [wrL_add, Int.add_assoc]; rfl
  rw [sL_sL, gL_sLs, ew] at e
  have e1 := wBrk_ok d (sL h 0 14 (wrL (gL h 0 14 + 100001))) (lay_sL L _ _ _) T N wT wN (Cq_tr q _)
  have bb : brkN T N < 128 := brkF_b (fun j hj => by have := wN.2.1 j hj; omega)
  have e2 := fun g => bitC_ok d g (brkN T N) bb
  obtain ⟨k0, j0⟩ := lay_k L (a := 0) (t := 7) (n := 17) rfl
  rw [en_121]
  simp (disch := (first | omega | (simp only [kd_sI, kd_sL, kd_sR, kd_cp, kd_aI]; omega) | (unfold catV; exact rfl) | (unfold catS; exact Nat.le_of_ble_eq_true rfl) | assumption)) only [q_121_0, q_121_1, q_121_2, q_121_5, q_121_8, q_121_9, q_121_12, q_121_13, q_121_14, q_121_17, q_121_18, q_121_21, q_121_24, q_121_25, aft_i, aft_l, aft_v, Int.toNat_natCast, kd_sI, kd_sL, kd_sR, kd_cp, gI_sL, gI_sR, gL_sI, gL_sR, gR_sI, gR_sL, gL_cp, gR_cp, kd_aI, gL_aI, gR_aI, gI_aI, gI_aIn, sI_aI, gI_sIn, Int.reduceToNat, Int.reduceAdd, Int.reduceSub, Int.reduceMul, Int.reduceNeg, Int.zero_add, e, e1, e2]
theorem cMark_ok (d : Nat) (h : mH) (L : LAY h) (T : Td) (N : Nt) (wT : wfT T) (wN : wfN T N) (q : Cq h T N) (k c : Int) : callA (d + 5) 87 [Sum.inr (Sum.inr (some 0)), Sum.inl k, Sum.inl c] h = some (some (Sum.inl (marS T N k c (gL h 0 14)).1), sL h 0 14 (marS T N k c (gL h 0 14)).2) := by
  have c7 := wT.1
  have e := wCart_ok (d + 3) h L T q.1 c
  have same : sL h 0 14 (gL h 0 14) = h := mH_ext rfl (fun _ _ => rfl) (fun q j => by
    rw [gL_sL]
    split
    next z => rw [z.1, z.2]
    · rfl) (fun _ _ => rfl)
  unfold marS
  obtain ⟨k0, j0⟩ := lay_k L (a := 0) (t := 7) (n := 17) rfl
  rw [en_87]
  by_cases z : 0 ≤ c ∧ c < tN T
  · rw [if_pos z] at e
    by_cases y : 0 ≤ k ∧ k ≤ 5
    · rw [if_pos ⟨y, z⟩]
      obtain ⟨j, rfl⟩ : ∃ j : Nat, c = j := ⟨c.toNat, by omega⟩
      rw [Int.toNat_natCast]
      have hj : j < tN T := by omega
      by_cases k0 : k = 0
      · subst k0
        have f := wMk_cart (d + 3) h L T N wT wN q.2.1 j hj
        simp (disch := (first | omega | (simp only [kd_sI, kd_sL, kd_sR, kd_cp, kd_aI]; omega) | (unfold catV; exact rfl) | (unfold catS; exact Nat.le_of_ble_eq_true rfl) | assumption)) only [q_87_0, q_87_1, q_87_2, q_87_5_t, q_87_5_f, q_87_8, q_87_11, q_87_12, q_87_13_0, q_87_13_1, q_87_13_2, q_87_13_3, q_87_13_4, q_87_13_5, q_87_13_d, q_87_52, q_87_53, q_87_54, q_87_57, q_87_58, q_87_59, q_87_60, q_87_63, q_87_64, q_87_65, q_87_66, q_87_69, q_87_70, q_87_71, q_87_72, q_87_75, q_87_76, q_87_77, q_87_78, q_87_81, q_87_82, q_87_83, q_87_84, q_87_87, q_87_88, q_87_91, aft_i, aft_l, aft_v, Int.toNat_natCast, kd_sI, kd_sL, kd_sR, kd_cp, gI_sL, gI_sR, gL_sI, gL_sR, gR_sI, gR_sL, gL_cp, gR_cp, kd_aI, gL_aI, gR_aI, gI_aI, gI_aIn, sI_aI, gI_sIn, Int.reduceToNat, Int.reduceAdd, Int.reduceSub, Int.reduceMul, Int.reduceNeg, Int.zero_add, e, f]
        rfl
      by_cases k1 : k = 1
      · subst k1
        have f := wMk_church (d + 2) h L T N wT wN q j hj
        simp (disch := (first | omega | (simp only [kd_sI, kd_sL, kd_sR, kd_cp, kd_aI]; omega) | (unfold catV; exact rfl) | (unfold catS; exact Nat.le_of_ble_eq_true rfl) | assumption)) only [q_87_0, q_87_1, q_87_2, q_87_5_t, q_87_5_f, q_87_8, q_87_11, q_87_12, q_87_13_0, q_87_13_1, q_87_13_2, q_87_13_3, q_87_13_4, q_87_13_5, q_87_13_d, q_87_52, q_87_53, q_87_54, q_87_57, q_87_58, q_87_59, q_87_60, q_87_63, q_87_64, q_87_65, q_87_66, q_87_69, q_87_70, q_87_71, q_87_72, q_87_75, q_87_76, q_87_77, q_87_78, q_87_81, q_87_82, q_87_83, q_87_84, q_87_87, q_87_88, q_87_91, aft_i, aft_l, aft_v, Int.toNat_natCast, kd_sI, kd_sL, kd_sR, kd_cp, gI_sL, gI_sR, gL_sI, gL_sR, gR_sI, gR_sL, gL_cp, gR_cp, kd_aI, gL_aI, gR_aI, gI_aI, gI_aIn, sI_aI, gI_sIn, Int.reduceToNat, Int.reduceAdd, Int.reduceSub, Int.reduceMul, Int.reduceNeg, Int.zero_add, e, f]
        rfl
      by_cases k2 : k = 2
      · subst k2
        have f := wMk_baker (d + 1) h L T N wT wN q j hj
        simp (disch := (first | omega | (simp only [kd_sI, kd_sL, kd_sR, kd_cp, kd_aI]; omega) | (unfold catV; exact rfl) | (unfold catS; exact Nat.le_of_ble_eq_true rfl) | assumption)) only [q_87_0, q_87_1, q_87_2, q_87_5_t, q_87_5_f, q_87_8, q_87_11, q_87_12, q_87_13_0, q_87_13_1, q_87_13_2, q_87_13_3, q_87_13_4, q_87_13_5, q_87_13_d, q_87_52, q_87_53, q_87_54, q_87_57, q_87_58, q_87_59, q_87_60, q_87_63, q_87_64, q_87_65, q_87_66, q_87_69, q_87_70, q_87_71, q_87_72, q_87_75, q_87_76, q_87_77, q_87_78, q_87_81, q_87_82, q_87_83, q_87_84, q_87_87, q_87_88, q_87_91, aft_i, aft_l, aft_v, Int.toNat_natCast, kd_sI, kd_sL, kd_sR, kd_cp, gI_sL, gI_sR, gL_sI, gL_sR, gR_sI, gR_sL, gL_cp, gR_cp, kd_aI, gL_aI, gR_aI, gI_aI, gI_aIn, sI_aI, gI_sIn, Int.reduceToNat, Int.reduceAdd, Int.reduceSub, Int.reduceMul, Int.reduceNeg, Int.zero_add, e, f]
        rfl
      by_cases k3 : k = 3
      · subst k3
        have f := wMk_mill (d + 1) h L T N wT wN q j hj
        simp (disch := (first | omega | (simp only [kd_sI, kd_sL, kd_sR, kd_cp, kd_aI]; omega) | (unfold catV; exact rfl) | (unfold catS; exact Nat.le_of_ble_eq_true rfl) | assumption)) only [q_87_0, q_87_1, q_87_2, q_87_5_t, q_87_5_f, q_87_8, q_87_11, q_87_12, q_87_13_0, q_87_13_1, q_87_13_2, q_87_13_3, q_87_13_4, q_87_13_5, q_87_13_d, q_87_52, q_87_53, q_87_54, q_87_57, q_87_58, q_87_59, q_87_60, q_87_63, q_87_64, q_87_65, q_87_66, q_87_69, q_87_70, q_87_71, q_87_72, q_87_75, q_87_76, q_87_77, q_87_78, q_87_81, q_87_82, q_87_83, q_87_84, q_87_87, q_87_88, q_87_91, aft_i, aft_l, aft_v, Int.toNat_natCast, kd_sI, kd_sL, kd_sR, kd_cp, gI_sL, gI_sR, gL_sI, gL_sR, gR_sI, gR_sL, gL_cp, gR_cp, kd_aI, gL_aI, gR_aI, gI_aI, gI_aIn, sI_aI, gI_sIn, Int.reduceToNat, Int.reduceAdd, Int.reduceSub, Int.reduceMul, Int.reduceNeg, Int.zero_add, e, f]
        rfl
      by_cases k4 : k = 4
      · subst k4
        have f := wMk_dyer d h L T N wT wN q j hj
        simp (disch := (first | omega | (simp only [kd_sI, kd_sL, kd_sR, kd_cp, kd_aI]; omega) | (unfold catV; exact rfl) | (unfold catS; exact Nat.le_of_ble_eq_true rfl) | assumption)) only [q_87_0, q_87_1, q_87_2, q_87_5_t, q_87_5_f, q_87_8, q_87_11, q_87_12, q_87_13_0, q_87_13_1, q_87_13_2, q_87_13_3, q_87_13_4, q_87_13_5, q_87_13_d, q_87_52, q_87_53, q_87_54, q_87_57, q_87_58, q_87_59, q_87_60, q_87_63, q_87_64, q_87_65, q_87_66, q_87_69, q_87_70, q_87_71, q_87_72, q_87_75, q_87_76, q_87_77, q_87_78, q_87_81, q_87_82, q_87_83, q_87_84, q_87_87, q_87_88, q_87_91, aft_i, aft_l, aft_v, Int.toNat_natCast, kd_sI, kd_sL, kd_sR, kd_cp, gI_sL, gI_sR, gL_sI, gL_sR, gR_sI, gR_sL, gL_cp, gR_cp, kd_aI, gL_aI, gR_aI, gI_aI, gI_aIn, sI_aI, gI_sIn, Int.reduceToNat, Int.reduceAdd, Int.reduceSub, Int.reduceMul, Int.reduceNeg, Int.zero_add, e, f]
        rfl
      · have k5 : k = 5 := by omega
        subst k5
        have f := wMk_guest (d + 2) h L T N wT wN q j hj
        simp (disch := (first | omega | (simp only [kd_sI, kd_sL, kd_sR, kd_cp, kd_aI]; omega) | (unfold catV; exact rfl) | (unfold catS; exact Nat.le_of_ble_eq_true rfl) | assumption)) only [q_87_0, q_87_1, q_87_2, q_87_5_t, q_87_5_f, q_87_8, q_87_11, q_87_12, q_87_13_0, q_87_13_1, q_87_13_2, q_87_13_3, q_87_13_4, q_87_13_5, q_87_13_d, q_87_52, q_87_53, q_87_54, q_87_57, q_87_58, q_87_59, q_87_60, q_87_63, q_87_64, q_87_65, q_87_66, q_87_69, q_87_70, q_87_71, q_87_72, q_87_75, q_87_76, q_87_77, q_87_78, q_87_81, q_87_82, q_87_83, q_87_84, q_87_87, q_87_88, q_87_91, aft_i, aft_l, aft_v, Int.toNat_natCast, kd_sI, kd_sL, kd_sR, kd_cp, gI_sL, gI_sR, gL_sI, gL_sR, gR_sI, gR_sL, gL_cp, gR_cp, kd_aI, gL_aI, gR_aI, gI_aI, gI_aIn, sI_aI, gI_sIn, Int.reduceToNat, Int.reduceAdd, Int.reduceSub, Int.reduceMul, Int.reduceNeg, Int.zero_add, e, f]
        rfl
    · rw [if_neg (fun x => y x.1)]
      have y2 : k < 0 ∨ 5 < k := by omega
      show _ = some (some (Sum.inl (-1000000)), sL h 0 14 (gL h 0 14))
      rw [same]
      simp (disch := (first | omega | (simp only [kd_sI, kd_sL, kd_sR, kd_cp, kd_aI]; omega) | (unfold catV; exact rfl) | (unfold catS; exact Nat.le_of_ble_eq_true rfl) | assumption)) only [q_87_0, q_87_1, q_87_2, q_87_5_t, q_87_5_f, q_87_8, q_87_11, q_87_12, q_87_13_0, q_87_13_1, q_87_13_2, q_87_13_3, q_87_13_4, q_87_13_5, q_87_13_d, q_87_52, q_87_53, q_87_54, q_87_57, q_87_58, q_87_59, q_87_60, q_87_63, q_87_64, q_87_65, q_87_66, q_87_69, q_87_70, q_87_71, q_87_72, q_87_75, q_87_76, q_87_77, q_87_78, q_87_81, q_87_82, q_87_83, q_87_84, q_87_87, q_87_88, q_87_91, aft_i, aft_l, aft_v, Int.toNat_natCast, kd_sI, kd_sL, kd_sR, kd_cp, gI_sL, gI_sR, gL_sI, gL_sR, gR_sI, gR_sL, gL_cp, gR_cp, kd_aI, gL_aI, gR_aI, gI_aI, gI_aIn, sI_aI, gI_sIn, Int.reduceToNat, Int.reduceAdd, Int.reduceSub, Int.reduceMul, Int.reduceNeg, Int.zero_add, e]
  · rw [if_neg z] at e
    rw [if_neg (fun x => z x.2)]
    show _ = some (some (Sum.inl (-1000000)), sL h 0 14 (gL h 0 14))
    rw [same]
    simp (disch := (first | omega | (simp only [kd_sI, kd_sL, kd_sR, kd_cp, kd_aI]; omega) | (unfold catV; exact rfl) | (unfold catS; exact Nat.le_of_ble_eq_true rfl) | assumption)) only [q_87_0, q_87_1, q_87_2, q_87_5_t, q_87_5_f, q_87_8, q_87_11, q_87_12, q_87_13_0, q_87_13_1, q_87_13_2, q_87_13_3, q_87_13_4, q_87_13_5, q_87_13_d, q_87_52, q_87_53, q_87_54, q_87_57, q_87_58, q_87_59, q_87_60, q_87_63, q_87_64, q_87_65, q_87_66, q_87_69, q_87_70, q_87_71, q_87_72, q_87_75, q_87_76, q_87_77, q_87_78, q_87_81, q_87_82, q_87_83, q_87_84, q_87_87, q_87_88, q_87_91, aft_i, aft_l, aft_v, Int.toNat_natCast, kd_sI, kd_sL, kd_sR, kd_cp, gI_sL, gI_sR, gL_sI, gL_sR, gR_sI, gR_sL, gL_cp, gR_cp, kd_aI, gL_aI, gR_aI, gI_aI, gI_aIn, sI_aI, gI_sIn, Int.reduceToNat, Int.reduceAdd, Int.reduceSub, Int.reduceMul, Int.reduceNeg, Int.zero_add, e]
