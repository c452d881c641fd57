/-- the ground with three cells bridged -/
def lnB (T : Td) (N : Nt) (a b c : Nat) (k : Nat) : Int := if k = a ∨ k = b ∨ k = c then 0 else lnd T N k
def outB (T : Td) (N : Nt) (a b c : Nat) : Int := sumI (fun i => if fiF (lnB T N a b c) (tK T) (nX N) (nR N) (fun _ => -9) (nM N) (nR N i) = -9 then 1 else 0) (nM N)
theorem sumI_congr2 {f g : Nat → Int} : ∀ {n : Nat}, (∀ i, i < n → f i = g i) → sumI f n = sumI g n
  | 0, _ => rfl
  | n + 1, h => by unfold sumI; rw [sumI_congr2 (n := n) (fun i hi => h i (by omega)), h n (by omega)]
theorem mDone_ok (d : Nat) (h : mH) (L0 : LAY h) (T : Td) (N : Nt) (wT : wfT T) (wN : wfN T N) (t : mT h T) (u : mNow h T N) (R : rowF h (nM N) (nR N)) (a b c : Nat) (ha : a < tK T) (hb : b < tK T) (hc : c < tK T) : ∃ g, callA (d + 3) 177 [Sum.inr (Sum.inr (some 141)), Sum.inl (a : Int), Sum.inl (b : Int), Sum.inl (c : Int)] h = some (some (Sum.inl (bI (decide (outB T N a b c = 0)))), g) ∧ scr h g ∧ rowF g (nM N) (nR N) := by
  have k4 := wT.2.1
  have e1 := mLand_ok (d + 1) h L0
  generalize eg1 : aI h 153 (mixI 40 (fun j => gI h 150 (16 + j)) (gI h 153)) = g1 at e1
  have s1 : scr h g1 := by rw [← eg1]; exact scr_aI (by omega)
  generalize eg2 : sI (sI (sI g1 153 a 0) 153 b 0) 153 c 0 = g2
  have s2 : scr h g2 := by
    rw [← eg2, sI_is g1, sI_aI, sI_aI]
    exact scr_tr s1 (scr_aI (by omega))
  have L1 := scr_L s1 L0
  have L2 := scr_L s2 L0
  have u2 := scr_mN s2 u
  have t2 := scr_mT s2 t
  have R2 : rowF g2 (nM N) (nR N) := by
    obtain ⟨r1, r2, r3⟩ := R
    refine ⟨?_, r2, fun i hi => ?_⟩
    · rw [← eg2, gI_sIn (by omega), gI_sIn (by omega), gI_sIn (by omega), ← eg1, gI_aIn (by omega)]; exact r1
    · rw [← eg2, gI_sIn (by omega), gI_sIn (by omega), gI_sIn (by omega), ← eg1, gI_aIn (by omega)]; exact r3 i hi
  have l2 : ∀ k, k < tK T → gI g2 153 k = lnB T N a b c k := fun k hk => by
    have := u.2.2.2.2 k hk
    unfold lnB
    rw [← eg2, gI_sI, gI_sI, gI_sI]
    by_cases z : k = a ∨ k = b ∨ k = c
    · rw [if_pos z]
      by_cases zc : k = c
      · rw [if_pos ⟨rfl, zc⟩]
      · rw [if_neg (fun y => zc y.2)]
        by_cases zb : k = b
        · rw [if_pos ⟨rfl, zb⟩]
        · rw [if_neg (fun y => zb y.2), if_pos ⟨rfl, by omega⟩]
    · rw [if_neg z, if_neg (by omega), if_neg (by omega), if_neg (by omega), ← eg1, gI_aI, mixI_in (by omega)]
      exact this
  have e3 := mSetUp_ok d g2 L2 (tK T) (nM N) (nX N) (nR N) t2.2.1 wT.2.1 R2.1 R2.2.1 R2.2.2 (axF_of wN u2)
  generalize eg3 : aI g2 154 (fiF (gI g2 153) (tK T) (nX N) (nR N) (gI g2 154) (nM N)) = g3 at e3
  have s3 : scr g2 g3 := by rw [← eg3]; exact scr_aI (by omega)
  have R3 : rowF g3 (nM N) (nR N) := by
    rw [← eg3]
    refine ⟨?_, R2.2.1, fun i hi => ?_⟩
    · rw [gI_aIn (by omega)]; exact R2.1
    · rw [gI_aIn (by omega)]; exact R2.2.2 i hi
  have L3 := scr_L s3 L2
  have e4 := outs_ok (d + 1) g3 L3 (nM N) (nR N) R3
  have eo : sumI (fun i => if gI g3 154 (nR N i) = -9 then 1 else 0) (nM N) = outB T N a b c := by
    unfold outB
    refine sumI_congr2 (fun i hi => ?_)
    rw [← eg3, gI_aI, fiF_in wN.2.2.1 i hi, fiF_in wN.2.2.1 i hi]
    rw [suP_congr (l2 := lnB T N a b c) l2 (fun _ _ => ⟨rfl, rfl⟩)]
  rw [eo] at e4
  refine ⟨g3, ?_, scr_tr s2 s3, R3⟩
  obtain ⟨k141, j141⟩ := lay_k L0 (a := 141) (t := 8) (n := 26) rfl
  obtain ⟨m1, m2⟩ := lay_k L1 (a := 141) (t := 8) (n := 26) rfl
  obtain ⟨m3, m4⟩ := lay_k L1 (a := 153) (t := 100) (n := 40) rfl
  have r20 : gR g1 141 20 = some 153 := lay_r L1 rfl
  obtain ⟨m5, m6⟩ := lay_k L2 (a := 141) (t := 8) (n := 26) rfl
  obtain ⟨m7, m8⟩ := lay_k L3 (a := 141) (t := 8) (n := 26) rfl
  rw [en_177]
  by_cases z : outB T N a b c = 0
  · rw [decide_eq_true z]
    simp (disch := (first | omega | (simp only [kd_sI, kd_sL, kd_sR, kd_cp, kd_aI]; omega) | (unfold catV; exact rfl) | (unfold catS; exact Nat.le_of_ble_eq_true rfl) | assumption)) only [q_177_0, q_177_1, q_177_4, q_177_5, q_177_8, q_177_9, q_177_10, q_177_11, q_177_12, q_177_15, q_177_16, q_177_17, q_177_18, q_177_19, q_177_22, q_177_23, q_177_24, q_177_25, q_177_26, q_177_29, q_177_30, q_177_33_t, q_177_33_f, q_177_36, q_177_37, q_177_40, q_177_41, aft_i, aft_l, aft_v, Int.toNat_natCast, kd_sI, kd_sL, kd_sR, kd_cp, gI_sL, gI_sR, gL_sI, gL_sR, gR_sI, gR_sL, gL_cp, gR_cp, kd_aI, gL_aI, gR_aI, gI_aI, gI_aIn, sI_aI, gI_sIn, Int.reduceToNat, Int.reduceAdd, Int.reduceSub, Int.reduceMul, Int.reduceNeg, Int.zero_add, e1, r20, eg2, e3, e4, z]
    rfl
  · rw [decide_eq_false z]
    simp (disch := (first | omega | (simp only [kd_sI, kd_sL, kd_sR, kd_cp, kd_aI]; omega) | (unfold catV; exact rfl) | (unfold catS; exact Nat.le_of_ble_eq_true rfl) | assumption)) only [q_177_0, q_177_1, q_177_4, q_177_5, q_177_8, q_177_9, q_177_10, q_177_11, q_177_12, q_177_15, q_177_16, q_177_17, q_177_18, q_177_19, q_177_22, q_177_23, q_177_24, q_177_25, q_177_26, q_177_29, q_177_30, q_177_33_t, q_177_33_f, q_177_36, q_177_37, q_177_40, q_177_41, aft_i, aft_l, aft_v, Int.toNat_natCast, kd_sI, kd_sL, kd_sR, kd_cp, gI_sL, gI_sR, gL_sI, gL_sR, gR_sI, gR_sL, gL_cp, gR_cp, kd_aI, gL_aI, gR_aI, gI_aI, gI_aIn, sI_aI, gI_sIn, Int.reduceToNat, Int.reduceAdd, Int.reduceSub, Int.reduceMul, Int.reduceNeg, Int.zero_add, e1, r20, eg2, e3, e4, z]
    rfl
