def outN (T : Td) (N : Nt) : Int := sumI (fun i => if fcS T N (nR N i) = -9 then 1 else 0) (nM N)
def nearS (T : Td) (N : Nt) : Int := nearN (fcS T N) (nX N) (tF T) (tA T) (nL N) (nR N) (nM N)
def lastS (T : Td) (N : Nt) : Int := mxI (fun i => lstV (fcS T N) (nX N) (nL N) (nR N i)) (nM N)
def leastS (N : Nt) : Int := sumI (fun i => (nX N (nR N i) : Int)) (nM N)
def nowS (T : Td) (N : Nt) (w : Int) : Int := if w = 0 then nM N else if w = 1 then outN T N else if w = 2 then brkN T N else if w = 3 then nearS T N else if w = 4 then hilN T N else if w = 5 then lastS T N else if w = 6 then leastS N else if w = 7 then nL N else -1
theorem nearN_congr {F G : Nat → Int} {ax fe rw_ : Nat → Nat} {apart : Int} {late n : Nat} (h : ∀ i, i < n → F (rw_ i) = G (rw_ i)) : nearN F ax fe apart late rw_ n = nearN G ax fe apart late rw_ n := by
  unfold nearN
  refine sumI_congr fun i hi => sumI_congr fun j hj => ?_
  unfold nearV
  rw [h i hi, h j (by omega)]
theorem mNow_ok (d : Nat) (h : mH) (L : LAY h) (T : Td) (N : Nt) (wT : wfT T) (wN : wfN T N) (t : mT h T) (u : mNow h T N) (w : Int) : ∃ g, callA (d + 5) 168 [Sum.inr (Sum.inr (some 141)), Sum.inl w] h = some (some (Sum.inl (nowS T N w)), g) ∧ scr h g := by
  obtain ⟨g, eg, sg, su⟩ := mSun_ok (d + 1) h L T N wT wN t u
  have Lg := scr_L sg L
  have ug := scr_mN sg u
  have tg := scr_mT sg t
  have n7 : nM N ≤ 7 := Nat.le_trans wN.1 wT.1
  have hF := suOK_F wT wN su
  have X := axF_of wN ug
  have hfe : ∀ i, i < nM N → gI g 146 (nR N i) = (tF T (nR N i) : Int) ∧ tF T (nR N i) < 128 := fun i hi => ⟨(tg.2.2.2.2.1 _ (wN.2.1 i hi)).2, wT.2.2.2.2.2.1 _ (wN.2.1 i hi)⟩
  obtain ⟨k141, j141⟩ := lay_k L (a := 141) (t := 8) (n := 26) rfl; obtain ⟨k150, j150⟩ := lay_k L (a := 150) (t := 100) (n := 1851) rfl; have r141_16 : gR h 141 16 = some 150 := lay_r L rfl
  obtain ⟨m1, m2⟩ := lay_k Lg (a := 141) (t := 8) (n := 26) rfl
  obtain ⟨m3, m4⟩ := lay_k Lg (a := 150) (t := 100) (n := 1851) rfl
  have rr := lay_r Lg (q := 141) (k := 16) (b := 150) rfl
  have u7 := ug.1
  have u8 := ug.2.2.1
  unfold nowS
  rw [en_168]
  by_cases w0 : w = 0
  · subst w0
    refine ⟨g, ?_, sg⟩
    simp (disch := (first | omega | (simp only [kd_sI, kd_sL, kd_sR, kd_cp, kd_aI]; omega) | (unfold catV; exact rfl) | (unfold catS; exact Nat.le_of_ble_eq_true rfl) | assumption)) only [q_168_0, q_168_1, q_168_4, q_168_5_0, q_168_5_1, q_168_5_2, q_168_5_3, q_168_5_4, q_168_5_5, q_168_5_6, q_168_5_7, q_168_5_d, q_168_52, q_168_53, q_168_56, q_168_58, q_168_59, q_168_60, q_168_61, q_168_64, q_168_65, q_168_66, q_168_69, q_168_70, q_168_71, q_168_72, q_168_75, q_168_77, q_168_78, q_168_81, q_168_82, q_168_83, q_168_86, q_168_87, q_168_88, q_168_89, q_168_92, q_168_94, q_168_95, q_168_98, q_168_99, q_168_100, q_168_103, q_168_104, q_168_105, q_168_108, q_168_110, q_168_111, q_168_112, q_168_113, aft_i, aft_l, aft_v, Int.toNat_natCast, kd_sI, kd_sL, kd_sR, kd_cp, gI_sL, gI_sR, gL_sI, gL_sR, gR_sI, gR_sL, gL_cp, gR_cp, kd_aI, gL_aI, gR_aI, gI_aI, gI_aIn, sI_aI, gI_sIn, Int.reduceToNat, Int.reduceAdd, Int.reduceSub, Int.reduceMul, Int.reduceNeg, Int.zero_add, eg, rr, u7]
    rfl
  by_cases w1 : w = 1
  · subst w1
    refine ⟨g, ?_, sg⟩
    have e := outs_ok (d + 3) g Lg (nM N) (nR N) su.1
    rw [show sumI (fun i => if gI g 154 (nR N i) = -9 then 1 else 0) (nM N) = outN T N from sumI_congr (fun i hi => by rw [su.2.2 i hi])] at e
    simp (disch := (first | omega | (simp only [kd_sI, kd_sL, kd_sR, kd_cp, kd_aI]; omega) | (unfold catV; exact rfl) | (unfold catS; exact Nat.le_of_ble_eq_true rfl) | assumption)) only [q_168_0, q_168_1, q_168_4, q_168_5_0, q_168_5_1, q_168_5_2, q_168_5_3, q_168_5_4, q_168_5_5, q_168_5_6, q_168_5_7, q_168_5_d, q_168_52, q_168_53, q_168_56, q_168_58, q_168_59, q_168_60, q_168_61, q_168_64, q_168_65, q_168_66, q_168_69, q_168_70, q_168_71, q_168_72, q_168_75, q_168_77, q_168_78, q_168_81, q_168_82, q_168_83, q_168_86, q_168_87, q_168_88, q_168_89, q_168_92, q_168_94, q_168_95, q_168_98, q_168_99, q_168_100, q_168_103, q_168_104, q_168_105, q_168_108, q_168_110, q_168_111, q_168_112, q_168_113, aft_i, aft_l, aft_v, Int.toNat_natCast, kd_sI, kd_sL, kd_sR, kd_cp, gI_sL, gI_sR, gL_sI, gL_sR, gR_sI, gR_sL, gL_cp, gR_cp, kd_aI, gL_aI, gR_aI, gI_aI, gI_aIn, sI_aI, gI_sIn, Int.reduceToNat, Int.reduceAdd, Int.reduceSub, Int.reduceMul, Int.reduceNeg, Int.zero_add, eg, e]
    rfl
  by_cases w2 : w = 2
  · subst w2
    obtain ⟨g2, e2, s2, -⟩ := mBrk_ok d g Lg T N wT wN tg ug
    refine ⟨g2, ?_, scr_tr sg s2⟩
    simp (disch := (first | omega | (simp only [kd_sI, kd_sL, kd_sR, kd_cp, kd_aI]; omega) | (unfold catV; exact rfl) | (unfold catS; exact Nat.le_of_ble_eq_true rfl) | assumption)) only [q_168_0, q_168_1, q_168_4, q_168_5_0, q_168_5_1, q_168_5_2, q_168_5_3, q_168_5_4, q_168_5_5, q_168_5_6, q_168_5_7, q_168_5_d, q_168_52, q_168_53, q_168_56, q_168_58, q_168_59, q_168_60, q_168_61, q_168_64, q_168_65, q_168_66, q_168_69, q_168_70, q_168_71, q_168_72, q_168_75, q_168_77, q_168_78, q_168_81, q_168_82, q_168_83, q_168_86, q_168_87, q_168_88, q_168_89, q_168_92, q_168_94, q_168_95, q_168_98, q_168_99, q_168_100, q_168_103, q_168_104, q_168_105, q_168_108, q_168_110, q_168_111, q_168_112, q_168_113, aft_i, aft_l, aft_v, Int.toNat_natCast, kd_sI, kd_sL, kd_sR, kd_cp, gI_sL, gI_sR, gL_sI, gL_sR, gR_sI, gR_sL, gL_cp, gR_cp, kd_aI, gL_aI, gR_aI, gI_aI, gI_aIn, sI_aI, gI_sIn, Int.reduceToNat, Int.reduceAdd, Int.reduceSub, Int.reduceMul, Int.reduceNeg, Int.zero_add, eg, e2]
    rfl
  by_cases w3 : w = 3
  · subst w3
    refine ⟨g, ?_, sg⟩
    have e := nearOf_ok (d + 2) g Lg (nM N) (nL N) (nR N) (nX N) (tF T) (tA T) su.1 X hF wN.2.2.2.2.1 hfe tg.2.2.1
    rw [show nearN (gI g 154) (nX N) (tF T) (tA T) (nL N) (nR N) (nM N) = nearS T N from nearN_congr (fun i hi => su.2.2 i hi)] at e
    simp (disch := (first | omega | (simp only [kd_sI, kd_sL, kd_sR, kd_cp, kd_aI]; omega) | (unfold catV; exact rfl) | (unfold catS; exact Nat.le_of_ble_eq_true rfl) | assumption)) only [q_168_0, q_168_1, q_168_4, q_168_5_0, q_168_5_1, q_168_5_2, q_168_5_3, q_168_5_4, q_168_5_5, q_168_5_6, q_168_5_7, q_168_5_d, q_168_52, q_168_53, q_168_56, q_168_58, q_168_59, q_168_60, q_168_61, q_168_64, q_168_65, q_168_66, q_168_69, q_168_70, q_168_71, q_168_72, q_168_75, q_168_77, q_168_78, q_168_81, q_168_82, q_168_83, q_168_86, q_168_87, q_168_88, q_168_89, q_168_92, q_168_94, q_168_95, q_168_98, q_168_99, q_168_100, q_168_103, q_168_104, q_168_105, q_168_108, q_168_110, q_168_111, q_168_112, q_168_113, aft_i, aft_l, aft_v, Int.toNat_natCast, kd_sI, kd_sL, kd_sR, kd_cp, gI_sL, gI_sR, gL_sI, gL_sR, gR_sI, gR_sL, gL_cp, gR_cp, kd_aI, gL_aI, gR_aI, gI_aI, gI_aIn, sI_aI, gI_sIn, Int.reduceToNat, Int.reduceAdd, Int.reduceSub, Int.reduceMul, Int.reduceNeg, Int.zero_add, eg, rr, u8, e]
    rfl
  by_cases w4 : w = 4
  · subst w4
    obtain ⟨g2, e2, s2, -⟩ := mHil_ok d g Lg T N wT wN tg ug
    refine ⟨g2, ?_, scr_tr sg s2⟩
    simp (disch := (first | omega | (simp only [kd_sI, kd_sL, kd_sR, kd_cp, kd_aI]; omega) | (unfold catV; exact rfl) | (unfold catS; exact Nat.le_of_ble_eq_true rfl) | assumption)) only [q_168_0, q_168_1, q_168_4, q_168_5_0, q_168_5_1, q_168_5_2, q_168_5_3, q_168_5_4, q_168_5_5, q_168_5_6, q_168_5_7, q_168_5_d, q_168_52, q_168_53, q_168_56, q_168_58, q_168_59, q_168_60, q_168_61, q_168_64, q_168_65, q_168_66, q_168_69, q_168_70, q_168_71, q_168_72, q_168_75, q_168_77, q_168_78, q_168_81, q_168_82, q_168_83, q_168_86, q_168_87, q_168_88, q_168_89, q_168_92, q_168_94, q_168_95, q_168_98, q_168_99, q_168_100, q_168_103, q_168_104, q_168_105, q_168_108, q_168_110, q_168_111, q_168_112, q_168_113, aft_i, aft_l, aft_v, Int.toNat_natCast, kd_sI, kd_sL, kd_sR, kd_cp, gI_sL, gI_sR, gL_sI, gL_sR, gR_sI, gR_sL, gL_cp, gR_cp, kd_aI, gL_aI, gR_aI, gI_aI, gI_aIn, sI_aI, gI_sIn, Int.reduceToNat, Int.reduceAdd, Int.reduceSub, Int.reduceMul, Int.reduceNeg, Int.zero_add, eg, e2]
    rfl
  by_cases w5 : w = 5
  · subst w5
    refine ⟨g, ?_, sg⟩
    have e := lastOf_ok (d + 3) g Lg (nM N) (nL N) (nR N) (nX N) su.1 X hF wN.2.2.2.2.1
    rw [show mxI (fun i => lstV (gI g 154) (nX N) (nL N) (nR N i)) (nM N) = lastS T N from mxI_congr (fun i hi => by unfold lstV; rw [su.2.2 i hi])] at e
    simp (disch := (first | omega | (simp only [kd_sI, kd_sL, kd_sR, kd_cp, kd_aI]; omega) | (unfold catV; exact rfl) | (unfold catS; exact Nat.le_of_ble_eq_true rfl) | assumption)) only [q_168_0, q_168_1, q_168_4, q_168_5_0, q_168_5_1, q_168_5_2, q_168_5_3, q_168_5_4, q_168_5_5, q_168_5_6, q_168_5_7, q_168_5_d, q_168_52, q_168_53, q_168_56, q_168_58, q_168_59, q_168_60, q_168_61, q_168_64, q_168_65, q_168_66, q_168_69, q_168_70, q_168_71, q_168_72, q_168_75, q_168_77, q_168_78, q_168_81, q_168_82, q_168_83, q_168_86, q_168_87, q_168_88, q_168_89, q_168_92, q_168_94, q_168_95, q_168_98, q_168_99, q_168_100, q_168_103, q_168_104, q_168_105, q_168_108, q_168_110, q_168_111, q_168_112, q_168_113, aft_i, aft_l, aft_v, Int.toNat_natCast, kd_sI, kd_sL, kd_sR, kd_cp, gI_sL, gI_sR, gL_sI, gL_sR, gR_sI, gR_sL, gL_cp, gR_cp, kd_aI, gL_aI, gR_aI, gI_aI, gI_aIn, sI_aI, gI_sIn, Int.reduceToNat, Int.reduceAdd, Int.reduceSub, Int.reduceMul, Int.reduceNeg, Int.zero_add, eg, rr, u8, e]
    rfl
  by_cases w6 : w = 6
  · subst w6
    refine ⟨g, ?_, sg⟩
    have e := mLeast_ok (d + 3) g Lg (nM N) (nR N) (nX N) ug.1 n7 (fun i hi => ⟨ug.2.1 i hi, Nat.lt_of_lt_of_le (wN.2.1 i hi) wT.1⟩) X
    simp (disch := (first | omega | (simp only [kd_sI, kd_sL, kd_sR, kd_cp, kd_aI]; omega) | (unfold catV; exact rfl) | (unfold catS; exact Nat.le_of_ble_eq_true rfl) | assumption)) only [q_168_0, q_168_1, q_168_4, q_168_5_0, q_168_5_1, q_168_5_2, q_168_5_3, q_168_5_4, q_168_5_5, q_168_5_6, q_168_5_7, q_168_5_d, q_168_52, q_168_53, q_168_56, q_168_58, q_168_59, q_168_60, q_168_61, q_168_64, q_168_65, q_168_66, q_168_69, q_168_70, q_168_71, q_168_72, q_168_75, q_168_77, q_168_78, q_168_81, q_168_82, q_168_83, q_168_86, q_168_87, q_168_88, q_168_89, q_168_92, q_168_94, q_168_95, q_168_98, q_168_99, q_168_100, q_168_103, q_168_104, q_168_105, q_168_108, q_168_110, q_168_111, q_168_112, q_168_113, aft_i, aft_l, aft_v, Int.toNat_natCast, kd_sI, kd_sL, kd_sR, kd_cp, gI_sL, gI_sR, gL_sI, gL_sR, gR_sI, gR_sL, gL_cp, gR_cp, kd_aI, gL_aI, gR_aI, gI_aI, gI_aIn, sI_aI, gI_sIn, Int.reduceToNat, Int.reduceAdd, Int.reduceSub, Int.reduceMul, Int.reduceNeg, Int.zero_add, eg, e]
    rfl
  by_cases w7 : w = 7
  · subst w7
    refine ⟨g, ?_, sg⟩
    simp (disch := (first | omega | (simp only [kd_sI, kd_sL, kd_sR, kd_cp, kd_aI]; omega) | (unfold catV; exact rfl) | (unfold catS; exact Nat.le_of_ble_eq_true rfl) | assumption)) only [q_168_0, q_168_1, q_168_4, q_168_5_0, q_168_5_1, q_168_5_2, q_168_5_3, q_168_5_4, q_168_5_5, q_168_5_6, q_168_5_7, q_168_5_d, q_168_52, q_168_53, q_168_56, q_168_58, q_168_59, q_168_60, q_168_61, q_168_64, q_168_65, q_168_66, q_168_69, q_168_70, q_168_71, q_168_72, q_168_75, q_168_77, q_168_78, q_168_81, q_168_82, q_168_83, q_168_86, q_168_87, q_168_88, q_168_89, q_168_92, q_168_94, q_168_95, q_168_98, q_168_99, q_168_100, q_168_103, q_168_104, q_168_105, q_168_108, q_168_110, q_168_111, q_168_112, q_168_113, aft_i, aft_l, aft_v, Int.toNat_natCast, kd_sI, kd_sL, kd_sR, kd_cp, gI_sL, gI_sR, gL_sI, gL_sR, gR_sI, gR_sL, gL_cp, gR_cp, kd_aI, gL_aI, gR_aI, gI_aI, gI_aIn, sI_aI, gI_sIn, Int.reduceToNat, Int.reduceAdd, Int.reduceSub, Int.reduceMul, Int.reduceNeg, Int.zero_add, eg, rr, u8]
    rfl
  · rw [if_neg w0, if_neg w1, if_neg w2, if_neg w3, if_neg w4, if_neg w5, if_neg w6, if_neg w7]
    refine ⟨g, ?_, sg⟩
    simp (disch := (first | omega | (simp only [kd_sI, kd_sL, kd_sR, kd_cp, kd_aI]; omega) | (unfold catV; exact rfl) | (unfold catS; exact Nat.le_of_ble_eq_true rfl) | assumption)) only [q_168_0, q_168_1, q_168_4, q_168_5_0, q_168_5_1, q_168_5_2, q_168_5_3, q_168_5_4, q_168_5_5, q_168_5_6, q_168_5_7, q_168_5_d, q_168_52, q_168_53, q_168_56, q_168_58, q_168_59, q_168_60, q_168_61, q_168_64, q_168_65, q_168_66, q_168_69, q_168_70, q_168_71, q_168_72, q_168_75, q_168_77, q_168_78, q_168_81, q_168_82, q_168_83, q_168_86, q_168_87, q_168_88, q_168_89, q_168_92, q_168_94, q_168_95, q_168_98, q_168_99, q_168_100, q_168_103, q_168_104, q_168_105, q_168_108, q_168_110, q_168_111, q_168_112, q_168_113, aft_i, aft_l, aft_v, Int.toNat_natCast, kd_sI, kd_sL, kd_sR, kd_cp, gI_sL, gI_sR, gL_sI, gL_sR, gR_sI, gR_sL, gL_cp, gR_cp, kd_aI, gL_aI, gR_aI, gI_aI, gI_aIn, sI_aI, gI_sIn, Int.reduceToNat, Int.reduceAdd, Int.reduceSub, Int.reduceMul, Int.reduceNeg, Int.zero_add, eg]
