def orderS (N : Nt) (i : Int) : Int := if 0 ≤ i ∧ i < nM N then nR N i.toNat else -1
theorem mOrder_ok (d : Nat) (h : mH) (L : LAY h) (T : Td) (N : Nt) (wT : wfT T) (wN : wfN T N) (u : mNow h T N) (i : Int) : callA (d + 2) 169 [Sum.inr (Sum.inr (some 141)), Sum.inl i] h = some (some (Sum.inl (orderS N i)), h) := by
  have n7 : nM N ≤ 7 := Nat.le_trans wN.1 wT.1
  have u7 := u.1
  obtain ⟨k141, j141⟩ := lay_k L (a := 141) (t := 8) (n := 26) rfl; obtain ⟨k150, j150⟩ := lay_k L (a := 150) (t := 100) (n := 1851) rfl; have r141_16 : gR h 141 16 = some 150 := lay_r L rfl
  unfold orderS
  rw [en_169]
  by_cases q : 0 ≤ i ∧ i < nM N
  · rw [if_pos q]
    obtain ⟨j, rfl⟩ : ∃ j : Nat, i = j := ⟨i.toNat, by omega⟩
    have u2 := u.2.1 j (by omega)
    have e := in_t d h j 0 ((nM N : Int) - 1) (by omega)
    simp (disch := (first | omega | (simp only [kd_sI, kd_sL, kd_sR, kd_cp, kd_aI]; omega) | (unfold catV; exact rfl) | (unfold catS; exact Nat.le_of_ble_eq_true rfl) | assumption)) only [q_169_0, q_169_1, q_169_2, q_169_3, q_169_6, q_169_8, q_169_9, q_169_10, q_169_11, q_169_14_t, q_169_14_f, q_169_17, q_169_18, q_169_21, q_169_22, q_169_23, q_169_24, q_169_25, q_169_28, q_169_29, aft_i, aft_l, aft_v, Int.toNat_natCast, kd_sI, kd_sL, kd_sR, kd_cp, gI_sL, gI_sR, gL_sI, gL_sR, gR_sI, gR_sL, gL_cp, gR_cp, kd_aI, gL_aI, gR_aI, gI_aI, gI_aIn, sI_aI, gI_sIn, Int.reduceToNat, Int.reduceAdd, Int.reduceSub, Int.reduceMul, Int.reduceNeg, Int.zero_add, r141_16, u7, e, u2]
  · rw [if_neg q]
    have e := in_f d h i 0 ((nM N : Int) - 1) (by omega)
    simp (disch := (first | omega | (simp only [kd_sI, kd_sL, kd_sR, kd_cp, kd_aI]; omega) | (unfold catV; exact rfl) | (unfold catS; exact Nat.le_of_ble_eq_true rfl) | assumption)) only [q_169_0, q_169_1, q_169_2, q_169_3, q_169_6, q_169_8, q_169_9, q_169_10, q_169_11, q_169_14_t, q_169_14_f, q_169_17, q_169_18, q_169_21, q_169_22, q_169_23, q_169_24, q_169_25, q_169_28, q_169_29, aft_i, aft_l, aft_v, Int.toNat_natCast, kd_sI, kd_sL, kd_sR, kd_cp, gI_sL, gI_sR, gL_sI, gL_sR, gR_sI, gR_sL, gL_cp, gR_cp, kd_aI, gL_aI, gR_aI, gI_aI, gI_aIn, sI_aI, gI_sIn, Int.reduceToNat, Int.reduceAdd, Int.reduceSub, Int.reduceMul, Int.reduceNeg, Int.zero_add, r141_16, u7, e]
theorem mStand_ok (d : Nat) (h : mH) (L : LAY h) (T : Td) (N : Nt) (wT : wfT T) (wN : wfN T N) (t : mT h T) (u : mNow h T N) (c : Nat) (hc : c < tN T) : ∃ g, callA (d + 5) 170 [Sum.inr (Sum.inr (some 141)), Sum.inl (c : Int)] h = some (some (Sum.inl (if cellS T N c = -9 then 0 else 1)), g) ∧ scr h g ∧ (cellS T N c ≠ -9 → suOK g T N) := by
  obtain ⟨g, eg, sg, su⟩ := mCell_ok d h L T N wT wN t u c hc
  refine ⟨g, ?_, sg, su⟩
  obtain ⟨k141, j141⟩ := lay_k L (a := 141) (t := 8) (n := 26) rfl
  rw [en_170]
  by_cases q : cellS T N c = -9
  · rw [if_pos q]
    simp (disch := (first | omega | (simp only [kd_sI, kd_sL, kd_sR, kd_cp, kd_aI]; omega) | (unfold catV; exact rfl) | (unfold catS; exact Nat.le_of_ble_eq_true rfl) | assumption)) only [q_170_0, q_170_1, q_170_2, q_170_5, q_170_7_t, q_170_7_f, q_170_10, q_170_11, q_170_14, q_170_15, aft_i, aft_l, aft_v, Int.toNat_natCast, kd_sI, kd_sL, kd_sR, kd_cp, gI_sL, gI_sR, gL_sI, gL_sR, gR_sI, gR_sL, gL_cp, gR_cp, kd_aI, gL_aI, gR_aI, gI_aI, gI_aIn, sI_aI, gI_sIn, Int.reduceToNat, Int.reduceAdd, Int.reduceSub, Int.reduceMul, Int.reduceNeg, Int.zero_add, eg, q]
  · rw [if_neg q]
    simp (disch := (first | omega | (simp only [kd_sI, kd_sL, kd_sR, kd_cp, kd_aI]; omega) | (unfold catV; exact rfl) | (unfold catS; exact Nat.le_of_ble_eq_true rfl) | assumption)) only [q_170_0, q_170_1, q_170_2, q_170_5, q_170_7_t, q_170_7_f, q_170_10, q_170_11, q_170_14, q_170_15, aft_i, aft_l, aft_v, Int.toNat_natCast, kd_sI, kd_sL, kd_sR, kd_cp, gI_sL, gI_sR, gL_sI, gL_sR, gR_sI, gR_sL, gL_cp, gR_cp, kd_aI, gL_aI, gR_aI, gI_aI, gI_aIn, sI_aI, gI_sIn, Int.reduceToNat, Int.reduceAdd, Int.reduceSub, Int.reduceMul, Int.reduceNeg, Int.zero_add, eg]
def isC (T : Td) (c : Int) : Prop := 0 ≤ c ∧ c < tN T
def twoS (T : Td) (N : Nt) (a b : Int) (f : Nat → Nat → Int) : Int :=
  if (0 ≤ a ∧ a < tN T) ∧ (0 ≤ b ∧ b < tN T) ∧ a ≠ b then (if cellS T N a.toNat = -9 ∨ cellS T N b.toNat = -9 then -9 else f a.toNat b.toNat) else -1
def btwS (T : Td) (N : Nt) (a b : Nat) : Int := if fcS T N a < fcS T N b then fcS T N b - fcS T N a - nX N a else fcS T N a - fcS T N b - nX N b
def wndS (T : Td) (N : Nt) (a b : Nat) : Int := if fcS T N a < fcS T N b then 1 else 0
theorem cell_in {T : Td} {N : Nt} {c : Nat} (h : cellS T N c ≠ -9) : ∃ i, i < nM N ∧ nR N i = c := by
  by_cases q : ∃ i, i < nM N ∧ nR N i = c
  · exact q
  · exfalso
    apply h
    unfold cellS
    split
    · rfl
    · exact fiF_out (fun i hi z => q ⟨i, hi, z⟩)
theorem mBtw_ok (d : Nat) (h : mH) (L : LAY h) (T : Td) (N : Nt) (wT : wfT T) (wN : wfN T N) (t : mT h T) (u : mNow h T N) (a b : Int) : ∃ g, callA (d + 6) 171 [Sum.inr (Sum.inr (some 141)), Sum.inl a, Sum.inl b] h = some (some (Sum.inl (twoS T N a b (btwS T N))), g) ∧ scr h g := by
  obtain ⟨k141, j141⟩ := lay_k L (a := 141) (t := 8) (n := 26) rfl
  unfold twoS
  rw [en_171]
  by_cases qa : 0 ≤ a ∧ a < tN T
  · have ea := mCart_t (d + 3) h L a (tN T) t.1 qa wT.1
    by_cases qb : 0 ≤ b ∧ b < tN T
    · have eb := mCart_t (d + 3) h L b (tN T) t.1 qb wT.1
      by_cases qe : a = b
      · rw [if_neg (fun w => w.2.2 qe)]
        exact ⟨h, by simp (disch := (first | omega | (simp only [kd_sI, kd_sL, kd_sR, kd_cp, kd_aI]; omega) | (unfold catV; exact rfl) | (unfold catS; exact Nat.le_of_ble_eq_true rfl) | assumption)) only [q_171_0, q_171_1, q_171_2, q_171_5_t, q_171_5_f, q_171_8, q_171_9, q_171_10, q_171_13_t, q_171_13_f, q_171_16, q_171_17, q_171_18_t, q_171_18_f, q_171_21, q_171_22, q_171_23, q_171_24, q_171_25, q_171_28_t, q_171_28_f, q_171_31, q_171_32, q_171_33, q_171_36_t, q_171_36_f, q_171_39, q_171_40, q_171_41, q_171_42, q_171_45, q_171_48, q_171_50, aft_i, aft_l, aft_v, Int.toNat_natCast, kd_sI, kd_sL, kd_sR, kd_cp, gI_sL, gI_sR, gL_sI, gL_sR, gR_sI, gR_sL, gL_cp, gR_cp, kd_aI, gL_aI, gR_aI, gI_aI, gI_aIn, sI_aI, gI_sIn, Int.reduceToNat, Int.reduceAdd, Int.reduceSub, Int.reduceMul, Int.reduceNeg, Int.zero_add, ea, eb], scr_rf h⟩
      · rw [if_pos ⟨qa, qb, qe⟩]
        obtain ⟨i, rfl⟩ : ∃ i : Nat, a = i := ⟨a.toNat, by omega⟩
        obtain ⟨j, rfl⟩ : ∃ j : Nat, b = j := ⟨b.toNat, by omega⟩
        rw [Int.toNat_natCast, Int.toNat_natCast]
        obtain ⟨g, eg, sg, su⟩ := mStand_ok d h L T N wT wN t u i (by omega)
        have Lg := scr_L sg L
        obtain ⟨m1, m2⟩ := lay_k Lg (a := 141) (t := 8) (n := 26) rfl
        by_cases z1 : cellS T N i = -9
        · rw [if_pos (Or.inl z1)]
          rw [if_pos z1] at eg
          exact ⟨g, by simp (disch := (first | omega | (simp only [kd_sI, kd_sL, kd_sR, kd_cp, kd_aI]; omega) | (unfold catV; exact rfl) | (unfold catS; exact Nat.le_of_ble_eq_true rfl) | assumption)) only [q_171_0, q_171_1, q_171_2, q_171_5_t, q_171_5_f, q_171_8, q_171_9, q_171_10, q_171_13_t, q_171_13_f, q_171_16, q_171_17, q_171_18_t, q_171_18_f, q_171_21, q_171_22, q_171_23, q_171_24, q_171_25, q_171_28_t, q_171_28_f, q_171_31, q_171_32, q_171_33, q_171_36_t, q_171_36_f, q_171_39, q_171_40, q_171_41, q_171_42, q_171_45, q_171_48, q_171_50, aft_i, aft_l, aft_v, Int.toNat_natCast, kd_sI, kd_sL, kd_sR, kd_cp, gI_sL, gI_sR, gL_sI, gL_sR, gR_sI, gR_sL, gL_cp, gR_cp, kd_aI, gL_aI, gR_aI, gI_aI, gI_aIn, sI_aI, gI_sIn, Int.reduceToNat, Int.reduceAdd, Int.reduceSub, Int.reduceMul, Int.reduceNeg, Int.zero_add, ea, eb, eg], sg⟩
        · rw [if_neg z1] at eg
          obtain ⟨g2, eg2, sg2, su2⟩ := mStand_ok d g Lg T N wT wN (scr_mT sg t) (scr_mN sg u) j (by omega)
          have Lg2 := scr_L sg2 Lg
          obtain ⟨m3, m4⟩ := lay_k Lg2 (a := 141) (t := 8) (n := 26) rfl
          by_cases z2 : cellS T N j = -9
          · rw [if_pos (Or.inr z2)]
            rw [if_pos z2] at eg2
            exact ⟨g2, by simp (disch := (first | omega | (simp only [kd_sI, kd_sL, kd_sR, kd_cp, kd_aI]; omega) | (unfold catV; exact rfl) | (unfold catS; exact Nat.le_of_ble_eq_true rfl) | assumption)) only [q_171_0, q_171_1, q_171_2, q_171_5_t, q_171_5_f, q_171_8, q_171_9, q_171_10, q_171_13_t, q_171_13_f, q_171_16, q_171_17, q_171_18_t, q_171_18_f, q_171_21, q_171_22, q_171_23, q_171_24, q_171_25, q_171_28_t, q_171_28_f, q_171_31, q_171_32, q_171_33, q_171_36_t, q_171_36_f, q_171_39, q_171_40, q_171_41, q_171_42, q_171_45, q_171_48, q_171_50, aft_i, aft_l, aft_v, Int.toNat_natCast, kd_sI, kd_sL, kd_sR, kd_cp, gI_sL, gI_sR, gL_sI, gL_sR, gR_sI, gR_sL, gL_cp, gR_cp, kd_aI, gL_aI, gR_aI, gI_aI, gI_aIn, sI_aI, gI_sIn, Int.reduceToNat, Int.reduceAdd, Int.reduceSub, Int.reduceMul, Int.reduceNeg, Int.zero_add, ea, eb, eg, eg2], scr_tr sg sg2⟩
          · rw [if_neg (fun w => w.elim z1 z2)]
            rw [if_neg z2] at eg2
            have s2 := su2 z2
            obtain ⟨x, hx, ex⟩ := cell_in z1
            obtain ⟨y, hy, ey⟩ := cell_in z2
            have F := suOK_F wT wN s2
            have u2 := scr_mN (scr_tr sg sg2) u
            have f1 := s2.2.2 x hx
            have f2 := s2.2.2 y hy
            rw [ex] at f1
            rw [ey] at f2
            have F1 := F x hx
            have F2 := F y hy
            rw [ex] at F1
            rw [ey] at F2
            have hi : i < tN T := by omega
            have hj : j < tN T := by omega
            have e3 := betweenOf_ok (d + 4) g2 Lg2 i j (nX N i) (nX N j) (by have := wT.1; omega) (by have := wT.1; omega) F1 F2 ⟨u2.2.2.2.1 i hi, (wN.2.2.2.1 i hi).2⟩ ⟨u2.2.2.2.1 j hj, (wN.2.2.2.1 j hj).2⟩
            rw [f1, f2] at e3
            refine ⟨g2, ?_, scr_tr sg sg2⟩
            simp (disch := (first | omega | (simp only [kd_sI, kd_sL, kd_sR, kd_cp, kd_aI]; omega) | (unfold catV; exact rfl) | (unfold catS; exact Nat.le_of_ble_eq_true rfl) | assumption)) only [q_171_0, q_171_1, q_171_2, q_171_5_t, q_171_5_f, q_171_8, q_171_9, q_171_10, q_171_13_t, q_171_13_f, q_171_16, q_171_17, q_171_18_t, q_171_18_f, q_171_21, q_171_22, q_171_23, q_171_24, q_171_25, q_171_28_t, q_171_28_f, q_171_31, q_171_32, q_171_33, q_171_36_t, q_171_36_f, q_171_39, q_171_40, q_171_41, q_171_42, q_171_45, q_171_48, q_171_50, aft_i, aft_l, aft_v, Int.toNat_natCast, kd_sI, kd_sL, kd_sR, kd_cp, gI_sL, gI_sR, gL_sI, gL_sR, gR_sI, gR_sL, gL_cp, gR_cp, kd_aI, gL_aI, gR_aI, gI_aI, gI_aIn, sI_aI, gI_sIn, Int.reduceToNat, Int.reduceAdd, Int.reduceSub, Int.reduceMul, Int.reduceNeg, Int.zero_add, ea, eb, eg, eg2, e3]
            rfl
    · rw [if_neg (fun w => qb w.2.1)]
      have eb := mCart_f (d + 3) h L b (tN T) t.1 qb wT.1
      exact ⟨h, by simp (disch := (first | omega | (simp only [kd_sI, kd_sL, kd_sR, kd_cp, kd_aI]; omega) | (unfold catV; exact rfl) | (unfold catS; exact Nat.le_of_ble_eq_true rfl) | assumption)) only [q_171_0, q_171_1, q_171_2, q_171_5_t, q_171_5_f, q_171_8, q_171_9, q_171_10, q_171_13_t, q_171_13_f, q_171_16, q_171_17, q_171_18_t, q_171_18_f, q_171_21, q_171_22, q_171_23, q_171_24, q_171_25, q_171_28_t, q_171_28_f, q_171_31, q_171_32, q_171_33, q_171_36_t, q_171_36_f, q_171_39, q_171_40, q_171_41, q_171_42, q_171_45, q_171_48, q_171_50, aft_i, aft_l, aft_v, Int.toNat_natCast, kd_sI, kd_sL, kd_sR, kd_cp, gI_sL, gI_sR, gL_sI, gL_sR, gR_sI, gR_sL, gL_cp, gR_cp, kd_aI, gL_aI, gR_aI, gI_aI, gI_aIn, sI_aI, gI_sIn, Int.reduceToNat, Int.reduceAdd, Int.reduceSub, Int.reduceMul, Int.reduceNeg, Int.zero_add, ea, eb], scr_rf h⟩
  · rw [if_neg (fun w => qa w.1)]
    have ea := mCart_f (d + 3) h L a (tN T) t.1 qa wT.1
    exact ⟨h, by simp (disch := (first | omega | (simp only [kd_sI, kd_sL, kd_sR, kd_cp, kd_aI]; omega) | (unfold catV; exact rfl) | (unfold catS; exact Nat.le_of_ble_eq_true rfl) | assumption)) only [q_171_0, q_171_1, q_171_2, q_171_5_t, q_171_5_f, q_171_8, q_171_9, q_171_10, q_171_13_t, q_171_13_f, q_171_16, q_171_17, q_171_18_t, q_171_18_f, q_171_21, q_171_22, q_171_23, q_171_24, q_171_25, q_171_28_t, q_171_28_f, q_171_31, q_171_32, q_171_33, q_171_36_t, q_171_36_f, q_171_39, q_171_40, q_171_41, q_171_42, q_171_45, q_171_48, q_171_50, aft_i, aft_l, aft_v, Int.toNat_natCast, kd_sI, kd_sL, kd_sR, kd_cp, gI_sL, gI_sR, gL_sI, gL_sR, gR_sI, gR_sL, gL_cp, gR_cp, kd_aI, gL_aI, gR_aI, gI_aI, gI_aIn, sI_aI, gI_sIn, Int.reduceToNat, Int.reduceAdd, Int.reduceSub, Int.reduceMul, Int.reduceNeg, Int.zero_add, ea], scr_rf h⟩
theorem mWnd_ok (d : Nat) (h : mH) (L : LAY h) (T : Td) (N : Nt) (wT : wfT T) (wN : wfN T N) (t : mT h T) (u : mNow h T N) (a b : Int) : ∃ g, callA (d + 6) 172 [Sum.inr (Sum.inr (some 141)), Sum.inl a, Sum.inl b] h = some (some (Sum.inl (twoS T N a b (wndS T N))), g) ∧ scr h g := by
  obtain ⟨k141, j141⟩ := lay_k L (a := 141) (t := 8) (n := 26) rfl
  unfold twoS
  rw [en_172]
  by_cases qa : 0 ≤ a ∧ a < tN T
  · have ea := mCart_t (d + 3) h L a (tN T) t.1 qa wT.1
    by_cases qb : 0 ≤ b ∧ b < tN T
    · have eb := mCart_t (d + 3) h L b (tN T) t.1 qb wT.1
      by_cases qe : a = b
      · rw [if_neg (fun w => w.2.2 qe)]
        exact ⟨h, by simp (disch := (first | omega | (simp only [kd_sI, kd_sL, kd_sR, kd_cp, kd_aI]; omega) | (unfold catV; exact rfl) | (unfold catS; exact Nat.le_of_ble_eq_true rfl) | assumption)) only [q_172_0, q_172_1, q_172_2, q_172_5_t, q_172_5_f, q_172_8, q_172_9, q_172_10, q_172_13_t, q_172_13_f, q_172_16, q_172_17, q_172_18_t, q_172_18_f, q_172_21, q_172_22, q_172_23, q_172_24, q_172_25, q_172_28_t, q_172_28_f, q_172_31, q_172_32, q_172_33, q_172_36_t, q_172_36_f, q_172_39, q_172_40, q_172_43, q_172_44, q_172_45, q_172_46, q_172_49, q_172_50, q_172_51_t, q_172_51_f, q_172_54, q_172_55, q_172_58, q_172_59, q_172_62, q_172_64, aft_i, aft_l, aft_v, Int.toNat_natCast, kd_sI, kd_sL, kd_sR, kd_cp, gI_sL, gI_sR, gL_sI, gL_sR, gR_sI, gR_sL, gL_cp, gR_cp, kd_aI, gL_aI, gR_aI, gI_aI, gI_aIn, sI_aI, gI_sIn, Int.reduceToNat, Int.reduceAdd, Int.reduceSub, Int.reduceMul, Int.reduceNeg, Int.zero_add, ea, eb], scr_rf h⟩
      · rw [if_pos ⟨qa, qb, qe⟩]
        obtain ⟨i, rfl⟩ : ∃ i : Nat, a = i := ⟨a.toNat, by omega⟩
        obtain ⟨j, rfl⟩ : ∃ j : Nat, b = j := ⟨b.toNat, by omega⟩
        rw [Int.toNat_natCast, Int.toNat_natCast]
        obtain ⟨g, eg, sg, su⟩ := mStand_ok d h L T N wT wN t u i (by omega)
        have Lg := scr_L sg L
        obtain ⟨m1, m2⟩ := lay_k Lg (a := 141) (t := 8) (n := 26) rfl
        by_cases z1 : cellS T N i = -9
        · rw [if_pos (Or.inl z1)]
          rw [if_pos z1] at eg
          exact ⟨g, by simp (disch := (first | omega | (simp only [kd_sI, kd_sL, kd_sR, kd_cp, kd_aI]; omega) | (unfold catV; exact rfl) | (unfold catS; exact Nat.le_of_ble_eq_true rfl) | assumption)) only [q_172_0, q_172_1, q_172_2, q_172_5_t, q_172_5_f, q_172_8, q_172_9, q_172_10, q_172_13_t, q_172_13_f, q_172_16, q_172_17, q_172_18_t, q_172_18_f, q_172_21, q_172_22, q_172_23, q_172_24, q_172_25, q_172_28_t, q_172_28_f, q_172_31, q_172_32, q_172_33, q_172_36_t, q_172_36_f, q_172_39, q_172_40, q_172_43, q_172_44, q_172_45, q_172_46, q_172_49, q_172_50, q_172_51_t, q_172_51_f, q_172_54, q_172_55, q_172_58, q_172_59, q_172_62, q_172_64, aft_i, aft_l, aft_v, Int.toNat_natCast, kd_sI, kd_sL, kd_sR, kd_cp, gI_sL, gI_sR, gL_sI, gL_sR, gR_sI, gR_sL, gL_cp, gR_cp, kd_aI, gL_aI, gR_aI, gI_aI, gI_aIn, sI_aI, gI_sIn, Int.reduceToNat, Int.reduceAdd, Int.reduceSub, Int.reduceMul, Int.reduceNeg, Int.zero_add, ea, eb, eg], sg⟩
        · rw [if_neg z1] at eg
          obtain ⟨g2, eg2, sg2, su2⟩ := mStand_ok d g Lg T N wT wN (scr_mT sg t) (scr_mN sg u) j (by omega)
          have Lg2 := scr_L sg2 Lg
          obtain ⟨m3, m4⟩ := lay_k Lg2 (a := 141) (t := 8) (n := 26) rfl
          obtain ⟨m5, m6⟩ := lay_k Lg2 (a := 154) (t := 100) (n := 7) rfl
          have rr := lay_r Lg2 (q := 141) (k := 21) (b := 154) rfl
          by_cases z2 : cellS T N j = -9
          · rw [if_pos (Or.inr z2)]
            rw [if_pos z2] at eg2
            exact ⟨g2, by simp (disch := (first | omega | (simp only [kd_sI, kd_sL, kd_sR, kd_cp, kd_aI]; omega) | (unfold catV; exact rfl) | (unfold catS; exact Nat.le_of_ble_eq_true rfl) | assumption)) only [q_172_0, q_172_1, q_172_2, q_172_5_t, q_172_5_f, q_172_8, q_172_9, q_172_10, q_172_13_t, q_172_13_f, q_172_16, q_172_17, q_172_18_t, q_172_18_f, q_172_21, q_172_22, q_172_23, q_172_24, q_172_25, q_172_28_t, q_172_28_f, q_172_31, q_172_32, q_172_33, q_172_36_t, q_172_36_f, q_172_39, q_172_40, q_172_43, q_172_44, q_172_45, q_172_46, q_172_49, q_172_50, q_172_51_t, q_172_51_f, q_172_54, q_172_55, q_172_58, q_172_59, q_172_62, q_172_64, aft_i, aft_l, aft_v, Int.toNat_natCast, kd_sI, kd_sL, kd_sR, kd_cp, gI_sL, gI_sR, gL_sI, gL_sR, gR_sI, gR_sL, gL_cp, gR_cp, kd_aI, gL_aI, gR_aI, gI_aI, gI_aIn, sI_aI, gI_sIn, Int.reduceToNat, Int.reduceAdd, Int.reduceSub, Int.reduceMul, Int.reduceNeg, Int.zero_add, ea, eb, eg, eg2], scr_tr sg sg2⟩
          · rw [if_neg (fun w => w.elim z1 z2)]
            rw [if_neg z2] at eg2
            have s2 := su2 z2
            obtain ⟨x, hx, ex⟩ := cell_in z1
            obtain ⟨y, hy, ey⟩ := cell_in z2
            have f1 := s2.2.2 x hx
            have f2 := s2.2.2 y hy
            rw [ex] at f1
            rw [ey] at f2
            have hi7 := wT.1
            refine ⟨g2, ?_, scr_tr sg sg2⟩
            unfold wndS
            by_cases q : fcS T N i < fcS T N j
            · rw [if_pos q]
              simp (disch := (first | omega | (simp only [kd_sI, kd_sL, kd_sR, kd_cp, kd_aI]; omega) | (unfold catV; exact rfl) | (unfold catS; exact Nat.le_of_ble_eq_true rfl) | assumption)) only [q_172_0, q_172_1, q_172_2, q_172_5_t, q_172_5_f, q_172_8, q_172_9, q_172_10, q_172_13_t, q_172_13_f, q_172_16, q_172_17, q_172_18_t, q_172_18_f, q_172_21, q_172_22, q_172_23, q_172_24, q_172_25, q_172_28_t, q_172_28_f, q_172_31, q_172_32, q_172_33, q_172_36_t, q_172_36_f, q_172_39, q_172_40, q_172_43, q_172_44, q_172_45, q_172_46, q_172_49, q_172_50, q_172_51_t, q_172_51_f, q_172_54, q_172_55, q_172_58, q_172_59, q_172_62, q_172_64, aft_i, aft_l, aft_v, Int.toNat_natCast, kd_sI, kd_sL, kd_sR, kd_cp, gI_sL, gI_sR, gL_sI, gL_sR, gR_sI, gR_sL, gL_cp, gR_cp, kd_aI, gL_aI, gR_aI, gI_aI, gI_aIn, sI_aI, gI_sIn, Int.reduceToNat, Int.reduceAdd, Int.reduceSub, Int.reduceMul, Int.reduceNeg, Int.zero_add, ea, eb, eg, eg2, rr, f1, f2]
            · rw [if_neg q]
              simp (disch := (first | omega | (simp only [kd_sI, kd_sL, kd_sR, kd_cp, kd_aI]; omega) | (unfold catV; exact rfl) | (unfold catS; exact Nat.le_of_ble_eq_true rfl) | assumption)) only [q_172_0, q_172_1, q_172_2, q_172_5_t, q_172_5_f, q_172_8, q_172_9, q_172_10, q_172_13_t, q_172_13_f, q_172_16, q_172_17, q_172_18_t, q_172_18_f, q_172_21, q_172_22, q_172_23, q_172_24, q_172_25, q_172_28_t, q_172_28_f, q_172_31, q_172_32, q_172_33, q_172_36_t, q_172_36_f, q_172_39, q_172_40, q_172_43, q_172_44, q_172_45, q_172_46, q_172_49, q_172_50, q_172_51_t, q_172_51_f, q_172_54, q_172_55, q_172_58, q_172_59, q_172_62, q_172_64, aft_i, aft_l, aft_v, Int.toNat_natCast, kd_sI, kd_sL, kd_sR, kd_cp, gI_sL, gI_sR, gL_sI, gL_sR, gR_sI, gR_sL, gL_cp, gR_cp, kd_aI, gL_aI, gR_aI, gI_aI, gI_aIn, sI_aI, gI_sIn, Int.reduceToNat, Int.reduceAdd, Int.reduceSub, Int.reduceMul, Int.reduceNeg, Int.zero_add, ea, eb, eg, eg2, rr, f1, f2]
    · rw [if_neg (fun w => qb w.2.1)]
      have eb := mCart_f (d + 3) h L b (tN T) t.1 qb wT.1
      exact ⟨h, by simp (disch := (first | omega | (simp only [kd_sI, kd_sL, kd_sR, kd_cp, kd_aI]; omega) | (unfold catV; exact rfl) | (unfold catS; exact Nat.le_of_ble_eq_true rfl) | assumption)) only [q_172_0, q_172_1, q_172_2, q_172_5_t, q_172_5_f, q_172_8, q_172_9, q_172_10, q_172_13_t, q_172_13_f, q_172_16, q_172_17, q_172_18_t, q_172_18_f, q_172_21, q_172_22, q_172_23, q_172_24, q_172_25, q_172_28_t, q_172_28_f, q_172_31, q_172_32, q_172_33, q_172_36_t, q_172_36_f, q_172_39, q_172_40, q_172_43, q_172_44, q_172_45, q_172_46, q_172_49, q_172_50, q_172_51_t, q_172_51_f, q_172_54, q_172_55, q_172_58, q_172_59, q_172_62, q_172_64, aft_i, aft_l, aft_v, Int.toNat_natCast, kd_sI, kd_sL, kd_sR, kd_cp, gI_sL, gI_sR, gL_sI, gL_sR, gR_sI, gR_sL, gL_cp, gR_cp, kd_aI, gL_aI, gR_aI, gI_aI, gI_aIn, sI_aI, gI_sIn, Int.reduceToNat, Int.reduceAdd, Int.reduceSub, Int.reduceMul, Int.reduceNeg, Int.zero_add, ea, eb], scr_rf h⟩
  · rw [if_neg (fun w => qa w.1)]
    have ea := mCart_f (d + 3) h L a (tN T) t.1 qa wT.1
    exact ⟨h, by simp (disch := (first | omega | (simp only [kd_sI, kd_sL, kd_sR, kd_cp, kd_aI]; omega) | (unfold catV; exact rfl) | (unfold catS; exact Nat.le_of_ble_eq_true rfl) | assumption)) only [q_172_0, q_172_1, q_172_2, q_172_5_t, q_172_5_f, q_172_8, q_172_9, q_172_10, q_172_13_t, q_172_13_f, q_172_16, q_172_17, q_172_18_t, q_172_18_f, q_172_21, q_172_22, q_172_23, q_172_24, q_172_25, q_172_28_t, q_172_28_f, q_172_31, q_172_32, q_172_33, q_172_36_t, q_172_36_f, q_172_39, q_172_40, q_172_43, q_172_44, q_172_45, q_172_46, q_172_49, q_172_50, q_172_51_t, q_172_51_f, q_172_54, q_172_55, q_172_58, q_172_59, q_172_62, q_172_64, aft_i, aft_l, aft_v, Int.toNat_natCast, kd_sI, kd_sL, kd_sR, kd_cp, gI_sL, gI_sR, gL_sI, gL_sR, gR_sI, gR_sL, gL_cp, gR_cp, kd_aI, gL_aI, gR_aI, gI_aI, gI_aIn, sI_aI, gI_sIn, Int.reduceToNat, Int.reduceAdd, Int.reduceSub, Int.reduceMul, Int.reduceNeg, Int.zero_add, ea], scr_rf h⟩
def groundS (T : Td) (N : Nt) (k : Int) : Int := if 0 ≤ k ∧ k < tK T then lnd T N k.toNat else -1
theorem mGround_ok (d : Nat) (h : mH) (L : LAY h) (T : Td) (N : Nt) (wT : wfT T) (t : mT h T) (u : mNow h T N) (k : Int) : callA (d + 3) 156 [Sum.inr (Sum.inr (some 141)), Sum.inl k] h = some (some (Sum.inl (groundS T N k)), h) := by
  obtain ⟨k141, j141⟩ := lay_k L (a := 141) (t := 8) (n := 26) rfl; obtain ⟨k150, j150⟩ := lay_k L (a := 150) (t := 100) (n := 1851) rfl; have r141_16 : gR h 141 16 = some 150 := lay_r L rfl
  have h4 := wT.2.1
  unfold groundS
  rw [en_156]
  by_cases q : 0 ≤ k ∧ k < tK T
  · have e := mCell_t d h L k (tK T) t.2.1 q wT.2.1
    rw [if_pos q]
    obtain ⟨j, rfl⟩ : ∃ j : Nat, k = j := ⟨k.toNat, by omega⟩
    have u2 := u.2.2.2.2 j (by omega)
    have ix : (16 + (j : Int)).toNat = 16 + j := by omega
    simp (disch := (first | omega | (simp only [kd_sI, kd_sL, kd_sR, kd_cp, kd_aI]; omega) | (unfold catV; exact rfl) | (unfold catS; exact Nat.le_of_ble_eq_true rfl) | assumption)) only [q_156_0, q_156_1, q_156_2, q_156_5_t, q_156_5_f, q_156_8, q_156_9, q_156_12, q_156_14, q_156_15, q_156_16, q_156_17, q_156_20, q_156_21, aft_i, aft_l, aft_v, Int.toNat_natCast, kd_sI, kd_sL, kd_sR, kd_cp, gI_sL, gI_sR, gL_sI, gL_sR, gR_sI, gR_sL, gL_cp, gR_cp, kd_aI, gL_aI, gR_aI, gI_aI, gI_aIn, sI_aI, gI_sIn, Int.reduceToNat, Int.reduceAdd, Int.reduceSub, Int.reduceMul, Int.reduceNeg, Int.zero_add, e, r141_16, ix, u2]
  · have e := mCell_f d h L k (tK T) t.2.1 q wT.2.1
    rw [if_neg q]
    simp (disch := (first | omega | (simp only [kd_sI, kd_sL, kd_sR, kd_cp, kd_aI]; omega) | (unfold catV; exact rfl) | (unfold catS; exact Nat.le_of_ble_eq_true rfl) | assumption)) only [q_156_0, q_156_1, q_156_2, q_156_5_t, q_156_5_f, q_156_8, q_156_9, q_156_12, q_156_14, q_156_15, q_156_16, q_156_17, q_156_20, q_156_21, aft_i, aft_l, aft_v, Int.toNat_natCast, kd_sI, kd_sL, kd_sR, kd_cp, gI_sL, gI_sR, gL_sI, gL_sR, gR_sI, gR_sL, gL_cp, gR_cp, kd_aI, gL_aI, gR_aI, gI_aI, gI_aIn, sI_aI, gI_sIn, Int.reduceToNat, Int.reduceAdd, Int.reduceSub, Int.reduceMul, Int.reduceNeg, Int.zero_add, e]
def cartS (T : Td) (N : Nt) (c w : Int) : Int := if 0 ≤ c ∧ c < tN T then (if w = 0 then nX N c.toNat else if w = 1 then tP T c.toNat else if w = 2 then (if (nL N).testBit c.toNat = true then 1 else 0) else if w = 3 then (if plF (fun i => (nR N i : Int)) c (nM N) 0 = -9 then 1 else 0) else if w = 4 then tF T c.toNat else if w = 5 then cellS T N c.toNat else if w = 6 then plF (fun i => (nR N i : Int)) c (nM N) 0 else -1) else -1
theorem plF_congr {f g : Nat → Int} {c : Int} : ∀ {k i : Nat}, (∀ j, i ≤ j → j < i + k → f j = g j) → plF f c k i = plF g c k i
  | 0, _, _ => rfl
  | k + 1, i, h => by unfold plF; rw [h i (by omega) (by omega), plF_congr (fun j a b => h j (by omega) (by omega))]
theorem mCart_ok (d : Nat) (h : mH) (L : LAY h) (T : Td) (N : Nt) (wT : wfT T) (wN : wfN T N) (t : mT h T) (u : mNow h T N) (c w : Int) : ∃ g, callA (d + 5) 155 [Sum.inr (Sum.inr (some 141)), Sum.inl c, Sum.inl w] h = some (some (Sum.inl (cartS T N c w)), g) ∧ scr h g := by
  obtain ⟨k141, j141⟩ := lay_k L (a := 141) (t := 8) (n := 26) rfl; obtain ⟨k150, j150⟩ := lay_k L (a := 150) (t := 100) (n := 1851) rfl; obtain ⟨k145, j145⟩ := lay_k L (a := 145) (t := 100) (n := 14) rfl; obtain ⟨k146, j146⟩ := lay_k L (a := 146) (t := 100) (n := 14) rfl; have r141_16 : gR h 141 16 = some 150 := lay_r L rfl; have r141_5 : gR h 141 5 = some 145 := lay_r L rfl; have r141_6 : gR h 141 6 = some 146 := lay_r L rfl
  have n7 : nM N ≤ 7 := Nat.le_trans wN.1 wT.1
  unfold cartS
  rw [en_155]
  by_cases q : 0 ≤ c ∧ c < tN T
  · have e := mCart_t (d + 2) h L c (tN T) t.1 q wT.1
    rw [if_pos q]
    obtain ⟨j, rfl⟩ : ∃ j : Nat, c = j := ⟨c.toNat, by omega⟩
    rw [Int.toNat_natCast]
    have hj : j < tN T := by omega
    have hj7 := wT.1
    have u4 := u.2.2.2.1 j hj
    have t5 := t.2.2.2.2.1 j hj
    have ix : (9 + (j : Int)).toNat = 9 + j := by omega
    have ep := mPlace_ok (d + 3) h L j (nM N) u.1 n7
    rw [plF_congr (g := fun i => (nR N i : Int)) (fun i _ hi => u.2.1 i (by omega))] at ep
    by_cases w0 : w = 0
    · subst w0
      exact ⟨h, by simp (disch := (first | omega | (simp only [kd_sI, kd_sL, kd_sR, kd_cp, kd_aI]; omega) | (unfold catV; exact rfl) | (unfold catS; exact Nat.le_of_ble_eq_true rfl) | assumption)) only [q_155_0, q_155_1, q_155_2, q_155_5_t, q_155_5_f, q_155_8, q_155_9, q_155_10, q_155_11_0, q_155_11_1, q_155_11_2, q_155_11_3, q_155_11_4, q_155_11_5, q_155_11_6, q_155_11_d, q_155_52, q_155_53, q_155_56, q_155_58, q_155_59, q_155_60, q_155_61, q_155_62, q_155_63, q_155_66, q_155_67, q_155_68, q_155_69, q_155_70, q_155_71, q_155_74_t, q_155_74_f, q_155_77, q_155_78, q_155_81, q_155_82, q_155_83, q_155_84, q_155_85, q_155_88, q_155_90_t, q_155_90_f, q_155_93, q_155_94, q_155_97, q_155_98, q_155_99, q_155_100, q_155_103, q_155_104, q_155_105, q_155_106, q_155_107, q_155_108, q_155_111, q_155_112, q_155_113, q_155_114, q_155_117, q_155_118, q_155_119, aft_i, aft_l, aft_v, Int.toNat_natCast, kd_sI, kd_sL, kd_sR, kd_cp, gI_sL, gI_sR, gL_sI, gL_sR, gR_sI, gR_sL, gL_cp, gR_cp, kd_aI, gL_aI, gR_aI, gI_aI, gI_aIn, sI_aI, gI_sIn, Int.reduceToNat, Int.reduceAdd, Int.reduceSub, Int.reduceMul, Int.reduceNeg, Int.zero_add, e, r141_16, ix, u4]; rfl, scr_rf h⟩
    by_cases w1 : w = 1
    · subst w1
      exact ⟨h, by simp (disch := (first | omega | (simp only [kd_sI, kd_sL, kd_sR, kd_cp, kd_aI]; omega) | (unfold catV; exact rfl) | (unfold catS; exact Nat.le_of_ble_eq_true rfl) | assumption)) only [q_155_0, q_155_1, q_155_2, q_155_5_t, q_155_5_f, q_155_8, q_155_9, q_155_10, q_155_11_0, q_155_11_1, q_155_11_2, q_155_11_3, q_155_11_4, q_155_11_5, q_155_11_6, q_155_11_d, q_155_52, q_155_53, q_155_56, q_155_58, q_155_59, q_155_60, q_155_61, q_155_62, q_155_63, q_155_66, q_155_67, q_155_68, q_155_69, q_155_70, q_155_71, q_155_74_t, q_155_74_f, q_155_77, q_155_78, q_155_81, q_155_82, q_155_83, q_155_84, q_155_85, q_155_88, q_155_90_t, q_155_90_f, q_155_93, q_155_94, q_155_97, q_155_98, q_155_99, q_155_100, q_155_103, q_155_104, q_155_105, q_155_106, q_155_107, q_155_108, q_155_111, q_155_112, q_155_113, q_155_114, q_155_117, q_155_118, q_155_119, aft_i, aft_l, aft_v, Int.toNat_natCast, kd_sI, kd_sL, kd_sR, kd_cp, gI_sL, gI_sR, gL_sI, gL_sR, gR_sI, gR_sL, gL_cp, gR_cp, kd_aI, gL_aI, gR_aI, gI_aI, gI_aIn, sI_aI, gI_sIn, Int.reduceToNat, Int.reduceAdd, Int.reduceSub, Int.reduceMul, Int.reduceNeg, Int.zero_add, e, r141_5, t5.1]; rfl, scr_rf h⟩
    by_cases w2 : w = 2
    · subst w2
      rw [if_neg (by decide), if_neg (by decide), if_pos rfl]
      by_cases ql : (nL N).testBit j = true
      · have el := mLate_t (d + 3) h L j (nL N) u.2.2.1 wN.2.2.2.2.1 (by omega) ql
        rw [if_pos ql]
        exact ⟨h, by simp (disch := (first | omega | (simp only [kd_sI, kd_sL, kd_sR, kd_cp, kd_aI]; omega) | (unfold catV; exact rfl) | (unfold catS; exact Nat.le_of_ble_eq_true rfl) | assumption)) only [q_155_0, q_155_1, q_155_2, q_155_5_t, q_155_5_f, q_155_8, q_155_9, q_155_10, q_155_11_0, q_155_11_1, q_155_11_2, q_155_11_3, q_155_11_4, q_155_11_5, q_155_11_6, q_155_11_d, q_155_52, q_155_53, q_155_56, q_155_58, q_155_59, q_155_60, q_155_61, q_155_62, q_155_63, q_155_66, q_155_67, q_155_68, q_155_69, q_155_70, q_155_71, q_155_74_t, q_155_74_f, q_155_77, q_155_78, q_155_81, q_155_82, q_155_83, q_155_84, q_155_85, q_155_88, q_155_90_t, q_155_90_f, q_155_93, q_155_94, q_155_97, q_155_98, q_155_99, q_155_100, q_155_103, q_155_104, q_155_105, q_155_106, q_155_107, q_155_108, q_155_111, q_155_112, q_155_113, q_155_114, q_155_117, q_155_118, q_155_119, aft_i, aft_l, aft_v, Int.toNat_natCast, kd_sI, kd_sL, kd_sR, kd_cp, gI_sL, gI_sR, gL_sI, gL_sR, gR_sI, gR_sL, gL_cp, gR_cp, kd_aI, gL_aI, gR_aI, gI_aI, gI_aIn, sI_aI, gI_sIn, Int.reduceToNat, Int.reduceAdd, Int.reduceSub, Int.reduceMul, Int.reduceNeg, Int.zero_add, e, el], scr_rf h⟩
      · have el := mLate_f (d + 3) h L j (nL N) u.2.2.1 wN.2.2.2.2.1 (by omega) (by simpa using ql)
        rw [if_neg ql]
        exact ⟨h, by simp (disch := (first | omega | (simp only [kd_sI, kd_sL, kd_sR, kd_cp, kd_aI]; omega) | (unfold catV; exact rfl) | (unfold catS; exact Nat.le_of_ble_eq_true rfl) | assumption)) only [q_155_0, q_155_1, q_155_2, q_155_5_t, q_155_5_f, q_155_8, q_155_9, q_155_10, q_155_11_0, q_155_11_1, q_155_11_2, q_155_11_3, q_155_11_4, q_155_11_5, q_155_11_6, q_155_11_d, q_155_52, q_155_53, q_155_56, q_155_58, q_155_59, q_155_60, q_155_61, q_155_62, q_155_63, q_155_66, q_155_67, q_155_68, q_155_69, q_155_70, q_155_71, q_155_74_t, q_155_74_f, q_155_77, q_155_78, q_155_81, q_155_82, q_155_83, q_155_84, q_155_85, q_155_88, q_155_90_t, q_155_90_f, q_155_93, q_155_94, q_155_97, q_155_98, q_155_99, q_155_100, q_155_103, q_155_104, q_155_105, q_155_106, q_155_107, q_155_108, q_155_111, q_155_112, q_155_113, q_155_114, q_155_117, q_155_118, q_155_119, aft_i, aft_l, aft_v, Int.toNat_natCast, kd_sI, kd_sL, kd_sR, kd_cp, gI_sL, gI_sR, gL_sI, gL_sR, gR_sI, gR_sL, gL_cp, gR_cp, kd_aI, gL_aI, gR_aI, gI_aI, gI_aIn, sI_aI, gI_sIn, Int.reduceToNat, Int.reduceAdd, Int.reduceSub, Int.reduceMul, Int.reduceNeg, Int.zero_add, e, el], scr_rf h⟩
    by_cases w3 : w = 3
    · subst w3
      rw [if_neg (by decide), if_neg (by decide), if_neg (by decide), if_pos rfl]
      by_cases z : plF (fun i => (nR N i : Int)) j (nM N) 0 = -9
      · rw [if_pos z]
        exact ⟨h, by simp (disch := (first | omega | (simp only [kd_sI, kd_sL, kd_sR, kd_cp, kd_aI]; omega) | (unfold catV; exact rfl) | (unfold catS; exact Nat.le_of_ble_eq_true rfl) | assumption)) only [q_155_0, q_155_1, q_155_2, q_155_5_t, q_155_5_f, q_155_8, q_155_9, q_155_10, q_155_11_0, q_155_11_1, q_155_11_2, q_155_11_3, q_155_11_4, q_155_11_5, q_155_11_6, q_155_11_d, q_155_52, q_155_53, q_155_56, q_155_58, q_155_59, q_155_60, q_155_61, q_155_62, q_155_63, q_155_66, q_155_67, q_155_68, q_155_69, q_155_70, q_155_71, q_155_74_t, q_155_74_f, q_155_77, q_155_78, q_155_81, q_155_82, q_155_83, q_155_84, q_155_85, q_155_88, q_155_90_t, q_155_90_f, q_155_93, q_155_94, q_155_97, q_155_98, q_155_99, q_155_100, q_155_103, q_155_104, q_155_105, q_155_106, q_155_107, q_155_108, q_155_111, q_155_112, q_155_113, q_155_114, q_155_117, q_155_118, q_155_119, aft_i, aft_l, aft_v, Int.toNat_natCast, kd_sI, kd_sL, kd_sR, kd_cp, gI_sL, gI_sR, gL_sI, gL_sR, gR_sI, gR_sL, gL_cp, gR_cp, kd_aI, gL_aI, gR_aI, gI_aI, gI_aIn, sI_aI, gI_sIn, Int.reduceToNat, Int.reduceAdd, Int.reduceSub, Int.reduceMul, Int.reduceNeg, Int.zero_add, e, ep, z], scr_rf h⟩
      · rw [if_neg z]
        exact ⟨h, by simp (disch := (first | omega | (simp only [kd_sI, kd_sL, kd_sR, kd_cp, kd_aI]; omega) | (unfold catV; exact rfl) | (unfold catS; exact Nat.le_of_ble_eq_true rfl) | assumption)) only [q_155_0, q_155_1, q_155_2, q_155_5_t, q_155_5_f, q_155_8, q_155_9, q_155_10, q_155_11_0, q_155_11_1, q_155_11_2, q_155_11_3, q_155_11_4, q_155_11_5, q_155_11_6, q_155_11_d, q_155_52, q_155_53, q_155_56, q_155_58, q_155_59, q_155_60, q_155_61, q_155_62, q_155_63, q_155_66, q_155_67, q_155_68, q_155_69, q_155_70, q_155_71, q_155_74_t, q_155_74_f, q_155_77, q_155_78, q_155_81, q_155_82, q_155_83, q_155_84, q_155_85, q_155_88, q_155_90_t, q_155_90_f, q_155_93, q_155_94, q_155_97, q_155_98, q_155_99, q_155_100, q_155_103, q_155_104, q_155_105, q_155_106, q_155_107, q_155_108, q_155_111, q_155_112, q_155_113, q_155_114, q_155_117, q_155_118, q_155_119, aft_i, aft_l, aft_v, Int.toNat_natCast, kd_sI, kd_sL, kd_sR, kd_cp, gI_sL, gI_sR, gL_sI, gL_sR, gR_sI, gR_sL, gL_cp, gR_cp, kd_aI, gL_aI, gR_aI, gI_aI, gI_aIn, sI_aI, gI_sIn, Int.reduceToNat, Int.reduceAdd, Int.reduceSub, Int.reduceMul, Int.reduceNeg, Int.zero_add, e, ep], scr_rf h⟩
    by_cases w4 : w = 4
    · subst w4
      exact ⟨h, by simp (disch := (first | omega | (simp only [kd_sI, kd_sL, kd_sR, kd_cp, kd_aI]; omega) | (unfold catV; exact rfl) | (unfold catS; exact Nat.le_of_ble_eq_true rfl) | assumption)) only [q_155_0, q_155_1, q_155_2, q_155_5_t, q_155_5_f, q_155_8, q_155_9, q_155_10, q_155_11_0, q_155_11_1, q_155_11_2, q_155_11_3, q_155_11_4, q_155_11_5, q_155_11_6, q_155_11_d, q_155_52, q_155_53, q_155_56, q_155_58, q_155_59, q_155_60, q_155_61, q_155_62, q_155_63, q_155_66, q_155_67, q_155_68, q_155_69, q_155_70, q_155_71, q_155_74_t, q_155_74_f, q_155_77, q_155_78, q_155_81, q_155_82, q_155_83, q_155_84, q_155_85, q_155_88, q_155_90_t, q_155_90_f, q_155_93, q_155_94, q_155_97, q_155_98, q_155_99, q_155_100, q_155_103, q_155_104, q_155_105, q_155_106, q_155_107, q_155_108, q_155_111, q_155_112, q_155_113, q_155_114, q_155_117, q_155_118, q_155_119, aft_i, aft_l, aft_v, Int.toNat_natCast, kd_sI, kd_sL, kd_sR, kd_cp, gI_sL, gI_sR, gL_sI, gL_sR, gR_sI, gR_sL, gL_cp, gR_cp, kd_aI, gL_aI, gR_aI, gI_aI, gI_aIn, sI_aI, gI_sIn, Int.reduceToNat, Int.reduceAdd, Int.reduceSub, Int.reduceMul, Int.reduceNeg, Int.zero_add, e, r141_6, t5.2]; rfl, scr_rf h⟩
    by_cases w5 : w = 5
    · subst w5
      obtain ⟨g, eg, sg, -⟩ := mCell_ok d h L T N wT wN t u j hj
      exact ⟨g, by simp (disch := (first | omega | (simp only [kd_sI, kd_sL, kd_sR, kd_cp, kd_aI]; omega) | (unfold catV; exact rfl) | (unfold catS; exact Nat.le_of_ble_eq_true rfl) | assumption)) only [q_155_0, q_155_1, q_155_2, q_155_5_t, q_155_5_f, q_155_8, q_155_9, q_155_10, q_155_11_0, q_155_11_1, q_155_11_2, q_155_11_3, q_155_11_4, q_155_11_5, q_155_11_6, q_155_11_d, q_155_52, q_155_53, q_155_56, q_155_58, q_155_59, q_155_60, q_155_61, q_155_62, q_155_63, q_155_66, q_155_67, q_155_68, q_155_69, q_155_70, q_155_71, q_155_74_t, q_155_74_f, q_155_77, q_155_78, q_155_81, q_155_82, q_155_83, q_155_84, q_155_85, q_155_88, q_155_90_t, q_155_90_f, q_155_93, q_155_94, q_155_97, q_155_98, q_155_99, q_155_100, q_155_103, q_155_104, q_155_105, q_155_106, q_155_107, q_155_108, q_155_111, q_155_112, q_155_113, q_155_114, q_155_117, q_155_118, q_155_119, aft_i, aft_l, aft_v, Int.toNat_natCast, kd_sI, kd_sL, kd_sR, kd_cp, gI_sL, gI_sR, gL_sI, gL_sR, gR_sI, gR_sL, gL_cp, gR_cp, kd_aI, gL_aI, gR_aI, gI_aI, gI_aIn, sI_aI, gI_sIn, Int.reduceToNat, Int.reduceAdd, Int.reduceSub, Int.reduceMul, Int.reduceNeg, Int.zero_add, e, eg]; rfl, sg⟩
    by_cases w6 : w = 6
    · subst w6
      exact ⟨h, by simp (disch := (first | omega | (simp only [kd_sI, kd_sL, kd_sR, kd_cp, kd_aI]; omega) | (unfold catV; exact rfl) | (unfold catS; exact Nat.le_of_ble_eq_true rfl) | assumption)) only [q_155_0, q_155_1, q_155_2, q_155_5_t, q_155_5_f, q_155_8, q_155_9, q_155_10, q_155_11_0, q_155_11_1, q_155_11_2, q_155_11_3, q_155_11_4, q_155_11_5, q_155_11_6, q_155_11_d, q_155_52, q_155_53, q_155_56, q_155_58, q_155_59, q_155_60, q_155_61, q_155_62, q_155_63, q_155_66, q_155_67, q_155_68, q_155_69, q_155_70, q_155_71, q_155_74_t, q_155_74_f, q_155_77, q_155_78, q_155_81, q_155_82, q_155_83, q_155_84, q_155_85, q_155_88, q_155_90_t, q_155_90_f, q_155_93, q_155_94, q_155_97, q_155_98, q_155_99, q_155_100, q_155_103, q_155_104, q_155_105, q_155_106, q_155_107, q_155_108, q_155_111, q_155_112, q_155_113, q_155_114, q_155_117, q_155_118, q_155_119, aft_i, aft_l, aft_v, Int.toNat_natCast, kd_sI, kd_sL, kd_sR, kd_cp, gI_sL, gI_sR, gL_sI, gL_sR, gR_sI, gR_sL, gL_cp, gR_cp, kd_aI, gL_aI, gR_aI, gI_aI, gI_aIn, sI_aI, gI_sIn, Int.reduceToNat, Int.reduceAdd, Int.reduceSub, Int.reduceMul, Int.reduceNeg, Int.zero_add, e, ep]; rfl, scr_rf h⟩
    · rw [if_neg w0, if_neg w1, if_neg w2, if_neg w3, if_neg w4, if_neg w5, if_neg w6]
      exact ⟨h, by simp (disch := (first | omega | (simp only [kd_sI, kd_sL, kd_sR, kd_cp, kd_aI]; omega) | (unfold catV; exact rfl) | (unfold catS; exact Nat.le_of_ble_eq_true rfl) | assumption)) only [q_155_0, q_155_1, q_155_2, q_155_5_t, q_155_5_f, q_155_8, q_155_9, q_155_10, q_155_11_0, q_155_11_1, q_155_11_2, q_155_11_3, q_155_11_4, q_155_11_5, q_155_11_6, q_155_11_d, q_155_52, q_155_53, q_155_56, q_155_58, q_155_59, q_155_60, q_155_61, q_155_62, q_155_63, q_155_66, q_155_67, q_155_68, q_155_69, q_155_70, q_155_71, q_155_74_t, q_155_74_f, q_155_77, q_155_78, q_155_81, q_155_82, q_155_83, q_155_84, q_155_85, q_155_88, q_155_90_t, q_155_90_f, q_155_93, q_155_94, q_155_97, q_155_98, q_155_99, q_155_100, q_155_103, q_155_104, q_155_105, q_155_106, q_155_107, q_155_108, q_155_111, q_155_112, q_155_113, q_155_114, q_155_117, q_155_118, q_155_119, aft_i, aft_l, aft_v, Int.toNat_natCast, kd_sI, kd_sL, kd_sR, kd_cp, gI_sL, gI_sR, gL_sI, gL_sR, gR_sI, gR_sL, gL_cp, gR_cp, kd_aI, gL_aI, gR_aI, gI_aI, gI_aIn, sI_aI, gI_sIn, Int.reduceToNat, Int.reduceAdd, Int.reduceSub, Int.reduceMul, Int.reduceNeg, Int.zero_add, e], scr_rf h⟩
  · have e := mCart_f (d + 2) h L c (tN T) t.1 q wT.1
    rw [if_neg q]
    exact ⟨h, by simp (disch := (first | omega | (simp only [kd_sI, kd_sL, kd_sR, kd_cp, kd_aI]; omega) | (unfold catV; exact rfl) | (unfold catS; exact Nat.le_of_ble_eq_true rfl) | assumption)) only [q_155_0, q_155_1, q_155_2, q_155_5_t, q_155_5_f, q_155_8, q_155_9, q_155_10, q_155_11_0, q_155_11_1, q_155_11_2, q_155_11_3, q_155_11_4, q_155_11_5, q_155_11_6, q_155_11_d, q_155_52, q_155_53, q_155_56, q_155_58, q_155_59, q_155_60, q_155_61, q_155_62, q_155_63, q_155_66, q_155_67, q_155_68, q_155_69, q_155_70, q_155_71, q_155_74_t, q_155_74_f, q_155_77, q_155_78, q_155_81, q_155_82, q_155_83, q_155_84, q_155_85, q_155_88, q_155_90_t, q_155_90_f, q_155_93, q_155_94, q_155_97, q_155_98, q_155_99, q_155_100, q_155_103, q_155_104, q_155_105, q_155_106, q_155_107, q_155_108, q_155_111, q_155_112, q_155_113, q_155_114, q_155_117, q_155_118, q_155_119, aft_i, aft_l, aft_v, Int.toNat_natCast, kd_sI, kd_sL, kd_sR, kd_cp, gI_sL, gI_sR, gL_sI, gL_sR, gR_sI, gR_sL, gL_cp, gR_cp, kd_aI, gL_aI, gR_aI, gI_aI, gI_aIn, sI_aI, gI_sIn, Int.reduceToNat, Int.reduceAdd, Int.reduceSub, Int.reduceMul, Int.reduceNeg, Int.zero_add, e], scr_rf h⟩
