def evOK (d id : Nat) (as : List mV) (h : mH) (T : Td) (R : Int × Nt × List Nt) : Prop := ∃ g, callA d id (Sum.inr (Sum.inr (some 141)) :: as) h = some (some (Sum.inl R.1), g) ∧ evA h g ∧ wfW T R.2.1 R.2.2 ∧ whG (gI g 150) 0 T R.2.1 R.2.2
theorem evOK_st {d id : Nat} {as : List mV} {h : mH} {T : Td} {N : Nt} {P : List Nt} {r : Int} (w : wfW T N P) (s : whG (gI h 150) 0 T N P) (e : callA d id (Sum.inr (Sum.inr (some 141)) :: as) h = some (some (Sum.inl r), h)) : evOK d id as h T (r, N, P) := ⟨h, e, evA_rf h, w, s⟩
theorem evOK_aI {d id : Nat} {as : List mV} {h : mH} {T : Td} {N N2 : Nt} {P2 : List Nt} {r : Int} {G G2 : Nat → Int} (wT : wfT T) (w : wfW T N2 P2) (e : callA d id (Sum.inr (Sum.inr (some 141)) :: as) h = some (some (Sum.inl r), aI h 150 G2)) (s : whG G 0 T N P2) (u : ∀ k, (k < 56 ∨ 617 ≤ k) → G k = gI h 150 k) (v : ∀ k, 56 ≤ k → G2 k = G k) (s2 : slG G2 0 T N2) : evOK d id as h T (r, N2, P2) := by
  refine ⟨_, e, evA_aI (fun k hk => ?_), w, ?_⟩
  · rw [v k (by omega), u k (Or.inr hk)]
  · show whG (gI (aI h 150 G2) 150) 0 T N2 P2
    rw [gI_aI]
    exact whG_ev wT w.2 (fun i hi _ => v i hi) s2 s
/-- an axle widens -/
def wid (N : Nt) (j : Nat) : Nt := (nM N, nR N, fun i => if i = j then nX N i + 1 else nX N i, nL N, nV N)
def widS (T : Td) (N : Nt) (P : List Nt) (c : Int) : Int × Nt × List Nt := if 0 ≤ c ∧ c < tN T then (if nX N c.toNat = 6 then (-2, N, P) else (nX N c.toNat + 1, wid N c.toNat, knP P N)) else (-1, N, P)
theorem wid_wf {T : Td} {N : Nt} (w : wfN T N) {j : Nat} (n6 : nX N j ≠ 6) (hj : j < tN T) : wfN T (wid N j) := by
  refine ⟨w.1, w.2.1, w.2.2.1, fun c hc => ?_, w.2.2.2.2⟩
  have a := w.2.2.2.1 c hc
  show 1 ≤ (if c = j then nX N c + 1 else nX N c) ∧ (if c = j then nX N c + 1 else nX N c) ≤ 6
  by_cases z : c = j
  · subst z
    rw [if_pos rfl]
    omega
  · rw [if_neg z]
    exact a
theorem mWid_ok (d : Nat) (h : mH) (L : LAY h) (T : Td) (N : Nt) (P : List Nt) (wT : wfT T) (wW : wfW T N P) (t : mT h T) (s : whG (gI h 150) 0 T N P) (c : Int) : evOK (d + 6) 164 [Sum.inl c] h T (widS T N P c) := by
  have c7 := wT.1
  have L0 := L
  obtain ⟨k141, j141⟩ := lay_k L (a := 141) (t := 8) (n := 26) rfl; obtain ⟨k150, j150⟩ := lay_k L (a := 150) (t := 100) (n := 1851) rfl; have r141_16 : gR h 141 16 = some 150 := lay_r L rfl
  unfold widS
  by_cases q : 0 ≤ c ∧ c < tN T
  · have e := mCart_t (d + 3) h L c (tN T) t.1 q wT.1
    rw [if_pos q]
    obtain ⟨j, rfl⟩ : ∃ j : Nat, c = j := ⟨c.toNat, by omega⟩
    rw [Int.toNat_natCast]
    have hj : j < tN T := by omega
    have u := slG_now.mpr s.1
    have x := u.2.2.2.1 j hj
    have x6 := wW.1.2.2.2.1 j hj
    have ix : (9 + (j : Int)).toNat = 9 + j := by omega
    by_cases z : nX N j = 6
    · rw [if_pos z]
      refine evOK_st wW s ?_
      rw [en_164]
      simp (disch := (first | omega | (simp only [kd_sI, kd_sL, kd_sR, kd_cp, kd_aI]; omega) | (unfold catV; exact rfl) | (unfold catS; exact Nat.le_of_ble_eq_true rfl) | assumption)) only [q_164_0, q_164_1, q_164_2, q_164_5_t, q_164_5_f, q_164_8, q_164_9, q_164_10, q_164_11, q_164_14, q_164_16, q_164_17, q_164_18, q_164_19, q_164_21_t, q_164_21_f, q_164_24, q_164_26, q_164_27, q_164_28, q_164_31, q_164_32, q_164_35, q_164_37, q_164_38, q_164_39, q_164_40, q_164_41, q_164_42, q_164_43, q_164_44, q_164_45, q_164_48, q_164_50, q_164_51, q_164_52, q_164_53, aft_i, aft_l, aft_v, Int.toNat_natCast, kd_sI, kd_sL, kd_sR, kd_cp, gI_sL, gI_sR, gL_sI, gL_sR, gR_sI, gR_sL, gL_cp, gR_cp, kd_aI, gL_aI, gR_aI, gI_aI, gI_aIn, sI_aI, gI_sIn, Int.reduceToNat, Int.reduceAdd, Int.reduceSub, Int.reduceMul, Int.reduceNeg, Int.zero_add, e, r141_16, ix, x, z]
    · rw [if_neg z]
      obtain ⟨G, ek, wG, uG⟩ := mKnow_ok (d + 4) h L0 T N P wT wW s
      have xG : G (9 + j) = nX N j := (uG _ (by omega)).trans x
      have sG := wG.1
      refine evOK_aI (N := N) (G := G) (G2 := upI G (9 + j) ((nX N j : Int) + 1)) wT (knP_wf wW (wid_wf wW.1 z hj)) ?_ wG uG (fun k hk => upI_n (by omega)) ?_
      · have zi : (nX N j : Int) ≠ 6 := by omega
        rw [en_164]
        simp (disch := (first | omega | (simp only [kd_sI, kd_sL, kd_sR, kd_cp, kd_aI]; omega) | (unfold catV; exact rfl) | (unfold catS; exact Nat.le_of_ble_eq_true rfl) | assumption)) only [q_164_0, q_164_1, q_164_2, q_164_5_t, q_164_5_f, q_164_8, q_164_9, q_164_10, q_164_11, q_164_14, q_164_16, q_164_17, q_164_18, q_164_19, q_164_21_t, q_164_21_f, q_164_24, q_164_26, q_164_27, q_164_28, q_164_31, q_164_32, q_164_35, q_164_37, q_164_38, q_164_39, q_164_40, q_164_41, q_164_42, q_164_43, q_164_44, q_164_45, q_164_48, q_164_50, q_164_51, q_164_52, q_164_53, aft_i, aft_l, aft_v, Int.toNat_natCast, kd_sI, kd_sL, kd_sR, kd_cp, gI_sL, gI_sR, gL_sI, gL_sR, gR_sI, gR_sL, gL_cp, gR_cp, kd_aI, gL_aI, gR_aI, gI_aI, gI_aIn, sI_aI, gI_sIn, Int.reduceToNat, Int.reduceAdd, Int.reduceSub, Int.reduceMul, Int.reduceNeg, Int.zero_add, e, r141_16, ix, x, zi, ek, xG, upI_s]
      · refine ⟨?_, fun i hi => ?_, ?_, fun i hi => ?_, fun k hk => ?_⟩
        · rw [upI_n (by omega)]; exact sG.1
        · have := wW.1.1
          rw [upI_n (by have : i < nM N := hi; omega)]; exact sG.2.1 i hi
        · rw [upI_n (by omega)]; exact sG.2.2.1
        · show _ = ((if i = j then nX N i + 1 else nX N i : Nat) : Int)
          by_cases y : i = j
          · subst y
            rw [if_pos rfl, show 0 + 9 + i = 9 + i by omega, upI_s]
            rfl
          · rw [if_neg y, upI_n (by omega)]
            exact sG.2.2.2.1 i hi
        · rw [upI_n (by omega)]; exact sG.2.2.2.2 k hk
  · have e := mCart_f (d + 3) h L c (tN T) t.1 q wT.1
    rw [if_neg q]
    refine evOK_st wW s ?_
    rw [en_164]
    simp (disch := (first | omega | (simp only [kd_sI, kd_sL, kd_sR, kd_cp, kd_aI]; omega) | (unfold catV; exact rfl) | (unfold catS; exact Nat.le_of_ble_eq_true rfl) | assumption)) only [q_164_0, q_164_1, q_164_2, q_164_5_t, q_164_5_f, q_164_8, q_164_9, q_164_10, q_164_11, q_164_14, q_164_16, q_164_17, q_164_18, q_164_19, q_164_21_t, q_164_21_f, q_164_24, q_164_26, q_164_27, q_164_28, q_164_31, q_164_32, q_164_35, q_164_37, q_164_38, q_164_39, q_164_40, q_164_41, q_164_42, q_164_43, q_164_44, q_164_45, q_164_48, q_164_50, q_164_51, q_164_52, q_164_53, aft_i, aft_l, aft_v, Int.toNat_natCast, kd_sI, kd_sL, kd_sR, kd_cp, gI_sL, gI_sR, gL_sI, gL_sR, gR_sI, gR_sL, gL_cp, gR_cp, kd_aI, gL_aI, gR_aI, gI_aI, gI_aIn, sI_aI, gI_sIn, Int.reduceToNat, Int.reduceAdd, Int.reduceSub, Int.reduceMul, Int.reduceNeg, Int.zero_add, e]
/-- its late bit turned -/
def lat (N : Nt) (j : Nat) : Nt := (nM N, nR N, nX N, nL N ^^^ 2 ^ j, nV N)
def latS (T : Td) (N : Nt) (P : List Nt) (c is : Int) : Int × Nt × List Nt := if (0 ≤ c ∧ c < tN T) ∧ (is = 0 ∨ is = 1) then (if plF (fun i => (nR N i : Int)) c (nM N) 0 = -9 ∨ (if (nL N).testBit c.toNat = true then 1 else 0) = is then (-2, N, P) else (cellS T (lat N c.toNat) c.toNat, lat N c.toNat, knP P N)) else (-1, N, P)
theorem lat_wf {T : Td} {N : Nt} (wT : wfT T) (w : wfN T N) {j : Nat} (hj : j < tN T) (z : plF (fun i => (nR N i : Int)) j (nM N) 0 ≠ -9) : wfN T (lat N j) := by
  have c7 := wT.1
  obtain ⟨i, -, i2, i3, -⟩ := plF_yes z
  refine ⟨w.1, w.2.1, w.2.2.1, w.2.2.2.1, ?_, fun c hc => ?_, w.2.2.2.2.2.2⟩
  · show nL N ^^^ 2 ^ j < 2 ^ 7
    exact Nat.xor_lt_two_pow w.2.2.2.2.1 (Nat.pow_lt_pow_right (by omega) (by omega))
  · have hc : (nL N ^^^ 2 ^ j).testBit c = true := hc
    by_cases y : j = c
    · subst y
      exact ⟨i, by show i < nM N; omega, by have : (nR N i : Int) = j := i3; show nR N i = j; omega⟩
    · rw [Nat.testBit_xor, Nat.testBit_two_pow_of_ne y, Bool.xor_false] at hc
      exact w.2.2.2.2.2.1 c hc
theorem mLateE_ok (d : Nat) (h : mH) (L : LAY h) (T : Td) (N : Nt) (P : List Nt) (wT : wfT T) (wW : wfW T N P) (t : mT h T) (s : whG (gI h 150) 0 T N P) (c is : Int) : evOK (d + 6) 160 [Sum.inl c, Sum.inl is] h T (latS T N P c is) := by
  have c7 := wT.1
  have n7 : nM N ≤ 7 := Nat.le_trans wW.1.1 wT.1
  have L0 := L
  obtain ⟨k141, j141⟩ := lay_k L (a := 141) (t := 8) (n := 26) rfl; obtain ⟨k150, j150⟩ := lay_k L (a := 150) (t := 100) (n := 1851) rfl; have r141_16 : gR h 141 16 = some 150 := lay_r L rfl
  unfold latS
  by_cases q : 0 ≤ c ∧ c < tN T
  · have e := mCart_t (d + 3) h L c (tN T) t.1 q wT.1
    by_cases q2 : is = 0 ∨ is = 1
    · have e2 := in_t (d + 4) h is 0 1 (by omega)
      rw [if_pos ⟨q, q2⟩]
      obtain ⟨j, rfl⟩ : ∃ j : Nat, c = j := ⟨c.toNat, by omega⟩
      rw [Int.toNat_natCast]
      have hj : j < tN T := by omega
      have u := slG_now.mpr s.1
      have ep := mPlace_ok (d + 4) h L j (nM N) u.1 n7
      rw [plF_congr (g := fun i => (nR N i : Int)) (fun i _ hi => u.2.1 i (by omega))] at ep
      have eb := bitI (a := nL N) (c := j) (by omega) (by have := wW.1.2.2.2.2.1; omega)
      have el := u.2.2.1
      by_cases z : plF (fun i => (nR N i : Int)) j (nM N) 0 = -9
      · rw [if_pos (Or.inl z)]
        refine evOK_st wW s ?_
        rw [en_160]
        simp (disch := (first | omega | (simp only [kd_sI, kd_sL, kd_sR, kd_cp, kd_aI]; omega) | (unfold catV; exact rfl) | (unfold catS; exact Nat.le_of_ble_eq_true rfl) | assumption)) only [q_160_0, q_160_1, q_160_2, q_160_5_t, q_160_5_f, q_160_8, q_160_9, q_160_10, q_160_11, q_160_14_t, q_160_14_f, q_160_17, q_160_18, q_160_19, q_160_20, q_160_21, q_160_24, q_160_26_t, q_160_26_f, q_160_29, q_160_30, q_160_33, q_160_35, q_160_36, q_160_37, q_160_38, q_160_39, q_160_40, q_160_41_t, q_160_41_f, q_160_44, q_160_46, q_160_47, q_160_48, q_160_51, q_160_52, q_160_55, q_160_57, q_160_58, q_160_59, q_160_60, q_160_61, q_160_62, q_160_63, q_160_64, q_160_65, q_160_66, q_160_69, aft_i, aft_l, aft_v, Int.toNat_natCast, kd_sI, kd_sL, kd_sR, kd_cp, gI_sL, gI_sR, gL_sI, gL_sR, gR_sI, gR_sL, gL_cp, gR_cp, kd_aI, gL_aI, gR_aI, gI_aI, gI_aIn, sI_aI, gI_sIn, Int.reduceToNat, Int.reduceAdd, Int.reduceSub, Int.reduceMul, Int.reduceNeg, Int.zero_add, e, e2, ep, z]
      · by_cases y : (if (nL N).testBit j = true then 1 else 0) = is
        · rw [if_pos (Or.inr y)]
          refine evOK_st wW s ?_
          rw [en_160]
          simp (disch := (first | omega | (simp only [kd_sI, kd_sL, kd_sR, kd_cp, kd_aI]; omega) | (unfold catV; exact rfl) | (unfold catS; exact Nat.le_of_ble_eq_true rfl) | assumption)) only [q_160_0, q_160_1, q_160_2, q_160_5_t, q_160_5_f, q_160_8, q_160_9, q_160_10, q_160_11, q_160_14_t, q_160_14_f, q_160_17, q_160_18, q_160_19, q_160_20, q_160_21, q_160_24, q_160_26_t, q_160_26_f, q_160_29, q_160_30, q_160_33, q_160_35, q_160_36, q_160_37, q_160_38, q_160_39, q_160_40, q_160_41_t, q_160_41_f, q_160_44, q_160_46, q_160_47, q_160_48, q_160_51, q_160_52, q_160_55, q_160_57, q_160_58, q_160_59, q_160_60, q_160_61, q_160_62, q_160_63, q_160_64, q_160_65, q_160_66, q_160_69, aft_i, aft_l, aft_v, Int.toNat_natCast, kd_sI, kd_sL, kd_sR, kd_cp, gI_sL, gI_sR, gL_sI, gL_sR, gR_sI, gR_sL, gL_cp, gR_cp, kd_aI, gL_aI, gR_aI, gI_aI, gI_aIn, sI_aI, gI_sIn, Int.reduceToNat, Int.reduceAdd, Int.reduceSub, Int.reduceMul, Int.reduceNeg, Int.zero_add, e, e2, ep, z, r141_16, el, eb, y]
        · rw [if_neg (by rw [not_or]; exact ⟨z, y⟩)]
          have wl := lat_wf wT wW.1 hj z
          obtain ⟨G, ek, wG, uG⟩ := mKnow_ok (d + 4) h L0 T N P wT wW s
          have sG := wG.1
          have xG : G 8 = nL N := sG.2.2.1
          have sh : shlI 1 j = ((2 ^ j : Nat) : Int) := by
            have := shlI_n (a := 1) (c := j) (by omega) (by have := Nat.pow_le_pow_right (n := 2) (by omega) (show j ≤ 6 by omega); omega)
            rw [Nat.one_mul] at this
            exact this
          have p7 : 2 ^ j < 2 ^ 31 := Nat.pow_lt_pow_right (by omega) (by omega)
          have hx := xorI_n (a := nL N) (b := 2 ^ j) (by have := wW.1.2.2.2.2.1; omega) p7
          have s2 : slG (upI G 8 ((nL N ^^^ 2 ^ j : Nat) : Int)) 0 T (lat N j) := by
            refine ⟨?_, fun i hi => ?_, ?_, fun i hi => ?_, fun k hk => ?_⟩
            · rw [upI_n (by omega)]; exact sG.1
            · have : i < nM N := hi
              rw [upI_n (by omega)]; exact sG.2.1 i hi
            · exact upI_s _ _ _
            · rw [upI_n (by omega)]; exact sG.2.2.2.1 i hi
            · rw [upI_n (by omega)]; exact sG.2.2.2.2 k hk
          have L2 : LAY (aI h 150 (upI G 8 ((nL N ^^^ 2 ^ j : Nat) : Int))) := lay_aI L _ _
          have v : evA h (aI h 150 (upI G 8 ((nL N ^^^ 2 ^ j : Nat) : Int))) := evA_aI (fun k hk => by rw [upI_n (by omega), uG k (Or.inr hk)])
          obtain ⟨g, eg, sg, -⟩ := mCell_ok (d + 1) _ L2 T (lat N j) wT wl (evA_mT v t) (slG_now.mpr (by rw [gI_aI]; exact s2)) j hj
          refine ⟨g, ?_, evA_tr v (evA_scr sg), knP_wf wW wl, ?_⟩
          · rw [en_160]
            simp (disch := (first | omega | (simp only [kd_sI, kd_sL, kd_sR, kd_cp, kd_aI]; omega) | (unfold catV; exact rfl) | (unfold catS; exact Nat.le_of_ble_eq_true rfl) | assumption)) only [q_160_0, q_160_1, q_160_2, q_160_5_t, q_160_5_f, q_160_8, q_160_9, q_160_10, q_160_11, q_160_14_t, q_160_14_f, q_160_17, q_160_18, q_160_19, q_160_20, q_160_21, q_160_24, q_160_26_t, q_160_26_f, q_160_29, q_160_30, q_160_33, q_160_35, q_160_36, q_160_37, q_160_38, q_160_39, q_160_40, q_160_41_t, q_160_41_f, q_160_44, q_160_46, q_160_47, q_160_48, q_160_51, q_160_52, q_160_55, q_160_57, q_160_58, q_160_59, q_160_60, q_160_61, q_160_62, q_160_63, q_160_64, q_160_65, q_160_66, q_160_69, aft_i, aft_l, aft_v, Int.toNat_natCast, kd_sI, kd_sL, kd_sR, kd_cp, gI_sL, gI_sR, gL_sI, gL_sR, gR_sI, gR_sL, gL_cp, gR_cp, kd_aI, gL_aI, gR_aI, gI_aI, gI_aIn, sI_aI, gI_sIn, Int.reduceToNat, Int.reduceAdd, Int.reduceSub, Int.reduceMul, Int.reduceNeg, Int.zero_add, e, e2, ep, z, r141_16, el, eb, y, ek, xG, sh, hx, eg]
          · rw [scr_q sg (by omega) (by omega), gI_aI]
            exact whG_ev wT (knP_wf wW wl).2 (fun i hi _ => upI_n (by omega)) s2 wG
    · have e2 := in_f (d + 4) h is 0 1 (by omega)
      rw [if_neg (fun z => q2 z.2)]
      refine evOK_st wW s ?_
      rw [en_160]
      simp (disch := (first | omega | (simp only [kd_sI, kd_sL, kd_sR, kd_cp, kd_aI]; omega) | (unfold catV; exact rfl) | (unfold catS; exact Nat.le_of_ble_eq_true rfl) | assumption)) only [q_160_0, q_160_1, q_160_2, q_160_5_t, q_160_5_f, q_160_8, q_160_9, q_160_10, q_160_11, q_160_14_t, q_160_14_f, q_160_17, q_160_18, q_160_19, q_160_20, q_160_21, q_160_24, q_160_26_t, q_160_26_f, q_160_29, q_160_30, q_160_33, q_160_35, q_160_36, q_160_37, q_160_38, q_160_39, q_160_40, q_160_41_t, q_160_41_f, q_160_44, q_160_46, q_160_47, q_160_48, q_160_51, q_160_52, q_160_55, q_160_57, q_160_58, q_160_59, q_160_60, q_160_61, q_160_62, q_160_63, q_160_64, q_160_65, q_160_66, q_160_69, aft_i, aft_l, aft_v, Int.toNat_natCast, kd_sI, kd_sL, kd_sR, kd_cp, gI_sL, gI_sR, gL_sI, gL_sR, gR_sI, gR_sL, gL_cp, gR_cp, kd_aI, gL_aI, gR_aI, gI_aI, gI_aIn, sI_aI, gI_sIn, Int.reduceToNat, Int.reduceAdd, Int.reduceSub, Int.reduceMul, Int.reduceNeg, Int.zero_add, e, e2]
  · have e := mCart_f (d + 3) h L c (tN T) t.1 q wT.1
    rw [if_neg (fun z => q z.1)]
    refine evOK_st wW s ?_
    rw [en_160]
    simp (disch := (first | omega | (simp only [kd_sI, kd_sL, kd_sR, kd_cp, kd_aI]; omega) | (unfold catV; exact rfl) | (unfold catS; exact Nat.le_of_ble_eq_true rfl) | assumption)) only [q_160_0, q_160_1, q_160_2, q_160_5_t, q_160_5_f, q_160_8, q_160_9, q_160_10, q_160_11, q_160_14_t, q_160_14_f, q_160_17, q_160_18, q_160_19, q_160_20, q_160_21, q_160_24, q_160_26_t, q_160_26_f, q_160_29, q_160_30, q_160_33, q_160_35, q_160_36, q_160_37, q_160_38, q_160_39, q_160_40, q_160_41_t, q_160_41_f, q_160_44, q_160_46, q_160_47, q_160_48, q_160_51, q_160_52, q_160_55, q_160_57, q_160_58, q_160_59, q_160_60, q_160_61, q_160_62, q_160_63, q_160_64, q_160_65, q_160_66, q_160_69, aft_i, aft_l, aft_v, Int.toNat_natCast, kd_sI, kd_sL, kd_sR, kd_cp, gI_sL, gI_sR, gL_sI, gL_sR, gR_sI, gR_sL, gL_cp, gR_cp, kd_aI, gL_aI, gR_aI, gI_aI, gI_aIn, sI_aI, gI_sIn, Int.reduceToNat, Int.reduceAdd, Int.reduceSub, Int.reduceMul, Int.reduceNeg, Int.zero_add, e]
/-- a cell floods or dries -/
def flo (N : Nt) (k : Nat) : Nt := (nM N, nR N, nX N, nL N, nV N ^^^ 2 ^ k)
def floS (T : Td) (N : Nt) (P : List Nt) (k is : Int) : Int × Nt × List Nt := if (0 ≤ k ∧ k < tK T) ∧ (is = 0 ∨ is = 1) then (if (if (nV N).testBit k.toNat = true then 1 else 0) = is then (-2, N, P) else (lnd T (flo N k.toNat) k.toNat, flo N k.toNat, knP P N)) else (-1, N, P)
theorem flo_wf {T : Td} {N : Nt} (wT : wfT T) (w : wfN T N) {j : Nat} (hj : j < tK T) : wfN T (flo N j) := by
  have c7 := wT.2.1
  refine ⟨w.1, w.2.1, w.2.2.1, w.2.2.2.1, w.2.2.2.2.1, w.2.2.2.2.2.1, ?_⟩
  show nV N ^^^ 2 ^ j < 2 ^ 40
  exact Nat.xor_lt_two_pow w.2.2.2.2.2.2 (Nat.pow_lt_pow_right (by omega) (by omega))
theorem lnd_two {T : Td} {N : Nt} {k : Nat} : lnd T N k = 2 ↔ (nV N).testBit k = true := by
  unfold lnd
  by_cases z : (nV N).testBit k = true
  · rw [if_pos z]
    exact ⟨fun _ => z, fun _ => rfl⟩
  · rw [if_neg z]
    refine ⟨fun y => ?_, fun y => absurd y z⟩
    split at y <;> omega
theorem flo_lnd {T : Td} {N : Nt} {j k : Nat} : lnd T (flo N j) k = if k = j then (if (nV N).testBit j = true then (if tG T j = 1 then 1 else 0) else 2) else lnd T N k := by
  have e : nV (flo N j) = nV N ^^^ 2 ^ j := rfl
  unfold lnd
  rw [e, Nat.testBit_xor]
  by_cases z : k = j
  · subst z
    rw [if_pos rfl, Nat.testBit_two_pow_self]
    cases (nV N).testBit k <;> rfl
  · rw [if_neg z, Nat.testBit_two_pow_of_ne (Ne.symm z), Bool.xor_false]
theorem mFlo_ok (d : Nat) (h : mH) (L : LAY h) (T : Td) (N : Nt) (P : List Nt) (wT : wfT T) (wW : wfW T N P) (t : mT h T) (s : whG (gI h 150) 0 T N P) (k is : Int) : evOK (d + 6) 165 [Sum.inl k, Sum.inl is] h T (floS T N P k is) := by
  have c7 := wT.2.1
  have L0 := L
  obtain ⟨k141, j141⟩ := lay_k L (a := 141) (t := 8) (n := 26) rfl; obtain ⟨k150, j150⟩ := lay_k L (a := 150) (t := 100) (n := 1851) rfl; obtain ⟨k148, j148⟩ := lay_k L (a := 148) (t := 100) (n := 80) rfl; have r141_16 : gR h 141 16 = some 150 := lay_r L rfl; have r141_8 : gR h 141 8 = some 148 := lay_r L rfl
  unfold floS
  by_cases q : 0 ≤ k ∧ k < tK T
  · have e := mCell_t (d + 3) h L k (tK T) t.2.1 q wT.2.1
    by_cases q2 : is = 0 ∨ is = 1
    · have e2 := in_t (d + 4) h is 0 1 (by omega)
      rw [if_pos ⟨q, q2⟩]
      obtain ⟨j, rfl⟩ : ∃ j : Nat, k = j := ⟨k.toNat, by omega⟩
      rw [Int.toNat_natCast]
      have hj : j < tK T := by omega
      have u := slG_now.mpr s.1
      have ul := u.2.2.2.2 j hj
      have ix : (16 + (j : Int)).toNat = 16 + j := by omega
      have g2 := wT.2.2.2.2.2.2.2 j hj
      have tt := t.2.2.2.2.2 j hj
      by_cases y : (if (nV N).testBit j = true then 1 else 0) = is
      · rw [if_pos y]
        refine evOK_st wW s ?_
        rw [en_165]
        by_cases b : (nV N).testBit j = true
        · have lb := lnd_two (T := T) |>.mpr b
          rw [if_pos b] at y
          subst y
          simp (disch := (first | omega | (simp only [kd_sI, kd_sL, kd_sR, kd_cp, kd_aI]; omega) | (unfold catV; exact rfl) | (unfold catS; exact Nat.le_of_ble_eq_true rfl) | assumption)) only [q_165_0, q_165_1, q_165_2, q_165_5_t, q_165_5_f, q_165_8, q_165_9, q_165_10, q_165_11, q_165_14_t, q_165_14_f, q_165_17, q_165_18, q_165_19, q_165_20, q_165_23, q_165_25, q_165_26, q_165_27, q_165_28, q_165_29_t, q_165_29_f, q_165_32, q_165_33, q_165_36, q_165_37, q_165_38_t, q_165_38_f, q_165_41, q_165_43, q_165_44, q_165_45, q_165_48, q_165_49, q_165_52, q_165_54, q_165_55, q_165_56, q_165_57, q_165_58_t, q_165_58_f, q_165_61, q_165_62, q_165_65, q_165_66, q_165_69, q_165_70, q_165_71, q_165_72_t, q_165_72_f, q_165_75, q_165_76, q_165_79, q_165_80, q_165_83, q_165_84, q_165_85, q_165_86, q_165_87, q_165_90, q_165_92, q_165_93, q_165_94, q_165_95, aft_i, aft_l, aft_v, Int.toNat_natCast, kd_sI, kd_sL, kd_sR, kd_cp, gI_sL, gI_sR, gL_sI, gL_sR, gR_sI, gR_sL, gL_cp, gR_cp, kd_aI, gL_aI, gR_aI, gI_aI, gI_aIn, sI_aI, gI_sIn, Int.reduceToNat, Int.reduceAdd, Int.reduceSub, Int.reduceMul, Int.reduceNeg, Int.zero_add, e, e2, r141_16, ix, ul, lb]
        · have lb : lnd T N j ≠ 2 := fun z => b (lnd_two.mp z)
          rw [if_neg b] at y
          subst y
          simp (disch := (first | omega | (simp only [kd_sI, kd_sL, kd_sR, kd_cp, kd_aI]; omega) | (unfold catV; exact rfl) | (unfold catS; exact Nat.le_of_ble_eq_true rfl) | assumption)) only [q_165_0, q_165_1, q_165_2, q_165_5_t, q_165_5_f, q_165_8, q_165_9, q_165_10, q_165_11, q_165_14_t, q_165_14_f, q_165_17, q_165_18, q_165_19, q_165_20, q_165_23, q_165_25, q_165_26, q_165_27, q_165_28, q_165_29_t, q_165_29_f, q_165_32, q_165_33, q_165_36, q_165_37, q_165_38_t, q_165_38_f, q_165_41, q_165_43, q_165_44, q_165_45, q_165_48, q_165_49, q_165_52, q_165_54, q_165_55, q_165_56, q_165_57, q_165_58_t, q_165_58_f, q_165_61, q_165_62, q_165_65, q_165_66, q_165_69, q_165_70, q_165_71, q_165_72_t, q_165_72_f, q_165_75, q_165_76, q_165_79, q_165_80, q_165_83, q_165_84, q_165_85, q_165_86, q_165_87, q_165_90, q_165_92, q_165_93, q_165_94, q_165_95, aft_i, aft_l, aft_v, Int.toNat_natCast, kd_sI, kd_sL, kd_sR, kd_cp, gI_sL, gI_sR, gL_sI, gL_sR, gR_sI, gR_sL, gL_cp, gR_cp, kd_aI, gL_aI, gR_aI, gI_aI, gI_aIn, sI_aI, gI_sIn, Int.reduceToNat, Int.reduceAdd, Int.reduceSub, Int.reduceMul, Int.reduceNeg, Int.zero_add, e, e2, r141_16, ix, ul, lb]
      · rw [if_neg y]
        have wl := flo_wf wT wW.1 hj
        obtain ⟨G, ek, wG, uG⟩ := mKnow_ok (d + 4) h L0 T N P wT wW s
        have sG := wG.1
        have s2 : slG (upI G (16 + j) (lnd T (flo N j) j)) 0 T (flo N j) := by
          refine ⟨?_, fun i hi => ?_, ?_, fun i hi => ?_, fun k hk => ?_⟩
          · rw [upI_n (by omega)]; exact sG.1
          · have : i < nM N := hi
            have := wW.1.1
            have := wT.1
            rw [upI_n (by omega)]; exact sG.2.1 i hi
          · rw [upI_n (by omega)]; exact sG.2.2.1
          · have := wT.1
            rw [upI_n (by omega)]; exact sG.2.2.2.1 i hi
          · by_cases z : k = j
            · subst z
              rw [show 0 + 16 + k = 16 + k by omega, upI_s]
            · rw [upI_n (by omega), flo_lnd, if_neg z]
              exact sG.2.2.2.2 k hk
        refine evOK_aI (N := N) (G := G) (G2 := upI G (16 + j) (lnd T (flo N j) j)) wT (knP_wf wW wl) ?_ wG uG (fun k hk => upI_n (by omega)) s2
        have fl := flo_lnd (T := T) (N := N) (j := j) (k := j)
        rw [if_pos rfl] at fl
        rw [en_165]
        by_cases b : (nV N).testBit j = true
        · have lb := lnd_two (T := T) |>.mpr b
          rw [if_pos b] at y fl
          have is0 : is = 0 := by omega
          subst is0
          by_cases g1 : tG T j = 1
          · rw [if_pos g1] at fl
            rw [fl]
            simp (disch := (first | omega | (simp only [kd_sI, kd_sL, kd_sR, kd_cp, kd_aI]; omega) | (unfold catV; exact rfl) | (unfold catS; exact Nat.le_of_ble_eq_true rfl) | assumption)) only [q_165_0, q_165_1, q_165_2, q_165_5_t, q_165_5_f, q_165_8, q_165_9, q_165_10, q_165_11, q_165_14_t, q_165_14_f, q_165_17, q_165_18, q_165_19, q_165_20, q_165_23, q_165_25, q_165_26, q_165_27, q_165_28, q_165_29_t, q_165_29_f, q_165_32, q_165_33, q_165_36, q_165_37, q_165_38_t, q_165_38_f, q_165_41, q_165_43, q_165_44, q_165_45, q_165_48, q_165_49, q_165_52, q_165_54, q_165_55, q_165_56, q_165_57, q_165_58_t, q_165_58_f, q_165_61, q_165_62, q_165_65, q_165_66, q_165_69, q_165_70, q_165_71, q_165_72_t, q_165_72_f, q_165_75, q_165_76, q_165_79, q_165_80, q_165_83, q_165_84, q_165_85, q_165_86, q_165_87, q_165_90, q_165_92, q_165_93, q_165_94, q_165_95, aft_i, aft_l, aft_v, Int.toNat_natCast, kd_sI, kd_sL, kd_sR, kd_cp, gI_sL, gI_sR, gL_sI, gL_sR, gR_sI, gR_sL, gL_cp, gR_cp, kd_aI, gL_aI, gR_aI, gI_aI, gI_aIn, sI_aI, gI_sIn, Int.reduceToNat, Int.reduceAdd, Int.reduceSub, Int.reduceMul, Int.reduceNeg, Int.zero_add, e, e2, r141_16, r141_8, ix, ul, lb, ek, upI_s, tt, g1, Int.natCast_one]
          · by_cases g3 : tG T j = 2
            · rw [if_neg g1] at fl
              rw [fl]
              simp (disch := (first | omega | (simp only [kd_sI, kd_sL, kd_sR, kd_cp, kd_aI]; omega) | (unfold catV; exact rfl) | (unfold catS; exact Nat.le_of_ble_eq_true rfl) | assumption)) only [q_165_0, q_165_1, q_165_2, q_165_5_t, q_165_5_f, q_165_8, q_165_9, q_165_10, q_165_11, q_165_14_t, q_165_14_f, q_165_17, q_165_18, q_165_19, q_165_20, q_165_23, q_165_25, q_165_26, q_165_27, q_165_28, q_165_29_t, q_165_29_f, q_165_32, q_165_33, q_165_36, q_165_37, q_165_38_t, q_165_38_f, q_165_41, q_165_43, q_165_44, q_165_45, q_165_48, q_165_49, q_165_52, q_165_54, q_165_55, q_165_56, q_165_57, q_165_58_t, q_165_58_f, q_165_61, q_165_62, q_165_65, q_165_66, q_165_69, q_165_70, q_165_71, q_165_72_t, q_165_72_f, q_165_75, q_165_76, q_165_79, q_165_80, q_165_83, q_165_84, q_165_85, q_165_86, q_165_87, q_165_90, q_165_92, q_165_93, q_165_94, q_165_95, aft_i, aft_l, aft_v, Int.toNat_natCast, kd_sI, kd_sL, kd_sR, kd_cp, gI_sL, gI_sR, gL_sI, gL_sR, gR_sI, gR_sL, gL_cp, gR_cp, kd_aI, gL_aI, gR_aI, gI_aI, gI_aIn, sI_aI, gI_sIn, Int.reduceToNat, Int.reduceAdd, Int.reduceSub, Int.reduceMul, Int.reduceNeg, Int.zero_add, e, e2, r141_16, r141_8, ix, ul, lb, ek, upI_s, tt, g3, Int.reduceNeg]
            · have g0 : tG T j = 0 := by omega
              rw [if_neg g1] at fl
              rw [fl]
              simp (disch := (first | omega | (simp only [kd_sI, kd_sL, kd_sR, kd_cp, kd_aI]; omega) | (unfold catV; exact rfl) | (unfold catS; exact Nat.le_of_ble_eq_true rfl) | assumption)) only [q_165_0, q_165_1, q_165_2, q_165_5_t, q_165_5_f, q_165_8, q_165_9, q_165_10, q_165_11, q_165_14_t, q_165_14_f, q_165_17, q_165_18, q_165_19, q_165_20, q_165_23, q_165_25, q_165_26, q_165_27, q_165_28, q_165_29_t, q_165_29_f, q_165_32, q_165_33, q_165_36, q_165_37, q_165_38_t, q_165_38_f, q_165_41, q_165_43, q_165_44, q_165_45, q_165_48, q_165_49, q_165_52, q_165_54, q_165_55, q_165_56, q_165_57, q_165_58_t, q_165_58_f, q_165_61, q_165_62, q_165_65, q_165_66, q_165_69, q_165_70, q_165_71, q_165_72_t, q_165_72_f, q_165_75, q_165_76, q_165_79, q_165_80, q_165_83, q_165_84, q_165_85, q_165_86, q_165_87, q_165_90, q_165_92, q_165_93, q_165_94, q_165_95, aft_i, aft_l, aft_v, Int.toNat_natCast, kd_sI, kd_sL, kd_sR, kd_cp, gI_sL, gI_sR, gL_sI, gL_sR, gR_sI, gR_sL, gL_cp, gR_cp, kd_aI, gL_aI, gR_aI, gI_aI, gI_aIn, sI_aI, gI_sIn, Int.reduceToNat, Int.reduceAdd, Int.reduceSub, Int.reduceMul, Int.reduceNeg, Int.zero_add, e, e2, r141_16, r141_8, ix, ul, lb, ek, upI_s, tt, g0, Int.natCast_zero]
        · have lb : lnd T N j ≠ 2 := fun z => b (lnd_two.mp z)
          rw [if_neg b] at y fl
          have is0 : is = 1 := by omega
          subst is0
          rw [fl]
          simp (disch := (first | omega | (simp only [kd_sI, kd_sL, kd_sR, kd_cp, kd_aI]; omega) | (unfold catV; exact rfl) | (unfold catS; exact Nat.le_of_ble_eq_true rfl) | assumption)) only [q_165_0, q_165_1, q_165_2, q_165_5_t, q_165_5_f, q_165_8, q_165_9, q_165_10, q_165_11, q_165_14_t, q_165_14_f, q_165_17, q_165_18, q_165_19, q_165_20, q_165_23, q_165_25, q_165_26, q_165_27, q_165_28, q_165_29_t, q_165_29_f, q_165_32, q_165_33, q_165_36, q_165_37, q_165_38_t, q_165_38_f, q_165_41, q_165_43, q_165_44, q_165_45, q_165_48, q_165_49, q_165_52, q_165_54, q_165_55, q_165_56, q_165_57, q_165_58_t, q_165_58_f, q_165_61, q_165_62, q_165_65, q_165_66, q_165_69, q_165_70, q_165_71, q_165_72_t, q_165_72_f, q_165_75, q_165_76, q_165_79, q_165_80, q_165_83, q_165_84, q_165_85, q_165_86, q_165_87, q_165_90, q_165_92, q_165_93, q_165_94, q_165_95, aft_i, aft_l, aft_v, Int.toNat_natCast, kd_sI, kd_sL, kd_sR, kd_cp, gI_sL, gI_sR, gL_sI, gL_sR, gR_sI, gR_sL, gL_cp, gR_cp, kd_aI, gL_aI, gR_aI, gI_aI, gI_aIn, sI_aI, gI_sIn, Int.reduceToNat, Int.reduceAdd, Int.reduceSub, Int.reduceMul, Int.reduceNeg, Int.zero_add, e, e2, r141_16, r141_8, ix, ul, lb, ek, upI_s]
    · have e2 := in_f (d + 4) h is 0 1 (by omega)
      rw [if_neg (fun z => q2 z.2)]
      refine evOK_st wW s ?_
      rw [en_165]
      simp (disch := (first | omega | (simp only [kd_sI, kd_sL, kd_sR, kd_cp, kd_aI]; omega) | (unfold catV; exact rfl) | (unfold catS; exact Nat.le_of_ble_eq_true rfl) | assumption)) only [q_165_0, q_165_1, q_165_2, q_165_5_t, q_165_5_f, q_165_8, q_165_9, q_165_10, q_165_11, q_165_14_t, q_165_14_f, q_165_17, q_165_18, q_165_19, q_165_20, q_165_23, q_165_25, q_165_26, q_165_27, q_165_28, q_165_29_t, q_165_29_f, q_165_32, q_165_33, q_165_36, q_165_37, q_165_38_t, q_165_38_f, q_165_41, q_165_43, q_165_44, q_165_45, q_165_48, q_165_49, q_165_52, q_165_54, q_165_55, q_165_56, q_165_57, q_165_58_t, q_165_58_f, q_165_61, q_165_62, q_165_65, q_165_66, q_165_69, q_165_70, q_165_71, q_165_72_t, q_165_72_f, q_165_75, q_165_76, q_165_79, q_165_80, q_165_83, q_165_84, q_165_85, q_165_86, q_165_87, q_165_90, q_165_92, q_165_93, q_165_94, q_165_95, aft_i, aft_l, aft_v, Int.toNat_natCast, kd_sI, kd_sL, kd_sR, kd_cp, gI_sL, gI_sR, gL_sI, gL_sR, gR_sI, gR_sL, gL_cp, gR_cp, kd_aI, gL_aI, gR_aI, gI_aI, gI_aIn, sI_aI, gI_sIn, Int.reduceToNat, Int.reduceAdd, Int.reduceSub, Int.reduceMul, Int.reduceNeg, Int.zero_add, e, e2]
  · have e := mCell_f (d + 3) h L k (tK T) t.2.1 q wT.2.1
    rw [if_neg (fun z => q z.1)]
    refine evOK_st wW s ?_
    rw [en_165]
    simp (disch := (first | omega | (simp only [kd_sI, kd_sL, kd_sR, kd_cp, kd_aI]; omega) | (unfold catV; exact rfl) | (unfold catS; exact Nat.le_of_ble_eq_true rfl) | assumption)) only [q_165_0, q_165_1, q_165_2, q_165_5_t, q_165_5_f, q_165_8, q_165_9, q_165_10, q_165_11, q_165_14_t, q_165_14_f, q_165_17, q_165_18, q_165_19, q_165_20, q_165_23, q_165_25, q_165_26, q_165_27, q_165_28, q_165_29_t, q_165_29_f, q_165_32, q_165_33, q_165_36, q_165_37, q_165_38_t, q_165_38_f, q_165_41, q_165_43, q_165_44, q_165_45, q_165_48, q_165_49, q_165_52, q_165_54, q_165_55, q_165_56, q_165_57, q_165_58_t, q_165_58_f, q_165_61, q_165_62, q_165_65, q_165_66, q_165_69, q_165_70, q_165_71, q_165_72_t, q_165_72_f, q_165_75, q_165_76, q_165_79, q_165_80, q_165_83, q_165_84, q_165_85, q_165_86, q_165_87, q_165_90, q_165_92, q_165_93, q_165_94, q_165_95, aft_i, aft_l, aft_v, Int.toNat_natCast, kd_sI, kd_sL, kd_sR, kd_cp, gI_sL, gI_sR, gL_sI, gL_sR, gR_sI, gR_sL, gL_cp, gR_cp, kd_aI, gL_aI, gR_aI, gI_aI, gI_aIn, sI_aI, gI_sIn, Int.reduceToNat, Int.reduceAdd, Int.reduceSub, Int.reduceMul, Int.reduceNeg, Int.zero_add, e]
