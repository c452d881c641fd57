def clrB (a c : Nat) : Nat := a ^^^ (a &&& 2 ^ c)
theorem clrB_bit {a c i : Nat} : (clrB a c).testBit i = (a.testBit i && !decide (c = i)) := by
  unfold clrB
  rw [clr_bit, Nat.testBit_two_pow]
theorem clrB_lt {a c : Nat} (h : a < 128) : clrB a c < 128 := by
  show clrB a c < 2 ^ 7
  exact Nat.xor_lt_two_pow h (an_lt h)
theorem shl1 {j : Nat} (h : j < 31) : shlI 1 j = ((2 ^ j : Nat) : Int) := by
  have := shlI_n (a := 1) (c := j) (by omega) (by have := Nat.pow_lt_pow_right (a := 2) (by omega) h; omega)
  rw [Nat.one_mul] at this
  exact this
def losN (N : Nt) (c : Nat) (is : Int) : Nt := if is = 1 then setR N ((rowL N).filter (fun x => decide (x ≠ c))) (clrB (nL N) c) else setR N (rowL N ++ [c]) (nL N)
def losS (T : Td) (N : Nt) (P : List Nt) (c is : Int) : Int × Nt × List Nt := if (0 ≤ c ∧ c < tN T) ∧ (is = 0 ∨ is = 1) then (if (if plF (fun i => (nR N i : Int)) c (nM N) 0 = -9 then 1 else 0) = is then (-2, N, P) else (nM (losN N c.toNat is), losN N c.toNat is, knP P N)) else (-1, N, P)
theorem los1_wf {T : Td} {N : Nt} (w : wfN T N) {c : Nat} : wfN T (setR N ((rowL N).filter (fun x => decide (x ≠ c))) (clrB (nL N) c)) := by
  refine setR_wf w ((List.filter_sublist).nodup (rowL_nd w)) (fun x hx => rowL_lt w (List.mem_filter.mp hx).1) (clrB_lt w.2.2.2.2.1) (fun x hx => ?_)
  rw [clrB_bit, Bool.and_eq_true] at hx
  refine List.mem_filter.mpr ⟨rowL_mem.mpr (w.2.2.2.2.2.1 x hx.1), ?_⟩
  have := hx.2
  simp only [Bool.not_eq_true', decide_eq_false_iff_not] at this
  exact decide_eq_true (fun z => this z.symm)
theorem app_nd {l : List Nat} {c : Nat} (n : l.Nodup) (h : c ∉ l) : (l ++ [c]).Nodup := by
  rw [List.nodup_append]
  refine ⟨n, List.nodup_cons.mpr ⟨List.not_mem_nil, List.nodup_nil⟩, fun a ha b hb e => ?_⟩
  rw [List.mem_singleton.mp hb] at e
  exact h (e ▸ ha)
theorem los0_wf {T : Td} {N : Nt} (w : wfN T N) {c : Nat} (hc : c < tN T) (h : c ∉ rowL N) : wfN T (setR N (rowL N ++ [c]) (nL N)) := by
  refine setR_wf w (app_nd (rowL_nd w) h) (fun x hx => ?_) w.2.2.2.2.1 (fun x hx => List.mem_append_left _ (rowL_mem.mpr (w.2.2.2.2.2.1 x hx)))
  rcases List.mem_append.mp hx with y | y
  · exact rowL_lt w y
  · rw [List.mem_singleton.mp y]; exact hc
theorem mLos_ok (d : Nat) (h : mH) (L : LAY h) (T : Td) (N : Nt) (P : List Nt) (wT : wfT T) (wW : wfW T N P) (t : mT h T) (s : whG (gI h 150) 0 T N P) (c is : Int) : evOK (d + 6) 166 [Sum.inl c, Sum.inl is] h T (losS T N P c is) := by
  have c7 := wT.1
  have n7 : nM N ≤ 7 := Nat.le_trans wW.1.1 wT.1
  have L0 := L
  obtain ⟨k141, j141⟩ := lay_k L (a := 141) (t := 8) (n := 26) rfl; obtain ⟨k150, j150⟩ := lay_k L (a := 150) (t := 100) (n := 1851) rfl; have r141_16 : gR h 141 16 = some 150 := lay_r L rfl
  unfold losS
  by_cases q : 0 ≤ c ∧ c < tN T
  · have e := mCart_t (d + 3) h L c (tN T) t.1 q wT.1
    by_cases q2 : is = 0 ∨ is = 1
    · have e2 := in_t (d + 4) h is 0 1 (by omega)
      rw [if_pos ⟨q, q2⟩]
      obtain ⟨j, rfl⟩ : ∃ j : Nat, c = j := ⟨c.toNat, by omega⟩
      rw [Int.toNat_natCast]
      have hj : j < tN T := by omega
      have u := slG_now.mpr s.1
      have ep := mPlace_ok (d + 4) h L j (nM N) u.1 n7
      rw [plF_congr (g := fun i => (nR N i : Int)) (fun i _ hi => u.2.1 i (by omega))] at ep
      obtain ⟨G, ek, wG, uG⟩ := mKnow_ok (d + 4) h L0 T N P wT wW s
      have sG := wG.1
      have g7 : G 7 = nM N := sG.1
      have g8 : G 8 = nL N := sG.2.2.1
      by_cases z : plF (fun i => (nR N i : Int)) j (nM N) 0 = -9
      · rw [if_pos z]
        rcases q2 with i0 | i1
        · subst i0
          rw [if_neg (by decide)]
          have hn : j ∉ rowL N := fun y => by
            obtain ⟨i, hi, e⟩ := rowL_mem.mp y
            exact plF_no z i (Nat.zero_le _) (by omega) (by show (nR N i : Int) = j; omega)
          have wl := los0_wf wW.1 hj hn
          have m7 : nM N + 1 ≤ 7 := by
            have h1 : (rowL N ++ [j]).length ≤ tN T := wl.1
            rw [List.length_append, List.length_singleton, rowL_len] at h1
            omega
          have eN : losN N j 0 = setR N (rowL N ++ [j]) (nL N) := if_neg (by decide)
          have eM : nM (setR N (rowL N ++ [j]) (nL N)) = nM N + 1 := by
            show (rowL N ++ [j]).length = _
            rw [List.length_append, List.length_singleton, rowL_len]
          have s2 : slG (upI (upI G (nM N) j) 7 ((nM N + 1 : Nat) : Int)) 0 T (setR N (rowL N ++ [j]) (nL N)) := by
            refine setR_sl sG ?_ ?_ ?_ (fun k hk => by rw [upI_n (by omega), upI_n (by omega)])
            · refine rwO_app.mpr ⟨rwO_congr (fun i hi => ?_) (rwO_row sG), rwO_cons.mpr ⟨?_, rwO_nil _ _⟩⟩
              · rw [rowL_len] at hi
                rw [upI_n (by omega), upI_n (by omega)]
              · rw [rowL_len, Nat.zero_add, upI_n (by omega), upI_s]
            · rw [upI_s, ← eM]; rfl
            · rw [upI_n (by omega), upI_n (by omega)]; exact g8
          rw [eN, eM]
          refine evOK_aI (N := N) (G := G) (G2 := upI (upI G (nM N) j) 7 ((nM N + 1 : Nat) : Int)) wT (knP_wf wW wl) ?_ wG uG (fun k hk => by rw [upI_n (by omega), upI_n (by omega)]) s2
          have e7 : upI G (nM N) j 7 = nM N := by rw [upI_n (by omega)]; exact g7
          rw [en_166]
          simp (disch := (first | omega | (simp only [kd_sI, kd_sL, kd_sR, kd_cp, kd_aI]; omega) | (unfold catV; exact rfl) | (unfold catS; exact Nat.le_of_ble_eq_true rfl) | assumption)) only [q_166_0, q_166_1, q_166_2, q_166_5_t, q_166_5_f, q_166_8, q_166_9, q_166_10, q_166_11, q_166_14_t, q_166_14_f, q_166_17, q_166_18, q_166_19, q_166_20, q_166_21, q_166_24, q_166_25, q_166_26, q_166_28_t, q_166_28_f, q_166_31, q_166_32, q_166_35, q_166_36, q_166_37_t, q_166_37_f, q_166_40, q_166_42, q_166_43, q_166_44, q_166_47, q_166_48, q_166_49_t, q_166_49_f, q_166_52, q_166_53, q_166_54, q_166_57, q_166_58, q_166_61, q_166_63, q_166_64, q_166_65, q_166_66, q_166_67, q_166_68, q_166_69, q_166_72, q_166_74, q_166_75, q_166_76, q_166_77, q_166_78, q_166_79, q_166_80, q_166_81, q_166_82, q_166_83, q_166_86, q_166_87, q_166_90, q_166_91, q_166_92, q_166_95, q_166_97, q_166_98, q_166_99, q_166_100, q_166_101, q_166_102, q_166_105, q_166_107, q_166_108, q_166_109, q_166_110, q_166_111, q_166_112, q_166_113, q_166_116, q_166_118, q_166_119, aft_i, aft_l, aft_v, Int.toNat_natCast, kd_sI, kd_sL, kd_sR, kd_cp, gI_sL, gI_sR, gL_sI, gL_sR, gR_sI, gR_sL, gL_cp, gR_cp, kd_aI, gL_aI, gR_aI, gI_aI, gI_aIn, sI_aI, gI_sIn, Int.reduceToNat, Int.reduceAdd, Int.reduceSub, Int.reduceMul, Int.reduceNeg, Int.zero_add, e, e2, ep, z, r141_16, ek, g7, e7, upI_s, Int.natCast_succ]
        · subst i1
          rw [if_pos rfl]
          refine evOK_st wW s ?_
          rw [en_166]
          simp (disch := (first | omega | (simp only [kd_sI, kd_sL, kd_sR, kd_cp, kd_aI]; omega) | (unfold catV; exact rfl) | (unfold catS; exact Nat.le_of_ble_eq_true rfl) | assumption)) only [q_166_0, q_166_1, q_166_2, q_166_5_t, q_166_5_f, q_166_8, q_166_9, q_166_10, q_166_11, q_166_14_t, q_166_14_f, q_166_17, q_166_18, q_166_19, q_166_20, q_166_21, q_166_24, q_166_25, q_166_26, q_166_28_t, q_166_28_f, q_166_31, q_166_32, q_166_35, q_166_36, q_166_37_t, q_166_37_f, q_166_40, q_166_42, q_166_43, q_166_44, q_166_47, q_166_48, q_166_49_t, q_166_49_f, q_166_52, q_166_53, q_166_54, q_166_57, q_166_58, q_166_61, q_166_63, q_166_64, q_166_65, q_166_66, q_166_67, q_166_68, q_166_69, q_166_72, q_166_74, q_166_75, q_166_76, q_166_77, q_166_78, q_166_79, q_166_80, q_166_81, q_166_82, q_166_83, q_166_86, q_166_87, q_166_90, q_166_91, q_166_92, q_166_95, q_166_97, q_166_98, q_166_99, q_166_100, q_166_101, q_166_102, q_166_105, q_166_107, q_166_108, q_166_109, q_166_110, q_166_111, q_166_112, q_166_113, q_166_116, q_166_118, q_166_119, aft_i, aft_l, aft_v, Int.toNat_natCast, kd_sI, kd_sL, kd_sR, kd_cp, gI_sL, gI_sR, gL_sI, gL_sR, gR_sI, gR_sL, gL_cp, gR_cp, kd_aI, gL_aI, gR_aI, gI_aI, gI_aIn, sI_aI, gI_sIn, Int.reduceToNat, Int.reduceAdd, Int.reduceSub, Int.reduceMul, Int.reduceNeg, Int.zero_add, e, e2, ep, z]
      · rw [if_neg z]
        rcases q2 with i0 | i1
        · subst i0
          rw [if_pos rfl]
          refine evOK_st wW s ?_
          rw [en_166]
          simp (disch := (first | omega | (simp only [kd_sI, kd_sL, kd_sR, kd_cp, kd_aI]; omega) | (unfold catV; exact rfl) | (unfold catS; exact Nat.le_of_ble_eq_true rfl) | assumption)) only [q_166_0, q_166_1, q_166_2, q_166_5_t, q_166_5_f, q_166_8, q_166_9, q_166_10, q_166_11, q_166_14_t, q_166_14_f, q_166_17, q_166_18, q_166_19, q_166_20, q_166_21, q_166_24, q_166_25, q_166_26, q_166_28_t, q_166_28_f, q_166_31, q_166_32, q_166_35, q_166_36, q_166_37_t, q_166_37_f, q_166_40, q_166_42, q_166_43, q_166_44, q_166_47, q_166_48, q_166_49_t, q_166_49_f, q_166_52, q_166_53, q_166_54, q_166_57, q_166_58, q_166_61, q_166_63, q_166_64, q_166_65, q_166_66, q_166_67, q_166_68, q_166_69, q_166_72, q_166_74, q_166_75, q_166_76, q_166_77, q_166_78, q_166_79, q_166_80, q_166_81, q_166_82, q_166_83, q_166_86, q_166_87, q_166_90, q_166_91, q_166_92, q_166_95, q_166_97, q_166_98, q_166_99, q_166_100, q_166_101, q_166_102, q_166_105, q_166_107, q_166_108, q_166_109, q_166_110, q_166_111, q_166_112, q_166_113, q_166_116, q_166_118, q_166_119, aft_i, aft_l, aft_v, Int.toNat_natCast, kd_sI, kd_sL, kd_sR, kd_cp, gI_sL, gI_sR, gL_sI, gL_sR, gR_sI, gR_sL, gL_cp, gR_cp, kd_aI, gL_aI, gR_aI, gI_aI, gI_aIn, sI_aI, gI_sIn, Int.reduceToNat, Int.reduceAdd, Int.reduceSub, Int.reduceMul, Int.reduceNeg, Int.zero_add, e, e2, ep, z]
        · subst i1
          rw [if_neg (by decide)]
          obtain ⟨A, B, eA, eL, eP, eF⟩ := row_split wW.1 z
          have wl := los1_wf wW.1 (c := j)
          have eN : losN N j 1 = setR N ((rowL N).filter (fun x => decide (x ≠ j))) (clrB (nL N) j) := if_pos rfl
          have eM : nM (setR N ((rowL N).filter (fun x => decide (x ≠ j))) (clrB (nL N) j)) = nM N - 1 := by
            show ((rowL N).filter (fun x => decide (x ≠ j))).length = _
            rw [eF, List.length_append]
            omega
          obtain ⟨G2, eb, rb, ub⟩ := mBeh_ok (d + 4) (aI h 150 G) (lay_aI L0 _ _) A B j (by omega) (by rw [gI_aI, eL]; exact sG.1) (by rw [gI_aI, ← eA]; exact rwO_row sG)
          rw [gI_aI] at ub
          rw [aI_aI] at eb
          have b7 : G2 7 = nM N := (ub 7 (by omega)).trans g7
          have b8 : G2 8 = nL N := (ub 8 (by omega)).trans g8
          have s2 : slG (upI (upI G2 7 ((nM N - 1 : Nat) : Int)) 8 (clrB (nL N) j : Nat)) 0 T (setR N ((rowL N).filter (fun x => decide (x ≠ j))) (clrB (nL N) j)) := by
            refine setR_sl sG ?_ ?_ ?_ (fun k hk => by rw [upI_n (by omega), upI_n (by omega), ub k (by omega)])
            · rw [eF]
              refine rwO_congr (fun i hi => ?_) (rwO_app.mp rb).1
              rw [List.length_append] at hi
              rw [upI_n (by omega), upI_n (by omega)]
            · rw [upI_n (by omega), upI_s, ← eM]; rfl
            · exact upI_s _ _ _
          rw [eN, eM]
          refine evOK_aI (N := N) (G := G) (G2 := upI (upI G2 7 ((nM N - 1 : Nat) : Int)) 8 (clrB (nL N) j : Nat)) wT (knP_wf wW wl) ?_ wG uG (fun k hk => by rw [upI_n (by omega), upI_n (by omega), ub k (by omega)]) s2
          rw [eP] at ep
          have hA9 : (A.length : Int) ≠ -9 := by omega
          have sh := shl1 (j := j) (by omega)
          have cl := clrI_n (a := nL N) (2 ^ j) (by have := wW.1.2.2.2.2.1; omega)
          have e8 : upI G2 7 ((nM N : Int) - 1) 8 = nL N := by rw [upI_n (by omega)]; exact b8
          have em : ((nM N - 1 : Nat) : Int) = (nM N : Int) - 1 := by omega
          have e7 : upI (upI G2 7 ((nM N : Int) - 1)) 8 (clrB (nL N) j : Nat) 7 = (nM N : Int) - 1 := by rw [upI_n (by omega), upI_s]
          rw [em]
          unfold clrB at e7 ⊢
          rw [en_166]
          simp (disch := (first | omega | (simp only [kd_sI, kd_sL, kd_sR, kd_cp, kd_aI]; omega) | (unfold catV; exact rfl) | (unfold catS; exact Nat.le_of_ble_eq_true rfl) | assumption)) only [q_166_0, q_166_1, q_166_2, q_166_5_t, q_166_5_f, q_166_8, q_166_9, q_166_10, q_166_11, q_166_14_t, q_166_14_f, q_166_17, q_166_18, q_166_19, q_166_20, q_166_21, q_166_24, q_166_25, q_166_26, q_166_28_t, q_166_28_f, q_166_31, q_166_32, q_166_35, q_166_36, q_166_37_t, q_166_37_f, q_166_40, q_166_42, q_166_43, q_166_44, q_166_47, q_166_48, q_166_49_t, q_166_49_f, q_166_52, q_166_53, q_166_54, q_166_57, q_166_58, q_166_61, q_166_63, q_166_64, q_166_65, q_166_66, q_166_67, q_166_68, q_166_69, q_166_72, q_166_74, q_166_75, q_166_76, q_166_77, q_166_78, q_166_79, q_166_80, q_166_81, q_166_82, q_166_83, q_166_86, q_166_87, q_166_90, q_166_91, q_166_92, q_166_95, q_166_97, q_166_98, q_166_99, q_166_100, q_166_101, q_166_102, q_166_105, q_166_107, q_166_108, q_166_109, q_166_110, q_166_111, q_166_112, q_166_113, q_166_116, q_166_118, q_166_119, aft_i, aft_l, aft_v, Int.toNat_natCast, kd_sI, kd_sL, kd_sR, kd_cp, gI_sL, gI_sR, gL_sI, gL_sR, gR_sI, gR_sL, gL_cp, gR_cp, kd_aI, gL_aI, gR_aI, gI_aI, gI_aIn, sI_aI, gI_sIn, Int.reduceToNat, Int.reduceAdd, Int.reduceSub, Int.reduceMul, Int.reduceNeg, Int.zero_add, e, e2, ep, hA9, r141_16, ek, eb, b7, e8, sh, cl, e7]
    · have e2 := in_f (d + 4) h is 0 1 (by omega)
      rw [if_neg (fun z => q2 z.2)]
      refine evOK_st wW s ?_
      rw [en_166]
      simp (disch := (first | omega | (simp only [kd_sI, kd_sL, kd_sR, kd_cp, kd_aI]; omega) | (unfold catV; exact rfl) | (unfold catS; exact Nat.le_of_ble_eq_true rfl) | assumption)) only [q_166_0, q_166_1, q_166_2, q_166_5_t, q_166_5_f, q_166_8, q_166_9, q_166_10, q_166_11, q_166_14_t, q_166_14_f, q_166_17, q_166_18, q_166_19, q_166_20, q_166_21, q_166_24, q_166_25, q_166_26, q_166_28_t, q_166_28_f, q_166_31, q_166_32, q_166_35, q_166_36, q_166_37_t, q_166_37_f, q_166_40, q_166_42, q_166_43, q_166_44, q_166_47, q_166_48, q_166_49_t, q_166_49_f, q_166_52, q_166_53, q_166_54, q_166_57, q_166_58, q_166_61, q_166_63, q_166_64, q_166_65, q_166_66, q_166_67, q_166_68, q_166_69, q_166_72, q_166_74, q_166_75, q_166_76, q_166_77, q_166_78, q_166_79, q_166_80, q_166_81, q_166_82, q_166_83, q_166_86, q_166_87, q_166_90, q_166_91, q_166_92, q_166_95, q_166_97, q_166_98, q_166_99, q_166_100, q_166_101, q_166_102, q_166_105, q_166_107, q_166_108, q_166_109, q_166_110, q_166_111, q_166_112, q_166_113, q_166_116, q_166_118, q_166_119, aft_i, aft_l, aft_v, Int.toNat_natCast, kd_sI, kd_sL, kd_sR, kd_cp, gI_sL, gI_sR, gL_sI, gL_sR, gR_sI, gR_sL, gL_cp, gR_cp, kd_aI, gL_aI, gR_aI, gI_aI, gI_aIn, sI_aI, gI_sIn, Int.reduceToNat, Int.reduceAdd, Int.reduceSub, Int.reduceMul, Int.reduceNeg, Int.zero_add, e, e2]
  · have e := mCart_f (d + 3) h L c (tN T) t.1 q wT.1
    rw [if_neg (fun z => q z.1)]
    refine evOK_st wW s ?_
    rw [en_166]
    simp (disch := (first | omega | (simp only [kd_sI, kd_sL, kd_sR, kd_cp, kd_aI]; omega) | (unfold catV; exact rfl) | (unfold catS; exact Nat.le_of_ble_eq_true rfl) | assumption)) only [q_166_0, q_166_1, q_166_2, q_166_5_t, q_166_5_f, q_166_8, q_166_9, q_166_10, q_166_11, q_166_14_t, q_166_14_f, q_166_17, q_166_18, q_166_19, q_166_20, q_166_21, q_166_24, q_166_25, q_166_26, q_166_28_t, q_166_28_f, q_166_31, q_166_32, q_166_35, q_166_36, q_166_37_t, q_166_37_f, q_166_40, q_166_42, q_166_43, q_166_44, q_166_47, q_166_48, q_166_49_t, q_166_49_f, q_166_52, q_166_53, q_166_54, q_166_57, q_166_58, q_166_61, q_166_63, q_166_64, q_166_65, q_166_66, q_166_67, q_166_68, q_166_69, q_166_72, q_166_74, q_166_75, q_166_76, q_166_77, q_166_78, q_166_79, q_166_80, q_166_81, q_166_82, q_166_83, q_166_86, q_166_87, q_166_90, q_166_91, q_166_92, q_166_95, q_166_97, q_166_98, q_166_99, q_166_100, q_166_101, q_166_102, q_166_105, q_166_107, q_166_108, q_166_109, q_166_110, q_166_111, q_166_112, q_166_113, q_166_116, q_166_118, q_166_119, aft_i, aft_l, aft_v, Int.toNat_natCast, kd_sI, kd_sL, kd_sR, kd_cp, gI_sL, gI_sR, gL_sI, gL_sR, gR_sI, gR_sL, gL_cp, gR_cp, kd_aI, gL_aI, gR_aI, gI_aI, gI_aIn, sI_aI, gI_sIn, Int.reduceToNat, Int.reduceAdd, Int.reduceSub, Int.reduceMul, Int.reduceNeg, Int.zero_add, e]
/-- the first i and the last i of n turned about -/
def revF (G : Nat → Int) (n i : Nat) : Nat → Int := fun j => if j < n ∧ (j < i ∨ n ≤ j + i) then G (n - 1 - j) else G j
theorem revF_0 (G : Nat → Int) (n : Nat) : revF G n 0 = G := by
  funext j
  unfold revF
  rw [if_neg (by omega)]
theorem revF_mid {G : Nat → Int} {n i j : Nat} (h1 : i ≤ j) (h2 : j + i < n) : revF G n i j = G j := by
  unfold revF
  rw [if_neg (by omega)]
theorem revF_up {G : Nat → Int} {n i : Nat} (h : i < n / 2) : upI (upI (revF G n i) i (G (n - 1 - i))) (n - 1 - i) (G i) = revF G n (i + 1) := by
  funext j
  unfold upI revF
  by_cases z : j = n - 1 - i
  · rw [if_pos z, if_pos (by omega), z]
    exact congrArg G (by omega)
  · rw [if_neg z]
    by_cases z2 : j = i
    · rw [if_pos z2, if_pos (by omega), z2]
    · rw [if_neg z2]
      by_cases z3 : j < n ∧ (j < i ∨ n ≤ j + i)
      · rw [if_pos z3, if_pos (by omega)]
      · rw [if_neg z3, if_neg (by omega)]
theorem revF_out {G : Nat → Int} {n i j : Nat} (h : n ≤ j) : revF G n i j = G j := by
  unfold revF
  rw [if_neg (by omega)]
theorem revF_row {G : Nat → Int} {l : List Nat} (r : rwO G 0 l) : rwO (revF G l.length (l.length / 2)) 0 l.reverse := fun i q => by
  rw [List.length_reverse] at q
  rw [List.getElem_reverse, Nat.zero_add]
  have := r (l.length - 1 - i) (by omega)
  rw [Nat.zero_add] at this
  rw [← this]
  unfold revF
  by_cases z : i < l.length ∧ (i < l.length / 2 ∨ l.length ≤ i + l.length / 2)
  · rw [if_pos z]
  · rw [if_neg z]
    exact congrArg G (by omega)
def stoN (N : Nt) : Nt := setR N (rowL N).reverse (nL N)
def stoS (N : Nt) (P : List Nt) : Int × Nt × List Nt := (if nM N = 0 then -9 else (nR (stoN N) 0 : Int), stoN N, knP P N)
theorem sto_wf {T : Td} {N : Nt} (w : wfN T N) : wfN T (stoN N) := by
  refine setR_wf w ((List.reverse_perm _).nodup_iff.mpr (rowL_nd w)) (fun x hx => rowL_lt w (List.mem_reverse.mp hx)) w.2.2.2.2.1 (fun x hx => List.mem_reverse.mpr (rowL_mem.mpr (w.2.2.2.2.2.1 x hx)))
theorem mSto_loop (d : Nat) (h : mH) (L : LAY h) (n : Nat) (hn : n ≤ 7) : ∀ (k i : Nat) (a3 : mV), catV a3 = 1 → i + k = n / 2 → ∃ a2 a4 : mV, resA (callA d) 163 (14, [Sum.inr (Sum.inr (some 141)), Sum.inl (n : Int), Sum.inl (i : Int), a3], [], aI h 150 (revF (gI h 150) n i)) = resA (callA d) 163 (69, [Sum.inr (Sum.inr (some 141)), Sum.inl (n : Int), a2, a4], [], aI h 150 (revF (gI h 150) n (n / 2)))
  | 0, i, a3, c3, hi => by
    have e : i = n / 2 := by omega
    subst e
    refine ⟨Sum.inl ((n / 2 : Nat) : Int), a3, ?_⟩
    simp (disch := (first | omega | (simp only [kd_sI, kd_sL, kd_sR, kd_cp, kd_aI]; omega) | (unfold catV; exact rfl) | (unfold catS; exact Nat.le_of_ble_eq_true rfl) | assumption)) only [q_163_0, q_163_1, q_163_4, q_163_5, q_163_8, q_163_10, q_163_11, q_163_12, q_163_13, q_163_14, q_163_15, q_163_16, q_163_17, q_163_18_t, q_163_18_f, q_163_21, q_163_22, q_163_25, q_163_26, q_163_27, q_163_28, q_163_29, q_163_30, q_163_31, q_163_34, q_163_35, q_163_36, q_163_37, q_163_38, q_163_41, q_163_42, q_163_43, q_163_44, q_163_45, q_163_46, q_163_47, q_163_48, q_163_49, q_163_50, q_163_51, q_163_54, q_163_55, q_163_56, q_163_57, q_163_58, q_163_59, q_163_60, q_163_61, q_163_62, q_163_63, q_163_66, q_163_70_t, q_163_70_f, q_163_73, q_163_75, q_163_78, q_163_79, q_163_82, q_163_83, q_163_84, aft_i, aft_l, aft_v, Int.toNat_natCast, kd_sI, kd_sL, kd_sR, kd_cp, gI_sL, gI_sR, gL_sI, gL_sR, gR_sI, gR_sL, gL_cp, gR_cp, kd_aI, gL_aI, gR_aI, gI_aI, gI_aIn, sI_aI, gI_sIn, Int.reduceToNat, Int.reduceAdd, Int.reduceSub, Int.reduceMul, Int.reduceNeg, Int.zero_add]
  | k + 1, i, a3, c3, hi => by
    obtain ⟨a2, a4, ih⟩ := mSto_loop d h L n hn k (i + 1) (Sum.inl (gI h 150 i)) rfl (by omega)
    refine ⟨a2, a4, ?_⟩
    obtain ⟨k141, j141⟩ := lay_k L (a := 141) (t := 8) (n := 26) rfl; obtain ⟨k150, j150⟩ := lay_k L (a := 150) (t := 100) (n := 1851) rfl; have r141_16 : gR h 141 16 = some 150 := lay_r L rfl
    have e1 : ((n : Int) - 1 - (i : Int)).toNat = n - 1 - i := by omega
    have e2 : revF (gI h 150) n i i = gI h 150 i := revF_mid (by omega) (by omega)
    have e3 : revF (gI h 150) n i (n - 1 - i) = gI h 150 (n - 1 - i) := revF_mid (by omega) (by omega)
    rw [q_163_14]
    simp (disch := (first | omega | (simp only [kd_sI, kd_sL, kd_sR, kd_cp, kd_aI]; omega) | (unfold catV; exact rfl) | (unfold catS; exact Nat.le_of_ble_eq_true rfl) | assumption)) only [q_163_0, q_163_1, q_163_4, q_163_5, q_163_8, q_163_10, q_163_11, q_163_12, q_163_13, q_163_15, q_163_16, q_163_17, q_163_18_t, q_163_18_f, q_163_21, q_163_22, q_163_25, q_163_26, q_163_27, q_163_28, q_163_29, q_163_30, q_163_31, q_163_34, q_163_35, q_163_36, q_163_37, q_163_38, q_163_41, q_163_42, q_163_43, q_163_44, q_163_45, q_163_46, q_163_47, q_163_48, q_163_49, q_163_50, q_163_51, q_163_54, q_163_55, q_163_56, q_163_57, q_163_58, q_163_59, q_163_60, q_163_61, q_163_62, q_163_63, q_163_66, q_163_70_t, q_163_70_f, q_163_73, q_163_75, q_163_78, q_163_79, q_163_82, q_163_83, q_163_84, aft_i, aft_l, aft_v, Int.toNat_natCast, kd_sI, kd_sL, kd_sR, kd_cp, gI_sL, gI_sR, gL_sI, gL_sR, gR_sI, gR_sL, gL_cp, gR_cp, kd_aI, gL_aI, gR_aI, gI_aI, gI_aIn, sI_aI, gI_sIn, Int.reduceToNat, Int.reduceAdd, Int.reduceSub, Int.reduceMul, Int.reduceNeg, Int.zero_add, r141_16, e1, e2, e3]
    rw [← revF_up (by omega)] at ih
    exact ih
theorem mSto_ok (d : Nat) (h : mH) (L : LAY h) (T : Td) (N : Nt) (P : List Nt) (wT : wfT T) (wW : wfW T N P) (s : whG (gI h 150) 0 T N P) : evOK (d + 6) 163 [] h T (stoS N P) := by
  have c7 := wT.1
  have n7 : nM N ≤ 7 := Nat.le_trans wW.1.1 wT.1
  have L0 := L
  obtain ⟨k141, j141⟩ := lay_k L (a := 141) (t := 8) (n := 26) rfl; obtain ⟨k150, j150⟩ := lay_k L (a := 150) (t := 100) (n := 1851) rfl; have r141_16 : gR h 141 16 = some 150 := lay_r L rfl
  obtain ⟨G, ek, wG, uG⟩ := mKnow_ok (d + 4) h L0 T N P wT wW s
  have sG := wG.1
  have g7 : G 7 = nM N := sG.1
  have g8 : G 8 = nL N := sG.2.2.1
  obtain ⟨a2, a4, el⟩ := mSto_loop (d + 5) (aI h 150 G) (lay_aI L0 _ _) (nM N) n7 (nM N / 2) 0 (Sum.inr (Sum.inr none)) rfl (Nat.zero_add _)
  rw [gI_aI, revF_0, aI_aI, aI_aI, show ((0 : Nat) : Int) = 0 from rfl] at el
  have wl := sto_wf wW.1
  have ro := rwO_row sG
  have rr := revF_row ro
  rw [rowL_len] at rr
  have lr : (rowL N).reverse.length = nM N := by rw [List.length_reverse, rowL_len]
  have s2 : slG (revF G (nM N) (nM N / 2)) 0 T (stoN N) := by
    refine setR_sl sG rr ?_ ?_ (fun k hk => revF_out (by omega))
    · rw [revF_out (by omega), lr]; exact g7
    · rw [revF_out (by omega)]; exact g8
  refine evOK_aI (N := N) (G := G) (G2 := revF G (nM N) (nM N / 2)) wT (knP_wf wW wl) ?_ wG uG (fun k hk => revF_out (by omega)) s2
  rw [en_163]
  by_cases z : nM N = 0
  · rw [if_pos z]
    have z2 : (nM N : Int) = 0 := by omega
    rw [z2] at el g7
    simp (disch := (first | omega | (simp only [kd_sI, kd_sL, kd_sR, kd_cp, kd_aI]; omega) | (unfold catV; exact rfl) | (unfold catS; exact Nat.le_of_ble_eq_true rfl) | assumption)) only [q_163_0, q_163_1, q_163_4, q_163_5, q_163_8, q_163_10, q_163_11, q_163_12, q_163_13, q_163_15, q_163_16, q_163_17, q_163_18_t, q_163_18_f, q_163_21, q_163_22, q_163_25, q_163_26, q_163_27, q_163_28, q_163_29, q_163_30, q_163_31, q_163_34, q_163_35, q_163_36, q_163_37, q_163_38, q_163_41, q_163_42, q_163_43, q_163_44, q_163_45, q_163_46, q_163_47, q_163_48, q_163_49, q_163_50, q_163_51, q_163_54, q_163_55, q_163_56, q_163_57, q_163_58, q_163_59, q_163_60, q_163_61, q_163_62, q_163_63, q_163_66, q_163_69, q_163_70_t, q_163_70_f, q_163_73, q_163_75, q_163_78, q_163_79, q_163_82, q_163_83, q_163_84, aft_i, aft_l, aft_v, Int.toNat_natCast, kd_sI, kd_sL, kd_sR, kd_cp, gI_sL, gI_sR, gL_sI, gL_sR, gR_sI, gR_sL, gL_cp, gR_cp, kd_aI, gL_aI, gR_aI, gI_aI, gI_aIn, sI_aI, gI_sIn, Int.reduceToNat, Int.reduceAdd, Int.reduceSub, Int.reduceMul, Int.reduceNeg, Int.zero_add, ek, r141_16, g7, el]
  · rw [if_neg z]
    have z2 : (nM N : Int) ≠ 0 := by omega
    have e0 : revF G (nM N) (nM N / 2) 0 = nR (stoN N) 0 := s2.2.1 0 (by show 0 < (rowL N).reverse.length; omega)
    simp (disch := (first | omega | (simp only [kd_sI, kd_sL, kd_sR, kd_cp, kd_aI]; omega) | (unfold catV; exact rfl) | (unfold catS; exact Nat.le_of_ble_eq_true rfl) | assumption)) only [q_163_0, q_163_1, q_163_4, q_163_5, q_163_8, q_163_10, q_163_11, q_163_12, q_163_13, q_163_15, q_163_16, q_163_17, q_163_18_t, q_163_18_f, q_163_21, q_163_22, q_163_25, q_163_26, q_163_27, q_163_28, q_163_29, q_163_30, q_163_31, q_163_34, q_163_35, q_163_36, q_163_37, q_163_38, q_163_41, q_163_42, q_163_43, q_163_44, q_163_45, q_163_46, q_163_47, q_163_48, q_163_49, q_163_50, q_163_51, q_163_54, q_163_55, q_163_56, q_163_57, q_163_58, q_163_59, q_163_60, q_163_61, q_163_62, q_163_63, q_163_66, q_163_69, q_163_70_t, q_163_70_f, q_163_73, q_163_75, q_163_78, q_163_79, q_163_82, q_163_83, q_163_84, aft_i, aft_l, aft_v, Int.toNat_natCast, kd_sI, kd_sL, kd_sR, kd_cp, gI_sL, gI_sR, gL_sI, gL_sR, gR_sI, gR_sL, gL_cp, gR_cp, kd_aI, gL_aI, gR_aI, gI_aI, gI_aIn, sI_aI, gI_sIn, Int.reduceToNat, Int.reduceAdd, Int.reduceSub, Int.reduceMul, Int.reduceNeg, Int.zero_add, ek, r141_16, g7, el, e0]
/-- at nine: those that are late go behind the others, in their order -/
def ninL (N : Nt) : List Nat := (rowL N).filter (fun c => !(nL N).testBit c) ++ (rowL N).filter (fun c => (nL N).testBit c)
def ninN (N : Nt) : Nt := setR N (ninL N) 0
def ninS (N : Nt) (P : List Nt) : Int × Nt × List Nt := (((rowL N).filter (fun c => (nL N).testBit c)).length, ninN N, knP P N)
theorem nin_perm (N : Nt) : (ninL N).Perm (rowL N) := (List.perm_append_comm).trans (List.filter_append_perm _ _)
theorem nin_wf {T : Td} {N : Nt} (w : wfN T N) : wfN T (ninN N) := setR_wf w ((nin_perm N).nodup_iff.mpr (rowL_nd w)) (fun x hx => rowL_lt w ((nin_perm N).mem_iff.mp hx)) (by omega) (fun x hx => by rw [Nat.zero_testBit] at hx; cases hx)
theorem mNin_a (d : Nat) (late n : Nat) (hl : late < 128) (hn : n ≤ 7) : ∀ (D A C : List Nat) (h : mH) (L : LAY h) (k : Nat), k + D.length = n → A.length + D.length + C.length = n → (∀ c, c ∈ D → c < 7) → gI h 150 7 = n → gI h 150 8 = late → rwO (gI h 150) 0 (A ++ D ++ C) → ∃ G, (∃ a2 a3 : Int, resA (callA (d + 2)) 161 (10, [Sum.inr (Sum.inr (some 141)), Sum.inl (C.length : Int), Sum.inl (A.length : Int), Sum.inl (k : Int)], [], h) = resA (callA (d + 2)) 161 (56, [Sum.inr (Sum.inr (some 141)), Sum.inl ((C ++ D.filter (fun c => late.testBit c)).length : Int), Sum.inl a2, Sum.inl a3], [], aI h 150 G)) ∧ rwO G 0 ((A ++ D.filter (fun c => !late.testBit c)) ++ (C ++ D.filter (fun c => late.testBit c))) ∧ ∀ k, 7 ≤ k → G k = gI h 150 k
  | [], A, C, h, L, k, hk, hs, hD, h7, h8, hr => by
    have e : k = n := by simpa using hk
    subst e
    obtain ⟨k141, j141⟩ := lay_k L (a := 141) (t := 8) (n := 26) rfl; obtain ⟨k150, j150⟩ := lay_k L (a := 150) (t := 100) (n := 1851) rfl; have r141_16 : gR h 141 16 = some 150 := lay_r L rfl
    refine ⟨gI h 150, ⟨(A.length : Int), (k : Int), ?_⟩, ?_, fun _ _ => rfl⟩
    · rw [aI_id]
      simp only [List.filter_nil, List.append_nil]
      simp (disch := (first | omega | (simp only [kd_sI, kd_sL, kd_sR, kd_cp, kd_aI]; omega) | (unfold catV; exact rfl) | (unfold catS; exact Nat.le_of_ble_eq_true rfl) | assumption)) only [q_161_0, q_161_1, q_161_4, q_161_5, q_161_6, q_161_7, q_161_8, q_161_9, q_161_10, q_161_11, q_161_12, q_161_15, q_161_17, q_161_18_t, q_161_18_f, q_161_21, q_161_22, q_161_23, q_161_26, q_161_27, q_161_28, q_161_29, q_161_30, q_161_33_t, q_161_33_f, q_161_36, q_161_37, q_161_38, q_161_41, q_161_44, q_161_47, q_161_50, q_161_53, q_161_57, q_161_58, q_161_59, q_161_60, q_161_63, q_161_65, q_161_66_t, q_161_66_f, q_161_69, q_161_70, q_161_73, q_161_75, q_161_76, q_161_77, q_161_78, q_161_79, q_161_82, q_161_83, q_161_84, q_161_85, q_161_86, q_161_87, q_161_88, q_161_89, q_161_90, q_161_91, q_161_94, q_161_97, q_161_98, aft_i, aft_l, aft_v, Int.toNat_natCast, kd_sI, kd_sL, kd_sR, kd_cp, gI_sL, gI_sR, gL_sI, gL_sR, gR_sI, gR_sL, gL_cp, gR_cp, kd_aI, gL_aI, gR_aI, gI_aI, gI_aIn, sI_aI, gI_sIn, Int.reduceToNat, Int.reduceAdd, Int.reduceSub, Int.reduceMul, Int.reduceNeg, Int.zero_add, r141_16, h7]
    · simpa only [List.filter_nil, List.append_nil] using hr
  | x :: D, A, C, h, L, k, hk, hs, hD, h7, h8, hr => by
    rw [List.length_cons] at hk hs
    have hx : x < 7 := hD x List.mem_cons_self
    have rx : gI h 150 A.length = x := by
      rw [List.append_assoc, List.cons_append] at hr
      have := (rwO_cons.mp (rwO_app.mp hr).2).1
      rw [Nat.zero_add] at this
      exact this
    have L0 := L
    obtain ⟨k141, j141⟩ := lay_k L (a := 141) (t := 8) (n := 26) rfl; obtain ⟨k150, j150⟩ := lay_k L (a := 150) (t := 100) (n := 1851) rfl; have r141_16 : gR h 141 16 = some 150 := lay_r L rfl
    rw [q_161_10]
    by_cases z : late.testBit x = true
    · have em := mLate_t (d + 1) h L x late h8 hl (by omega) z
      have hr2 : rwO (gI h 150) 0 (A ++ x :: (D ++ C)) := by rw [← List.cons_append, ← List.append_assoc]; exact hr
      obtain ⟨G, eb, rb, ub⟩ := mBeh_ok (d + 1) h L A (D ++ C) x (by rw [List.length_append]; omega) (by rw [List.length_append, h7]; omega) hr2
      obtain ⟨G3, ⟨a2, a3, ih⟩, r3, u3⟩ := mNin_a d late n hl hn D A (C ++ [x]) (aI h 150 G) (lay_aI L0 _ _) (k + 1) (by omega) (by rw [List.length_append, List.length_singleton]; omega) (fun c hc => hD c (List.mem_cons_of_mem _ hc)) (by rw [gI_aI, ub 7 (by omega)]; exact h7) (by rw [gI_aI, ub 8 (by omega)]; exact h8) (by rw [gI_aI, ← List.append_assoc, List.append_assoc A D C]; exact rb)
      have ef : (x :: D).filter (fun c => late.testBit c) = x :: D.filter (fun c => late.testBit c) := List.filter_cons_of_pos z
      have eg : (x :: D).filter (fun c => !late.testBit c) = D.filter (fun c => !late.testBit c) := List.filter_cons_of_neg (by rw [z]; decide)
      rw [gI_aI] at u3
      rw [aI_aI, List.append_assoc, List.singleton_append, List.length_append, List.length_singleton] at ih
      rw [ef, eg]
      refine ⟨G3, ⟨a2, a3, ?_⟩, ?_, fun k hk => (u3 k hk).trans (ub k hk)⟩
      · simp (disch := (first | omega | (simp only [kd_sI, kd_sL, kd_sR, kd_cp, kd_aI]; omega) | (unfold catV; exact rfl) | (unfold catS; exact Nat.le_of_ble_eq_true rfl) | assumption)) only [q_161_0, q_161_1, q_161_4, q_161_5, q_161_6, q_161_7, q_161_8, q_161_9, q_161_11, q_161_12, q_161_15, q_161_17, q_161_18_t, q_161_18_f, q_161_21, q_161_22, q_161_23, q_161_26, q_161_27, q_161_28, q_161_29, q_161_30, q_161_33_t, q_161_33_f, q_161_36, q_161_37, q_161_38, q_161_41, q_161_44, q_161_47, q_161_50, q_161_53, q_161_57, q_161_58, q_161_59, q_161_60, q_161_63, q_161_65, q_161_66_t, q_161_66_f, q_161_69, q_161_70, q_161_73, q_161_75, q_161_76, q_161_77, q_161_78, q_161_79, q_161_82, q_161_83, q_161_84, q_161_85, q_161_86, q_161_87, q_161_88, q_161_89, q_161_90, q_161_91, q_161_94, q_161_97, q_161_98, aft_i, aft_l, aft_v, Int.toNat_natCast, kd_sI, kd_sL, kd_sR, kd_cp, gI_sL, gI_sR, gL_sI, gL_sR, gR_sI, gR_sL, gL_cp, gR_cp, kd_aI, gL_aI, gR_aI, gI_aI, gI_aIn, sI_aI, gI_sIn, Int.reduceToNat, Int.reduceAdd, Int.reduceSub, Int.reduceMul, Int.reduceNeg, Int.zero_add, r141_16, h7, rx, em, eb]
        exact ih
      · rw [List.append_assoc C, List.singleton_append] at r3
        exact r3
    · have zf : late.testBit x = false := by simpa using z
      have em := mLate_f (d + 1) h L x late h8 hl (by omega) zf
      obtain ⟨G3, ⟨a2, a3, ih⟩, r3, u3⟩ := mNin_a d late n hl hn D (A ++ [x]) C h L0 (k + 1) (by omega) (by rw [List.length_append, List.length_singleton]; omega) (fun c hc => hD c (List.mem_cons_of_mem _ hc)) h7 h8 (by rw [List.append_assoc A, List.singleton_append]; exact hr)
      have ef : (x :: D).filter (fun c => late.testBit c) = D.filter (fun c => late.testBit c) := List.filter_cons_of_neg z
      have eg : (x :: D).filter (fun c => !late.testBit c) = x :: D.filter (fun c => !late.testBit c) := List.filter_cons_of_pos (by rw [zf]; decide)
      rw [List.length_append, List.length_singleton] at ih
      rw [ef, eg]
      refine ⟨G3, ⟨a2, a3, ?_⟩, ?_, u3⟩
      · simp (disch := (first | omega | (simp only [kd_sI, kd_sL, kd_sR, kd_cp, kd_aI]; omega) | (unfold catV; exact rfl) | (unfold catS; exact Nat.le_of_ble_eq_true rfl) | assumption)) only [q_161_0, q_161_1, q_161_4, q_161_5, q_161_6, q_161_7, q_161_8, q_161_9, q_161_11, q_161_12, q_161_15, q_161_17, q_161_18_t, q_161_18_f, q_161_21, q_161_22, q_161_23, q_161_26, q_161_27, q_161_28, q_161_29, q_161_30, q_161_33_t, q_161_33_f, q_161_36, q_161_37, q_161_38, q_161_41, q_161_44, q_161_47, q_161_50, q_161_53, q_161_57, q_161_58, q_161_59, q_161_60, q_161_63, q_161_65, q_161_66_t, q_161_66_f, q_161_69, q_161_70, q_161_73, q_161_75, q_161_76, q_161_77, q_161_78, q_161_79, q_161_82, q_161_83, q_161_84, q_161_85, q_161_86, q_161_87, q_161_88, q_161_89, q_161_90, q_161_91, q_161_94, q_161_97, q_161_98, aft_i, aft_l, aft_v, Int.toNat_natCast, kd_sI, kd_sL, kd_sR, kd_cp, gI_sL, gI_sR, gL_sI, gL_sR, gR_sI, gR_sL, gL_cp, gR_cp, kd_aI, gL_aI, gR_aI, gI_aI, gI_aIn, sI_aI, gI_sIn, Int.reduceToNat, Int.reduceAdd, Int.reduceSub, Int.reduceMul, Int.reduceNeg, Int.zero_add, r141_16, h7, rx, em]
        exact ih
      · rw [List.append_assoc A, List.singleton_append] at r3
        exact r3
/-- late, the first i of the row cleared -/
def clrN (late : Nat) (r : Nat → Nat) : Nat → Nat
  | 0 => late
  | i + 1 => clrB (clrN late r i) (r i)
theorem clrN_lt {late : Nat} {r : Nat → Nat} (h : late < 128) : ∀ i, clrN late r i < 128
  | 0 => h
  | i + 1 => clrB_lt (clrN_lt h i)
theorem clrN_bit {late : Nat} {r : Nat → Nat} {b : Nat} : ∀ {i : Nat}, (clrN late r i).testBit b = true ↔ late.testBit b = true ∧ ∀ j, j < i → r j ≠ b
  | 0 => ⟨fun h => ⟨h, fun j hj => absurd hj (Nat.not_lt_zero _)⟩, fun h => h.1⟩
  | i + 1 => by
    unfold clrN
    rw [clrB_bit, Bool.and_eq_true, clrN_bit (i := i), Bool.not_eq_true', decide_eq_false_iff_not]
    refine ⟨fun h => ⟨h.1.1, fun j hj => ?_⟩, fun h => ⟨⟨h.1, fun j hj => h.2 j (by omega)⟩, h.2 i (by omega)⟩⟩
    by_cases z : j = i
    · subst z; exact h.2
    · exact h.1.2 j (by omega)
theorem mNin_b (d : Nat) (h : mH) (L : LAY h) (late n : Nat) (r : Nat → Nat) (hl : late < 128) (hn : n ≤ 7) (h7 : gI h 150 7 = n) (hr : ∀ i, i < n → gI h 150 i = r i ∧ r i < 7) (a1 : Int) (a2 : mV) (c2 : catV a2 = 1) : ∀ (k i : Nat), i + k = n → resA (callA d) 161 (58, [Sum.inr (Sum.inr (some 141)), Sum.inl a1, a2, Sum.inl (i : Int)], [], aI h 150 (upI (gI h 150) 8 (clrN late r i))) = some (some (Sum.inl a1), aI h 150 (upI (gI h 150) 8 (clrN late r n)))
  | 0, i, hi => by
    have e : i = n := by omega
    subst e
    obtain ⟨k141, j141⟩ := lay_k L (a := 141) (t := 8) (n := 26) rfl; obtain ⟨k150, j150⟩ := lay_k L (a := 150) (t := 100) (n := 1851) rfl; have r141_16 : gR h 141 16 = some 150 := lay_r L rfl
    have e7 : upI (gI h 150) 8 (clrN late r i) 7 = i := by rw [upI_n (by omega)]; exact h7
    simp (disch := (first | omega | (simp only [kd_sI, kd_sL, kd_sR, kd_cp, kd_aI]; omega) | (unfold catV; exact rfl) | (unfold catS; exact Nat.le_of_ble_eq_true rfl) | assumption)) only [q_161_0, q_161_1, q_161_4, q_161_5, q_161_6, q_161_7, q_161_8, q_161_9, q_161_10, q_161_11, q_161_12, q_161_15, q_161_17, q_161_18_t, q_161_18_f, q_161_21, q_161_22, q_161_23, q_161_26, q_161_27, q_161_28, q_161_29, q_161_30, q_161_33_t, q_161_33_f, q_161_36, q_161_37, q_161_38, q_161_41, q_161_44, q_161_47, q_161_50, q_161_53, q_161_56, q_161_57, q_161_58, q_161_59, q_161_60, q_161_63, q_161_65, q_161_66_t, q_161_66_f, q_161_69, q_161_70, q_161_73, q_161_75, q_161_76, q_161_77, q_161_78, q_161_79, q_161_82, q_161_83, q_161_84, q_161_85, q_161_86, q_161_87, q_161_88, q_161_89, q_161_90, q_161_91, q_161_94, q_161_97, q_161_98, aft_i, aft_l, aft_v, Int.toNat_natCast, kd_sI, kd_sL, kd_sR, kd_cp, gI_sL, gI_sR, gL_sI, gL_sR, gR_sI, gR_sL, gL_cp, gR_cp, kd_aI, gL_aI, gR_aI, gI_aI, gI_aIn, sI_aI, gI_sIn, Int.reduceToNat, Int.reduceAdd, Int.reduceSub, Int.reduceMul, Int.reduceNeg, Int.zero_add, r141_16, e7]
  | k + 1, i, hi => by
    have ih := mNin_b d h L late n r hl hn h7 hr a1 a2 c2 k (i + 1) (by omega)
    obtain ⟨k141, j141⟩ := lay_k L (a := 141) (t := 8) (n := 26) rfl; obtain ⟨k150, j150⟩ := lay_k L (a := 150) (t := 100) (n := 1851) rfl; have r141_16 : gR h 141 16 = some 150 := lay_r L rfl
    have e7 : upI (gI h 150) 8 (clrN late r i) 7 = n := by rw [upI_n (by omega)]; exact h7
    obtain ⟨r1, r2⟩ := hr i (by omega)
    have ei : upI (gI h 150) 8 (clrN late r i) i = r i := by rw [upI_n (by omega)]; exact r1
    have sh := shl1 (j := r i) (by omega)
    have cl := clrI_n (a := clrN late r i) (2 ^ r i) (by have := clrN_lt (r := r) hl i; omega)
    have eu : ∀ x y : Int, upI (upI (gI h 150) 8 x) 8 y = upI (gI h 150) 8 y := fun x y => by
      funext j
      unfold upI
      split <;> rfl
    rw [q_161_58]
    simp (disch := (first | omega | (simp only [kd_sI, kd_sL, kd_sR, kd_cp, kd_aI]; omega) | (unfold catV; exact rfl) | (unfold catS; exact Nat.le_of_ble_eq_true rfl) | assumption)) only [q_161_0, q_161_1, q_161_4, q_161_5, q_161_6, q_161_7, q_161_8, q_161_9, q_161_10, q_161_11, q_161_12, q_161_15, q_161_17, q_161_18_t, q_161_18_f, q_161_21, q_161_22, q_161_23, q_161_26, q_161_27, q_161_28, q_161_29, q_161_30, q_161_33_t, q_161_33_f, q_161_36, q_161_37, q_161_38, q_161_41, q_161_44, q_161_47, q_161_50, q_161_53, q_161_56, q_161_57, q_161_59, q_161_60, q_161_63, q_161_65, q_161_66_t, q_161_66_f, q_161_69, q_161_70, q_161_73, q_161_75, q_161_76, q_161_77, q_161_78, q_161_79, q_161_82, q_161_83, q_161_84, q_161_85, q_161_86, q_161_87, q_161_88, q_161_89, q_161_90, q_161_91, q_161_94, q_161_97, q_161_98, aft_i, aft_l, aft_v, Int.toNat_natCast, kd_sI, kd_sL, kd_sR, kd_cp, gI_sL, gI_sR, gL_sI, gL_sR, gR_sI, gR_sL, gL_cp, gR_cp, kd_aI, gL_aI, gR_aI, gI_aI, gI_aIn, sI_aI, gI_sIn, Int.reduceToNat, Int.reduceAdd, Int.reduceSub, Int.reduceMul, Int.reduceNeg, Int.zero_add, r141_16, e7, ei, upI_s, sh, cl, eu]
    exact ih
theorem mNin_ok (d : Nat) (h : mH) (L : LAY h) (T : Td) (N : Nt) (P : List Nt) (wT : wfT T) (wW : wfW T N P) (s : whG (gI h 150) 0 T N P) : evOK (d + 6) 161 [] h T (ninS N P) := by
  have c7 := wT.1
  have n7 : nM N ≤ 7 := Nat.le_trans wW.1.1 wT.1
  have L0 := L
  obtain ⟨k141, j141⟩ := lay_k L (a := 141) (t := 8) (n := 26) rfl; obtain ⟨k150, j150⟩ := lay_k L (a := 150) (t := 100) (n := 1851) rfl; have r141_16 : gR h 141 16 = some 150 := lay_r L rfl
  obtain ⟨G, ek, wG, uG⟩ := mKnow_ok (d + 4) h L0 T N P wT wW s
  have sG := wG.1
  have g7 : G 7 = nM N := sG.1
  have g8 : G 8 = nL N := sG.2.2.1
  have hl := wW.1.2.2.2.2.1
  have h7 : ∀ c, c ∈ rowL N → c < 7 := fun c hc => by have := rowL_lt wW.1 hc; omega
  obtain ⟨G2, ⟨a2, a3, e1⟩, r2, u2⟩ := mNin_a (d + 3) (nL N) (nM N) hl n7 (rowL N) [] [] (aI h 150 G) (lay_aI L0 _ _) 0 (by rw [rowL_len]; omega) (by rw [rowL_len, List.length_nil]; omega) h7 (by rw [gI_aI]; exact g7) (by rw [gI_aI]; exact g8) (by rw [gI_aI, List.append_nil]; exact rwO_row sG)
  rw [gI_aI] at u2
  rw [aI_aI, List.nil_append] at e1
  rw [List.nil_append, List.nil_append] at r2
  have hl2 : (ninL N).length = nM N := by rw [(nin_perm N).length_eq, rowL_len]
  have f7 : G2 7 = nM N := (u2 7 (by omega)).trans g7
  have f8 : G2 8 = nL N := (u2 8 (by omega)).trans g8
  have e2 := mNin_b (d + 5) (aI h 150 G2) (lay_aI L0 _ _) (nL N) (nM N) (ofL (ninL N)) hl n7 (by rw [gI_aI]; exact f7) (fun i hi => by
    have hi2 : i < (ninL N).length := by omega
    have := r2 i hi2
    rw [Nat.zero_add] at this
    rw [gI_aI, ofL_at hi2]
    exact ⟨this, h7 _ ((nin_perm N).mem_iff.mp (List.getElem_mem hi2))⟩) (((rowL N).filter (fun c => (nL N).testBit c)).length : Int) (Sum.inl a2) rfl (nM N) 0 (Nat.zero_add _)
  have c0 : clrN (nL N) (ofL (ninL N)) (nM N) = 0 := by
    refine Nat.eq_of_testBit_eq (fun b => ?_)
    rw [Nat.zero_testBit, Bool.eq_false_iff]
    intro y
    obtain ⟨y1, y2⟩ := clrN_bit.mp y
    have := (nin_perm N).mem_iff.mpr (rowL_mem.mpr (wW.1.2.2.2.2.2.1 b y1))
    obtain ⟨i, hi, e⟩ := List.getElem_of_mem this
    exact y2 i (by omega) (by rw [ofL_at hi]; exact e)
  have e8 : upI G2 8 (clrN (nL N) (ofL (ninL N)) 0 : Nat) = G2 := by
    funext j
    unfold upI
    split
    next z => rw [z]; exact f8.symm
    next => rfl
  rw [gI_aI, e8, aI_aI, aI_aI, c0, show ((0 : Nat) : Int) = 0 from rfl] at e2
  rw [show ((0 : Nat) : Int) = 0 from rfl, List.length_nil, show ((0 : Nat) : Int) = 0 from rfl] at e1
  have wl := nin_wf wW.1
  have s2 : slG (upI G2 8 0) 0 T (ninN N) := by
    refine setR_sl sG (rwO_congr (fun i hi => upI_n (by omega)) r2) ?_ (upI_s _ _ _) (fun k hk => by rw [upI_n (by omega), u2 k (by omega)])
    rw [upI_n (by omega), f7, hl2]
  refine evOK_aI (N := N) (G := G) (G2 := upI G2 8 0) wT (knP_wf wW wl) ?_ wG uG (fun k hk => by rw [upI_n (by omega), u2 k (by omega)]) s2
  rw [en_161]
  simp (disch := (first | omega | (simp only [kd_sI, kd_sL, kd_sR, kd_cp, kd_aI]; omega) | (unfold catV; exact rfl) | (unfold catS; exact Nat.le_of_ble_eq_true rfl) | assumption)) only [q_161_0, q_161_1, q_161_4, q_161_5, q_161_6, q_161_7, q_161_8, q_161_9, q_161_11, q_161_12, q_161_15, q_161_17, q_161_18_t, q_161_18_f, q_161_21, q_161_22, q_161_23, q_161_26, q_161_27, q_161_28, q_161_29, q_161_30, q_161_33_t, q_161_33_f, q_161_36, q_161_37, q_161_38, q_161_41, q_161_44, q_161_47, q_161_50, q_161_53, q_161_56, q_161_57, q_161_59, q_161_60, q_161_63, q_161_65, q_161_66_t, q_161_66_f, q_161_69, q_161_70, q_161_73, q_161_75, q_161_76, q_161_77, q_161_78, q_161_79, q_161_82, q_161_83, q_161_84, q_161_85, q_161_86, q_161_87, q_161_88, q_161_89, q_161_90, q_161_91, q_161_94, q_161_97, q_161_98, aft_i, aft_l, aft_v, Int.toNat_natCast, kd_sI, kd_sL, kd_sR, kd_cp, gI_sL, gI_sR, gL_sI, gL_sR, gR_sI, gR_sL, gL_cp, gR_cp, kd_aI, gL_aI, gR_aI, gI_aI, gI_aIn, sI_aI, gI_sIn, Int.reduceToNat, Int.reduceAdd, Int.reduceSub, Int.reduceMul, Int.reduceNeg, Int.zero_add, ek, e1, e2]
