theorem cnt_len {l : Nat} : ∀ k, ((List.range k).filter (fun c => l.testBit c)).length = cntB l k
  | 0 => rfl
  | k + 1 => by
    rw [List.range_succ, List.filter_append, List.length_append, cnt_len k]
    show _ = cntB l k + (if l.testBit k then 1 else 0)
    congr 1
    rw [List.filter_cons, List.filter_nil]
    by_cases z : l.testBit k = true
    · rw [if_pos z, if_pos z]; rfl
    · rw [if_neg z, if_neg z]; rfl
theorem nin_cnt {T : Td} {N : Nt} (wT : wfT T) (w : wfN T N) : ((rowL N).filter (fun c => (nL N).testBit c)).length = cntB (nL N) 7 := by
  rw [← cnt_len 7]
  refine List.Perm.length_eq ((List.perm_ext_iff_of_nodup ((List.filter_sublist).nodup (rowL_nd w)) ((List.filter_sublist).nodup List.nodup_range)).mpr (fun x => ?_))
  rw [List.mem_filter, List.mem_filter, List.mem_range]
  constructor
  · rintro ⟨a, b⟩
    have := rowL_lt w a
    have := wT.1
    exact ⟨by omega, b⟩
  · rintro ⟨a, b⟩
    exact ⟨rowL_mem.mpr (w.2.2.2.2.2.1 x b), b⟩
theorem cNin_ok (d : Nat) (h : mH) (L : LAY h) (σ : Sg) (w : wfS σ) (c : CI h σ) : cOK (d + 4) 68 [] h (Sum.inl (ninS (zN σ) (zP σ)).1) (zev σ (ninS (zN σ) (zP σ)).2.1 (ninS (zN σ) (zP σ)).2.2) := by
  have L0 := L
  have wT := w.1
  have c7 := wT.1
  have wN := w.2.1.1
  have n7 : nM (zN σ) ≤ 7 := Nat.le_trans wN.1 wT.1
  obtain ⟨π, s⟩ := c.1.2.1
  obtain ⟨g1, π2, e1, s1, a1, n1⟩ := wRem_ok (d + 1) h L (zT σ) (zN σ) (zP σ) wT w.2.1 π s
  have L1 := lvF_L a1 L
  have l7 := wN.2.2.2.2.1
  have eb := bitC_ok (d + 2) g1 (nL (zN σ)) l7
  obtain ⟨G, e2, r2⟩ := wPart_ok (d + 2) g1 L1 (zT σ) (zN σ) wT wN n1.1 n1.2.2.2.1 (nL (zN σ)) l7
  have L2 : LAY (aI g1 139 G) := lay_aI L1 _ _
  have eP : prtL (zN σ) (nL (zN σ)) = ninL (zN σ) := rfl
  rw [eP] at r2
  have ln := (nin_perm (zN σ)).length_eq
  rw [rowL_len] at ln
  generalize eg3 : sI (cpI (aI g1 139 G) 139 0 15 0 (nM (zN σ))) 14 3 0 = g3
  have gq : ∀ q k, q ≠ 139 → ¬ (14 ≤ q ∧ q ≤ 16) → gI g3 q k = gI g1 q k := fun q k x y => by
    rw [← eg3, gI_sIn (by omega), gI_cp, if_neg (by omega), gI_aIn x]
  have g15 : rwO (gI g3 15) 0 (ninL (zN σ)) := fun i hi => by
    rw [ln] at hi
    rw [← eg3, gI_sIn (by omega), gI_cp, if_pos (by omega), Nat.zero_add, Nat.sub_zero, gI_aI]
    have := r2 i (by rw [ln]; exact hi)
    exact this
  have g14 : gI g3 14 2 = nM (zN σ) := by
    rw [← eg3, gI_sIo (by omega), gI_cp, if_neg (by omega), gI_aIn (by omega)]; exact n1.1
  have wP := nin_wf wN
  have n3 : ntA g3 14 (zT σ) (ninN (zN σ)) := ntA_set (by rw [g14, ln]) (by rw [← eg3, gI_sIs]; rfl) (by rw [← eg3]; exact n1.2.2.1) g15 (fun k hk => by
    rw [← eg3, gI_sIn (by omega), gI_cp, if_neg (by omega), gI_aIn (by omega)]; exact n1.2.2.2.2 k hk)
  have q13 : qt g1 (aI g1 139 G) := qt_a (fun k => by unfold qtc; omega)
  have lv3 : lvF (aI g1 139 G) g3 := ⟨by rw [← eg3]; rfl, fun q k x y => by
    rw [← eg3, gI_sIn (by omega), gI_cp, if_neg (by omega)], fun q k x => by rw [← eg3]; rfl, fun q k x => by rw [← eg3]; rfl⟩
  have L3 := lvF_L lv3 L2
  have sc3 : scA g3 13 π2 (zT σ) (ninN (zN σ)) (knP (zP σ) (zN σ)) := by
    refine scA_N (qt_sc q13 (by omega) s1) (fun q k x => ?_) (fun q k x => by rw [← eg3]; rfl) (by rw [← eg3]; rfl) n3
    rw [← eg3, gI_sIn (by omega), gI_cp, if_neg (by omega)]
  have c0 : CI0 (aI g1 139 G) (zev σ (zN σ) (knP (zP σ) (zN σ))) := qt_CI0 q13 (lv_CI0 a1 c.1 s1)
  have c3 : CI0 g3 (zev (zev σ (zN σ) (knP (zP σ) (zN σ))) (ninN (zN σ)) (knP (zP σ) (zN σ))) := lv_CI0 lv3 c0 sc3
  have c3 : CI0 g3 (zev σ (ninN (zN σ)) (knP (zP σ) (zN σ))) := c3
  obtain ⟨g, e4, q4, Lg, cg⟩ := settle_CI d g3 L3 _ (wfS_ev w (knP_wf w.2.1 wP) s1.2.2.2.1) c3
  refine ⟨g, ?_, frm_tr (lvF_frm a1) (frm_tr (qt_frm q13) (frm_tr (lvF_frm lv3) (qt_frm q4))), Lg, cg⟩
  have ec : (ninS (zN σ) (zP σ)).1 = (cntB (nL (zN σ)) 7 : Int) := by
    show (((rowL (zN σ)).filter (fun c => (nL (zN σ)).testBit c)).length : Int) = _
    rw [nin_cnt wT wN]
  have x3 : gI g1 14 3 = nL (zN σ) := n1.2.1
  have x2 : gI (aI g1 139 G) 14 2 = nM (zN σ) := by rw [gI_aIn (by omega)]; exact n1.1
  have kc : (kd (cpI (aI g1 139 G) 139 0 15 0 (nM (zN σ))) 0).1 = 7 ∧ (kd (cpI (aI g1 139 G) 139 0 15 0 (nM (zN σ))) 0).2 = 17 := lay_k (a := 0) L2 rfl
  have kc13 : (kd (cpI (aI g1 139 G) 139 0 15 0 (nM (zN σ))) 13).1 = 4 ∧ (kd (cpI (aI g1 139 G) 139 0 15 0 (nM (zN σ))) 13).2 = 4 := lay_k (a := 13) L2 rfl
  have kc14 : (kd (cpI (aI g1 139 G) 139 0 15 0 (nM (zN σ))) 14).1 = 2 ∧ (kd (cpI (aI g1 139 G) 139 0 15 0 (nM (zN σ))) 14).2 = 5 := lay_k (a := 14) L2 rfl
  obtain ⟨m1, m2⟩ := lay_k L1 (a := 0) (t := 7) (n := 17) rfl
  obtain ⟨m3, m4⟩ := lay_k L1 (a := 13) (t := 4) (n := 4) rfl
  obtain ⟨m5, m6⟩ := lay_k L1 (a := 14) (t := 2) (n := 5) rfl
  obtain ⟨m7, m8⟩ := lay_k L1 (a := 15) (t := 100) (n := 7) rfl
  obtain ⟨m9, m10⟩ := lay_k L1 (a := 139) (t := 100) (n := 7) rfl
  have r1 : gR g1 0 3 = some 13 := lay_r L1 rfl
  have r3 : gR g1 13 0 = some 14 := lay_r L1 rfl
  have r4 : gR g1 0 15 = some 139 := lay_r L1 rfl
  have r5 : gR g1 14 0 = some 15 := lay_r L1 rfl
  obtain ⟨u1, u2⟩ := lay_k L3 (a := 0) (t := 7) (n := 17) rfl
  rw [ec]
  have cb := cntB_le (nL (zN σ)) 7
  obtain ⟨k0, j0⟩ := lay_k L0 (a := 0) (t := 7) (n := 17) rfl; obtain ⟨k13, j13⟩ := lay_k L0 (a := 13) (t := 4) (n := 4) rfl; have r0_3 : gR h 0 3 = some 13 := lay_r L0 rfl
  rw [en_68]
  simp (disch := (first | omega | (simp only [kd_sI, kd_sL, kd_sR, kd_cp, kd_aI]; omega) | (unfold catV; exact rfl) | (unfold catS; exact Nat.le_of_ble_eq_true rfl) | assumption)) only [q_68_0, q_68_1, q_68_4, q_68_7, q_68_8, q_68_11, q_68_14, q_68_17, q_68_20, q_68_21, q_68_22, q_68_23, q_68_26, q_68_29, q_68_32, q_68_35, q_68_36, q_68_39, q_68_40, q_68_41, q_68_44, q_68_47, q_68_50, q_68_51, q_68_52, q_68_55, q_68_58, q_68_61, q_68_64, q_68_65, q_68_68, q_68_71, q_68_72, q_68_75, q_68_76, q_68_79, q_68_80, aft_i, aft_l, aft_v, Int.toNat_natCast, kd_sI, kd_sL, kd_sR, kd_cp, gI_sL, gI_sR, gL_sI, gL_sR, gR_sI, gR_sL, gL_cp, gR_cp, kd_aI, gL_aI, gR_aI, gI_aI, gI_aIn, sI_aI, gI_sIn, Int.reduceToNat, Int.reduceAdd, Int.reduceSub, Int.reduceMul, Int.reduceNeg, Int.zero_add, r0_3, e1, r1, r3, r4, r5, x3, eb, e2, x2, gR_cp, eg3, e4]
/-- the smaller calls: text, seen, trace -/
theorem CI_up {h g : mH} {σ : Sg} {X : List Int} {S : List (Nat × Nat)} {R : Int} (c : CI h σ) (e : g.1 = h.1) (er : gR g = gR h) (eI : ∀ q k, ¬ (q = 0 ∧ k = 13) → ¬ (q = 1 ∧ k = 1) → q ≠ 2 → q ≠ 137 → q ≠ 138 → gI g q k = gI h q k) (eL : ∀ q k, ¬ (q = 0 ∧ k = 14) → gL g q k = gL h q k) (h1 : gI g 0 13 = S.length) (h2 : ∀ k (q : k < S.length), gI g 137 k = S[k].1 ∧ gI g 138 k = S[k].2) (h3 : gI g 1 1 = X.length) (h4 : ∀ k (q : k < X.length), gI g 2 k = X[k]) (h5 : gL g 0 14 = R) : CI g (zup σ X S R) := by
  obtain ⟨⟨m1, ⟨π, m2⟩, m3, m4, m5, m6, m7, m8⟩, ⟨c1, c2, c3, c4⟩, bk⟩ := c
  refine ⟨⟨?_, ⟨π, scA_cg (fun q k x y => eI q k (by omega) (by omega) (by omega) (by omega) (by omega)) (fun q k x y => eL q k (by omega)) (fun k => by rw [er]) m2⟩, fun i hi => ?_, h1, h2, h3, h4, h5, brR_e er m8.2⟩, ⟨fun k hk => ?_, ?_, ?_, fun w k a b f => ?_⟩, ?_⟩
  · obtain ⟨a1, a2, a3, a4, a5, a6⟩ := m1
    refine ⟨?_, ?_, ?_, ?_, fun c hc => ?_, fun k hk => ?_⟩
    · rw [eI 3 4 (by omega) (by omega) (by omega) (by omega) (by omega)]; exact a1
    · rw [eI 3 5 (by omega) (by omega) (by omega) (by omega) (by omega)]; exact a2
    · rw [eI 3 6 (by omega) (by omega) (by omega) (by omega) (by omega)]; exact a3
    · rw [eI 3 7 (by omega) (by omega) (by omega) (by omega) (by omega)]; exact a4
    · rw [eI 5 c (by omega) (by omega) (by omega) (by omega) (by omega), eI 6 c (by omega) (by omega) (by omega) (by omega) (by omega)]; exact a5 c hc
    · rw [eI 7 k (by omega) (by omega) (by omega) (by omega) (by omega)]; exact a6 k hk
  · obtain ⟨⟨ρ, a1⟩, a2, a3⟩ := m3 i hi
    refine ⟨⟨ρ, fun j hj => ⟨(a1.1 j hj).1, by rw [er]; exact (a1.1 j hj).2⟩, a1.2⟩, ?_, fun N P e => ?_⟩
    · rw [eI _ 3 (by omega) (by omega) (by omega) (by omega) (by omega)]; exact a2
    · obtain ⟨ρ, x⟩ := a3 N P e
      exact ⟨ρ, scA_cg (fun q k x y => eI q k (by omega) (by omega) (by omega) (by omega) (by omega)) (fun q k x y => eL q k (by omega)) (fun k => by rw [er]) x⟩
  · rw [eI 128 k (by omega) (by omega) (by omega) (by omega) (by omega)]; exact c1 k hk
  · rw [eI 0 7 (by omega) (by omega) (by omega) (by omega) (by omega)]; exact c2
  · rw [eI 119 1 (by omega) (by omega) (by omega) (by omega) (by omega)]; exact c3
  · rw [eI (121 + w) k (by omega) (by omega) (by omega) (by omega) (by omega)]; exact c4 w k a b f
  · rcases bk with b0 | ⟨b0, b, b1, b2, b3, b4, b5⟩
    · left
      rw [eI 0 9 (by omega) (by omega) (by omega) (by omega) (by omega)]; exact b0
    · right
      refine ⟨?_, b, b1, ?_, ?_, ?_, rwO_congr (fun i hi => eI 130 _ (by omega) (by omega) (by omega) (by omega) (by omega)) b5⟩
      · rw [eI 0 9 (by omega) (by omega) (by omega) (by omega) (by omega)]; exact b0
      · rw [eI 129 1 (by omega) (by omega) (by omega) (by omega) (by omega)]; exact b2
      · rw [eI 129 2 (by omega) (by omega) (by omega) (by omega) (by omega)]; exact b3
      · rw [eI 129 1 (by omega) (by omega) (by omega) (by omega) (by omega), eI 129 3 (by omega) (by omega) (by omega) (by omega) (by omega)]; exact b4
theorem cTyp_ok (d : Nat) (h : mH) (L : LAY h) (σ : Sg) (w : wfS σ) (c : CI h σ) (x : Int) : cOK (d + 2) 61 [Sum.inl x] h (Sum.inl (typS σ x).1) (zup σ (typS σ x).2 (zS σ) (zR σ)) := by
  have L0 := L
  have w7 := w.2.2.2.2.2.1
  have x1 := c.1.2.2.2.2.2.1
  unfold typS
  obtain ⟨k0, j0⟩ := lay_k L0 (a := 0) (t := 7) (n := 17) rfl; obtain ⟨k1, j1⟩ := lay_k L0 (a := 1) (t := 5) (n := 8) rfl; obtain ⟨k2, j2⟩ := lay_k L0 (a := 2) (t := 100) (n := 180) rfl; have r0_0 : gR h 0 0 = some 1 := lay_r L0 rfl; have r1_0 : gR h 1 0 = some 2 := lay_r L0 rfl
  by_cases z : 0 ≤ x ∧ x ≤ 255
  · rw [if_pos z]
    by_cases y : (zX σ).length = 180
    · rw [if_pos y]
      refine cOK_s L c ?_
      rw [y] at x1
      have x1 : gI h 1 1 = 180 := x1
      have e : callA (d + 1) 36 [Sum.inr (Sum.inr (some 1)), Sum.inl x] h = some (some (Sum.inl 0), h) := by
        rw [en_36]
        simp (disch := (first | omega | (simp only [kd_sI, kd_sL, kd_sR, kd_cp, kd_aI]; omega) | (unfold catV; exact rfl) | (unfold catS; exact Nat.le_of_ble_eq_true rfl) | assumption)) only [q_36_0, q_36_1, q_36_4, q_36_7_t, q_36_7_f, q_36_10, q_36_11, q_36_12, q_36_13, q_36_16, q_36_17, q_36_20, q_36_21, q_36_22, q_36_23, q_36_24, q_36_27, q_36_28, q_36_29, q_36_32, q_36_33, aft_i, aft_l, aft_v, Int.toNat_natCast, kd_sI, kd_sL, kd_sR, kd_cp, gI_sL, gI_sR, gL_sI, gL_sR, gR_sI, gR_sL, gL_cp, gR_cp, kd_aI, gL_aI, gR_aI, gI_aI, gI_aIn, sI_aI, gI_sIn, Int.reduceToNat, Int.reduceAdd, Int.reduceSub, Int.reduceMul, Int.reduceNeg, Int.zero_add, x1]
      rw [en_61]
      simp (disch := (first | omega | (simp only [kd_sI, kd_sL, kd_sR, kd_cp, kd_aI]; omega) | (unfold catV; exact rfl) | (unfold catS; exact Nat.le_of_ble_eq_true rfl) | assumption)) only [q_61_0, q_61_1_t, q_61_1_f, q_61_4, q_61_5, q_61_8_t, q_61_8_f, q_61_11, q_61_12, q_61_13, q_61_14, q_61_17, q_61_18, q_61_21_t, q_61_21_f, q_61_24, q_61_25, q_61_28, q_61_31, q_61_34, q_61_36, aft_i, aft_l, aft_v, Int.toNat_natCast, kd_sI, kd_sL, kd_sR, kd_cp, gI_sL, gI_sR, gL_sI, gL_sR, gR_sI, gR_sL, gL_cp, gR_cp, kd_aI, gL_aI, gR_aI, gI_aI, gI_aIn, sI_aI, gI_sIn, Int.reduceToNat, Int.reduceAdd, Int.reduceSub, Int.reduceMul, Int.reduceNeg, Int.zero_add, r0_0, e]
    · rw [if_neg y]
      have g2 : gI (sI h 2 (zX σ).length x) 1 1 = (zX σ).length := by rw [gI_sIn (by omega)]; exact x1
      have e : callA (d + 1) 36 [Sum.inr (Sum.inr (some 1)), Sum.inl x] h = some (some (Sum.inl 1), sI (sI h 2 (zX σ).length x) 1 1 (((zX σ).length : Int) + 1)) := by
        rw [en_36]
        simp (disch := (first | omega | (simp only [kd_sI, kd_sL, kd_sR, kd_cp, kd_aI]; omega) | (unfold catV; exact rfl) | (unfold catS; exact Nat.le_of_ble_eq_true rfl) | assumption)) only [q_36_0, q_36_1, q_36_4, q_36_7_t, q_36_7_f, q_36_10, q_36_11, q_36_12, q_36_13, q_36_16, q_36_17, q_36_20, q_36_21, q_36_22, q_36_23, q_36_24, q_36_27, q_36_28, q_36_29, q_36_32, q_36_33, aft_i, aft_l, aft_v, Int.toNat_natCast, kd_sI, kd_sL, kd_sR, kd_cp, gI_sL, gI_sR, gL_sI, gL_sR, gR_sI, gR_sL, gL_cp, gR_cp, kd_aI, gL_aI, gR_aI, gI_aI, gI_aIn, sI_aI, gI_sIn, Int.reduceToNat, Int.reduceAdd, Int.reduceSub, Int.reduceMul, Int.reduceNeg, Int.zero_add, x1, r1_0, g2]
      refine ⟨sI (sI h 2 (zX σ).length x) 1 1 (((zX σ).length : Int) + 1), ?_, frm_tr (frm_sI (by omega) (by omega)) (frm_sI (by omega) (by omega)), lay_sI (lay_sI L0 _ _ _) _ _ _, CI_up c rfl rfl (fun q k a1 a2 a3 a4 a5 => ?_) (fun _ _ _ => rfl) ?_ (fun k q => ?_) ?_ (fun k q => ?_) c.1.2.2.2.2.2.2.2.1⟩
      · rw [en_61]
        simp (disch := (first | omega | (simp only [kd_sI, kd_sL, kd_sR, kd_cp, kd_aI]; omega) | (unfold catV; exact rfl) | (unfold catS; exact Nat.le_of_ble_eq_true rfl) | assumption)) only [q_61_0, q_61_1_t, q_61_1_f, q_61_4, q_61_5, q_61_8_t, q_61_8_f, q_61_11, q_61_12, q_61_13, q_61_14, q_61_17, q_61_18, q_61_21_t, q_61_21_f, q_61_24, q_61_25, q_61_28, q_61_31, q_61_34, q_61_36, aft_i, aft_l, aft_v, Int.toNat_natCast, kd_sI, kd_sL, kd_sR, kd_cp, gI_sL, gI_sR, gL_sI, gL_sR, gR_sI, gR_sL, gL_cp, gR_cp, kd_aI, gL_aI, gR_aI, gI_aI, gI_aIn, sI_aI, gI_sIn, Int.reduceToNat, Int.reduceAdd, Int.reduceSub, Int.reduceMul, Int.reduceNeg, Int.zero_add, r0_0, e, gI_sIs]
      · rw [gI_sI, if_neg (by omega), gI_sIn a3]
      · rw [gI_sIn (by omega), gI_sIn (by omega)]; exact c.1.2.2.2.1
      · rw [gI_sIn (by omega), gI_sIn (by omega), gI_sIn (by omega), gI_sIn (by omega)]; exact c.1.2.2.2.2.1 k q
      · rw [gI_sIs, List.length_append]; rfl
      · rw [gI_sIn (by omega)]
        by_cases v : k < (zX σ).length
        · rw [gI_sIo (by omega), List.getElem_append_left v]; exact c.1.2.2.2.2.2.2.1 k v
        · have ek : k = (zX σ).length := by rw [List.length_append] at q; have : k < (zX σ).length + 1 := q; omega
          subst ek
          rw [gI_sIs, List.getElem_append_right (Nat.le_refl _)]
          simp only [Nat.sub_self, List.getElem_cons_zero]
  · rw [if_neg z]
    refine cOK_s L c ?_
    rw [en_61]
    by_cases v : x < 0
    · simp (disch := (first | omega | (simp only [kd_sI, kd_sL, kd_sR, kd_cp, kd_aI]; omega) | (unfold catV; exact rfl) | (unfold catS; exact Nat.le_of_ble_eq_true rfl) | assumption)) only [q_61_0, q_61_1_t, q_61_1_f, q_61_4, q_61_5, q_61_8_t, q_61_8_f, q_61_11, q_61_12, q_61_13, q_61_14, q_61_17, q_61_18, q_61_21_t, q_61_21_f, q_61_24, q_61_25, q_61_28, q_61_31, q_61_34, q_61_36, aft_i, aft_l, aft_v, Int.toNat_natCast, kd_sI, kd_sL, kd_sR, kd_cp, gI_sL, gI_sR, gL_sI, gL_sR, gR_sI, gR_sL, gL_cp, gR_cp, kd_aI, gL_aI, gR_aI, gI_aI, gI_aIn, sI_aI, gI_sIn, Int.reduceToNat, Int.reduceAdd, Int.reduceSub, Int.reduceMul, Int.reduceNeg, Int.zero_add]
    · simp (disch := (first | omega | (simp only [kd_sI, kd_sL, kd_sR, kd_cp, kd_aI]; omega) | (unfold catV; exact rfl) | (unfold catS; exact Nat.le_of_ble_eq_true rfl) | assumption)) only [q_61_0, q_61_1_t, q_61_1_f, q_61_4, q_61_5, q_61_8_t, q_61_8_f, q_61_11, q_61_12, q_61_13, q_61_14, q_61_17, q_61_18, q_61_21_t, q_61_21_f, q_61_24, q_61_25, q_61_28, q_61_31, q_61_34, q_61_36, aft_i, aft_l, aft_v, Int.toNat_natCast, kd_sI, kd_sL, kd_sR, kd_cp, gI_sL, gI_sR, gL_sI, gL_sR, gR_sI, gR_sL, gL_cp, gR_cp, kd_aI, gL_aI, gR_aI, gI_aI, gI_aIn, sI_aI, gI_sIn, Int.reduceToNat, Int.reduceAdd, Int.reduceSub, Int.reduceMul, Int.reduceNeg, Int.zero_add]
theorem cClr_ok (d : Nat) (h : mH) (L : LAY h) (σ : Sg) (c : CI h σ) : cOK (d + 2) 62 [] h (Sum.inl ((zX σ).length : Int)) (zup σ [] (zS σ) (zR σ)) := by
  have L0 := L
  have x1 := c.1.2.2.2.2.2.1
  obtain ⟨k0, j0⟩ := lay_k L0 (a := 0) (t := 7) (n := 17) rfl; obtain ⟨k1, j1⟩ := lay_k L0 (a := 1) (t := 5) (n := 8) rfl; have r0_0 : gR h 0 0 = some 1 := lay_r L0 rfl
  have e : callA (d + 1) 37 [Sum.inr (Sum.inr (some 1))] h = some (none, sI h 1 1 0) := by
    rw [en_37]
    simp (disch := (first | omega | (simp only [kd_sI, kd_sL, kd_sR, kd_cp, kd_aI]; omega) | (unfold catV; exact rfl) | (unfold catS; exact Nat.le_of_ble_eq_true rfl) | assumption)) only [q_37_0, q_37_1, q_37_2, q_37_5, aft_i, aft_l, aft_v, Int.toNat_natCast, kd_sI, kd_sL, kd_sR, kd_cp, gI_sL, gI_sR, gL_sI, gL_sR, gR_sI, gR_sL, gL_cp, gR_cp, kd_aI, gL_aI, gR_aI, gI_aI, gI_aIn, sI_aI, gI_sIn, Int.reduceToNat, Int.reduceAdd, Int.reduceSub, Int.reduceMul, Int.reduceNeg, Int.zero_add]
  refine ⟨sI h 1 1 0, ?_, frm_sI (by omega) (by omega), lay_sI L0 _ _ _, CI_up c rfl rfl (fun q k a1 a2 a3 a4 a5 => ?_) (fun _ _ _ => rfl) ?_ (fun k q => ?_) ?_ (fun k q => absurd q (Nat.not_lt_zero _)) c.1.2.2.2.2.2.2.2.1⟩
  · rw [en_62]
    simp (disch := (first | omega | (simp only [kd_sI, kd_sL, kd_sR, kd_cp, kd_aI]; omega) | (unfold catV; exact rfl) | (unfold catS; exact Nat.le_of_ble_eq_true rfl) | assumption)) only [q_62_0, q_62_1, q_62_4, q_62_7, q_62_8, q_62_9, q_62_12, q_62_15, q_62_16, aft_i, aft_l, aft_v, Int.toNat_natCast, kd_sI, kd_sL, kd_sR, kd_cp, gI_sL, gI_sR, gL_sI, gL_sR, gR_sI, gR_sL, gL_cp, gR_cp, kd_aI, gL_aI, gR_aI, gI_aI, gI_aIn, sI_aI, gI_sIn, Int.reduceToNat, Int.reduceAdd, Int.reduceSub, Int.reduceMul, Int.reduceNeg, Int.zero_add, r0_0, x1, e]
  · rw [gI_sI, if_neg (by omega)]
  · rw [gI_sIn (by omega)]; exact c.1.2.2.2.1
  · rw [gI_sIn (by omega), gI_sIn (by omega)]; exact c.1.2.2.2.2.1 k q
  · rw [gI_sIs]; rfl
theorem cSaw_ok (d : Nat) (h : mH) (L : LAY h) (σ : Sg) (w : wfS σ) (c : CI h σ) (a b : Int) : cOK (d + 3) 83 [Sum.inl a, Sum.inl b] h (Sum.inl (sawS σ a b).1) (zup σ (zX σ) (sawS σ a b).2 (zR σ)) := by
  have L0 := L
  have w6 := w.2.2.2.1
  have x1 := c.1.2.2.2.1
  have e := wTwo_ok d h L (zT σ) c.1.1 a b
  unfold twoB at e
  unfold sawS
  obtain ⟨k0, j0⟩ := lay_k L0 (a := 0) (t := 7) (n := 17) rfl; obtain ⟨k137, j137⟩ := lay_k L0 (a := 137) (t := 100) (n := 6) rfl; obtain ⟨k138, j138⟩ := lay_k L0 (a := 138) (t := 100) (n := 6) rfl; have r0_11 : gR h 0 11 = some 137 := lay_r L0 rfl; have r0_12 : gR h 0 12 = some 138 := lay_r L0 rfl
  by_cases z : (0 ≤ a ∧ a < tN (zT σ)) ∧ (0 ≤ b ∧ b < tN (zT σ)) ∧ a ≠ b
  · rw [decide_eq_true z, if_pos rfl] at e
    rw [if_pos z]
    by_cases y : (zS σ).length = 6
    · rw [if_pos y]
      rw [y] at x1
      have x1 : gI h 0 13 = 6 := x1
      refine cOK_s L c ?_
      rw [en_83]
      simp (disch := (first | omega | (simp only [kd_sI, kd_sL, kd_sR, kd_cp, kd_aI]; omega) | (unfold catV; exact rfl) | (unfold catS; exact Nat.le_of_ble_eq_true rfl) | assumption)) only [q_83_0, q_83_1, q_83_2, q_83_3, q_83_6_t, q_83_6_f, q_83_9, q_83_10, q_83_11, q_83_12, q_83_15, q_83_17_t, q_83_17_f, q_83_20, q_83_22, q_83_23, q_83_24, q_83_27, q_83_28, q_83_31, q_83_32, q_83_33, q_83_34, q_83_37, q_83_38, q_83_41, q_83_42, q_83_43, q_83_44, q_83_45, q_83_48, q_83_49, q_83_50, q_83_53, q_83_54, q_83_57, aft_i, aft_l, aft_v, Int.toNat_natCast, kd_sI, kd_sL, kd_sR, kd_cp, gI_sL, gI_sR, gL_sI, gL_sR, gR_sI, gR_sL, gL_cp, gR_cp, kd_aI, gL_aI, gR_aI, gI_aI, gI_aIn, sI_aI, gI_sIn, Int.reduceToNat, Int.reduceAdd, Int.reduceSub, Int.reduceMul, Int.reduceNeg, Int.zero_add, e, x1]
    · rw [if_neg y]
      have g1 : gI (sI h 137 (zS σ).length a) 0 13 = (zS σ).length := by rw [gI_sIn (by omega)]; exact x1
      have g2 : gI (sI (sI h 137 (zS σ).length a) 138 (zS σ).length b) 0 13 = (zS σ).length := by rw [gI_sIn (by omega), gI_sIn (by omega)]; exact x1
      refine ⟨sI (sI (sI h 137 (zS σ).length a) 138 (zS σ).length b) 0 13 (((zS σ).length : Int) + 1), ?_, frm_tr (frm_sI (by omega) (by omega)) (frm_tr (frm_sI (by omega) (by omega)) (frm_sI (by omega) (by omega))), lay_sI (lay_sI (lay_sI L0 _ _ _) _ _ _) _ _ _, CI_up c rfl rfl (fun q k a1 a2 a3 a4 a5 => ?_) (fun _ _ _ => rfl) ?_ (fun k q => ?_) ?_ (fun k q => ?_) c.1.2.2.2.2.2.2.2.1⟩
      · rw [en_83]
        simp (disch := (first | omega | (simp only [kd_sI, kd_sL, kd_sR, kd_cp, kd_aI]; omega) | (unfold catV; exact rfl) | (unfold catS; exact Nat.le_of_ble_eq_true rfl) | assumption)) only [q_83_0, q_83_1, q_83_2, q_83_3, q_83_6_t, q_83_6_f, q_83_9, q_83_10, q_83_11, q_83_12, q_83_15, q_83_17_t, q_83_17_f, q_83_20, q_83_22, q_83_23, q_83_24, q_83_27, q_83_28, q_83_31, q_83_32, q_83_33, q_83_34, q_83_37, q_83_38, q_83_41, q_83_42, q_83_43, q_83_44, q_83_45, q_83_48, q_83_49, q_83_50, q_83_53, q_83_54, q_83_57, aft_i, aft_l, aft_v, Int.toNat_natCast, kd_sI, kd_sL, kd_sR, kd_cp, gI_sL, gI_sR, gL_sI, gL_sR, gR_sI, gR_sL, gL_cp, gR_cp, kd_aI, gL_aI, gR_aI, gI_aI, gI_aIn, sI_aI, gI_sIn, Int.reduceToNat, Int.reduceAdd, Int.reduceSub, Int.reduceMul, Int.reduceNeg, Int.zero_add, e, x1, r0_11, r0_12, g1, g2, gI_sIs]
      · rw [gI_sI, if_neg a1, gI_sIn a5, gI_sIn a4]
      · rw [gI_sIs, List.length_append]; rfl
      · have e137 : gI (sI (sI (sI h 137 (zS σ).length a) 138 (zS σ).length b) 0 13 (((zS σ).length : Int) + 1)) 137 = upI (gI h 137) (zS σ).length a := by rw [gI_sIn (by omega), gI_sIn (by omega), gI_sIu]
        have e138 : gI (sI (sI (sI h 137 (zS σ).length a) 138 (zS σ).length b) 0 13 (((zS σ).length : Int) + 1)) 138 = upI (gI h 138) (zS σ).length b := by rw [gI_sIn (by omega), gI_sIu, gI_sIn (by omega)]
        have q2 : k < (zS σ ++ [(a.toNat, b.toNat)]).length := q
        rw [e137, e138]
        show _ = ((zS σ ++ [(a.toNat, b.toNat)])[k].1 : Int) ∧ _ = ((zS σ ++ [(a.toNat, b.toNat)])[k].2 : Int)
        by_cases v : k < (zS σ).length
        · rw [upI_n (by omega), upI_n (by omega), List.getElem_append_left v]; exact c.1.2.2.2.2.1 k v
        · have ek : k = (zS σ).length := by rw [List.length_append] at q2; have : k < (zS σ).length + 1 := q2; omega
          subst ek
          rw [upI_s, upI_s, List.getElem_append_right (Nat.le_refl _)]
          simp only [Nat.sub_self, List.getElem_cons_zero]
          exact ⟨by omega, by omega⟩
      · rw [gI_sIn (by omega), gI_sIn (by omega), gI_sIn (by omega)]; exact c.1.2.2.2.2.2.1
      · rw [gI_sIn (by omega), gI_sIn (by omega), gI_sIn (by omega)]; exact c.1.2.2.2.2.2.2.1 k q
  · rw [decide_eq_false z, if_neg Bool.false_ne_true] at e
    rw [if_neg z]
    refine cOK_s L c ?_
    rw [en_83]
    simp (disch := (first | omega | (simp only [kd_sI, kd_sL, kd_sR, kd_cp, kd_aI]; omega) | (unfold catV; exact rfl) | (unfold catS; exact Nat.le_of_ble_eq_true rfl) | assumption)) only [q_83_0, q_83_1, q_83_2, q_83_3, q_83_6_t, q_83_6_f, q_83_9, q_83_10, q_83_11, q_83_12, q_83_15, q_83_17_t, q_83_17_f, q_83_20, q_83_22, q_83_23, q_83_24, q_83_27, q_83_28, q_83_31, q_83_32, q_83_33, q_83_34, q_83_37, q_83_38, q_83_41, q_83_42, q_83_43, q_83_44, q_83_45, q_83_48, q_83_49, q_83_50, q_83_53, q_83_54, q_83_57, aft_i, aft_l, aft_v, Int.toNat_natCast, kd_sI, kd_sL, kd_sR, kd_cp, gI_sL, gI_sR, gL_sI, gL_sR, gR_sI, gR_sL, gL_cp, gR_cp, kd_aI, gL_aI, gR_aI, gI_aI, gI_aIn, sI_aI, gI_sIn, Int.reduceToNat, Int.reduceAdd, Int.reduceSub, Int.reduceMul, Int.reduceNeg, Int.zero_add, e]
theorem cFor_ok (d : Nat) (h : mH) (L : LAY h) (σ : Sg) (c : CI h σ) : cOK (d + 1) 84 [] h (Sum.inl ((zS σ).length : Int)) (zup σ (zX σ) [] (zR σ)) := by
  have L0 := L
  have x1 := c.1.2.2.2.1
  obtain ⟨k0, j0⟩ := lay_k L0 (a := 0) (t := 7) (n := 17) rfl
  refine ⟨sI h 0 13 0, ?_, frm_sI (by omega) (by omega), lay_sI L0 _ _ _, CI_up c rfl rfl (fun q k a1 a2 a3 a4 a5 => ?_) (fun _ _ _ => rfl) ?_ (fun k q => absurd q (Nat.not_lt_zero _)) ?_ (fun k q => ?_) c.1.2.2.2.2.2.2.2.1⟩
  · rw [en_84]
    simp (disch := (first | omega | (simp only [kd_sI, kd_sL, kd_sR, kd_cp, kd_aI]; omega) | (unfold catV; exact rfl) | (unfold catS; exact Nat.le_of_ble_eq_true rfl) | assumption)) only [q_84_0, q_84_1, q_84_4, q_84_5, q_84_6, q_84_7, q_84_10, q_84_11, aft_i, aft_l, aft_v, Int.toNat_natCast, kd_sI, kd_sL, kd_sR, kd_cp, gI_sL, gI_sR, gL_sI, gL_sR, gR_sI, gR_sL, gL_cp, gR_cp, kd_aI, gL_aI, gR_aI, gI_aI, gI_aIn, sI_aI, gI_sIn, Int.reduceToNat, Int.reduceAdd, Int.reduceSub, Int.reduceMul, Int.reduceNeg, Int.zero_add, x1]
  · rw [gI_sI, if_neg a1]
  · rw [gI_sIs]; rfl
  · rw [gI_sIn (by omega)]; exact c.1.2.2.2.2.2.1
  · rw [gI_sIn (by omega)]; exact c.1.2.2.2.2.2.2.1 k q
theorem cCnt_ok (d : Nat) (h : mH) (L : LAY h) (σ : Sg) (c : CI h σ) (x : Int) : cOK (d + 1) 90 [Sum.inl x] h (Sum.inl (cntS σ x)) σ := by
  refine cOK_s L c ?_
  obtain ⟨⟨⟨t1, t2, t3, t4, -⟩, ⟨π, s⟩, -, m4, -, m6, -⟩, -⟩ := c
  have s2 := s.2.2.1
  unfold cntS
  obtain ⟨k0, j0⟩ := lay_k L (a := 0) (t := 7) (n := 17) rfl; obtain ⟨k1, j1⟩ := lay_k L (a := 1) (t := 5) (n := 8) rfl; obtain ⟨k3, j3⟩ := lay_k L (a := 3) (t := 6) (n := 8) rfl; obtain ⟨k13, j13⟩ := lay_k L (a := 13) (t := 4) (n := 4) rfl; have r0_0 : gR h 0 0 = some 1 := lay_r L rfl; have r0_1 : gR h 0 1 = some 3 := lay_r L rfl; have r0_3 : gR h 0 3 = some 13 := lay_r L rfl
  rw [en_90]
  by_cases w0 : x = 0
  · subst w0; simp (disch := (first | omega | (simp only [kd_sI, kd_sL, kd_sR, kd_cp, kd_aI]; omega) | (unfold catV; exact rfl) | (unfold catS; exact Nat.le_of_ble_eq_true rfl) | assumption)) only [q_90_0, q_90_1_0, q_90_1_1, q_90_1_2, q_90_1_3, q_90_1_4, q_90_1_5, q_90_1_6, q_90_1_d, q_90_44, q_90_45, q_90_48, q_90_51, q_90_52, q_90_53, q_90_56, q_90_59, q_90_60, q_90_61, q_90_64, q_90_67, q_90_68, q_90_69, q_90_72, q_90_75, q_90_76, q_90_77, q_90_80, q_90_81, q_90_82, q_90_85, q_90_88, q_90_89, q_90_90, q_90_93, q_90_96, q_90_97, q_90_98, aft_i, aft_l, aft_v, Int.toNat_natCast, kd_sI, kd_sL, kd_sR, kd_cp, gI_sL, gI_sR, gL_sI, gL_sR, gR_sI, gR_sL, gL_cp, gR_cp, kd_aI, gL_aI, gR_aI, gI_aI, gI_aIn, sI_aI, gI_sIn, Int.reduceToNat, Int.reduceAdd, Int.reduceSub, Int.reduceMul, Int.reduceNeg, Int.zero_add, r0_1, t1]; rfl
  by_cases w1 : x = 1
  · subst w1; simp (disch := (first | omega | (simp only [kd_sI, kd_sL, kd_sR, kd_cp, kd_aI]; omega) | (unfold catV; exact rfl) | (unfold catS; exact Nat.le_of_ble_eq_true rfl) | assumption)) only [q_90_0, q_90_1_0, q_90_1_1, q_90_1_2, q_90_1_3, q_90_1_4, q_90_1_5, q_90_1_6, q_90_1_d, q_90_44, q_90_45, q_90_48, q_90_51, q_90_52, q_90_53, q_90_56, q_90_59, q_90_60, q_90_61, q_90_64, q_90_67, q_90_68, q_90_69, q_90_72, q_90_75, q_90_76, q_90_77, q_90_80, q_90_81, q_90_82, q_90_85, q_90_88, q_90_89, q_90_90, q_90_93, q_90_96, q_90_97, q_90_98, aft_i, aft_l, aft_v, Int.toNat_natCast, kd_sI, kd_sL, kd_sR, kd_cp, gI_sL, gI_sR, gL_sI, gL_sR, gR_sI, gR_sL, gL_cp, gR_cp, kd_aI, gL_aI, gR_aI, gI_aI, gI_aIn, sI_aI, gI_sIn, Int.reduceToNat, Int.reduceAdd, Int.reduceSub, Int.reduceMul, Int.reduceNeg, Int.zero_add, r0_1, t2]; rfl
  by_cases w2 : x = 2
  · subst w2; simp (disch := (first | omega | (simp only [kd_sI, kd_sL, kd_sR, kd_cp, kd_aI]; omega) | (unfold catV; exact rfl) | (unfold catS; exact Nat.le_of_ble_eq_true rfl) | assumption)) only [q_90_0, q_90_1_0, q_90_1_1, q_90_1_2, q_90_1_3, q_90_1_4, q_90_1_5, q_90_1_6, q_90_1_d, q_90_44, q_90_45, q_90_48, q_90_51, q_90_52, q_90_53, q_90_56, q_90_59, q_90_60, q_90_61, q_90_64, q_90_67, q_90_68, q_90_69, q_90_72, q_90_75, q_90_76, q_90_77, q_90_80, q_90_81, q_90_82, q_90_85, q_90_88, q_90_89, q_90_90, q_90_93, q_90_96, q_90_97, q_90_98, aft_i, aft_l, aft_v, Int.toNat_natCast, kd_sI, kd_sL, kd_sR, kd_cp, gI_sL, gI_sR, gL_sI, gL_sR, gR_sI, gR_sL, gL_cp, gR_cp, kd_aI, gL_aI, gR_aI, gI_aI, gI_aIn, sI_aI, gI_sIn, Int.reduceToNat, Int.reduceAdd, Int.reduceSub, Int.reduceMul, Int.reduceNeg, Int.zero_add, r0_1, t3]; rfl
  by_cases w3 : x = 3
  · subst w3; simp (disch := (first | omega | (simp only [kd_sI, kd_sL, kd_sR, kd_cp, kd_aI]; omega) | (unfold catV; exact rfl) | (unfold catS; exact Nat.le_of_ble_eq_true rfl) | assumption)) only [q_90_0, q_90_1_0, q_90_1_1, q_90_1_2, q_90_1_3, q_90_1_4, q_90_1_5, q_90_1_6, q_90_1_d, q_90_44, q_90_45, q_90_48, q_90_51, q_90_52, q_90_53, q_90_56, q_90_59, q_90_60, q_90_61, q_90_64, q_90_67, q_90_68, q_90_69, q_90_72, q_90_75, q_90_76, q_90_77, q_90_80, q_90_81, q_90_82, q_90_85, q_90_88, q_90_89, q_90_90, q_90_93, q_90_96, q_90_97, q_90_98, aft_i, aft_l, aft_v, Int.toNat_natCast, kd_sI, kd_sL, kd_sR, kd_cp, gI_sL, gI_sR, gL_sI, gL_sR, gR_sI, gR_sL, gL_cp, gR_cp, kd_aI, gL_aI, gR_aI, gI_aI, gI_aIn, sI_aI, gI_sIn, Int.reduceToNat, Int.reduceAdd, Int.reduceSub, Int.reduceMul, Int.reduceNeg, Int.zero_add, r0_1, t4]; rfl
  by_cases w4 : x = 4
  · subst w4; simp (disch := (first | omega | (simp only [kd_sI, kd_sL, kd_sR, kd_cp, kd_aI]; omega) | (unfold catV; exact rfl) | (unfold catS; exact Nat.le_of_ble_eq_true rfl) | assumption)) only [q_90_0, q_90_1_0, q_90_1_1, q_90_1_2, q_90_1_3, q_90_1_4, q_90_1_5, q_90_1_6, q_90_1_d, q_90_44, q_90_45, q_90_48, q_90_51, q_90_52, q_90_53, q_90_56, q_90_59, q_90_60, q_90_61, q_90_64, q_90_67, q_90_68, q_90_69, q_90_72, q_90_75, q_90_76, q_90_77, q_90_80, q_90_81, q_90_82, q_90_85, q_90_88, q_90_89, q_90_90, q_90_93, q_90_96, q_90_97, q_90_98, aft_i, aft_l, aft_v, Int.toNat_natCast, kd_sI, kd_sL, kd_sR, kd_cp, gI_sL, gI_sR, gL_sI, gL_sR, gR_sI, gR_sL, gL_cp, gR_cp, kd_aI, gL_aI, gR_aI, gI_aI, gI_aIn, sI_aI, gI_sIn, Int.reduceToNat, Int.reduceAdd, Int.reduceSub, Int.reduceMul, Int.reduceNeg, Int.zero_add, m4]; rfl
  by_cases w5 : x = 5
  · subst w5; simp (disch := (first | omega | (simp only [kd_sI, kd_sL, kd_sR, kd_cp, kd_aI]; omega) | (unfold catV; exact rfl) | (unfold catS; exact Nat.le_of_ble_eq_true rfl) | assumption)) only [q_90_0, q_90_1_0, q_90_1_1, q_90_1_2, q_90_1_3, q_90_1_4, q_90_1_5, q_90_1_6, q_90_1_d, q_90_44, q_90_45, q_90_48, q_90_51, q_90_52, q_90_53, q_90_56, q_90_59, q_90_60, q_90_61, q_90_64, q_90_67, q_90_68, q_90_69, q_90_72, q_90_75, q_90_76, q_90_77, q_90_80, q_90_81, q_90_82, q_90_85, q_90_88, q_90_89, q_90_90, q_90_93, q_90_96, q_90_97, q_90_98, aft_i, aft_l, aft_v, Int.toNat_natCast, kd_sI, kd_sL, kd_sR, kd_cp, gI_sL, gI_sR, gL_sI, gL_sR, gR_sI, gR_sL, gL_cp, gR_cp, kd_aI, gL_aI, gR_aI, gI_aI, gI_aIn, sI_aI, gI_sIn, Int.reduceToNat, Int.reduceAdd, Int.reduceSub, Int.reduceMul, Int.reduceNeg, Int.zero_add, r0_3, s2]; rfl
  by_cases w6 : x = 6
  · subst w6; simp (disch := (first | omega | (simp only [kd_sI, kd_sL, kd_sR, kd_cp, kd_aI]; omega) | (unfold catV; exact rfl) | (unfold catS; exact Nat.le_of_ble_eq_true rfl) | assumption)) only [q_90_0, q_90_1_0, q_90_1_1, q_90_1_2, q_90_1_3, q_90_1_4, q_90_1_5, q_90_1_6, q_90_1_d, q_90_44, q_90_45, q_90_48, q_90_51, q_90_52, q_90_53, q_90_56, q_90_59, q_90_60, q_90_61, q_90_64, q_90_67, q_90_68, q_90_69, q_90_72, q_90_75, q_90_76, q_90_77, q_90_80, q_90_81, q_90_82, q_90_85, q_90_88, q_90_89, q_90_90, q_90_93, q_90_96, q_90_97, q_90_98, aft_i, aft_l, aft_v, Int.toNat_natCast, kd_sI, kd_sL, kd_sR, kd_cp, gI_sL, gI_sR, gL_sI, gL_sR, gR_sI, gR_sL, gL_cp, gR_cp, kd_aI, gL_aI, gR_aI, gI_aI, gI_aIn, sI_aI, gI_sIn, Int.reduceToNat, Int.reduceAdd, Int.reduceSub, Int.reduceMul, Int.reduceNeg, Int.zero_add, r0_0, m6]; rfl
  · rw [if_neg w0, if_neg w1, if_neg w2, if_neg w3, if_neg w4, if_neg w5, if_neg w6]
    simp (disch := (first | omega | (simp only [kd_sI, kd_sL, kd_sR, kd_cp, kd_aI]; omega) | (unfold catV; exact rfl) | (unfold catS; exact Nat.le_of_ble_eq_true rfl) | assumption)) only [q_90_0, q_90_1_0, q_90_1_1, q_90_1_2, q_90_1_3, q_90_1_4, q_90_1_5, q_90_1_6, q_90_1_d, q_90_44, q_90_45, q_90_48, q_90_51, q_90_52, q_90_53, q_90_56, q_90_59, q_90_60, q_90_61, q_90_64, q_90_67, q_90_68, q_90_69, q_90_72, q_90_75, q_90_76, q_90_77, q_90_80, q_90_81, q_90_82, q_90_85, q_90_88, q_90_89, q_90_90, q_90_93, q_90_96, q_90_97, q_90_98, aft_i, aft_l, aft_v, Int.toNat_natCast, kd_sI, kd_sL, kd_sR, kd_cp, gI_sL, gI_sR, gL_sI, gL_sR, gR_sI, gR_sL, gL_cp, gR_cp, kd_aI, gL_aI, gR_aI, gI_aI, gI_aIn, sI_aI, gI_sIn, Int.reduceToNat, Int.reduceAdd, Int.reduceSub, Int.reduceMul, Int.reduceNeg, Int.zero_add]
theorem cTra_ok (d : Nat) (h : mH) (L : LAY h) (σ : Sg) (c : CI h σ) : cOK (d + 1) 91 [] h (Sum.inr (Sum.inl (zR σ))) σ := by
  refine cOK_s L c ?_
  have x := c.1.2.2.2.2.2.2.2.1
  obtain ⟨k0, j0⟩ := lay_k L (a := 0) (t := 7) (n := 17) rfl
  rw [en_91]
  simp (disch := (first | omega | (simp only [kd_sI, kd_sL, kd_sR, kd_cp, kd_aI]; omega) | (unfold catV; exact rfl) | (unfold catS; exact Nat.le_of_ble_eq_true rfl) | assumption)) only [q_91_0, q_91_1, q_91_4, aft_i, aft_l, aft_v, Int.toNat_natCast, kd_sI, kd_sL, kd_sR, kd_cp, gI_sL, gI_sR, gL_sI, gL_sR, gR_sI, gR_sL, gL_cp, gR_cp, kd_aI, gL_aI, gR_aI, gI_aI, gI_aIn, sI_aI, gI_sIn, Int.reduceToNat, Int.reduceAdd, Int.reduceSub, Int.reduceMul, Int.reduceNeg, Int.zero_add, x]
