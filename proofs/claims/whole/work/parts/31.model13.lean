def rowL (N : Nt) : List Nat := (List.range (nM N)).map (nR N)
def ofL (l : List Nat) (i : Nat) : Nat := l[i]?.getD 0
theorem rowL_len (N : Nt) : (rowL N).length = nM N := by unfold rowL; rw [List.length_map, List.length_range]
theorem rowL_at {N : Nt} {i : Nat} (q : i < (rowL N).length) : (rowL N)[i] = nR N i := by
  simp only [rowL, List.getElem_map, List.getElem_range]
theorem rowL_mem {N : Nt} {c : Nat} : c ∈ rowL N ↔ ∃ i, i < nM N ∧ nR N i = c := by
  unfold rowL
  simp only [List.mem_map, List.mem_range]
theorem ofL_at {l : List Nat} {i : Nat} (q : i < l.length) : ofL l i = l[i] := by
  unfold ofL
  rw [List.getElem?_eq_getElem q]
  rfl
theorem rowL_nd {T : Td} {N : Nt} (w : wfN T N) : (rowL N).Nodup := by
  rw [List.nodup_iff_pairwise_ne, List.pairwise_iff_getElem]
  intro i j hi hj ij
  rw [rowL_at hi, rowL_at hj]
  rw [rowL_len] at hi hj
  intro e
  have := w.2.2.1 i j hi hj e
  omega
theorem rowL_lt {T : Td} {N : Nt} (w : wfN T N) {c : Nat} (h : c ∈ rowL N) : c < tN T := by
  obtain ⟨i, hi, e⟩ := rowL_mem.mp h
  rw [← e]
  exact w.2.1 i hi
theorem nd_len {l : List Nat} {n : Nat} (h : l.Nodup) (b : ∀ c, c ∈ l → c < n) : l.length ≤ n := by
  have := h.length_le_of_subset (l₂ := List.range n) (fun c hc => List.mem_range.mpr (b c hc))
  rw [List.length_range] at this
  exact this
theorem rwO_row {G : Nat → Int} {T : Td} {N : Nt} {o : Nat} (s : slG G o T N) : rwO G o (rowL N) := fun i q => by
  rw [rowL_at q]
  rw [rowL_len] at q
  exact s.2.1 i q
/-- the same night, another row and late -/
def setR (N : Nt) (l : List Nat) (late : Nat) : Nt := (l.length, ofL l, nX N, late, nV N)
theorem rowL_setR (N : Nt) (l : List Nat) (late : Nat) : rowL (setR N l late) = l := by
  refine List.ext_getElem ?_ (fun i h1 h2 => ?_)
  · rw [rowL_len]; rfl
  · rw [rowL_at h1]
    exact ofL_at h2
theorem setR_wf {T : Td} {N : Nt} (w : wfN T N) {l : List Nat} {late : Nat} (n : l.Nodup) (b : ∀ c, c ∈ l → c < tN T) (l7 : late < 128) (lb : ∀ c, late.testBit c = true → c ∈ l) : wfN T (setR N l late) := by
  refine ⟨nd_len n b, fun i hi => ?_, fun i j hi hj e => ?_, w.2.2.2.1, l7, fun c hc => ?_, w.2.2.2.2.2.2⟩
  · have hi : i < l.length := hi
    show ofL l i < _
    rw [ofL_at hi]
    exact b _ (List.getElem_mem hi)
  · have hi : i < l.length := hi
    have hj : j < l.length := hj
    have e : ofL l i = ofL l j := e
    rw [ofL_at hi, ofL_at hj] at e
    exact (List.getElem_inj n).mp e
  · have := lb c hc
    rw [← rowL_setR N l late] at this
    exact rowL_mem.mp this
theorem setR_sl {G G2 : Nat → Int} {T : Td} {N : Nt} {l : List Nat} {late : Nat} (s : slG G 0 T N) (r : rwO G2 0 l) (e7 : G2 7 = l.length) (e8 : G2 8 = late) (e : ∀ k, 9 ≤ k → G2 k = G k) : slG G2 0 T (setR N l late) := by
  refine ⟨e7, fun i hi => ?_, e8, fun c hc => (e _ (by omega)).trans (s.2.2.2.1 c hc), fun k hk => (e _ (by omega)).trans (s.2.2.2.2 k hk)⟩
  have hi : i < l.length := hi
  rw [r i hi]
  show _ = ((ofL l i : Nat) : Int)
  rw [ofL_at hi]
/-- behind all others -/
def behL (l : List Nat) (c : Nat) : List Nat := l.filter (fun x => decide (x ≠ c)) ++ [c]
theorem flt_sp {A B : List Nat} {c : Nat} (n : (A ++ c :: B).Nodup) : (A ++ c :: B).filter (fun x => decide (x ≠ c)) = A ++ B := by
  rw [List.nodup_append] at n
  obtain ⟨n1, n2, n3⟩ := n
  rw [List.nodup_cons] at n2
  rw [List.filter_append, List.filter_cons_of_neg (by simp)]
  rw [List.filter_eq_self.mpr, List.filter_eq_self.mpr]
  · intro x hx
    exact decide_eq_true (fun e => n2.1 (e ▸ hx))
  · intro x hx
    exact decide_eq_true (n3 x hx c (List.mem_cons_self))
/-- a cart of the row: what is ahead of it and behind it -/
theorem row_split {T : Td} {N : Nt} (w : wfN T N) {c : Nat} (z : plF (fun i => (nR N i : Int)) c (nM N) 0 ≠ -9) : ∃ A B, rowL N = A ++ c :: B ∧ A.length + 1 + B.length = nM N ∧ plF (fun i => (nR N i : Int)) c (nM N) 0 = A.length ∧ (rowL N).filter (fun x => decide (x ≠ c)) = A ++ B := by
  obtain ⟨p, -, p2, p3, p4⟩ := plF_yes z
  have hp : p < (rowL N).length := by rw [rowL_len]; omega
  have e : rowL N = (rowL N).take p ++ c :: (rowL N).drop (p + 1) := by
    have h1 := List.take_append_drop p (rowL N)
    rw [List.drop_eq_getElem_cons hp, rowL_at hp] at h1
    have h2 : nR N p = c := by have : (nR N p : Int) = c := p3; omega
    rw [h2] at h1
    exact h1.symm
  refine ⟨(rowL N).take p, (rowL N).drop (p + 1), e, ?_, ?_, ?_⟩
  · rw [List.length_take, List.length_drop, ← rowL_len]
    omega
  · rw [p4, List.length_take]
    omega
  · have n := rowL_nd w
    have f := flt_sp (A := (rowL N).take p) (B := (rowL N).drop (p + 1)) (c := c) (by rw [← e]; exact n)
    rw [← e] at f
    exact f
theorem beh_nd {l : List Nat} {c : Nat} (n : l.Nodup) : (behL l c).Nodup := by
  unfold behL
  rw [List.nodup_append]
  refine ⟨(List.filter_sublist).nodup n, List.nodup_cons.mpr ⟨List.not_mem_nil, List.nodup_nil⟩, fun a ha b hb e => ?_⟩
  rw [List.mem_singleton.mp hb] at e
  have := (List.mem_filter.mp ha).2
  rw [e] at this
  simp at this
theorem beh_mem {l : List Nat} {c x : Nat} (hc : c ∈ l) : x ∈ behL l c ↔ x ∈ l := by
  unfold behL
  rw [List.mem_append, List.mem_filter, List.mem_singleton]
  by_cases z : x = c
  · subst z
    exact ⟨fun _ => hc, fun _ => Or.inr rfl⟩
  · exact ⟨fun h => h.elim (fun y => y.1) (fun y => absurd y z), fun h => Or.inl ⟨h, decide_eq_true z⟩⟩
def pinN (N : Nt) (c : Nat) : Nt := setR N (behL (rowL N) c) (nL N)
def pinS (T : Td) (N : Nt) (P : List Nt) (c : Int) : Int × Nt × List Nt := if 0 ≤ c ∧ c < tN T then (if plF (fun i => (nR N i : Int)) c (nM N) 0 = -9 ∨ plF (fun i => (nR N i : Int)) c (nM N) 0 = (nM N : Int) - 1 then (-2, N, P) else (cellS T (pinN N c.toNat) c.toNat, pinN N c.toNat, knP P N)) else (-1, N, P)
theorem pin_wf {T : Td} {N : Nt} (w : wfN T N) {c : Nat} (hc : c ∈ rowL N) : wfN T (pinN N c) := by
  refine setR_wf w (beh_nd (rowL_nd w)) (fun x hx => rowL_lt w ((beh_mem hc).mp hx)) w.2.2.2.2.1 (fun x hx => (beh_mem hc).mpr (rowL_mem.mpr (w.2.2.2.2.2.1 x hx)))
theorem mPin_ok (d : Nat) (h : mH) (L : LAY h) (T : Td) (N : Nt) (P : List Nt) (wT : wfT T) (wW : wfW T N P) (t : mT h T) (s : whG (gI h 150) 0 T N P) (c : Int) : evOK (d + 6) 162 [Sum.inl c] h T (pinS T N P c) := by
  have c7 := wT.1
  have n7 : nM N ≤ 7 := Nat.le_trans wW.1.1 wT.1
  have L0 := L
  obtain ⟨k141, j141⟩ := lay_k L (a := 141) (t := 8) (n := 26) rfl; obtain ⟨k150, j150⟩ := lay_k L (a := 150) (t := 100) (n := 1851) rfl; have r141_16 : gR h 141 16 = some 150 := lay_r L rfl
  unfold pinS
  by_cases q : 0 ≤ c ∧ c < tN T
  · have e := mCart_t (d + 3) h L c (tN T) t.1 q wT.1
    rw [if_pos q]
    obtain ⟨j, rfl⟩ : ∃ j : Nat, c = j := ⟨c.toNat, by omega⟩
    rw [Int.toNat_natCast]
    have hj : j < tN T := by omega
    have u := slG_now.mpr s.1
    have ep := mPlace_ok (d + 4) h L j (nM N) u.1 n7
    rw [plF_congr (g := fun i => (nR N i : Int)) (fun i _ hi => u.2.1 i (by omega))] at ep
    have em := u.1
    by_cases z : plF (fun i => (nR N i : Int)) j (nM N) 0 = -9
    · rw [if_pos (Or.inl z)]
      refine evOK_st wW s ?_
      rw [en_162]
      simp (disch := (first | omega | (simp only [kd_sI, kd_sL, kd_sR, kd_cp, kd_aI]; omega) | (unfold catV; exact rfl) | (unfold catS; exact Nat.le_of_ble_eq_true rfl) | assumption)) only [q_162_0, q_162_1, q_162_2, q_162_5_t, q_162_5_f, q_162_8, q_162_9, q_162_10, q_162_11, q_162_12, q_162_15, q_162_16, q_162_17, q_162_19_t, q_162_19_f, q_162_22, q_162_23, q_162_24, q_162_27, q_162_29, q_162_30, q_162_31, q_162_32_t, q_162_32_f, q_162_35, q_162_37, q_162_38, q_162_39, q_162_42, q_162_43, q_162_44, q_162_47, q_162_48, q_162_49, q_162_52, aft_i, aft_l, aft_v, Int.toNat_natCast, kd_sI, kd_sL, kd_sR, kd_cp, gI_sL, gI_sR, gL_sI, gL_sR, gR_sI, gR_sL, gL_cp, gR_cp, kd_aI, gL_aI, gR_aI, gI_aI, gI_aIn, sI_aI, gI_sIn, Int.reduceToNat, Int.reduceAdd, Int.reduceSub, Int.reduceMul, Int.reduceNeg, Int.zero_add, e, ep, z]
    · obtain ⟨A, B, eA, eL, eP, eF⟩ := row_split wW.1 z
      by_cases y : plF (fun i => (nR N i : Int)) j (nM N) 0 = (nM N : Int) - 1
      · rw [if_pos (Or.inr y)]
        refine evOK_st wW s ?_
        rw [en_162]
        simp (disch := (first | omega | (simp only [kd_sI, kd_sL, kd_sR, kd_cp, kd_aI]; omega) | (unfold catV; exact rfl) | (unfold catS; exact Nat.le_of_ble_eq_true rfl) | assumption)) only [q_162_0, q_162_1, q_162_2, q_162_5_t, q_162_5_f, q_162_8, q_162_9, q_162_10, q_162_11, q_162_12, q_162_15, q_162_16, q_162_17, q_162_19_t, q_162_19_f, q_162_22, q_162_23, q_162_24, q_162_27, q_162_29, q_162_30, q_162_31, q_162_32_t, q_162_32_f, q_162_35, q_162_37, q_162_38, q_162_39, q_162_42, q_162_43, q_162_44, q_162_47, q_162_48, q_162_49, q_162_52, aft_i, aft_l, aft_v, Int.toNat_natCast, kd_sI, kd_sL, kd_sR, kd_cp, gI_sL, gI_sR, gL_sI, gL_sR, gR_sI, gR_sL, gL_cp, gR_cp, kd_aI, gL_aI, gR_aI, gI_aI, gI_aIn, sI_aI, gI_sIn, Int.reduceToNat, Int.reduceAdd, Int.reduceSub, Int.reduceMul, Int.reduceNeg, Int.zero_add, e, ep, r141_16, em]
      · rw [if_neg (by rw [not_or]; exact ⟨z, y⟩)]
        have hc : j ∈ rowL N := by rw [eA]; exact List.mem_append_right _ List.mem_cons_self
        have wl := pin_wf wW.1 hc
        obtain ⟨G, ek, wG, uG⟩ := mKnow_ok (d + 4) h L0 T N P wT wW s
        have sG := wG.1
        obtain ⟨G2, eb, rb, ub⟩ := mBeh_ok (d + 4) (aI h 150 G) (lay_aI L0 _ _) A B j (by omega) (by rw [gI_aI, eL]; exact sG.1) (by rw [gI_aI, ← eA]; exact rwO_row sG)
        rw [gI_aI] at ub
        rw [aI_aI] at eb
        have eBl : behL (rowL N) j = A ++ B ++ [j] := by unfold behL; rw [eF]
        have s2 : slG G2 0 T (pinN N j) := by
          unfold pinN
          refine setR_sl sG ?_ ?_ ?_ (fun k hk => ub k (by omega))
          · rw [eBl]; exact rb
          · rw [eBl, ub 7 (by omega)]
            simp only [List.length_append, List.length_singleton]
            rw [show G 7 = nM N from sG.1]
            omega
          · rw [ub 8 (by omega)]; exact sG.2.2.1
        have L2 : LAY (aI h 150 G2) := lay_aI L0 _ _
        have v : evA h (aI h 150 G2) := evA_aI (fun k hk => by rw [ub k (by omega), uG k (Or.inr hk)])
        obtain ⟨g, eg, sg, -⟩ := mCell_ok (d + 1) _ L2 T (pinN N j) wT wl (evA_mT v t) (slG_now.mpr (by rw [gI_aI]; exact s2)) j hj
        refine ⟨g, ?_, evA_tr v (evA_scr sg), knP_wf wW wl, ?_⟩
        · rw [eP] at ep y
          have hA9 : (A.length : Int) ≠ -9 := by omega
          rw [en_162]
          simp (disch := (first | omega | (simp only [kd_sI, kd_sL, kd_sR, kd_cp, kd_aI]; omega) | (unfold catV; exact rfl) | (unfold catS; exact Nat.le_of_ble_eq_true rfl) | assumption)) only [q_162_0, q_162_1, q_162_2, q_162_5_t, q_162_5_f, q_162_8, q_162_9, q_162_10, q_162_11, q_162_12, q_162_15, q_162_16, q_162_17, q_162_19_t, q_162_19_f, q_162_22, q_162_23, q_162_24, q_162_27, q_162_29, q_162_30, q_162_31, q_162_32_t, q_162_32_f, q_162_35, q_162_37, q_162_38, q_162_39, q_162_42, q_162_43, q_162_44, q_162_47, q_162_48, q_162_49, q_162_52, aft_i, aft_l, aft_v, Int.toNat_natCast, kd_sI, kd_sL, kd_sR, kd_cp, gI_sL, gI_sR, gL_sI, gL_sR, gR_sI, gR_sL, gL_cp, gR_cp, kd_aI, gL_aI, gR_aI, gI_aI, gI_aIn, sI_aI, gI_sIn, Int.reduceToNat, Int.reduceAdd, Int.reduceSub, Int.reduceMul, Int.reduceNeg, Int.zero_add, e, ep, hA9, r141_16, em, ek, eb, eg]
        · rw [scr_q sg (by omega) (by omega), gI_aI]
          exact whG_ev wT (knP_wf wW wl).2 (fun i hi _ => ub i (by omega)) s2 wG
  · have e := mCart_f (d + 3) h L c (tN T) t.1 q wT.1
    rw [if_neg q]
    refine evOK_st wW s ?_
    rw [en_162]
    simp (disch := (first | omega | (simp only [kd_sI, kd_sL, kd_sR, kd_cp, kd_aI]; omega) | (unfold catV; exact rfl) | (unfold catS; exact Nat.le_of_ble_eq_true rfl) | assumption)) only [q_162_0, q_162_1, q_162_2, q_162_5_t, q_162_5_f, q_162_8, q_162_9, q_162_10, q_162_11, q_162_12, q_162_15, q_162_16, q_162_17, q_162_19_t, q_162_19_f, q_162_22, q_162_23, q_162_24, q_162_27, q_162_29, q_162_30, q_162_31, q_162_32_t, q_162_32_f, q_162_35, q_162_37, q_162_38, q_162_39, q_162_42, q_162_43, q_162_44, q_162_47, q_162_48, q_162_49, q_162_52, aft_i, aft_l, aft_v, Int.toNat_natCast, kd_sI, kd_sL, kd_sR, kd_cp, gI_sL, gI_sR, gL_sI, gL_sR, gR_sI, gR_sL, gL_cp, gR_cp, kd_aI, gL_aI, gR_aI, gI_aI, gI_aIn, sI_aI, gI_sIn, Int.reduceToNat, Int.reduceAdd, Int.reduceSub, Int.reduceMul, Int.reduceNeg, Int.zero_add, e]
