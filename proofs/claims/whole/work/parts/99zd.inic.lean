theorem nwR_1 (h : mH) (t n a k : Nat) : (nwR h t n a k).1 = h.1 ++ [(t, n)] := rfl
theorem nwR_R {h : mH} {t n a k j : Nat} (l : a < h.1.length) : gR (nwR h t n a k) a j = if j = k then some h.1.length else gR h a j := by
  unfold nwR
  rw [gR_sR]
  by_cases e : j = k
  · rw [if_pos ⟨rfl, e⟩, if_pos e]
  · rw [if_neg (fun z => e z.2), if_neg e, nw_R (by omega)]
theorem nwR_o {h : mH} {t n a k q : Nat} (l : q < h.1.length) : gI (nwR h t n a k) q = gI h q ∧ gL (nwR h t n a k) q = gL h q := by
  refine ⟨funext (fun j => ?_), funext (fun j => ?_)⟩
  · show (if q = h.1.length then 0 else gI h q j) = _
    rw [if_neg (by omega)]
  · show (if q = h.1.length then 0 else gL h q j) = _
    rw [if_neg (by omega)]
theorem nwR_x {h : mH} {t n a k q : Nat} (l : q < h.1.length) (ne : q ≠ a) : gR (nwR h t n a k) q = gR h q := by
  funext j
  unfold nwR
  rw [gR_sR, if_neg (fun z => ne z.1), nw_R (by omega)]
theorem ary122_o {h : mH} {a q : Nat} (l : q < h.1.length) : gI (ary122 h a) q = gI h q ∧ gL (ary122 h a) q = gL h q := by
  unfold ary122
  refine ⟨?_, ?_⟩
  · rw [(nwR_o (by rw [nwR_l, nwR_l, nwR_l, nwR_l, nwR_l, nwR_l, nwR_l, nwR_l, nwR_l, nwR_l, nwR_l, nwR_l, nwR_l, nwR_l, nwR_l]; omega)).1, (nwR_o (by rw [nwR_l, nwR_l, nwR_l, nwR_l, nwR_l, nwR_l, nwR_l, nwR_l, nwR_l, nwR_l, nwR_l, nwR_l, nwR_l, nwR_l]; omega)).1, (nwR_o (by rw [nwR_l, nwR_l, nwR_l, nwR_l, nwR_l, nwR_l, nwR_l, nwR_l, nwR_l, nwR_l, nwR_l, nwR_l, nwR_l]; omega)).1, (nwR_o (by rw [nwR_l, nwR_l, nwR_l, nwR_l, nwR_l, nwR_l, nwR_l, nwR_l, nwR_l, nwR_l, nwR_l, nwR_l]; omega)).1, (nwR_o (by rw [nwR_l, nwR_l, nwR_l, nwR_l, nwR_l, nwR_l, nwR_l, nwR_l, nwR_l, nwR_l, nwR_l]; omega)).1, (nwR_o (by rw [nwR_l, nwR_l, nwR_l, nwR_l, nwR_l, nwR_l, nwR_l, nwR_l, nwR_l, nwR_l]; omega)).1, (nwR_o (by rw [nwR_l, nwR_l, nwR_l, nwR_l, nwR_l, nwR_l, nwR_l, nwR_l, nwR_l]; omega)).1, (nwR_o (by rw [nwR_l, nwR_l, nwR_l, nwR_l, nwR_l, nwR_l, nwR_l, nwR_l]; omega)).1, (nwR_o (by rw [nwR_l, nwR_l, nwR_l, nwR_l, nwR_l, nwR_l, nwR_l]; omega)).1, (nwR_o (by rw [nwR_l, nwR_l, nwR_l, nwR_l, nwR_l, nwR_l]; omega)).1, (nwR_o (by rw [nwR_l, nwR_l, nwR_l, nwR_l, nwR_l]; omega)).1, (nwR_o (by rw [nwR_l, nwR_l, nwR_l, nwR_l]; omega)).1, (nwR_o (by rw [nwR_l, nwR_l, nwR_l]; omega)).1, (nwR_o (by rw [nwR_l, nwR_l]; omega)).1, (nwR_o (by rw [nwR_l]; omega)).1, (nwR_o (by omega)).1]
  · rw [(nwR_o (by rw [nwR_l, nwR_l, nwR_l, nwR_l, nwR_l, nwR_l, nwR_l, nwR_l, nwR_l, nwR_l, nwR_l, nwR_l, nwR_l, nwR_l, nwR_l]; omega)).2, (nwR_o (by rw [nwR_l, nwR_l, nwR_l, nwR_l, nwR_l, nwR_l, nwR_l, nwR_l, nwR_l, nwR_l, nwR_l, nwR_l, nwR_l, nwR_l]; omega)).2, (nwR_o (by rw [nwR_l, nwR_l, nwR_l, nwR_l, nwR_l, nwR_l, nwR_l, nwR_l, nwR_l, nwR_l, nwR_l, nwR_l, nwR_l]; omega)).2, (nwR_o (by rw [nwR_l, nwR_l, nwR_l, nwR_l, nwR_l, nwR_l, nwR_l, nwR_l, nwR_l, nwR_l, nwR_l, nwR_l]; omega)).2, (nwR_o (by rw [nwR_l, nwR_l, nwR_l, nwR_l, nwR_l, nwR_l, nwR_l, nwR_l, nwR_l, nwR_l, nwR_l]; omega)).2, (nwR_o (by rw [nwR_l, nwR_l, nwR_l, nwR_l, nwR_l, nwR_l, nwR_l, nwR_l, nwR_l, nwR_l]; omega)).2, (nwR_o (by rw [nwR_l, nwR_l, nwR_l, nwR_l, nwR_l, nwR_l, nwR_l, nwR_l, nwR_l]; omega)).2, (nwR_o (by rw [nwR_l, nwR_l, nwR_l, nwR_l, nwR_l, nwR_l, nwR_l, nwR_l]; omega)).2, (nwR_o (by rw [nwR_l, nwR_l, nwR_l, nwR_l, nwR_l, nwR_l, nwR_l]; omega)).2, (nwR_o (by rw [nwR_l, nwR_l, nwR_l, nwR_l, nwR_l, nwR_l]; omega)).2, (nwR_o (by rw [nwR_l, nwR_l, nwR_l, nwR_l, nwR_l]; omega)).2, (nwR_o (by rw [nwR_l, nwR_l, nwR_l, nwR_l]; omega)).2, (nwR_o (by rw [nwR_l, nwR_l, nwR_l]; omega)).2, (nwR_o (by rw [nwR_l, nwR_l]; omega)).2, (nwR_o (by rw [nwR_l]; omega)).2, (nwR_o (by omega)).2]
theorem ary122_x {h : mH} {a q : Nat} (l : q < h.1.length) (ne : q ≠ a) : gR (ary122 h a) q = gR h q := by
  unfold ary122
  rw [nwR_x (by rw [nwR_l, nwR_l, nwR_l, nwR_l, nwR_l, nwR_l, nwR_l, nwR_l, nwR_l, nwR_l, nwR_l, nwR_l, nwR_l, nwR_l, nwR_l]; omega) ne, nwR_x (by rw [nwR_l, nwR_l, nwR_l, nwR_l, nwR_l, nwR_l, nwR_l, nwR_l, nwR_l, nwR_l, nwR_l, nwR_l, nwR_l, nwR_l]; omega) ne, nwR_x (by rw [nwR_l, nwR_l, nwR_l, nwR_l, nwR_l, nwR_l, nwR_l, nwR_l, nwR_l, nwR_l, nwR_l, nwR_l, nwR_l]; omega) ne, nwR_x (by rw [nwR_l, nwR_l, nwR_l, nwR_l, nwR_l, nwR_l, nwR_l, nwR_l, nwR_l, nwR_l, nwR_l, nwR_l]; omega) ne, nwR_x (by rw [nwR_l, nwR_l, nwR_l, nwR_l, nwR_l, nwR_l, nwR_l, nwR_l, nwR_l, nwR_l, nwR_l]; omega) ne, nwR_x (by rw [nwR_l, nwR_l, nwR_l, nwR_l, nwR_l, nwR_l, nwR_l, nwR_l, nwR_l, nwR_l]; omega) ne, nwR_x (by rw [nwR_l, nwR_l, nwR_l, nwR_l, nwR_l, nwR_l, nwR_l, nwR_l, nwR_l]; omega) ne, nwR_x (by rw [nwR_l, nwR_l, nwR_l, nwR_l, nwR_l, nwR_l, nwR_l, nwR_l]; omega) ne, nwR_x (by rw [nwR_l, nwR_l, nwR_l, nwR_l, nwR_l, nwR_l, nwR_l]; omega) ne, nwR_x (by rw [nwR_l, nwR_l, nwR_l, nwR_l, nwR_l, nwR_l]; omega) ne, nwR_x (by rw [nwR_l, nwR_l, nwR_l, nwR_l, nwR_l]; omega) ne, nwR_x (by rw [nwR_l, nwR_l, nwR_l, nwR_l]; omega) ne, nwR_x (by rw [nwR_l, nwR_l, nwR_l]; omega) ne, nwR_x (by rw [nwR_l, nwR_l]; omega) ne, nwR_x (by rw [nwR_l]; omega) ne, nwR_x (by omega) ne]
theorem ary122_1 (h : mH) (a : Nat) : (ary122 h a).1 = h.1 ++ [(101, 180), (100, 2), (100, 7), (100, 14), (100, 14), (100, 2), (100, 80), (100, 4), (100, 1851), (102, 2), (100, 7), (100, 40), (100, 7), (100, 7), (100, 6), (100, 6)] := by
  unfold ary122
  simp only [nwR_1, List.append_assoc, List.cons_append, List.nil_append]
theorem ini_1 {g : mH} (e : g.1 = shZ) : (ary122 (nw g 8 26) 141).1 = shT := by
  rw [ary122_1, show (nw g 8 26).1 = g.1 ++ [(8, 26)] from rfl, e]
  decide +kernel
def refM : List ((Nat × Nat) × Nat) := [((141, 1), 142), ((141, 3), 143), ((141, 4), 144), ((141, 5), 145), ((141, 6), 146), ((141, 7), 147), ((141, 8), 148), ((141, 9), 149), ((141, 16), 150), ((141, 17), 151), ((141, 18), 152), ((141, 20), 153), ((141, 21), 154), ((141, 22), 155), ((141, 23), 156), ((141, 24), 157)]
theorem refM_ok : refL.filter (fun e => decide (141 ≤ e.1.1)) = refM := by decide +kernel
theorem ini_a {h : mH} (l0 : h.1.length = 142) : ∀ p ∈ refM, gR (ary122 h 141) p.1.1 p.1.2 = some p.2 := by
  intro p hp
  unfold refM at hp
  simp only [List.mem_cons, List.not_mem_nil, or_false] at hp
  have key : ∀ j, gR (ary122 h 141) 141 j = if j = 24 then some (142 + 1 + 1 + 1 + 1 + 1 + 1 + 1 + 1 + 1 + 1 + 1 + 1 + 1 + 1 + 1) else if j = 23 then some (142 + 1 + 1 + 1 + 1 + 1 + 1 + 1 + 1 + 1 + 1 + 1 + 1 + 1 + 1) else if j = 22 then some (142 + 1 + 1 + 1 + 1 + 1 + 1 + 1 + 1 + 1 + 1 + 1 + 1 + 1) else if j = 21 then some (142 + 1 + 1 + 1 + 1 + 1 + 1 + 1 + 1 + 1 + 1 + 1 + 1) else if j = 20 then some (142 + 1 + 1 + 1 + 1 + 1 + 1 + 1 + 1 + 1 + 1 + 1) else if j = 18 then some (142 + 1 + 1 + 1 + 1 + 1 + 1 + 1 + 1 + 1 + 1) else if j = 17 then some (142 + 1 + 1 + 1 + 1 + 1 + 1 + 1 + 1 + 1) else if j = 16 then some (142 + 1 + 1 + 1 + 1 + 1 + 1 + 1 + 1) else if j = 9 then some (142 + 1 + 1 + 1 + 1 + 1 + 1 + 1) else if j = 8 then some (142 + 1 + 1 + 1 + 1 + 1 + 1) else if j = 7 then some (142 + 1 + 1 + 1 + 1 + 1) else if j = 6 then some (142 + 1 + 1 + 1 + 1) else if j = 5 then some (142 + 1 + 1 + 1) else if j = 4 then some (142 + 1 + 1) else if j = 3 then some (142 + 1) else if j = 1 then some 142 else gR h 141 j := by
    intro j
    unfold ary122
    rw [nwR_R (by rw [nwR_l, nwR_l, nwR_l, nwR_l, nwR_l, nwR_l, nwR_l, nwR_l, nwR_l, nwR_l, nwR_l, nwR_l, nwR_l, nwR_l, nwR_l, l0]; omega), nwR_R (by rw [nwR_l, nwR_l, nwR_l, nwR_l, nwR_l, nwR_l, nwR_l, nwR_l, nwR_l, nwR_l, nwR_l, nwR_l, nwR_l, nwR_l, l0]; omega), nwR_R (by rw [nwR_l, nwR_l, nwR_l, nwR_l, nwR_l, nwR_l, nwR_l, nwR_l, nwR_l, nwR_l, nwR_l, nwR_l, nwR_l, l0]; omega), nwR_R (by rw [nwR_l, nwR_l, nwR_l, nwR_l, nwR_l, nwR_l, nwR_l, nwR_l, nwR_l, nwR_l, nwR_l, nwR_l, l0]; omega), nwR_R (by rw [nwR_l, nwR_l, nwR_l, nwR_l, nwR_l, nwR_l, nwR_l, nwR_l, nwR_l, nwR_l, nwR_l, l0]; omega), nwR_R (by rw [nwR_l, nwR_l, nwR_l, nwR_l, nwR_l, nwR_l, nwR_l, nwR_l, nwR_l, nwR_l, l0]; omega), nwR_R (by rw [nwR_l, nwR_l, nwR_l, nwR_l, nwR_l, nwR_l, nwR_l, nwR_l, nwR_l, l0]; omega), nwR_R (by rw [nwR_l, nwR_l, nwR_l, nwR_l, nwR_l, nwR_l, nwR_l, nwR_l, l0]; omega), nwR_R (by rw [nwR_l, nwR_l, nwR_l, nwR_l, nwR_l, nwR_l, nwR_l, l0]; omega), nwR_R (by rw [nwR_l, nwR_l, nwR_l, nwR_l, nwR_l, nwR_l, l0]; omega), nwR_R (by rw [nwR_l, nwR_l, nwR_l, nwR_l, nwR_l, l0]; omega), nwR_R (by rw [nwR_l, nwR_l, nwR_l, nwR_l, l0]; omega), nwR_R (by rw [nwR_l, nwR_l, nwR_l, l0]; omega), nwR_R (by rw [nwR_l, nwR_l, l0]; omega), nwR_R (by rw [nwR_l, l0]; omega), nwR_R (by rw [l0]; omega)]
    simp only [nwR_l, l0]
  rcases hp with rfl | rfl | rfl | rfl | rfl | rfl | rfl | rfl | rfl | rfl | rfl | rfl | rfl | rfl | rfl | rfl <;> (dsimp only; rw [key]; rfl)
theorem ini_L {g : mH} (L : LAY_Z g) : LAY (ary122 (nw g 8 26) 141) := by
  have l : g.1.length = 141 := by rw [L.1]; rfl
  refine ⟨ini_1 L.1, fun q k b e => ?_⟩
  by_cases z : q < 141
  · have e2 : refZ q k = some b := by unfold refZ; rw [if_pos z]; exact e
    rw [ary122_x (by rw [ln_nw]; omega) (by omega), nw_R (by omega)]
    exact lay_r_Z L e2
  · unfold refT at e
    cases f : refL.find? (fun e => e.1.1 == q && e.1.2 == k) with
    | none => rw [f] at e; cases e
    | some p =>
      rw [f] at e
      have m := List.mem_of_find?_eq_some f
      have t := List.find?_some f
      simp only [Bool.and_eq_true, beq_iff_eq] at t
      have hm : p ∈ refM := by
        rw [← refM_ok]
        exact List.mem_filter.mpr ⟨m, decide_eq_true (by omega)⟩
      have := ini_a (h := nw g 8 26) (by rw [ln_nw, l]) p hm
      rw [t.1, t.2] at this
      rw [this]
      exact e
theorem mInit_ok (d : Nat) {g : mH} (L : LAY_Z g) (c : CI g (twn 0 dNew)) : ∃ g3, callA (d + 2) 122 [Sum.inr (Sum.inr (some 141))] (nw g 8 26) = some (none, g3) ∧ RR g3 (twn 0 dNew) := by
  have l : g.1.length = 141 := by rw [L.1]; rfl
  have l0 : (nw g 8 26).1.length = 142 := by rw [ln_nw, l]
  have LG := ini_L L
  have k0 : kd (nw g 8 26) 141 = (8, 26) := by rw [← l]; exact kd_nws g 8 26
  obtain ⟨j1, j2⟩ := lay_k LG (a := 141) (t := 8) (n := 26) rfl
  have cG : CI (ary122 (nw g 8 26) 141) (twn 0 dNew) := CI_low (fun q hq => by
    have o := ary122_o (h := nw g 8 26) (a := 141) (q := q) (by omega)
    refine ⟨o.1.trans (funext fun j => ?_), o.2.trans (funext fun j => ?_), ?_⟩
    · show (if q = g.1.length then 0 else gI g q j) = _
      rw [if_neg (by omega)]
    · show (if q = g.1.length then 0 else gL g q j) = _
      rw [if_neg (by omega)]
    · rw [ary122_x (by omega) (by omega)]
      funext j
      rw [nw_R (by omega)]) c
  obtain ⟨g1, e1, q1, d1, f1⟩ := mPlain_ok d _ LG
  have L1 := prF_L q1 LG
  obtain ⟨g2, e2, s2, t2, f2⟩ := mTd_ok d g1 L1 dNew d1 new_wf
  obtain ⟨i1, i2⟩ := lay_k L1 (a := 141) (t := 8) (n := 26) rfl
  have fr : frm 141 158 (ary122 (nw g 8 26) 141) g2 := frm_tr (prF_frm q1) ⟨s2.1, fun a ha => ⟨funext fun k => f2 a k (by omega) (by omega), by rw [s2.2.1], by rw [s2.2.2]⟩⟩
  refine ⟨g2, ?_, sam_L s2 L1, twn_wf new_wf, CI_frm fr cG, MI_twn t2 ?_ ?_⟩
  · rw [en_122, q_122_0, q_122_1 (Nat.le_of_ble_eq_true rfl), ary122_ok _ _ 141 (by omega) (by rw [k0]) (by rw [k0]), q_122_130, q_122_131 (Nat.le_of_ble_eq_true rfl) j1 j2, e1, aft_v, q_122_134, q_122_135 (Nat.le_of_ble_eq_true rfl) i1 i2, e2, aft_v, q_122_138]
  · rw [f2 141 2 (by omega) (by omega), f1 2 (by omega), (ary122_o (h := nw g 8 26) (a := 141) (q := 141) (by omega)).1]
    show (if 141 = g.1.length then 0 else gI g 141 2) = 0
    rw [if_pos l.symm]
  · rw [s2.2.1, q1.2.2.1, (ary122_o (h := nw g 8 26) (a := 141) (q := 141) (by omega)).2]
    show (if 141 = g.1.length then 0 else gL g 141 0) = 0
    rw [if_pos l.symm]
