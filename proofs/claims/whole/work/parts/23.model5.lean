abbrev Td : Type := Nat × Nat × Nat × Nat × (Nat → Nat) × (Nat → Nat) × (Nat → Nat)
abbrev Nt : Type := Nat × (Nat → Nat) × (Nat → Nat) × Nat × Nat
def tN (T : Td) : Nat := T.1
def tK (T : Td) : Nat := T.2.1
def tA (T : Td) : Nat := T.2.2.1
def tM (T : Td) : Nat := T.2.2.2.1
def tP (T : Td) : Nat → Nat := T.2.2.2.2.1
def tF (T : Td) : Nat → Nat := T.2.2.2.2.2.1
def tG (T : Td) : Nat → Nat := T.2.2.2.2.2.2
def nM (N : Nt) : Nat := N.1
def nR (N : Nt) : Nat → Nat := N.2.1
def nX (N : Nt) : Nat → Nat := N.2.2.1
def nL (N : Nt) : Nat := N.2.2.2.1
def nV (N : Nt) : Nat := N.2.2.2.2
def wfT (T : Td) : Prop := tN T ≤ 7 ∧ tK T ≤ 40 ∧ (1 ≤ tA T ∧ tA T ≤ 9) ∧ (1 ≤ tM T ∧ tM T ≤ 60) ∧ (∀ c, c < tN T → 1 ≤ tP T c ∧ tP T c ≤ 9) ∧ (∀ c, c < tN T → tF T c < 128) ∧ (∀ a b, a < tN T → b < tN T → (tF T a).testBit b = (tF T b).testBit a) ∧ (∀ k, k < tK T → tG T k ≤ 2)
def wfN (T : Td) (N : Nt) : Prop := nM N ≤ tN T ∧ (∀ i, i < nM N → nR N i < tN T) ∧ (∀ i j, i < nM N → j < nM N → nR N i = nR N j → i = j) ∧ (∀ c, c < tN T → 1 ≤ nX N c ∧ nX N c ≤ 6) ∧ nL N < 128 ∧ (∀ c, (nL N).testBit c = true → ∃ i, i < nM N ∧ nR N i = c) ∧ nV N < 2 ^ 40
/-- the ground of a night -/
def lnd (T : Td) (N : Nt) (k : Nat) : Int := if (nV N).testBit k = true then 2 else if tG T k = 1 then 1 else 0
def mT (h : mH) (T : Td) : Prop := gI h 143 0 = tN T ∧ gI h 147 0 = tK T ∧ gI h 149 0 = tA T ∧ gI h 149 1 = tM T ∧ (∀ c, c < tN T → gI h 145 c = tP T c ∧ gI h 146 c = tF T c) ∧ (∀ k, k < tK T → gI h 148 k = tG T k)
def mNow (h : mH) (T : Td) (N : Nt) : Prop := gI h 150 7 = nM N ∧ (∀ i, i < nM N → gI h 150 i = nR N i) ∧ gI h 150 8 = nL N ∧ (∀ c, c < tN T → gI h 150 (9 + c) = nX N c) ∧ (∀ k, k < tK T → gI h 150 (16 + k) = lnd T N k)
/-- only the model's own tables of the moment -/
def scr (h g : mH) : Prop := g.1 = h.1 ∧ (∀ q k, ¬ (152 ≤ q ∧ q ≤ 155) → ¬ (q = 141 ∧ k = 19) → gI g q k = gI h q k) ∧ gL g = gL h ∧ gR g = gR h
theorem scr_rf (h : mH) : scr h h := ⟨rfl, fun _ _ _ _ => rfl, rfl, rfl⟩
theorem scr_tr {h g k : mH} (a : scr h g) (b : scr g k) : scr h k := ⟨b.1.trans a.1, fun q j x y => (b.2.1 q j x y).trans (a.2.1 q j x y), b.2.2.1.trans a.2.2.1, b.2.2.2.trans a.2.2.2⟩
theorem scr_L {h g : mH} (a : scr h g) (L : LAY h) : LAY g := lay_keep L a.1 a.2.2.2
theorem scr_q {h g : mH} (a : scr h g) {q : Nat} (x : ¬ (152 ≤ q ∧ q ≤ 155)) (y : q ≠ 141) : gI g q = gI h q := funext fun k => a.2.1 q k x (fun z => y z.1)
theorem scr_aI {h : mH} {a : Nat} {f : Nat → Int} (x : 152 ≤ a ∧ a ≤ 155) : scr h (aI h a f) := ⟨rfl, fun q k u _ => by rw [gI_aIn (fun z => u (by rw [z]; exact x))], rfl, rfl⟩
theorem scr_r {h : mH} {x : Int} : scr h (sI h 141 19 x) := ⟨rfl, fun q k _ v => by rw [gI_sI, if_neg v], rfl, rfl⟩
theorem scr_mT {h g : mH} {T : Td} (a : scr h g) (t : mT h T) : mT g T := by
  unfold mT at t ⊢
  rw [scr_q a (by omega) (by omega), scr_q a (by omega) (by omega), scr_q a (by omega) (by omega), scr_q a (by omega) (by omega), scr_q a (by omega) (by omega), scr_q a (by omega) (by omega)]
  exact t
theorem scr_mN {h g : mH} {T : Td} {N : Nt} (a : scr h g) (t : mNow h T N) : mNow g T N := by
  unfold mNow at t ⊢
  rw [scr_q a (by omega) (by omega)]
  exact t
theorem freeB_congr {l l2 : Nat → Int} {cells k w : Nat} (e : ∀ j, j < cells → l j = l2 j) : freeB l cells k w = freeB l2 cells k w := by
  unfold freeB
  by_cases q : k + w ≤ cells
  · rw [decide_eq_true q, Bool.true_and, Bool.true_and]
    rw [Bool.eq_iff_iff, List.all_eq_true, List.all_eq_true]
    refine ⟨fun h j hj => ?_, fun h j hj => ?_⟩ <;> have := List.mem_range.mp hj
    · have := h j hj; rw [← e _ (by omega)]; exact this
    · have := h j hj; rw [e _ (by omega)]; exact this
  · rw [decide_eq_false q, Bool.false_and, Bool.false_and]
theorem fstF_congr {l l2 : Nat → Int} {cells w : Nat} (e : ∀ j, j < cells → l j = l2 j) : ∀ f k, fstF l cells w f k = fstF l2 cells w f k
  | 0, _ => rfl
  | f + 1, k => by unfold fstF; rw [freeB_congr e, fstF_congr e f (k + 1)]
theorem suS_congr {l l2 : Nat → Int} {cells : Nat} {ax ax2 rw_ rw2 : Nat → Nat} : ∀ {i : Nat}, (∀ j, j < cells → l j = l2 j) → (∀ j, j < i → rw_ j = rw2 j ∧ ax (rw_ j) = ax2 (rw2 j)) → suS l cells ax rw_ i = suS l2 cells ax2 rw2 i
  | 0, _, _ => rfl
  | i + 1, e, h => by
    rw [suS_s, suS_s]
    unfold suP
    rw [suS_congr (i := i) e (fun j hj => h j (by omega)), (h i (by omega)).2]
    cases suS l2 cells ax2 rw2 i with
    | none => rfl
    | some f => dsimp only; rw [fstF_congr e]
theorem suP_congr {l l2 : Nat → Int} {cells : Nat} {ax ax2 rw_ rw2 : Nat → Nat} {i : Nat} (e : ∀ j, j < cells → l j = l2 j) (h : ∀ j, j < i + 1 → rw_ j = rw2 j ∧ ax (rw_ j) = ax2 (rw2 j)) : suP l cells ax rw_ i = suP l2 cells ax2 rw2 i := by
  unfold suP
  rw [suS_congr e (fun j hj => h j (by omega)), (h i (by omega)).2]
  cases suS l2 cells ax2 rw2 i with
  | none => rfl
  | some f => exact fstF_congr e _ _
theorem fiF_out {l : Nat → Int} {cells : Nat} {ax rw_ : Nat → Nat} {F0 : Nat → Int} {c : Nat} : ∀ {n : Nat}, (∀ i, i < n → rw_ i ≠ c) → fiF l cells ax rw_ F0 n c = F0 c
  | 0, _ => rfl
  | n + 1, h => by
    show upI _ _ _ c = _
    rw [upI_n (Ne.symm (h n (by omega)))]
    exact fiF_out (fun i hi => h i (by omega))
theorem fiF_in {l : Nat → Int} {cells : Nat} {ax rw_ : Nat → Nat} {F0 : Nat → Int} : ∀ {n : Nat}, (∀ i j, i < n → j < n → rw_ i = rw_ j → i = j) → ∀ i, i < n → fiF l cells ax rw_ F0 n (rw_ i) = vO (suP l cells ax rw_ i)
  | 0, _, i, hi => by omega
  | n + 1, h, i, hi => by
    show upI _ _ _ (rw_ i) = _
    by_cases e : i = n
    · subst e
      exact upI_s _ _ _
    · rw [upI_n (fun z => e (h i n hi (by omega) z))]
      exact fiF_in (fun a b ha hb => h a b (by omega) (by omega)) i (by omega)
/-- the first cell (or that of its gap) of a cart, -9: none -/
def fcS (T : Td) (N : Nt) : Nat → Int := fiF (lnd T N) (tK T) (nX N) (nR N) (fun _ => -9) (nM N)
theorem vO_b {l : Nat → Int} {cells : Nat} {ax rw_ : Nat → Nat} {i : Nat} (h4 : cells ≤ 40) : vO (suP l cells ax rw_ i) = -9 ∨ (0 ≤ vO (suP l cells ax rw_ i) ∧ vO (suP l cells ax rw_ i) + ax (rw_ i) ≤ cells) := by
  unfold suP
  cases suS l cells ax rw_ i with
  | none => exact Or.inl rfl
  | some f =>
    dsimp only
    cases q : fstF l cells (ax (rw_ i)) (40 - f) f with
    | none => exact Or.inl rfl
    | some p =>
      have := freeB_le (fstF_some q).2.2.1
      right
      unfold vO
      dsimp only
      omega
theorem fcS_b {T : Td} {N : Nt} (wT : wfT T) (wN : wfN T N) (c : Nat) : fcS T N c = -9 ∨ (0 ≤ fcS T N c ∧ fcS T N c + nX N c ≤ tK T) := by
  unfold fcS
  by_cases q : ∃ i, i < nM N ∧ nR N i = c
  · obtain ⟨i, hi, rfl⟩ := q
    rw [fiF_in wN.2.2.1 i hi]
    exact vO_b wT.2.1
  · left
    exact fiF_out (fun i hi z => q ⟨i, hi, z⟩)
/-- SET UP has run over this night -/
def suOK (g : mH) (T : Td) (N : Nt) : Prop := rowF g (nM N) (nR N) ∧ (∀ k, k < tK T → gI g 153 k = lnd T N k) ∧ ∀ i, i < nM N → gI g 154 (nR N i) = fcS T N (nR N i)
theorem mSun_ok (d : Nat) (h : mH) (L : LAY h) (T : Td) (N : Nt) (wT : wfT T) (wN : wfN T N) (t : mT h T) (u : mNow h T N) : ∃ g, callA (d + 3) 146 [Sum.inr (Sum.inr (some 141))] h = some (none, g) ∧ scr h g ∧ suOK g T N := by
  obtain ⟨t1, t2, -⟩ := t
  obtain ⟨u1, u2, u3, u4, u5⟩ := u
  have n7 : nM N ≤ 7 := Nat.le_trans wN.1 wT.1
  have e1 := mLand_ok (d + 1) h L
  generalize eg1 : aI h 153 (mixI 40 (fun j => gI h 150 (16 + j)) (gI h 153)) = g1 at e1
  have s1 : scr h g1 := by rw [← eg1]; exact scr_aI (by omega)
  have L1 := scr_L s1 L
  have a150 : gI g1 150 = gI h 150 := scr_q s1 (by omega) (by omega)
  have e2 := mRow_ok (d + 1) g1 L1 (nM N) (by rw [a150]; exact u1) n7
  generalize eg2 : aI (sI g1 141 19 (nM N)) 152 (mixI (nM N) (gI g1 150) (gI g1 152)) = g2 at e2
  have s2 : scr g1 g2 := by rw [← eg2]; exact scr_tr scr_r (scr_aI (by omega))
  have s12 := scr_tr s1 s2
  have L2 := scr_L s2 L1
  have b150 : gI g2 150 = gI h 150 := scr_q s12 (by omega) (by omega)
  have b147 : gI g2 147 = gI h 147 := scr_q s12 (by omega) (by omega)
  have b153 : gI g2 153 = mixI 40 (fun j => gI h 150 (16 + j)) (gI h 153) := by rw [← eg2, gI_aIn (by omega), gI_sIn (by omega), ← eg1, gI_aI]
  have b19 : gI g2 141 19 = nM N := by rw [← eg2, gI_aIn (by omega), gI_sI, if_pos ⟨rfl, rfl⟩]
  have b152 : ∀ i, i < nM N → gI g2 152 i = nR N i ∧ nR N i < 7 := fun i hi => by
    refine ⟨?_, Nat.lt_of_lt_of_le (wN.2.1 i hi) wT.1⟩
    rw [← eg2, gI_aI, mixI_in hi, a150]
    exact u2 i hi
  have e3 := mSetUp_ok d g2 L2 (tK T) (nM N) (nX N) (nR N) (by rw [b147]; exact t2) wT.2.1 b19 n7 b152 (fun i hi => by
    have := wN.2.1 i hi
    rw [b150]
    exact ⟨u4 _ this, (wN.2.2.2.1 _ this).1, (wN.2.2.2.1 _ this).2⟩)
  generalize eg3 : aI g2 154 (fiF (gI g2 153) (tK T) (nX N) (nR N) (gI g2 154) (nM N)) = g3 at e3
  have s3 : scr g2 g3 := by rw [← eg3]; exact scr_aI (by omega)
  refine ⟨g3, ?_, scr_tr s12 s3, ⟨?_, n7, fun i hi => ?_⟩, fun k hk => ?_, fun i hi => ?_⟩
  · obtain ⟨k141, j141⟩ := lay_k L (a := 141) (t := 8) (n := 26) rfl
    obtain ⟨m1, m2⟩ := lay_k L1 (a := 141) (t := 8) (n := 26) rfl
    obtain ⟨m3, m4⟩ := lay_k L2 (a := 141) (t := 8) (n := 26) rfl
    rw [en_146]
    simp (disch := (first | omega | (simp only [kd_sI, kd_sL, kd_sR, kd_cp, kd_aI]; omega) | (unfold catV; exact rfl) | (unfold catS; exact Nat.le_of_ble_eq_true rfl) | assumption)) only [q_146_0, q_146_1, q_146_4, q_146_5, q_146_8, q_146_9, q_146_12, aft_i, aft_l, aft_v, Int.toNat_natCast, kd_sI, kd_sL, kd_sR, kd_cp, gI_sL, gI_sR, gL_sI, gL_sR, gR_sI, gR_sL, gL_cp, gR_cp, kd_aI, gL_aI, gR_aI, gI_aI, gI_aIn, sI_aI, gI_sIn, Int.reduceToNat, Int.reduceAdd, Int.reduceSub, Int.reduceMul, Int.reduceNeg, Int.zero_add, e1, e2, e3]
  · rw [← eg3, gI_aIn (by omega)]; exact b19
  · rw [← eg3, gI_aIn (by omega)]; exact b152 i hi
  · rw [← eg3, gI_aIn (by omega), b153, mixI_in (by have := wT.2.1; omega)]
    exact u5 k hk
  · rw [← eg3, gI_aI, fiF_in wN.2.2.1 i hi]
    unfold fcS
    rw [fiF_in wN.2.2.1 i hi]
    congr 1
    refine suP_congr (fun j hj => ?_) (fun _ _ => ⟨rfl, rfl⟩)
    rw [b153, mixI_in (by have := wT.2.1; omega)]
    exact u5 j hj
theorem plF_no {f : Nat → Int} {c : Int} : ∀ {k i : Nat}, plF f c k i = -9 → ∀ j, i ≤ j → j < i + k → f j ≠ c
  | 0, i, _, j, a, b => by omega
  | k + 1, i, h, j, a, b => by
    unfold plF at h
    split at h
    · omega
    next q =>
      by_cases e : j = i
      · rw [e]; exact q
      · exact plF_no h j (by omega) (by omega)
theorem plF_yes {f : Nat → Int} {c : Int} : ∀ {k i : Nat}, plF f c k i ≠ -9 → ∃ j : Nat, i ≤ j ∧ j < i + k ∧ f j = c ∧ plF f c k i = j
  | 0, i, h => absurd rfl h
  | k + 1, i, h => by
    unfold plF at h ⊢
    split
    next q => exact ⟨i, by omega, by omega, q, rfl⟩
    next q =>
      rw [if_neg q] at h
      obtain ⟨j, a, b, c2, e⟩ := plF_yes h
      exact ⟨j, by omega, by omega, c2, e⟩
def cellS (T : Td) (N : Nt) (c : Nat) : Int := if (nL N).testBit c = true then -9 else fcS T N c
theorem mCell_ok (d : Nat) (h : mH) (L : LAY h) (T : Td) (N : Nt) (wT : wfT T) (wN : wfN T N) (t : mT h T) (u : mNow h T N) (c : Nat) (hc : c < tN T) : ∃ g, callA (d + 4) 147 [Sum.inr (Sum.inr (some 141)), Sum.inl (c : Int)] h = some (some (Sum.inl (cellS T N c)), g) ∧ scr h g ∧ (cellS T N c ≠ -9 → suOK g T N) := by
  have n7 : nM N ≤ 7 := Nat.le_trans wN.1 wT.1
  have c7 : c < 7 := Nat.lt_of_lt_of_le hc wT.1
  have ep := mPlace_ok (d + 2) h L c (nM N) u.1 n7
  obtain ⟨k141, j141⟩ := lay_k L (a := 141) (t := 8) (n := 26) rfl
  by_cases q : plF (gI h 150) c (nM N) 0 = -9
  · have hno := plF_no q
    have ev : cellS T N c = -9 := by
      unfold cellS
      split
      · rfl
      · exact fiF_out (fun i hi z => hno i (Nat.zero_le i) (by omega) (by rw [u.2.1 i hi, z]))
    rw [ev]
    refine ⟨h, ?_, scr_rf h, fun z => absurd rfl z⟩
    rw [en_147]
    simp (disch := (first | omega | (simp only [kd_sI, kd_sL, kd_sR, kd_cp, kd_aI]; omega) | (unfold catV; exact rfl) | (unfold catS; exact Nat.le_of_ble_eq_true rfl) | assumption)) only [q_147_0, q_147_1, q_147_2, q_147_5, q_147_7_t, q_147_7_f, q_147_10, q_147_11, q_147_12, q_147_15_t, q_147_15_f, q_147_18, q_147_20, q_147_21, q_147_22, q_147_25, q_147_26, q_147_29, q_147_30, q_147_31, aft_i, aft_l, aft_v, Int.toNat_natCast, kd_sI, kd_sL, kd_sR, kd_cp, gI_sL, gI_sR, gL_sI, gL_sR, gR_sI, gR_sL, gL_cp, gR_cp, kd_aI, gL_aI, gR_aI, gI_aI, gI_aIn, sI_aI, gI_sIn, Int.reduceToNat, Int.reduceAdd, Int.reduceSub, Int.reduceMul, Int.reduceNeg, Int.zero_add, ep, q]
  · obtain ⟨j, -, hj, hf, -⟩ := plF_yes q
    by_cases ql : (nL N).testBit c = true
    · have el := mLate_t (d + 2) h L c (nL N) u.2.2.1 wN.2.2.2.2.1 (by omega) ql
      have ev : cellS T N c = -9 := by unfold cellS; rw [if_pos ql]
      rw [ev]
      refine ⟨h, ?_, scr_rf h, fun z => absurd rfl z⟩
      rw [en_147]
      simp (disch := (first | omega | (simp only [kd_sI, kd_sL, kd_sR, kd_cp, kd_aI]; omega) | (unfold catV; exact rfl) | (unfold catS; exact Nat.le_of_ble_eq_true rfl) | assumption)) only [q_147_0, q_147_1, q_147_2, q_147_5, q_147_7_t, q_147_7_f, q_147_10, q_147_11, q_147_12, q_147_15_t, q_147_15_f, q_147_18, q_147_20, q_147_21, q_147_22, q_147_25, q_147_26, q_147_29, q_147_30, q_147_31, aft_i, aft_l, aft_v, Int.toNat_natCast, kd_sI, kd_sL, kd_sR, kd_cp, gI_sL, gI_sR, gL_sI, gL_sR, gR_sI, gR_sL, gL_cp, gR_cp, kd_aI, gL_aI, gR_aI, gI_aI, gI_aIn, sI_aI, gI_sIn, Int.reduceToNat, Int.reduceAdd, Int.reduceSub, Int.reduceMul, Int.reduceNeg, Int.zero_add, ep, el]
    · have el := mLate_f (d + 2) h L c (nL N) u.2.2.1 wN.2.2.2.2.1 (by omega) (by simpa using ql)
      obtain ⟨g, eg, sg, su⟩ := mSun_ok d h L T N wT wN t u
      have ev : cellS T N c = fcS T N c := by unfold cellS; rw [if_neg ql]
      have hr : nR N j = c := by
        have := u.2.1 j (by omega)
        omega
      have e4 : gI g 154 c = fcS T N c := by rw [← hr]; exact su.2.2 j (by omega)
      obtain ⟨m1, m2⟩ := lay_k (scr_L sg L) (a := 141) (t := 8) (n := 26) rfl
      obtain ⟨m3, m4⟩ := lay_k (scr_L sg L) (a := 154) (t := 100) (n := 7) rfl
      have rr := lay_r (scr_L sg L) (q := 141) (k := 21) (b := 154) rfl
      refine ⟨g, ?_, sg, fun _ => su⟩
      rw [en_147, ev]
      simp (disch := (first | omega | (simp only [kd_sI, kd_sL, kd_sR, kd_cp, kd_aI]; omega) | (unfold catV; exact rfl) | (unfold catS; exact Nat.le_of_ble_eq_true rfl) | assumption)) only [q_147_0, q_147_1, q_147_2, q_147_5, q_147_7_t, q_147_7_f, q_147_10, q_147_11, q_147_12, q_147_15_t, q_147_15_f, q_147_18, q_147_20, q_147_21, q_147_22, q_147_25, q_147_26, q_147_29, q_147_30, q_147_31, aft_i, aft_l, aft_v, Int.toNat_natCast, kd_sI, kd_sL, kd_sR, kd_cp, gI_sL, gI_sR, gL_sI, gL_sR, gR_sI, gR_sL, gL_cp, gR_cp, kd_aI, gL_aI, gR_aI, gI_aI, gI_aIn, sI_aI, gI_sIn, Int.reduceToNat, Int.reduceAdd, Int.reduceSub, Int.reduceMul, Int.reduceNeg, Int.zero_add, ep, el, eg, rr, e4]
