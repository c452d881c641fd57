theorem outN_b (T : Td) (N : Nt) : 0 ≤ outN T N ∧ outN T N ≤ nM N := by
  unfold outN
  exact sumI_b1 (fun i => by split <;> omega) _
theorem nearS_b (T : Td) (N : Nt) : ∀ n : Nat, n ≤ 7 → 0 ≤ nearN (fcS T N) (nX N) (tF T) (tA T) (nL N) (nR N) n ∧ nearN (fcS T N) (nX N) (tF T) (tA T) (nL N) (nR N) n ≤ 7 * n
  | 0, _ => by unfold nearN sumI; omega
  | n + 1, h => by
    have ih := nearS_b T N n (by omega)
    have sb := sumI_b1 (fun j => nearV_b (fcS T N) (nX N) (tF T) (tA T) (nL N) (nR N n) (nR N j)) n
    have e : nearN (fcS T N) (nX N) (tF T) (tA T) (nL N) (nR N) (n + 1) = nearN (fcS T N) (nX N) (tF T) (tA T) (nL N) (nR N) n + sumI (fun j => nearV (fcS T N) (nX N) (tF T) (tA T) (nL N) (nR N n) (nR N j)) n := rfl
    omega
theorem mxI_b {f : Nat → Int} {b : Int} (hb : -9 ≤ b) (h : ∀ i, f i ≤ b) : ∀ n : Nat, -9 ≤ mxI f n ∧ mxI f n ≤ b
  | 0 => ⟨Int.le_refl _, hb⟩
  | n + 1 => by
    have ih := mxI_b hb h n
    have := h n
    unfold mxI
    split <;> omega
theorem lastS_b {T : Td} {N : Nt} (wT : wfT T) (wN : wfN T N) : -9 ≤ lastS T N ∧ lastS T N ≤ 40 := by
  have k4 := wT.2.1
  refine mxI_b (by omega) (fun i => ?_) _
  unfold lstV
  split
  · omega
  · rcases fcS_b wT wN (nR N i) with q | q <;> omega
/-- another order of those that stand in it, none late -/
def onR (N : Nt) (l : List Nat) : Nt := setR N l 0
def keyL (T : Td) (N : Nt) (l : List Nat) : Int := 100000 * outN T (onR N l) + 1000 * nearS T (onR N l) + lastS T (onR N l) + 10
theorem onR_wf {T : Td} {N : Nt} (w : wfN T N) {l : List Nat} (n : l.Nodup) (b : ∀ c, c ∈ l → c < tN T) : wfN T (onR N l) := setR_wf w n b (by omega) (fun c hc => by rw [Nat.zero_testBit] at hc; cases hc)
def kSt (h g : mH) (T : Td) (N : Nt) (l : List Nat) : Prop := scr h g ∧ gI g 141 19 = l.length ∧ rwO (gI g 152) 0 l ∧ ∀ k, k < tK T → gI g 153 k = lnd T N k
theorem mSetR_ok (d : Nat) (h : mH) (L0 : LAY h) (T : Td) (N : Nt) (wT : wfT T) (wN : wfN T N) (t : mT h T) (u : mNow h T N) (l : List Nat) (nd : l.Nodup) (lb : ∀ c, c ∈ l → c < tN T) (g : mH) (s : kSt h g T N l) : ∃ F, callA (d + 2) 145 [Sum.inr (Sum.inr (some 141))] g = some (none, aI g 154 F) ∧ suOK (aI g 154 F) T (onR N l) := by
  obtain ⟨sg, h19, hr, hl⟩ := s
  have c7 := wT.1
  have w2 := onR_wf wN nd lb
  have n7 : l.length ≤ 7 := Nat.le_trans (nd_len nd lb) c7
  have ug := scr_mN sg u
  have tg := scr_mT sg t
  have Lg := scr_L sg L0
  have hR : ∀ i, i < l.length → gI g 152 i = (ofL l i : Int) ∧ ofL l i < 7 := fun i hi => by
    rw [ofL_at hi]
    have := hr i hi
    rw [Nat.zero_add] at this
    exact ⟨this, Nat.lt_of_lt_of_le (lb _ (List.getElem_mem hi)) c7⟩
  have X : ∀ i, i < l.length → gI g 150 (9 + ofL l i) = (nX N (ofL l i) : Int) ∧ 1 ≤ nX N (ofL l i) ∧ nX N (ofL l i) ≤ 6 := fun i hi => by
    have := w2.2.1 i hi
    exact ⟨ug.2.2.2.1 _ this, (wN.2.2.2.1 _ this).1, (wN.2.2.2.1 _ this).2⟩
  refine ⟨_, mSetUp_ok d g Lg (tK T) l.length (nX N) (ofL l) tg.2.1 wT.2.1 h19 n7 hR X, ⟨?_, n7, fun i hi => ?_⟩, fun k hk => ?_, fun i hi => ?_⟩
  · rw [gI_aIn (by omega)]; exact h19
  · rw [gI_aIn (by omega)]; exact hR i hi
  · rw [gI_aIn (by omega)]; exact hl k hk
  · have hi2 : i < l.length := hi
    show gI _ 154 (ofL l i) = fcS T (onR N l) (ofL l i)
    unfold fcS
    rw [gI_aI]
    rw [show fiF (gI g 153) (tK T) (nX N) (ofL l) (gI g 154) l.length (ofL l i) = vO (suP (gI g 153) (tK T) (nX N) (ofL l) i) from fiF_in w2.2.2.1 i hi2]
    rw [show fiF (lnd T (onR N l)) (tK T) (nX (onR N l)) (nR (onR N l)) (fun _ => -9) (nM (onR N l)) (ofL l i) = vO (suP (lnd T (onR N l)) (tK T) (nX N) (ofL l) i) from fiF_in w2.2.2.1 i hi2]
    congr 1
    exact suP_congr (fun j hj => hl j hj) (fun _ _ => ⟨rfl, rfl⟩)
theorem mKeys (d : Nat) (h : mH) (L0 : LAY h) (T : Td) (N : Nt) (wT : wfT T) (wN : wfN T N) (t : mT h T) (u : mNow h T N) (l : List Nat) (nd : l.Nodup) (lb : ∀ c, c ∈ l → c < tN T) (g : mH) (sg : scr h g) (su : suOK g T (onR N l)) : callA (d + 2) 151 [Sum.inr (Sum.inr (some 141))] g = some (some (Sum.inl (outN T (onR N l))), g) ∧ callA (d + 2) 150 [Sum.inr (Sum.inr (some 141)), Sum.inl 0] g = some (some (Sum.inl (nearS T (onR N l))), g) ∧ callA (d + 2) 152 [Sum.inr (Sum.inr (some 141)), Sum.inl 0] g = some (some (Sum.inl (lastS T (onR N l))), g) := by
  have w2 := onR_wf wN nd lb
  have ug := scr_mN sg u
  have tg := scr_mT sg t
  have Lg := scr_L sg L0
  have hF := suOK_F wT w2 su
  have X : axF g (nM (onR N l)) (nR (onR N l)) (nX (onR N l)) := fun i hi => by
    have := w2.2.1 i hi
    exact ⟨ug.2.2.2.1 _ this, (wN.2.2.2.1 _ this).1, (wN.2.2.2.1 _ this).2⟩
  have hfe : ∀ i, i < nM (onR N l) → gI g 146 (nR (onR N l) i) = (tF T (nR (onR N l) i) : Int) ∧ tF T (nR (onR N l) i) < 128 := fun i hi => ⟨(tg.2.2.2.2.1 _ (w2.2.1 i hi)).2, wT.2.2.2.2.2.1 _ (w2.2.1 i hi)⟩
  refine ⟨?_, ?_, ?_⟩
  · have e := outs_ok (d + 1) g Lg _ _ su.1
    rw [show sumI (fun i => if gI g 154 (nR (onR N l) i) = -9 then 1 else 0) (nM (onR N l)) = outN T (onR N l) from sumI_congr (fun i hi => by rw [su.2.2 i hi])] at e
    exact e
  · have e := nearOf_ok d g Lg (nM (onR N l)) 0 (nR (onR N l)) (nX (onR N l)) (tF T) (tA T) su.1 X hF (by omega) hfe tg.2.2.1
    rw [show nearN (gI g 154) (nX (onR N l)) (tF T) (tA T) 0 (nR (onR N l)) (nM (onR N l)) = nearS T (onR N l) from nearN_congr (fun i hi => su.2.2 i hi)] at e
    exact e
  · have e := lastOf_ok (d + 1) g Lg (nM (onR N l)) 0 (nR (onR N l)) (nX (onR N l)) su.1 X hF (by omega)
    rw [show mxI (fun i => lstV (gI g 154) (nX (onR N l)) 0 (nR (onR N l) i)) (nM (onR N l)) = lastS T (onR N l) from mxI_congr (fun i hi => by unfold lstV; rw [su.2.2 i hi]; rfl)] at e
    exact e
