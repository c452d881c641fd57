theorem lexV_pre {A x y : List Nat} (e : x.length = y.length) : (lexV (A ++ x) ≤ lexV (A ++ y) ↔ lexV x ≤ lexV y) ∧ (lexV (A ++ x) < lexV (A ++ y) ↔ lexV x < lexV y) := by
  rw [lexV_app, lexV_app, e]
  omega
theorem bLf_mem {left n c : Nat} : c ∈ bLf left n 0 ↔ c < n ∧ left.testBit c = true := by
  unfold bLf
  rw [List.mem_filter, List.mem_range'_1]
  constructor
  · rintro ⟨a, b⟩; exact ⟨by omega, b⟩
  · rintro ⟨a, b⟩; exact ⟨by omega, b⟩
theorem bLf_asc (left n : Nat) : Asc (bLf left n 0) := by
  unfold bLf
  rw [← List.range_eq_range']
  exact List.Pairwise.filter _ List.pairwise_lt_range
theorem bLf_nd (left n : Nat) : (bLf left n 0).Nodup := by
  unfold bLf
  rw [← List.range_eq_range']
  exact List.Pairwise.filter _ List.nodup_range
theorem bLf_cl {left n c : Nat} (hc : c < n) (hb : left.testBit c = true) : (c :: bLf (left ^^^ (left &&& 2 ^ c)) n 0).Perm (bLf left n 0) := by
  refine (List.perm_ext_iff_of_nodup ?_ (bLf_nd _ _)).mpr (fun x => ?_)
  · refine List.nodup_cons.mpr ⟨fun h => ?_, bLf_nd _ _⟩
    have h := (bLf_mem.mp h).2
    rw [clr_bit, Nat.testBit_two_pow, decide_eq_true rfl, Bool.not_true, Bool.and_false] at h
    cases h
  · rw [List.mem_cons, bLf_mem, bLf_mem, clr_bit, Nat.testBit_two_pow]
    constructor
    · rintro (e | ⟨a, b⟩)
      · subst e; exact ⟨hc, hb⟩
      · rw [Bool.and_eq_true] at b
        exact ⟨a, b.1⟩
    · rintro ⟨a, b⟩
      by_cases z : c = x
      · exact Or.inl z.symm
      · right
        rw [b, decide_eq_false z]
        exact ⟨a, rfl⟩
/-- before a part of the search -/
def dPre (h : mH) (T : Td) (N : Nt) (A : List Nat) (left f : Nat) (o : Option (List Nat)) : Prop := dfR h T N ∧ left < 128 ∧ (A ++ bLf left (tN T) 0).Perm (notLost N (tN T)) ∧ plc T N A = some f ∧ rwO (gI h 131) 0 A ∧ (∀ c, c ∈ A → gI h 132 c = fcS T (onR N A) c) ∧ bstK h T N o ∧ (∀ b, o = some b → b.Perm (notLost N (tN T)) ∧ ∀ r : List Nat, (A ++ r).Perm (notLost N (tN T)) → lexV b ≤ lexV (A ++ r)) ∧ (A = [] → o = none)
/-- behind it -/
def dPost (h g : mH) (T : Td) (N : Nt) (A : List Nat) (o : Option (List Nat)) : Prop := dfF h g ∧ rwO (gI g 131) 0 A ∧ (∀ c, c ∈ A → gI g 132 c = gI h 132 c) ∧ ∃ b, bstK g T N (some b) ∧ b.Perm (notLost N (tN T)) ∧ (o = some b ∨ ∃ r, b = A ++ r) ∧ (∀ r : List Nat, (A ++ r).Perm (notLost N (tN T)) → bet (keyL T N) b (A ++ r)) ∧ ∀ b2, o = some b2 → keyL T N b < keyL T N b2 ∨ b = b2
def dStp (d : Nat) (T : Td) (N : Nt) (m : Nat) : Prop := ∀ (A : List Nat) (left f : Nat) (o : Option (List Nat)) (h : mH), LAY h → (bLf left (tN T) 0).length = m → dPre h T N A left f o → ∃ g, callA (d + 2 * m + 3) 2 [Sum.inr (Sum.inr (some 129)), Sum.inl (A.length : Int), Sum.inl (left : Int), Sum.inl (f : Int), Sum.inl (nearS T (onR N A)), Sum.inl (sumX N (bLf left (tN T) 0) : Int)] h = some (none, g) ∧ dPost h g T N A o
theorem nl_b {T : Td} {N : Nt} {q : List Nat} (p : q.Perm (notLost N (tN T))) : q.Nodup ∧ ∀ c, c ∈ q → c < tN T := ⟨p.nodup_iff.mpr (notLost_nd N _), fun c hc => (notLost_mem.mp (p.mem_iff.mp hc)).1⟩
theorem sumX_b {T : Td} {N : Nt} (wN : wfN T N) : ∀ l : List Nat, (∀ c, c ∈ l → c < tN T) → sumX N l ≤ 6 * l.length
  | [], _ => Nat.le_refl _
  | c :: l, h => by
    have a := sumX_b wN l (fun x hx => h x (List.mem_cons_of_mem _ hx))
    have b := wN.2.2.2.1 c (h c List.mem_cons_self)
    show nX N c + sumX N l ≤ 6 * (l.length + 1)
    omega
/-- one more behind those that stand -/
theorem wTry_ok (d : Nat) (T : Td) (N : Nt) (wT : wfT T) (wN : wfN T N) (m : Nat) (IH : dStp d T N m) (A : List Nat) (left f c p : Nat) (o : Option (List Nat)) (h : mH) (L : LAY h) (hm : (bLf left (tN T) 0).length = m + 1) (hc : c < tN T) (hb : left.testBit c = true) (pf : fstF (lnd T N) (tK T) (nX N c) (40 - f) f = some p) (pre : dfR h T N ∧ left < 128 ∧ (A ++ bLf left (tN T) 0).Perm (notLost N (tN T)) ∧ plc T N A = some f ∧ rwO (gI h 131) 0 A ∧ (∀ c, c ∈ A → gI h 132 c = fcS T (onR N A) c) ∧ bstK h T N o) (po : ∀ b, o = some b → b.Perm (notLost N (tN T)) ∧ ∀ r : List Nat, (A ++ c :: r).Perm (notLost N (tN T)) → lexV b ≤ lexV (A ++ c :: r)) (h132 : gI h 132 c = p) : ∃ g, callA (d + 2 * m + 4) 3 [Sum.inr (Sum.inr (some 129)), Sum.inl (A.length : Int), Sum.inl (left : Int), Sum.inl (c : Int), Sum.inl (nearS T (onR N A)), Sum.inl (sumX N (bLf left (tN T) 0) : Int)] h = some (none, g) ∧ dPost h g T N (A ++ [c]) o := by
  have L0 := L
  obtain ⟨r, l7, pm, pl, ra, rf, bk⟩ := pre
  have c7 := wT.1
  have k4 := wT.2.1
  have cl := bLf_cl hc hb
  have pm2 : ((A ++ [c]) ++ bLf (left ^^^ (left &&& 2 ^ c)) (tN T) 0).Perm (notLost N (tN T)) := by
    rw [List.append_assoc]
    exact (List.Perm.append_left A cl).trans pm
  obtain ⟨nd, lb⟩ := nl_b pm2
  have nd1 : (A ++ [c]).Nodup := (List.nodup_append.mp nd).1
  have lb1 : ∀ x, x ∈ A ++ [c] → x < tN T := fun x hx => lb x (List.mem_append_left _ hx)
  have ll := nd_len nd1 lb1
  have lA : (A ++ [c]).length = A.length + 1 := by rw [List.length_append]; rfl
  have snoc := plc_snoc (c := c) pl
  rw [pf] at snoc
  have pl2 : plc T N (A ++ [c]) = some (p + nX N c) := snoc.2
  have wO := onR_wf wN nd1 lb1
  have cA : ¬ c ∈ A := fun y => by
    have := (List.nodup_append.mp nd1).2.2 c y c List.mem_cons_self
    exact this rfl
  have fcc : fcS T (onR N (A ++ [c])) c = p := by
    have e2 : nR (onR N (A ++ [c])) A.length = c := ofL_snoc A c
    have := fc_at wO (T := T) (i := A.length) (by show A.length < (A ++ [c]).length; omega)
    rw [e2] at this
    rw [this]
    show vO (sPl T N (A ++ [c]) A.length) = _
    rw [snoc.1]
    rfl
  have s1 : dfF h (sI h 131 A.length c) := dfF_s (by omega)
  have L1 := dfF_L s1 L
  have r1 := dfF_R s1 r
  have ra1 : rwO (gI (sI h 131 A.length c) 131) 0 (A ++ [c]) := by
    rw [gI_sIu]
    refine rwO_app.mpr ⟨rwO_congr (fun i hi => upI_n (by omega)) ra, rwO_cons.mpr ⟨?_, rwO_nil _ _⟩⟩
    rw [Nat.zero_add, upI_s]
  have rf1 : ∀ x, x ∈ A ++ [c] → gI (sI h 131 A.length c) 132 x = fcS T (onR N (A ++ [c])) x := fun x hx => by
    rw [gI_sIn (by omega)]
    rcases List.mem_append.mp hx with y | y
    · rw [rf x y]
      obtain ⟨i, hi, e⟩ := List.mem_iff_getElem.mp y
      rw [← e, ← ofL_at hi]
      exact (fc_app nd1 hi).symm
    · rw [List.mem_singleton.mp y, fcc]; exact h132
  have na := wNa_loop (d + 2 * m + 1) (sI h 131 A.length c) L1 T N wT wN r1 A c (p + nX N c) nd1 lb1 pl2 (rwO_app.mp ra1).1 rf1 A.length 0 (Sum.inr (Sum.inr none)) (Nat.zero_add _)
  have na : resA (callA (d + 2 * m + 2)) 7 (5, [Sum.inr (Sum.inr (some 129)), Sum.inl (A.length : Int), Sum.inl (c : Int), Sum.inl 0, Sum.inl 0, Sum.inr (Sum.inr none)], [], sI h 131 A.length c) = some (some (Sum.inl (nrA T N A c A.length)), sI h 131 A.length c) := na
  have e7 : callA (d + 2 * m + 3) 7 [Sum.inr (Sum.inr (some 129)), Sum.inl (A.length : Int), Sum.inl (c : Int)] (sI h 131 A.length c) = some (some (Sum.inl (nrA T N A c A.length)), sI h 131 A.length c) := by
    rw [en_7]
    simp (disch := (first | omega | (simp only [kd_sI, kd_sL, kd_sR, kd_cp, kd_aI]; omega) | (unfold catV; exact rfl) | (unfold catS; exact Nat.le_of_ble_eq_true rfl) | assumption)) only [q_7_0, q_7_1, q_7_2, q_7_3, q_7_7, q_7_8_t, q_7_8_f, q_7_11, q_7_12, q_7_15, q_7_17, q_7_18, q_7_20, q_7_21, q_7_24, q_7_25, q_7_27, q_7_30_t, q_7_30_f, q_7_33, q_7_34, q_7_35, q_7_38, q_7_39, q_7_40, q_7_41, q_7_44, q_7_46, q_7_47, q_7_48, q_7_49, q_7_52, q_7_55, q_7_57, q_7_58, q_7_59, q_7_60, q_7_63, q_7_66_t, q_7_66_f, q_7_69, q_7_70, q_7_73, q_7_74, q_7_75, q_7_76, q_7_79, q_7_82, q_7_83, aft_i, aft_l, aft_v, Int.toNat_natCast, kd_sI, kd_sL, kd_sR, kd_cp, gI_sL, gI_sR, gL_sI, gL_sR, gR_sI, gR_sL, gL_cp, gR_cp, kd_aI, gL_aI, gR_aI, gI_aI, gI_aIn, sI_aI, gI_sIn, Int.reduceToNat, Int.reduceAdd, Int.reduceSub, Int.reduceMul, Int.reduceNeg, Int.zero_add]
    exact na
  have ns := near_snoc (T := T) (N := N) nd1
  have pm3 := bLf_cl hc hb
  have len2 : (bLf (left ^^^ (left &&& 2 ^ c)) (tN T) 0).length = m := by
    have := cl.length_eq
    rw [List.length_cons] at this
    omega
  have lx : left ^^^ (left &&& 2 ^ c) < 128 := by
    have a1 : left &&& 2 ^ c < 2 ^ 7 := Nat.lt_of_le_of_lt Nat.and_le_left l7
    exact Nat.xor_lt_two_pow l7 a1
  have sx := sumX_perm (N := N) cl
  have sx : nX N c + sumX N (bLf (left ^^^ (left &&& 2 ^ c)) (tN T) 0) = sumX N (bLf left (tN T) 0) := sx
  have bk1 : bstK (sI h 131 A.length c) T N o := by
    unfold bstK at bk ⊢
    rw [gI_sIn (by omega), gI_sIn (by omega)]
    exact bk
  obtain ⟨g, e2, q⟩ := IH (A ++ [c]) (left ^^^ (left &&& 2 ^ c)) (p + nX N c) o (sI h 131 A.length c) L1 len2 ⟨r1, lx, pm2, pl2, ra1, rf1, bk1, fun b eb => ⟨(po b eb).1, fun r hr => by
    rw [List.append_assoc] at hr ⊢
    exact (po b eb).2 r hr⟩, fun y => by
      have := congrArg List.length y
      rw [lA] at this
      cases this⟩
  refine ⟨g, ?_, dfF_tr s1 q.1, q.2.1, fun x hx => by rw [q.2.2.1 x hx, gI_sIn (by omega)], q.2.2.2⟩
  have xc : gI (sI h 131 A.length c) 16 c = nX N c := r1.2.1.2.2.2.2 c hc
  have xb := wN.2.2.2.1 c hc
  have sh := shl1 (j := c) (by omega)
  have cx := clrI_n (a := left) (2 ^ c) (by omega)
  have x132 : gI (sI h 131 A.length c) 132 c = p := by rw [gI_sIn (by omega)]; exact h132
  have pb : p + nX N c ≤ tK T := freeB_le (fstF_some pf).2.2.1
  have nb := nrA_b T N A c A.length
  have nb2 := nearS_i wT (onR_wf wN (List.nodup_append.mp nd1).1 (fun x hx => lb1 x (List.mem_append_left _ hx)))
  have sb := sumX_b wN (bLf left (tN T) 0) (fun x hx => (bLf_mem.mp hx).1)
  have lbn := nd_len (bLf_nd left (tN T)) (n := tN T) (fun x hx => (bLf_mem.mp hx).1)
  rw [ns, lA] at e2
  have ew : ((sumX N (bLf left (tN T) 0) : Nat) : Int) - (nX N c : Int) = ((sumX N (bLf (left ^^^ (left &&& 2 ^ c)) (tN T) 0) : Nat) : Int) := by omega
  obtain ⟨k14, j14⟩ := lay_k L0 (a := 14) (t := 2) (n := 5) rfl; obtain ⟨k16, j16⟩ := lay_k L0 (a := 16) (t := 100) (n := 7) rfl; obtain ⟨k129, j129⟩ := lay_k L0 (a := 129) (t := 0) (n := 9) rfl; obtain ⟨k131, j131⟩ := lay_k L0 (a := 131) (t := 100) (n := 7) rfl; obtain ⟨k132, j132⟩ := lay_k L0 (a := 132) (t := 100) (n := 7) rfl; have r129_4 : gR h 129 4 = some 131 := lay_r L0 rfl; have r129_5 : gR h 129 5 = some 132 := lay_r L0 rfl; have r129_7 : gR h 129 7 = some 14 := lay_r L0 rfl; have r14_1 : gR h 14 1 = some 16 := lay_r L0 rfl
  rw [en_3]
  simp (disch := (first | omega | (simp only [kd_sI, kd_sL, kd_sR, kd_cp, kd_aI]; omega) | (unfold catV; exact rfl) | (unfold catS; exact Nat.le_of_ble_eq_true rfl) | assumption)) only [q_3_0, q_3_1, q_3_4, q_3_5, q_3_6, q_3_7, q_3_8, q_3_11, q_3_14, q_3_15, q_3_16, q_3_18, q_3_20, q_3_21, q_3_22, q_3_23, q_3_26, q_3_27, q_3_29, q_3_30, q_3_31, q_3_32, q_3_33, q_3_34, q_3_35, q_3_36, q_3_37, q_3_38, q_3_39, q_3_40, q_3_41, q_3_44, q_3_45, q_3_46, q_3_48, q_3_49, q_3_51, q_3_53, q_3_55, q_3_56, q_3_59, aft_i, aft_l, aft_v, Int.toNat_natCast, kd_sI, kd_sL, kd_sR, kd_cp, gI_sL, gI_sR, gL_sI, gL_sR, gR_sI, gR_sL, gL_cp, gR_cp, kd_aI, gL_aI, gR_aI, gI_aI, gI_aIn, sI_aI, gI_sIn, Int.reduceToNat, Int.reduceAdd, Int.reduceSub, Int.reduceMul, Int.reduceNeg, Int.zero_add, r129_4, r129_5, r129_7, r14_1, xc, e7, sh, cx, x132, ew]
  have e2' : callA (d + 2 * m + 3) 2 [Sum.inr (Sum.inr (some 129)), Sum.inl ((A.length : Int) + 1), Sum.inl ((left ^^^ (left &&& 2 ^ c) : Nat) : Int), Sum.inl ((p : Int) + nX N c), Sum.inl (nearS T (onR N A) + nrA T N A c A.length), Sum.inl (sumX N (bLf (left ^^^ (left &&& 2 ^ c)) (tN T) 0) : Int)] (sI h 131 A.length c) = some (none, g) := e2
  simp (disch := (first | omega | (simp only [kd_sI, kd_sL, kd_sR, kd_cp, kd_aI]; omega) | (unfold catV; exact rfl) | (unfold catS; exact Nat.le_of_ble_eq_true rfl) | assumption)) only [q_3_0, q_3_1, q_3_4, q_3_5, q_3_6, q_3_7, q_3_8, q_3_11, q_3_14, q_3_15, q_3_16, q_3_18, q_3_20, q_3_21, q_3_22, q_3_23, q_3_26, q_3_27, q_3_29, q_3_30, q_3_31, q_3_32, q_3_33, q_3_34, q_3_35, q_3_36, q_3_37, q_3_38, q_3_39, q_3_40, q_3_41, q_3_44, q_3_45, q_3_46, q_3_48, q_3_49, q_3_51, q_3_53, q_3_55, q_3_56, q_3_59, aft_i, aft_l, aft_v, Int.toNat_natCast, kd_sI, kd_sL, kd_sR, kd_cp, gI_sL, gI_sR, gL_sI, gL_sR, gR_sI, gR_sL, gL_cp, gR_cp, kd_aI, gL_aI, gR_aI, gI_aI, gI_aIn, sI_aI, gI_sIn, Int.reduceToNat, Int.reduceAdd, Int.reduceSub, Int.reduceMul, Int.reduceNeg, Int.zero_add, e2']
