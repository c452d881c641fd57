theorem rpF_qt {h g : mH} (f : rpF h g) (b : brR g) : qt h g := ⟨f.1, f.2.2.1, ⟨fun q k n => f.2.2.2 q k (fun y => n y.1), fun _ => b⟩, fun q k n => f.2.1 q k (fun y => n (Or.inr (Or.inr (Or.inr (Or.inl ⟨by omega, by omega⟩)))))⟩
def rpG (h g : mH) : Prop := g.1 = h.1 ∧ (∀ q k, ¬ (134 ≤ q ∧ q ≤ 136) → gI g q k = gI h q k) ∧ gL g = gL h ∧ (∀ q k, ¬ (q = 133 ∧ (k = 1 ∨ k = 2)) → gR g q k = gR h q k)
theorem rpG_rf (h : mH) : rpG h h := ⟨rfl, fun _ _ _ => rfl, rfl, fun _ _ _ => rfl⟩
theorem rpG_tr {h g k : mH} (a : rpG h g) (b : rpG g k) : rpG h k := ⟨b.1.trans a.1, fun q j n => (b.2.1 q j n).trans (a.2.1 q j n), b.2.2.1.trans a.2.2.1, fun q j n => (b.2.2.2 q j n).trans (a.2.2.2 q j n)⟩
theorem rpG_s {h : mH} {a k : Nat} {x : Int} (n : 134 ≤ a ∧ a ≤ 136) : rpG h (sI h a k x) := ⟨rfl, fun q j m => by rw [gI_sI, if_neg (by omega)], rfl, fun _ _ _ => rfl⟩
theorem rpG_F {h g : mH} (f : rpF h g) : rpG h g := ⟨f.1, fun q k n => f.2.1 q k (by omega), f.2.2⟩
theorem rpG_qt {h g : mH} (f : rpG h g) (b : brR g) : qt h g := ⟨f.1, f.2.2.1, ⟨fun q k n => f.2.2.2 q k (fun y => n y.1), fun _ => b⟩, fun q k n => f.2.1 q k (fun y => n (Or.inr (Or.inr (Or.inr (Or.inl ⟨by omega, by omega⟩)))))⟩
theorem cmpL_ne {x y : Int} (n : x ≠ y) : ¬ cmpL x y = 0 := by
  unfold cmpL
  by_cases z : x < y
  · rw [if_pos z]; omega
  · rw [if_neg z, if_neg n]; omega
theorem cmpL_rf (x : Int) : cmpL x x = 0 := by
  unfold cmpL
  rw [if_neg (Int.lt_irrefl _), if_pos rfl]
/-- the bridges in their order: f cells from k on, left still to find -/
def grd (F : Nat → Nat) : Nat → Nat → Nat → Nat → List Nat
  | 0, _, _, _ => []
  | f + 1, k, V, left => if left = 0 then [] else if V.testBit k = true ∧ F (clr1 V k) < left then k :: grd F f (k + 1) (clr1 V k) (left - 1) else grd F f (k + 1) V left
theorem clr1_eq {V k : Nat} (h : V.testBit k = false) : clr1 V k = V := by
  apply Nat.eq_of_testBit_eq
  intro j
  rw [clr1_bit]
  by_cases z : k = j
  · subst z; rw [h]; rfl
  · rw [decide_eq_false z, Bool.not_false, Bool.and_true]
theorem clr1_ne {V k : Nat} (h : V.testBit k = true) : clr1 V k ≠ V := by
  intro e
  have := clr1_bit V k k
  rw [e, h, decide_eq_true rfl] at this
  cases this
theorem clr1_lt {V k n : Nat} (h : V < 2 ^ n) : clr1 V k < 2 ^ n := by
  unfold clr1
  exact Nat.xor_lt_two_pow h (Nat.lt_of_le_of_lt Nat.and_le_left h)
theorem wSr_l (d : Nat) (T : Td) (N : Nt) (wT : wfT T) (wN : wfN T N) (K M : Nat) (hK : K ≤ 40) (hM : M ≤ 3) : ∀ (f k V left i : Nat) (h : mH) (L : LAY h) (x8 x9 : mV), k + f = K → V < 2 ^ 40 → i + left = M → ntA h 14 T N → brR h → ∃ g, resA (callA (d + 3)) 9 (30, [Sum.inr (Sum.inr (some 133)), Sum.inr (Sum.inr (some 14)), Sum.inl (K : Int), Sum.inl (M : Int), Sum.inr (Sum.inl (V : Int)), Sum.inr (Sum.inr none), Sum.inl (i : Int), Sum.inl (k : Int), x8, x9], [], h) = some (some (Sum.inl (M : Int)), g) ∧ rpG h g ∧ brR g ∧ LAY g ∧ (∀ j, j < i → gI g 134 j = gI h 134 j) ∧ ∀ j (q : j < (grd (fun V => ndK V K (wdR N) (nM N) K) f k V left).length), gI g 134 (i + j) = (grd (fun V => ndK V K (wdR N) (nM N) K) f k V left)[j]
  | 0, k, V, left, i, h, L, x8, x9, hk, hV, hi, nt, br => by
    have e : k = K := hk
    subst e
    refine ⟨h, ?_, rpG_rf h, br, L, fun _ _ => rfl, fun j q => absurd q (Nat.not_lt_zero _)⟩
    have hc : ¬ ((k : Nat) : Int) < (k : Int) := Int.lt_irrefl _
    simp (disch := (first | omega | (simp only [kd_sI, kd_sL, kd_sR, kd_cp, kd_aI]; omega) | (unfold catV; exact rfl) | (unfold catS; exact Nat.le_of_ble_eq_true rfl) | assumption)) only [q_9_0, q_9_1, q_9_2, q_9_3, q_9_6, q_9_7, q_9_10, q_9_11, q_9_12, q_9_13_t, q_9_13_f, q_9_16, q_9_17, q_9_18, q_9_19, q_9_22, q_9_24, q_9_25, q_9_27, q_9_28, q_9_30, q_9_32, q_9_33_t, q_9_33_f, q_9_36, q_9_38, q_9_39_t, q_9_39_f, q_9_42, q_9_44, q_9_45, q_9_47, q_9_48, q_9_51, q_9_52, q_9_53, q_9_55, q_9_57, q_9_59, q_9_60_t, q_9_60_f, q_9_63, q_9_64, q_9_65, q_9_67, q_9_68, q_9_71, q_9_72, q_9_74, q_9_75_t, q_9_75_f, q_9_78, q_9_79, q_9_82, q_9_84, q_9_86, q_9_87, q_9_90, q_9_92, q_9_94, q_9_97, q_9_100, q_9_101, aft_i, aft_l, aft_v, Int.toNat_natCast, kd_sI, kd_sL, kd_sR, kd_cp, gI_sL, gI_sR, gL_sI, gL_sR, gR_sI, gR_sL, gL_cp, gR_cp, kd_aI, gL_aI, gR_aI, gI_aI, gI_aIn, sI_aI, gI_sIn, Int.reduceToNat, Int.reduceAdd, Int.reduceSub, Int.reduceMul, Int.reduceNeg, Int.zero_add]
  | f + 1, k, V, left, i, h, L, x8, x9, hk, hV, hi, nt, br => by
    have L0 := L
    have hc : (k : Int) < (K : Int) := by omega
    by_cases z : left = 0
    · have eg : grd (fun V => ndK V K (wdR N) (nM N) K) (f + 1) k V left = [] := by
        show (if left = 0 then [] else _) = _
        rw [if_pos z]
      refine ⟨h, ?_, rpG_rf h, br, L, fun _ _ => rfl, fun j q => absurd q (by rw [eg]; exact Nat.not_lt_zero _)⟩
      have hc2 : ¬ (i : Int) < (M : Int) := by omega
      simp (disch := (first | omega | (simp only [kd_sI, kd_sL, kd_sR, kd_cp, kd_aI]; omega) | (unfold catV; exact rfl) | (unfold catS; exact Nat.le_of_ble_eq_true rfl) | assumption)) only [q_9_0, q_9_1, q_9_2, q_9_3, q_9_6, q_9_7, q_9_10, q_9_11, q_9_12, q_9_13_t, q_9_13_f, q_9_16, q_9_17, q_9_18, q_9_19, q_9_22, q_9_24, q_9_25, q_9_27, q_9_28, q_9_30, q_9_32, q_9_33_t, q_9_33_f, q_9_36, q_9_38, q_9_39_t, q_9_39_f, q_9_42, q_9_44, q_9_45, q_9_47, q_9_48, q_9_51, q_9_52, q_9_53, q_9_55, q_9_57, q_9_59, q_9_60_t, q_9_60_f, q_9_63, q_9_64, q_9_65, q_9_67, q_9_68, q_9_71, q_9_72, q_9_74, q_9_75_t, q_9_75_f, q_9_78, q_9_79, q_9_82, q_9_84, q_9_86, q_9_87, q_9_90, q_9_92, q_9_94, q_9_97, q_9_100, q_9_101, aft_i, aft_l, aft_v, Int.toNat_natCast, kd_sI, kd_sL, kd_sR, kd_cp, gI_sL, gI_sR, gL_sI, gL_sR, gR_sI, gR_sL, gL_cp, gR_cp, kd_aI, gL_aI, gR_aI, gI_aI, gI_aIn, sI_aI, gI_sIn, Int.reduceToNat, Int.reduceAdd, Int.reduceSub, Int.reduceMul, Int.reduceNeg, Int.zero_add]
    · have hc2 : (i : Int) < (M : Int) := by omega
      have sh := shlL1 (k := k) (by omega)
      have cl := clrL_n (a := V) (2 ^ k) (by omega)
      have cl : andL (V : Int) (xorL ((2 ^ k : Nat) : Int) (-1)) = ((clr1 V k : Nat) : Int) := cl
      by_cases y : V.testBit k = true
      · have ne : ((clr1 V k : Nat) : Int) ≠ (V : Int) := fun u => clr1_ne y (Int.ofNat.inj u)
        have cn := cmpL_ne ne
        obtain ⟨g, e1, r1, b1⟩ := wFew_ok d T N wT wN (clr1 V k) K (clr1_lt hV) hK h L nt br
        have L1 := rpF_L r1 L
        have n1 := rpF_nt r1 nt
        have q1 := rpG_F r1
        have hs : (M : Int) - (i : Int) = (left : Int) := by omega
        by_cases x : ndK (clr1 V k) K (wdR N) (nM N) K < left
        · have eg : grd (fun V => ndK V K (wdR N) (nM N) K) (f + 1) k V left = k :: grd (fun V => ndK V K (wdR N) (nM N) K) f (k + 1) (clr1 V k) (left - 1) := by
            show (if left = 0 then [] else if _ then _ else _) = _
            rw [if_neg z, if_pos ⟨y, x⟩]
          have q2 : rpG g (sI g 134 i k) := rpG_s (by omega)
          have q2b : qt g (sI g 134 i k) := rpG_qt q2 b1
          have L2 : LAY (sI g 134 i k) := L1
          obtain ⟨g2, e2, q3, bz, Lz, v1, v2⟩ := wSr_l d T N wT wN K M hK hM f (k + 1) (clr1 V k) (left - 1) (i + 1) (sI g 134 i k) L2 (Sum.inr (Sum.inl ((clr1 V k : Nat) : Int))) (Sum.inr (Sum.inr none)) (by omega) (clr1_lt hV) (by omega) (qt_nt q2b ⟨by omega, by omega⟩ n1) b1
          refine ⟨g2, ?_, rpG_tr (rpG_tr q1 q2) q3, bz, Lz, fun j hj => ?_, fun j q => ?_⟩
          · have hc3 : (ndK (clr1 V k) K (wdR N) (nM N) K : Int) < (left : Int) := by omega
            have hk1 : (k : Int) + 1 = ((k + 1 : Nat) : Int) := by omega
            have hi1 : (i : Int) + 1 = ((i + 1 : Nat) : Int) := by omega
            have k3 : (kd g 133).1 = 1 := lay_k L1 (a := 133) (t := 1) (n := 3) rfl |>.1
            have j3 : (kd g 133).2 = 3 := lay_k L1 (a := 133) (t := 1) (n := 3) rfl |>.2
            have k4 : (kd g 134).1 = 100 := lay_k L1 (a := 134) (t := 100) (n := 3) rfl |>.1
            have j4 : (kd g 134).2 = 3 := lay_k L1 (a := 134) (t := 100) (n := 3) rfl |>.2
            have r3 : gR g 133 0 = some 134 := lay_r L1 rfl
            obtain ⟨k133, j133⟩ := lay_k L0 (a := 133) (t := 1) (n := 3) rfl; obtain ⟨k14, j14⟩ := lay_k L0 (a := 14) (t := 2) (n := 5) rfl
            rw [q_9_30]
            simp (disch := (first | omega | (simp only [kd_sI, kd_sL, kd_sR, kd_cp, kd_aI]; omega) | (unfold catV; exact rfl) | (unfold catS; exact Nat.le_of_ble_eq_true rfl) | assumption)) only [q_9_0, q_9_1, q_9_2, q_9_3, q_9_6, q_9_7, q_9_10, q_9_11, q_9_12, q_9_13_t, q_9_13_f, q_9_16, q_9_17, q_9_18, q_9_19, q_9_22, q_9_24, q_9_25, q_9_27, q_9_28, q_9_32, q_9_33_t, q_9_33_f, q_9_36, q_9_38, q_9_39_t, q_9_39_f, q_9_42, q_9_44, q_9_45, q_9_47, q_9_48, q_9_51, q_9_52, q_9_53, q_9_55, q_9_57, q_9_59, q_9_60_t, q_9_60_f, q_9_63, q_9_64, q_9_65, q_9_67, q_9_68, q_9_71, q_9_72, q_9_74, q_9_75_t, q_9_75_f, q_9_78, q_9_79, q_9_82, q_9_84, q_9_86, q_9_87, q_9_90, q_9_92, q_9_94, q_9_97, q_9_100, q_9_101, aft_i, aft_l, aft_v, Int.toNat_natCast, kd_sI, kd_sL, kd_sR, kd_cp, gI_sL, gI_sR, gL_sI, gL_sR, gR_sI, gR_sL, gL_cp, gR_cp, kd_aI, gL_aI, gR_aI, gI_aI, gI_aIn, sI_aI, gI_sIn, Int.reduceToNat, Int.reduceAdd, Int.reduceSub, Int.reduceMul, Int.reduceNeg, Int.zero_add, sh, cl, e1, hs, r3, hk1, hi1]
            exact e2
          · rw [v1 j (by omega), gI_sIo (by omega), r1.2.1 134 j (by omega)]
          · have key : ∀ (l : List Nat) (el : grd (fun V => ndK V K (wdR N) (nM N) K) (f + 1) k V left = l) (ql : j < l.length), gI g2 134 (i + j) = l[j] := by
              intro l el ql
              rw [eg] at el
              subst el
              cases j with
              | zero => rw [v1 (i + 0) (by omega)]; exact gI_sIs _ _ _ _
              | succ j =>
                have := v2 j (Nat.lt_of_succ_lt_succ ql)
                rw [show i + 1 + j = i + (j + 1) by omega] at this
                exact this
            exact key _ rfl q
        · have eg : grd (fun V => ndK V K (wdR N) (nM N) K) (f + 1) k V left = grd (fun V => ndK V K (wdR N) (nM N) K) f (k + 1) V left := by
            show (if left = 0 then [] else if _ then _ else _) = _
            rw [if_neg z, if_neg (fun u => x u.2)]
          obtain ⟨g2, e2, q3, bz, Lz, v1, v2⟩ := wSr_l d T N wT wN K M hK hM f (k + 1) V left i g L1 (Sum.inr (Sum.inl ((clr1 V k : Nat) : Int))) (Sum.inr (Sum.inr none)) (by omega) hV hi n1 b1
          refine ⟨g2, ?_, rpG_tr q1 q3, bz, Lz, fun j hj => ?_, ?_⟩
          · have hc3 : ¬ (ndK (clr1 V k) K (wdR N) (nM N) K : Int) < (left : Int) := by omega
            have hk1 : (k : Int) + 1 = ((k + 1 : Nat) : Int) := by omega
            obtain ⟨k133, j133⟩ := lay_k L0 (a := 133) (t := 1) (n := 3) rfl; obtain ⟨k14, j14⟩ := lay_k L0 (a := 14) (t := 2) (n := 5) rfl
            rw [q_9_30]
            simp (disch := (first | omega | (simp only [kd_sI, kd_sL, kd_sR, kd_cp, kd_aI]; omega) | (unfold catV; exact rfl) | (unfold catS; exact Nat.le_of_ble_eq_true rfl) | assumption)) only [q_9_0, q_9_1, q_9_2, q_9_3, q_9_6, q_9_7, q_9_10, q_9_11, q_9_12, q_9_13_t, q_9_13_f, q_9_16, q_9_17, q_9_18, q_9_19, q_9_22, q_9_24, q_9_25, q_9_27, q_9_28, q_9_32, q_9_33_t, q_9_33_f, q_9_36, q_9_38, q_9_39_t, q_9_39_f, q_9_42, q_9_44, q_9_45, q_9_47, q_9_48, q_9_51, q_9_52, q_9_53, q_9_55, q_9_57, q_9_59, q_9_60_t, q_9_60_f, q_9_63, q_9_64, q_9_65, q_9_67, q_9_68, q_9_71, q_9_72, q_9_74, q_9_75_t, q_9_75_f, q_9_78, q_9_79, q_9_82, q_9_84, q_9_86, q_9_87, q_9_90, q_9_92, q_9_94, q_9_97, q_9_100, q_9_101, aft_i, aft_l, aft_v, Int.toNat_natCast, kd_sI, kd_sL, kd_sR, kd_cp, gI_sL, gI_sR, gL_sI, gL_sR, gR_sI, gR_sL, gL_cp, gR_cp, kd_aI, gL_aI, gR_aI, gI_aI, gI_aIn, sI_aI, gI_sIn, Int.reduceToNat, Int.reduceAdd, Int.reduceSub, Int.reduceMul, Int.reduceNeg, Int.zero_add, sh, cl, e1, hs, hk1]
            exact e2
          · rw [v1 j hj, r1.2.1 134 j (by omega)]
          · rw [eg]; exact v2
      · have y0 : V.testBit k = false := by cases u : V.testBit k <;> first | rfl | exact absurd u y
        have eg : grd (fun V => ndK V K (wdR N) (nM N) K) (f + 1) k V left = grd (fun V => ndK V K (wdR N) (nM N) K) f (k + 1) V left := by
          show (if left = 0 then [] else if _ then _ else _) = _
          rw [if_neg z, if_neg (fun u => y u.1)]
        rw [clr1_eq y0] at cl
        have c0 := cmpL_rf (V : Int)
        obtain ⟨g2, e2, q3, bz, Lz, v1, v2⟩ := wSr_l d T N wT wN K M hK hM f (k + 1) V left i h L (Sum.inr (Sum.inl (V : Int))) (Sum.inr (Sum.inr none)) (by omega) hV hi nt br
        refine ⟨g2, ?_, q3, bz, Lz, v1, ?_⟩
        · have hk1 : (k : Int) + 1 = ((k + 1 : Nat) : Int) := by omega
          rw [q_9_30]
          simp (disch := (first | omega | (simp only [kd_sI, kd_sL, kd_sR, kd_cp, kd_aI]; omega) | (unfold catV; exact rfl) | (unfold catS; exact Nat.le_of_ble_eq_true rfl) | assumption)) only [q_9_0, q_9_1, q_9_2, q_9_3, q_9_6, q_9_7, q_9_10, q_9_11, q_9_12, q_9_13_t, q_9_13_f, q_9_16, q_9_17, q_9_18, q_9_19, q_9_22, q_9_24, q_9_25, q_9_27, q_9_28, q_9_32, q_9_33_t, q_9_33_f, q_9_36, q_9_38, q_9_39_t, q_9_39_f, q_9_42, q_9_44, q_9_45, q_9_47, q_9_48, q_9_51, q_9_52, q_9_53, q_9_55, q_9_57, q_9_59, q_9_60_t, q_9_60_f, q_9_63, q_9_64, q_9_65, q_9_67, q_9_68, q_9_71, q_9_72, q_9_74, q_9_75_t, q_9_75_f, q_9_78, q_9_79, q_9_82, q_9_84, q_9_86, q_9_87, q_9_90, q_9_92, q_9_94, q_9_97, q_9_100, q_9_101, aft_i, aft_l, aft_v, Int.toNat_natCast, kd_sI, kd_sL, kd_sR, kd_cp, gI_sL, gI_sR, gL_sI, gL_sR, gR_sI, gR_sL, gL_cp, gR_cp, kd_aI, gL_aI, gR_aI, gI_aI, gI_aIn, sI_aI, gI_sIn, Int.reduceToNat, Int.reduceAdd, Int.reduceSub, Int.reduceMul, Int.reduceNeg, Int.zero_add, sh, cl, c0, hk1]
          exact e2
        · rw [eg]; exact v2
