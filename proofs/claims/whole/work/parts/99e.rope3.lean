def bl1 (n : Int) : Int := wrL (n - andL (ushL n 1) 6148914691236517205)
def bl2 (n : Int) : Int := wrL (andL (bl1 n) 3689348814741910323 + andL (ushL (bl1 n) 2) 3689348814741910323)
def bl3 (n : Int) : Int := andL (wrL (bl2 n + ushL (bl2 n) 4)) 1085102592571150095
def bl4 (n : Int) : Int := wrL (bl3 n + ushL (bl3 n) 8)
def bl5 (n : Int) : Int := wrL (bl4 n + ushL (bl4 n) 16)
def bl6 (n : Int) : Int := wrL (bl5 n + ushL (bl5 n) 32)
theorem bl_all : ∀ n : Nat, n < 64 → andI (l2i (bl6 n)) 127 = (cntB n 6 : Int) := by decide +kernel
theorem bitL_ok (d : Nat) (h : mH) (n : Nat) (hn : n < 64) : callA (d + 1) 194 [Sum.inr (Sum.inl (n : Int))] h = some (some (Sum.inl (cntB n 6 : Int)), h) := by
  have e := bl_all n hn
  unfold bl6 bl5 bl4 bl3 bl2 bl1 at e
  rw [en_194]
  simp (disch := (first | omega | (simp only [kd_sI, kd_sL, kd_sR, kd_cp, kd_aI]; omega) | (unfold catV; exact rfl) | (unfold catS; exact Nat.le_of_ble_eq_true rfl) | assumption)) only [q_194_0, q_194_1, q_194_2, q_194_3, q_194_4, q_194_7, q_194_8, q_194_9, q_194_10, q_194_11, q_194_14, q_194_15, q_194_16, q_194_17, q_194_18, q_194_21, q_194_22, q_194_23, q_194_24, q_194_25, q_194_26, q_194_27, q_194_28, q_194_29, q_194_32, q_194_33, q_194_34, q_194_35, q_194_36, q_194_38, q_194_39, q_194_40, q_194_41, q_194_42, q_194_43, q_194_45, q_194_46, q_194_47, q_194_48, q_194_49, q_194_50, q_194_52, q_194_53, q_194_54, q_194_55, q_194_56, q_194_57, q_194_59, q_194_60, aft_i, aft_l, aft_v, Int.toNat_natCast, kd_sI, kd_sL, kd_sR, kd_cp, gI_sL, gI_sR, gL_sI, gL_sR, gR_sI, gR_sL, gL_cp, gR_cp, kd_aI, gL_aI, gR_aI, gI_aI, gI_aIn, sI_aI, gI_sIn, Int.reduceToNat, Int.reduceAdd, Int.reduceSub, Int.reduceMul, Int.reduceNeg, Int.zero_add, e]
theorem cnt_rv {V k w : Nat} (w6 : w ≤ 6) : cntB (V / 2 ^ k &&& (2 ^ w - 1)) 6 = rvC V k w := by
  have tb : ∀ j, (V / 2 ^ k &&& (2 ^ w - 1)).testBit j = (decide (j < w) && V.testBit (k + j)) := fun j => by
    rw [Nat.testBit_and, Nat.testBit_two_pow_sub_one, Nat.testBit_div_two_pow, Nat.add_comm j k, Bool.and_comm]
  have key : ∀ m, m ≤ w → cntB (V / 2 ^ k &&& (2 ^ w - 1)) m = rvC V k m := by
    intro m
    induction m with
    | zero => intro _; rfl
    | succ m ih =>
      intro hm
      show cntB _ m + (if _ then 1 else 0) = rvC V k m + (if V.testBit (k + m) = true then 1 else 0)
      rw [ih (by omega), tb m, decide_eq_true (by omega), Bool.true_and]
  have up : ∀ m, cntB (V / 2 ^ k &&& (2 ^ w - 1)) (w + m) = rvC V k w := by
    intro m
    induction m with
    | zero => exact key w (Nat.le_refl _)
    | succ m ih =>
      have e : (V / 2 ^ k &&& (2 ^ w - 1)).testBit (w + m) = false := by rw [tb, decide_eq_false (by omega), Bool.false_and]
      show cntB (V / 2 ^ k &&& (2 ^ w - 1)) (w + m) + (if (V / 2 ^ k &&& (2 ^ w - 1)).testBit (w + m) = true then 1 else 0) = _
      rw [ih, e]
      rfl
  have := up (6 - w)
  rw [show w + (6 - w) = 6 by omega] at this
  exact this
theorem wRv_ok (d : Nat) (h : mH) (V k w : Nat) (v : V < 2 ^ 40) (hk : k ≤ 40) (w1 : 1 ≤ w) (w6 : w ≤ 6) : callA (d + 2) 11 [Sum.inr (Sum.inl (V : Int)), Sum.inl (k : Int), Sum.inl (w : Int)] h = some (some (Sum.inl (rvC V k w : Int)), h) := by
  have s1 := shrL_n (a := V) (c := k) (by omega) (by omega)
  have p : 2 ^ w ≤ 2 ^ 6 := Nat.pow_le_pow_right (by omega) w6
  have p0 : 0 < 2 ^ w := Nat.pow_pos (by omega)
  have s2 := shlL1 (k := w) (by omega)
  have wr : wrL (((2 ^ w : Nat) : Int) - 1) = ((2 ^ w - 1 : Nat) : Int) := by
    rw [wrL_bm]
    have : ((2 ^ w : Nat) : Int) - 1 = ((2 ^ w - 1 : Nat) : Int) := by omega
    rw [this]
    exact Int.bmod_eq_of_le (by omega) (by omega)
  have dv : V / 2 ^ k ≤ V := Nat.div_le_self _ _
  have an := andL_n (a := V / 2 ^ k) (2 ^ w - 1) (by omega)
  have lt : V / 2 ^ k &&& (2 ^ w - 1) < 64 := by
    have : V / 2 ^ k &&& (2 ^ w - 1) ≤ 2 ^ w - 1 := Nat.and_le_right
    omega
  have e := bitL_ok d h (V / 2 ^ k &&& (2 ^ w - 1)) lt
  rw [cnt_rv w6] at e
  rw [en_11]
  simp (disch := (first | omega | (simp only [kd_sI, kd_sL, kd_sR, kd_cp, kd_aI]; omega) | (unfold catV; exact rfl) | (unfold catS; exact Nat.le_of_ble_eq_true rfl) | assumption)) only [q_11_0, q_11_1, q_11_2, q_11_3, q_11_4, q_11_5, q_11_6, q_11_7, q_11_8, q_11_9, q_11_12, aft_i, aft_l, aft_v, Int.toNat_natCast, kd_sI, kd_sL, kd_sR, kd_cp, gI_sL, gI_sR, gL_sI, gL_sR, gR_sI, gR_sL, gL_cp, gR_cp, kd_aI, gL_aI, gR_aI, gI_aI, gI_aIn, sI_aI, gI_sIn, Int.reduceToNat, Int.reduceAdd, Int.reduceSub, Int.reduceMul, Int.reduceNeg, Int.zero_add, s1, s2, wr, an, e]
def rpF (h g : mH) : Prop := g.1 = h.1 ∧ (∀ q k, ¬ (135 ≤ q ∧ q ≤ 136) → gI g q k = gI h q k) ∧ gL g = gL h ∧ (∀ q k, ¬ (q = 133 ∧ (k = 1 ∨ k = 2)) → gR g q k = gR h q k)
theorem rpF_rf (h : mH) : rpF h h := ⟨rfl, fun _ _ _ => rfl, rfl, fun _ _ _ => rfl⟩
theorem rpF_tr {h g k : mH} (a : rpF h g) (b : rpF g k) : rpF h k := ⟨b.1.trans a.1, fun q j n => (b.2.1 q j n).trans (a.2.1 q j n), b.2.2.1.trans a.2.2.1, fun q j n => (b.2.2.2 q j n).trans (a.2.2.2 q j n)⟩
theorem rpF_s {h : mH} {a k : Nat} {x : Int} (n : 135 ≤ a ∧ a ≤ 136) : rpF h (sI h a k x) := ⟨rfl, fun q j m => by rw [gI_sI, if_neg (by omega)], rfl, fun _ _ _ => rfl⟩
theorem rpF_L {h g : mH} (a : rpF h g) (L : LAY h) : LAY g := by
  refine ⟨by rw [a.1]; exact L.1, fun q k b e => ?_⟩
  by_cases z : q = 133 ∧ (k = 1 ∨ k = 2)
  · obtain ⟨z1, z2⟩ := z
    subst z1
    exfalso
    rcases z2 with y | y
    · subst y
      rw [show refT 133 1 = none from by decide +kernel] at e
      cases e
    · subst y
      rw [show refT 133 2 = none from by decide +kernel] at e
      cases e
  · rw [a.2.2.2 q k z]
    exact L.2 q k b e
theorem rpK {h : mH} (L : LAY h) {p : Nat} (hp : p = 135 ∨ p = 136) : (kd h p).1 = 100 ∧ (kd h p).2 = 41 := by
  rcases hp with e | e <;> subst e <;> exact lay_k L rfl
theorem wFe_a (d : Nat) (x0 x1 x2 x3 x6 x7 x8 : mV) (K p b : Nat) (hK : K ≤ 40) (hb : b = 135 ∨ b = 136) (e0 : x0 = Sum.inr (Sum.inr (some 133))) : ∀ (m k : Nat) (h : mH) (L : LAY h), k + m = K + 1 → gR h 133 2 = some b → ∃ g, resA (callA d) 10 (3, [x0, x1, x2, x3, Sum.inl (K : Int), Sum.inl (k : Int), x6, x7, x8], [], h) = resA (callA d) 10 (24, [x0, x1, x2, x3, Sum.inl (K : Int), Sum.inl ((K + 1 : Nat) : Int), x6, x7, x8], [], g) ∧ rpF h g ∧ gR g = gR h ∧ (∀ j, j < k → gI g b j = gI h b j) ∧ ∀ j, k ≤ j → j ≤ K → gI g b j = 0
  | 0, k, h, L, hk, hr => by
    have e : k = K + 1 := hk
    subst e
    subst e0
    refine ⟨h, ?_, rpF_rf h, rfl, fun _ _ => rfl, fun j a c => absurd a (by omega)⟩
    have hc : ((K : Nat) : Int) < ((K + 1 : Nat) : Int) := by omega
    simp (disch := (first | omega | (simp only [kd_sI, kd_sL, kd_sR, kd_cp, kd_aI]; omega) | (unfold catV; exact rfl) | (unfold catS; exact Nat.le_of_ble_eq_true rfl) | assumption)) only [q_10_0, q_10_1, q_10_3, q_10_5, q_10_7_t, q_10_7_f, q_10_10, q_10_11, q_10_14, q_10_16, q_10_17, q_10_18, q_10_21, q_10_25, q_10_28, q_10_29, q_10_30, q_10_32, q_10_34_t, q_10_34_f, q_10_37, q_10_38, q_10_41, q_10_42, q_10_45, q_10_47, q_10_48, q_10_49, q_10_51, q_10_53, q_10_55, q_10_57_t, q_10_57_f, q_10_60, q_10_61, q_10_63, q_10_65, q_10_67, q_10_68, q_10_70_t, q_10_70_f, q_10_73, q_10_74, q_10_76, q_10_78, q_10_81, q_10_82, q_10_85, q_10_87, q_10_89, q_10_90, q_10_91, q_10_92, q_10_93, q_10_96, q_10_98, q_10_99, q_10_100, q_10_101, q_10_104, q_10_106, q_10_107, q_10_110, q_10_112, q_10_114, q_10_115, q_10_118, q_10_119, q_10_122, q_10_125, q_10_126, q_10_129, q_10_131, q_10_132, q_10_133, q_10_136, q_10_139, q_10_140, q_10_142, q_10_145, q_10_148, q_10_151, q_10_152, q_10_155, q_10_156, q_10_157, aft_i, aft_l, aft_v, Int.toNat_natCast, kd_sI, kd_sL, kd_sR, kd_cp, gI_sL, gI_sR, gL_sI, gL_sR, gR_sI, gR_sL, gL_cp, gR_cp, kd_aI, gL_aI, gR_aI, gI_aI, gI_aIn, sI_aI, gI_sIn, Int.reduceToNat, Int.reduceAdd, Int.reduceSub, Int.reduceMul, Int.reduceNeg, Int.zero_add]
  | m + 1, k, h, L, hk, hr => by
    subst e0
    have L0 := L
    obtain ⟨q1, q2⟩ := rpK L hb
    have s1 : rpF h (sI h b k 0) := rpF_s (by omega)
    obtain ⟨g, e, f, fr, v1, v2⟩ := wFe_a d (Sum.inr (Sum.inr (some 133))) x1 x2 x3 x6 x7 x8 K p b hK hb rfl m (k + 1) (sI h b k 0) (rpF_L s1 L) (by omega) hr
    refine ⟨g, ?_, rpF_tr s1 f, fr, fun j hj => by rw [v1 j (by omega), gI_sIo (by omega)], fun j a c => ?_⟩
    · obtain ⟨k133, j133⟩ := lay_k L0 (a := 133) (t := 1) (n := 3) rfl
      rw [q_10_3]
      simp (disch := (first | omega | (simp only [kd_sI, kd_sL, kd_sR, kd_cp, kd_aI]; omega) | (unfold catV; exact rfl) | (unfold catS; exact Nat.le_of_ble_eq_true rfl) | assumption)) only [q_10_0, q_10_1, q_10_5, q_10_7_t, q_10_7_f, q_10_10, q_10_11, q_10_14, q_10_16, q_10_17, q_10_18, q_10_21, q_10_25, q_10_28, q_10_29, q_10_30, q_10_32, q_10_34_t, q_10_34_f, q_10_37, q_10_38, q_10_41, q_10_42, q_10_45, q_10_47, q_10_48, q_10_49, q_10_51, q_10_53, q_10_55, q_10_57_t, q_10_57_f, q_10_60, q_10_61, q_10_63, q_10_65, q_10_67, q_10_68, q_10_70_t, q_10_70_f, q_10_73, q_10_74, q_10_76, q_10_78, q_10_81, q_10_82, q_10_85, q_10_87, q_10_89, q_10_90, q_10_91, q_10_92, q_10_93, q_10_96, q_10_98, q_10_99, q_10_100, q_10_101, q_10_104, q_10_106, q_10_107, q_10_110, q_10_112, q_10_114, q_10_115, q_10_118, q_10_119, q_10_122, q_10_125, q_10_126, q_10_129, q_10_131, q_10_132, q_10_133, q_10_136, q_10_139, q_10_140, q_10_142, q_10_145, q_10_148, q_10_151, q_10_152, q_10_155, q_10_156, q_10_157, aft_i, aft_l, aft_v, Int.toNat_natCast, kd_sI, kd_sL, kd_sR, kd_cp, gI_sL, gI_sR, gL_sI, gL_sR, gR_sI, gR_sL, gL_cp, gR_cp, kd_aI, gL_aI, gR_aI, gI_aI, gI_aIn, sI_aI, gI_sIn, Int.reduceToNat, Int.reduceAdd, Int.reduceSub, Int.reduceMul, Int.reduceNeg, Int.zero_add, hr]
      exact e
    · by_cases z : j = k
      · subst z; rw [v1 j (by omega), gI_sIs]
      · exact v2 j (by omega) c
theorem wFe_c (d : Nat) (V K w p b r : Nat) (wd : Nat → Nat) (v40 : V < 2 ^ 40) (hK : K ≤ 40) (hp : p = 135 ∨ p = 136) (hb : b = 135 ∨ b = 136) (ne : p ≠ b) (w1 : 1 ≤ w) (w6 : w ≤ 6) (ew : wd r = w) (i : Int) : ∀ (k : Nat) (h : mH) (L : LAY h) (x8 : mV), k ≤ K + 1 → gR h 133 1 = some p → gR h 133 2 = some b → (∀ j, j ≤ K → gI h b j = ndK V K wd r (K - j)) → (∀ j, k ≤ j → j ≤ K → gI h p j = ndK V K wd (r + 1) (K - j)) → ∃ g y8, resA (callA (d + 2)) 10 (55, [Sum.inr (Sum.inr (some 133)), Sum.inr (Sum.inr (some 14)), Sum.inr (Sum.inl (V : Int)), Sum.inr (Sum.inr none), Sum.inl (K : Int), Sum.inl i, Sum.inl (w : Int), Sum.inl ((k : Int) - 1), x8], [], h) = resA (callA (d + 2)) 10 (125, [Sum.inr (Sum.inr (some 133)), Sum.inr (Sum.inr (some 14)), Sum.inr (Sum.inl (V : Int)), Sum.inr (Sum.inr none), Sum.inl (K : Int), Sum.inl i, Sum.inl (w : Int), Sum.inl (-1), y8], [], g) ∧ rpF h g ∧ gR g = gR h ∧ ∀ j, j ≤ K → gI g p j = ndK V K wd (r + 1) (K - j)
  | 0, h, L, x8, hk, rp, rb, hB, hP => by
    refine ⟨h, x8, ?_, rpF_rf h, rfl, fun j hj => hP j (Nat.zero_le _) hj⟩
    rw [show ((0 : Nat) : Int) - 1 = -1 from rfl]
    simp (disch := (first | omega | (simp only [kd_sI, kd_sL, kd_sR, kd_cp, kd_aI]; omega) | (unfold catV; exact rfl) | (unfold catS; exact Nat.le_of_ble_eq_true rfl) | assumption)) only [q_10_0, q_10_1, q_10_3, q_10_5, q_10_7_t, q_10_7_f, q_10_10, q_10_11, q_10_14, q_10_16, q_10_17, q_10_18, q_10_21, q_10_24, q_10_25, q_10_28, q_10_29, q_10_30, q_10_32, q_10_34_t, q_10_34_f, q_10_37, q_10_38, q_10_41, q_10_42, q_10_45, q_10_47, q_10_48, q_10_49, q_10_51, q_10_53, q_10_55, q_10_57_t, q_10_57_f, q_10_60, q_10_61, q_10_63, q_10_65, q_10_67, q_10_68, q_10_70_t, q_10_70_f, q_10_73, q_10_74, q_10_76, q_10_78, q_10_81, q_10_82, q_10_85, q_10_87, q_10_89, q_10_90, q_10_91, q_10_92, q_10_93, q_10_96, q_10_98, q_10_99, q_10_100, q_10_101, q_10_104, q_10_106, q_10_107, q_10_110, q_10_112, q_10_114, q_10_115, q_10_118, q_10_119, q_10_122, q_10_126, q_10_129, q_10_131, q_10_132, q_10_133, q_10_136, q_10_139, q_10_140, q_10_142, q_10_145, q_10_148, q_10_151, q_10_152, q_10_155, q_10_156, q_10_157, aft_i, aft_l, aft_v, Int.toNat_natCast, kd_sI, kd_sL, kd_sR, kd_cp, gI_sL, gI_sR, gL_sI, gL_sR, gR_sI, gR_sL, gL_cp, gR_cp, kd_aI, gL_aI, gR_aI, gI_aI, gI_aIn, sI_aI, gI_sIn, Int.reduceToNat, Int.reduceAdd, Int.reduceSub, Int.reduceMul, Int.reduceNeg, Int.zero_add]
  | k + 1, h, L, x8, hk, rp, rb, hB, hP => by
    have L0 := L
    obtain ⟨p1, p2⟩ := rpK L hp
    obtain ⟨b1, b2⟩ := rpK L hb
    have e0 : ((k + 1 : Nat) : Int) - 1 = (k : Int) := by omega
    have val : ∃ y8 : Int, resA (callA (d + 2)) 10 (55, [Sum.inr (Sum.inr (some 133)), Sum.inr (Sum.inr (some 14)), Sum.inr (Sum.inl (V : Int)), Sum.inr (Sum.inr none), Sum.inl (K : Int), Sum.inl i, Sum.inl (w : Int), Sum.inl (k : Int), x8], [], h) = resA (callA (d + 2)) 10 (55, [Sum.inr (Sum.inr (some 133)), Sum.inr (Sum.inr (some 14)), Sum.inr (Sum.inl (V : Int)), Sum.inr (Sum.inr none), Sum.inl (K : Int), Sum.inl i, Sum.inl (w : Int), Sum.inl ((k : Int) - 1), Sum.inl y8], [], sI h p k (ndK V K wd (r + 1) (K - k))) := by
      have e3 : (k : Int) + -1 = (k : Int) - 1 := by omega
      by_cases z : k + w ≤ K
      · have eb := hB (k + w) z
        have ep := hP (k + 1) (by omega) (by omega)
        have er := wRv_ok d h V k w v40 (by omega) w1 w6
        have n1 := ndK_le V K wd r (K - (k + w))
        have n2 := ndK_le V K wd (r + 1) (K - (k + 1))
        have rl : rvC V k w ≤ w := by
          have key : ∀ m, rvC V k m ≤ m := by
            intro m
            induction m with
            | zero => exact Nat.le_refl _
            | succ m ih => show rvC V k m + (if _ then 1 else 0) ≤ m + 1; split <;> omega
          exact key w
        have es : ndK V K wd (r + 1) (K - k) = min (min (rvC V k w + ndK V K wd r (K - (k + w))) (ndK V K wd (r + 1) (K - (k + 1)))) 4 := by
          have h1 : K - k = (K - (k + 1)) + 1 := by omega
          rw [h1, ndK_s (by omega), ew, show K - (K - (k + 1) + 1) = k by omega, show K - (k + 1) + 1 - w = K - (k + w) by omega]
        have em : min (min ((rvC V k w : Int) + (ndK V K wd r (K - (k + w)) : Int)) (ndK V K wd (r + 1) (K - (k + 1)) : Int)) 4 = (ndK V K wd (r + 1) (K - k) : Int) := by rw [es]; omega
        have i1 : ((k : Int) + w).toNat = k + w := by omega
        have i2 : ((k : Int) + 1).toNat = k + 1 := by omega
        refine ⟨min ((rvC V k w : Int) + (ndK V K wd r (K - (k + w)) : Int)) (ndK V K wd (r + 1) (K - (k + 1)) : Int), ?_⟩
        obtain ⟨k133, j133⟩ := lay_k L0 (a := 133) (t := 1) (n := 3) rfl
        rw [q_10_55]
        simp (disch := (first | omega | (simp only [kd_sI, kd_sL, kd_sR, kd_cp, kd_aI]; omega) | (unfold catV; exact rfl) | (unfold catS; exact Nat.le_of_ble_eq_true rfl) | assumption)) only [q_10_0, q_10_1, q_10_3, q_10_5, q_10_7_t, q_10_7_f, q_10_10, q_10_11, q_10_14, q_10_16, q_10_17, q_10_18, q_10_21, q_10_24, q_10_25, q_10_28, q_10_29, q_10_30, q_10_32, q_10_34_t, q_10_34_f, q_10_37, q_10_38, q_10_41, q_10_42, q_10_45, q_10_47, q_10_48, q_10_49, q_10_51, q_10_53, q_10_57_t, q_10_57_f, q_10_60, q_10_61, q_10_63, q_10_65, q_10_67, q_10_68, q_10_70_t, q_10_70_f, q_10_73, q_10_74, q_10_76, q_10_78, q_10_81, q_10_82, q_10_85, q_10_87, q_10_89, q_10_90, q_10_91, q_10_92, q_10_93, q_10_96, q_10_98, q_10_99, q_10_100, q_10_101, q_10_104, q_10_106, q_10_107, q_10_110, q_10_112, q_10_114, q_10_115, q_10_118, q_10_119, q_10_122, q_10_126, q_10_129, q_10_131, q_10_132, q_10_133, q_10_136, q_10_139, q_10_140, q_10_142, q_10_145, q_10_148, q_10_151, q_10_152, q_10_155, q_10_156, q_10_157, aft_i, aft_l, aft_v, Int.toNat_natCast, kd_sI, kd_sL, kd_sR, kd_cp, gI_sL, gI_sR, gL_sI, gL_sR, gR_sI, gR_sL, gL_cp, gR_cp, kd_aI, gL_aI, gR_aI, gI_aI, gI_aIn, sI_aI, gI_sIn, Int.reduceToNat, Int.reduceAdd, Int.reduceSub, Int.reduceMul, Int.reduceNeg, Int.zero_add, er, rb, rp, i1, i2, eb, ep, em, e3]
      · have es : ndK V K wd (r + 1) (K - k) = 4 := by
          rw [ndK_lt (by omega)]
        refine ⟨4, ?_⟩
        rw [es]
        have mm : min (4 : Int) 4 = 4 := rfl
        obtain ⟨k133, j133⟩ := lay_k L0 (a := 133) (t := 1) (n := 3) rfl
        rw [q_10_55]
        simp (disch := (first | omega | (simp only [kd_sI, kd_sL, kd_sR, kd_cp, kd_aI]; omega) | (unfold catV; exact rfl) | (unfold catS; exact Nat.le_of_ble_eq_true rfl) | assumption)) only [q_10_0, q_10_1, q_10_3, q_10_5, q_10_7_t, q_10_7_f, q_10_10, q_10_11, q_10_14, q_10_16, q_10_17, q_10_18, q_10_21, q_10_24, q_10_25, q_10_28, q_10_29, q_10_30, q_10_32, q_10_34_t, q_10_34_f, q_10_37, q_10_38, q_10_41, q_10_42, q_10_45, q_10_47, q_10_48, q_10_49, q_10_51, q_10_53, q_10_57_t, q_10_57_f, q_10_60, q_10_61, q_10_63, q_10_65, q_10_67, q_10_68, q_10_70_t, q_10_70_f, q_10_73, q_10_74, q_10_76, q_10_78, q_10_81, q_10_82, q_10_85, q_10_87, q_10_89, q_10_90, q_10_91, q_10_92, q_10_93, q_10_96, q_10_98, q_10_99, q_10_100, q_10_101, q_10_104, q_10_106, q_10_107, q_10_110, q_10_112, q_10_114, q_10_115, q_10_118, q_10_119, q_10_122, q_10_126, q_10_129, q_10_131, q_10_132, q_10_133, q_10_136, q_10_139, q_10_140, q_10_142, q_10_145, q_10_148, q_10_151, q_10_152, q_10_155, q_10_156, q_10_157, aft_i, aft_l, aft_v, Int.toNat_natCast, kd_sI, kd_sL, kd_sR, kd_cp, gI_sL, gI_sR, gL_sI, gL_sR, gR_sI, gR_sL, gL_cp, gR_cp, kd_aI, gL_aI, gR_aI, gI_aI, gI_aIn, sI_aI, gI_sIn, Int.reduceToNat, Int.reduceAdd, Int.reduceSub, Int.reduceMul, Int.reduceNeg, Int.zero_add, rp, mm, e3]
        rfl
    obtain ⟨y8, ev⟩ := val
    have s1 : rpF h (sI h p k (ndK V K wd (r + 1) (K - k))) := rpF_s (by omega)
    obtain ⟨g, z8, e2, f, fr, v⟩ := wFe_c d V K w p b r wd v40 hK hp hb ne w1 w6 ew i k (sI h p k (ndK V K wd (r + 1) (K - k))) (rpF_L s1 L) (Sum.inl y8) (by omega) rp rb (fun j hj => by rw [gI_sIn (Ne.symm ne)]; exact hB j hj) (fun j a c => by
      by_cases u : j = k
      · subst u; rw [gI_sIs]
      · rw [gI_sIo u]; exact hP j (by omega) c)
    refine ⟨g, z8, ?_, rpF_tr s1 f, fr, v⟩
    rw [e0, ev]
    exact e2
