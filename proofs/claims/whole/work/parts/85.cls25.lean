def ctx (h : mH) (X : List Int) : Prop := gI h 1 1 = X.length ∧ (∀ k (q : k < X.length), gI h 2 k = X[k]) ∧ X.length ≤ 180 ∧ byX X
def cst (h g : mH) : Prop := g.1 = h.1 ∧ (∀ q k, ¬ (q = 1 ∧ 2 ≤ k ∧ k ≤ 5) → gI g q k = gI h q k) ∧ gL g = gL h ∧ gR g = gR h
theorem cst_rf (h : mH) : cst h h := ⟨rfl, fun _ _ _ => rfl, rfl, rfl⟩
theorem cst_tr {h g k : mH} (a : cst h g) (b : cst g k) : cst h k := ⟨b.1.trans a.1, fun q j x => (b.2.1 q j x).trans (a.2.1 q j x), b.2.2.1.trans a.2.2.1, b.2.2.2.trans a.2.2.2⟩
theorem cst_s {h : mH} {k : Nat} {x : Int} (n : 2 ≤ k ∧ k ≤ 5) : cst h (sI h 1 k x) := ⟨rfl, fun q j v => by rw [gI_sI, if_neg (fun z => v ⟨z.1, by omega, by omega⟩)], rfl, rfl⟩
theorem cst_L {h g : mH} (a : cst h g) (L : LAY h) : LAY g := lay_keep L a.1 a.2.2.2
theorem cst_tx {h g : mH} {X : List Int} (a : cst h g) (t : ctx h X) : ctx g X := ⟨(a.2.1 1 1 (by omega)).trans t.1, fun k q => by rw [a.2.1 2 k (by omega)]; exact t.2.1 k q, t.2.2⟩
theorem wSk_loop (d : Nat) (X : List Int) : ∀ (f p : Nat) (h : mH) (L : LAY h) (t : ctx h X), X.length ≤ p + f → p ≤ X.length → gI h 1 2 = p → ∃ g, cst h g ∧ gI g 1 2 = skF X f p ∧ resA (callA (d + 1)) 48 (0, [Sum.inr (Sum.inr (some 1))], [], h) = resA (callA (d + 1)) 48 (38, [Sum.inr (Sum.inr (some 1))], [], g)
  | 0, p, h, L, t, hf, hl, hp => by
    have t1 := t.1
    refine ⟨h, cst_rf h, hp, ?_⟩
    obtain ⟨k1, j1⟩ := lay_k L (a := 1) (t := 5) (n := 8) rfl
    simp (disch := (first | omega | (simp only [kd_sI, kd_sL, kd_sR, kd_cp, kd_aI]; omega) | (unfold catV; exact rfl) | (unfold catS; exact Nat.le_of_ble_eq_true rfl) | assumption)) only [q_48_0, q_48_1, q_48_4, q_48_5, q_48_8_t, q_48_8_f, q_48_11, q_48_12, q_48_15, q_48_16, q_48_19, q_48_20, q_48_22_t, q_48_22_f, q_48_25, q_48_26, q_48_27, q_48_30, q_48_31, q_48_32, q_48_35, q_48_39, q_48_40, q_48_43, q_48_46, q_48_47, q_48_50, q_48_51, q_48_54_t, q_48_54_f, q_48_57, q_48_58, q_48_59, q_48_62, q_48_63, q_48_64, q_48_65, q_48_68, q_48_69, q_48_72, q_48_73, q_48_76, q_48_77, q_48_80, q_48_82_t, q_48_82_f, q_48_85, q_48_86, q_48_89, q_48_91_t, q_48_91_f, q_48_94, q_48_95, q_48_98, q_48_99, q_48_100, q_48_101, q_48_104, q_48_105, q_48_106, q_48_109, q_48_110, q_48_113, q_48_115_t, q_48_115_f, q_48_118, q_48_119, q_48_122, q_48_124_t, q_48_124_f, q_48_127, q_48_128, q_48_129, q_48_132, q_48_135, q_48_136, q_48_137, q_48_140, q_48_142_t, q_48_142_f, q_48_145, q_48_146, q_48_149, q_48_150, q_48_153, aft_i, aft_l, aft_v, Int.toNat_natCast, kd_sI, kd_sL, kd_sR, kd_cp, gI_sL, gI_sR, gL_sI, gL_sR, gR_sI, gR_sL, gL_cp, gR_cp, kd_aI, gL_aI, gR_aI, gI_aI, gI_aIn, sI_aI, gI_sIn, Int.reduceToNat, Int.reduceAdd, Int.reduceSub, Int.reduceMul, Int.reduceNeg, Int.zero_add, hp, t1]
  | f + 1, p, h, L, t, hf, hl, hp => by
    have L0 := L
    have t1 := t.1
    have t3 := t.2.2.1
    by_cases hlt : p < X.length
    · have e := t.2.1 p hlt
      by_cases z : ch X p = 32
      · have z2 : X[p] = 32 := by rw [← ch_in hlt]; exact z
        rw [z2] at e
        have s1 : cst h (sI h 1 2 ((p : Int) + 1)) := cst_s (by omega)
        obtain ⟨g, sg, eg, e2⟩ := wSk_loop d X f (p + 1) _ (cst_L s1 L0) (cst_tx s1 t) (by omega) (by omega) (gI_sIs h 1 2 _)
        refine ⟨g, cst_tr s1 sg, by rw [skF, if_pos z]; exact eg, ?_⟩
        obtain ⟨k1, j1⟩ := lay_k L0 (a := 1) (t := 5) (n := 8) rfl; obtain ⟨k2, j2⟩ := lay_k L0 (a := 2) (t := 100) (n := 180) rfl; have r1_0 : gR h 1 0 = some 2 := lay_r L0 rfl
        rw [q_48_0]
        simp (disch := (first | omega | (simp only [kd_sI, kd_sL, kd_sR, kd_cp, kd_aI]; omega) | (unfold catV; exact rfl) | (unfold catS; exact Nat.le_of_ble_eq_true rfl) | assumption)) only [q_48_1, q_48_4, q_48_5, q_48_8_t, q_48_8_f, q_48_11, q_48_12, q_48_15, q_48_16, q_48_19, q_48_20, q_48_22_t, q_48_22_f, q_48_25, q_48_26, q_48_27, q_48_30, q_48_31, q_48_32, q_48_35, q_48_39, q_48_40, q_48_43, q_48_46, q_48_47, q_48_50, q_48_51, q_48_54_t, q_48_54_f, q_48_57, q_48_58, q_48_59, q_48_62, q_48_63, q_48_64, q_48_65, q_48_68, q_48_69, q_48_72, q_48_73, q_48_76, q_48_77, q_48_80, q_48_82_t, q_48_82_f, q_48_85, q_48_86, q_48_89, q_48_91_t, q_48_91_f, q_48_94, q_48_95, q_48_98, q_48_99, q_48_100, q_48_101, q_48_104, q_48_105, q_48_106, q_48_109, q_48_110, q_48_113, q_48_115_t, q_48_115_f, q_48_118, q_48_119, q_48_122, q_48_124_t, q_48_124_f, q_48_127, q_48_128, q_48_129, q_48_132, q_48_135, q_48_136, q_48_137, q_48_140, q_48_142_t, q_48_142_f, q_48_145, q_48_146, q_48_149, q_48_150, q_48_153, aft_i, aft_l, aft_v, Int.toNat_natCast, kd_sI, kd_sL, kd_sR, kd_cp, gI_sL, gI_sR, gL_sI, gL_sR, gR_sI, gR_sL, gL_cp, gR_cp, kd_aI, gL_aI, gR_aI, gI_aI, gI_aIn, sI_aI, gI_sIn, Int.reduceToNat, Int.reduceAdd, Int.reduceSub, Int.reduceMul, Int.reduceNeg, Int.zero_add, hp, t1, r1_0, e]
        exact e2
      · have z2 : X[p] ≠ 32 := by rw [← ch_in hlt]; exact z
        refine ⟨h, cst_rf h, by rw [skF, if_neg z]; exact hp, ?_⟩
        obtain ⟨k1, j1⟩ := lay_k L0 (a := 1) (t := 5) (n := 8) rfl; obtain ⟨k2, j2⟩ := lay_k L0 (a := 2) (t := 100) (n := 180) rfl; have r1_0 : gR h 1 0 = some 2 := lay_r L0 rfl
        simp (disch := (first | omega | (simp only [kd_sI, kd_sL, kd_sR, kd_cp, kd_aI]; omega) | (unfold catV; exact rfl) | (unfold catS; exact Nat.le_of_ble_eq_true rfl) | assumption)) only [q_48_0, q_48_1, q_48_4, q_48_5, q_48_8_t, q_48_8_f, q_48_11, q_48_12, q_48_15, q_48_16, q_48_19, q_48_20, q_48_22_t, q_48_22_f, q_48_25, q_48_26, q_48_27, q_48_30, q_48_31, q_48_32, q_48_35, q_48_39, q_48_40, q_48_43, q_48_46, q_48_47, q_48_50, q_48_51, q_48_54_t, q_48_54_f, q_48_57, q_48_58, q_48_59, q_48_62, q_48_63, q_48_64, q_48_65, q_48_68, q_48_69, q_48_72, q_48_73, q_48_76, q_48_77, q_48_80, q_48_82_t, q_48_82_f, q_48_85, q_48_86, q_48_89, q_48_91_t, q_48_91_f, q_48_94, q_48_95, q_48_98, q_48_99, q_48_100, q_48_101, q_48_104, q_48_105, q_48_106, q_48_109, q_48_110, q_48_113, q_48_115_t, q_48_115_f, q_48_118, q_48_119, q_48_122, q_48_124_t, q_48_124_f, q_48_127, q_48_128, q_48_129, q_48_132, q_48_135, q_48_136, q_48_137, q_48_140, q_48_142_t, q_48_142_f, q_48_145, q_48_146, q_48_149, q_48_150, q_48_153, aft_i, aft_l, aft_v, Int.toNat_natCast, kd_sI, kd_sL, kd_sR, kd_cp, gI_sL, gI_sR, gL_sI, gL_sR, gR_sI, gR_sL, gL_cp, gR_cp, kd_aI, gL_aI, gR_aI, gI_aI, gI_aIn, sI_aI, gI_sIn, Int.reduceToNat, Int.reduceAdd, Int.reduceSub, Int.reduceMul, Int.reduceNeg, Int.zero_add, hp, t1, r1_0, e]
    · refine ⟨h, cst_rf h, by rw [skF, if_neg (by rw [ch_out (by omega)]; omega)]; exact hp, ?_⟩
      obtain ⟨k1, j1⟩ := lay_k L0 (a := 1) (t := 5) (n := 8) rfl
      simp (disch := (first | omega | (simp only [kd_sI, kd_sL, kd_sR, kd_cp, kd_aI]; omega) | (unfold catV; exact rfl) | (unfold catS; exact Nat.le_of_ble_eq_true rfl) | assumption)) only [q_48_0, q_48_1, q_48_4, q_48_5, q_48_8_t, q_48_8_f, q_48_11, q_48_12, q_48_15, q_48_16, q_48_19, q_48_20, q_48_22_t, q_48_22_f, q_48_25, q_48_26, q_48_27, q_48_30, q_48_31, q_48_32, q_48_35, q_48_39, q_48_40, q_48_43, q_48_46, q_48_47, q_48_50, q_48_51, q_48_54_t, q_48_54_f, q_48_57, q_48_58, q_48_59, q_48_62, q_48_63, q_48_64, q_48_65, q_48_68, q_48_69, q_48_72, q_48_73, q_48_76, q_48_77, q_48_80, q_48_82_t, q_48_82_f, q_48_85, q_48_86, q_48_89, q_48_91_t, q_48_91_f, q_48_94, q_48_95, q_48_98, q_48_99, q_48_100, q_48_101, q_48_104, q_48_105, q_48_106, q_48_109, q_48_110, q_48_113, q_48_115_t, q_48_115_f, q_48_118, q_48_119, q_48_122, q_48_124_t, q_48_124_f, q_48_127, q_48_128, q_48_129, q_48_132, q_48_135, q_48_136, q_48_137, q_48_140, q_48_142_t, q_48_142_f, q_48_145, q_48_146, q_48_149, q_48_150, q_48_153, aft_i, aft_l, aft_v, Int.toNat_natCast, kd_sI, kd_sL, kd_sR, kd_cp, gI_sL, gI_sR, gL_sI, gL_sR, gR_sI, gR_sL, gL_cp, gR_cp, kd_aI, gL_aI, gR_aI, gI_aI, gI_aIn, sI_aI, gI_sIn, Int.reduceToNat, Int.reduceAdd, Int.reduceSub, Int.reduceMul, Int.reduceNeg, Int.zero_add, hp, t1]
theorem wDg_loop (d : Nat) (X : List Int) : ∀ (f p v : Nat) (h : mH) (L : LAY h) (t : ctx h X), X.length ≤ p + f → p ≤ X.length → v ≤ 999 → gI h 1 2 = p → gI h 1 5 = v → ∃ g, cst h g ∧ gI g 1 2 = (dgF X f p v).1 ∧ gI g 1 5 = (dgF X f p v).2 ∧ gI g 1 3 = gI h 1 3 ∧ resA (callA (d + 1)) 49 (5, [Sum.inr (Sum.inr (some 1)), Sum.inr (Sum.inr none)], [], h) = resA (callA (d + 1)) 49 (90, [Sum.inr (Sum.inr (some 1)), Sum.inr (Sum.inr none)], [], g)
  | 0, p, v, h, L, t, hf, hl, hv, hp, h5 => by
    have t1 := t.1
    refine ⟨h, cst_rf h, hp, h5, rfl, ?_⟩
    obtain ⟨k1, j1⟩ := lay_k L (a := 1) (t := 5) (n := 8) rfl
    simp (disch := (first | omega | (simp only [kd_sI, kd_sL, kd_sR, kd_cp, kd_aI]; omega) | (unfold catV; exact rfl) | (unfold catS; exact Nat.le_of_ble_eq_true rfl) | assumption)) only [q_49_0, q_49_1, q_49_2, q_49_5, q_49_6, q_49_9, q_49_10, q_49_13_t, q_49_13_f, q_49_16, q_49_17, q_49_20, q_49_21, q_49_24, q_49_25, q_49_27_t, q_49_27_f, q_49_30, q_49_31, q_49_34, q_49_35, q_49_38, q_49_39, q_49_41_t, q_49_41_f, q_49_44, q_49_45, q_49_48, q_49_50_t, q_49_50_f, q_49_53, q_49_54, q_49_55, q_49_58, q_49_60, q_49_61, q_49_62, q_49_65, q_49_66, q_49_69, q_49_70, q_49_71, q_49_73, q_49_74, q_49_77, q_49_78, q_49_79, q_49_82, q_49_83, q_49_84, q_49_87, q_49_91, q_49_94, q_49_95, q_49_98, q_49_99, q_49_101_t, q_49_101_f, q_49_104, q_49_105, q_49_108, q_49_109, q_49_112, q_49_113, q_49_114_t, q_49_114_f, q_49_117, q_49_118, q_49_121, q_49_122, q_49_123, q_49_124, q_49_125_t, q_49_125_f, q_49_128, q_49_129, q_49_132, q_49_134_t, q_49_134_f, q_49_137, q_49_138, q_49_141, q_49_142, q_49_145, aft_i, aft_l, aft_v, Int.toNat_natCast, kd_sI, kd_sL, kd_sR, kd_cp, gI_sL, gI_sR, gL_sI, gL_sR, gR_sI, gR_sL, gL_cp, gR_cp, kd_aI, gL_aI, gR_aI, gI_aI, gI_aIn, sI_aI, gI_sIn, Int.reduceToNat, Int.reduceAdd, Int.reduceSub, Int.reduceMul, Int.reduceNeg, Int.zero_add, hp, t1]
  | f + 1, p, v, h, L, t, hf, hl, hv, hp, h5 => by
    have L0 := L
    have t1 := t.1
    have t3 := t.2.2.1
    by_cases hlt : p < X.length
    · have e := t.2.1 p hlt
      have ec := ch_in hlt
      by_cases z : 48 ≤ ch X p ∧ ch X p ≤ 57
      · have z2 : 48 ≤ X[p] ∧ X[p] ≤ 57 := by rw [← ec]; exact z
        by_cases y : 99 < v
        · have ev : dgV v (ch X p) = v := by unfold dgV; rw [if_pos y]
          have s1 : cst h (sI h 1 2 ((p : Int) + 1)) := cst_s (by omega)
          obtain ⟨g, sg, e2, e5, e3, e6⟩ := wDg_loop d X f (p + 1) v _ (cst_L s1 L0) (cst_tx s1 t) (by omega) (by omega) hv (gI_sIs _ 1 2 _) (by rw [gI_sIo (by omega)]; exact h5)
          refine ⟨g, cst_tr s1 sg, by rw [dgF, if_pos z, ev]; exact e2, by rw [dgF, if_pos z, ev]; exact e5, by rw [e3, gI_sIo (by omega)], ?_⟩
          obtain ⟨k1, j1⟩ := lay_k L0 (a := 1) (t := 5) (n := 8) rfl; obtain ⟨k2, j2⟩ := lay_k L0 (a := 2) (t := 100) (n := 180) rfl; have r1_0 : gR h 1 0 = some 2 := lay_r L0 rfl
          rw [q_49_5]
          simp (disch := (first | omega | (simp only [kd_sI, kd_sL, kd_sR, kd_cp, kd_aI]; omega) | (unfold catV; exact rfl) | (unfold catS; exact Nat.le_of_ble_eq_true rfl) | assumption)) only [q_49_0, q_49_1, q_49_2, q_49_6, q_49_9, q_49_10, q_49_13_t, q_49_13_f, q_49_16, q_49_17, q_49_20, q_49_21, q_49_24, q_49_25, q_49_27_t, q_49_27_f, q_49_30, q_49_31, q_49_34, q_49_35, q_49_38, q_49_39, q_49_41_t, q_49_41_f, q_49_44, q_49_45, q_49_48, q_49_50_t, q_49_50_f, q_49_53, q_49_54, q_49_55, q_49_58, q_49_60, q_49_61, q_49_62, q_49_65, q_49_66, q_49_69, q_49_70, q_49_71, q_49_73, q_49_74, q_49_77, q_49_78, q_49_79, q_49_82, q_49_83, q_49_84, q_49_87, q_49_91, q_49_94, q_49_95, q_49_98, q_49_99, q_49_101_t, q_49_101_f, q_49_104, q_49_105, q_49_108, q_49_109, q_49_112, q_49_113, q_49_114_t, q_49_114_f, q_49_117, q_49_118, q_49_121, q_49_122, q_49_123, q_49_124, q_49_125_t, q_49_125_f, q_49_128, q_49_129, q_49_132, q_49_134_t, q_49_134_f, q_49_137, q_49_138, q_49_141, q_49_142, q_49_145, aft_i, aft_l, aft_v, Int.toNat_natCast, kd_sI, kd_sL, kd_sR, kd_cp, gI_sL, gI_sR, gL_sI, gL_sR, gR_sI, gR_sL, gL_cp, gR_cp, kd_aI, gL_aI, gR_aI, gI_aI, gI_aIn, sI_aI, gI_sIn, Int.reduceToNat, Int.reduceAdd, Int.reduceSub, Int.reduceMul, Int.reduceNeg, Int.zero_add, hp, t1, r1_0, e, h5, gI_sIo]
          exact e6
        · have em : (v : Int) * 10 + X[p] - 48 = (dgV v (ch X p) : Int) := by
            unfold dgV
            rw [ec, if_neg y]
            omega
          have s1 : cst h (sI (sI h 1 5 (dgV v (ch X p) : Nat)) 1 2 ((p : Int) + 1)) := cst_tr (cst_s (by omega)) (cst_s (by omega))
          obtain ⟨g, sg, e2, e5, e3, e6⟩ := wDg_loop d X f (p + 1) (dgV v (ch X p)) _ (cst_L s1 L0) (cst_tx s1 t) (by omega) (by omega) (dgV_b hv z) (gI_sIs _ 1 2 _) (by rw [gI_sIo (by omega), gI_sIs])
          refine ⟨g, cst_tr s1 sg, by rw [dgF, if_pos z]; exact e2, by rw [dgF, if_pos z]; exact e5, by rw [e3, gI_sIo (by omega), gI_sIo (by omega)], ?_⟩
          obtain ⟨k1, j1⟩ := lay_k L0 (a := 1) (t := 5) (n := 8) rfl; obtain ⟨k2, j2⟩ := lay_k L0 (a := 2) (t := 100) (n := 180) rfl; have r1_0 : gR h 1 0 = some 2 := lay_r L0 rfl
          rw [q_49_5]
          simp (disch := (first | omega | (simp only [kd_sI, kd_sL, kd_sR, kd_cp, kd_aI]; omega) | (unfold catV; exact rfl) | (unfold catS; exact Nat.le_of_ble_eq_true rfl) | assumption)) only [q_49_0, q_49_1, q_49_2, q_49_6, q_49_9, q_49_10, q_49_13_t, q_49_13_f, q_49_16, q_49_17, q_49_20, q_49_21, q_49_24, q_49_25, q_49_27_t, q_49_27_f, q_49_30, q_49_31, q_49_34, q_49_35, q_49_38, q_49_39, q_49_41_t, q_49_41_f, q_49_44, q_49_45, q_49_48, q_49_50_t, q_49_50_f, q_49_53, q_49_54, q_49_55, q_49_58, q_49_60, q_49_61, q_49_62, q_49_65, q_49_66, q_49_69, q_49_70, q_49_71, q_49_73, q_49_74, q_49_77, q_49_78, q_49_79, q_49_82, q_49_83, q_49_84, q_49_87, q_49_91, q_49_94, q_49_95, q_49_98, q_49_99, q_49_101_t, q_49_101_f, q_49_104, q_49_105, q_49_108, q_49_109, q_49_112, q_49_113, q_49_114_t, q_49_114_f, q_49_117, q_49_118, q_49_121, q_49_122, q_49_123, q_49_124, q_49_125_t, q_49_125_f, q_49_128, q_49_129, q_49_132, q_49_134_t, q_49_134_f, q_49_137, q_49_138, q_49_141, q_49_142, q_49_145, aft_i, aft_l, aft_v, Int.toNat_natCast, kd_sI, kd_sL, kd_sR, kd_cp, gI_sL, gI_sR, gL_sI, gL_sR, gR_sI, gR_sL, gL_cp, gR_cp, kd_aI, gL_aI, gR_aI, gI_aI, gI_aIn, sI_aI, gI_sIn, Int.reduceToNat, Int.reduceAdd, Int.reduceSub, Int.reduceMul, Int.reduceNeg, Int.zero_add, hp, t1, r1_0, e, h5, gI_sIo]
          rw [em]
          exact e6
      · refine ⟨h, cst_rf h, by rw [dgF, if_neg z]; exact hp, by rw [dgF, if_neg z]; exact h5, rfl, ?_⟩
        obtain ⟨k1, j1⟩ := lay_k L0 (a := 1) (t := 5) (n := 8) rfl; obtain ⟨k2, j2⟩ := lay_k L0 (a := 2) (t := 100) (n := 180) rfl; have r1_0 : gR h 1 0 = some 2 := lay_r L0 rfl
        by_cases y : X[p] < 48
        · simp (disch := (first | omega | (simp only [kd_sI, kd_sL, kd_sR, kd_cp, kd_aI]; omega) | (unfold catV; exact rfl) | (unfold catS; exact Nat.le_of_ble_eq_true rfl) | assumption)) only [q_49_0, q_49_1, q_49_2, q_49_5, q_49_6, q_49_9, q_49_10, q_49_13_t, q_49_13_f, q_49_16, q_49_17, q_49_20, q_49_21, q_49_24, q_49_25, q_49_27_t, q_49_27_f, q_49_30, q_49_31, q_49_34, q_49_35, q_49_38, q_49_39, q_49_41_t, q_49_41_f, q_49_44, q_49_45, q_49_48, q_49_50_t, q_49_50_f, q_49_53, q_49_54, q_49_55, q_49_58, q_49_60, q_49_61, q_49_62, q_49_65, q_49_66, q_49_69, q_49_70, q_49_71, q_49_73, q_49_74, q_49_77, q_49_78, q_49_79, q_49_82, q_49_83, q_49_84, q_49_87, q_49_91, q_49_94, q_49_95, q_49_98, q_49_99, q_49_101_t, q_49_101_f, q_49_104, q_49_105, q_49_108, q_49_109, q_49_112, q_49_113, q_49_114_t, q_49_114_f, q_49_117, q_49_118, q_49_121, q_49_122, q_49_123, q_49_124, q_49_125_t, q_49_125_f, q_49_128, q_49_129, q_49_132, q_49_134_t, q_49_134_f, q_49_137, q_49_138, q_49_141, q_49_142, q_49_145, aft_i, aft_l, aft_v, Int.toNat_natCast, kd_sI, kd_sL, kd_sR, kd_cp, gI_sL, gI_sR, gL_sI, gL_sR, gR_sI, gR_sL, gL_cp, gR_cp, kd_aI, gL_aI, gR_aI, gI_aI, gI_aIn, sI_aI, gI_sIn, Int.reduceToNat, Int.reduceAdd, Int.reduceSub, Int.reduceMul, Int.reduceNeg, Int.zero_add, hp, t1, r1_0, e]
        · have y2 : 57 < X[p] := by rw [ec] at z; omega
          simp (disch := (first | omega | (simp only [kd_sI, kd_sL, kd_sR, kd_cp, kd_aI]; omega) | (unfold catV; exact rfl) | (unfold catS; exact Nat.le_of_ble_eq_true rfl) | assumption)) only [q_49_0, q_49_1, q_49_2, q_49_5, q_49_6, q_49_9, q_49_10, q_49_13_t, q_49_13_f, q_49_16, q_49_17, q_49_20, q_49_21, q_49_24, q_49_25, q_49_27_t, q_49_27_f, q_49_30, q_49_31, q_49_34, q_49_35, q_49_38, q_49_39, q_49_41_t, q_49_41_f, q_49_44, q_49_45, q_49_48, q_49_50_t, q_49_50_f, q_49_53, q_49_54, q_49_55, q_49_58, q_49_60, q_49_61, q_49_62, q_49_65, q_49_66, q_49_69, q_49_70, q_49_71, q_49_73, q_49_74, q_49_77, q_49_78, q_49_79, q_49_82, q_49_83, q_49_84, q_49_87, q_49_91, q_49_94, q_49_95, q_49_98, q_49_99, q_49_101_t, q_49_101_f, q_49_104, q_49_105, q_49_108, q_49_109, q_49_112, q_49_113, q_49_114_t, q_49_114_f, q_49_117, q_49_118, q_49_121, q_49_122, q_49_123, q_49_124, q_49_125_t, q_49_125_f, q_49_128, q_49_129, q_49_132, q_49_134_t, q_49_134_f, q_49_137, q_49_138, q_49_141, q_49_142, q_49_145, aft_i, aft_l, aft_v, Int.toNat_natCast, kd_sI, kd_sL, kd_sR, kd_cp, gI_sL, gI_sR, gL_sI, gL_sR, gR_sI, gR_sL, gL_cp, gR_cp, kd_aI, gL_aI, gR_aI, gI_aI, gI_aIn, sI_aI, gI_sIn, Int.reduceToNat, Int.reduceAdd, Int.reduceSub, Int.reduceMul, Int.reduceNeg, Int.zero_add, hp, t1, r1_0, e]
    · have z : ¬ (48 ≤ ch X p ∧ ch X p ≤ 57) := by rw [ch_out (by omega)]; omega
      refine ⟨h, cst_rf h, by rw [dgF, if_neg z]; exact hp, by rw [dgF, if_neg z]; exact h5, rfl, ?_⟩
      obtain ⟨k1, j1⟩ := lay_k L0 (a := 1) (t := 5) (n := 8) rfl
      simp (disch := (first | omega | (simp only [kd_sI, kd_sL, kd_sR, kd_cp, kd_aI]; omega) | (unfold catV; exact rfl) | (unfold catS; exact Nat.le_of_ble_eq_true rfl) | assumption)) only [q_49_0, q_49_1, q_49_2, q_49_5, q_49_6, q_49_9, q_49_10, q_49_13_t, q_49_13_f, q_49_16, q_49_17, q_49_20, q_49_21, q_49_24, q_49_25, q_49_27_t, q_49_27_f, q_49_30, q_49_31, q_49_34, q_49_35, q_49_38, q_49_39, q_49_41_t, q_49_41_f, q_49_44, q_49_45, q_49_48, q_49_50_t, q_49_50_f, q_49_53, q_49_54, q_49_55, q_49_58, q_49_60, q_49_61, q_49_62, q_49_65, q_49_66, q_49_69, q_49_70, q_49_71, q_49_73, q_49_74, q_49_77, q_49_78, q_49_79, q_49_82, q_49_83, q_49_84, q_49_87, q_49_91, q_49_94, q_49_95, q_49_98, q_49_99, q_49_101_t, q_49_101_f, q_49_104, q_49_105, q_49_108, q_49_109, q_49_112, q_49_113, q_49_114_t, q_49_114_f, q_49_117, q_49_118, q_49_121, q_49_122, q_49_123, q_49_124, q_49_125_t, q_49_125_f, q_49_128, q_49_129, q_49_132, q_49_134_t, q_49_134_f, q_49_137, q_49_138, q_49_141, q_49_142, q_49_145, aft_i, aft_l, aft_v, Int.toNat_natCast, kd_sI, kd_sL, kd_sR, kd_cp, gI_sL, gI_sR, gL_sI, gL_sR, gR_sI, gR_sL, gL_cp, gR_cp, kd_aI, gL_aI, gR_aI, gI_aI, gI_aIn, sI_aI, gI_sIn, Int.reduceToNat, Int.reduceAdd, Int.reduceSub, Int.reduceMul, Int.reduceNeg, Int.zero_add, hp, t1]
/-- the token last read -/
def ctk (h : mH) (t : Tk) : Prop := gI h 1 2 = kn t ∧ gI h 1 3 = ks t ∧ gI h 1 4 = (if kk t ≤ 4 then kk t else 0 : Nat) ∧ (kk t = 1 → gI h 1 5 = kv t) ∧ (97 ≤ kk t → gI h 1 5 = kk t)
theorem wTok_ok (d : Nat) (h : mH) (L : LAY h) (X : List Int) (t : ctx h X) (p : Nat) (hp : gI h 1 2 = p) (hl : p ≤ X.length) : ∃ g, callA (d + 3) 48 [Sum.inr (Sum.inr (some 1))] h = some (none, g) ∧ cst h g ∧ ctk g (tk X p) := by
  have L0 := L
  obtain ⟨g1, s1, e2, e1⟩ := wSk_loop (d + 1) X X.length p h L t (by omega) hl hp
  have L1 := cst_L s1 L
  have t1 := cst_tx s1 t
  have sb := skF_ge X X.length p
  have sl := skF_le (X := X) X.length p hl
  have t3 := t.2.2.1
  unfold tk
  generalize skF X X.length p = s at e2 sb sl ⊢
  have s2 : cst g1 (sI g1 1 3 s) := cst_s (by omega)
  have L2 := cst_L s2 L1
  have t2 := cst_tx s2 t1
  have x1 := t2.1
  have x2 : gI (sI g1 1 3 s) 1 2 = s := by rw [gI_sIo (by omega)]; exact e2
  obtain ⟨m1, m2⟩ := lay_k L1 (a := 1) (t := 5) (n := 8) rfl
  obtain ⟨m3, m4⟩ := lay_k L1 (a := 2) (t := 100) (n := 180) rfl
  have r1 : gR g1 1 0 = some 2 := lay_r L1 rfl
  have cb := ch_b t.2.2.2 s
  rw [en_48, e1]
  by_cases z : ch X s < 0
  · rw [if_pos z]
    refine ⟨sI (sI g1 1 3 s) 1 4 3, ?_, cst_tr s1 (cst_tr s2 (cst_s (by omega))), ?_, ?_, ?_, fun q => ?_, fun q => ?_⟩
    · have ge : (X.length : Int) ≤ s := by omega
      simp (disch := (first | omega | (simp only [kd_sI, kd_sL, kd_sR, kd_cp, kd_aI]; omega) | (unfold catV; exact rfl) | (unfold catS; exact Nat.le_of_ble_eq_true rfl) | assumption)) only [q_48_1, q_48_4, q_48_5, q_48_8_t, q_48_8_f, q_48_11, q_48_12, q_48_15, q_48_16, q_48_19, q_48_20, q_48_22_t, q_48_22_f, q_48_25, q_48_26, q_48_27, q_48_30, q_48_31, q_48_32, q_48_35, q_48_38, q_48_39, q_48_40, q_48_43, q_48_46, q_48_47, q_48_50, q_48_51, q_48_54_t, q_48_54_f, q_48_57, q_48_58, q_48_59, q_48_62, q_48_63, q_48_64, q_48_65, q_48_68, q_48_69, q_48_72, q_48_73, q_48_76, q_48_77, q_48_80, q_48_82_t, q_48_82_f, q_48_85, q_48_86, q_48_89, q_48_91_t, q_48_91_f, q_48_94, q_48_95, q_48_98, q_48_99, q_48_100, q_48_101, q_48_104, q_48_105, q_48_106, q_48_109, q_48_110, q_48_113, q_48_115_t, q_48_115_f, q_48_118, q_48_119, q_48_122, q_48_124_t, q_48_124_f, q_48_127, q_48_128, q_48_129, q_48_132, q_48_135, q_48_136, q_48_137, q_48_140, q_48_142_t, q_48_142_f, q_48_145, q_48_146, q_48_149, q_48_150, q_48_153, aft_i, aft_l, aft_v, Int.toNat_natCast, kd_sI, kd_sL, kd_sR, kd_cp, gI_sL, gI_sR, gL_sI, gL_sR, gR_sI, gR_sL, gL_cp, gR_cp, kd_aI, gL_aI, gR_aI, gI_aI, gI_aIn, sI_aI, gI_sIn, Int.reduceToNat, Int.reduceAdd, Int.reduceSub, Int.reduceMul, Int.reduceNeg, Int.zero_add, e2, x1, x2]
    · rw [gI_sIo (by omega)]; exact x2
    · rw [gI_sIo (by omega), gI_sIs]; rfl
    · rw [gI_sIs]; rfl
    · exact absurd (show (3 : Nat) = 1 from q) (by omega)
    · exact absurd (show 97 ≤ 3 from q) (by omega)
  · rw [if_neg z]
    have hlt : s < X.length := by omega
    have ec := ch_in hlt
    have eb := t1.2.1 s hlt
    rw [← ec] at eb
    have lt2 : (s : Int) < X.length := by omega
    generalize ch X s = c at z cb eb ⊢
    by_cases y : 48 ≤ c ∧ c ≤ 57
    · rw [if_pos y]
      have s3 : cst g1 (sI (sI (sI g1 1 3 s) 1 5 c) 1 5 0) := cst_tr s2 (cst_tr (cst_s (by omega)) (cst_s (by omega)))
      have L3 := cst_L s3 L1
      obtain ⟨g4, s4, f2, f5, f3, e4⟩ := wDg_loop d X X.length s 0 _ L3 (cst_tx s3 t1) (by omega) sl (by omega) (by rw [gI_sIo (by omega), gI_sIo (by omega)]; exact x2) (by rw [gI_sIs]; rfl)
      rw [gI_sIo (by omega), gI_sIo (by omega), gI_sIs] at f3
      have L4 := cst_L s4 L3
      have db := dgF_b (X := X) X.length s 0 (by omega)
      have dl := dgF_le (X := X) X.length s 0 sl
      have dg := dgF_ge X X.length s 0
      have eb4 : gI g4 2 s = c := by
        rw [s4.2.1 2 s (by omega), gI_sIn (by omega), gI_sIn (by omega), gI_sIn (by omega)]; exact eb
      generalize dgF X X.length s 0 = e at f2 f5 db dl dg e4 ⊢
      obtain ⟨v1, v2⟩ := lay_k L4 (a := 1) (t := 5) (n := 8) rfl
      obtain ⟨v3, v4⟩ := lay_k L4 (a := 2) (t := 100) (n := 180) rfl
      have r4 : gR g4 1 0 = some 2 := lay_r L4 rfl
      have e5 : callA (d + 2) 49 [Sum.inr (Sum.inr (some 1))] (sI (sI g1 1 3 s) 1 5 c) = some (none, sI g4 1 4 ((if 99 < e.2 ∨ (c = 48 ∧ 1 < e.1 - s) then 4 else 1 : Nat) : Int)) := by
        rw [en_49]
        simp (disch := (first | omega | (simp only [kd_sI, kd_sL, kd_sR, kd_cp, kd_aI]; omega) | (unfold catV; exact rfl) | (unfold catS; exact Nat.le_of_ble_eq_true rfl) | assumption)) only [q_49_0, q_49_1, q_49_2, q_49_6, q_49_9, q_49_10, q_49_13_t, q_49_13_f, q_49_16, q_49_17, q_49_20, q_49_21, q_49_24, q_49_25, q_49_27_t, q_49_27_f, q_49_30, q_49_31, q_49_34, q_49_35, q_49_38, q_49_39, q_49_41_t, q_49_41_f, q_49_44, q_49_45, q_49_48, q_49_50_t, q_49_50_f, q_49_53, q_49_54, q_49_55, q_49_58, q_49_60, q_49_61, q_49_62, q_49_65, q_49_66, q_49_69, q_49_70, q_49_71, q_49_73, q_49_74, q_49_77, q_49_78, q_49_79, q_49_82, q_49_83, q_49_84, q_49_87, q_49_91, q_49_94, q_49_95, q_49_98, q_49_99, q_49_101_t, q_49_101_f, q_49_104, q_49_105, q_49_108, q_49_109, q_49_112, q_49_113, q_49_114_t, q_49_114_f, q_49_117, q_49_118, q_49_121, q_49_122, q_49_123, q_49_124, q_49_125_t, q_49_125_f, q_49_128, q_49_129, q_49_132, q_49_134_t, q_49_134_f, q_49_137, q_49_138, q_49_141, q_49_142, q_49_145, aft_i, aft_l, aft_v, Int.toNat_natCast, kd_sI, kd_sL, kd_sR, kd_cp, gI_sL, gI_sR, gL_sI, gL_sR, gR_sI, gR_sL, gL_cp, gR_cp, kd_aI, gL_aI, gR_aI, gI_aI, gI_aIn, sI_aI, gI_sIn, Int.reduceToNat, Int.reduceAdd, Int.reduceSub, Int.reduceMul, Int.reduceNeg, Int.zero_add]
        rw [e4]
        by_cases u : c = 48
        · by_cases v : 1 < e.1 - s
          · rw [if_pos (Or.inr ⟨u, v⟩)]
            have v9 : ¬ ((e.1 : Int) - s ≤ 1) := by omega
            simp (disch := (first | omega | (simp only [kd_sI, kd_sL, kd_sR, kd_cp, kd_aI]; omega) | (unfold catV; exact rfl) | (unfold catS; exact Nat.le_of_ble_eq_true rfl) | assumption)) only [q_49_0, q_49_1, q_49_2, q_49_6, q_49_9, q_49_10, q_49_13_t, q_49_13_f, q_49_16, q_49_17, q_49_20, q_49_21, q_49_24, q_49_25, q_49_27_t, q_49_27_f, q_49_30, q_49_31, q_49_34, q_49_35, q_49_38, q_49_39, q_49_41_t, q_49_41_f, q_49_44, q_49_45, q_49_48, q_49_50_t, q_49_50_f, q_49_53, q_49_54, q_49_55, q_49_58, q_49_60, q_49_61, q_49_62, q_49_65, q_49_66, q_49_69, q_49_70, q_49_71, q_49_73, q_49_74, q_49_77, q_49_78, q_49_79, q_49_82, q_49_83, q_49_84, q_49_87, q_49_90, q_49_91, q_49_94, q_49_95, q_49_98, q_49_99, q_49_101_t, q_49_101_f, q_49_104, q_49_105, q_49_108, q_49_109, q_49_112, q_49_113, q_49_114_t, q_49_114_f, q_49_117, q_49_118, q_49_121, q_49_122, q_49_123, q_49_124, q_49_125_t, q_49_125_f, q_49_128, q_49_129, q_49_132, q_49_134_t, q_49_134_f, q_49_137, q_49_138, q_49_141, q_49_142, q_49_145, aft_i, aft_l, aft_v, Int.toNat_natCast, kd_sI, kd_sL, kd_sR, kd_cp, gI_sL, gI_sR, gL_sI, gL_sR, gR_sI, gR_sL, gL_cp, gR_cp, kd_aI, gL_aI, gR_aI, gI_aI, gI_aIn, sI_aI, gI_sIn, Int.reduceToNat, Int.reduceAdd, Int.reduceSub, Int.reduceMul, Int.reduceNeg, Int.zero_add, r4, f3, eb4, u, f2]
            rfl
          · have v9 : (e.1 : Int) - s ≤ 1 := by omega
            by_cases x : 99 < e.2
            · rw [if_pos (Or.inl x)]
              have x9 : ¬ ((e.2 : Nat) : Int) ≤ 99 := by omega
              simp (disch := (first | omega | (simp only [kd_sI, kd_sL, kd_sR, kd_cp, kd_aI]; omega) | (unfold catV; exact rfl) | (unfold catS; exact Nat.le_of_ble_eq_true rfl) | assumption)) only [q_49_0, q_49_1, q_49_2, q_49_6, q_49_9, q_49_10, q_49_13_t, q_49_13_f, q_49_16, q_49_17, q_49_20, q_49_21, q_49_24, q_49_25, q_49_27_t, q_49_27_f, q_49_30, q_49_31, q_49_34, q_49_35, q_49_38, q_49_39, q_49_41_t, q_49_41_f, q_49_44, q_49_45, q_49_48, q_49_50_t, q_49_50_f, q_49_53, q_49_54, q_49_55, q_49_58, q_49_60, q_49_61, q_49_62, q_49_65, q_49_66, q_49_69, q_49_70, q_49_71, q_49_73, q_49_74, q_49_77, q_49_78, q_49_79, q_49_82, q_49_83, q_49_84, q_49_87, q_49_90, q_49_91, q_49_94, q_49_95, q_49_98, q_49_99, q_49_101_t, q_49_101_f, q_49_104, q_49_105, q_49_108, q_49_109, q_49_112, q_49_113, q_49_114_t, q_49_114_f, q_49_117, q_49_118, q_49_121, q_49_122, q_49_123, q_49_124, q_49_125_t, q_49_125_f, q_49_128, q_49_129, q_49_132, q_49_134_t, q_49_134_f, q_49_137, q_49_138, q_49_141, q_49_142, q_49_145, aft_i, aft_l, aft_v, Int.toNat_natCast, kd_sI, kd_sL, kd_sR, kd_cp, gI_sL, gI_sR, gL_sI, gL_sR, gR_sI, gR_sL, gL_cp, gR_cp, kd_aI, gL_aI, gR_aI, gI_aI, gI_aIn, sI_aI, gI_sIn, Int.reduceToNat, Int.reduceAdd, Int.reduceSub, Int.reduceMul, Int.reduceNeg, Int.zero_add, r4, f3, eb4, u, f2, f5]
              rfl
            · rw [if_neg (by omega)]
              have x9 : ((e.2 : Nat) : Int) ≤ 99 := by omega
              simp (disch := (first | omega | (simp only [kd_sI, kd_sL, kd_sR, kd_cp, kd_aI]; omega) | (unfold catV; exact rfl) | (unfold catS; exact Nat.le_of_ble_eq_true rfl) | assumption)) only [q_49_0, q_49_1, q_49_2, q_49_6, q_49_9, q_49_10, q_49_13_t, q_49_13_f, q_49_16, q_49_17, q_49_20, q_49_21, q_49_24, q_49_25, q_49_27_t, q_49_27_f, q_49_30, q_49_31, q_49_34, q_49_35, q_49_38, q_49_39, q_49_41_t, q_49_41_f, q_49_44, q_49_45, q_49_48, q_49_50_t, q_49_50_f, q_49_53, q_49_54, q_49_55, q_49_58, q_49_60, q_49_61, q_49_62, q_49_65, q_49_66, q_49_69, q_49_70, q_49_71, q_49_73, q_49_74, q_49_77, q_49_78, q_49_79, q_49_82, q_49_83, q_49_84, q_49_87, q_49_90, q_49_91, q_49_94, q_49_95, q_49_98, q_49_99, q_49_101_t, q_49_101_f, q_49_104, q_49_105, q_49_108, q_49_109, q_49_112, q_49_113, q_49_114_t, q_49_114_f, q_49_117, q_49_118, q_49_121, q_49_122, q_49_123, q_49_124, q_49_125_t, q_49_125_f, q_49_128, q_49_129, q_49_132, q_49_134_t, q_49_134_f, q_49_137, q_49_138, q_49_141, q_49_142, q_49_145, aft_i, aft_l, aft_v, Int.toNat_natCast, kd_sI, kd_sL, kd_sR, kd_cp, gI_sL, gI_sR, gL_sI, gL_sR, gR_sI, gR_sL, gL_cp, gR_cp, kd_aI, gL_aI, gR_aI, gI_aI, gI_aIn, sI_aI, gI_sIn, Int.reduceToNat, Int.reduceAdd, Int.reduceSub, Int.reduceMul, Int.reduceNeg, Int.zero_add, r4, f3, eb4, u, f2, f5]
              rfl
        · by_cases x : 99 < e.2
          · rw [if_pos (Or.inl x)]
            have x9 : ¬ ((e.2 : Nat) : Int) ≤ 99 := by omega
            simp (disch := (first | omega | (simp only [kd_sI, kd_sL, kd_sR, kd_cp, kd_aI]; omega) | (unfold catV; exact rfl) | (unfold catS; exact Nat.le_of_ble_eq_true rfl) | assumption)) only [q_49_0, q_49_1, q_49_2, q_49_6, q_49_9, q_49_10, q_49_13_t, q_49_13_f, q_49_16, q_49_17, q_49_20, q_49_21, q_49_24, q_49_25, q_49_27_t, q_49_27_f, q_49_30, q_49_31, q_49_34, q_49_35, q_49_38, q_49_39, q_49_41_t, q_49_41_f, q_49_44, q_49_45, q_49_48, q_49_50_t, q_49_50_f, q_49_53, q_49_54, q_49_55, q_49_58, q_49_60, q_49_61, q_49_62, q_49_65, q_49_66, q_49_69, q_49_70, q_49_71, q_49_73, q_49_74, q_49_77, q_49_78, q_49_79, q_49_82, q_49_83, q_49_84, q_49_87, q_49_90, q_49_91, q_49_94, q_49_95, q_49_98, q_49_99, q_49_101_t, q_49_101_f, q_49_104, q_49_105, q_49_108, q_49_109, q_49_112, q_49_113, q_49_114_t, q_49_114_f, q_49_117, q_49_118, q_49_121, q_49_122, q_49_123, q_49_124, q_49_125_t, q_49_125_f, q_49_128, q_49_129, q_49_132, q_49_134_t, q_49_134_f, q_49_137, q_49_138, q_49_141, q_49_142, q_49_145, aft_i, aft_l, aft_v, Int.toNat_natCast, kd_sI, kd_sL, kd_sR, kd_cp, gI_sL, gI_sR, gL_sI, gL_sR, gR_sI, gR_sL, gL_cp, gR_cp, kd_aI, gL_aI, gR_aI, gI_aI, gI_aIn, sI_aI, gI_sIn, Int.reduceToNat, Int.reduceAdd, Int.reduceSub, Int.reduceMul, Int.reduceNeg, Int.zero_add, r4, f3, eb4, f2, f5]
            rfl
          · rw [if_neg (by omega)]
            have x9 : ((e.2 : Nat) : Int) ≤ 99 := by omega
            simp (disch := (first | omega | (simp only [kd_sI, kd_sL, kd_sR, kd_cp, kd_aI]; omega) | (unfold catV; exact rfl) | (unfold catS; exact Nat.le_of_ble_eq_true rfl) | assumption)) only [q_49_0, q_49_1, q_49_2, q_49_6, q_49_9, q_49_10, q_49_13_t, q_49_13_f, q_49_16, q_49_17, q_49_20, q_49_21, q_49_24, q_49_25, q_49_27_t, q_49_27_f, q_49_30, q_49_31, q_49_34, q_49_35, q_49_38, q_49_39, q_49_41_t, q_49_41_f, q_49_44, q_49_45, q_49_48, q_49_50_t, q_49_50_f, q_49_53, q_49_54, q_49_55, q_49_58, q_49_60, q_49_61, q_49_62, q_49_65, q_49_66, q_49_69, q_49_70, q_49_71, q_49_73, q_49_74, q_49_77, q_49_78, q_49_79, q_49_82, q_49_83, q_49_84, q_49_87, q_49_90, q_49_91, q_49_94, q_49_95, q_49_98, q_49_99, q_49_101_t, q_49_101_f, q_49_104, q_49_105, q_49_108, q_49_109, q_49_112, q_49_113, q_49_114_t, q_49_114_f, q_49_117, q_49_118, q_49_121, q_49_122, q_49_123, q_49_124, q_49_125_t, q_49_125_f, q_49_128, q_49_129, q_49_132, q_49_134_t, q_49_134_f, q_49_137, q_49_138, q_49_141, q_49_142, q_49_145, aft_i, aft_l, aft_v, Int.toNat_natCast, kd_sI, kd_sL, kd_sR, kd_cp, gI_sL, gI_sR, gL_sI, gL_sR, gR_sI, gR_sL, gL_cp, gR_cp, kd_aI, gL_aI, gR_aI, gI_aI, gI_aIn, sI_aI, gI_sIn, Int.reduceToNat, Int.reduceAdd, Int.reduceSub, Int.reduceMul, Int.reduceNeg, Int.zero_add, r4, f3, eb4, f2, f5]
            rfl
      refine ⟨_, ?_, cst_tr s1 (cst_tr s3 (cst_tr s4 (cst_s (k := 4) (x := ((if 99 < e.2 ∨ (c = 48 ∧ 1 < e.1 - s) then 4 else 1 : Nat) : Int)) (by omega)))), ?_, ?_, ?_, fun q => ?_, fun q => ?_⟩
      · simp (disch := (first | omega | (simp only [kd_sI, kd_sL, kd_sR, kd_cp, kd_aI]; omega) | (unfold catV; exact rfl) | (unfold catS; exact Nat.le_of_ble_eq_true rfl) | assumption)) only [q_48_1, q_48_4, q_48_5, q_48_8_t, q_48_8_f, q_48_11, q_48_12, q_48_15, q_48_16, q_48_19, q_48_20, q_48_22_t, q_48_22_f, q_48_25, q_48_26, q_48_27, q_48_30, q_48_31, q_48_32, q_48_35, q_48_38, q_48_39, q_48_40, q_48_43, q_48_46, q_48_47, q_48_50, q_48_51, q_48_54_t, q_48_54_f, q_48_57, q_48_58, q_48_59, q_48_62, q_48_63, q_48_64, q_48_65, q_48_68, q_48_69, q_48_72, q_48_73, q_48_76, q_48_77, q_48_80, q_48_82_t, q_48_82_f, q_48_85, q_48_86, q_48_89, q_48_91_t, q_48_91_f, q_48_94, q_48_95, q_48_98, q_48_99, q_48_100, q_48_101, q_48_104, q_48_105, q_48_106, q_48_109, q_48_110, q_48_113, q_48_115_t, q_48_115_f, q_48_118, q_48_119, q_48_122, q_48_124_t, q_48_124_f, q_48_127, q_48_128, q_48_129, q_48_132, q_48_135, q_48_136, q_48_137, q_48_140, q_48_142_t, q_48_142_f, q_48_145, q_48_146, q_48_149, q_48_150, q_48_153, aft_i, aft_l, aft_v, Int.toNat_natCast, kd_sI, kd_sL, kd_sR, kd_cp, gI_sL, gI_sR, gL_sI, gL_sR, gR_sI, gR_sL, gL_cp, gR_cp, kd_aI, gL_aI, gR_aI, gI_aI, gI_aIn, sI_aI, gI_sIn, Int.reduceToNat, Int.reduceAdd, Int.reduceSub, Int.reduceMul, Int.reduceNeg, Int.zero_add, e2, x1, x2, r1, eb, gI_sIs, gI_sIo, e5]
      · rw [gI_sIo (by omega)]; exact f2
      · rw [gI_sIo (by omega)]; exact f3
      · rw [gI_sIs]
        show ((if _ then 4 else 1 : Nat) : Int) = ((if (if 99 < e.2 ∨ (c = 48 ∧ 1 < e.1 - s) then 4 else 1) ≤ 4 then (if 99 < e.2 ∨ (c = 48 ∧ 1 < e.1 - s) then 4 else 1) else 0 : Nat) : Int)
        rw [if_pos (show (if 99 < e.2 ∨ (c = 48 ∧ 1 < e.1 - s) then 4 else 1) ≤ 4 by split <;> omega)]
      · have q : (if 99 < e.2 ∨ (c = 48 ∧ 1 < e.1 - s) then 4 else 1) = 1 := q
        rw [gI_sIo (by omega)]
        exact f5
      · have q : 97 ≤ (if 99 < e.2 ∨ (c = 48 ∧ 1 < e.1 - s) then 4 else 1) := q
        exfalso
        split at q <;> omega
    · rw [if_neg y]
      have e7 : resA (callA (d + 2)) 48 (76, [Sum.inr (Sum.inr (some 1))], [], sI (sI g1 1 3 s) 1 5 c) = resA (callA (d + 2)) 48 (99, [Sum.inr (Sum.inr (some 1))], [], sI (sI g1 1 3 s) 1 5 c) := by
        by_cases y1 : c < 48
        · simp (disch := (first | omega | (simp only [kd_sI, kd_sL, kd_sR, kd_cp, kd_aI]; omega) | (unfold catV; exact rfl) | (unfold catS; exact Nat.le_of_ble_eq_true rfl) | assumption)) only [q_48_1, q_48_4, q_48_5, q_48_8_t, q_48_8_f, q_48_11, q_48_12, q_48_15, q_48_16, q_48_19, q_48_20, q_48_22_t, q_48_22_f, q_48_25, q_48_26, q_48_27, q_48_30, q_48_31, q_48_32, q_48_35, q_48_38, q_48_39, q_48_40, q_48_43, q_48_46, q_48_47, q_48_50, q_48_51, q_48_54_t, q_48_54_f, q_48_57, q_48_58, q_48_59, q_48_62, q_48_63, q_48_64, q_48_65, q_48_68, q_48_69, q_48_72, q_48_73, q_48_76, q_48_77, q_48_80, q_48_82_t, q_48_82_f, q_48_85, q_48_86, q_48_89, q_48_91_t, q_48_91_f, q_48_94, q_48_95, q_48_98, q_48_100, q_48_101, q_48_104, q_48_105, q_48_106, q_48_109, q_48_110, q_48_113, q_48_115_t, q_48_115_f, q_48_118, q_48_119, q_48_122, q_48_124_t, q_48_124_f, q_48_127, q_48_128, q_48_129, q_48_132, q_48_135, q_48_136, q_48_137, q_48_140, q_48_142_t, q_48_142_f, q_48_145, q_48_146, q_48_149, q_48_150, q_48_153, aft_i, aft_l, aft_v, Int.toNat_natCast, kd_sI, kd_sL, kd_sR, kd_cp, gI_sL, gI_sR, gL_sI, gL_sR, gR_sI, gR_sL, gL_cp, gR_cp, kd_aI, gL_aI, gR_aI, gI_aI, gI_aIn, sI_aI, gI_sIn, Int.reduceToNat, Int.reduceAdd, Int.reduceSub, Int.reduceMul, Int.reduceNeg, Int.zero_add, gI_sIs]
        · have y2 : 57 < c := by omega
          simp (disch := (first | omega | (simp only [kd_sI, kd_sL, kd_sR, kd_cp, kd_aI]; omega) | (unfold catV; exact rfl) | (unfold catS; exact Nat.le_of_ble_eq_true rfl) | assumption)) only [q_48_1, q_48_4, q_48_5, q_48_8_t, q_48_8_f, q_48_11, q_48_12, q_48_15, q_48_16, q_48_19, q_48_20, q_48_22_t, q_48_22_f, q_48_25, q_48_26, q_48_27, q_48_30, q_48_31, q_48_32, q_48_35, q_48_38, q_48_39, q_48_40, q_48_43, q_48_46, q_48_47, q_48_50, q_48_51, q_48_54_t, q_48_54_f, q_48_57, q_48_58, q_48_59, q_48_62, q_48_63, q_48_64, q_48_65, q_48_68, q_48_69, q_48_72, q_48_73, q_48_76, q_48_77, q_48_80, q_48_82_t, q_48_82_f, q_48_85, q_48_86, q_48_89, q_48_91_t, q_48_91_f, q_48_94, q_48_95, q_48_98, q_48_100, q_48_101, q_48_104, q_48_105, q_48_106, q_48_109, q_48_110, q_48_113, q_48_115_t, q_48_115_f, q_48_118, q_48_119, q_48_122, q_48_124_t, q_48_124_f, q_48_127, q_48_128, q_48_129, q_48_132, q_48_135, q_48_136, q_48_137, q_48_140, q_48_142_t, q_48_142_f, q_48_145, q_48_146, q_48_149, q_48_150, q_48_153, aft_i, aft_l, aft_v, Int.toNat_natCast, kd_sI, kd_sL, kd_sR, kd_cp, gI_sL, gI_sR, gL_sI, gL_sR, gR_sI, gR_sL, gL_cp, gR_cp, kd_aI, gL_aI, gR_aI, gI_aI, gI_aIn, sI_aI, gI_sIn, Int.reduceToNat, Int.reduceAdd, Int.reduceSub, Int.reduceMul, Int.reduceNeg, Int.zero_add, gI_sIs]
      have s3 : cst g1 (sI (sI (sI g1 1 3 s) 1 5 c) 1 2 ((s : Int) + 1)) := cst_tr s2 (cst_tr (cst_s (by omega)) (cst_s (by omega)))
      by_cases v : 97 ≤ c ∧ c ≤ 122
      · refine ⟨sI (sI (sI (sI g1 1 3 s) 1 5 c) 1 2 ((s : Int) + 1)) 1 4 0, ?_, cst_tr s1 (cst_tr s3 (cst_s (by omega))), ?_, ?_, ?_, fun q => ?_, fun q => ?_⟩
        · simp (disch := (first | omega | (simp only [kd_sI, kd_sL, kd_sR, kd_cp, kd_aI]; omega) | (unfold catV; exact rfl) | (unfold catS; exact Nat.le_of_ble_eq_true rfl) | assumption)) only [q_48_1, q_48_4, q_48_5, q_48_8_t, q_48_8_f, q_48_11, q_48_12, q_48_15, q_48_16, q_48_19, q_48_20, q_48_22_t, q_48_22_f, q_48_25, q_48_26, q_48_27, q_48_30, q_48_31, q_48_32, q_48_35, q_48_38, q_48_39, q_48_40, q_48_43, q_48_46, q_48_47, q_48_50, q_48_51, q_48_54_t, q_48_54_f, q_48_57, q_48_58, q_48_59, q_48_62, q_48_63, q_48_64, q_48_65, q_48_68, q_48_69, q_48_72, q_48_73, q_48_77, q_48_80, q_48_82_t, q_48_82_f, q_48_85, q_48_86, q_48_89, q_48_91_t, q_48_91_f, q_48_94, q_48_95, q_48_98, q_48_99, q_48_100, q_48_101, q_48_104, q_48_105, q_48_106, q_48_109, q_48_110, q_48_113, q_48_115_t, q_48_115_f, q_48_118, q_48_119, q_48_122, q_48_124_t, q_48_124_f, q_48_127, q_48_128, q_48_129, q_48_132, q_48_135, q_48_136, q_48_137, q_48_140, q_48_142_t, q_48_142_f, q_48_145, q_48_146, q_48_149, q_48_150, q_48_153, aft_i, aft_l, aft_v, Int.toNat_natCast, kd_sI, kd_sL, kd_sR, kd_cp, gI_sL, gI_sR, gL_sI, gL_sR, gR_sI, gR_sL, gL_cp, gR_cp, kd_aI, gL_aI, gR_aI, gI_aI, gI_aIn, sI_aI, gI_sIn, Int.reduceToNat, Int.reduceAdd, Int.reduceSub, Int.reduceMul, Int.reduceNeg, Int.zero_add, e2, x1, x2, r1, eb, gI_sIs, gI_sIo, e7]
        · rw [gI_sIo (by omega), gI_sIs]; rfl
        · rw [gI_sIo (by omega), gI_sIo (by omega), gI_sIo (by omega), gI_sIs]; rfl
        · rw [gI_sIs]
          show (0 : Int) = ((if (if c = 59 then 2 else if 97 ≤ c ∧ c ≤ 122 then c.toNat else 4) ≤ 4 then (if c = 59 then 2 else if 97 ≤ c ∧ c ≤ 122 then c.toNat else 4) else 0 : Nat) : Int)
          rw [if_neg (show ¬ c = 59 by omega), if_pos v, if_neg (by omega)]
          rfl
        · have q : (if c = 59 then 2 else if 97 ≤ c ∧ c ≤ 122 then c.toNat else 4) = 1 := q
          rw [if_neg (show ¬ c = 59 by omega), if_pos v] at q
          omega
        · show _ = ((if c = 59 then 2 else if 97 ≤ c ∧ c ≤ 122 then c.toNat else 4 : Nat) : Int)
          rw [if_neg (show ¬ c = 59 by omega), if_pos v, gI_sIo (by omega), gI_sIo (by omega), gI_sIs]
          omega
      · refine ⟨sI (sI (sI (sI g1 1 3 s) 1 5 c) 1 2 ((s : Int) + 1)) 1 4 ((if c = 59 then 2 else 4 : Nat) : Int), ?_, cst_tr s1 (cst_tr s3 (cst_s (by omega))), ?_, ?_, ?_, fun q => ?_, fun q => ?_⟩
        · by_cases u : c = 59
          · rw [if_pos u]
            rw [u] at eb e7 ⊢
            simp (disch := (first | omega | (simp only [kd_sI, kd_sL, kd_sR, kd_cp, kd_aI]; omega) | (unfold catV; exact rfl) | (unfold catS; exact Nat.le_of_ble_eq_true rfl) | assumption)) only [q_48_1, q_48_4, q_48_5, q_48_8_t, q_48_8_f, q_48_11, q_48_12, q_48_15, q_48_16, q_48_19, q_48_20, q_48_22_t, q_48_22_f, q_48_25, q_48_26, q_48_27, q_48_30, q_48_31, q_48_32, q_48_35, q_48_38, q_48_39, q_48_40, q_48_43, q_48_46, q_48_47, q_48_50, q_48_51, q_48_54_t, q_48_54_f, q_48_57, q_48_58, q_48_59, q_48_62, q_48_63, q_48_64, q_48_65, q_48_68, q_48_69, q_48_72, q_48_73, q_48_77, q_48_80, q_48_82_t, q_48_82_f, q_48_85, q_48_86, q_48_89, q_48_91_t, q_48_91_f, q_48_94, q_48_95, q_48_98, q_48_99, q_48_100, q_48_101, q_48_104, q_48_105, q_48_106, q_48_109, q_48_110, q_48_113, q_48_115_t, q_48_115_f, q_48_118, q_48_119, q_48_122, q_48_124_t, q_48_124_f, q_48_127, q_48_128, q_48_129, q_48_132, q_48_135, q_48_136, q_48_137, q_48_140, q_48_142_t, q_48_142_f, q_48_145, q_48_146, q_48_149, q_48_150, q_48_153, aft_i, aft_l, aft_v, Int.toNat_natCast, kd_sI, kd_sL, kd_sR, kd_cp, gI_sL, gI_sR, gL_sI, gL_sR, gR_sI, gR_sL, gL_cp, gR_cp, kd_aI, gL_aI, gR_aI, gI_aI, gI_aIn, sI_aI, gI_sIn, Int.reduceToNat, Int.reduceAdd, Int.reduceSub, Int.reduceMul, Int.reduceNeg, Int.zero_add, e2, x1, x2, r1, eb, gI_sIs, gI_sIo, e7]
            rfl
          · rw [if_neg u]
            by_cases w1 : 97 ≤ c
            · simp (disch := (first | omega | (simp only [kd_sI, kd_sL, kd_sR, kd_cp, kd_aI]; omega) | (unfold catV; exact rfl) | (unfold catS; exact Nat.le_of_ble_eq_true rfl) | assumption)) only [q_48_1, q_48_4, q_48_5, q_48_8_t, q_48_8_f, q_48_11, q_48_12, q_48_15, q_48_16, q_48_19, q_48_20, q_48_22_t, q_48_22_f, q_48_25, q_48_26, q_48_27, q_48_30, q_48_31, q_48_32, q_48_35, q_48_38, q_48_39, q_48_40, q_48_43, q_48_46, q_48_47, q_48_50, q_48_51, q_48_54_t, q_48_54_f, q_48_57, q_48_58, q_48_59, q_48_62, q_48_63, q_48_64, q_48_65, q_48_68, q_48_69, q_48_72, q_48_73, q_48_77, q_48_80, q_48_82_t, q_48_82_f, q_48_85, q_48_86, q_48_89, q_48_91_t, q_48_91_f, q_48_94, q_48_95, q_48_98, q_48_99, q_48_100, q_48_101, q_48_104, q_48_105, q_48_106, q_48_109, q_48_110, q_48_113, q_48_115_t, q_48_115_f, q_48_118, q_48_119, q_48_122, q_48_124_t, q_48_124_f, q_48_127, q_48_128, q_48_129, q_48_132, q_48_135, q_48_136, q_48_137, q_48_140, q_48_142_t, q_48_142_f, q_48_145, q_48_146, q_48_149, q_48_150, q_48_153, aft_i, aft_l, aft_v, Int.toNat_natCast, kd_sI, kd_sL, kd_sR, kd_cp, gI_sL, gI_sR, gL_sI, gL_sR, gR_sI, gR_sL, gL_cp, gR_cp, kd_aI, gL_aI, gR_aI, gI_aI, gI_aIn, sI_aI, gI_sIn, Int.reduceToNat, Int.reduceAdd, Int.reduceSub, Int.reduceMul, Int.reduceNeg, Int.zero_add, e2, x1, x2, r1, eb, gI_sIs, gI_sIo, e7]
              rfl
            · simp (disch := (first | omega | (simp only [kd_sI, kd_sL, kd_sR, kd_cp, kd_aI]; omega) | (unfold catV; exact rfl) | (unfold catS; exact Nat.le_of_ble_eq_true rfl) | assumption)) only [q_48_1, q_48_4, q_48_5, q_48_8_t, q_48_8_f, q_48_11, q_48_12, q_48_15, q_48_16, q_48_19, q_48_20, q_48_22_t, q_48_22_f, q_48_25, q_48_26, q_48_27, q_48_30, q_48_31, q_48_32, q_48_35, q_48_38, q_48_39, q_48_40, q_48_43, q_48_46, q_48_47, q_48_50, q_48_51, q_48_54_t, q_48_54_f, q_48_57, q_48_58, q_48_59, q_48_62, q_48_63, q_48_64, q_48_65, q_48_68, q_48_69, q_48_72, q_48_73, q_48_77, q_48_80, q_48_82_t, q_48_82_f, q_48_85, q_48_86, q_48_89, q_48_91_t, q_48_91_f, q_48_94, q_48_95, q_48_98, q_48_99, q_48_100, q_48_101, q_48_104, q_48_105, q_48_106, q_48_109, q_48_110, q_48_113, q_48_115_t, q_48_115_f, q_48_118, q_48_119, q_48_122, q_48_124_t, q_48_124_f, q_48_127, q_48_128, q_48_129, q_48_132, q_48_135, q_48_136, q_48_137, q_48_140, q_48_142_t, q_48_142_f, q_48_145, q_48_146, q_48_149, q_48_150, q_48_153, aft_i, aft_l, aft_v, Int.toNat_natCast, kd_sI, kd_sL, kd_sR, kd_cp, gI_sL, gI_sR, gL_sI, gL_sR, gR_sI, gR_sL, gL_cp, gR_cp, kd_aI, gL_aI, gR_aI, gI_aI, gI_aIn, sI_aI, gI_sIn, Int.reduceToNat, Int.reduceAdd, Int.reduceSub, Int.reduceMul, Int.reduceNeg, Int.zero_add, e2, x1, x2, r1, eb, gI_sIs, gI_sIo, e7]
              rfl
        · rw [gI_sIo (by omega), gI_sIs]; rfl
        · rw [gI_sIo (by omega), gI_sIo (by omega), gI_sIo (by omega), gI_sIs]; rfl
        · rw [gI_sIs]
          show _ = ((if (if c = 59 then 2 else if 97 ≤ c ∧ c ≤ 122 then c.toNat else 4) ≤ 4 then (if c = 59 then 2 else if 97 ≤ c ∧ c ≤ 122 then c.toNat else 4) else 0 : Nat) : Int)
          rw [if_neg v]
          by_cases u : c = 59
          · rw [if_pos u, if_pos (by omega)]
          · rw [if_neg u, if_pos (by omega)]
        · have q : (if c = 59 then 2 else if 97 ≤ c ∧ c ≤ 122 then c.toNat else 4) = 1 := q
          rw [if_neg v] at q
          split at q <;> omega
        · have q : 97 ≤ (if c = 59 then 2 else if 97 ≤ c ∧ c ≤ 122 then c.toNat else 4) := q
          rw [if_neg v] at q
          split at q <;> omega
