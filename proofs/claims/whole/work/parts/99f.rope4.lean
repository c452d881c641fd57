theorem rpF_sw {h g : mH} {p b : Nat} (f : rpF h g) : rpF h (sR (sR g 133 1 (some b)) 133 2 (some p)) := ⟨f.1, fun q k n => f.2.1 q k n, f.2.2.1, fun q k n => by
  rw [gR_sR, gR_sR, if_neg (fun y => n ⟨y.1, Or.inr y.2⟩), if_neg (fun y => n ⟨y.1, Or.inl y.2⟩)]
  exact f.2.2.2 q k n⟩
theorem rpF_nt {h g : mH} {T : Td} {N : Nt} (f : rpF h g) (n : ntA h 14 T N) : ntA g 14 T N := by
  obtain ⟨n1, n2, n3, n4, n5⟩ := n
  refine ⟨?_, ?_, ?_, fun i hi => ?_, fun c hc => ?_⟩
  · rw [f.2.1 14 2 (by omega)]; exact n1
  · rw [f.2.1 14 3 (by omega)]; exact n2
  · rw [f.2.2.1]; exact n3
  · rw [f.2.1 (14 + 1) i (by omega)]; exact n4 i hi
  · rw [f.2.1 (14 + 2) c (by omega)]; exact n5 c hc
theorem wFe_b (d : Nat) (T : Td) (N : Nt) (wT : wfT T) (wN : wfN T N) (V K : Nat) (v40 : V < 2 ^ 40) (hK : K ≤ 40) : ∀ (m r : Nat) (h : mH) (L : LAY h) (p b : Nat) (x6 x7 x8 : mV), catV x6 = 1 → catV x7 = 1 → (p = 135 ∨ p = 136) → (b = 135 ∨ b = 136) → p ≠ b → r + m = nM N → gR h 133 1 = some p → gR h 133 2 = some b → ntA h 14 T N → (∀ j, j ≤ K → gI h b j = ndK V K (wdR N) r (K - j)) → ∃ g, resA (callA (d + 2)) 10 (32, [Sum.inr (Sum.inr (some 133)), Sum.inr (Sum.inr (some 14)), Sum.inr (Sum.inl (V : Int)), Sum.inr (Sum.inr none), Sum.inl (K : Int), Sum.inl ((m : Int) - 1), x6, x7, x8], [], h) = some (some (Sum.inl (ndK V K (wdR N) (nM N) K : Int)), g) ∧ rpF h g ∧ brR g
  | 0, r, h, L, p, b, x6, x7, x8, c6, c7, hp, hb, ne, hr, rp, rb, nt, hB => by
    have e : r = nM N := hr
    subst e
    have L0 := L
    obtain ⟨b1, b2⟩ := rpK L hb
    have e0 := hB 0 (Nat.zero_le _)
    rw [Nat.sub_zero] at e0
    refine ⟨h, ?_, rpF_rf h, ?_⟩
    · obtain ⟨k133, j133⟩ := lay_k L0 (a := 133) (t := 1) (n := 3) rfl
      rw [show ((0 : Nat) : Int) - 1 = -1 from rfl]
      simp (disch := (first | omega | (simp only [kd_sI, kd_sL, kd_sR, kd_cp, kd_aI]; omega) | (unfold catV; exact rfl) | (unfold catS; exact Nat.le_of_ble_eq_true rfl) | assumption)) only [q_10_0, q_10_1, q_10_3, q_10_5, q_10_7_t, q_10_7_f, q_10_10, q_10_11, q_10_14, q_10_16, q_10_17, q_10_18, q_10_21, q_10_24, q_10_25, q_10_28, q_10_29, q_10_30, q_10_32, q_10_34_t, q_10_34_f, q_10_37, q_10_38, q_10_41, q_10_42, q_10_45, q_10_47, q_10_48, q_10_49, q_10_51, q_10_53, q_10_55, q_10_57_t, q_10_57_f, q_10_60, q_10_61, q_10_63, q_10_65, q_10_67, q_10_68, q_10_70_t, q_10_70_f, q_10_73, q_10_74, q_10_76, q_10_78, q_10_81, q_10_82, q_10_85, q_10_87, q_10_89, q_10_90, q_10_91, q_10_92, q_10_93, q_10_96, q_10_98, q_10_99, q_10_100, q_10_101, q_10_104, q_10_106, q_10_107, q_10_110, q_10_112, q_10_114, q_10_115, q_10_118, q_10_119, q_10_122, q_10_125, q_10_126, q_10_129, q_10_131, q_10_132, q_10_133, q_10_136, q_10_139, q_10_140, q_10_142, q_10_145, q_10_148, q_10_151, q_10_152, q_10_155, q_10_156, q_10_157, aft_i, aft_l, aft_v, Int.toNat_natCast, kd_sI, kd_sL, kd_sR, kd_cp, gI_sL, gI_sR, gL_sI, gL_sR, gR_sI, gR_sL, gL_cp, gR_cp, kd_aI, gL_aI, gR_aI, gI_aI, gI_aIn, sI_aI, gI_sIn, Int.reduceToNat, Int.reduceAdd, Int.reduceSub, Int.reduceMul, Int.reduceNeg, Int.zero_add, rb, e0]
    · rcases hp with e1 | e1 <;> rcases hb with e2 | e2 <;> subst e1 <;> subst e2
      · exact absurd rfl ne
      · exact Or.inl ⟨rp, rb⟩
      · exact Or.inr ⟨rp, rb⟩
      · exact absurd rfl ne
  | m + 1, r, h, L, p, b, x6, x7, x8, c6, c7, hp, hb, ne, hr, rp, rb, nt, hB => by
    have L0 := L
    obtain ⟨p1, p2⟩ := rpK L hp
    have e0 : ((m + 1 : Nat) : Int) - 1 = (m : Int) := by omega
    have n7 := wN.1
    have t7 := wT.1
    have m7 : m < 7 := by omega
    have c7b : nR N m < 7 := by have := wN.2.1 m (by omega); omega
    have rw_ : gI h 15 m = nR N m := nt.2.2.2.1 m (by omega)
    have cr := wN.2.1 m (by omega)
    have ax : gI h 16 (nR N m) = nX N (nR N m) := nt.2.2.2.2 (nR N m) cr
    have wi := wdR_is wN (i := r) (by omega)
    rw [show nM N - 1 - r = m by omega] at wi
    have wb := wN.2.2.2.1 (nR N m) cr
    obtain ⟨g, y8, e1, f, fr, v⟩ := wFe_c d V K (nX N (nR N m)) p b r (wdR N) v40 hK hp hb ne (by omega) (by omega) wi (m : Int) (K + 1) h L x8 (Nat.le_refl _) rp rb hB (fun j a c => absurd a (by omega))
    rw [show ((K + 1 : Nat) : Int) - 1 = (K : Int) by omega] at e1
    have Lg := rpF_L f L
    have f2 : rpF h (sR (sR g 133 1 (some b)) 133 2 (some p)) := rpF_sw f
    have L2 := rpF_L f2 L
    obtain ⟨z, e2, f3, bb⟩ := wFe_b d T N wT wN V K v40 hK m (r + 1) (sR (sR g 133 1 (some b)) 133 2 (some p)) L2 b p (Sum.inl (nX N (nR N m) : Int)) (Sum.inr (Sum.inr (some p))) y8 rfl rfl hb hp (Ne.symm ne) (by omega) rfl rfl (rpF_nt f2 nt) v
    refine ⟨z, ?_, rpF_tr f2 f3, bb⟩
    rw [e0, q_10_32]
    have rpg : gR g 133 1 = some p := by rw [fr]; exact rp
    have rbg : gR g 133 2 = some b := by rw [fr]; exact rb
    have k1 : (kd g 133).1 = 1 := lay_k Lg (a := 133) (t := 1) (n := 3) rfl |>.1
    have k2 : (kd g 133).2 = 3 := lay_k Lg (a := 133) (t := 1) (n := 3) rfl |>.2
    have s1 : (kd (sR g 133 1 (some b)) 133).1 = 1 := k1
    have s2 : (kd (sR g 133 1 (some b)) 133).2 = 3 := k2
    have s3 : gR (sR g 133 1 (some b)) 133 2 = some b := by rw [gR_sR, if_neg (by omega)]; exact rbg
    have hm : ((m : Nat) : Int) + -1 = (m : Int) - 1 := by omega
    obtain ⟨k133, j133⟩ := lay_k L0 (a := 133) (t := 1) (n := 3) rfl; obtain ⟨k14, j14⟩ := lay_k L0 (a := 14) (t := 2) (n := 5) rfl; obtain ⟨k15, j15⟩ := lay_k L0 (a := 15) (t := 100) (n := 7) rfl; obtain ⟨k16, j16⟩ := lay_k L0 (a := 16) (t := 100) (n := 7) rfl; have r14_0 : gR h 14 0 = some 15 := lay_r L0 rfl; have r14_1 : gR h 14 1 = some 16 := lay_r L0 rfl
    simp (disch := (first | omega | (simp only [kd_sI, kd_sL, kd_sR, kd_cp, kd_aI]; omega) | (unfold catV; exact rfl) | (unfold catS; exact Nat.le_of_ble_eq_true rfl) | assumption)) only [q_10_0, q_10_1, q_10_3, q_10_5, q_10_7_t, q_10_7_f, q_10_10, q_10_11, q_10_14, q_10_16, q_10_17, q_10_18, q_10_21, q_10_24, q_10_25, q_10_28, q_10_29, q_10_30, q_10_34_t, q_10_34_f, q_10_37, q_10_38, q_10_41, q_10_42, q_10_45, q_10_47, q_10_48, q_10_49, q_10_51, q_10_53, q_10_57_t, q_10_57_f, q_10_60, q_10_61, q_10_63, q_10_65, q_10_67, q_10_68, q_10_70_t, q_10_70_f, q_10_73, q_10_74, q_10_76, q_10_78, q_10_81, q_10_82, q_10_85, q_10_87, q_10_89, q_10_90, q_10_91, q_10_92, q_10_93, q_10_96, q_10_98, q_10_99, q_10_100, q_10_101, q_10_104, q_10_106, q_10_107, q_10_110, q_10_112, q_10_114, q_10_115, q_10_118, q_10_119, q_10_122, q_10_126, q_10_129, q_10_131, q_10_132, q_10_133, q_10_136, q_10_139, q_10_140, q_10_142, q_10_145, q_10_148, q_10_151, q_10_152, q_10_155, q_10_156, q_10_157, aft_i, aft_l, aft_v, Int.toNat_natCast, kd_sI, kd_sL, kd_sR, kd_cp, gI_sL, gI_sR, gL_sI, gL_sR, gR_sI, gR_sL, gL_cp, gR_cp, kd_aI, gL_aI, gR_aI, gI_aI, gI_aIn, sI_aI, gI_sIn, Int.reduceToNat, Int.reduceAdd, Int.reduceSub, Int.reduceMul, Int.reduceNeg, Int.zero_add, r14_0, r14_1, rw_, ax]
    rw [e1, q_10_125]
    simp (disch := (first | omega | (simp only [kd_sI, kd_sL, kd_sR, kd_cp, kd_aI]; omega) | (unfold catV; exact rfl) | (unfold catS; exact Nat.le_of_ble_eq_true rfl) | assumption)) only [q_10_0, q_10_1, q_10_3, q_10_5, q_10_7_t, q_10_7_f, q_10_10, q_10_11, q_10_14, q_10_16, q_10_17, q_10_18, q_10_21, q_10_24, q_10_25, q_10_28, q_10_29, q_10_30, q_10_34_t, q_10_34_f, q_10_37, q_10_38, q_10_41, q_10_42, q_10_45, q_10_47, q_10_48, q_10_49, q_10_51, q_10_53, q_10_57_t, q_10_57_f, q_10_60, q_10_61, q_10_63, q_10_65, q_10_67, q_10_68, q_10_70_t, q_10_70_f, q_10_73, q_10_74, q_10_76, q_10_78, q_10_81, q_10_82, q_10_85, q_10_87, q_10_89, q_10_90, q_10_91, q_10_92, q_10_93, q_10_96, q_10_98, q_10_99, q_10_100, q_10_101, q_10_104, q_10_106, q_10_107, q_10_110, q_10_112, q_10_114, q_10_115, q_10_118, q_10_119, q_10_122, q_10_126, q_10_129, q_10_131, q_10_132, q_10_133, q_10_136, q_10_139, q_10_140, q_10_142, q_10_145, q_10_148, q_10_151, q_10_152, q_10_155, q_10_156, q_10_157, aft_i, aft_l, aft_v, Int.toNat_natCast, kd_sI, kd_sL, kd_sR, kd_cp, gI_sL, gI_sR, gL_sI, gL_sR, gR_sI, gR_sL, gL_cp, gR_cp, kd_aI, gL_aI, gR_aI, gI_aI, gI_aIn, sI_aI, gI_sIn, Int.reduceToNat, Int.reduceAdd, Int.reduceSub, Int.reduceMul, Int.reduceNeg, Int.zero_add, rpg, rbg, hm]
    exact e2
