/-- when some of the next are tried -/
def dInv (h g : mH) (T : Td) (N : Nt) (A : List Nat) (left f c : Nat) (o o2 : Option (List Nat)) : Prop := dfF h g ∧ rwO (gI g 131) 0 A ∧ (∀ x, x ∈ A → gI g 132 x = gI h 132 x) ∧ bstK g T N o2 ∧ (o2 = o ∨ ∃ x r, x < c ∧ o2 = some (A ++ x :: r)) ∧ (∀ b, o2 = some b → b.Perm (notLost N (tN T))) ∧ (∀ b, o = some b → ∃ b2, o2 = some b2 ∧ (keyL T N b2 < keyL T N b ∨ b2 = b)) ∧ (∀ x, x < c → left.testBit x = true → (fstF (lnd T N) (tK T) (nX N x) (40 - f) f).isSome = true → ∃ b, o2 = some b ∧ ∀ r : List Nat, (A ++ x :: r).Perm (notLost N (tN T)) → bet (keyL T N) b (A ++ x :: r)) ∧ ((∀ x, x < c → left.testBit x = true → fstF (lnd T N) (tK T) (nX N x) (40 - f) f = none) → o2 = o)
theorem wAll_loop (d : Nat) (T : Td) (N : Nt) (wT : wfT T) (wN : wfN T N) (m : Nat) (IH : dStp d T N m) (A : List Nat) (left f : Nat) (o : Option (List Nat)) (h : mH) (L0 : LAY h) (hm : (bLf left (tN T) 0).length = m + 1) (pre : dPre h T N A left f o) : ∀ (k c : Nat) (o2 : Option (List Nat)) (g : mH) (x7 : mV), c + k = tN T → dInv h g T N A left f c o o2 → ∃ g2 o3 y7, resA (callA (d + 2 * m + 4)) 2 (19, [Sum.inr (Sum.inr (some 129)), Sum.inl (A.length : Int), Sum.inl (left : Int), Sum.inl (f : Int), Sum.inl (nearS T (onR N A)), Sum.inl (sumX N (bLf left (tN T) 0) : Int), Sum.inl (c : Int), x7], [], g) = resA (callA (d + 2 * m + 4)) 2 (106, [Sum.inr (Sum.inr (some 129)), Sum.inl (A.length : Int), Sum.inl (left : Int), Sum.inl (f : Int), Sum.inl (nearS T (onR N A)), Sum.inl (sumX N (bLf left (tN T) 0) : Int), Sum.inl (tN T : Int), y7], [], g2) ∧ dInv h g2 T N A left f (tN T) o o3
  | 0, c, o2, g, x7, hc, iv => by
    have e : c = tN T := hc
    have Lg := dfF_L iv.1 L0
    have t1 : gI g 3 4 = tN T := (dfF_R iv.1 pre.1).1.1
    subst e
    refine ⟨g, o2, x7, ?_, iv⟩
    obtain ⟨k3, j3⟩ := lay_k Lg (a := 3) (t := 6) (n := 8) rfl; obtain ⟨k129, j129⟩ := lay_k Lg (a := 129) (t := 0) (n := 9) rfl; have r129_6 : gR g 129 6 = some 3 := lay_r Lg rfl
    simp (disch := (first | omega | (simp only [kd_sI, kd_sL, kd_sR, kd_cp, kd_aI]; omega) | (unfold catV; exact rfl) | (unfold catS; exact Nat.le_of_ble_eq_true rfl) | assumption)) only [q_2_0, q_2_1, q_2_3, q_2_4, q_2_6, q_2_7, q_2_8, q_2_9, q_2_12_t, q_2_12_f, q_2_15, q_2_16, q_2_17, q_2_19, q_2_21, q_2_22, q_2_25, q_2_28_t, q_2_28_f, q_2_31, q_2_32, q_2_34_t, q_2_34_f, q_2_37, q_2_38, q_2_40, q_2_41, q_2_42, q_2_43, q_2_44_t, q_2_44_f, q_2_47, q_2_48, q_2_51, q_2_52, q_2_55, q_2_58, q_2_60, q_2_61, q_2_62, q_2_65, q_2_68, q_2_70, q_2_72, q_2_74, q_2_76_t, q_2_76_f, q_2_79, q_2_80, q_2_83, q_2_85, q_2_87, q_2_88, q_2_89, q_2_90, q_2_91, q_2_93, q_2_95, q_2_97, q_2_100, q_2_103, q_2_107, q_2_108, q_2_110, q_2_111, q_2_112, q_2_113, q_2_116_t, q_2_116_f, q_2_119, q_2_120, q_2_121, q_2_122, q_2_124, q_2_125, q_2_126, q_2_127, q_2_130, aft_i, aft_l, aft_v, Int.toNat_natCast, kd_sI, kd_sL, kd_sR, kd_cp, gI_sL, gI_sR, gL_sI, gL_sR, gR_sI, gR_sL, gL_cp, gR_cp, kd_aI, gL_aI, gR_aI, gI_aI, gI_aIn, sI_aI, gI_sIn, Int.reduceToNat, Int.reduceAdd, Int.reduceSub, Int.reduceMul, Int.reduceNeg, Int.zero_add, r129_6, t1]
  | k + 1, c, o2, g, x7, hc, iv => by
    have iv0 := iv
    obtain ⟨i1, i2, i3, i4, i5, i6, i7, i8, i9⟩ := iv
    obtain ⟨r, l7, pm, pl, ra, rf, bk, po, pA⟩ := pre
    have c7 := wT.1
    have k4 := wT.2.1
    have Lg := dfF_L i1 L0
    have rg := dfF_R i1 r
    have t1 : gI g 3 4 = tN T := rg.1.1
    have bt := bitI (a := left) (c := c) (by omega) (by omega)
    obtain ⟨nd, lb⟩ := nl_b pm
    have ll := nd_len nd lb
    rw [List.length_append, hm] at ll
    have fk : f ≤ tK T := by
      unfold plc sSl at pl
      exact suS_le pl
    have xc := rg.2.1.2.2.2.2 c (by omega)
    have xc : gI g 16 c = nX N c := xc
    have xb := wN.2.2.2.1 c (by omega)
    have ef := wFf_ok (d + 2 * m + 3) g Lg T N k4 rg.2.2 (nX N c) f xb fk
    by_cases z : left.testBit c = true
    · rw [if_pos z] at bt
      cases hp : fstF (lnd T N) (tK T) (nX N c) (40 - f) f with
      | none =>
        have e9 : rmF T N (nX N c) f = -9 := by unfold rmF; rw [hp]; rfl
        rw [e9] at ef
        obtain ⟨g2, o3, y7, e2, iv2⟩ := wAll_loop d T N wT wN m IH A left f o h L0 hm ⟨r, l7, pm, pl, ra, rf, bk, po, pA⟩ k (c + 1) o2 g (Sum.inl (-9)) (by omega) ⟨i1, i2, i3, i4, i5.imp_right (fun ⟨x, r, a, b⟩ => ⟨x, r, by omega, b⟩), i6, i7, fun x hx hb hs => by
          by_cases y : x = c
          · subst y; rw [hp] at hs; cases hs
          · exact i8 x (by omega) hb hs, fun hh => i9 (fun x hx hb => hh x (by omega) hb)⟩
        refine ⟨g2, o3, y7, ?_, iv2⟩
        rw [← e2]
        obtain ⟨k3, j3⟩ := lay_k Lg (a := 3) (t := 6) (n := 8) rfl; obtain ⟨k14, j14⟩ := lay_k Lg (a := 14) (t := 2) (n := 5) rfl; obtain ⟨k16, j16⟩ := lay_k Lg (a := 16) (t := 100) (n := 7) rfl; obtain ⟨k119, j119⟩ := lay_k Lg (a := 119) (t := 3) (n := 2) rfl; obtain ⟨k129, j129⟩ := lay_k Lg (a := 129) (t := 0) (n := 9) rfl; have r129_6 : gR g 129 6 = some 3 := lay_r Lg rfl; have r129_7 : gR g 129 7 = some 14 := lay_r Lg rfl; have r129_8 : gR g 129 8 = some 119 := lay_r Lg rfl; have r14_1 : gR g 14 1 = some 16 := lay_r Lg rfl
        rw [q_2_19]
        simp (disch := (first | omega | (simp only [kd_sI, kd_sL, kd_sR, kd_cp, kd_aI]; omega) | (unfold catV; exact rfl) | (unfold catS; exact Nat.le_of_ble_eq_true rfl) | assumption)) only [q_2_0, q_2_1, q_2_3, q_2_4, q_2_6, q_2_7, q_2_8, q_2_9, q_2_12_t, q_2_12_f, q_2_15, q_2_16, q_2_17, q_2_21, q_2_22, q_2_25, q_2_28_t, q_2_28_f, q_2_31, q_2_32, q_2_34_t, q_2_34_f, q_2_37, q_2_38, q_2_40, q_2_41, q_2_42, q_2_43, q_2_44_t, q_2_44_f, q_2_47, q_2_48, q_2_51, q_2_52, q_2_55, q_2_58, q_2_60, q_2_61, q_2_62, q_2_65, q_2_68, q_2_70, q_2_72, q_2_74, q_2_76_t, q_2_76_f, q_2_79, q_2_80, q_2_83, q_2_85, q_2_87, q_2_88, q_2_89, q_2_90, q_2_91, q_2_93, q_2_95, q_2_97, q_2_100, q_2_103, q_2_107, q_2_108, q_2_110, q_2_111, q_2_112, q_2_113, q_2_116_t, q_2_116_f, q_2_119, q_2_120, q_2_121, q_2_122, q_2_124, q_2_125, q_2_126, q_2_127, q_2_130, aft_i, aft_l, aft_v, Int.toNat_natCast, kd_sI, kd_sL, kd_sR, kd_cp, gI_sL, gI_sR, gL_sI, gL_sR, gR_sI, gR_sL, gL_cp, gR_cp, kd_aI, gL_aI, gR_aI, gI_aI, gI_aIn, sI_aI, gI_sIn, Int.reduceToNat, Int.reduceAdd, Int.reduceSub, Int.reduceMul, Int.reduceNeg, Int.zero_add, r129_6, r129_7, r129_8, r14_1, t1, bt, xc, ef]
        rfl
      | some p =>
        have e9 : rmF T N (nX N c) f = p := by unfold rmF; rw [hp]; rfl
        rw [e9] at ef
        have s1 : dfF g (sI g 132 c p) := dfF_s (by omega)
        have L1 := dfF_L s1 Lg
        have ncA : ¬ c ∈ A := fun y => by
          have := (List.nodup_append.mp nd).2.2 c y c (bLf_mem.mpr ⟨by omega, z⟩)
          exact this rfl
        have po2 : ∀ b, o2 = some b → b.Perm (notLost N (tN T)) ∧ ∀ r : List Nat, (A ++ c :: r).Perm (notLost N (tN T)) → lexV b ≤ lexV (A ++ c :: r) := fun b eb => by
          refine ⟨i6 b eb, fun r hr => ?_⟩
          rcases i5 with y | ⟨x, r2, hx, y⟩
          · rw [eb] at y
            exact (po b y.symm).2 (c :: r) hr
          · rw [eb] at y
            injection y with y
            subst y
            have pb := i6 _ eb
            have len : (A ++ x :: r2).length = (A ++ c :: r).length := pb.length_eq.trans hr.length_eq.symm
            rw [List.length_append, List.length_append, List.length_cons, List.length_cons] at len
            obtain ⟨-, bb⟩ := nl_b pb
            exact Nat.le_of_lt ((lexV_pre (by simp only [List.length_cons]; omega)).2.mpr (lexV_c hx (by omega) (fun y hy => by have := bb y (List.mem_append_right _ (List.mem_cons_of_mem _ hy)); omega)))
        have bk2 : bstK (sI g 132 c p) T N o2 := by
          unfold bstK at i4 ⊢
          rw [gI_sIn (by omega), gI_sIn (by omega)]
          exact i4
        obtain ⟨g1, e1, p1, p2, p3, b1, p4, p5, p6, p7, p8⟩ := wTry_ok d T N wT wN m IH A left f c p o2 (sI g 132 c p) L1 hm (by omega) z hp ⟨dfF_R s1 rg, l7, pm, pl, by rw [gI_sIn (by omega)]; exact i2, fun x hx => by
          have ne : x ≠ c := fun y => ncA (by rw [← y]; exact hx)
          rw [gI_sIo ne, i3 x hx]; exact rf x hx, bk2⟩ po2 (gI_sIs _ _ _ _)
        have fr := dfF_tr i1 (dfF_tr s1 p1)
        obtain ⟨g2, o3, y7, e2, iv2⟩ := wAll_loop d T N wT wN m IH A left f o h L0 hm ⟨r, l7, pm, pl, ra, rf, bk, po, pA⟩ k (c + 1) (some b1) g1 (Sum.inl (p : Int)) (by omega) ⟨fr, (rwO_app.mp p2).1, fun x hx => by
          have ne : x ≠ c := fun y => ncA (by rw [← y]; exact hx)
          rw [p3 x (List.mem_append_left _ hx), gI_sIo ne, i3 x hx], p4, by
          rcases p6 with y | ⟨r2, y⟩
          · rcases i5 with u | ⟨x, r2, hx, u⟩
            · exact Or.inl (y.symm.trans u)
            · exact Or.inr ⟨x, r2, by omega, y.symm.trans u⟩
          · refine Or.inr ⟨c, r2, by omega, ?_⟩
            rw [y, List.append_assoc]
            rfl, fun b eb => by
          injection eb with eb
          subst eb
          exact p5, fun b eb => by
          obtain ⟨b2, e2, y⟩ := i7 b eb
          refine ⟨b1, rfl, ?_⟩
          rcases p8 b2 e2 with u | u
          · rcases y with v | v
            · exact Or.inl (by omega)
            · subst v; exact Or.inl u
          · subst u; exact y, fun x hx hb hs => by
          by_cases y : x = c
          · subst y
            refine ⟨b1, rfl, fun r hr => ?_⟩
            have ea : A ++ x :: r = (A ++ [x]) ++ r := by simp
            rw [ea] at hr ⊢
            exact p7 r hr
          · obtain ⟨b, eb, y2⟩ := i8 x (by omega) hb hs
            refine ⟨b1, rfl, fun r hr => ?_⟩
            have hb2 := y2 r hr
            rcases p8 b eb with u | u
            · exact Or.inl (by unfold bet at hb2; omega)
            · subst u; exact hb2, fun hh => by
          have := hh c (by omega) z
          rw [hp] at this
          cases this⟩
        refine ⟨g2, o3, y7, ?_, iv2⟩
        rw [← e2]
        obtain ⟨v1, v2⟩ := lay_k L1 (a := 129) (t := 0) (n := 9) rfl
        have e1' : callA (d + 2 * m + 4) 3 [Sum.inr (Sum.inr (some 129)), Sum.inl (A.length : Int), Sum.inl (left : Int), Sum.inl (c : Int), Sum.inl (nearS T (onR N A)), Sum.inl (sumX N (bLf left (tN T) 0) : Int)] (sI g 132 c p) = some (none, g1) := e1
        obtain ⟨k3, j3⟩ := lay_k Lg (a := 3) (t := 6) (n := 8) rfl; obtain ⟨k14, j14⟩ := lay_k Lg (a := 14) (t := 2) (n := 5) rfl; obtain ⟨k16, j16⟩ := lay_k Lg (a := 16) (t := 100) (n := 7) rfl; obtain ⟨k119, j119⟩ := lay_k Lg (a := 119) (t := 3) (n := 2) rfl; obtain ⟨k129, j129⟩ := lay_k Lg (a := 129) (t := 0) (n := 9) rfl; obtain ⟨k132, j132⟩ := lay_k Lg (a := 132) (t := 100) (n := 7) rfl; have r129_5 : gR g 129 5 = some 132 := lay_r Lg rfl; have r129_6 : gR g 129 6 = some 3 := lay_r Lg rfl; have r129_7 : gR g 129 7 = some 14 := lay_r Lg rfl; have r129_8 : gR g 129 8 = some 119 := lay_r Lg rfl; have r14_1 : gR g 14 1 = some 16 := lay_r Lg rfl
        rw [q_2_19]
        simp (disch := (first | omega | (simp only [kd_sI, kd_sL, kd_sR, kd_cp, kd_aI]; omega) | (unfold catV; exact rfl) | (unfold catS; exact Nat.le_of_ble_eq_true rfl) | assumption)) only [q_2_0, q_2_1, q_2_3, q_2_4, q_2_6, q_2_7, q_2_8, q_2_9, q_2_12_t, q_2_12_f, q_2_15, q_2_16, q_2_17, q_2_21, q_2_22, q_2_25, q_2_28_t, q_2_28_f, q_2_31, q_2_32, q_2_34_t, q_2_34_f, q_2_37, q_2_38, q_2_40, q_2_41, q_2_42, q_2_43, q_2_44_t, q_2_44_f, q_2_47, q_2_48, q_2_51, q_2_52, q_2_55, q_2_58, q_2_60, q_2_61, q_2_62, q_2_65, q_2_68, q_2_70, q_2_72, q_2_74, q_2_76_t, q_2_76_f, q_2_79, q_2_80, q_2_83, q_2_85, q_2_87, q_2_88, q_2_89, q_2_90, q_2_91, q_2_93, q_2_95, q_2_97, q_2_100, q_2_103, q_2_107, q_2_108, q_2_110, q_2_111, q_2_112, q_2_113, q_2_116_t, q_2_116_f, q_2_119, q_2_120, q_2_121, q_2_122, q_2_124, q_2_125, q_2_126, q_2_127, q_2_130, aft_i, aft_l, aft_v, Int.toNat_natCast, kd_sI, kd_sL, kd_sR, kd_cp, gI_sL, gI_sR, gL_sI, gL_sR, gR_sI, gR_sL, gL_cp, gR_cp, kd_aI, gL_aI, gR_aI, gI_aI, gI_aIn, sI_aI, gI_sIn, Int.reduceToNat, Int.reduceAdd, Int.reduceSub, Int.reduceMul, Int.reduceNeg, Int.zero_add, r129_5, r129_6, r129_7, r129_8, r14_1, t1, bt, xc, ef, e1']
        rfl
    · rw [if_neg z] at bt
      obtain ⟨g2, o3, y7, e2, iv2⟩ := wAll_loop d T N wT wN m IH A left f o h L0 hm ⟨r, l7, pm, pl, ra, rf, bk, po, pA⟩ k (c + 1) o2 g (Sum.inl (-9)) (by omega) ⟨i1, i2, i3, i4, i5.imp_right (fun ⟨x, r, a, b⟩ => ⟨x, r, by omega, b⟩), i6, i7, fun x hx hb hs => by
        by_cases y : x = c
        · subst y; exact absurd hb z
        · exact i8 x (by omega) hb hs, fun hh => i9 (fun x hx hb => hh x (by omega) hb)⟩
      refine ⟨g2, o3, y7, ?_, iv2⟩
      rw [← e2]
      obtain ⟨k3, j3⟩ := lay_k Lg (a := 3) (t := 6) (n := 8) rfl; obtain ⟨k129, j129⟩ := lay_k Lg (a := 129) (t := 0) (n := 9) rfl; have r129_6 : gR g 129 6 = some 3 := lay_r Lg rfl
      rw [q_2_19]
      simp (disch := (first | omega | (simp only [kd_sI, kd_sL, kd_sR, kd_cp, kd_aI]; omega) | (unfold catV; exact rfl) | (unfold catS; exact Nat.le_of_ble_eq_true rfl) | assumption)) only [q_2_0, q_2_1, q_2_3, q_2_4, q_2_6, q_2_7, q_2_8, q_2_9, q_2_12_t, q_2_12_f, q_2_15, q_2_16, q_2_17, q_2_21, q_2_22, q_2_25, q_2_28_t, q_2_28_f, q_2_31, q_2_32, q_2_34_t, q_2_34_f, q_2_37, q_2_38, q_2_40, q_2_41, q_2_42, q_2_43, q_2_44_t, q_2_44_f, q_2_47, q_2_48, q_2_51, q_2_52, q_2_55, q_2_58, q_2_60, q_2_61, q_2_62, q_2_65, q_2_68, q_2_70, q_2_72, q_2_74, q_2_76_t, q_2_76_f, q_2_79, q_2_80, q_2_83, q_2_85, q_2_87, q_2_88, q_2_89, q_2_90, q_2_91, q_2_93, q_2_95, q_2_97, q_2_100, q_2_103, q_2_107, q_2_108, q_2_110, q_2_111, q_2_112, q_2_113, q_2_116_t, q_2_116_f, q_2_119, q_2_120, q_2_121, q_2_122, q_2_124, q_2_125, q_2_126, q_2_127, q_2_130, aft_i, aft_l, aft_v, Int.toNat_natCast, kd_sI, kd_sL, kd_sR, kd_cp, gI_sL, gI_sR, gL_sI, gL_sR, gR_sI, gR_sL, gL_cp, gR_cp, kd_aI, gL_aI, gR_aI, gI_aI, gI_aIn, sI_aI, gI_sIn, Int.reduceToNat, Int.reduceAdd, Int.reduceSub, Int.reduceMul, Int.reduceNeg, Int.zero_add, r129_6, t1, bt]
      rfl
