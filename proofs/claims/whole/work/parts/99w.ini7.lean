theorem nw_R {h : mH} {t n q k : Nat} (l : q < h.1.length) : gR (nw h t n) q k = gR h q k := by
  show (if q = h.1.length then none else gR h q k) = _
  rw [if_neg (by omega)]
theorem ngh_R {h : mH} {a q k : Nat} (l : q < h.1.length) (ne : q ≠ a) : gR (nghI h a) q k = gR h q k := by
  unfold nghI
  rw [gR_sR, if_neg (fun u => ne u.1), nw_R (by rw [ln_sR, ln_nw]; omega), gR_sR, if_neg (fun u => ne u.1), nw_R l]
theorem pst_R {h : mH} {v i q k : Nat} (l : q < h.1.length) (ne : q ≠ v) : gR (pstI h v i) q k = gR h q k := by
  unfold pstI
  rw [gR_sR, if_neg (fun u => ne u.1), ngh_R (by rw [ln_nw]; omega) (by omega), nw_R l]
theorem psts_R (v : Nat) : ∀ (f i : Nat) {h : mH} {q k : Nat}, q < h.1.length → q ≠ v → gR (pstsI h v f i) q k = gR h q k
  | 0, _, _, _, _, _, _ => rfl
  | f + 1, i, h, q, k, l, ne => by
    have l2 : q < (pstI h v i).1.length := by rw [pst_1, List.length_append]; omega
    show gR (pstsI (pstI h v i) v f (i + 1)) q k = _
    rw [psts_R v f (i + 1) l2 ne, pst_R l ne]
theorem scn_R {h : mH} {a q k : Nat} (l : q < h.1.length) (ne : q ≠ a) : gR (scnI h a) q k = gR h q k := by
  have s1 : q < (sR (nghI (nw h 2 5) h.1.length) a 0 (some h.1.length)).1.length := by
    show q < (nghI (nw h 2 5) h.1.length).1.length
    rw [ngh_1, List.length_append, ln_nw]
    omega
  unfold scnI
  rw [psts_R _ 10 0 (by rw [scn0_1, List.length_append]; omega) (by omega)]
  unfold scn0
  rw [gR_sR, if_neg (fun u => ne u.1), nw_R s1, gR_sR, if_neg (fun u => ne u.1), ngh_R (by rw [ln_nw]; omega) (by omega), nw_R l]
theorem n60_i (d : Nat) (h : mH) (v i : Nat) (hi : i < 2) (l : 0 < h.1.length) (lv : v < h.1.length) (v0 : v ≠ 0) (k1 : (kd h 0).1 = 7) (k2 : (kd h 0).2 = 17) (k3 : (kd h v).1 = 104) (k4 : (kd h v).2 = 2) (r : gR h 0 4 = some v) : resA (callA (d + 3)) 60 (58, [Sum.inr (Sum.inr (some 0)), Sum.inl (i : Int)], [], h) = resA (callA (d + 3)) 60 (58, [Sum.inr (Sum.inr (some 0)), Sum.inl ((i + 1 : Nat) : Int)], [], sR (scnI (nw h 4 4) h.1.length) v i (some h.1.length)) := by
  have hc : (i : Int) < 2 := by omega
  have e5 : kd (nw h 4 4) h.1.length = (4, 4) := kd_nws h 4 4
  have f1 : (kd (nw h 4 4) h.1.length).1 = 4 := by rw [e5]
  have f2 : (kd (nw h 4 4) h.1.length).2 = 4 := by rw [e5]
  have n1 := wScn_i (d + 1) (nw h 4 4) h.1.length (by rw [ln_nw]; omega) f1 f2
  have g0 : kd (scnI (nw h 4 4) h.1.length) v = kd h v := by rw [scn_k (by rw [ln_nw]; omega), kd_nwo lv]
  have g1 : (kd (scnI (nw h 4 4) h.1.length) v).1 = 104 := by rw [g0]; exact k3
  have g2 : (kd (scnI (nw h 4 4) h.1.length) v).2 = 2 := by rw [g0]; exact k4
  have g3 : (kd (scnI (nw h 4 4) h.1.length) h.1.length).1 = 4 := by rw [scn_k (by rw [ln_nw]; omega)]; exact f1
  have hi1 : (i : Int) + 1 = ((i + 1 : Nat) : Int) := by omega
  rw [q_60_58]
  simp (disch := (first | omega | (simp only [kd_sI, kd_sL, kd_sR, kd_cp, kd_aI]; omega) | (unfold catV; exact rfl) | (unfold catS; exact Nat.le_of_ble_eq_true rfl) | assumption)) only [q_60_0, q_60_1, q_60_4, q_60_5, q_60_8, q_60_9, q_60_12, q_60_15, q_60_16, q_60_19, q_60_20, q_60_23, q_60_26, q_60_27, q_60_30, q_60_31, q_60_34, q_60_37, q_60_38, q_60_41, q_60_42, q_60_45, q_60_48, q_60_49, q_60_50, q_60_53, q_60_56, q_60_57, q_60_59, q_60_60_t, q_60_60_f, q_60_63, q_60_64, q_60_67, q_60_68, q_60_71, q_60_72, q_60_75, q_60_76, q_60_79, q_60_83, q_60_86, q_60_87, q_60_90, q_60_93, q_60_94, q_60_96, q_60_98, q_60_101, q_60_102, q_60_105, q_60_106, q_60_107, q_60_110, q_60_111, q_60_114, q_60_117, q_60_118, q_60_121, q_60_124, q_60_127, q_60_128, q_60_131, q_60_132, q_60_135, q_60_138, q_60_139, q_60_141, q_60_143, q_60_146, q_60_147, q_60_149, q_60_151, q_60_154, q_60_155, q_60_157, q_60_159, q_60_162, q_60_163, q_60_165, q_60_167, q_60_170, q_60_171, q_60_174, aft_i, aft_l, aft_v, Int.toNat_natCast, kd_sI, kd_sL, kd_sR, kd_cp, gI_sL, gI_sR, gL_sI, gL_sR, gR_sI, gR_sL, gL_cp, gR_cp, kd_aI, gL_aI, gR_aI, gI_aI, gI_aIn, sI_aI, gI_sIn, Int.reduceToNat, Int.reduceAdd, Int.reduceSub, Int.reduceMul, Int.reduceNeg, Int.zero_add, r, n1, hi1]
