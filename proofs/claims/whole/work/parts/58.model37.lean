theorem prF_q {h g : mH} (a : prF h g) {q : Nat} (n : q = 142 ∨ 150 ≤ q) : gI g q = gI h q := funext fun k => a.2.1 q k (by unfold drf; omega)
theorem prF_mT {h g : mH} {T : Td} (w : wfT T) (a : prF h g) (t : mT h T) : mT g T := by
  obtain ⟨t1, t2, t3, t4, t5, t6⟩ := t
  have c7 := w.1
  have k4 := w.2.1
  refine ⟨?_, ?_, ?_, ?_, fun c hc => ⟨?_, ?_⟩, fun k hk => ?_⟩
  · rw [a.2.1 143 0 (by unfold drf; omega)]; exact t1
  · rw [a.2.1 147 0 (by unfold drf; omega)]; exact t2
  · rw [a.2.1 149 0 (by unfold drf; omega)]; exact t3
  · rw [a.2.1 149 1 (by unfold drf; omega)]; exact t4
  · rw [a.2.1 145 c (by unfold drf; omega)]; exact (t5 c hc).1
  · rw [a.2.1 146 c (by unfold drf; omega)]; exact (t5 c hc).2
  · rw [a.2.1 148 k (by unfold drf; omega)]; exact t6 k hk
theorem MI_prF {h g : mH} {σ : Sg} (w : wfS σ) (m : MI h σ) (a : prF h g) : MI g σ := by
  obtain ⟨m1, m2, m3, m4, m5, m6, m7, m8, m9⟩ := m
  refine ⟨prF_mT w.1 a m1, ?_, fun i hi => ?_, fun i N P hi e => ?_, ?_, fun k q => ?_, ?_, fun k q => ?_, ?_⟩
  · rw [prF_q a (by omega)]; exact m2
  · rw [prF_q a (by omega)]; exact m3 i hi
  · rw [prF_q a (by omega)]; exact m4 i N P hi e
  · rw [a.2.1 141 25 (by unfold drf; omega)]; exact m5
  · rw [prF_q a (by omega), prF_q a (by omega)]; exact m6 k q
  · rw [a.2.1 141 2 (by unfold drf; omega)]; exact m7
  · rw [prF_q a (by omega)]; exact m8 k q
  · rw [a.2.2.1]; exact m9
theorem prF_frm {h g : mH} (a : prF h g) : frm 141 158 h g := ⟨a.1, fun q hq => ⟨funext fun k => a.2.1 q k (by unfold drf; omega), by rw [a.2.2.1], by rw [a.2.2.2]⟩⟩
/-- a town as told -/
def twn (R : Int) (D : Dr) : Sg := ([], dT D, (nwN D, []), fun _ => none, [], R)
theorem twn_wf {R : Int} {D : Dr} (w : wfD D) : wfS (twn R D) := by
  refine ⟨w.1, ⟨nwN_wf w, fun Q hQ => ?_⟩, fun i N P _ e => ?_, by show 0 ≤ 6; omega, fun e he => ?_, by show 0 ≤ 180; omega, fun x hx => ?_, by show 0 ≤ 10; omega⟩
  · exact absurd hQ List.not_mem_nil
  · cases e
  · exact absurd he List.not_mem_nil
  · exact absurd hx List.not_mem_nil
theorem MI_twn {g : mH} {R : Int} {D : Dr} (t : tdOK g D) (h2 : gI g 141 2 = 0) (hR : gL g 141 0 = R) : MI g (twn R D) := by
  obtain ⟨t1, t2, t3, t4, t5⟩ := t
  refine ⟨t1, t2, fun i hi => ?_, fun i N P _ e => ?_, t5, fun k q => absurd q (Nat.not_lt_zero _), h2, fun k q => absurd q (Nat.not_lt_zero _), hR⟩
  · have : i = 0 ∨ i = 1 := by omega
    rcases this with e | e
    · rw [e]; exact t3
    · rw [e]; exact t4
  · cases e
def townS (σ : Sg) : Int × Sg := match prs (zX σ) ((zX σ).length + 1) 0 dNew 0 with
  | Sum.inl e => (-10 - e, σ)
  | Sum.inr q => (q.2, twn (zR σ) q.1)
theorem MI_txt {h : mH} {σ : Sg} (w : wfS σ) (m : MI h σ) : txt h (zX σ) := ⟨m.2.2.2.2.2.2.1, m.2.2.2.2.2.2.2.1, w.2.2.2.2.2.1, w.2.2.2.2.2.2.1⟩
theorem mTown_ok (d : Nat) (h : mH) (L : LAY h) (σ : Sg) (w : wfS σ) (m : MI h σ) : mOK (d + 6) 136 [] h (Sum.inl (townS σ).1) (townS σ).2 := by
  have L0 := L
  have t := MI_txt w m
  have q0 : prF h (sI (sI h 141 11 0) 141 15 (-9)) := prF_tr (prF_s (by unfold drf; omega)) (prF_s (by unfold drf; omega))
  have Lq := prF_L q0 L
  obtain ⟨g1, e1, q1, d1, f1⟩ := mPlain_ok (d + 4) _ Lq
  have q01 := prF_tr q0 q1
  have L1 := prF_L q01 L
  have t1 := prF_txt q01 t
  have n11 : gI g1 141 11 = ((0 : Nat) : Int) := by rw [f1 11 (by omega), gI_sIo (by omega), gI_sIs]; rfl
  have n15 : gI g1 141 15 = -9 := by rw [f1 15 (by omega), gI_sIs]
  obtain ⟨g2, e2, s2, ta2⟩ := mStep_ok (d + 3) g1 L1 (zX σ) t1 0 n11 (Nat.zero_le _)
  have q2 := prF_tr q01 (stp_prF s2)
  have L2 := prF_L q2 L
  have n25 : gI g2 141 15 = -9 := by rw [s2.2.1 141 15 (by omega)]; exact n15
  obtain ⟨g3, x3, q3, r3⟩ := mTown_loop d (zX σ) ((zX σ).length + 1) 0 0 dNew g2 L2 (Sum.inr (Sum.inr none)) ⟨prF_txt q2 t, Nat.zero_le _, ta2, n25, stp_dMI s2 d1⟩ new_wf (by omega) (Nat.le_refl _)
  have qq := prF_tr q2 q3
  have L3 := prF_L qq L
  obtain ⟨a1, a2⟩ := lay_k L1 (a := 141) (t := 8) (n := 26) rfl
  have head : callA (d + 6) 136 [Sum.inr (Sum.inr (some 141))] h = resA (callA (d + 5)) 136 (21, [Sum.inr (Sum.inr (some 141)), Sum.inl ((0 : Nat) : Int), Sum.inr (Sum.inr none)], [], g2) := by
    obtain ⟨k141, j141⟩ := lay_k L0 (a := 141) (t := 8) (n := 26) rfl
    rw [en_136, show ((0 : Nat) : Int) = 0 from rfl]
    simp (disch := (first | omega | (simp only [kd_sI, kd_sL, kd_sR, kd_cp, kd_aI]; omega) | (unfold catV; exact rfl) | (unfold catS; exact Nat.le_of_ble_eq_true rfl) | assumption)) only [q_136_0, q_136_1, q_136_2, q_136_5, q_136_6, q_136_8, q_136_11, q_136_12, q_136_15, q_136_16, q_136_17, q_136_18, q_136_22, q_136_25, q_136_27_t, q_136_27_f, q_136_30, q_136_31, q_136_34, q_136_35_t, q_136_35_f, q_136_38, q_136_39, q_136_42, q_136_43, q_136_44, q_136_45, q_136_46, q_136_49, q_136_52, q_136_53, q_136_54, q_136_57, q_136_59_t, q_136_59_f, q_136_62, q_136_63, q_136_64, q_136_67, q_136_68, q_136_69, q_136_72, q_136_73_t, q_136_73_f, q_136_76, q_136_77, q_136_80, q_136_81, q_136_84, q_136_85, q_136_88, q_136_91, q_136_92, q_136_95, q_136_97_t, q_136_97_f, q_136_100, q_136_102, q_136_103, q_136_106, q_136_107, q_136_108, q_136_109, q_136_112, q_136_113, q_136_114, q_136_117, q_136_118, aft_i, aft_l, aft_v, Int.toNat_natCast, kd_sI, kd_sL, kd_sR, kd_cp, gI_sL, gI_sR, gL_sI, gL_sR, gR_sI, gR_sL, gL_cp, gR_cp, kd_aI, gL_aI, gR_aI, gI_aI, gI_aIn, sI_aI, gI_sIn, Int.reduceToNat, Int.reduceAdd, Int.reduceSub, Int.reduceMul, Int.reduceNeg, Int.zero_add, e1, e2]
  unfold townS
  cases hp : prs (zX σ) ((zX σ).length + 1) 0 dNew 0 with
  | inl e =>
    rw [hp] at r3
    exact ⟨g3, head.trans r3, prF_frm qq, L3, MI_prF w m qq⟩
  | inr q =>
    rw [hp] at r3
    obtain ⟨d3, w3, b3, e3⟩ := r3
    obtain ⟨g4, e4, s4, t4, f4⟩ := mTd_ok (d + 4) g3 L3 q.1 d3 w3
    have L4 := sam_L s4 L3
    refine ⟨sI g4 141 2 0, head.trans (e3.trans ?_), ?_, lay_sI L4 _ _ _, MI_twn ?_ (gI_sIs _ _ _ _) ?_⟩
    · obtain ⟨c1, c2⟩ := lay_k L3 (a := 141) (t := 8) (n := 26) rfl
      obtain ⟨c3, c4⟩ := lay_k L4 (a := 141) (t := 8) (n := 26) rfl
      simp (disch := (first | omega | (simp only [kd_sI, kd_sL, kd_sR, kd_cp, kd_aI]; omega) | (unfold catV; exact rfl) | (unfold catS; exact Nat.le_of_ble_eq_true rfl) | assumption)) only [q_136_0, q_136_1, q_136_2, q_136_5, q_136_6, q_136_8, q_136_11, q_136_12, q_136_15, q_136_16, q_136_17, q_136_18, q_136_21, q_136_22, q_136_25, q_136_27_t, q_136_27_f, q_136_30, q_136_31, q_136_34, q_136_35_t, q_136_35_f, q_136_38, q_136_39, q_136_42, q_136_43, q_136_44, q_136_45, q_136_46, q_136_49, q_136_52, q_136_53, q_136_54, q_136_57, q_136_59_t, q_136_59_f, q_136_62, q_136_63, q_136_64, q_136_67, q_136_68, q_136_69, q_136_72, q_136_73_t, q_136_73_f, q_136_76, q_136_77, q_136_80, q_136_81, q_136_84, q_136_85, q_136_88, q_136_91, q_136_92, q_136_95, q_136_97_t, q_136_97_f, q_136_100, q_136_102, q_136_103, q_136_106, q_136_107, q_136_108, q_136_109, q_136_112, q_136_113, q_136_114, q_136_117, q_136_118, aft_i, aft_l, aft_v, Int.toNat_natCast, kd_sI, kd_sL, kd_sR, kd_cp, gI_sL, gI_sR, gL_sI, gL_sR, gR_sI, gR_sL, gL_cp, gR_cp, kd_aI, gL_aI, gR_aI, gI_aI, gI_aIn, sI_aI, gI_sIn, Int.reduceToNat, Int.reduceAdd, Int.reduceSub, Int.reduceMul, Int.reduceNeg, Int.zero_add, e4]
    · refine frm_tr (prF_frm qq) (frm_tr ⟨s4.1, fun a ha => ⟨funext fun k => f4 a k (by omega) (by omega), by rw [s4.2.1], by rw [s4.2.2]⟩⟩ (frm_sI (by omega) (by omega)))
    · obtain ⟨v1, v2, v3, v4, v5⟩ := t4
      refine ⟨?_, ?_, ?_, ?_, ?_⟩
      · obtain ⟨y1, y2, y3, y4, y5, y6⟩ := v1
        unfold mT
        rw [gI_sIn (by omega), gI_sIn (by omega), gI_sIn (by omega), gI_sIn (by omega), gI_sIn (by omega), gI_sIn (by omega)]
        exact ⟨y1, y2, y3, y4, y5, y6⟩
      · rw [gI_sIn (by omega)]; exact v2
      · rw [gI_sIn (by omega)]; exact v3
      · rw [gI_sIn (by omega)]; exact v4
      · rw [gI_sIo (by omega)]; exact v5
    · show gL g4 141 0 = zR σ
      rw [s4.2.1, qq.2.2.1]
      exact m.2.2.2.2.2.2.2.2
