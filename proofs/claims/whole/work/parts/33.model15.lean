abbrev Im : Type := Nat → Option (Nt × List Nt)
/-- text, town, night and past, images, what was seen, trace -/
abbrev Sg : Type := List Int × Td × (Nt × List Nt) × Im × List (Nat × Nat) × Int
def zX (σ : Sg) : List Int := σ.1
def zT (σ : Sg) : Td := σ.2.1
def zN (σ : Sg) : Nt := σ.2.2.1.1
def zP (σ : Sg) : List Nt := σ.2.2.1.2
def zI (σ : Sg) : Im := σ.2.2.2.1
def zS (σ : Sg) : List (Nat × Nat) := σ.2.2.2.2.1
def zR (σ : Sg) : Int := σ.2.2.2.2.2
def wfS (σ : Sg) : Prop := wfT (zT σ) ∧ wfW (zT σ) (zN σ) (zP σ) ∧ (∀ i N P, i < 2 → zI σ i = some (N, P) → wfW (zT σ) N P ∧ P.length ≤ 10) ∧ (zS σ).length ≤ 6 ∧ (∀ e, e ∈ zS σ → e.1 < tN (zT σ) ∧ e.2 < tN (zT σ)) ∧ (zX σ).length ≤ 180 ∧ (∀ x, x ∈ zX σ → 0 ≤ x ∧ x ≤ 255) ∧ (zP σ).length ≤ 10
def MI (h : mH) (σ : Sg) : Prop := mT h (zT σ) ∧ whG (gI h 150) 0 (zT σ) (zN σ) (zP σ) ∧ (∀ i, i < 2 → gI h 151 i = if (zI σ i).isSome = true then 1 else 0) ∧ (∀ i N P, i < 2 → zI σ i = some (N, P) → whG (gI h 150) (617 * (i + 1)) (zT σ) N P) ∧ gI h 141 25 = (zS σ).length ∧ (∀ k (q : k < (zS σ).length), gI h 156 k = (zS σ)[k].1 ∧ gI h 157 k = (zS σ)[k].2) ∧ gI h 141 2 = (zX σ).length ∧ (∀ k (q : k < (zX σ).length), gI h 142 k = i2b (zX σ)[k]) ∧ gL h 141 0 = zR σ
def zev (σ : Sg) (N : Nt) (P : List Nt) : Sg := (zX σ, zT σ, (N, P), zI σ, zS σ, zR σ)
theorem zev_id (σ : Sg) : zev σ (zN σ) (zP σ) = σ := rfl
theorem MI_evA {h g : mH} {σ : Sg} {N : Nt} {P : List Nt} (w : wfS σ) (m : MI h σ) (a : evA h g) (s : whG (gI g 150) 0 (zT σ) N P) : MI g (zev σ N P) := by
  obtain ⟨m1, m2, m3, m4, m5, m6, m7, m8, m9⟩ := m
  refine ⟨evA_mT a m1, s, fun i hi => ?_, fun i N P hi e => ?_, ?_, fun k q => ?_, ?_, fun k q => ?_, ?_⟩
  · rw [evA_q a (by omega) (by omega) (by omega)]; exact m3 i hi
  · refine whG_congr w.1 (w.2.2.1 i N P hi e).1 (fun j hj => ?_) (m4 i N P hi e)
    exact a.2.1 150 _ (Or.inr (by omega)) (by omega) (by omega)
  · exact (a.2.1 141 25 (Or.inl (by omega)) (by omega) (by omega)).trans m5
  · rw [evA_q a (by omega) (by omega) (by omega), evA_q a (by omega) (by omega) (by omega)]; exact m6 k q
  · exact (a.2.1 141 2 (Or.inl (by omega)) (by omega) (by omega)).trans m7
  · rw [evA_q a (by omega) (by omega) (by omega)]; exact m8 k q
  · rw [a.2.2.1]; exact m9
theorem MI_scr {h g : mH} {σ : Sg} (w : wfS σ) (m : MI h σ) (a : scr h g) : MI g σ := by
  have s := m.2.1
  rw [← scr_q a (by omega) (by omega)] at s
  exact MI_evA w m (evA_scr a) s
theorem evA_frm {h g : mH} (a : evA h g) : frm 141 158 h g := ⟨a.1, fun q hq => ⟨funext fun k => a.2.1 q k (Or.inl (by omega)) (by omega) (by omega), by rw [a.2.2.1], by rw [a.2.2.2]⟩⟩
/-- a call of the model: its answer and what it is then -/
def mOK (D id : Nat) (as : List mV) (h : mH) (r : mV) (σ : Sg) : Prop := ∃ g, callA D id (Sum.inr (Sum.inr (some 141)) :: as) h = some (some r, g) ∧ frm 141 158 h g ∧ LAY g ∧ MI g σ
theorem mOK_ev {D id : Nat} {as : List mV} {h : mH} {σ : Sg} {R : Int × Nt × List Nt} (L : LAY h) (w : wfS σ) (m : MI h σ) (e : evOK D id as h (zT σ) R) : mOK D id as h (Sum.inl R.1) (zev σ R.2.1 R.2.2) := by
  obtain ⟨g, e1, e2, e3, e4⟩ := e
  exact ⟨g, e1, evA_frm e2, evA_L e2 L, MI_evA w m e2 e4⟩
theorem mOK_q {D id : Nat} {as : List mV} {h : mH} {σ : Sg} {r : mV} (L : LAY h) (w : wfS σ) (m : MI h σ) (e : ∃ g, callA D id (Sum.inr (Sum.inr (some 141)) :: as) h = some (some r, g) ∧ scr h g) : mOK D id as h r σ := by
  obtain ⟨g, e1, e2⟩ := e
  exact ⟨g, e1, evA_frm (evA_scr e2), scr_L e2 L, MI_scr w m e2⟩
theorem mOK_s {D id : Nat} {as : List mV} {h : mH} {σ : Sg} {r : mV} (L : LAY h) (m : MI h σ) (e : callA D id (Sum.inr (Sum.inr (some 141)) :: as) h = some (some r, h)) : mOK D id as h r σ := ⟨h, e, frm_rf _ _ _, L, m⟩
def cntS (σ : Sg) (w : Int) : Int := if w = 0 then tN (zT σ) else if w = 1 then tK (zT σ) else if w = 2 then tA (zT σ) else if w = 3 then tM (zT σ) else if w = 4 then (zS σ).length else if w = 5 then (zP σ).length else if w = 6 then (zX σ).length else -1
theorem mCnt_ok (d : Nat) (h : mH) (L : LAY h) (σ : Sg) (m : MI h σ) (w : Int) : mOK (d + 1) 191 [Sum.inl w] h (Sum.inl (cntS σ w)) σ := by
  refine mOK_s L m ?_
  obtain ⟨⟨t1, t2, t3, t4, -⟩, ⟨-, p2, -⟩, -, -, m5, -, m7, -⟩ := m
  obtain ⟨k141, j141⟩ := lay_k L (a := 141) (t := 8) (n := 26) rfl; obtain ⟨k143, j143⟩ := lay_k L (a := 143) (t := 100) (n := 2) rfl; obtain ⟨k147, j147⟩ := lay_k L (a := 147) (t := 100) (n := 2) rfl; obtain ⟨k149, j149⟩ := lay_k L (a := 149) (t := 100) (n := 4) rfl; obtain ⟨k150, j150⟩ := lay_k L (a := 150) (t := 100) (n := 1851) rfl; have r141_3 : gR h 141 3 = some 143 := lay_r L rfl; have r141_7 : gR h 141 7 = some 147 := lay_r L rfl; have r141_9 : gR h 141 9 = some 149 := lay_r L rfl; have r141_16 : gR h 141 16 = some 150 := lay_r L rfl
  unfold cntS
  rw [en_191]
  by_cases w0 : w = 0
  · subst w0; simp (disch := (first | omega | (simp only [kd_sI, kd_sL, kd_sR, kd_cp, kd_aI]; omega) | (unfold catV; exact rfl) | (unfold catS; exact Nat.le_of_ble_eq_true rfl) | assumption)) only [q_191_0, q_191_1_0, q_191_1_1, q_191_1_2, q_191_1_3, q_191_1_4, q_191_1_5, q_191_1_6, q_191_1_d, q_191_44, q_191_45, q_191_48, q_191_49, q_191_50, q_191_51, q_191_52, q_191_55, q_191_56, q_191_57, q_191_58, q_191_59, q_191_62, q_191_63, q_191_64, q_191_65, q_191_66, q_191_67, q_191_68, q_191_71, q_191_72, q_191_73, q_191_76, q_191_78, q_191_79, q_191_80, q_191_81, q_191_84, q_191_85, q_191_86, aft_i, aft_l, aft_v, Int.toNat_natCast, kd_sI, kd_sL, kd_sR, kd_cp, gI_sL, gI_sR, gL_sI, gL_sR, gR_sI, gR_sL, gL_cp, gR_cp, kd_aI, gL_aI, gR_aI, gI_aI, gI_aIn, sI_aI, gI_sIn, Int.reduceToNat, Int.reduceAdd, Int.reduceSub, Int.reduceMul, Int.reduceNeg, Int.zero_add, r141_3, t1]; rfl
  by_cases w1 : w = 1
  · subst w1; simp (disch := (first | omega | (simp only [kd_sI, kd_sL, kd_sR, kd_cp, kd_aI]; omega) | (unfold catV; exact rfl) | (unfold catS; exact Nat.le_of_ble_eq_true rfl) | assumption)) only [q_191_0, q_191_1_0, q_191_1_1, q_191_1_2, q_191_1_3, q_191_1_4, q_191_1_5, q_191_1_6, q_191_1_d, q_191_44, q_191_45, q_191_48, q_191_49, q_191_50, q_191_51, q_191_52, q_191_55, q_191_56, q_191_57, q_191_58, q_191_59, q_191_62, q_191_63, q_191_64, q_191_65, q_191_66, q_191_67, q_191_68, q_191_71, q_191_72, q_191_73, q_191_76, q_191_78, q_191_79, q_191_80, q_191_81, q_191_84, q_191_85, q_191_86, aft_i, aft_l, aft_v, Int.toNat_natCast, kd_sI, kd_sL, kd_sR, kd_cp, gI_sL, gI_sR, gL_sI, gL_sR, gR_sI, gR_sL, gL_cp, gR_cp, kd_aI, gL_aI, gR_aI, gI_aI, gI_aIn, sI_aI, gI_sIn, Int.reduceToNat, Int.reduceAdd, Int.reduceSub, Int.reduceMul, Int.reduceNeg, Int.zero_add, r141_7, t2]; rfl
  by_cases w2 : w = 2
  · subst w2; simp (disch := (first | omega | (simp only [kd_sI, kd_sL, kd_sR, kd_cp, kd_aI]; omega) | (unfold catV; exact rfl) | (unfold catS; exact Nat.le_of_ble_eq_true rfl) | assumption)) only [q_191_0, q_191_1_0, q_191_1_1, q_191_1_2, q_191_1_3, q_191_1_4, q_191_1_5, q_191_1_6, q_191_1_d, q_191_44, q_191_45, q_191_48, q_191_49, q_191_50, q_191_51, q_191_52, q_191_55, q_191_56, q_191_57, q_191_58, q_191_59, q_191_62, q_191_63, q_191_64, q_191_65, q_191_66, q_191_67, q_191_68, q_191_71, q_191_72, q_191_73, q_191_76, q_191_78, q_191_79, q_191_80, q_191_81, q_191_84, q_191_85, q_191_86, aft_i, aft_l, aft_v, Int.toNat_natCast, kd_sI, kd_sL, kd_sR, kd_cp, gI_sL, gI_sR, gL_sI, gL_sR, gR_sI, gR_sL, gL_cp, gR_cp, kd_aI, gL_aI, gR_aI, gI_aI, gI_aIn, sI_aI, gI_sIn, Int.reduceToNat, Int.reduceAdd, Int.reduceSub, Int.reduceMul, Int.reduceNeg, Int.zero_add, r141_9, t3]; rfl
  by_cases w3 : w = 3
  · subst w3; simp (disch := (first | omega | (simp only [kd_sI, kd_sL, kd_sR, kd_cp, kd_aI]; omega) | (unfold catV; exact rfl) | (unfold catS; exact Nat.le_of_ble_eq_true rfl) | assumption)) only [q_191_0, q_191_1_0, q_191_1_1, q_191_1_2, q_191_1_3, q_191_1_4, q_191_1_5, q_191_1_6, q_191_1_d, q_191_44, q_191_45, q_191_48, q_191_49, q_191_50, q_191_51, q_191_52, q_191_55, q_191_56, q_191_57, q_191_58, q_191_59, q_191_62, q_191_63, q_191_64, q_191_65, q_191_66, q_191_67, q_191_68, q_191_71, q_191_72, q_191_73, q_191_76, q_191_78, q_191_79, q_191_80, q_191_81, q_191_84, q_191_85, q_191_86, aft_i, aft_l, aft_v, Int.toNat_natCast, kd_sI, kd_sL, kd_sR, kd_cp, gI_sL, gI_sR, gL_sI, gL_sR, gR_sI, gR_sL, gL_cp, gR_cp, kd_aI, gL_aI, gR_aI, gI_aI, gI_aIn, sI_aI, gI_sIn, Int.reduceToNat, Int.reduceAdd, Int.reduceSub, Int.reduceMul, Int.reduceNeg, Int.zero_add, r141_9, t4]; rfl
  by_cases w4 : w = 4
  · subst w4; simp (disch := (first | omega | (simp only [kd_sI, kd_sL, kd_sR, kd_cp, kd_aI]; omega) | (unfold catV; exact rfl) | (unfold catS; exact Nat.le_of_ble_eq_true rfl) | assumption)) only [q_191_0, q_191_1_0, q_191_1_1, q_191_1_2, q_191_1_3, q_191_1_4, q_191_1_5, q_191_1_6, q_191_1_d, q_191_44, q_191_45, q_191_48, q_191_49, q_191_50, q_191_51, q_191_52, q_191_55, q_191_56, q_191_57, q_191_58, q_191_59, q_191_62, q_191_63, q_191_64, q_191_65, q_191_66, q_191_67, q_191_68, q_191_71, q_191_72, q_191_73, q_191_76, q_191_78, q_191_79, q_191_80, q_191_81, q_191_84, q_191_85, q_191_86, aft_i, aft_l, aft_v, Int.toNat_natCast, kd_sI, kd_sL, kd_sR, kd_cp, gI_sL, gI_sR, gL_sI, gL_sR, gR_sI, gR_sL, gL_cp, gR_cp, kd_aI, gL_aI, gR_aI, gI_aI, gI_aIn, sI_aI, gI_sIn, Int.reduceToNat, Int.reduceAdd, Int.reduceSub, Int.reduceMul, Int.reduceNeg, Int.zero_add, m5]; rfl
  by_cases w5 : w = 5
  · subst w5
    rw [Nat.zero_add] at p2
    simp (disch := (first | omega | (simp only [kd_sI, kd_sL, kd_sR, kd_cp, kd_aI]; omega) | (unfold catV; exact rfl) | (unfold catS; exact Nat.le_of_ble_eq_true rfl) | assumption)) only [q_191_0, q_191_1_0, q_191_1_1, q_191_1_2, q_191_1_3, q_191_1_4, q_191_1_5, q_191_1_6, q_191_1_d, q_191_44, q_191_45, q_191_48, q_191_49, q_191_50, q_191_51, q_191_52, q_191_55, q_191_56, q_191_57, q_191_58, q_191_59, q_191_62, q_191_63, q_191_64, q_191_65, q_191_66, q_191_67, q_191_68, q_191_71, q_191_72, q_191_73, q_191_76, q_191_78, q_191_79, q_191_80, q_191_81, q_191_84, q_191_85, q_191_86, aft_i, aft_l, aft_v, Int.toNat_natCast, kd_sI, kd_sL, kd_sR, kd_cp, gI_sL, gI_sR, gL_sI, gL_sR, gR_sI, gR_sL, gL_cp, gR_cp, kd_aI, gL_aI, gR_aI, gI_aI, gI_aIn, sI_aI, gI_sIn, Int.reduceToNat, Int.reduceAdd, Int.reduceSub, Int.reduceMul, Int.reduceNeg, Int.zero_add, r141_16, p2]; rfl
  by_cases w6 : w = 6
  · subst w6; simp (disch := (first | omega | (simp only [kd_sI, kd_sL, kd_sR, kd_cp, kd_aI]; omega) | (unfold catV; exact rfl) | (unfold catS; exact Nat.le_of_ble_eq_true rfl) | assumption)) only [q_191_0, q_191_1_0, q_191_1_1, q_191_1_2, q_191_1_3, q_191_1_4, q_191_1_5, q_191_1_6, q_191_1_d, q_191_44, q_191_45, q_191_48, q_191_49, q_191_50, q_191_51, q_191_52, q_191_55, q_191_56, q_191_57, q_191_58, q_191_59, q_191_62, q_191_63, q_191_64, q_191_65, q_191_66, q_191_67, q_191_68, q_191_71, q_191_72, q_191_73, q_191_76, q_191_78, q_191_79, q_191_80, q_191_81, q_191_84, q_191_85, q_191_86, aft_i, aft_l, aft_v, Int.toNat_natCast, kd_sI, kd_sL, kd_sR, kd_cp, gI_sL, gI_sR, gL_sI, gL_sR, gR_sI, gR_sL, gL_cp, gR_cp, kd_aI, gL_aI, gR_aI, gI_aI, gI_aIn, sI_aI, gI_sIn, Int.reduceToNat, Int.reduceAdd, Int.reduceSub, Int.reduceMul, Int.reduceNeg, Int.zero_add, m7]; rfl
  rw [if_neg w0, if_neg w1, if_neg w2, if_neg w3, if_neg w4, if_neg w5, if_neg w6]
  simp (disch := (first | omega | (simp only [kd_sI, kd_sL, kd_sR, kd_cp, kd_aI]; omega) | (unfold catV; exact rfl) | (unfold catS; exact Nat.le_of_ble_eq_true rfl) | assumption)) only [q_191_0, q_191_1_0, q_191_1_1, q_191_1_2, q_191_1_3, q_191_1_4, q_191_1_5, q_191_1_6, q_191_1_d, q_191_44, q_191_45, q_191_48, q_191_49, q_191_50, q_191_51, q_191_52, q_191_55, q_191_56, q_191_57, q_191_58, q_191_59, q_191_62, q_191_63, q_191_64, q_191_65, q_191_66, q_191_67, q_191_68, q_191_71, q_191_72, q_191_73, q_191_76, q_191_78, q_191_79, q_191_80, q_191_81, q_191_84, q_191_85, q_191_86, aft_i, aft_l, aft_v, Int.toNat_natCast, kd_sI, kd_sL, kd_sR, kd_cp, gI_sL, gI_sR, gL_sI, gL_sR, gR_sI, gR_sL, gL_cp, gR_cp, kd_aI, gL_aI, gR_aI, gI_aI, gI_aIn, sI_aI, gI_sIn, Int.reduceToNat, Int.reduceAdd, Int.reduceSub, Int.reduceMul, Int.reduceNeg, Int.zero_add]
theorem mTra_ok (d : Nat) (h : mH) (L : LAY h) (σ : Sg) (m : MI h σ) : mOK (d + 1) 192 [] h (Sum.inr (Sum.inl (zR σ))) σ := by
  refine mOK_s L m ?_
  have e := m.2.2.2.2.2.2.2.2
  obtain ⟨k141, j141⟩ := lay_k L (a := 141) (t := 8) (n := 26) rfl
  rw [en_192]
  simp (disch := (first | omega | (simp only [kd_sI, kd_sL, kd_sR, kd_cp, kd_aI]; omega) | (unfold catV; exact rfl) | (unfold catS; exact Nat.le_of_ble_eq_true rfl) | assumption)) only [q_192_0, q_192_1, q_192_4, aft_i, aft_l, aft_v, Int.toNat_natCast, kd_sI, kd_sL, kd_sR, kd_cp, gI_sL, gI_sR, gL_sI, gL_sR, gR_sI, gR_sL, gL_cp, gR_cp, kd_aI, gL_aI, gR_aI, gI_aI, gI_aIn, sI_aI, gI_sIn, Int.reduceToNat, Int.reduceAdd, Int.reduceSub, Int.reduceMul, Int.reduceNeg, Int.zero_add, e]
def clrS (σ : Sg) : Sg := ([], zT σ, (zN σ, zP σ), zI σ, zS σ, zR σ)
theorem MI_o {h g : mH} {σ : Sg} (m : MI h σ) (hq : ∀ q, q ≠ 141 → gI g q = gI h q) (hk : ∀ k, k ≠ 2 → gI g 141 k = gI h 141 k) (hL : gL g = gL h) (h2 : gI g 141 2 = 0) : MI g (clrS σ) := by
  obtain ⟨m1, m2, m3, m4, m5, m6, m7, m8, m9⟩ := m
  refine ⟨?_, ?_, fun i hi => ?_, fun i N P hi e => ?_, ?_, fun k q => ?_, h2, fun k q => absurd q (Nat.not_lt_zero _), ?_⟩
  · unfold mT at m1 ⊢
    rw [hq _ (by omega), hq _ (by omega), hq _ (by omega), hq _ (by omega), hq _ (by omega), hq _ (by omega)]
    exact m1
  · rw [hq _ (by omega)]; exact m2
  · rw [hq _ (by omega)]; exact m3 i hi
  · rw [hq _ (by omega)]; exact m4 i N P hi e
  · rw [hk _ (by omega)]; exact m5
  · rw [hq _ (by omega), hq _ (by omega)]; exact m6 k q
  · rw [hL]; exact m9
