abbrev Im : Type := Nat → Option (Nt × List Nt)
/-- text, town, night and past, images, what was seen, trace -/
abbrev Sg : Type := List Int × Td × (Nt × List Nt) × Im × List (Nat × Nat) × Int
def zX (σ : Sg) : List Int := σ.1
def zT (σ : Sg) : Td := σ.2.1
def zN (σ : Sg) : Nt := σ.2.2.1.1
def zP (σ : Sg) : List Nt := σ.2.2.1.2
def zI (σ : Sg) : Im := σ.2.2.2.1
def zS (σ : Sg) : List (Nat × Nat) := σ.2.2.2.2.1
def zR (σ : Sg) : Int := σ.2.2.2.2.2
def wfS (σ : Sg) : Prop := wfT (zT σ) ∧ wfW (zT σ) (zN σ) (zP σ) ∧ (∀ i N P, i < 2 → zI σ i = some (N, P) → wfW (zT σ) N P ∧ P.length ≤ 10) ∧ (zS σ).length ≤ 6 ∧ (∀ e, e ∈ zS σ → e.1 < tN (zT σ) ∧ e.2 < tN (zT σ)) ∧ (zX σ).length ≤ 180 ∧ (∀ x, x ∈ zX σ → 0 ≤ x ∧ x ≤ 255) ∧ (zP σ).length ≤ 10
def MI (h : mH) (σ : Sg) : Prop := mT h (zT σ) ∧ whG (gI h 150) 0 (zT σ) (zN σ) (zP σ) ∧ (∀ i, i < 2 → gI h 151 i = if (zI σ i).isSome = true then 1 else 0) ∧ (∀ i N P, i < 2 → zI σ i = some (N, P) → whG (gI h 150) (617 * (i + 1)) (zT σ) N P) ∧ gI h 141 25 = (zS σ).length ∧ (∀ k (q : k < (zS σ).length), gI h 156 k = (zS σ)[k].1 ∧ gI h 157 k = (zS σ)[k].2) ∧ gI h 141 2 = (zX σ).length ∧ (∀ k (q : k < (zX σ).length), gI h 142 k = i2b (zX σ)[k]) ∧ gL h 141 0 = zR σ
def zev (σ : Sg) (N : Nt) (P : List Nt) : Sg := (zX σ, zT σ, (N, P), zI σ, zS σ, zR σ)
theorem zev_id (σ : Sg) : zev σ (zN σ) (zP σ) = σ := rfl
theorem MI_evA {h g : mH} {σ : Sg} {N : Nt} {P : List Nt} (w : wfS σ) (m : MI h σ) (a : evA h g) (s : whG (gI g 150) 0 (zT σ) N P) : MI g (zev σ N P) := by
  obtain ⟨m1, m2, m3, m4, m5, m6, m7, m8, m9⟩ := m
  refine ⟨evA_mT a m1, s, fun i hi => ?_, fun i N P hi e => ?_, ?_, fun k q => ?_, ?_, fun k q => ?_, ?_⟩
  · rw [evA_q a (by omega) (by omega) (by omega)]; exact m3 i hi
  · refine whG_congr w.1 (w.2.2.1 i N P hi e).1 (fun j hj => ?_) (m4 i N P hi e)
    exact a.2.1 150 _ (Or.inr (by omega)) (by omega) (by omega)
  · exact (a.2.1 141 25 (Or.inl (by omega)) (by omega) (by omega)).trans m5
  · rw [evA_q a (by omega) (by omega) (by omega), evA_q a (by omega) (by omega) (by omega)]; exact m6 k q
  · exact (a.2.1 141 2 (Or.inl (by omega)) (by omega) (by omega)).trans m7
  · rw [evA_q a (by omega) (by omega) (by omega)]; exact m8 k q
  · rw [a.2.2.1]; exact m9
theorem MI_scr {h g : mH} {σ : Sg} (w : wfS σ) (m : MI h σ) (a : scr h g) : MI g σ := by
  have s := m.2.1
  rw [← scr_q a (by omega) (by omega)] at s
  exact MI_evA w m (evA_scr a) s
theorem evA_frm {h g : mH} (a : evA h g) : frm 141 158 h g := ⟨a.1, fun q hq => ⟨funext fun k => a.2.1 q k (Or.inl (by omega)) (by omega) (by omega), by rw [a.2.2.1], by rw [a.2.2.2]⟩⟩
/-- a call of the model: its answer and what it is then -/
def mOK (D id : Nat) (as : List mV) (h : mH) (r : mV) (σ : Sg) : Prop := ∃ g, callA D id (Sum.inr (Sum.inr (some 141)) :: as) h = some (some r, g) ∧ frm 141 158 h g ∧ LAY g ∧ MI g σ
theorem mOK_ev {D id : Nat} {as : List mV} {h : mH} {σ : Sg} {R : Int × Nt × List Nt} (L : LAY h) (w : wfS σ) (m : MI h σ) (e : evOK D id as h (zT σ) R) : mOK D id as h (Sum.inl R.1) (zev σ R.2.1 R.2.2) := by
  obtain ⟨g, e1, e2, e3, e4⟩ := e
  exact ⟨g, e1, evA_frm e2, evA_L e2 L, MI_evA w m e2 e4⟩
theorem mOK_q {D id : Nat} {as : List mV} {h : mH} {σ : Sg} {r : mV} (L : LAY h) (w : wfS σ) (m : MI h σ) (e : ∃ g, callA D id (Sum.inr (Sum.inr (some 141)) :: as) h = some (some r, g) ∧ scr h g) : mOK D id as h r σ := by
  obtain ⟨g, e1, e2⟩ := e
  exact ⟨g, e1, evA_frm (evA_scr e2), scr_L e2 L, MI_scr w m e2⟩
theorem mOK_s {D id : Nat} {as : List mV} {h : mH} {σ : Sg} {r : mV} (L : LAY h) (m : MI h σ) (e : callA D id (Sum.inr (Sum.inr (some 141)) :: as) h = some (some r, h)) : mOK D id as h r σ := ⟨h, e, frm_rf _ _ _, L, m⟩
def cntS (σ : Sg) (w : Int) : Int := if w = 0 then tN (zT σ) else if w = 1 then tK (zT σ) else if w = 2 then tA (zT σ) else if w = 3 then tM (zT σ) else if w = 4 then (zS σ).length else if w = 5 then (zP σ).length else if w = 6 then (zX σ).length else -1
theorem mCnt_ok (d : Nat) (h : mH) (L : LAY h) (σ : Sg) (m : MI h σ) (w : Int) : mOK (d + 1) 191 [Sum.inl w] h (Sum.inl (cntS σ w)) σ := by
  refine mOK_s L m ?_
  obtain ⟨⟨t1, t2, t3, t4, -⟩, ⟨-, p2, -⟩, -, -, m5, -, m7, -⟩ := m
  obtain ⟨k141, j141⟩ := lay_k L (a := 141) (t := 8) (n := 26) rfl; obtain ⟨k143, j143⟩ := lay_k L (a := 143) (t := 100) (n := 2) rfl; obtain ⟨k147, j147⟩ := lay_k L (a := 147) (t := 100) (n := 2) rfl; obtain ⟨k149, j149⟩ := lay_k L (a := 149) (t := 100) (n := 4) rfl; obtain ⟨k150, j150⟩ := lay_k L (a := 150) (t := 100) (n := 1851) rfl; have r141_3 : gR h 141 3 = some 143 := lay_r L rfl; have r141_7 : gR h 141 7 = some 147 := lay_r L rfl; have r141_9 : gR h 141 9 = some 149 := lay_r L rfl; have r141_16 : gR h 141 16 = some 150 := lay_r L rfl
  unfold cntS
  rw [en_191]
  by_cases w0 : w = 0
  · subst w0; simp (disch := (first | omega | (simp only [kd_sI, kd_sL, kd_sR, kd_cp, kd_aI]; omega) | (unfold catV; exact rfl) | (unfold catS; exact Nat.le_of_ble_eq_true rfl) | assumption)) only [q_191_0, q_191_1_0, q_191_1_1, q_191_1_2, q_191_1_3, q_191_1_4, q_191_1_5, q_191_1_6, q_191_1_d, q_191_44, q_191_45, q_191_48, q_191_49, q_191_50, q_191_51, q_191_52, q_191_55, q_191_56, q_191_57, q_191_58, q_191_59, q_191_62, q_191_63, q_191_64, q_191_65, q_191_66, q_191_67, q_191_68, q_191_71, q_191_72, q_191_73, q_191_76, q_191_78, q_191_79, q_191_80, q_191_81, q_191_84, q_191_85, q_191_86, aft_i, aft_l, aft_v, Int.toNat_natCast, kd_sI, kd_sL, kd_sR, kd_cp, gI_sL, gI_sR, gL_sI, gL_sR, gR_sI, gR_sL, gL_cp, gR_cp, kd_aI, gL_aI, gR_aI, gI_aI, gI_aIn, sI_aI, gI_sIn, Int.reduceToNat, Int.reduceAdd, Int.reduceSub, Int.reduceMul, Int.reduceNeg, Int.zero_add, r141_3, t1]; rfl
  by_cases w1 : w = 1
  · subst w1; simp (disch := (first | omega | (simp only [kd_sI, kd_sL, kd_sR, kd_cp, kd_aI]; omega) | (unfold catV; exact rfl) | (unfold catS; exact Nat.le_of_ble_eq_true rfl) | assumption)) only [q_191_0, q_191_1_0, q_191_1_1, q_191_1_2, q_191_1_3, q_191_1_4, q_191_1_5, q_191_1_6, q_191_1_d, q_191_44, q_191_45, q_191_48, q_191_49, q_191_50, q_191_51, q_191_52, q_191_55, q_191_56, q_191_57, q_191_58, q_191_59, q_191_62, q_191_63, q_191_64, q_191_65, q_191_66, q_191_67, q_191_68, q_191_71, q_191_72, q_191_73, q_191_76, q_191_78, q_191_79, q_191_80, q_191_81, q_191_84, q_191_85, q_191_86, aft_i, aft_l, aft_v, Int.toNat_natCast, kd_sI, kd_sL, kd_sR, kd_cp, gI_sL, gI_sR, gL_sI, gL_sR, gR_sI, gR_sL, gL_cp, gR_cp, kd_aI, gL_aI, gR_aI, gI_aI, gI_aIn, sI_aI, gI_sIn, Int.reduceToNat, Int.reduceAdd, Int.reduceSub, Int.reduceMul, Int.reduceNeg, Int.zero_add, r141_7, t2]; rfl
  by_cases w2 : w = 2
  · subst w2; simp (disch := (first | omega | (simp only [kd_sI, kd_sL, kd_sR, kd_cp, kd_aI]; omega) | (unfold catV; exact rfl) | (unfold catS; exact Nat.le_of_ble_eq_true rfl) | assumption)) only [q_191_0, q_191_1_0, q_191_1_1, q_191_1_2, q_191_1_3, q_191_1_4, q_191_1_5, q_191_1_6, q_191_1_d, q_191_44, q_191_45, q_191_48, q_191_49, q_191_50, q_191_51, q_191_52, q_191_55, q_191_56, q_191_57, q_191_58, q_191_59, q_191_62, q_191_63, q_191_64, q_191_65, q_191_66, q_191_67, q_191_68, q_191_71, q_191_72, q_191_73, q_191_76, q_191_78, q_191_79, q_191_80, q_191_81, q_191_84, q_191_85, q_191_86, aft_i, aft_l, aft_v, Int.toNat_natCast, kd_sI, kd_sL, kd_sR, kd_cp, gI_sL, gI_sR, gL_sI, gL_sR, gR_sI, gR_sL, gL_cp, gR_cp, kd_aI, gL_aI, gR_aI, gI_aI, gI_aIn, sI_aI, gI_sIn, Int.reduceToNat, Int.reduceAdd, Int.reduceSub, Int.reduceMul, Int.reduceNeg, Int.zero_add, r141_9, t3]; rfl
  by_cases w3 : w = 3
  · subst w3; simp (disch := (first | omega | (simp only [kd_sI, kd_sL, kd_sR, kd_cp, kd_aI]; omega) | (unfold catV; exact rfl) | (unfold catS; exact Nat.le_of_ble_eq_true rfl) | assumption)) only [q_191_0, q_191_1_0, q_191_1_1, q_191_1_2, q_191_1_3, q_191_1_4, q_191_1_5, q_191_1_6, q_191_1_d, q_191_44, q_191_45, q_191_48, q_191_49, q_191_50, q_191_51, q_191_52, q_191_55, q_191_56, q_191_57, q_191_58, q_191_59, q_191_62, q_191_63, q_191_64, q_191_65, q_191_66, q_191_67, q_191_68, q_191_71, q_191_72, q_191_73, q_191_76, q_191_78, q_191_79, q_191_80, q_191_81, q_191_84, q_191_85, q_191_86, aft_i, aft_l, aft_v, Int.toNat_natCast, kd_sI, kd_sL, kd_sR, kd_cp, gI_sL, gI_sR, gL_sI, gL_sR, gR_sI, gR_sL, gL_cp, gR_cp, kd_aI, gL_aI, gR_aI, gI_aI, gI_aIn, sI_aI, gI_sIn, Int.reduceToNat, Int.reduceAdd, Int.reduceSub, Int.reduceMul, Int.reduceNeg, Int.zero_add, r141_9, t4]; rfl
  by_cases w4 : w = 4
  · subst w4; simp (disch := (first | omega | (simp only [kd_sI, kd_sL, kd_sR, kd_cp, kd_aI]; omega) | (unfold catV; exact rfl) | (unfold catS; exact Nat.le_of_ble_eq_true rfl) | assumption)) only [q_191_0, q_191_1_0, q_191_1_1, q_191_1_2, q_191_1_3, q_191_1_4, q_191_1_5, q_191_1_6, q_191_1_d, q_191_44, q_191_45, q_191_48, q_191_49, q_191_50, q_191_51, q_191_52, q_191_55, q_191_56, q_191_57, q_191_58, q_191_59, q_191_62, q_191_63, q_191_64, q_191_65, q_191_66, q_191_67, q_191_68, q_191_71, q_191_72, q_191_73, q_191_76, q_191_78, q_191_79, q_191_80, q_191_81, q_191_84, q_191_85, q_191_86, aft_i, aft_l, aft_v, Int.toNat_natCast, kd_sI, kd_sL, kd_sR, kd_cp, gI_sL, gI_sR, gL_sI, gL_sR, gR_sI, gR_sL, gL_cp, gR_cp, kd_aI, gL_aI, gR_aI, gI_aI, gI_aIn, sI_aI, gI_sIn, Int.reduceToNat, Int.reduceAdd, Int.reduceSub, Int.reduceMul, Int.reduceNeg, Int.zero_add, m5]; rfl
  by_cases w5 : w = 5
  · subst w5
    rw [Nat.zero_add] at p2
    simp (disch := (first | omega | (simp only [kd_sI, kd_sL, kd_sR, kd_cp, kd_aI]; omega) | (unfold catV; exact rfl) | (unfold catS; exact Nat.le_of_ble_eq_true rfl) | assumption)) only [q_191_0, q_191_1_0, q_191_1_1, q_191_1_2, q_191_1_3, q_191_1_4, q_191_1_5, q_191_1_6, q_191_1_d, q_191_44, q_191_45, q_191_48, q_191_49, q_191_50, q_191_51, q_191_52, q_191_55, q_191_56, q_191_57, q_191_58, q_191_59, q_191_62, q_191_63, q_191_64, q_191_65, q_191_66, q_191_67, q_191_68, q_191_71, q_191_72, q_191_73, q_191_76, q_191_78, q_191_79, q_191_80, q_191_81, q_191_84, q_191_85, q_191_86, aft_i, aft_l, aft_v, Int.toNat_natCast, kd_sI, kd_sL, kd_sR, kd_cp, gI_sL, gI_sR, gL_sI, gL_sR, gR_sI, gR_sL, gL_cp, gR_cp, kd_aI, gL_aI, gR_aI, gI_aI, gI_aIn, sI_aI, gI_sIn, Int.reduceToNat, Int.reduceAdd, Int.reduceSub, Int.reduceMul, Int.reduceNeg, Int.zero_add, r141_16, p2]; rfl
  by_cases w6 : w = 6
  · subst w6; simp (disch := (first | omega | (simp only [kd_sI, kd_sL, kd_sR, kd_cp, kd_aI]; omega) | (unfold catV; exact rfl) | (unfold catS; exact Nat.le_of_ble_eq_true rfl) | assumption)) only [q_191_0, q_191_1_0, q_191_1_1, q_191_1_2, q_191_1_3, q_191_1_4, q_191_1_5, q_191_1_6, q_191_1_d, q_191_44, q_191_45, q_191_48, q_191_49, q_191_50, q_191_51, q_191_52, q_191_55, q_191_56, q_191_57, q_191_58, q_191_59, q_191_62, q_191_63, q_191_64, q_191_65, q_191_66, q_191_67, q_191_68, q_191_71, q_191_72, q_191_73, q_191_76, q_191_78, q_191_79, q_191_80, q_191_81, q_191_84, q_191_85, q_191_86, aft_i, aft_l, aft_v, Int.toNat_natCast, kd_sI, kd_sL, kd_sR, kd_cp, gI_sL, gI_sR, gL_sI, gL_sR, gR_sI, gR_sL, gL_cp, gR_cp, kd_aI, gL_aI, gR_aI, gI_aI, gI_aIn, sI_aI, gI_sIn, Int.reduceToNat, Int.reduceAdd, Int.reduceSub, Int.reduceMul, Int.reduceNeg, Int.zero_add, m7]; rfl
  rw [if_neg w0, if_neg w1, if_neg w2, if_neg w3, if_neg w4, if_neg w5, if_neg w6]
  simp (disch := (first | omega | (simp only [kd_sI, kd_sL, kd_sR, kd_cp, kd_aI]; omega) | (unfold catV; exact rfl) | (unfold catS; exact Nat.le_of_ble_eq_true rfl) | assumption)) only [q_191_0, q_191_1_0, q_191_1_1, q_191_1_2, q_191_1_3, q_191_1_4, q_191_1_5, q_191_1_6, q_191_1_d, q_191_44, q_191_45, q_191_48, q_191_49, q_191_50, q_191_51, q_191_52, q_191_55, q_191_56, q_191_57, q_191_58, q_191_59, q_191_62, q_191_63, q_191_64, q_191_65, q_191_66, q_191_67, q_191_68, q_191_71, q_191_72, q_191_73, q_191_76, q_191_78, q_191_79, q_191_80, q_191_81, q_191_84, q_191_85, q_191_86, aft_i, aft_l, aft_v, Int.toNat_natCast, kd_sI, kd_sL, kd_sR, kd_cp, gI_sL, gI_sR, gL_sI, gL_sR, gR_sI, gR_sL, gL_cp, gR_cp, kd_aI, gL_aI, gR_aI, gI_aI, gI_aIn, sI_aI, gI_sIn, Int.reduceToNat, Int.reduceAdd, Int.reduceSub, Int.reduceMul, Int.reduceNeg, Int.zero_add]
theorem mTra_ok (d : Nat) (h : mH) (L : LAY h) (σ : Sg) (m : MI h σ) : mOK (d + 1) 192 [] h (Sum.inr (Sum.inl (zR σ))) σ := by
  refine mOK_s L m ?_
  have e := m.2.2.2.2.2.2.2.2
  obtain ⟨k141, j141⟩ := lay_k L (a := 141) (t := 8) (n := 26) rfl
  rw [en_192]
  simp (disch := (first | omega | (simp only [kd_sI, kd_sL, kd_sR, kd_cp, kd_aI]; omega) | (unfold catV; exact rfl) | (unfold catS; exact Nat.le_of_ble_eq_true rfl) | assumption)) only [q_192_0, q_192_1, q_192_4, aft_i, aft_l, aft_v, Int.toNat_natCast, kd_sI, kd_sL, kd_sR, kd_cp, gI_sL, gI_sR, gL_sI, gL_sR, gR_sI, gR_sL, gL_cp, gR_cp, kd_aI, gL_aI, gR_aI, gI_aI, gI_aIn, sI_aI, gI_sIn, Int.reduceToNat, Int.reduceAdd, Int.reduceSub, Int.reduceMul, Int.reduceNeg, Int.zero_add, e]
def zup (σ : Sg) (X : List Int) (S : List (Nat × Nat)) (R : Int) : Sg := (X, zT σ, (zN σ, zP σ), zI σ, S, R)
theorem MI_up {h g : mH} {σ : Sg} {X : List Int} {S : List (Nat × Nat)} {R : Int} (m : MI h σ) (hq : ∀ q, 143 ≤ q → q ≤ 151 → gI g q = gI h q) (h1 : gI g 141 25 = S.length) (h2 : ∀ k (q : k < S.length), gI g 156 k = S[k].1 ∧ gI g 157 k = S[k].2) (h3 : gI g 141 2 = X.length) (h4 : ∀ k (q : k < X.length), gI g 142 k = i2b X[k]) (h5 : gL g 141 0 = R) : MI g (zup σ X S R) := by
  obtain ⟨m1, m2, m3, m4, m5, m6, m7, m8, m9⟩ := m
  refine ⟨?_, ?_, fun i hi => ?_, fun i N P hi e => ?_, h1, h2, h3, h4, h5⟩
  · show mT g (zT σ)
    unfold mT at m1 ⊢
    rw [hq _ (by omega) (by omega), hq _ (by omega) (by omega), hq _ (by omega) (by omega), hq _ (by omega) (by omega), hq _ (by omega) (by omega), hq _ (by omega) (by omega)]
    exact m1
  · show whG (gI g 150) 0 (zT σ) (zN σ) (zP σ)
    rw [hq _ (by omega) (by omega)]; exact m2
  · rw [hq _ (by omega) (by omega)]; exact m3 i hi
  · rw [hq _ (by omega) (by omega)]; exact m4 i N P hi e
theorem mOK_w {D id : Nat} {as : List mV} {h g : mH} {r : mV} {σ : Sg} (e : callA D id (Sum.inr (Sum.inr (some 141)) :: as) h = some (some r, g)) (f : frm 141 158 h g) (l : LAY g) (m : MI g σ) : mOK D id as h r σ := ⟨g, e, f, l, m⟩
theorem mClr_ok (d : Nat) (h : mH) (L : LAY h) (σ : Sg) (m : MI h σ) : mOK (d + 1) 125 [] h (Sum.inl (zX σ).length) (zup σ [] (zS σ) (zR σ)) := by
  have L0 := L
  have m7 := m.2.2.2.2.2.2.1
  obtain ⟨k141, j141⟩ := lay_k L (a := 141) (t := 8) (n := 26) rfl
  refine mOK_w (g := sI h 141 2 0) ?_ (frm_sI (by omega) (by omega)) (lay_sI L0 _ _ _) (MI_up m (fun q _ _ => gI_sIn (by omega)) ?_ (fun k q => ?_) ?_ (fun k q => absurd q (Nat.not_lt_zero _)) m.2.2.2.2.2.2.2.2)
  · rw [en_125]
    simp (disch := (first | omega | (simp only [kd_sI, kd_sL, kd_sR, kd_cp, kd_aI]; omega) | (unfold catV; exact rfl) | (unfold catS; exact Nat.le_of_ble_eq_true rfl) | assumption)) only [q_125_0, q_125_1, q_125_4, q_125_5, q_125_6, q_125_7, q_125_10, q_125_11, aft_i, aft_l, aft_v, Int.toNat_natCast, kd_sI, kd_sL, kd_sR, kd_cp, gI_sL, gI_sR, gL_sI, gL_sR, gR_sI, gR_sL, gL_cp, gR_cp, kd_aI, gL_aI, gR_aI, gI_aI, gI_aIn, sI_aI, gI_sIn, Int.reduceToNat, Int.reduceAdd, Int.reduceSub, Int.reduceMul, Int.reduceNeg, Int.zero_add, m7]
  · rw [gI_sI, if_neg (by omega)]; exact m.2.2.2.2.1
  · rw [gI_sIn (by omega), gI_sIn (by omega)]; exact m.2.2.2.2.2.1 k q
  · rw [gI_sI, if_pos ⟨rfl, rfl⟩]; rfl
theorem mFor_ok (d : Nat) (h : mH) (L : LAY h) (σ : Sg) (m : MI h σ) : mOK (d + 1) 184 [] h (Sum.inl (zS σ).length) (zup σ (zX σ) [] (zR σ)) := by
  have L0 := L
  have m5 := m.2.2.2.2.1
  obtain ⟨k141, j141⟩ := lay_k L (a := 141) (t := 8) (n := 26) rfl
  refine mOK_w (g := sI h 141 25 0) ?_ (frm_sI (by omega) (by omega)) (lay_sI L0 _ _ _) (MI_up m (fun q _ _ => gI_sIn (by omega)) ?_ (fun k q => absurd q (Nat.not_lt_zero _)) ?_ (fun k q => ?_) m.2.2.2.2.2.2.2.2)
  · rw [en_184]
    simp (disch := (first | omega | (simp only [kd_sI, kd_sL, kd_sR, kd_cp, kd_aI]; omega) | (unfold catV; exact rfl) | (unfold catS; exact Nat.le_of_ble_eq_true rfl) | assumption)) only [q_184_0, q_184_1, q_184_4, q_184_5, q_184_6, q_184_7, q_184_10, q_184_11, aft_i, aft_l, aft_v, Int.toNat_natCast, kd_sI, kd_sL, kd_sR, kd_cp, gI_sL, gI_sR, gL_sI, gL_sR, gR_sI, gR_sL, gL_cp, gR_cp, kd_aI, gL_aI, gR_aI, gI_aI, gI_aIn, sI_aI, gI_sIn, Int.reduceToNat, Int.reduceAdd, Int.reduceSub, Int.reduceMul, Int.reduceNeg, Int.zero_add, m5]
  · rw [gI_sI, if_pos ⟨rfl, rfl⟩]; rfl
  · rw [gI_sI, if_neg (by omega)]; exact m.2.2.2.2.2.2.1
  · rw [gI_sIn (by omega)]; exact m.2.2.2.2.2.2.2.1 k q
theorem gI_sIs (h : mH) (a k : Nat) (x : Int) : gI (sI h a k x) a k = x := by rw [gI_sI, if_pos ⟨rfl, rfl⟩]
theorem i2b_n : ∀ n : Nat, n < 256 → i2b (n : Int) = if (n : Int) < 128 then (n : Int) else (n : Int) - 256 := by decide +kernel
theorem i2b_b (x : Int) (h : 0 ≤ x ∧ x ≤ 255) : i2b x = if x < 128 then x else x - 256 := by
  obtain ⟨n, rfl⟩ : ∃ n : Nat, x = n := ⟨x.toNat, by omega⟩
  exact i2b_n n (by omega)
def typS (σ : Sg) (c : Int) : Int × List Int := if 0 ≤ c ∧ c ≤ 255 then (if (zX σ).length = 180 then (-3, zX σ) else ((zX σ).length + 1, zX σ ++ [c])) else (-1, zX σ)
theorem mTyp_ok (d : Nat) (h : mH) (L : LAY h) (σ : Sg) (w : wfS σ) (m : MI h σ) (c : Int) : mOK (d + 2) 124 [Sum.inl c] h (Sum.inl (typS σ c).1) (zup σ (typS σ c).2 (zS σ) (zR σ)) := by
  have L0 := L
  have m7 := m.2.2.2.2.2.2.1
  have w7 := w.2.2.2.2.2.1
  obtain ⟨k141, j141⟩ := lay_k L (a := 141) (t := 8) (n := 26) rfl; obtain ⟨k142, j142⟩ := lay_k L (a := 142) (t := 101) (n := 180) rfl; have r141_1 : gR h 141 1 = some 142 := lay_r L rfl
  unfold typS
  by_cases q : 0 ≤ c ∧ c ≤ 255
  · have e := in_t d h c 0 255 q
    rw [if_pos q]
    by_cases z : (zX σ).length = 180
    · rw [if_pos z]
      refine mOK_s L m ?_
      rw [z] at m7
      rw [en_124]
      simp (disch := (first | omega | (simp only [kd_sI, kd_sL, kd_sR, kd_cp, kd_aI]; omega) | (unfold catV; exact rfl) | (unfold catS; exact Nat.le_of_ble_eq_true rfl) | assumption)) only [q_124_0, q_124_1, q_124_2, q_124_5, q_124_8_t, q_124_8_f, q_124_11, q_124_12, q_124_13, q_124_14, q_124_17, q_124_20_t, q_124_20_f, q_124_23, q_124_25, q_124_26, q_124_27, q_124_30, q_124_31, q_124_34, q_124_35, q_124_36, q_124_37, q_124_38, q_124_39, q_124_42, q_124_43, q_124_44, q_124_47, q_124_48, q_124_51, aft_i, aft_l, aft_v, Int.toNat_natCast, kd_sI, kd_sL, kd_sR, kd_cp, gI_sL, gI_sR, gL_sI, gL_sR, gR_sI, gR_sL, gL_cp, gR_cp, kd_aI, gL_aI, gR_aI, gI_aI, gI_aIn, sI_aI, gI_sIn, Int.reduceToNat, Int.reduceAdd, Int.reduceSub, Int.reduceMul, Int.reduceNeg, Int.zero_add, e, m7]
    · rw [if_neg z]
      have b := i2b_b c q
      have bb : -128 ≤ i2b c ∧ i2b c < 128 := by rw [b]; split <;> omega
      refine mOK_w (g := sI (sI h 142 (zX σ).length (i2b c)) 141 2 (((zX σ).length : Int) + 1)) ?_ (frm_tr (frm_sI (by omega) (by omega)) (frm_sI (by omega) (by omega))) (lay_sI (lay_sI L0 _ _ _) _ _ _) (MI_up m (fun q _ _ => by rw [gI_sIn (by omega), gI_sIn (by omega)]) ?_ (fun k q => ?_) ?_ (fun k q => ?_) m.2.2.2.2.2.2.2.2)
      · have z2 : ((zX σ).length : Int) ≠ 180 := by omega
        rw [en_124]
        simp (disch := (first | omega | (simp only [kd_sI, kd_sL, kd_sR, kd_cp, kd_aI]; omega) | (unfold catV; exact rfl) | (unfold catS; exact Nat.le_of_ble_eq_true rfl) | assumption)) only [q_124_0, q_124_1, q_124_2, q_124_5, q_124_8_t, q_124_8_f, q_124_11, q_124_12, q_124_13, q_124_14, q_124_17, q_124_20_t, q_124_20_f, q_124_23, q_124_25, q_124_26, q_124_27, q_124_30, q_124_31, q_124_34, q_124_35, q_124_36, q_124_37, q_124_38, q_124_39, q_124_42, q_124_43, q_124_44, q_124_47, q_124_48, q_124_51, aft_i, aft_l, aft_v, Int.toNat_natCast, kd_sI, kd_sL, kd_sR, kd_cp, gI_sL, gI_sR, gL_sI, gL_sR, gR_sI, gR_sL, gL_cp, gR_cp, kd_aI, gL_aI, gR_aI, gI_aI, gI_aIn, sI_aI, gI_sIn, Int.reduceToNat, Int.reduceAdd, Int.reduceSub, Int.reduceMul, Int.reduceNeg, Int.zero_add, e, m7, r141_1, gI_sIs]
      · rw [gI_sI, if_neg (by omega), gI_sI, if_neg (by omega)]; exact m.2.2.2.2.1
      · rw [gI_sIn (by omega), gI_sIn (by omega), gI_sIn (by omega), gI_sIn (by omega)]; exact m.2.2.2.2.2.1 k q
      · rw [gI_sI, if_pos ⟨rfl, rfl⟩, List.length_append, List.length_singleton]; rfl
      · rw [gI_sIn (by omega), gI_sI]
        rw [List.length_append, List.length_singleton] at q
        by_cases y : k < (zX σ).length
        · rw [if_neg (by omega)]
          simp only [List.getElem_append_left y]
          exact m.2.2.2.2.2.2.2.1 k y
        · have : k = (zX σ).length := by omega
          subst this
          rw [if_pos ⟨rfl, rfl⟩]
          simp only [List.getElem_concat_length]
  · have e := in_f d h c 0 255 q
    rw [if_neg q]
    refine mOK_s L m ?_
    rw [en_124]
    simp (disch := (first | omega | (simp only [kd_sI, kd_sL, kd_sR, kd_cp, kd_aI]; omega) | (unfold catV; exact rfl) | (unfold catS; exact Nat.le_of_ble_eq_true rfl) | assumption)) only [q_124_0, q_124_1, q_124_2, q_124_5, q_124_8_t, q_124_8_f, q_124_11, q_124_12, q_124_13, q_124_14, q_124_17, q_124_20_t, q_124_20_f, q_124_23, q_124_25, q_124_26, q_124_27, q_124_30, q_124_31, q_124_34, q_124_35, q_124_36, q_124_37, q_124_38, q_124_39, q_124_42, q_124_43, q_124_44, q_124_47, q_124_48, q_124_51, aft_i, aft_l, aft_v, Int.toNat_natCast, kd_sI, kd_sL, kd_sR, kd_cp, gI_sL, gI_sR, gL_sI, gL_sR, gR_sI, gR_sL, gL_cp, gR_cp, kd_aI, gL_aI, gR_aI, gI_aI, gI_aIn, sI_aI, gI_sIn, Int.reduceToNat, Int.reduceAdd, Int.reduceSub, Int.reduceMul, Int.reduceNeg, Int.zero_add, e]
def sawS (σ : Sg) (a b : Int) : Int × List (Nat × Nat) := if (0 ≤ a ∧ a < tN (zT σ)) ∧ (0 ≤ b ∧ b < tN (zT σ)) ∧ a ≠ b then (if (zS σ).length = 6 then (-3, zS σ) else ((zS σ).length + 1, zS σ ++ [(a.toNat, b.toNat)])) else (-1, zS σ)
theorem mSaw_ok (d : Nat) (h : mH) (L : LAY h) (σ : Sg) (w : wfS σ) (m : MI h σ) (a b : Int) : mOK (d + 3) 183 [Sum.inl a, Sum.inl b] h (Sum.inl (sawS σ a b).1) (zup σ (zX σ) (sawS σ a b).2 (zR σ)) := by
  have L0 := L
  have m5 := m.2.2.2.2.1
  have w6 := w.2.2.2.1
  have c7 := w.1.1
  obtain ⟨k141, j141⟩ := lay_k L (a := 141) (t := 8) (n := 26) rfl; obtain ⟨k156, j156⟩ := lay_k L (a := 156) (t := 100) (n := 6) rfl; obtain ⟨k157, j157⟩ := lay_k L (a := 157) (t := 100) (n := 6) rfl; have r141_23 : gR h 141 23 = some 156 := lay_r L rfl; have r141_24 : gR h 141 24 = some 157 := lay_r L rfl
  unfold sawS
  by_cases q : 0 ≤ a ∧ a < tN (zT σ)
  · have e := mCart_t d h L a _ m.1.1 q c7
    by_cases q2 : 0 ≤ b ∧ b < tN (zT σ)
    · have e2 := mCart_t d h L b _ m.1.1 q2 c7
      by_cases q3 : a = b
      · rw [if_neg (fun z => z.2.2 q3)]
        refine mOK_s L m ?_
        rw [en_183]
        simp (disch := (first | omega | (simp only [kd_sI, kd_sL, kd_sR, kd_cp, kd_aI]; omega) | (unfold catV; exact rfl) | (unfold catS; exact Nat.le_of_ble_eq_true rfl) | assumption)) only [q_183_0, q_183_1, q_183_2, q_183_5_t, q_183_5_f, q_183_8, q_183_9, q_183_10, q_183_13_t, q_183_13_f, q_183_16, q_183_17, q_183_18_t, q_183_18_f, q_183_21, q_183_22, q_183_23, q_183_24, q_183_27, q_183_29_t, q_183_29_f, q_183_32, q_183_34, q_183_35, q_183_36, q_183_39, q_183_40, q_183_43, q_183_44, q_183_45, q_183_46, q_183_49, q_183_50, q_183_53, q_183_54, q_183_55, q_183_56, q_183_57, q_183_60, q_183_61, q_183_62, q_183_65, q_183_66, q_183_69, aft_i, aft_l, aft_v, Int.toNat_natCast, kd_sI, kd_sL, kd_sR, kd_cp, gI_sL, gI_sR, gL_sI, gL_sR, gR_sI, gR_sL, gL_cp, gR_cp, kd_aI, gL_aI, gR_aI, gI_aI, gI_aIn, sI_aI, gI_sIn, Int.reduceToNat, Int.reduceAdd, Int.reduceSub, Int.reduceMul, Int.reduceNeg, Int.zero_add, e, e2]
      · rw [if_pos ⟨q, q2, q3⟩]
        by_cases z : (zS σ).length = 6
        · rw [if_pos z]
          refine mOK_s L m ?_
          rw [z] at m5
          rw [en_183]
          simp (disch := (first | omega | (simp only [kd_sI, kd_sL, kd_sR, kd_cp, kd_aI]; omega) | (unfold catV; exact rfl) | (unfold catS; exact Nat.le_of_ble_eq_true rfl) | assumption)) only [q_183_0, q_183_1, q_183_2, q_183_5_t, q_183_5_f, q_183_8, q_183_9, q_183_10, q_183_13_t, q_183_13_f, q_183_16, q_183_17, q_183_18_t, q_183_18_f, q_183_21, q_183_22, q_183_23, q_183_24, q_183_27, q_183_29_t, q_183_29_f, q_183_32, q_183_34, q_183_35, q_183_36, q_183_39, q_183_40, q_183_43, q_183_44, q_183_45, q_183_46, q_183_49, q_183_50, q_183_53, q_183_54, q_183_55, q_183_56, q_183_57, q_183_60, q_183_61, q_183_62, q_183_65, q_183_66, q_183_69, aft_i, aft_l, aft_v, Int.toNat_natCast, kd_sI, kd_sL, kd_sR, kd_cp, gI_sL, gI_sR, gL_sI, gL_sR, gR_sI, gR_sL, gL_cp, gR_cp, kd_aI, gL_aI, gR_aI, gI_aI, gI_aIn, sI_aI, gI_sIn, Int.reduceToNat, Int.reduceAdd, Int.reduceSub, Int.reduceMul, Int.reduceNeg, Int.zero_add, e, e2, m5]
        · rw [if_neg z]
          have z2 : ((zS σ).length : Int) ≠ 6 := by omega
          refine mOK_w (g := sI (sI (sI h 156 (zS σ).length a) 157 (zS σ).length b) 141 25 (((zS σ).length : Int) + 1)) ?_ (frm_tr (frm_tr (frm_sI (by omega) (by omega)) (frm_sI (by omega) (by omega))) (frm_sI (by omega) (by omega))) (lay_sI (lay_sI (lay_sI L0 _ _ _) _ _ _) _ _ _) (MI_up m (fun q _ _ => by rw [gI_sIn (by omega), gI_sIn (by omega), gI_sIn (by omega)]) ?_ (fun k q => ?_) ?_ (fun k q => ?_) m.2.2.2.2.2.2.2.2)
          · rw [en_183]
            simp (disch := (first | omega | (simp only [kd_sI, kd_sL, kd_sR, kd_cp, kd_aI]; omega) | (unfold catV; exact rfl) | (unfold catS; exact Nat.le_of_ble_eq_true rfl) | assumption)) only [q_183_0, q_183_1, q_183_2, q_183_5_t, q_183_5_f, q_183_8, q_183_9, q_183_10, q_183_13_t, q_183_13_f, q_183_16, q_183_17, q_183_18_t, q_183_18_f, q_183_21, q_183_22, q_183_23, q_183_24, q_183_27, q_183_29_t, q_183_29_f, q_183_32, q_183_34, q_183_35, q_183_36, q_183_39, q_183_40, q_183_43, q_183_44, q_183_45, q_183_46, q_183_49, q_183_50, q_183_53, q_183_54, q_183_55, q_183_56, q_183_57, q_183_60, q_183_61, q_183_62, q_183_65, q_183_66, q_183_69, aft_i, aft_l, aft_v, Int.toNat_natCast, kd_sI, kd_sL, kd_sR, kd_cp, gI_sL, gI_sR, gL_sI, gL_sR, gR_sI, gR_sL, gL_cp, gR_cp, kd_aI, gL_aI, gR_aI, gI_aI, gI_aIn, sI_aI, gI_sIn, Int.reduceToNat, Int.reduceAdd, Int.reduceSub, Int.reduceMul, Int.reduceNeg, Int.zero_add, e, e2, m5, r141_23, r141_24, gI_sIs]
          · rw [gI_sI, if_pos ⟨rfl, rfl⟩, List.length_append, List.length_singleton]; rfl
          · rw [List.length_append, List.length_singleton] at q
            rw [gI_sIn (by omega), gI_sIn (by omega), gI_sIn (b := 157) (by omega), gI_sI, gI_sI, gI_sIn (by omega)]
            by_cases y : k < (zS σ).length
            · rw [if_neg (by omega), if_neg (by omega)]
              simp only [List.getElem_append_left y]
              exact m.2.2.2.2.2.1 k y
            · have : k = (zS σ).length := by omega
              subst this
              rw [if_pos ⟨rfl, rfl⟩, if_pos ⟨rfl, rfl⟩]
              simp only [List.getElem_concat_length]
              omega
          · rw [gI_sI, if_neg (by omega), gI_sIn (by omega), gI_sIn (by omega)]; exact m.2.2.2.2.2.2.1
          · rw [gI_sIn (by omega), gI_sIn (by omega), gI_sIn (by omega)]; exact m.2.2.2.2.2.2.2.1 k q
    · have e2 := mCart_f d h L b _ m.1.1 q2 c7
      rw [if_neg (fun z => q2 z.2.1)]
      refine mOK_s L m ?_
      rw [en_183]
      simp (disch := (first | omega | (simp only [kd_sI, kd_sL, kd_sR, kd_cp, kd_aI]; omega) | (unfold catV; exact rfl) | (unfold catS; exact Nat.le_of_ble_eq_true rfl) | assumption)) only [q_183_0, q_183_1, q_183_2, q_183_5_t, q_183_5_f, q_183_8, q_183_9, q_183_10, q_183_13_t, q_183_13_f, q_183_16, q_183_17, q_183_18_t, q_183_18_f, q_183_21, q_183_22, q_183_23, q_183_24, q_183_27, q_183_29_t, q_183_29_f, q_183_32, q_183_34, q_183_35, q_183_36, q_183_39, q_183_40, q_183_43, q_183_44, q_183_45, q_183_46, q_183_49, q_183_50, q_183_53, q_183_54, q_183_55, q_183_56, q_183_57, q_183_60, q_183_61, q_183_62, q_183_65, q_183_66, q_183_69, aft_i, aft_l, aft_v, Int.toNat_natCast, kd_sI, kd_sL, kd_sR, kd_cp, gI_sL, gI_sR, gL_sI, gL_sR, gR_sI, gR_sL, gL_cp, gR_cp, kd_aI, gL_aI, gR_aI, gI_aI, gI_aIn, sI_aI, gI_sIn, Int.reduceToNat, Int.reduceAdd, Int.reduceSub, Int.reduceMul, Int.reduceNeg, Int.zero_add, e, e2]
  · have e := mCart_f d h L a _ m.1.1 q c7
    rw [if_neg (fun z => q z.1)]
    refine mOK_s L m ?_
    rw [en_183]
    simp (disch := (first | omega | (simp only [kd_sI, kd_sL, kd_sR, kd_cp, kd_aI]; omega) | (unfold catV; exact rfl) | (unfold catS; exact Nat.le_of_ble_eq_true rfl) | assumption)) only [q_183_0, q_183_1, q_183_2, q_183_5_t, q_183_5_f, q_183_8, q_183_9, q_183_10, q_183_13_t, q_183_13_f, q_183_16, q_183_17, q_183_18_t, q_183_18_f, q_183_21, q_183_22, q_183_23, q_183_24, q_183_27, q_183_29_t, q_183_29_f, q_183_32, q_183_34, q_183_35, q_183_36, q_183_39, q_183_40, q_183_43, q_183_44, q_183_45, q_183_46, q_183_49, q_183_50, q_183_53, q_183_54, q_183_55, q_183_56, q_183_57, q_183_60, q_183_61, q_183_62, q_183_65, q_183_66, q_183_69, aft_i, aft_l, aft_v, Int.toNat_natCast, kd_sI, kd_sL, kd_sR, kd_cp, gI_sL, gI_sR, gL_sI, gL_sR, gR_sI, gR_sL, gL_cp, gR_cp, kd_aI, gL_aI, gR_aI, gI_aI, gI_aIn, sI_aI, gI_sIn, Int.reduceToNat, Int.reduceAdd, Int.reduceSub, Int.reduceMul, Int.reduceNeg, Int.zero_add, e]
