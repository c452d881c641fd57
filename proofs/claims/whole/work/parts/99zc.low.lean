theorem CI_low {h g : mH} {σ : Sg} (f : ∀ q, q < 141 → gI g q = gI h q ∧ gL g q = gL h q ∧ gR g q = gR h q) (c : CI h σ) : CI g σ := by
  have eI : ∀ q k, q < 141 → gI g q k = gI h q k := fun q k n => by rw [(f q n).1]
  have eL : ∀ q k, q < 141 → gL g q k = gL h q k := fun q k n => by rw [(f q n).2.1]
  have er : ∀ q k, q < 141 → gR g q k = gR h q k := fun q k n => by rw [(f q n).2.2]
  obtain ⟨⟨m1, ⟨π, m2⟩, m3, m4, m5, m6, m7, m8, m9⟩, ⟨c1, c2, c3, c4⟩, bk⟩ := c
  refine ⟨⟨?_, ⟨π, scA_cg (fun q k x y => eI q k (by omega)) (fun q k x y => eL q k (by omega)) (fun k => er _ k (by omega)) m2⟩, fun i hi => ?_, ?_, fun k q => ?_, ?_, fun k q => ?_, ?_, ?_⟩, ⟨fun k hk => ?_, ?_, ?_, fun w k a b f => ?_⟩, ?_⟩
  · obtain ⟨a1, a2, a3, a4, a5, a6⟩ := m1
    refine ⟨?_, ?_, ?_, ?_, fun c hc => ?_, fun k hk => ?_⟩
    · rw [eI 3 4 (by omega)]; exact a1
    · rw [eI 3 5 (by omega)]; exact a2
    · rw [eI 3 6 (by omega)]; exact a3
    · rw [eI 3 7 (by omega)]; exact a4
    · rw [eI 5 c (by omega), eI 6 c (by omega)]; exact a5 c hc
    · rw [eI 7 k (by omega)]; exact a6 k hk
  · obtain ⟨⟨ρ, a1⟩, a2, a3⟩ := m3 i hi
    refine ⟨⟨ρ, fun j hj => ⟨(a1.1 j hj).1, by rw [er _ _ (by omega)]; exact (a1.1 j hj).2⟩, a1.2⟩, ?_, fun N P e => ?_⟩
    · rw [eI _ 3 (by omega)]; exact a2
    · obtain ⟨ρ, x⟩ := a3 N P e
      exact ⟨ρ, scA_cg (fun q k x y => eI q k (by omega)) (fun q k x y => eL q k (by omega)) (fun k => er _ k (by omega)) x⟩
  · rw [eI 0 13 (by omega)]; exact m4
  · rw [eI 137 k (by omega), eI 138 k (by omega)]; exact m5 k q
  · rw [eI 1 1 (by omega)]; exact m6
  · rw [eI 2 k (by omega)]; exact m7 k q
  · rw [eL 0 14 (by omega)]; exact m8
  · unfold brR at *
    rw [er 133 1 (by omega), er 133 2 (by omega)]; exact m9
  · rw [eI 128 k (by omega)]; exact c1 k hk
  · rw [eI 0 7 (by omega)]; exact c2
  · rw [eI 119 1 (by omega)]; exact c3
  · rw [eI (121 + w) k (by omega)]; exact c4 w k a b f
  · rcases bk with b0 | ⟨b0, b, b1, b2, b3, b4, b5⟩
    · left
      rw [eI 0 9 (by omega)]; exact b0
    · right
      refine ⟨?_, b, b1, ?_, ?_, ?_, rwO_congr (fun i hi => eI 130 _ (by omega)) b5⟩
      · rw [eI 0 9 (by omega)]; exact b0
      · rw [eI 129 1 (by omega)]; exact b2
      · rw [eI 129 2 (by omega)]; exact b3
      · rw [eI 129 1 (by omega), eI 129 3 (by omega)]; exact b4
theorem nwR_low {h : mH} {t n a k : Nat} (l : 141 ≤ h.1.length) (ha : 141 ≤ a) : ∀ q, q < 141 → gI (nwR h t n a k) q = gI h q ∧ gL (nwR h t n a k) q = gL h q ∧ gR (nwR h t n a k) q = gR h q := by
  intro q hq
  refine ⟨funext (fun j => ?_), funext (fun j => ?_), funext (fun j => ?_)⟩
  · show (if q = h.1.length then 0 else gI h q j) = _
    rw [if_neg (by omega)]
  · show (if q = h.1.length then 0 else gL h q j) = _
    rw [if_neg (by omega)]
  · unfold nwR
    rw [gR_sR, if_neg (by omega), nw_R (by omega)]
