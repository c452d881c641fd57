section STA
variable {p : Program} {l : Launch} {e : Env} {R : Room} {s : State} {m : MethodId} {args : Array Value} {below : List Frame} {meth : Method} {c : Code} {Q : State → Prop} {dC : Nat → ClassId} {dI : Nat → Nat → Nat} {A : Nat → Prop} {H0 : Heap} {ads0 : List (Nat × Nat)} {sh0 : List (Nat × Nat)}
variable {cc : ByteArray} {pc : Nat} {L st : List mV} {h : mH} {k : mC}
theorem go_inv {pc2 : Nat} (hg : go pc2 L st h = some (.inl k)) : k = (pc2, L, st, h) := by unfold go at hg; cases hg; rfl
theorem w_pInt {n : Nat} {x : Int} (hs : pInt n x pc L st h = some (.inl k)) (hx : inR x) (row : ∀ {H locs ls cells slots rest}, W p l e R s m args below meth c H locs cells slots Q (F0 m (pc + n) ls (.int (Int32.ofInt x) :: rest)) → W p l e R s m args below meth c H locs cells slots Q (F0 m pc ls rest)) (kk : WI p l e R s m args below meth c Q dC dI A H0 ads0 sh0 k) : WI p l e R s m args below meth c Q dC dI A H0 ads0 sh0 (pc, L, st, h) := by
  have hk := go_inv hs
  subst hk
  intro ads tys H locs ls hI hl hn hL hS
  exact row (kk ads tys H locs ls hI hl hn hL (ok_c hx hS))
theorem w_pLng {n : Nat} {x : Int} (hs : pLng n x pc L st h = some (.inl k)) (hx : inL x) (row : ∀ {H locs ls cells slots rest}, W p l e R s m args below meth c H locs cells slots Q (F0 m (pc + n) ls (.long (Int64.ofInt x) :: rest)) → W p l e R s m args below meth c H locs cells slots Q (F0 m pc ls rest)) (kk : WI p l e R s m args below meth c Q dC dI A H0 ads0 sh0 k) : WI p l e R s m args below meth c Q dC dI A H0 ads0 sh0 (pc, L, st, h) := by
  have hk := go_inv hs
  subst hk
  intro ads tys H locs ls hI hl hn hL hS
  exact row (kk ads tys H locs ls hI hl hn hL (ok_c hx hS))
theorem w_ldI {n i : Nat} (hs : ldI n i pc L st h = some (.inl k)) (row : ∀ {H locs ls cells slots rest} {x : Int32}, ls[i]? = some (.val (.int x)) → W p l e R s m args below meth c H locs cells slots Q (F0 m (pc + n) ls (.int x :: rest)) → W p l e R s m args below meth c H locs cells slots Q (F0 m pc ls rest)) (kk : WI p l e R s m args below meth c Q dC dI A H0 ads0 sh0 k) : WI p l e R s m args below meth c Q dC dI A H0 ads0 sh0 (pc, L, st, h) := by
  unfold ldI at hs
  split at hs
  next x hx =>
    have hk := go_inv hs
    subst hk
    intro ads tys H locs ls hI hl hn hL hS
    exact row (lr_get hl hx (fun q => by cases q)) (kk ads tys H locs ls hI hl hn hL (ok_c (by have := ok_ld hL i; rw [hx] at this; exact this) hS))
  next => cases hs
theorem w_ldL {n i : Nat} (hs : ldL n i pc L st h = some (.inl k)) (row : ∀ {H locs ls cells slots rest} {x : Int64}, ls[i]? = some (.val (.long x)) → W p l e R s m args below meth c H locs cells slots Q (F0 m (pc + n) ls (.long x :: rest)) → W p l e R s m args below meth c H locs cells slots Q (F0 m pc ls rest)) (kk : WI p l e R s m args below meth c Q dC dI A H0 ads0 sh0 k) : WI p l e R s m args below meth c Q dC dI A H0 ads0 sh0 (pc, L, st, h) := by
  unfold ldL at hs
  split at hs
  next x hx =>
    have hk := go_inv hs
    subst hk
    intro ads tys H locs ls hI hl hn hL hS
    exact row (lr_get hl hx (fun q => by cases q)) (kk ads tys H locs ls hI hl hn hL (ok_c (by have := ok_ld hL i; rw [hx] at this; exact this) hS))
  next => cases hs
theorem w_ldA {n i : Nat} (hs : ldA n i pc L st h = some (.inl k)) (row : ∀ {H locs ls cells slots rest} {x : Nat}, ls[i]? = some (.val (.ref x)) → W p l e R s m args below meth c H locs cells slots Q (F0 m (pc + n) ls (.ref x :: rest)) → W p l e R s m args below meth c H locs cells slots Q (F0 m pc ls rest)) (kk : WI p l e R s m args below meth c Q dC dI A H0 ads0 sh0 k) : WI p l e R s m args below meth c Q dC dI A H0 ads0 sh0 (pc, L, st, h) := by
  unfold ldA at hs
  split at hs
  next x hx =>
    have hk := go_inv hs
    subst hk
    intro ads tys H locs ls hI hl hn hL hS
    exact row (lr_get hl hx (fun q => by cases q)) (kk ads tys H locs ls hI hl hn hL (ok_c (by have := ok_ld hL i; rw [hx] at this; exact this) hS))
  next => cases hs
theorem w_stI {n i : Nat} (hs : stI n i pc L st h = some (.inl k)) (row : ∀ {H locs ls cells slots rest nL} {x : Int32} {lv : List (Nat × Value)}, lv_has ls nL lv → i < nL → (∀ ls2, lv_has ls2 nL ((i, Value.int x) :: lv.filter (fun q => !(q.1 == i) && !(q.1 + 1 == i && q.2.category == 2))) → W p l e R s m args below meth c H locs cells slots Q (F0 m (pc + n) ls2 rest)) → W p l e R s m args below meth c H locs cells slots Q (F0 m pc ls (.int x :: rest))) (kk : WI p l e R s m args below meth c Q dC dI A H0 ads0 sh0 k) : WI p l e R s m args below meth c Q dC dI A H0 ads0 sh0 (pc, L, st, h) := by
  unfold stI at hs
  split at hs
  next x r =>
    split at hs
    next hi =>
      have hk := go_inv hs
      subst hk
      intro ads tys H locs ls hI hl hn hL hS
      exact row hl hi fun ls2 h2 => kk ads tys H locs ls2 hI (lr_s1 (v := vI x) hi h2) (by simp [s1, kl_len]; exact hn) (ok_s1 hL (ok_h hS)) (ok_t hS)
    next => cases hs
  next => cases hs
theorem w_stA {n i : Nat} (hs : stA n i pc L st h = some (.inl k)) (row : ∀ {H locs ls cells slots rest nL} {x : Nat} {lv : List (Nat × Value)}, lv_has ls nL lv → i < nL → (∀ ls2, lv_has ls2 nL ((i, Value.ref x) :: lv.filter (fun q => !(q.1 == i) && !(q.1 + 1 == i && q.2.category == 2))) → W p l e R s m args below meth c H locs cells slots Q (F0 m (pc + n) ls2 rest)) → W p l e R s m args below meth c H locs cells slots Q (F0 m pc ls (.ref x :: rest))) (kk : WI p l e R s m args below meth c Q dC dI A H0 ads0 sh0 k) : WI p l e R s m args below meth c Q dC dI A H0 ads0 sh0 (pc, L, st, h) := by
  unfold stA at hs
  split at hs
  next x r =>
    split at hs
    next hi =>
      have hk := go_inv hs
      subst hk
      intro ads tys H locs ls hI hl hn hL hS
      exact row hl hi fun ls2 h2 => kk ads tys H locs ls2 hI (lr_s1 (v := vR (some x)) hi h2) (by simp [s1, kl_len]; exact hn) (ok_s1 hL (ok_h hS)) (ok_t hS)
    next => cases hs
  next => cases hs
theorem w_stL {n i : Nat} (hs : stL n i pc L st h = some (.inl k)) (row : ∀ {H locs ls cells slots rest nL} {x : Int64} {lv : List (Nat × Value)}, lv_has ls nL lv → i + 1 < nL → (∀ ls2, lv_has ls2 nL ((i, Value.long x) :: lv.filter (fun q => !(q.1 == i) && (!(q.1 == i + 1) && !(q.1 + 1 == i && q.2.category == 2)))) → W p l e R s m args below meth c H locs cells slots Q (F0 m (pc + n) ls2 rest)) → W p l e R s m args below meth c H locs cells slots Q (F0 m pc ls (.long x :: rest))) (kk : WI p l e R s m args below meth c Q dC dI A H0 ads0 sh0 k) : WI p l e R s m args below meth c Q dC dI A H0 ads0 sh0 (pc, L, st, h) := by
  unfold stL at hs
  split at hs
  next x r =>
    split at hs
    next hi =>
      have hk := go_inv hs
      subst hk
      intro ads tys H locs ls hI hl hn hL hS
      exact row hl hi fun ls2 h2 => kk ads tys H locs ls2 hI (lr_s2 (v := vL x) hi h2) (by simp [s2, kl_len]; exact hn) (ok_s2 hL (ok_h hS)) (ok_t hS)
    next => cases hs
  next => cases hs
theorem lv_ix {ads : List (Nat × Nat)} {i : Nat} {x : Int} (hx : ld L i = vI x) : ∃ q : Nat, (lvA ads L)[q]? = some (i, Value.int (Int32.ofInt x)) := by
  have h1 := lv_mem (ads := ads) (ld_lt (L := L) (i := i) (by rw [hx]; intro q; cases q)) (by rw [hx]; intro q; cases q)
  rw [hx] at h1
  exact List.getElem?_of_mem h1
theorem w_inc {i : Nat} {n : Int} (hs : inc i n pc L st h = some (.inl k)) (hx : p.tables.exec = Jvm.exec) (hb : c.code = cc) (hd : decode cc pc = .ok (.iinc i n, 3)) (kk : WI p l e R s m args below meth c Q dC dI A H0 ads0 sh0 k) : WI p l e R s m args below meth c Q dC dI A H0 ads0 sh0 (pc, L, st, h) := by
  unfold inc at hs
  split at hs
  next x hxl =>
    have hk := go_inv hs
    subst hk
    intro ads tys H locs ls hI hl hn hL hS
    obtain ⟨q, hq⟩ := lv_ix (ads := ads) hxl
    have hi : i < L.length := ld_lt (by rw [hxl]; intro q; cases q)
    exact lv_iinc hx hb hd hl hq (by rw [wr_of, Int32.ofInt_add]) hi rfl fun ls2 h2 => kk ads tys H locs ls2 hI (lr_s1 (v := vI (wr (x + n))) hi h2) (by simp [s1, kl_len]; exact hn) (ok_s1 hL (t32_in _)) hS
  next => cases hs
theorem w_b2I {f : Int → Int → Int} {g : Int32 → Int32 → Int32} (hs : b2I f pc L st h = some (.inl k)) (hf : ∀ x y, Int32.ofInt (f x y) = g (Int32.ofInt x) (Int32.ofInt y) ∧ inR (f x y)) (row : ∀ {H locs ls cells slots rest} {x y : Int32}, W p l e R s m args below meth c H locs cells slots Q (F0 m (pc + 1) ls (.int (g x y) :: rest)) → W p l e R s m args below meth c H locs cells slots Q (F0 m pc ls (.int y :: .int x :: rest))) (kk : WI p l e R s m args below meth c Q dC dI A H0 ads0 sh0 k) : WI p l e R s m args below meth c Q dC dI A H0 ads0 sh0 (pc, L, st, h) := by
  unfold b2I at hs
  split at hs
  next y x r =>
    have hk := go_inv hs
    subst hk
    intro ads tys H locs ls hI hl hn hL hS
    have h1 := kk ads tys H locs ls hI hl hn hL (ok_c (hf x y).2 (ok_t (ok_t hS)))
    refine row ?_
    rw [← (hf x y).1]
    exact h1
  next => cases hs
theorem w_b2O {f : Int → Int → Option Int} {g : Int32 → Int32 → Int32} (hs : b2O f pc L st h = some (.inl k)) (hf : ∀ x y z, inR x → inR y → f x y = some z → Int32.ofInt z = g (Int32.ofInt x) (Int32.ofInt y) ∧ inR z ∧ y ≠ 0) (row : ∀ {H locs ls cells slots rest} {x y : Int32}, ¬ y = 0 → W p l e R s m args below meth c H locs cells slots Q (F0 m (pc + 1) ls (.int (g x y) :: rest)) → W p l e R s m args below meth c H locs cells slots Q (F0 m pc ls (.int y :: .int x :: rest))) (kk : WI p l e R s m args below meth c Q dC dI A H0 ads0 sh0 k) : WI p l e R s m args below meth c Q dC dI A H0 ads0 sh0 (pc, L, st, h) := by
  unfold b2O at hs
  split at hs
  next y x r =>
    split at hs
    next z hz =>
      have hk := go_inv hs
      subst hk
      intro ads tys H locs ls hI hl hn hL hS
      obtain ⟨f1, f2, f3⟩ := hf x y z (ok_h (ok_t hS)) (ok_h hS) hz
      have h1 := kk ads tys H locs ls hI hl hn hL (ok_c f2 (ok_t (ok_t hS)))
      refine row (fun q => f3 ((i32_eq (ok_h hS) ⟨by decide, by decide⟩).mp q)) ?_
      rw [← f1]
      exact h1
    next => cases hs
  next => cases hs
theorem w_b2L {f : Int → Int → Int} {g : Int64 → Int64 → Int64} (hs : b2L f pc L st h = some (.inl k)) (hf : ∀ x y, Int64.ofInt (f x y) = g (Int64.ofInt x) (Int64.ofInt y) ∧ inL (f x y)) (row : ∀ {H locs ls cells slots rest} {x y : Int64}, W p l e R s m args below meth c H locs cells slots Q (F0 m (pc + 1) ls (.long (g x y) :: rest)) → W p l e R s m args below meth c H locs cells slots Q (F0 m pc ls (.long y :: .long x :: rest))) (kk : WI p l e R s m args below meth c Q dC dI A H0 ads0 sh0 k) : WI p l e R s m args below meth c Q dC dI A H0 ads0 sh0 (pc, L, st, h) := by
  unfold b2L at hs
  split at hs
  next y x r =>
    have hk := go_inv hs
    subst hk
    intro ads tys H locs ls hI hl hn hL hS
    have h1 := kk ads tys H locs ls hI hl hn hL (ok_c (hf x y).2 (ok_t (ok_t hS)))
    refine row ?_
    rw [← (hf x y).1]
    exact h1
  next => cases hs
theorem w_sfL {f : Int → Int → Int} {g : Int64 → Int32 → Int64} (hs : sfL f pc L st h = some (.inl k)) (hf : ∀ x y, Int64.ofInt (f x y) = g (Int64.ofInt x) (Int32.ofInt y) ∧ inL (f x y)) (row : ∀ {H locs ls cells slots rest} {x : Int64} {y : Int32}, W p l e R s m args below meth c H locs cells slots Q (F0 m (pc + 1) ls (.long (g x y) :: rest)) → W p l e R s m args below meth c H locs cells slots Q (F0 m pc ls (.int y :: .long x :: rest))) (kk : WI p l e R s m args below meth c Q dC dI A H0 ads0 sh0 k) : WI p l e R s m args below meth c Q dC dI A H0 ads0 sh0 (pc, L, st, h) := by
  unfold sfL at hs
  split at hs
  next y x r =>
    have hk := go_inv hs
    subst hk
    intro ads tys H locs ls hI hl hn hL hS
    have h1 := kk ads tys H locs ls hI hl hn hL (ok_c (hf x y).2 (ok_t (ok_t hS)))
    refine row ?_
    rw [← (hf x y).1]
    exact h1
  next => cases hs
theorem cmpL_in (x y : Int) : inR (cmpL x y) := by
  unfold cmpL
  split
  · exact ⟨by decide, by decide⟩
  · split <;> exact ⟨by decide, by decide⟩
theorem w_cmp2 (hs : cmp2 pc L st h = some (.inl k)) (hx : p.tables.exec = Jvm.exec) (hb : c.code = cc) (hd : decode cc pc = .ok (.lcmp, 1)) (kk : WI p l e R s m args below meth c Q dC dI A H0 ads0 sh0 k) : WI p l e R s m args below meth c Q dC dI A H0 ads0 sh0 (pc, L, st, h) := by
  unfold cmp2 at hs
  split at hs
  next y x r =>
    have hk := go_inv hs
    subst hk
    intro ads tys H locs ls hI hl hn hL hS
    have h1 := kk ads tys H locs ls hI hl hn hL (ok_c (cmpL_in x y) (ok_t (ok_t hS)))
    refine W.lcmp hx hb hd ?_
    have e1 : lg_cmp (Int64.ofInt x) (Int64.ofInt y) = Int32.ofInt (cmpL x y) := by
      have iy := ok_h hS
      have ix := ok_h (ok_t hS)
      unfold lg_cmp cmpL
      simp only [gt_iff_lt, i64_lt iy ix, i64_eq ix iy]
      by_cases a : x < y
      · rw [if_neg (by omega), if_neg (by omega), if_pos a]; rfl
      · by_cases b : x = y
        · rw [if_neg (by omega), if_pos b, if_neg a, if_pos b]; rfl
        · rw [if_pos (by omega), if_neg a, if_neg b]; rfl
    rw [e1]
    exact h1
  next => cases hs
theorem w_u1L (hs : u1L pc L st h = some (.inl k)) (hx : p.tables.exec = Jvm.exec) (hb : c.code = cc) (hd : decode cc pc = .ok (.l2i, 1)) (kk : WI p l e R s m args below meth c Q dC dI A H0 ads0 sh0 k) : WI p l e R s m args below meth c Q dC dI A H0 ads0 sh0 (pc, L, st, h) := by
  unfold u1L at hs
  split at hs
  next x r =>
    have hk := go_inv hs
    subst hk
    intro ads tys H locs ls hI hl hn hL hS
    have h1 := kk ads tys H locs ls hI hl hn hL (ok_c (t32_in _) (ok_t hS))
    exact lv_l2i hx hb hd (Int32.ofInt_toInt _).symm h1
  next => cases hs
theorem w_u1B (hs : u1B pc L st h = some (.inl k)) (hx : p.tables.exec = Jvm.exec) (hb : c.code = cc) (hd : decode cc pc = .ok (.i2b, 1)) (kk : WI p l e R s m args below meth c Q dC dI A H0 ads0 sh0 k) : WI p l e R s m args below meth c Q dC dI A H0 ads0 sh0 (pc, L, st, h) := by
  unfold u1B at hs
  split at hs
  next x r =>
    have hk := go_inv hs
    subst hk
    intro ads tys H locs ls hI hl hn hL hS
    have h1 := kk ads tys H locs ls hI hl hn hL (ok_c (t32_in _) (ok_t hS))
    exact lv_i2b hx hb hd (Int32.ofInt_toInt _).symm h1
  next => cases hs
theorem w_dup1 (hs : dup1 pc L st h = some (.inl k)) (hx : p.tables.exec = Jvm.exec) (hb : c.code = cc) (hd : decode cc pc = .ok (.dup, 1)) (kk : WI p l e R s m args below meth c Q dC dI A H0 ads0 sh0 k) : WI p l e R s m args below meth c Q dC dI A H0 ads0 sh0 (pc, L, st, h) := by
  unfold dup1 at hs
  split at hs
  next v r =>
    split at hs
    next hv =>
      have hk := go_inv hs
      subst hk
      intro ads tys H locs ls hI hl hn hL hS
      exact lv_dup hx hb hd (by rw [rV_cat]; exact hv) (kk ads tys H locs ls hI hl hn hL (ok_c (ok_h hS) hS))
    next => cases hs
  next => cases hs
theorem w_dup22 (hs : dup22 pc L st h = some (.inl k)) (hx : p.tables.exec = Jvm.exec) (hb : c.code = cc) (hd : decode cc pc = .ok (.dup2, 1)) (kk : WI p l e R s m args below meth c Q dC dI A H0 ads0 sh0 k) : WI p l e R s m args below meth c Q dC dI A H0 ads0 sh0 (pc, L, st, h) := by
  unfold dup22 at hs
  split at hs
  next v w r =>
    split at hs
    next hv =>
      have hk := go_inv hs
      subst hk
      intro ads tys H locs ls hI hl hn hL hS
      exact lv_dup2_11 hx hb hd (by rw [rV_cat]; exact hv.1) (by rw [rV_cat]; exact hv.2) (kk ads tys H locs ls hI hl hn hL (ok_c (ok_h hS) (ok_c (ok_h (ok_t hS)) hS)))
    next => cases hs
  next => cases hs
theorem w_pop1 (hs : pop1 pc L st h = some (.inl k)) (hx : p.tables.exec = Jvm.exec) (hb : c.code = cc) (hd : decode cc pc = .ok (.pop, 1)) (kk : WI p l e R s m args below meth c Q dC dI A H0 ads0 sh0 k) : WI p l e R s m args below meth c Q dC dI A H0 ads0 sh0 (pc, L, st, h) := by
  unfold pop1 at hs
  split at hs
  next v r =>
    split at hs
    next hv =>
      have hk := go_inv hs
      subst hk
      intro ads tys H locs ls hI hl hn hL hS
      exact lv_pop hx hb hd (by rw [rV_cat]; exact hv) (kk ads tys H locs ls hI hl hn hL (ok_t hS))
    next => cases hs
  next => cases hs
theorem jmp_inv {off : Int} (hs : jmp off pc L st h = some (.inl k)) : ∃ tgt : Nat, (pc : Int) + off = (tgt : Int) ∧ k = (tgt, L, st, h) := by
  unfold jmp at hs
  split at hs
  next h0 => exact ⟨((pc : Int) + off).toNat, by omega, go_inv hs⟩
  next => cases hs
theorem w_jmp {off : Int} (hs : jmp off pc L st h = some (.inl k)) (hx : p.tables.exec = Jvm.exec) (hb : c.code = cc) (hd : decode cc pc = .ok (.goto off, 3)) (kk : WI p l e R s m args below meth c Q dC dI A H0 ads0 sh0 k) : WI p l e R s m args below meth c Q dC dI A H0 ads0 sh0 (pc, L, st, h) := by
  obtain ⟨tgt, ht, hk⟩ := jmp_inv hs
  subst hk
  intro ads tys H locs ls hI hl hn hL hS
  exact lv_goto hx hb hd ht (kk ads tys H locs ls hI hl hn hL hS)
theorem tst_ok (q : Jvm.ClassFile.Cond) (x y : Int) : tst q x y = true ↔ (match q with | .eq => x = y | .ne => ¬ x = y | .lt => x < y | .ge => y ≤ x | .gt => y < x | .le => x ≤ y) := by
  cases q <;> simp [tst]
theorem w_br1 {q : Jvm.ClassFile.Cond} {off : Int} (hs : br1 q off pc L st h = some (.inl k)) (hx : p.tables.exec = Jvm.exec) (hb : c.code = cc) (hd : decode cc pc = .ok (.ifCond q off, 3)) (kk : WI p l e R s m args below meth c Q dC dI A H0 ads0 sh0 k) : WI p l e R s m args below meth c Q dC dI A H0 ads0 sh0 (pc, L, st, h) := by
  unfold br1 at hs
  split at hs
  next x r =>
    split at hs
    next h0 =>
      have h1 : (pc : Int) + off = ((((pc : Int) + off).toNat : Nat) : Int) := by omega
      intro ads tys H locs ls hI hl hn hL hS
      have hyr : inR 0 := ⟨by decide, by decide⟩
      have hxr : inR x := ok_h hS
      by_cases ht : tst q x 0 = true
      · rw [if_pos ht] at hs
        have hk := go_inv hs
        subst hk
        have w := kk ads tys H locs ls hI hl hn hL (ok_t hS)
        rw [tst_ok] at ht
        cases q <;> dsimp only at ht
        · exact lv_if_eq hx hb hd h1 (fun _ => w) (fun f => absurd ((i32_eq hxr hyr).mpr ht) f)
        · exact lv_if_ne hx hb hd h1 (fun _ => w) (fun f => absurd ((i32_eq hxr hyr).mp f) ht)
        · exact lv_if_lt hx hb hd h1 (fun _ => w) (fun f => absurd ((i32_lt hxr hyr).mpr ht) f)
        · exact lv_if_ge hx hb hd h1 (fun _ => w) (fun f => absurd ((i32_le hyr hxr).mpr ht) f)
        · exact lv_if_gt hx hb hd h1 (fun _ => w) (fun f => absurd ((i32_lt hyr hxr).mpr ht) f)
        · exact lv_if_le hx hb hd h1 (fun _ => w) (fun f => absurd ((i32_le hxr hyr).mpr ht) f)
      · rw [if_neg ht] at hs
        have hk := go_inv hs
        subst hk
        have w := kk ads tys H locs ls hI hl hn hL (ok_t hS)
        rw [tst_ok] at ht
        cases q <;> dsimp only at ht
        · exact lv_if_eq hx hb hd h1 (fun f => absurd ((i32_eq hxr hyr).mp f) ht) (fun _ => w)
        · exact lv_if_ne hx hb hd h1 (fun f => absurd (fun g => f ((i32_eq hxr hyr).mpr g)) ht) (fun _ => w)
        · exact lv_if_lt hx hb hd h1 (fun f => absurd ((i32_lt hxr hyr).mp f) ht) (fun _ => w)
        · exact lv_if_ge hx hb hd h1 (fun f => absurd ((i32_le hyr hxr).mp f) ht) (fun _ => w)
        · exact lv_if_gt hx hb hd h1 (fun f => absurd ((i32_lt hyr hxr).mp f) ht) (fun _ => w)
        · exact lv_if_le hx hb hd h1 (fun f => absurd ((i32_le hxr hyr).mp f) ht) (fun _ => w)
    next => cases hs
  next => cases hs
theorem w_br2 {q : Jvm.ClassFile.Cond} {off : Int} (hs : br2 q off pc L st h = some (.inl k)) (hx : p.tables.exec = Jvm.exec) (hb : c.code = cc) (hd : decode cc pc = .ok (.if_icmp q off, 3)) (kk : WI p l e R s m args below meth c Q dC dI A H0 ads0 sh0 k) : WI p l e R s m args below meth c Q dC dI A H0 ads0 sh0 (pc, L, st, h) := by
  unfold br2 at hs
  split at hs
  next y x r =>
    split at hs
    next h0 =>
      have h1 : (pc : Int) + off = ((((pc : Int) + off).toNat : Nat) : Int) := by omega
      intro ads tys H locs ls hI hl hn hL hS
      have hyr : inR y := ok_h hS
      have hxr : inR x := ok_h (ok_t hS)
      by_cases ht : tst q x y = true
      · rw [if_pos ht] at hs
        have hk := go_inv hs
        subst hk
        have w := kk ads tys H locs ls hI hl hn hL (ok_t (ok_t hS))
        rw [tst_ok] at ht
        cases q <;> dsimp only at ht
        · exact lv_icmp_eq hx hb hd h1 (fun _ => w) (fun f => absurd ((i32_eq hxr hyr).mpr ht) f)
        · exact lv_icmp_ne hx hb hd h1 (fun _ => w) (fun f => absurd ((i32_eq hxr hyr).mp f) ht)
        · exact lv_icmp_lt hx hb hd h1 (fun _ => w) (fun f => absurd ((i32_lt hxr hyr).mpr ht) f)
        · exact lv_icmp_ge hx hb hd h1 (fun _ => w) (fun f => absurd ((i32_le hyr hxr).mpr ht) f)
        · exact lv_icmp_gt hx hb hd h1 (fun _ => w) (fun f => absurd ((i32_lt hyr hxr).mpr ht) f)
        · exact lv_icmp_le hx hb hd h1 (fun _ => w) (fun f => absurd ((i32_le hxr hyr).mpr ht) f)
      · rw [if_neg ht] at hs
        have hk := go_inv hs
        subst hk
        have w := kk ads tys H locs ls hI hl hn hL (ok_t (ok_t hS))
        rw [tst_ok] at ht
        cases q <;> dsimp only at ht
        · exact lv_icmp_eq hx hb hd h1 (fun f => absurd ((i32_eq hxr hyr).mp f) ht) (fun _ => w)
        · exact lv_icmp_ne hx hb hd h1 (fun f => absurd (fun g => f ((i32_eq hxr hyr).mpr g)) ht) (fun _ => w)
        · exact lv_icmp_lt hx hb hd h1 (fun f => absurd ((i32_lt hxr hyr).mp f) ht) (fun _ => w)
        · exact lv_icmp_ge hx hb hd h1 (fun f => absurd ((i32_le hyr hxr).mp f) ht) (fun _ => w)
        · exact lv_icmp_gt hx hb hd h1 (fun f => absurd ((i32_lt hyr hxr).mp f) ht) (fun _ => w)
        · exact lv_icmp_le hx hb hd h1 (fun f => absurd ((i32_le hxr hyr).mp f) ht) (fun _ => w)
    next => cases hs
  next => cases hs
end STA
