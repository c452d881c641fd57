def extA (h h2 : mH) : Prop := h.1 <+: h2.1 ∧ ∀ k, k < h.1.length → gI h2 k = gI h k ∧ gL h2 k = gL h k ∧ gR h2 k = gR h k
theorem ext_kd {h h2 : mH} (x : extA h h2) {k : Nat} (hk : k < h.1.length) : kd h2 k = kd h k := by
  obtain ⟨t, e⟩ := x.1
  unfold kd
  rw [← e, List.getD_eq_getElem?_getD, List.getD_eq_getElem?_getD, List.getElem?_append_left hk]
theorem ext_cell {ads n : List (Nat × Nat)} {h h2 : mH} (x : extA h h2) (w : WfH h) (hl : ads.length = h.1.length) {k : Nat} (hk : k < h.1.length) : cellA (ads ++ n) h2 k = cellA ads h k := by
  obtain ⟨e1, e2, e3⟩ := x.2 k hk
  have e4 : ∀ ci j, ldF h2 k ci j = ldF h k ci j := fun ci j => by unfold ldF; rw [e1, e2, e3]
  unfold cellA
  simp only [ext_kd x hk, e4]
  split
  · congr 2
    apply List.map_congr_left
    intro j _
    rw [rV_app (by rw [hl]; exact ldF_ok w k _ j)]
  · congr 2
    · rw [acl_app (by omega)]
    · unfold payA
      simp only [e1, e3]
      split
      · rfl
      · congr 5
        funext j
        cases hr : gR h k j with
        | none => rfl
        | some b =>
          have hb := w.2.2.1 k j b hr
          simp only [Option.map_some]
          rw [adr_app (by omega)]
theorem ext_ws {ads n : List (Nat × Nat)} {h h2 : mH} (x : extA h h2) (w : WfH h) (hl : ads.length = h.1.length) (h2l : h2.1.length = h.1.length + n.length) : wsA (ads ++ n) h2 = wsA ads h ++ (List.range n.length).map (fun i => (adr (ads ++ n) (h.1.length + i), cellA (ads ++ n) h2 (h.1.length + i))) := by
  apply List.ext_getElem?
  intro k
  by_cases hk : k < h.1.length
  · rw [ws_at (by omega), List.getElem?_append_left (by rw [ws_len]; exact hk), ws_at hk, ext_cell x w hl hk, adr_app (by omega)]
  · rw [List.getElem?_append_right (by rw [ws_len]; omega), ws_len]
    by_cases h3 : k < h2.1.length
    · rw [ws_at h3, List.getElem?_map, List.getElem?_range (by omega)]
      simp only [Option.map_some]
      rw [show h.1.length + (k - h.1.length) = k by omega]
    · rw [List.getElem?_eq_none (by rw [ws_len]; omega), List.getElem?_eq_none (by simp; omega)]
theorem ext_ty {ads n : List (Nat × Nat)} {tys t2 : List (ClassId × FieldType)} {h h2 : mH} (x : extA h h2) (hl : ads.length = h.1.length) (ht : tyOK ads tys h) (hp : ∀ (i : Nat) (q : ClassId × FieldType), tys[i]? = some q → (tys ++ t2)[i]? = some q) (hnew : ∀ k, h.1.length ≤ k → k < h2.1.length → 100 ≤ (kd h2 k).1 → ∃ t0 : Nat, (tys ++ t2)[t0]? = some (acl (ads ++ n) k, tagT (kd h2 k).1)) : tyOK (ads ++ n) (tys ++ t2) h2 := fun k hk h1 => by
  by_cases q : k < h.1.length
  · rw [ext_kd x q] at h1 ⊢
    obtain ⟨t0, e⟩ := ht k q h1
    exact ⟨t0, by rw [acl_app (by omega)]; exact hp _ _ e⟩
  · exact hnew k (by omega) hk h1
theorem nw_ext (h : mH) (t n : Nat) : extA h (nw h t n) := ⟨⟨_, rfl⟩, fun k hk => ⟨by funext j; simp [gI, nw, Nat.ne_of_lt hk], by funext j; simp [gL, nw, Nat.ne_of_lt hk], by funext j; simp [gR, nw, Nat.ne_of_lt hk]⟩⟩
theorem ext_tr {a b d : mH} (x : extA a b) (y : extA b d) : extA a d := ⟨x.1.trans y.1, fun k hk => by
  have hl : a.1.length ≤ b.1.length := x.1.length_le
  obtain ⟨e1, e2, e3⟩ := x.2 k hk
  obtain ⟨f1, f2, f3⟩ := y.2 k (by omega)
  exact ⟨f1.trans e1, f2.trans e2, f3.trans e3⟩⟩
theorem nw_kd (h : mH) (t n : Nat) : kd (nw h t n) h.1.length = (t, n) := by
  unfold kd nw
  simp [List.getD_eq_getElem?_getD]
theorem nw_len (h : mH) (t n : Nat) : (nw h t n).1.length = h.1.length + 1 := by simp [nw]
theorem nw_gI (h : mH) (t n : Nat) : gI (nw h t n) h.1.length = fun _ => 0 := by funext j; simp [gI, nw]
theorem nw_gL (h : mH) (t n : Nat) : gL (nw h t n) h.1.length = fun _ => 0 := by funext j; simp [gL, nw]
theorem nw_gR (h : mH) (t n : Nat) : gR (nw h t n) h.1.length = fun _ => none := by funext j; simp [gR, nw]
theorem z_in : inR 0 := ⟨by decide, by decide⟩
theorem zL_in : inL 0 := ⟨by decide, by decide⟩
theorem nw_wf {h : mH} {t n : Nat} (w : WfH h) (h1 : t < 100 → t < 9 ∧ n = clN t) (h2 : 100 ≤ t → t ≤ 105 ∧ n ≤ 100000) : WfH (nw h t n) := by
  refine ⟨fun a k => ?_, fun a k => ?_, fun a k b hb => ?_, fun k hk hq => ?_, fun k hk hq => ?_⟩
  · show inR (if a = h.1.length then 0 else h.2.1 a k)
    split
    · exact z_in
    · exact w.1 a k
  · show inL (if a = h.1.length then 0 else h.2.2.1 a k)
    split
    · exact zL_in
    · exact w.2.1 a k
  · have e : (if a = h.1.length then none else h.2.2.2 a k) = some b := hb
    split at e
    · cases e
    · have := w.2.2.1 a k b e
      rw [nw_len]
      omega
  · by_cases q : k < h.1.length
    · rw [ext_kd (nw_ext h t n) q] at hq ⊢
      exact w.2.2.2.1 k q hq
    · rw [nw_len] at hk
      have : k = h.1.length := by omega
      subst this
      rw [nw_kd] at hq ⊢
      exact h1 hq
  · by_cases q : k < h.1.length
    · rw [ext_kd (nw_ext h t n) q] at hq ⊢
      exact w.2.2.2.2 k q hq
    · rw [nw_len] at hk
      have : k = h.1.length := by omega
      subst this
      rw [nw_kd] at hq ⊢
      exact h2 hq
theorem app1 {ads : List (Nat × Nat)} {x : Nat × Nat} {n : Nat} (hl : ads.length = n) : adr (ads ++ [x]) n = x.1 ∧ acl (ads ++ [x]) n = x.2 := by
  subst hl
  simp [adr, acl, List.getD_eq_getElem?_getD]
theorem slS_nw (h : mH) (t n : Nat) : slS (nw h t n).1 = slS h.1 + n := by simp [slS, nw]
theorem slS_pre {a b : List (Nat × Nat)} (h : a <+: b) : slS a ≤ slS b := by
  obtain ⟨t, rfl⟩ := h
  simp [slS]
section STC
variable {p : Program} {l : Launch} {e : Env} {R : Room} {s : State} {m : MethodId} {args : Array Value} {below : List Frame} {meth : Method} {c : Code} {Q : State → Prop} {dC : Nat → ClassId} {dI : Nat → Nat → Nat} {A : Nat → Prop} {H0 : Heap} {ads0 : List (Nat × Nat)} {sh0 : List (Nat × Nat)}
variable {cc : ByteArray} {pc ix y : Nat} {L st : List mV} {h : mH} {k : mC}
theorem w_tsw {d lo hi : Int} {os : Array Int} {len : Nat} (hs : tsw d lo hi os pc L st h = some (.inl k)) (hx : p.tables.exec = Jvm.exec) (hb : c.code = cc) (hd : decode cc pc = .ok (.tableswitch d lo hi os, len)) (kk : WI p l e R s m args below meth c Q dC dI A H0 ads0 sh0 k) : WI p l e R s m args below meth c Q dC dI A H0 ads0 sh0 (pc, L, st, h) := by
  unfold tsw at hs
  split at hs
  next x r =>
    split at hs
    next hc =>
      obtain ⟨tgt, ht, hk⟩ := jmp_inv hs
      subst hk
      intro ads tys H locs ls hI hl hn hL hS
      exact lv_tableOut hx hb hd (by rw [i32_of (ok_h hS)]; exact hc) ht (kk ads tys H locs ls hI hl hn hL (ok_t hS))
    next hc =>
      split at hs
      next off ho =>
        obtain ⟨tgt, ht, hk⟩ := jmp_inv hs
        subst hk
        intro ads tys H locs ls hI hl hn hL hS
        exact lv_tableIn hx hb hd (by rw [i32_of (ok_h hS)]; omega) (by rw [i32_of (ok_h hS)]; omega) (by rw [i32_of (ok_h hS)]; exact ho) ht (kk ads tys H locs ls hI hl hn hL (ok_t hS))
      next => cases hs
  next => cases hs
theorem w_lsw {d : Int} {ps : Array (Int × Int)} {len : Nat} (hs : lsw d ps.toList pc L st h = some (.inl k)) (hx : p.tables.exec = Jvm.exec) (hb : c.code = cc) (hd : decode cc pc = .ok (.lookupswitch d ps, len)) (kk : WI p l e R s m args below meth c Q dC dI A H0 ads0 sh0 k) : WI p l e R s m args below meth c Q dC dI A H0 ads0 sh0 (pc, L, st, h) := by
  unfold lsw at hs
  split at hs
  next x r =>
    split at hs
    next hc =>
      obtain ⟨tgt, ht, hk⟩ := jmp_inv hs
      subst hk
      intro ads tys H locs ls hI hl hn hL hS
      exact lv_lookup hx hb hd hc (by rw [i32_of (ok_h hS)]) ht (kk ads tys H locs ls hI hl hn hL (ok_t hS))
    next => cases hs
  next => cases hs
theorem inv_nw {ads : List (Nat × Nat)} {tys t2 : List (ClassId × FieldType)} {H H1 : Heap} {locs : List Loc} {t n q cA : Nat} {ce : va_E} (hI : InvA dC dI A H0 s ads0 sh0 ads tys h H locs) (h1 : t < 100 → t < 9 ∧ n = clN t) (h2 : 100 ≤ t → t ≤ 105 ∧ n ≤ 100000 ∧ t2 = [(cA, tagT t)]) (hc : cellA (ads ++ [(q, cA)]) (nw h t n) h.1.length = ce) (hK : va_K (dC, dI) vwCl (tys ++ t2) s) (hP : va_P (dC, dI) vwCl (wsA ads h ++ [(q, ce)]) H1) (hD : va_D A (wsA ads h ++ [(q, ce)])) (hS : va_S A H0 H1 locs) : InvA dC dI A H0 s ads0 sh0 (ads ++ [(q, cA)]) (tys ++ t2) (nw h t n) H1 locs := by
  obtain ⟨i1, i2, i3, -, -, -, hT, -, hW⟩ := hI
  have ew : wsA (ads ++ [(q, cA)]) (nw h t n) = wsA ads h ++ [(q, ce)] := by
    rw [ext_ws (nw_ext h t n) hW i3 (by rw [nw_len]; rfl)]
    congr 1
    show [(adr (ads ++ [(q, cA)]) h.1.length, cellA (ads ++ [(q, cA)]) (nw h t n) h.1.length)] = [(q, ce)]
    rw [(app1 i3).1, hc]
  refine ⟨i1.trans ⟨_, rfl⟩, i2.trans ⟨_, rfl⟩, by rw [nw_len]; simp [i3], by rw [ew]; exact hP, by rw [ew]; exact hD, hK, ?_, hS, nw_wf hW h1 (fun g => ⟨(h2 g).1, (h2 g).2.1⟩)⟩
  refine ext_ty (nw_ext h t n) i3 hT (fun i z hz => by rw [List.getElem?_append_left (List.getElem?_eq_some_iff.mp hz).1]; exact hz) fun k g1 g2 g3 => ?_
  rw [nw_len] at g2
  have : k = h.1.length := by omega
  subst this
  rw [nw_kd] at g3 ⊢
  obtain ⟨-, -, rfl⟩ := h2 g3
  exact ⟨tys.length, by rw [List.getElem?_append_right (Nat.le_refl _), Nat.sub_self, (app1 i3).2]; rfl⟩
/-- the room that is left for one cell of n slots -/
theorem room_nw {t n : Nat} {ads : List (Nat × Nat)} {tys : List (ClassId × FieldType)} {H : Heap} {locs : List Loc} (hI : InvA dC dI A H0 s ads0 sh0 ads tys h H locs) (hr : (nw h t n).1.length - sh0.length ≤ R.cells ∧ slS (nw h t n).1 - slS sh0 ≤ R.slots) : h.1.length - sh0.length + 1 = (nw h t n).1.length - sh0.length ∧ slS h.1 - slS sh0 + n = slS (nw h t n).1 - slS sh0 ∧ h.1.length - sh0.length + 1 ≤ R.cells ∧ slS h.1 - slS sh0 + n ≤ R.slots := by
  have a := hI.2.1.length_le
  have b := slS_pre hI.2.1
  rw [nw_len] at hr ⊢
  rw [slS_nw] at hr ⊢
  omega
theorem w_nwaG {tag n : Nat} {ins : Instr} {ty : FieldType} (hs : nwa tag n pc L st h = some (.inl k)) (ht1 : 100 ≤ tag) (ht2 : tag < 103) (hty : tagT tag = ty) (hr : k.2.2.2.1.length - sh0.length ≤ R.cells ∧ slS k.2.2.2.1 - slS sh0 ≤ R.slots)
    (row : ∀ {ads : List (Nat × Nat)} {tys : List (ClassId × FieldType)} {H : Heap} {locs : List Loc} {ls : Array Slot} {rest : List Value} {x : Int32} {cells slots N : Nat}, InvA dC dI A H0 s ads0 sh0 ads tys h H locs → ¬ x < 0 → x.toNatClampNeg = N → N ≤ 100000 → cells + 1 ≤ R.cells → slots + N ≤ R.slots →
      (∀ (q : Nat) (cA : ClassId) (H1 : Heap), va_K (dC, dI) vwCl (tys ++ [(cA, ty)]) s → va_P (dC, dI) vwCl (wsA ads h ++ [(q, .inl (cA, N, .inl (fun _ => 0)))]) H1 → va_D A (wsA ads h ++ [(q, .inl (cA, N, .inl (fun _ => 0)))]) → va_S A H0 H1 locs → W p l e R s m args below meth c H1 locs (cells + 1) (slots + N) Q (F0 m (pc + n) ls (.ref q :: rest))) → W p l e R s m args below meth c H locs cells slots Q (F0 m pc ls (.int x :: rest)))
    (kk : WI p l e R s m args below meth c Q dC dI A H0 ads0 sh0 k) : WI p l e R s m args below meth c Q dC dI A H0 ads0 sh0 (pc, L, st, h) := by
  unfold nwa at hs
  split at hs
  next x r =>
    split at hs
    next hc =>
      have hk := go_inv hs
      subst hk
      intro ads tys H locs ls hI hl hn hL hS
      have hx := ok_h hS
      obtain ⟨r1, r2, r3, r4⟩ := room_nw (t := tag) hI hr
      refine row hI (fun q => by rw [show (0 : Int32) = Int32.ofInt 0 from rfl, i32_lt hx z_in] at q; omega) (i32_nc hc.1 hx) (by omega) r3 r4 fun q cA H1 hK hP hD hS2 => ?_
      have ec : cellA (ads ++ [(q, cA)]) (nw h tag x.toNat) h.1.length = .inl (cA, x.toNat, .inl (fun _ => 0)) := by
        rw [cell_arr (nw_kd h tag x.toNat) ht1]
        unfold payA
        rw [if_pos ht2, nw_gI, (app1 hI.2.2.1).2]
        rfl
      have h2 := inv_nw (t2 := [(cA, ty)]) (t := tag) (n := x.toNat) hI (fun g => by omega) (fun _ => ⟨by omega, by omega, by rw [hty]⟩) ec hK hP hD hS2
      have hlen := nw_len h tag x.toNat
      have h1 := kk (ads ++ [(q, cA)]) _ H1 locs ls h2 (lr_pre ⟨_, rfl⟩ (by rw [hI.2.2.1]; exact hL) hl) hn (fun v hv => (hL v hv).up (by show h.1.length ≤ (nw h tag x.toNat).1.length; omega)) (ok_c (v := vR (some h.1.length)) (by show h.1.length < (nw h tag x.toNat).1.length; omega) (fun v hv => (ok_t hS v hv).up (by show h.1.length ≤ (nw h tag x.toNat).1.length; omega)))
      have er : (vR (some h.1.length) :: r).map (rV (ads ++ [(q, cA)])) = .ref q :: r.map (rV ads) := by
        show Value.ref _ :: _ = _
        rw [(app1 hI.2.2.1).1]
        congr 1
        apply List.map_congr_left
        intro v hv
        exact rV_app (by rw [hI.2.2.1]; exact ok_t hS v hv)
      dsimp only at h1
      rw [er, ← r1, ← r2] at h1
      exact h1
    next => cases hs
  next => cases hs
theorem w_nwa (atype : ArrayType) {tag : Nat} (hs : nwa tag 2 pc L st h = some (.inl k)) (ht1 : 100 ≤ tag) (ht2 : tag < 103) (hty : newarray.typeOf atype = tagT tag) (hdv : defaultValue (tagT tag) = .int 0) (hcb : componentBytes (tagT tag) ≤ 4) (hr : k.2.2.2.1.length - sh0.length ≤ R.cells ∧ slS k.2.2.2.1 - slS sh0 ≤ R.slots) (hx : p.tables.exec = Jvm.exec) (hb : c.code = cc) (harr : (Cond.arrayClass (newarray.typeOf atype)).before args s = true) (hd : decode cc pc = .ok (.newarray atype, 2)) (hA : ∀ q, H0.size ≤ q → A q) (kk : WI p l e R s m args below meth c Q dC dI A H0 ads0 sh0 k) : WI p l e R s m args below meth c Q dC dI A H0 ads0 sh0 (pc, L, st, h) := by
  refine w_nwaG (ins := .nop) hs ht1 ht2 rfl hr ?_ kk
  intro ads tys H locs ls rest x cells slots N hI hx0 hN hN2 hc1 hc2 k2
  obtain ⟨i1, i2, i3, hP, hD, hK, hT, hSt, hW⟩ := hI
  exact va_newa (D := (dC, dI)) (cl := vwCl) (a0 := (N, .inl (fun _ => 0))) hx hb harr hty hK hP hD hSt hA (fun cA => by rw [hdv]; rfl) hx0 hN (Nat.le_trans (Nat.mul_le_mul_left N hcb) (by omega)) hc1 hc2 hd k2
end STC
