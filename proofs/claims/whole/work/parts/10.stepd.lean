def kindB (t : FieldType) : Bool := match t with
  | .int => true
  | .boolean => true
  | .long => true
  | .object _ => true
  | .array _ => true
  | _ => false
theorem kinds_all : (List.range 9).all (fun ci => (List.range (clN ci)).all (fun k => kindB (clF ci k))) = true := by decide +kernel
theorem cl_kinds {ci j : Nat} (h : ci < 9) (hj : j < clN ci) : clF ci j = .int ∨ clF ci j = .boolean ∨ clF ci j = .long ∨ (∃ n, clF ci j = .object n) ∨ ∃ n, clF ci j = .array n := by
  have h1 := List.all_eq_true.mp (List.all_eq_true.mp kinds_all ci (List.mem_range.mpr h)) j (List.mem_range.mpr hj)
  cases hc : clF ci j <;> rw [hc] at h1 <;> simp [kindB] at h1 ⊢
theorem nws_len (h : mH) (t n : Nat) : ∀ i, (nws h t n i).1.length = h.1.length + i
  | 0 => rfl
  | i + 1 => by show (nw (nws h t n i) t n).1.length = _; rw [nw_len, nws_len h t n i]; omega
theorem nws_ext (h : mH) (t n : Nat) : ∀ i, extA h (nws h t n i)
  | 0 => ⟨List.prefix_rfl, fun _ _ => ⟨rfl, rfl, rfl⟩⟩
  | i + 1 => ext_tr (nws_ext h t n i) (nw_ext _ t n)
theorem nws_kd (h : mH) (t n : Nat) : ∀ i j, j < i → kd (nws h t n i) (h.1.length + j) = (t, n) ∧ gI (nws h t n i) (h.1.length + j) = (fun _ => 0)
  | 0, j, hj => by omega
  | i + 1, j, hj => by
    by_cases q : j < i
    · obtain ⟨a, b⟩ := nws_kd h t n i j q
      have hl : h.1.length + j < (nws h t n i).1.length := by rw [nws_len]; omega
      have x := nw_ext (nws h t n i) t n
      exact ⟨(ext_kd x hl).trans a, (x.2 _ hl).1.trans b⟩
    · have : j = i := by omega
      subst this
      have e : h.1.length + j = (nws h t n j).1.length := by rw [nws_len]
      show kd (nw (nws h t n j) t n) _ = _ ∧ gI (nw (nws h t n j) t n) _ = _
      rw [e]
      exact ⟨nw_kd _ t n, nw_gI _ t n⟩
theorem nws_slS (h : mH) (t n : Nat) : ∀ i, slS (nws h t n i).1 = slS h.1 + i * n
  | 0 => by simp [nws]
  | i + 1 => by show slS (nw (nws h t n i) t n).1 = _; rw [slS_nw, nws_slS h t n i, Nat.succ_mul]; omega
theorem nws_wf {h : mH} {t n : Nat} (w : WfH h) (h1 : t < 100 → t < 9 ∧ n = clN t) (h2 : 100 ≤ t → t ≤ 105 ∧ n ≤ 100000) : ∀ i, WfH (nws h t n i)
  | 0 => w
  | i + 1 => nw_wf (nws_wf w h1 h2 i) h1 h2
theorem nwm_1 (h : mH) (n k : Nat) : (nwm h n k).1 = (nws (nw h 105 n) 100 k n).1 := rfl
theorem nwm_len (h : mH) (n k : Nat) : (nwm h n k).1.length = h.1.length + 1 + n := by rw [nwm_1, nws_len, nw_len]
theorem nwm_slS (h : mH) (n k : Nat) : slS (nwm h n k).1 = slS h.1 + (n + n * k) := by rw [nwm_1, nws_slS, slS_nw]; omega
theorem nwm_kd (h : mH) (n k a : Nat) : kd (nwm h n k) a = kd (nws (nw h 105 n) 100 k n) a := rfl
theorem nwm_gI (h : mH) (n k a : Nat) : gI (nwm h n k) a = gI (nws (nw h 105 n) 100 k n) a := rfl
theorem nwm_gL (h : mH) (n k a : Nat) : gL (nwm h n k) a = gL (nws (nw h 105 n) 100 k n) a := rfl
theorem nwm_gR (h : mH) (n k a j : Nat) : gR (nwm h n k) a j = if a = h.1.length ∧ j < n then some (h.1.length + 1 + j) else gR (nws (nw h 105 n) 100 k n) a j := rfl
theorem nwm_ext (h : mH) (n k : Nat) : extA h (nwm h n k) := by
  have x := ext_tr (nw_ext h 105 n) (nws_ext (nw h 105 n) 100 k n)
  refine ⟨x.1, fun q hq => ?_⟩
  obtain ⟨a, b, d⟩ := x.2 q hq
  refine ⟨a, b, ?_⟩
  funext j
  rw [nwm_gR, if_neg (fun z => by omega), d]
theorem nwm_wf {h : mH} {n k : Nat} (w : WfH h) (hn : n ≤ 100000) (hk : k ≤ 100000) : WfH (nwm h n k) := by
  have w2 := nws_wf (t := 100) (n := k) (nw_wf (t := 105) (n := n) w (fun g => by omega) (fun _ => ⟨by omega, hn⟩)) (fun g => by omega) (fun _ => ⟨by omega, hk⟩) n
  refine ⟨w2.1, w2.2.1, fun a j b hb => ?_, w2.2.2.2.1, w2.2.2.2.2⟩
  rw [nwm_gR] at hb
  rw [nwm_len]
  split at hb
  next g => cases hb; omega
  next g =>
    have := w2.2.2.1 a j b hb
    rw [nws_len, nw_len] at this
    exact this
section STD
variable {p : Program} {l : Launch} {e : Env} {R : Room} {s : State} {m : MethodId} {args : Array Value} {below : List Frame} {meth : Method} {c : Code} {Q : State → Prop} {dC : Nat → ClassId} {dI : Nat → Nat → Nat} {A : Nat → Prop} {H0 : Heap} {ads0 : List (Nat × Nat)} {sh0 : List (Nat × Nat)}
variable {cc : ByteArray} {pc ix y : Nat} {L st : List mV} {h : mH} {k : mC}
theorem w_nwqG {ci tag : Nat} {C : String} (hs : nwa tag 3 pc L st h = some (.inl k)) (ht1 : 103 ≤ tag) (ht2 : tag ≤ 104) (hty : tagT tag = .object C) (hr : k.2.2.2.1.length - sh0.length ≤ R.cells ∧ slS k.2.2.2.1 - slS sh0 ≤ R.slots) (hx : p.tables.exec = Jvm.exec) (hb : c.code = cc) (hown : s.vm.findClass (ownN (ownB y)) = some m.cls) (hlink : (Cond.classLink (ownN (ownB y)) ix C).before args s = true) (hao : va_AO C s) (hd : decode cc pc = .ok (.anewarray ix, 3)) (hA : ∀ q, H0.size ≤ q → A q) (kk : WI p l e R s m args below meth c Q dC dI A H0 ads0 sh0 k) : WI p l e R s m args below meth c Q dC dI A H0 ads0 sh0 (pc, L, st, h) := by
  unfold nwa at hs
  split at hs
  next x r =>
    split at hs
    next hc =>
      have hk := go_inv hs
      subst hk
      intro ads tys H locs ls hI hl hn hL hS
      have hx2 := ok_h hS
      obtain ⟨r1, r2, r3, r4⟩ := room_nw (t := tag) hI hr
      have hI2 := hI
      obtain ⟨i1, i2, i3, hP, hD, hK, hT, hSt, hW⟩ := hI
      refine va_newq (D := (dC, dI)) (cl := vwCl) hx hb hown hlink hao hK hP hD hSt hA (fun q => by rw [show (0 : Int32) = Int32.ofInt 0 from rfl, i32_lt hx2 z_in] at q; omega) (i32_nc hc.1 hx2) (by omega) r3 r4 hd fun q cA H1 hK hP hD hS2 => ?_
      have ec : cellA (ads ++ [(q, cA)]) (nw h tag x.toNat) h.1.length = .inl (cA, x.toNat, .inr (.inr (.inr (.inr (fun _ => none))))) := by
        rw [cell_arr (nw_kd h tag x.toNat) (by omega)]
        unfold payA
        rw [if_neg (by omega), nw_gR, (app1 i3).2]
        rfl
      have h2 := inv_nw (t2 := [(cA, .object C)]) (t := tag) (n := x.toNat) hI2 (fun g => by omega) (fun _ => ⟨by omega, by omega, by rw [hty]⟩) ec hK hP hD hS2
      have hlen := nw_len h tag x.toNat
      have h1 := kk (ads ++ [(q, cA)]) _ H1 locs ls h2 (lr_pre ⟨_, rfl⟩ (by rw [i3]; exact hL) hl) hn (fun v hv => (hL v hv).up (by show h.1.length ≤ (nw h tag x.toNat).1.length; omega)) (ok_c (v := vR (some h.1.length)) (by show h.1.length < (nw h tag x.toNat).1.length; omega) (fun v hv => (ok_t hS v hv).up (by show h.1.length ≤ (nw h tag x.toNat).1.length; omega)))
      have er : (vR (some h.1.length) :: r).map (rV (ads ++ [(q, cA)])) = .ref q :: r.map (rV ads) := by
        show Value.ref _ :: _ = _
        rw [(app1 i3).1]
        congr 1
        apply List.map_congr_left
        intro v hv
        exact rV_app (by rw [i3]; exact ok_t hS v hv)
      dsimp only at h1
      rw [er, ← r1, ← r2] at h1
      exact h1
    next => cases hs
  next => cases hs
theorem w_nwq (hs : nwq (clsR (ownB y) ix) pc L st h = some (.inl k)) (hr : k.2.2.2.1.length - sh0.length ≤ R.cells ∧ slS k.2.2.2.1 - slS sh0 ≤ R.slots) (hx : p.tables.exec = Jvm.exec) (hb : c.code = cc) (hown : s.vm.findClass (ownN (ownB y)) = some m.cls) (hts : ∀ w ∈ gdW, w.before args s = true) (hKN : KN s) (hd : decode cc pc = .ok (.anewarray ix, 3)) (hA : ∀ q, H0.size ≤ q → A q) (kk : WI p l e R s m args below meth c Q dC dI A H0 ads0 sh0 k) : WI p l e R s m args below meth c Q dC dI A H0 ads0 sh0 (pc, L, st, h) := by
  unfold nwq at hs
  split at hs
  next hq => exact w_nwqG (ci := 2) (C := RX2) hs (by omega) (by omega) rfl hr hx hb hown (hts _ (cls_ok hq (by omega))) hKN.2.1 hd hA kk
  next hq => exact w_nwqG (ci := 4) (C := RX4) hs (by omega) (by omega) rfl hr hx hb hown (hts _ (cls_ok hq (by omega))) hKN.2.2.1 hd hA kk
  next => cases hs
theorem w_nwo (hs : nwo (clsR (ownB y) ix) pc L st h = some (.inl k)) (hr : k.2.2.2.1.length - sh0.length ≤ R.cells ∧ slS k.2.2.2.1 - slS sh0 ≤ R.slots) (hx : p.tables.exec = Jvm.exec) (hb : c.code = cc) (hown : s.vm.findClass (ownN (ownB y)) = some m.cls) (hts : ∀ w ∈ gdW, w.before args s = true) (hd : decode cc pc = .ok (.new ix, 3)) (hA : ∀ q, H0.size ≤ q → A q) (kk : WI p l e R s m args below meth c Q dC dI A H0 ads0 sh0 k) : WI p l e R s m args below meth c Q dC dI A H0 ads0 sh0 (pc, L, st, h) := by
  unfold nwo at hs
  split at hs
  next q ci hq =>
    split at hs
    next c9 =>
      have hk := go_inv hs
      subst hk
      intro ads tys H locs ls hI hl hn hL hS
      obtain ⟨r1, r2, r3, r4⟩ := room_nw (t := ci) hI hr
      have hI2 := hI
      obtain ⟨i1, i2, i3, hP, hD, hK, hT, hSt, hW⟩ := hI
      have hdef : ∀ (ads2 : List (Nat × Nat)) j, j < clN ci → defaultValue (clF ci j) = rV ads2 (ldF (nw h ci (clN ci)) h.1.length ci j) := by
        intro ads2 j hj
        have hF : clF ci j = .int ∨ clF ci j = .boolean ∨ clF ci j = .long ∨ (∃ n, clF ci j = .object n) ∨ ∃ n, clF ci j = .array n := by
          have := cl_kinds c9 hj
          exact this
        unfold ldF
        rw [nw_gI, nw_gL, nw_gR]
        rcases hF with f | f | f | ⟨n, f⟩ | ⟨n, f⟩ <;> rw [f] <;> rfl
      refine va_new (D := (dC, dI)) (cl := vwCl) (fs := (List.range (clN ci)).map (fun j => rV (ads ++ [(0, 0)]) (ldF (nw h ci (clN ci)) h.1.length ci j))) hx hb hts (cl_ws c9) (clF ci) (cl_ty c9) hown (hts _ (cls_ok hq c9)) (hts _ (ins_ok c9).1) (hts _ (ins_ok c9).2) hK hP hD hSt hA (cl_at c9) (fun j hj => ?_) r3 r4 hd fun q H1 hP hD hS2 => ?_
      · unfold vp_V
        rw [List.getD_eq_getElem?_getD, List.getElem?_map, List.getElem?_range hj]
        exact hdef _ j hj
      · have ec : cellA (ads ++ [(q, 0)]) (nw h ci (clN ci)) h.1.length = .inr (ci, (List.range (clN ci)).map (fun j => rV (ads ++ [(0, 0)]) (ldF (nw h ci (clN ci)) h.1.length ci j))) := by
          rw [cell_obj (nw_kd h ci (clN ci)) (by omega)]
          congr 2
          apply List.map_congr_left
          intro j hj
          rw [← hdef _ j (List.mem_range.mp hj), ← hdef _ j (List.mem_range.mp hj)]
        have h2 := inv_nw (t2 := []) (t := ci) (n := clN ci) hI2 (fun _ => ⟨c9, rfl⟩) (fun g => by omega) ec (by rw [List.append_nil]; exact hK) hP hD hS2
        rw [List.append_nil] at h2
        have hlen := nw_len h ci (clN ci)
        have h1 := kk (ads ++ [(q, 0)]) _ H1 locs ls h2 (lr_pre ⟨_, rfl⟩ (by rw [i3]; exact hL) hl) hn (fun v hv => (hL v hv).up (by show h.1.length ≤ (nw h ci (clN ci)).1.length; omega)) (ok_c (v := vR (some h.1.length)) (by show h.1.length < (nw h ci (clN ci)).1.length; omega) (fun v hv => (hS v hv).up (by show h.1.length ≤ (nw h ci (clN ci)).1.length; omega)))
        have er : (vR (some h.1.length) :: st).map (rV (ads ++ [(q, 0)])) = .ref q :: st.map (rV ads) := by
          show Value.ref _ :: _ = _
          rw [(app1 i3).1]
          congr 1
          apply List.map_congr_left
          intro v hv
          exact rV_app (by rw [i3]; exact hS v hv)
        dsimp only at h1
        rw [er, ← r1, ← r2] at h1
        exact h1
    next => cases hs
  next => cases hs
theorem w_cpy {nest : Bool} {n dp sp : Int} {a b : Nat} {r : List mV} (hq : mthR (ownB y) ix = some (900, nest)) (hst : st = .inl n :: .inl dp :: .inr (.inr (some b)) :: .inl sp :: .inr (.inr (some a)) :: r) (hc : (kd h a).1 = 100 ∧ (kd h b).1 = 100 ∧ 0 ≤ sp ∧ 0 ≤ dp ∧ 0 ≤ n ∧ sp + n ≤ (kd h a).2 ∧ dp + n ≤ (kd h b).2 ∧ catS r ≤ 8) (hk : k = (pc + 3, L, r, cpI h a sp.toNat b dp.toNat n.toNat)) (hR : 1 ≤ R.frames ∧ 64 ≤ R.locals) (hx : p.tables.exec = Jvm.exec) (hb : c.code = cc) (hown : s.vm.findClass (ownN (ownB y)) = some m.cls) (hts : ∀ w ∈ gdW, w.before args s = true) (hd : decode cc pc = .ok (.invokestatic ix, 3)) (kk : WI p l e R s m args below meth c Q dC dI A H0 ads0 sh0 k) : WI p l e R s m args below meth c Q dC dI A H0 ads0 sh0 (pc, L, st, h) := by
  subst hst
  subst hk
  obtain ⟨ka, kb, s0, d0, n0, sn, dn, cr⟩ := hc
  intro ads tys H locs ls hI hl hn hL hS
  have on := ok_h hS
  have od := ok_h (ok_t hS)
  have ob : b < h.1.length := ok_h (ok_t (ok_t hS))
  have os := ok_h (ok_t (ok_t (ok_t hS)))
  have oa : a < h.1.length := ok_h (ok_t (ok_t (ok_t (ok_t hS))))
  have hI2 := hI
  obtain ⟨ha, ta, hta⟩ := arr_in (h := h) hI ka (by omega) oa
  obtain ⟨hb2, tb, htb⟩ := arr_in (h := h) hI kb (by omega) ob
  obtain ⟨i1, i2, i3, hP, hD, hK, hT, hSt, hW⟩ := hI
  have en := i32_nc n0 on
  have ed := i32_nc d0 od
  have es := i32_nc s0 os
  have neg : ∀ {x : Int}, 0 ≤ x → inR x → ¬ Int32.ofInt x < 0 := fun h0 hx q => by rw [show (0 : Int32) = Int32.ofInt 0 from rfl, i32_lt hx z_in] at q; omega
  have cs : (r.map (rV ads)).map (fun v => v.category) = r.map catV := by
    rw [List.map_map]
    apply List.map_congr_left
    intro v _
    exact rV_cat ads v
  refine va_copyi (D := (dC, dI)) (cl := vwCl) (f := fun j => Int32.ofInt (gI h a j)) (g := fun j => Int32.ofInt (gI h b j)) (ty := .int) hx hb (hn.symm.trans hl.1.symm) hown (hts _ (mth_cp hq)) (hts _ cp_ws.1) (hts _ cp_ws.2.1) (hts _ cp_ws.2.2) hK hP hD hSt a b ta tb ha hb2 hta htb rfl (neg s0 os) (neg d0 od) (neg n0 on) (by rw [es, en]; omega) (by rw [ed, en]; omega) (fun i _ => rfl) hR.1 (by rw [cs]; have : catS r ≤ 8 := cr; unfold catS at this; have e2 : nativeFrameWords "java/lang/System" "arraycopy" 5 + 11 ≤ 56 := (by decide +kernel); omega) hd fun H1 locs1 g1 g2 g3 => ?_
  rw [en, ed, es] at g1 g2
  have ec : cellA ads (cpI h a sp.toNat b dp.toNat n.toNat) b = .inl (acl ads b, (kd h b).2, .inl (va_cpy (fun j => Int32.ofInt (gI h a j)) (fun j => Int32.ofInt (gI h b j)) sp.toNat dp.toNat n.toNat)) := by
    rw [cell_arr (t := 100) (n := (kd h b).2) (by rw [off_kd (cpI_off h a sp.toNat b dp.toNat n.toNat), ← kb]) (by omega)]
    unfold payA
    rw [if_pos (by omega)]
    refine congrArg (fun z => Sum.inl (acl ads b, (kd h b).2, Sum.inl z)) (funext fun j => ?_)
    show Int32.ofInt (if b = b ∧ dp.toNat ≤ j ∧ j < dp.toNat + n.toNat then h.2.1 a (sp.toNat + (j - dp.toNat)) else h.2.1 b j) = _
    unfold va_cpy
    by_cases q : dp.toNat ≤ j ∧ j < dp.toNat + n.toNat
    · rw [if_pos ⟨rfl, q⟩, if_pos q]; rfl
    · rw [if_neg (fun z => q z.2), if_neg q]; rfl
  exact kk ads tys H1 locs1 ls (inv_off hI2 (cpI_off h a sp.toNat b dp.toNat n.toNat) (cpI_wf hW) ec g1 g2 g3) hl hn hL (ok_t (ok_t (ok_t (ok_t (ok_t hS)))))
theorem w_min {nest : Bool} {x z : Int} {r : List mV} (hq : mthR (ownB y) ix = some (902, nest)) (hst : st = .inl z :: .inl x :: r) (cr : catS r ≤ 8) (hk : k = (pc + 3, L, vI (min x z) :: r, h)) (hR : 1 ≤ R.frames ∧ 64 ≤ R.locals) (hr : k.2.2.2.1.length - sh0.length ≤ R.cells ∧ slS k.2.2.2.1 - slS sh0 ≤ R.slots) (hx : p.tables.exec = Jvm.exec) (hb : c.code = cc) (hown : s.vm.findClass (ownN (ownB y)) = some m.cls) (hts : ∀ w ∈ gdW, w.before args s = true) (hd : decode cc pc = .ok (.invokestatic ix, 3)) (kk : WI p l e R s m args below meth c Q dC dI A H0 ads0 sh0 k) : WI p l e R s m args below meth c Q dC dI A H0 ads0 sh0 (pc, L, st, h) := by
  subst hst
  subst hk
  intro ads tys H locs ls hI hl hn hL hS
  have oz := ok_h hS
  have ox := ok_h (ok_t hS)
  have cs : (r.map (rV ads)).map (fun v => v.category) = r.map catV := by
    rw [List.map_map]
    apply List.map_congr_left
    intro v _
    exact rV_cat ads v
  have om : inR (min x z) := by
    rcases (by omega : min x z = x ∨ min x z = z) with q | q <;> rw [q]
    · exact ox
    · exact oz
  have h1 := kk ads tys H locs ls hI hl hn hL (ok_c (v := vI (min x z)) om (ok_t (ok_t hS)))
  refine va_mmin hx hb (hn.symm.trans hl.1.symm) hown (hts _ (mth_mn hq)) (hts _ mn_ws.1) (hts _ mn_ws.2.1) (hts _ mn_ws.2.2) hR.1 (by rw [cs]; have : catS r ≤ 8 := cr; unfold catS at this; omega) hr.1 hr.2 hd ?_
  have e1 : (if Int32.ofInt z < Int32.ofInt x then Int32.ofInt z else Int32.ofInt x) = Int32.ofInt (min x z) := by
    by_cases q : z < x
    · rw [if_pos ((i32_lt oz ox).mpr q), show min x z = z by omega]
    · rw [if_neg (fun w => q ((i32_lt oz ox).mp w)), show min x z = x by omega]
  rw [e1]
  exact h1
theorem w_oin {nest : Bool} {a : Nat} {r : List mV} (hq : mthR (ownB y) ix = some (901, nest)) (hst : st = .inr (.inr (some a)) :: r) (cr : catS r ≤ 8) (hk : k = (pc + 3, L, r, h)) (hR : 1 ≤ R.frames ∧ 64 ≤ R.locals) (hx : p.tables.exec = Jvm.exec) (hb : c.code = cc) (hown : s.vm.findClass (ownN (ownB y)) = some m.cls) (hts : ∀ w ∈ gdW, w.before args s = true) (hd : decode cc pc = .ok (.invokespecial ix, 3)) (kk : WI p l e R s m args below meth c Q dC dI A H0 ads0 sh0 k) : WI p l e R s m args below meth c Q dC dI A H0 ads0 sh0 (pc, L, st, h) := by
  subst hst
  subst hk
  intro ads tys H locs ls hI hl hn hL hS
  have cs : (r.map (rV ads)).map (fun v => v.category) = r.map catV := by
    rw [List.map_map]
    apply List.map_congr_left
    intro v _
    exact rV_cat ads v
  have h1 := kk ads tys H locs ls hI hl hn hL (ok_t hS)
  refine W.objInit hx hb hown (hts _ (mth_oi hq)) (hts _ oi_ws.1) (hts _ oi_ws.2) (g := F0 m pc ls ((vR (some a) :: r).map (rV ads))) rfl (hl.1.trans hn) rfl hd hR.1 ?_ h1
  have e0 : (F0 m pc ls ((vR (some a) :: r).map (rV ads))).monitorRoom = 0 := rfl
  rw [e0, cs]
  have : catS r ≤ 8 := cr
  unfold catS at this
  omega
end STD
