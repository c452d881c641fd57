section STB
variable {p : Program} {l : Launch} {e : Env} {R : Room} {s : State} {m : MethodId} {args : Array Value} {below : List Frame} {meth : Method} {c : Code} {Q : State → Prop} {dC : Nat → ClassId} {dI : Nat → Nat → Nat} {A : Nat → Prop} {H0 : Heap} {ads0 : List (Nat × Nat)} {sh0 : List (Nat × Nat)}
variable {cc : ByteArray} {pc ix y : Nat} {L st : List mV} {h : mH} {k : mC}
theorem w_gfd (hs : gfd (fldR (ownB y) ix) pc L st h = some (.inl k)) (hx : p.tables.exec = Jvm.exec) (hb : c.code = cc) (hown : s.vm.findClass (ownN (ownB y)) = some m.cls) (hts : ∀ w ∈ gdW, w.before args s = true) (hKN : KN s) (hd : decode cc pc = .ok (.getfield ix, 3)) (kk : WI p l e R s m args below meth c Q dC dI A H0 ads0 sh0 k) : WI p l e R s m args below meth c Q dC dI A H0 ads0 sh0 (pc, L, st, h) := by
  unfold gfd at hs
  split at hs
  next q ci j nest hq =>
    split at hs
    next a r =>
      split at hs
      next hk =>
        have hk2 := go_inv hs
        subst hk2
        obtain ⟨c9, jN, l1, l2⟩ := fld_ok hq
        have ha : a < h.1.length := kd_lt hk (by omega)
        intro ads tys H locs ls hI hl hn hL hS
        have h1 := kk ads tys H locs ls hI hl hn hL (ok_c (ldF_ok hI.2.2.2.2.2.2.2.2 a ci j) (ok_t hS))
        obtain ⟨i1, i2, i3, hP, hD, hK, hT, hSt, hW⟩ := hI
        have he : (wsA ads h)[a]? = some (adr ads a, .inr (ci, (List.range (clN ci)).map (fun j => rV ads (ldF h a ci j)))) := by rw [ws_at ha, cell_obj hk (by omega)]
        have hv : ((List.range (clN ci)).map (fun j => rV ads (ldF h a ci j)))[j]? = some (rV ads (ldF h a ci j)) := by rw [List.getElem?_map, List.getElem?_range jN]; rfl
        cases nest with
        | false => exact va_get (D := (dC, dI)) (cl := vwCl) hx hb hts (cl_ws c9) hown hK hP a he (cl_at c9) j jN (hts _ (l1 rfl)) (fun x q => by rw [cl_ow c9 jN] at q; exact q) hv hd h1
        | true => exact va_getN (D := (dC, dI)) (cl := vwCl) hx hb hts (cl_ws c9) hown hK hP a he (cl_at c9) j jN (va_Nw.use rfl (hKN.1 _ (l2 rfl) rfl)) (fun x q => by rw [cl_ow c9 jN] at q; exact q) hv hd h1
      next => cases hs
    next => cases hs
  next => cases hs
theorem fs_set {ads : List (Nat × Nat)} {h h2 : mH} {a ci n k : Nat} {v : mV} (h1 : ldF h2 a ci k = v) (h3 : ∀ j, j ≠ k → ldF h2 a ci j = ldF h a ci j) : ((List.range n).map (fun j => rV ads (ldF h a ci j))).set k (rV ads v) = (List.range n).map (fun j => rV ads (ldF h2 a ci j)) := by
  apply List.ext_getElem?
  intro j
  rw [List.getElem?_set]
  by_cases hj : j < n
  · by_cases e : k = j
    · subst e
      rw [if_pos rfl, if_pos (by simp; exact hj), List.getElem?_map, List.getElem?_range hj, ← h1]
      rfl
    · rw [if_neg e, List.getElem?_map, List.getElem?_map, List.getElem?_range hj]
      simp only [Option.map_some]
      rw [h3 j (Ne.symm e)]
  · have e1 : ((List.range n).map (fun j => rV ads (ldF h2 a ci j)))[j]? = none := List.getElem?_eq_none (by simp; omega)
    have e2 : ((List.range n).map (fun j => rV ads (ldF h a ci j)))[j]? = none := List.getElem?_eq_none (by simp; omega)
    rw [e1, e2]
    by_cases e : k = j
    · rw [if_pos e, if_neg (by simp; omega)]
    · rw [if_neg e]
theorem inv_off {ads : List (Nat × Nat)} {tys : List (ClassId × FieldType)} {h2 : mH} {a : Nat} {H H1 : Heap} {locs locs1 : List Loc} {e2 : va_E} (hI : InvA dC dI A H0 s ads0 sh0 ads tys h H locs) (o : offA h h2 a) (hw : WfH h2) (he : cellA ads h2 a = e2) (hP : va_P (dC, dI) vwCl ((wsA ads h).set a (adr ads a, e2)) H1) (hD : va_D A ((wsA ads h).set a (adr ads a, e2))) (hS : va_S A H0 H1 locs1) : InvA dC dI A H0 s ads0 sh0 ads tys h2 H1 locs1 := by
  obtain ⟨i1, i2, i3, -, -, hK, hT, -, -⟩ := hI
  subst he
  rw [← off_ws o] at hP hD
  exact ⟨i1, by rw [o.1]; exact i2, by rw [o.1]; exact i3, hP, hD, hK, off_ty o hT, hS, hw⟩
theorem w_pfd (hs : pfd y (fldR (ownB y) ix) pc L st h = some (.inl k)) (hx : p.tables.exec = Jvm.exec) (hb : c.code = cc) (hown : s.vm.findClass (ownN (ownB y)) = some m.cls) (hts : ∀ w ∈ gdW, w.before args s = true) (hKN : KN s) (hini : iniB y = true → meth.name = "<init>") (hd : decode cc pc = .ok (.putfield ix, 3)) (kk : WI p l e R s m args below meth c Q dC dI A H0 ads0 sh0 k) : WI p l e R s m args below meth c Q dC dI A H0 ads0 sh0 (pc, L, st, h) := by
  unfold pfd at hs
  split at hs
  next q ci j nest hq =>
    split at hs
    next v a r =>
      split at hs
      next hk =>
        obtain ⟨hk, hf⟩ := hk
        split at hs
        next h2 hst =>
          have hk2 := go_inv hs
          subst hk2
          obtain ⟨c9, jN, l1, l2⟩ := fld_ok hq
          have ha : a < h.1.length := kd_lt hk (by omega)
          intro ads tys H locs ls hI hl hn hL hS
          obtain ⟨o, hw, f1, f2, f3⟩ := stF_facts hst hI.2.2.2.2.2.2.2.2 (ok_h hS)
          have hk3 : kd h2 a = (ci, clN ci) := by rw [off_kd o]; exact hk
          have ec := cell_obj (ads := ads) hk3 (by omega)
          have es := fs_set (ads := ads) (n := clN ci) f1 f2
          have fin : ∀ (H1 : Heap) (locs1 : List Loc), va_P (dC, dI) vwCl ((wsA ads h).set a (adr ads a, .inr (ci, ((List.range (clN ci)).map (fun j => rV ads (ldF h a ci j))).set j (rV ads v)))) H1 → va_D A ((wsA ads h).set a (adr ads a, .inr (ci, ((List.range (clN ci)).map (fun j => rV ads (ldF h a ci j))).set j (rV ads v)))) → va_S A H0 H1 locs1 → W p l e R s m args below meth c H1 locs1 (h.1.length - sh0.length) (slS h.1 - slS sh0) Q (F0 m (pc + 3) ls (r.map (rV ads))) := by
            intro H1 locs1 g1 g2 g3
            have h1 := kk ads tys H1 locs1 ls (inv_off hI o hw (ec.trans (by rw [es])) g1 g2 g3) hl hn (by rw [o.1]; exact hL) (by rw [o.1]; exact ok_t (ok_t hS))
            rw [show h2.1 = h.1 from o.1] at h1
            exact h1
          obtain ⟨i1, i2, i3, hP, hD, hK, hT, hSt, hW⟩ := hI
          have he : (wsA ads h)[a]? = some (adr ads a, .inr (ci, (List.range (clN ci)).map (fun j => rV ads (ldF h a ci j)))) := by rw [ws_at ha, cell_obj hk (by omega)]
          have hlen : j < ((List.range (clN ci)).map (fun j => rV ads (ldF h a ci j))).length := by simp; exact jN
          unfold finB at hf
          cases hfi : (clT ci j).2.2.2 with
          | false => cases nest with
            | false => exact va_put (D := (dC, dI)) (cl := vwCl) hx hb hts (cl_ws c9) (clF ci) (cl_ty c9) (cl_nm c9) hown hK hP hD hSt a he (cl_at c9) j jN (hts _ (l1 rfl)) (fun x q => by rw [cl_ow c9 jN] at q; exact q) hfi (cl_ty c9 j jN) (f3 ads).1 (f3 ads).2 hlen hd fin
            | true => exact va_putN (D := (dC, dI)) (cl := vwCl) hx hb hts (cl_ws c9) (clF ci) (cl_ty c9) (cl_nm c9) hown hK hP hD hSt a he (cl_at c9) j jN (va_Nw.use rfl (hKN.1 _ (l2 rfl) rfl)) (fun x q => by rw [cl_ow c9 jN] at q; exact q) hfi (cl_ty c9 j jN) (f3 ads).1 (f3 ads).2 hlen hd fin
          | true =>
            rw [hfi] at hf
            simp at hf
            obtain ⟨⟨g1, g2⟩, g3⟩ := hf
            exact va_putF (D := (dC, dI)) (cl := vwCl) hx hb hts (cl_ws c9) (clF ci) (cl_ty c9) (cl_nm c9) hown hK hP hD hSt a he (cl_at c9) j jN (hts _ (l1 g3)) (fun x q => by rw [cl_ow c9 jN] at q; exact q) hfi (hini g1) (by rw [cl_ow c9 jN, g2]) (cl_ty c9 j jN) (f3 ads).1 (f3 ads).2 hlen hd fin
        next => cases hs
      next => cases hs
    next => cases hs
  next => cases hs
theorem inA_len {a t n : Nat} {i : Int} (hk : (kd h a).1 = t) (h2 : i < (kd h a).2) (h0 : 0 ≤ i) : a < h.1.length := by
  by_cases q : a < h.1.length
  · exact q
  · exfalso
    have : kd h a = (99, 0) := by
      unfold kd
      rw [List.getD_eq_getElem?_getD, List.getElem?_eq_none (by omega)]
      rfl
    rw [this] at h2
    simp at h2
    omega
theorem arr_in {ads : List (Nat × Nat)} {tys : List (ClassId × FieldType)} {H : Heap} {locs : List Loc} (hI : InvA dC dI A H0 s ads0 sh0 ads tys h H locs) {a t : Nat} (hk : (kd h a).1 = t) (ht : 100 ≤ t) (ha : a < h.1.length) : (wsA ads h)[a]? = some (adr ads a, .inl (acl ads a, (kd h a).2, payA ads h a t)) ∧ ∃ t0 : Nat, tys[t0]? = some (acl ads a, tagT t) := by
  refine ⟨by rw [ws_at ha, cell_arr (t := t) (n := (kd h a).2) (by rw [← hk]) ht], ?_⟩
  have := hI.2.2.2.2.2.2.1 a ha (by rw [hk]; exact ht)
  rw [hk] at this
  exact this
theorem w_ald (hs : ald 100 pc L st h = some (.inl k)) (hx : p.tables.exec = Jvm.exec) (hb : c.code = cc) (hd : decode cc pc = .ok (.iaload, 1)) (kk : WI p l e R s m args below meth c Q dC dI A H0 ads0 sh0 k) : WI p l e R s m args below meth c Q dC dI A H0 ads0 sh0 (pc, L, st, h) := by
  unfold ald at hs
  split at hs
  next i a r =>
    split at hs
    next hk =>
      obtain ⟨hk, h0, hi⟩ := hk
      have hk2 := go_inv hs
      subst hk2
      have ha := inA_len (n := 0) hk hi h0
      intro ads tys H locs ls hI hl hn hL hS
      have h1 := kk ads tys H locs ls hI hl hn hL (ok_c (hI.2.2.2.2.2.2.2.2.1 a i.toNat) (ok_t (ok_t hS)))
      obtain ⟨he, t0, ht⟩ := arr_in hI hk (by omega) ha
      obtain ⟨i1, i2, i3, hP, hD, hK, hT, hSt, hW⟩ := hI
      refine va_iald (D := (dC, dI)) (cl := vwCl) (f := fun j => Int32.ofInt (gI h a j)) hx hb hK hP a t0 he ht (i32_in h0 hi (ok_h hS)) hd ?_
      rw [i32_nc h0 (ok_h hS)]
      exact h1
    next => cases hs
  next => cases hs
theorem w_bld (hs : bld pc L st h = some (.inl k)) (hx : p.tables.exec = Jvm.exec) (hb : c.code = cc) (hd : decode cc pc = .ok (.baload, 1)) (kk : WI p l e R s m args below meth c Q dC dI A H0 ads0 sh0 k) : WI p l e R s m args below meth c Q dC dI A H0 ads0 sh0 (pc, L, st, h) := by
  unfold bld at hs
  split at hs
  next i a r =>
    split at hs
    next hk =>
      obtain ⟨hk, h0, hi⟩ := hk
      have hk2 := go_inv hs
      subst hk2
      have ha := inA_len (n := 0) rfl hi h0
      intro ads tys H locs ls hI hl hn hL hS
      have h1 := kk ads tys H locs ls hI hl hn hL (ok_c (hI.2.2.2.2.2.2.2.2.1 a i.toNat) (ok_t (ok_t hS)))
      rcases hk with hk | hk
      · obtain ⟨he, t0, ht⟩ := arr_in hI hk (by omega) ha
        obtain ⟨i1, i2, i3, hP, hD, hK, hT, hSt, hW⟩ := hI
        refine va_bald (D := (dC, dI)) (cl := vwCl) (f := fun j => Int32.ofInt (gI h a j)) hx hb hK hP a t0 he ht (i32_in h0 hi (ok_h hS)) hd ?_
        rw [i32_nc h0 (ok_h hS)]
        exact h1
      · obtain ⟨he, t0, ht⟩ := arr_in hI hk (by omega) ha
        obtain ⟨i1, i2, i3, hP, hD, hK, hT, hSt, hW⟩ := hI
        refine va_zald (D := (dC, dI)) (cl := vwCl) (f := fun j => Int32.ofInt (gI h a j)) hx hb hK hP a t0 he ht (i32_in h0 hi (ok_h hS)) hd ?_
        rw [i32_nc h0 (ok_h hS)]
        exact h1
    next => cases hs
  next => cases hs
theorem pay_i {ads : List (Nat × Nat)} {a t i : Nat} {x : Int} (ht : t < 103) : payA ads (sI h a i x) a t = .inl (upd (fun j => Int32.ofInt (gI h a j)) i (Int32.ofInt x)) := by
  unfold payA
  rw [if_pos ht]
  congr 1
  funext j
  rw [gI_sI]
  unfold upd
  by_cases e : j = i
  · simp [e]
  · simp [e]
theorem cell_i {ads : List (Nat × Nat)} {a t i : Nat} {x : Int} (hk : (kd h a).1 = t) (h1 : 100 ≤ t) (ht : t < 103) : cellA ads (sI h a i x) a = .inl (acl ads a, (kd h a).2, .inl (upd (fun j => Int32.ofInt (gI h a j)) i (Int32.ofInt x))) := by
  rw [cell_arr (t := t) (n := (kd h a).2) (by rw [off_kd (sI_off h a i x), ← hk]) h1, pay_i ht]
theorem w_ast (hs : ast pc L st h = some (.inl k)) (hx : p.tables.exec = Jvm.exec) (hb : c.code = cc) (hd : decode cc pc = .ok (.iastore, 1)) (kk : WI p l e R s m args below meth c Q dC dI A H0 ads0 sh0 k) : WI p l e R s m args below meth c Q dC dI A H0 ads0 sh0 (pc, L, st, h) := by
  unfold ast at hs
  split at hs
  next x i a r =>
    split at hs
    next hk =>
      obtain ⟨hk, h0, hi⟩ := hk
      have hk2 := go_inv hs
      subst hk2
      have ha := inA_len (n := 0) hk hi h0
      intro ads tys H locs ls hI hl hn hL hS
      have hi2 : inR i := ok_h (ok_t hS)
      obtain ⟨he, t0, ht⟩ := arr_in hI hk (by omega) ha
      have hI2 := hI
      obtain ⟨i1, i2, i3, hP, hD, hK, hT, hSt, hW⟩ := hI
      refine va_iast (D := (dC, dI)) (cl := vwCl) (f := fun j => Int32.ofInt (gI h a j)) hx hb hK hP hD hSt a t0 he ht (i32_in h0 hi hi2) hd fun H1 locs1 g1 g2 g3 => ?_
      rw [i32_nc h0 hi2] at g1 g2
      exact kk ads tys H1 locs1 ls (inv_off hI2 (sI_off h a i.toNat x) (sI_wf hW (ok_h hS)) (cell_i hk (by omega) (by omega)) g1 g2 g3) hl hn hL (ok_t (ok_t (ok_t hS)))
    next => cases hs
  next => cases hs
theorem nar_b {x : Int} (h1 : -128 ≤ x) (h2 : x < 128) : vp_nar .byte (Int32.ofInt x) = Int32.ofInt x := by
  rw [vp_nar_byte]
  have hx : inR x := ⟨by omega, by omega⟩
  rw [← Int32.toInt_inj, i32_of hx]
  have e : (Int32.ofInt x).toInt8.toInt32.toInt = (Int32.ofInt x).toInt8.toInt := by simp
  rw [e]
  have e2 : (Int32.ofInt x).toInt8 = Int8.ofInt x := by simp
  rw [e2]
  exact Int8.toInt_ofInt_of_le (by omega) (by omega)
theorem w_bst (hs : bst pc L st h = some (.inl k)) (hx : p.tables.exec = Jvm.exec) (hb : c.code = cc) (hd : decode cc pc = .ok (.bastore, 1)) (kk : WI p l e R s m args below meth c Q dC dI A H0 ads0 sh0 k) : WI p l e R s m args below meth c Q dC dI A H0 ads0 sh0 (pc, L, st, h) := by
  unfold bst at hs
  split at hs
  next x i a r =>
    split at hs
    next hk =>
      obtain ⟨hk, h0, hi⟩ := hk
      have hk2 := go_inv hs
      subst hk2
      have ha := inA_len (n := 0) rfl hi h0
      intro ads tys H locs ls hI hl hn hL hS
      have hi2 : inR i := ok_h (ok_t hS)
      have hI2 := hI
      rcases hk with ⟨hk, hx1, hx2⟩ | ⟨hk, hx1⟩
      · obtain ⟨he, t0, ht⟩ := arr_in hI hk (by omega) ha
        obtain ⟨i1, i2, i3, hP, hD, hK, hT, hSt, hW⟩ := hI
        refine va_bast (D := (dC, dI)) (cl := vwCl) (f := fun j => Int32.ofInt (gI h a j)) hx hb hK hP hD hSt a t0 he ht (i32_in h0 hi hi2) hd fun H1 locs1 g1 g2 g3 => ?_
        rw [i32_nc h0 hi2, nar_b hx1 hx2] at g1 g2
        exact kk ads tys H1 locs1 ls (inv_off hI2 (sI_off h a i.toNat x) (sI_wf hW (ok_h hS)) (cell_i hk (by omega) (by omega)) g1 g2 g3) hl hn hL (ok_t (ok_t (ok_t hS)))
      · obtain ⟨he, t0, ht⟩ := arr_in hI hk (by omega) ha
        obtain ⟨i1, i2, i3, hP, hD, hK, hT, hSt, hW⟩ := hI
        have hnz : vp_nar .boolean (Int32.ofInt x) = Int32.ofInt x := by rcases hx1 with rfl | rfl <;> rfl
        refine va_zast (D := (dC, dI)) (cl := vwCl) (f := fun j => Int32.ofInt (gI h a j)) hx hb hK hP hD hSt a t0 he ht (i32_in h0 hi hi2) hd fun H1 locs1 g1 g2 g3 => ?_
        rw [i32_nc h0 hi2, hnz] at g1 g2
        exact kk ads tys H1 locs1 ls (inv_off hI2 (sI_off h a i.toNat x) (sI_wf hW (ok_h hS)) (cell_i hk (by omega) (by omega)) g1 g2 g3) hl hn hL (ok_t (ok_t (ok_t hS)))
    next => cases hs
  next => cases hs
theorem rV_q (ads : List (Nat × Nat)) (r : Option Nat) : va_rf (r.map (adr ads)) = rV ads (vR r) := by cases r <;> rfl
theorem ok_R (hW : WfH h) (a j : Nat) : okV h.1.length (vR (gR h a j)) := by
  cases e : gR h a j with
  | none => trivial
  | some b => exact hW.2.2.1 a j b e
theorem w_qld (hs : qld pc L st h = some (.inl k)) (hx : p.tables.exec = Jvm.exec) (hb : c.code = cc) (hd : decode cc pc = .ok (.aaload, 1)) (kk : WI p l e R s m args below meth c Q dC dI A H0 ads0 sh0 k) : WI p l e R s m args below meth c Q dC dI A H0 ads0 sh0 (pc, L, st, h) := by
  unfold qld at hs
  split at hs
  next i a r =>
    split at hs
    next hk =>
      obtain ⟨hk, h0, hi⟩ := hk
      have hk2 := go_inv hs
      subst hk2
      have ha := inA_len (n := 0) rfl hi h0
      intro ads tys H locs ls hI hl hn hL hS
      have hi2 : inR i := ok_h hS
      have h1 := kk ads tys H locs ls hI hl hn hL (ok_c (ok_R hI.2.2.2.2.2.2.2.2 a i.toNat) (ok_t (ok_t hS)))
      have hv2 := i32_in h0 hi hi2
      rcases hk with hk | hk | hk
      · obtain ⟨he, t0, ht⟩ := arr_in hI hk (by omega) ha
        obtain ⟨i1, i2, i3, hP, hD, hK, hT, hSt, hW⟩ := hI
        refine va_aldq (D := (dC, dI)) (cl := vwCl) (f := fun j => (gR h a j).map (adr ads)) hx hb hK hP a t0 he ht hv2 hd ?_
        rw [i32_nc h0 hi2, rV_q]
        exact h1
      · obtain ⟨he, t0, ht⟩ := arr_in hI hk (by omega) ha
        obtain ⟨i1, i2, i3, hP, hD, hK, hT, hSt, hW⟩ := hI
        refine va_aldq (D := (dC, dI)) (cl := vwCl) (f := fun j => (gR h a j).map (adr ads)) hx hb hK hP a t0 he ht hv2 hd ?_
        rw [i32_nc h0 hi2, rV_q]
        exact h1
      · obtain ⟨he, t0, ht⟩ := arr_in hI hk (by omega) ha
        obtain ⟨i1, i2, i3, hP, hD, hK, hT, hSt, hW⟩ := hI
        have hlt : (Int32.ofInt i).toNatClampNeg < (kd h a).2 := Nat.not_le.mp fun q => hv2 (Or.inr q)
        refine W.aald (v := va_rf ((gR h a (Int32.ofInt i).toNatClampNeg).map (adr ads))) (ty := .array .int) hx hb (hP a _ he) ((hK.2 t0 _ ht).1 (kd h a).2 (fun j => va_rf ((gR h a j).map (adr ads)))) rfl (fun q => by cases q) (by show ¬ (_ < 0 ∨ (arrV _ _ _).slots.size ≤ _); rw [arrV_size]; exact hv2) (by show (arrV _ _ _).slots[_]? = _; rw [arrV_read _ _ hlt]) rfl rfl hd ?_
        rw [i32_nc h0 hi2, rV_q]
        exact h1
    next => cases hs
  next => cases hs
theorem pay_q {ads : List (Nat × Nat)} {a t i b : Nat} (ht : 103 ≤ t) : payA ads (sR h a i (some b)) a t = .inr (.inr (.inr (.inr (va_up (fun j => (gR h a j).map (adr ads)) i (some (adr ads b)))))) := by
  unfold payA
  rw [if_neg (by omega)]
  congr 4
  funext j
  rw [gR_sR]
  unfold va_up
  by_cases e : j = i
  · simp [e]
  · simp [e]
theorem cell_q {ads : List (Nat × Nat)} {a t i b : Nat} (hk : (kd h a).1 = t) (ht : 103 ≤ t) : cellA ads (sR h a i (some b)) a = .inl (acl ads a, (kd h a).2, .inr (.inr (.inr (.inr (va_up (fun j => (gR h a j).map (adr ads)) i (some (adr ads b))))))) := by
  rw [cell_arr (t := t) (n := (kd h a).2) (by rw [off_kd (sR_off h a i (some b)), ← hk]) (by omega), pay_q ht]
theorem w_qst (hs : qst pc L st h = some (.inl k)) (hx : p.tables.exec = Jvm.exec) (hb : c.code = cc) (hd : decode cc pc = .ok (.aastore, 1)) (kk : WI p l e R s m args below meth c Q dC dI A H0 ads0 sh0 k) : WI p l e R s m args below meth c Q dC dI A H0 ads0 sh0 (pc, L, st, h) := by
  unfold qst at hs
  split at hs
  next b i a r =>
    split at hs
    next hk =>
      obtain ⟨hk, h0, hi⟩ := hk
      have hk2 := go_inv hs
      subst hk2
      have ha := inA_len (n := 0) rfl hi h0
      intro ads tys H locs ls hI hl hn hL hS
      have hi2 : inR i := ok_h (ok_t hS)
      have hI2 := hI
      have hbl : b < h.1.length := ok_h hS
      have hwf : (kd h b).1 < 100 → (kd h b).1 < 9 ∧ (kd h b).2 = clN (kd h b).1 := hI.2.2.2.2.2.2.2.2.2.2.2.1 b hbl
      have hcb : ∀ ci, (kd h b).1 = ci → ci < 9 → (wsA ads h)[b]? = some (adr ads b, .inr (ci, (List.range (clN ci)).map (fun j => rV ads (ldF h b ci j)))) := fun ci q q9 => by
        rw [ws_at hbl, cell_obj (ci := ci) (n := clN ci) (Prod.ext q (by rw [(hwf (by omega)).2, q])) (by omega)]
      rcases hk with ⟨hk, hkb⟩ | ⟨hk, hkb⟩
      · obtain ⟨he, t0, ht⟩ := arr_in hI hk (by omega) ha
        obtain ⟨i1, i2, i3, hP, hD, hK, hT, hSt, hW⟩ := hI
        refine va_astq (D := (dC, dI)) (cl := vwCl) (r := (RX2, TX2, 5)) (f := fun j => (gR h a j).map (adr ads)) hx hb hK hP hD hSt a t0 b 2 he ht (hcb 2 hkb (by omega)) rfl (i32_in h0 hi hi2) hd fun H1 locs1 g1 g2 g3 => ?_
        rw [i32_nc h0 hi2] at g1 g2
        exact kk ads tys H1 locs1 ls (inv_off hI2 (sR_off h a i.toNat (some b)) (sR_wf hW hbl) (cell_q hk (by omega)) g1 g2 g3) hl hn hL (ok_t (ok_t (ok_t hS)))
      · obtain ⟨he, t0, ht⟩ := arr_in hI hk (by omega) ha
        obtain ⟨i1, i2, i3, hP, hD, hK, hT, hSt, hW⟩ := hI
        refine va_astq (D := (dC, dI)) (cl := vwCl) (r := (RX4, TX4, 4)) (f := fun j => (gR h a j).map (adr ads)) hx hb hK hP hD hSt a t0 b 4 he ht (hcb 4 hkb (by omega)) rfl (i32_in h0 hi hi2) hd fun H1 locs1 g1 g2 g3 => ?_
        rw [i32_nc h0 hi2] at g1 g2
        exact kk ads tys H1 locs1 ls (inv_off hI2 (sR_off h a i.toNat (some b)) (sR_wf hW hbl) (cell_q hk (by omega)) g1 g2 g3) hl hn hL (ok_t (ok_t (ok_t hS)))
    next => cases hs
  next => cases hs
theorem w_aln (hs : aln pc L st h = some (.inl k)) (hx : p.tables.exec = Jvm.exec) (hb : c.code = cc) (hd : decode cc pc = .ok (.arraylength, 1)) (kk : WI p l e R s m args below meth c Q dC dI A H0 ads0 sh0 k) : WI p l e R s m args below meth c Q dC dI A H0 ads0 sh0 (pc, L, st, h) := by
  unfold aln at hs
  split at hs
  next a r =>
    split at hs
    next hk =>
      have hk2 := go_inv hs
      subst hk2
      intro ads tys H locs ls hI hl hn hL hS
      have ha : a < h.1.length := ok_h hS
      have hwf : (kd h a).1 ≤ 105 ∧ (kd h a).2 ≤ 100000 := hI.2.2.2.2.2.2.2.2.2.2.2.2 a ha hk
      have h1 := kk ads tys H locs ls hI hl hn hL (ok_c (v := vI ((kd h a).2 : Int)) ⟨by omega, by omega⟩ (ok_t hS))
      obtain ⟨he, t0, ht⟩ := arr_in hI rfl hk ha
      obtain ⟨i1, i2, i3, hP, hD, hK, hT, hSt, hW⟩ := hI
      exact va_alen (D := (dC, dI)) (cl := vwCl) hx hb hK hP a t0 he ht (v := Int32.ofInt ((kd h a).2 : Int)) rfl hd h1
    next => cases hs
  next => cases hs
end STB
