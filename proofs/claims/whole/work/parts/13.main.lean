section STF
variable {p : Program} {l : Launch} {e : Env} {R : Room} {s : State} {m : MethodId} {args : Array Value} {below : List Frame} {meth : Method} {c : Code} {Q : State → Prop} {dC : Nat → ClassId} {dI : Nat → Nat → Nat} {A : Nat → Prop} {H0 : Heap} {ads0 : List (Nat × Nat)} {sh0 : List (Nat × Nat)}
variable {cc : ByteArray} {pc ix y : Nat} {L st : List mV} {h : mH} {k : mC}
theorem w_cas {C : mCall} {d : Nat} (hSN : SNC C d) (hs : cas C (mthR (ownB y) ix) pc L st h = some (.inl k)) (hd : decode cc pc = .ok (.invokestatic ix, 3)) (hR : d + 1 ≤ R.frames ∧ d * 64 + 64 ≤ R.locals) (hr : k.2.2.2.1.length - sh0.length ≤ R.cells ∧ slS k.2.2.2.1 - slS sh0 ≤ R.slots) (hpm : h.1 <+: k.2.2.2.1) (hx : p.tables.exec = Jvm.exec) (hb : c.code = cc) (hown : s.vm.findClass (ownN (ownB y)) = some m.cls) (hts : ∀ w ∈ gdW, w.before args s = true) (hKN : KN s) (hA : ∀ q, H0.size ≤ q → A q) (kk : WI p l e R s m args below meth c Q dC dI A H0 ads0 sh0 k) : WI p l e R s m args below meth c Q dC dI A H0 ads0 sh0 (pc, L, st, h) := by
  unfold cas at hs
  split at hs
  next q nest hq =>
    split at hs
    next n dp b sp a r =>
      split at hs
      next hc => exact w_cpy hq rfl hc (go_inv hs) ⟨by omega, by omega⟩ hx hb hown hts hd kk
      next => cases hs
    next => cases hs
  next q nest hq =>
    split at hs
    next z x r =>
      split at hs
      next hc => exact w_min hq rfl hc (go_inv hs) ⟨by omega, by omega⟩ hr hx hb hown hts hd kk
      next => cases hs
    next => cases hs
  next q y2 nest n1 n2 hq =>
    split at hs
    next hc =>
      obtain ⟨hy, hsta, hlen, hcr⟩ := hc
      unfold ret2 at hs
      split at hs
      next qr hcall =>
        have hk := go_inv hs
        obtain ⟨rv, h2⟩ := qr
        subst hk
        intro ads tys H locs ls hI hl hn hL hS
        obtain ⟨w1, w2, w3, w4, w5, w6, w7, w8, -⟩ := mI_ok hy
        obtain ⟨l1, l2⟩ := mth_ok hq hy
        have hSr : ∀ v ∈ st.drop (argB y2), okV h.1.length v := fun v hv => hS v (List.mem_of_mem_drop hv)
        have hSa : ∀ v ∈ (st.take (argB y2)).reverse, okV h.1.length v := fun v hv => hS v (List.mem_of_mem_take (List.mem_reverse.mp hv))
        have hM := hSN l dC dI y2 _ h rv h2 hy hcall ads tys H.size
        have hPS : PreS s H (va_Pc (((st.take (argB y2)).reverse).map (rV ads)) (relP dC dI ads tys h H.size ((st.take (argB y2)).reverse))) (((st.take (argB y2)).reverse).map (rV ads)) := ⟨rel_blind dC dI ads tys h H.size _, pre_at hI hKN hSa⟩
        have hstk : st.map (rV ads) = (((st.take (argB y2)).reverse).map (rV ads)).reverse ++ (st.drop (argB y2)).map (rV ads) := by
          conv => lhs; rw [← List.take_append_drop (argB y2) st]
          rw [List.map_append, List.map_reverse, List.reverse_reverse]
        have hAl : (((st.take (argB y2)).reverse).map (rV ads)).length = argB y2 := by simp; omega
        have hmon : 2 * (F0 m pc ls (st.map (rV ads))).monitorRoom + (((st.drop (argB y2)).map (rV ads)).map fun v => v.category).sum ≤ 8 := by
          rw [cat_map]
          exact (by have e0 : (F0 m pc ls (st.map (rV ads))).monitorRoom = 0 := rfl; rw [e0]; omega)
        have i2 : sh0 <+: h.1 := hI.2.1
        have hrm : h.1.length - sh0.length + (h2.1.length - h.1.length) ≤ R.cells ∧ slS h.1 - slS sh0 + (slS h2.1 - slS h.1) ≤ R.slots := by
          have a1 := i2.length_le
          have a2 : h.1.length ≤ h2.1.length := hpm.length_le
          have a3 := slS_pre i2
          have a4 : slS h.1 ≤ slS h2.1 := slS_pre hpm
          have a5 : h2.1.length - sh0.length ≤ R.cells ∧ slS h2.1 - slS sh0 ≤ R.slots := hr
          omega
        have hroom : (rmB d (h2.1.length - h.1.length) (slS h2.1 - slS h.1)).frames + 1 ≤ R.frames ∧ 8 + (maxB y2 + 11) + (rmB d (h2.1.length - h.1.length) (slS h2.1 - slS h.1)).locals ≤ R.locals := by
          show d + 1 ≤ R.frames ∧ 8 + (maxB y2 + 11) + d * 64 ≤ R.locals
          omega
        have hfix : CallFix p m c cc c.maxLocals s args gdW (ownN (ownB y)) := ⟨hx, hb, rfl, hown, hts⟩
        have hls : ls.size = c.maxLocals := hl.1.trans hn
        have hpd : (namB y2).cls ≠ "java/lang/invoke/MethodHandle" ∧ (namB y2).cls ≠ "java/lang/invoke/VarHandle" ∧ (parseMethodDescriptor (namB y2).desc).map (fun d => d.parameters.length) = some (argB y2) := ⟨w3.1, w3.2, w4⟩
        have hin := wsB_in hy
        cases nest with
        | false =>
          have cw := va_cwS (R := R) (s := s) (args := args) (own := ownN (ownB y)) (index := ix) (y := namB y2) (bytes := codB y2) (maxL := maxB y2) (ret := retB y2) (ws := wsB y2) (ws' := gdW) (rm := rmB d (h2.1.length - h.1.length) (slS h2.1 - slS h.1)) (mc := h2.1.length - h.1.length) (ms := slS h2.1 - slS h.1) (argB y2) hts (good_gd fun w hw => by
            rcases List.mem_append.mp hw with g | g
            · simp only [List.mem_cons, List.not_mem_nil, or_false] at g
              rcases g with rfl | rfl | rfl
              · exact l1 rfl
              · exact w8 hsta
              · exact w2
            · exact hin w g) rfl rfl rfl hpd hroom
          exact call_go hI hA hl hn hL hSr (va_runS hfix hM cw hPS rfl hAl hls hstk hmon hd hrm) kk
        | true =>
          have cw := va_cnB (R := R) (s := s) (args := args) (own := ownN (ownB y)) (host := RX7) (index := ix) (y := namB y2) (bytes := codB y2) (maxL := maxB y2) (ret := retB y2) (ws := wsB y2) (ws' := gdW) (rm := rmB d (h2.1.length - h.1.length) (slS h2.1 - slS h.1)) (mc := h2.1.length - h.1.length) (ms := slS h2.1 - slS h.1) (argB y2) hts (good_gd hin) rfl rfl rfl (hKN.1 _ (l2 rfl) rfl) (hts _ w2) hpd hroom
          exact call_go hI hA hl hn hL hSr (va_runSN hfix hM ⟨cw, hts _ (w8 hsta), trivial⟩ hPS rfl hAl hls hstk hmon hd hrm) kk
      next => cases hs
    next => cases hs
  next => cases hs
theorem w_cai {C : mCall} {d : Nat} (hSN : SNC C d) (hs : cai C (mthR (ownB y) ix) pc L st h = some (.inl k)) (hd : decode cc pc = .ok (.invokespecial ix, 3)) (hR : d + 1 ≤ R.frames ∧ d * 64 + 64 ≤ R.locals) (hr : k.2.2.2.1.length - sh0.length ≤ R.cells ∧ slS k.2.2.2.1 - slS sh0 ≤ R.slots) (hpm : h.1 <+: k.2.2.2.1) (hx : p.tables.exec = Jvm.exec) (hb : c.code = cc) (hown : s.vm.findClass (ownN (ownB y)) = some m.cls) (hts : ∀ w ∈ gdW, w.before args s = true) (hKN : KN s) (hA : ∀ q, H0.size ≤ q → A q) (kk : WI p l e R s m args below meth c Q dC dI A H0 ads0 sh0 k) : WI p l e R s m args below meth c Q dC dI A H0 ads0 sh0 (pc, L, st, h) := by
  unfold cai at hs
  split at hs
  next q nest hq =>
    split at hs
    next a r =>
      split at hs
      next hc => exact w_oin hq rfl hc (go_inv hs) ⟨by omega, by omega⟩ hx hb hown hts hd kk
      next => cases hs
    next => cases hs
  next => exact w_cav (ins := .nop) hSN hs (Or.inr ⟨rfl, hd⟩) hR hr hpm hx hb hown hts hKN hA kk
theorem K_push {tys : List (ClassId × FieldType)} {c2 : ClassId} {t : FieldType} (hK : va_K (dC, dI) vwCl tys s) (h : ArrOfT s c2 t ∧ va_RA s c2 t) : va_K (dC, dI) vwCl (tys ++ [(c2, t)]) s :=
  ⟨hK.1, fun j q hj => by
    by_cases hl : j < tys.length
    · rw [List.getElem?_append_left hl] at hj
      exact hK.2 j q hj
    · rw [List.getElem?_append_right (by omega)] at hj
      have hz : j - tys.length < 1 := (List.getElem?_eq_some_iff.mp hj).1
      rw [show j - tys.length = 0 by omega] at hj
      cases hj
      exact h⟩
theorem w_nw2 (hs : nw2 (clsR (ownB y) ix) pc L st h = some (.inl k)) (hr : k.2.2.2.1.length - sh0.length ≤ R.cells ∧ slS k.2.2.2.1 - slS sh0 ≤ R.slots) (hx : p.tables.exec = Jvm.exec) (hb : c.code = cc) (hown : s.vm.findClass (ownN (ownB y)) = some m.cls) (hts : ∀ w ∈ gdW, w.before args s = true) (hKN : KN s) (hd : decode cc pc = .ok (.multianewarray ix 2, 4)) (hA : ∀ q, H0.size ≤ q → A q) (kk : WI p l e R s m args below meth c Q dC dI A H0 ads0 sh0 k) : WI p l e R s m args below meth c Q dC dI A H0 ads0 sh0 (pc, L, st, h) := by
  unfold nw2 at hs
  split at hs
  next q hq =>
    split at hs
    next kx nx r =>
      split at hs
      next hc =>
        obtain ⟨k0, k1, n0, n1⟩ := hc
        have hk := go_inv hs
        subst hk
        intro ads tys H locs ls hI hl hn hL hS
        have ok := ok_h hS
        have on := ok_h (ok_t hS)
        have hI2 := hI
        obtain ⟨i1, i2, i3, hP, hD, hK, hT, hSt, hW⟩ := hI
        have hP : va_P (dC, dI) vwCl (wsA ads h) H := hP
        have hD : va_D A (wsA ads h) := hD
        have i2 : sh0 <+: h.1 := i2
        have i3 : ads.length = h.1.length := i3
        have hW : WfH h := hW
        have hT : tyOK ads tys h := hT
        obtain ⟨cy, ky, cmp, y1, y2, y3⟩ := Cond.arrayClass_spec (hts _ arc_ws.1)
        have hcy : ArrOfT s cy .int ∧ va_RA s cy .int := ⟨fun N z => ⟨(fun q hq => by cases hq), ky, y2, cmp, y3⟩, y1⟩
        have neg : ∀ {x : Int}, 0 ≤ x → inR x → ¬ Int32.ofInt x < 0 := fun h0 hx q => by rw [show (0 : Int32) = Int32.ofInt 0 from rfl, i32_lt hx z_in] at q; omega
        have len2 := nwm_len h nx.toNat kx.toNat
        have sl2 := nwm_slS h nx.toNat kx.toNat
        have a1 := i2.length_le
        have a3 := slS_pre i2
        have hr2 : (nwm h nx.toNat kx.toNat).1.length - sh0.length ≤ R.cells ∧ slS (nwm h nx.toNat kx.toNat).1 - slS sh0 ≤ R.slots := hr
        have hcl : h.1.length - sh0.length + (1 + nx.toNat) ≤ R.cells := by omega
        have hsl : slS h.1 - slS sh0 + (nx.toNat + nx.toNat * kx.toNat) ≤ R.slots := by omega
        have lk : Cond.classLink (ownN (ownB y)) ix ("[" ++ (FieldType.array .int).toString) ∈ gdW := cls_2 hq
        refine va_mna (D := (dC, dI)) (cl := vwCl) (X := wsA ads h) (L := []) (f := fun _ => .inl (0, (0, .inl (fun _ => 0)))) (ty := .int) (z := (kx.toNat, .inl (fun _ => 0))) hx hb hown (hts _ lk) hKN.2.2.2 (hts _ arc_ws.1) y1 hK (by show va_P _ _ (wsA ads h ++ []) H; rw [List.append_nil]; exact hP) (by show va_D _ (wsA ads h ++ []); rw [List.append_nil]; exact hD) hSt hA (neg n0 on) (neg k0 ok) (i32_nc n0 on) (i32_nc k0 ok) (by omega) (by show kx.toNat * 4 ≤ _; omega) (by omega) rfl rfl hcl hsl (fun c2 => ?_) hd fun q rr cA H1 hinj hnl hK2 hP2 hD2 hS2 => ?_
        · show ({ cls := c2, slots := Array.replicate kx.toNat (.int 0), vm := .none } : Cell) = _
          rw [arrV_new]
          rfl
        · have x := nwm_ext h nx.toNat kx.toNat
          have ml : ((q, cA) :: (List.range nx.toNat).map (fun i => (rr i, cy))).length = nx.toNat + 1 := by simp
          generalize hM2 : (List.range nx.toNat).map (fun i => (rr i, cy)) = M2 at ml
          have adrq : adr (ads ++ (q, cA) :: M2) h.1.length = q ∧ acl (ads ++ (q, cA) :: M2) h.1.length = cA := by
            rw [← i3]
            simp [adr, acl, List.getD_eq_getElem?_getD]
          have adrr : ∀ i, i < nx.toNat → adr (ads ++ (q, cA) :: M2) (h.1.length + 1 + i) = rr i ∧ acl (ads ++ (q, cA) :: M2) (h.1.length + 1 + i) = cy := by
            intro i hi
            have e1 : (ads ++ (q, cA) :: M2)[h.1.length + 1 + i]? = some (rr i, cy) := by
              rw [List.getElem?_append_right (by omega), show h.1.length + 1 + i - ads.length = i + 1 by omega, List.getElem?_cons_succ, ← hM2, List.getElem?_map, List.getElem?_range hi]
              rfl
            unfold adr acl
            rw [List.getD_eq_getElem?_getD, e1]
            exact ⟨rfl, rfl⟩
          have kd0 : kd (nwm h nx.toNat kx.toNat) h.1.length = (105, nx.toNat) := by
            rw [nwm_kd, ext_kd (nws_ext (nw h 105 nx.toNat) 100 kx.toNat nx.toNat) (by rw [nw_len]; omega)]
            exact nw_kd h 105 nx.toNat
          have gR0 : ∀ j, gR (nwm h nx.toNat kx.toNat) h.1.length j = if j < nx.toNat then some (h.1.length + 1 + j) else none := by
            intro j
            rw [nwm_gR]
            by_cases g : j < nx.toNat
            · rw [if_pos ⟨rfl, g⟩, if_pos g]
            · rw [if_neg (fun z => g z.2), if_neg g, ((nws_ext (nw h 105 nx.toNat) 100 kx.toNat nx.toNat).2 h.1.length (by rw [nw_len]; omega)).2.2, nw_gR]
          have kdi : ∀ i, i < nx.toNat → kd (nwm h nx.toNat kx.toNat) (h.1.length + 1 + i) = (100, kx.toNat) ∧ gI (nwm h nx.toNat kx.toNat) (h.1.length + 1 + i) = fun _ => 0 := by
            intro i hi
            have g := nws_kd (nw h 105 nx.toNat) 100 kx.toNat nx.toNat i hi
            rw [nw_len] at g
            exact g
          have c0 : cellA (ads ++ (q, cA) :: M2) (nwm h nx.toNat kx.toNat) h.1.length = .inl (cA, nx.toNat, .inr (.inr (.inr (.inr (fun i => if i < nx.toNat then some (rr i) else none))))) := by
            rw [cell_arr kd0 (by omega), adrq.2]
            unfold payA
            rw [if_neg (by omega)]
            refine congrArg (fun z => Sum.inl (cA, nx.toNat, Sum.inr (Sum.inr (Sum.inr (Sum.inr z))))) (funext fun j => ?_)
            rw [gR0]
            by_cases g : j < nx.toNat
            · rw [if_pos g, if_pos g]
              show some _ = some _
              rw [(adrr j g).1]
            · rw [if_neg g, if_neg g]
              rfl
          have ci : ∀ i, i < nx.toNat → cellA (ads ++ (q, cA) :: M2) (nwm h nx.toNat kx.toNat) (h.1.length + 1 + i) = .inl (cy, kx.toNat, .inl (fun _ => 0)) := by
            intro i hi
            obtain ⟨g1, g2⟩ := kdi i hi
            rw [cell_arr g1 (by omega), (adrr i hi).2]
            unfold payA
            rw [if_pos (by omega), g2]
            rfl
          have ew : wsA (ads ++ (q, cA) :: M2) (nwm h nx.toNat kx.toNat) = (wsA ads h ++ [(q, .inl (cA, nx.toNat, .inr (.inr (.inr (.inr (fun i => if i < nx.toNat then some (rr i) else none))))))]) ++ va_pl ([] ++ (List.range nx.toNat).map rr) (vr_up (fun _ => .inl (0, (0, .inl (fun _ => 0)))) ((List.range nx.toNat).map rr) (.inl (cy, (kx.toNat, .inl (fun _ => 0))))) := by
            rw [ext_ws x hW i3 (by rw [len2, ml]; omega), ml, List.range_succ_eq_map, List.map_cons, List.map_map]
            rw [List.append_assoc]
            congr 1
            show _ :: _ = _ :: _
            congr 1
            · show (adr _ h.1.length, cellA _ _ h.1.length) = _
              rw [adrq.1, c0]
            · unfold va_pl
              rw [List.nil_append, List.map_map]
              apply List.map_congr_left
              intro i hi
              have hi2 := List.mem_range.mp hi
              show (adr _ (h.1.length + (i + 1)), cellA _ _ (h.1.length + (i + 1))) = (rr i, vr_up _ _ _ (rr i))
              rw [show h.1.length + (i + 1) = h.1.length + 1 + i by omega, (adrr i hi2).1, ci i hi2, vr_up_in (List.mem_map.mpr ⟨i, hi, rfl⟩)]
          have hinv : InvA dC dI A H0 s ads0 sh0 (ads ++ (q, cA) :: M2) (tys ++ ([(cA, .array .int)] ++ [(cy, .int)])) (nwm h nx.toNat kx.toNat) H1 locs := by
            refine ⟨i1.trans ⟨_, rfl⟩, i2.trans x.1, by rw [len2, List.length_append, ml, i3]; omega, by rw [ew]; exact hP2, by rw [ew]; exact hD2, by rw [← List.append_assoc]; exact K_push hK2 hcy, ?_, hS2, nwm_wf hW (by omega) (by omega)⟩
            refine ext_ty x i3 hT (fun i z hz => by rw [List.getElem?_append_left (List.getElem?_eq_some_iff.mp hz).1]; exact hz) fun j g1 g2 g3 => ?_
            by_cases g : j = h.1.length
            · subst g
              rw [kd0, adrq.2]
              exact ⟨tys.length, by rw [List.getElem?_append_right (Nat.le_refl _), Nat.sub_self]; rfl⟩
            · rw [len2] at g2
              obtain ⟨i, rfl⟩ : ∃ i, j = h.1.length + 1 + i := ⟨j - (h.1.length + 1), by omega⟩
              have hi : i < nx.toNat := by omega
              rw [(kdi i hi).1, (adrr i hi).2]
              exact ⟨tys.length + 1, by rw [List.getElem?_append_right (by omega), show tys.length + 1 - tys.length = 1 by omega]; rfl⟩
          have h1 := kk _ _ H1 locs ls hinv (lr_pre ⟨_, rfl⟩ (by rw [i3]; exact hL) hl) hn (fun v hv => (hL v hv).up (by show h.1.length ≤ (nwm h nx.toNat kx.toNat).1.length; omega)) (ok_c (v := vR (some h.1.length)) (by show h.1.length < (nwm h nx.toNat kx.toNat).1.length; omega) (fun v hv => (ok_t (ok_t hS) v hv).up (by show h.1.length ≤ (nwm h nx.toNat kx.toNat).1.length; omega)))
          have er : (vR (some h.1.length) :: r).map (rV (ads ++ (q, cA) :: M2)) = .ref q :: r.map (rV ads) := by
            show Value.ref _ :: _ = _
            rw [adrq.1]
            congr 1
            apply List.map_congr_left
            intro v hv
            exact rV_app (by rw [i3]; exact ok_t (ok_t hS) v hv)
          dsimp only at h1
          rw [er, show (nwm h nx.toNat kx.toNat).1.length - sh0.length = h.1.length - sh0.length + 1 + nx.toNat by omega, show slS (nwm h nx.toNat kx.toNat).1 - slS sh0 = slS h.1 - slS sh0 + nx.toNat + nx.toNat * kx.toNat by omega] at h1
          exact h1
      next => cases hs
    next => cases hs
  next => cases hs
end STF
