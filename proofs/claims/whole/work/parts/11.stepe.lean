def relP (dC : Nat → ClassId) (dI : Nat → Nat → Nat) (ads : List (Nat × Nat)) (tys : List (ClassId × FieldType)) (h : mH) (sz : Nat) (as : List mV) (U : State) : Prop :=
  U.heap.size = sz ∧ ads.length = h.1.length ∧ va_P (dC, dI) vwCl (wsA ads h) U.heap ∧ va_D (fun _ => True) (wsA ads h) ∧ va_K (dC, dI) vwCl tys U ∧ tyOK ads tys h ∧ WfH h ∧ KN U ∧ ∀ v ∈ as, okV h.1.length v
def relQ (dC : Nat → ClassId) (dI : Nat → Nat → Nat) (ads : List (Nat × Nat)) (h : mH) (sz : Nat) (r : Option mV) (h2 : mH) : Array Value → State → Outcome → State → Prop := fun _ st oc t => ∃ (ads2 : List (Nat × Nat)) (tys2 : List (ClassId × FieldType)),
  oc = .returned (r.map (rV ads2)) ∧ ads <+: ads2 ∧ h.1 <+: h2.1 ∧ ads2.length = h2.1.length ∧ va_P (dC, dI) vwCl (wsA ads2 h2) t.heap ∧ va_D (va_A (wsA ads h) sz) (wsA ads2 h2) ∧ va_K (dC, dI) vwCl tys2 t ∧ tyOK ads2 tys2 h2 ∧ WfH h2 ∧ (∀ v, r = some v → okV h2.1.length v) ∧ va_F (va_A (wsA ads h) sz) st t
def rmB (d mc ms : Nat) : Room := { frames := d, cells := mc, slots := ms, locals := d * 64 }
def SNC (C : mCall) (d : Nat) : Prop := ∀ (l : Launch) (dC : Nat → ClassId) (dI : Nat → Nat → Nat) (y : Nat) (as : List mV) (h : mH) (r : Option mV) (h2 : mH), y < 195 → C y as h = some (r, h2) → ∀ (ads : List (Nat × Nat)) (tys : List (ClassId × FieldType)) (sz : Nat),
  Met l (namB y) (wsB y) (rmB d (h2.1.length - h.1.length) (slS h2.1 - slS h.1)) (va_Pc (as.map (rV ads)) (relP dC dI ads tys h sz as)) (relQ dC dI ads h sz r h2) (h2.1.length - h.1.length) (slS h2.1 - slS h.1) (va_A (wsA ads h) sz)
theorem good_gd {ws : List Jvm.Cond} (h : ∀ w ∈ ws, w ∈ gdW) : GoodIn gdW ws := fun w hw => ⟨h w hw, good_of_word (List.mem_filter.mp (h w hw)).2⟩
theorem wsB_in {y : Nat} (hy : y < 195) : ∀ w ∈ wsB y, w ∈ gdW := fun w hw => by
  rcases List.mem_cons.mp hw with q | q
  · rw [q]; exact (mI_ok hy).1
  · exact q
theorem KN.same {u U : State} (hv : u.vm = U.vm) (h : KN u) : KN U := by
  have ha : u.vm.Alike U.vm := by rw [hv]; exact Vm.Alike.refl U.vm
  refine ⟨fun w hw hn => ?_, h.2.1.moved ha, h.2.2.1.moved ha, h.2.2.2.moved ha⟩
  have h1 := h.1 w hw hn
  cases w <;> first | exact va_Nw.same rfl hv h1 | exact absurd hn (by simp [nestW])
theorem rel_blind (dC : Nat → ClassId) (dI : Nat → Nat → Nat) (ads : List (Nat × Nat)) (tys : List (ClassId × FieldType)) (h : mH) (sz : Nat) (as : List mV) : FrameBlind (va_Pc (as.map (rV ads)) (relP dC dI ads tys h sz as)) := fun a U g mk q => by
  obtain ⟨q0, q1, q2, q3, q4, q5, q6, q7, q8, q9⟩ := q
  exact ⟨q0, q1, q2, q3, q4, va_K.moved (u := U) (U := U.calling g mk a) (Vm.Alike.refl U.vm) q5, q6, q7, KN.same (u := U) (U := U.calling g mk a) rfl q8, q9⟩
section STE
variable {p : Program} {l : Launch} {e : Env} {R : Room} {s : State} {m : MethodId} {args : Array Value} {below : List Frame} {meth : Method} {c : Code} {Q : State → Prop} {dC : Nat → ClassId} {dI : Nat → Nat → Nat} {A : Nat → Prop} {H0 : Heap} {ads0 : List (Nat × Nat)} {sh0 : List (Nat × Nat)}
variable {cc : ByteArray} {pc ix y : Nat} {L st : List mV} {h : mH} {k : mC}
/-- behind a call: the world that came back -/
theorem call_go {ads : List (Nat × Nat)} {tys : List (ClassId × FieldType)} {H : Heap} {locs : List Loc} {ls : Array Slot} {r : List mV} {rv : Option mV} {h2 : mH} {a : Array Value} {st0 : List Value} (hI : InvA dC dI A H0 s ads0 sh0 ads tys h H locs) (hA : ∀ q, H0.size ≤ q → A q) (hl : lrA ads ls L) (hn : L.length = c.maxLocals) (hL : ∀ v ∈ L, okV h.1.length v) (hS : ∀ v ∈ r, okV h.1.length v)
    (hr : va_Run p l e R s m args below meth c H locs (h.1.length - sh0.length) (slS h.1 - slS sh0) (h2.1.length - h.1.length) (slS h2.1 - slS h.1) (F0 m pc ls st0) (r.map (rV ads)) (relQ dC dI ads h H.size rv h2 a) (va_A (wsA ads h) H.size)) (kk : WI p l e R s m args below meth c Q dC dI A H0 ads0 sh0 (pc + 3, L, rv.toList ++ r, h2)) : W p l e R s m args below meth c H locs (h.1.length - sh0.length) (slS h.1 - slS sh0) Q (F0 m pc ls st0) := by
  intro T hT X
  obtain ⟨v, st1, t, T2, L2, h0, X2, hL2, e1, e2, ⟨ads2, tys2, hv, p1, p2, p3, hP, hD, hK, hT2, hW, hok, hz, hk⟩, go1⟩ := hr T hT X
  obtain ⟨i1, i2, i3, iP, iD, iK, iT, iS, iW⟩ := hI
  have hv2 : v = rv.map (rV ads2) := by injection hv
  subst hv2
  have hF : ∀ q, va_A (wsA ads h) H.size q → A q := by
    intro q hq
    rcases hq with ⟨j, ej, hj⟩ | hq
    · exact iD.2 j _ hj
    · exact hA q (Nat.le_trans iS.1 hq)
  rw [h0] at hz hk
  have hal : s.vm.Alike t.vm := by rw [← e2]; exact X2.warmed.alike
  have hinv : InvA dC dI A H0 s ads0 sh0 ads2 tys2 h2 T2.heap (locs ++ L2) := by
    refine ⟨i1.trans p1, i2.trans p2, p3, by rw [e1]; exact hP, hD.weaken (fun _ _ _ q => hF _ q), va_K.moved hal.symm hK, hT2, ⟨by rw [e1]; exact Nat.le_trans iS.1 hz, fun q g1 g2 => ?_, fun q hq => ?_⟩, hW⟩
    · rw [e1, hk q (Nat.lt_of_lt_of_le g1 iS.1) (fun z => g2 (hF q z))]
      exact iS.2.1 q g1 g2
    · rcases List.mem_append.mp hq with g | g
      · exact iS.2.2 q g
      · exact hF _ (hL2 q g)
  have h1l := p2.length_le
  have hw := kk ads2 tys2 T2.heap (locs ++ L2) ls hinv (lr_pre p1 (by rw [i3]; exact hL) hl) hn (fun v hv => (hL v hv).up h1l) (fun v hv => by
    rcases List.mem_append.mp hv with g | g
    · cases hrv : rv with
      | none => rw [hrv] at g; cases g
      | some u =>
        rw [hrv] at g
        have : v = u := by simpa using g
        rw [this]
        exact hok u hrv
    · exact (hS v g).up h1l)
  have es : (rv.toList ++ r).map (rV ads2) = (rv.map (rV ads2)).toList ++ r.map (rV ads) := by
    rw [List.map_append]
    congr 1
    · cases rv <;> rfl
    · apply List.map_congr_left
      intro v hv
      exact rV_pre p1 (by rw [i3]; exact hS v hv)
  dsimp only at hw
  rw [es] at hw
  have c1 : h.1.length - sh0.length + (h2.1.length - h.1.length) = h2.1.length - sh0.length := by have := i2.length_le; omega
  have c2 : slS h.1 - slS sh0 + (slS h2.1 - slS h.1) = slS h2.1 - slS sh0 := by
    have := slS_pre i2
    have := slS_pre p2
    omega
  rw [c1, c2] at X2
  obtain ⟨u, a1, b1⟩ := hw T2 rfl X2
  exact ⟨u, go1 u a1, b1⟩
theorem cat_map (ads : List (Nat × Nat)) (r : List mV) : ((r.map (rV ads)).map fun v => v.category).sum = catS r := by
  unfold catS
  rw [List.map_map]
  congr 1
  apply List.map_congr_left
  intro v _
  exact rV_cat ads v
theorem pre_at {ads : List (Nat × Nat)} {tys : List (ClassId × FieldType)} {H : Heap} {locs : List Loc} {as : List mV} (hI : InvA dC dI A H0 s ads0 sh0 ads tys h H locs) (hKN : KN s) (has : ∀ v ∈ as, okV h.1.length v) : ∀ U : State, U.heap = H → s.WarmedH U.vm → va_Pc (as.map (rV ads)) (relP dC dI ads tys h H.size as) (as.map (rV ads)).toArray U := by
  obtain ⟨i1, i2, i3, iP, iD, iK, iT, iS, iW⟩ := hI
  intro U hU hW
  exact ⟨rfl, by rw [hU], i3, by rw [hU]; exact iP, iD.weaken (fun _ _ _ _ => trivial), va_K.moved hW.alike iK, iT, iW, hKN.warm hW, has⟩
theorem w_cav {C : mCall} {d : Nat} {ini : Bool} {ins : Instr} (hSN : SNC C d) (hs : cav C ini (mthR (ownB y) ix) pc L st h = some (.inl k)) (hd : ini = false ∧ decode cc pc = .ok (.invokevirtual ix, 3) ∨ ini = true ∧ decode cc pc = .ok (.invokespecial ix, 3)) (hR : d + 1 ≤ R.frames ∧ d * 64 + 64 ≤ R.locals) (hr : k.2.2.2.1.length - sh0.length ≤ R.cells ∧ slS k.2.2.2.1 - slS sh0 ≤ R.slots) (hpm : h.1 <+: k.2.2.2.1) (hx : p.tables.exec = Jvm.exec) (hb : c.code = cc) (hown : s.vm.findClass (ownN (ownB y)) = some m.cls) (hts : ∀ w ∈ gdW, w.before args s = true) (hKN : KN s) (hA : ∀ q, H0.size ≤ q → A q) (kk : WI p l e R s m args below meth c Q dC dI A H0 ads0 sh0 k) : WI p l e R s m args below meth c Q dC dI A H0 ads0 sh0 (pc, L, st, h) := by
  unfold cav at hs
  split at hs
  next q y2 nest hq =>
    split at hs
    next b r hst =>
      split at hs
      next hc =>
        obtain ⟨hkb, o9, hy, hsta, hini, hcr⟩ := hc
        unfold ret2 at hs
        split at hs
        next qr hcall =>
          have hk := go_inv hs
          obtain ⟨rv, h2⟩ := qr
          subst hk
          intro ads tys H locs ls hI hl hn hL hS
          obtain ⟨w1, w2, w3, w4, w5, w6, w7, -, w9⟩ := mI_ok hy
          obtain ⟨v1, v2, v3, v4⟩ := w9 hsta
          obtain ⟨l1, l2⟩ := mth_ok hq hy
          have hsplit : st = st.take (argB y2) ++ vR (some b) :: r := by rw [← hst, List.take_append_drop]
          have hSr : ∀ v ∈ vR (some b) :: r, okV h.1.length v := fun v hv => hS v (by show v ∈ st; rw [hsplit]; exact List.mem_append_right _ hv)
          have hSa : ∀ v ∈ vR (some b) :: (st.take (argB y2)).reverse, okV h.1.length v := ok_c (ok_h hSr) (fun v hv => hS v (List.mem_of_mem_take (List.mem_reverse.mp hv)))
          have hbl : b < h.1.length := ok_h hSr
          have hlen : (st.take (argB y2)).length = argB y2 := by
            rw [List.length_take]
            have : (st.drop (argB y2)).length = r.length + 1 := by rw [hst]; rfl
            rw [List.length_drop] at this
            omega
          have hM := hSN l dC dI y2 _ h rv h2 hy hcall ads tys H.size
          have hpre := pre_at hI hKN hSa
          have hcl := va_recv hI.2.2.2.2.2.1 hI.2.2.2.1 (cl_at o9) (by rw [ws_at hbl, cell_obj hkb (by omega)])
          have hPV : PreV s H (namB y2).cls (adr ads b) (va_Pc ((vR (some b) :: (st.take (argB y2)).reverse).map (rV ads)) (relP dC dI ads tys h H.size (vR (some b) :: (st.take (argB y2)).reverse))) (((st.take (argB y2)).reverse).map (rV ads)) := ⟨rel_blind dC dI ads tys h H.size _, by rw [w5]; exact hcl, hpre⟩
          have hstk : st.map (rV ads) = (((st.take (argB y2)).reverse).map (rV ads)).reverse ++ Value.ref (adr ads b) :: r.map (rV ads) := by
            conv => lhs; rw [hsplit]
            rw [List.map_append, List.map_reverse, List.reverse_reverse]
            rfl
          have hAl : (((st.take (argB y2)).reverse).map (rV ads)).length = argB y2 := by simp; simpa using hlen
          have hmon : 2 * (F0 m pc ls (st.map (rV ads))).monitorRoom + ((r.map (rV ads)).map fun v => v.category).sum ≤ 8 := by
            rw [cat_map]
            exact (by have e0 : (F0 m pc ls (st.map (rV ads))).monitorRoom = 0 := rfl; rw [e0]; omega)
          have i2 : sh0 <+: h.1 := hI.2.1
          have hrm : h.1.length - sh0.length + (h2.1.length - h.1.length) ≤ R.cells ∧ slS h.1 - slS sh0 + (slS h2.1 - slS h.1) ≤ R.slots := by
            have a1 := i2.length_le
            have a2 : h.1.length ≤ h2.1.length := hpm.length_le
            have a3 := slS_pre i2
            have a4 : slS h.1 ≤ slS h2.1 := slS_pre hpm
            have a5 : h2.1.length - sh0.length ≤ R.cells ∧ slS h2.1 - slS sh0 ≤ R.slots := hr
            omega
          have hroom : (rmB d (h2.1.length - h.1.length) (slS h2.1 - slS h.1)).frames + 1 ≤ R.frames ∧ 8 + (maxB y2 + 11) + (rmB d (h2.1.length - h.1.length) (slS h2.1 - slS h.1)).locals ≤ R.locals := by
            show d + 1 ≤ R.frames ∧ 8 + (maxB y2 + 11) + d * 64 ≤ R.locals
            omega
          have hfix : CallFix p m c cc c.maxLocals s args gdW (ownN (ownB y)) := ⟨hx, hb, rfl, hown, hts⟩
          have hls : ls.size = c.maxLocals := hl.1.trans hn
          have hpd : (namB y2).cls ≠ "java/lang/invoke/MethodHandle" ∧ (namB y2).cls ≠ "java/lang/invoke/VarHandle" ∧ (parseMethodDescriptor (namB y2).desc).map (fun d => d.parameters.length) = some (argB y2) := ⟨w3.1, w3.2, w4⟩
          have hin := wsB_in hy
          rcases hd with ⟨rfl, hd⟩ | ⟨rfl, hd⟩
          · cases nest with
            | false =>
              have cw := cwV (R := R) (s := s) (args := args) (own := ownN (ownB y)) (C := (namB y2).cls) (index := ix) (y := namB y2) (bytes := codB y2) (maxL := maxB y2) (ret := retB y2) (ws := wsB y2) (ws' := gdW) (rm := rmB d (h2.1.length - h.1.length) (slS h2.1 - slS h.1)) (mc := h2.1.length - h.1.length) (ms := slS h2.1 - slS h.1) (argB y2) hts (good_gd fun w hw => by
                rcases List.mem_append.mp hw with g | g
                · simp only [List.mem_cons, List.not_mem_nil, or_false] at g
                  rcases g with rfl | rfl | rfl | rfl
                  · exact l1 rfl
                  · exact v2
                  · exact v4 hini
                  · exact w2
                · exact hin w g) rfl rfl rfl ⟨rfl, hpd⟩ hroom
              exact call_go hI hA hl hn hL (ok_t hSr) (va_runV hfix hM cw hPV rfl hAl hls hstk hmon hd hrm) kk
            | true =>
              have cw := va_cnB (R := R) (s := s) (args := args) (own := ownN (ownB y)) (host := RX7) (index := ix) (y := namB y2) (bytes := codB y2) (maxL := maxB y2) (ret := retB y2) (ws := wsB y2) (ws' := gdW) (rm := rmB d (h2.1.length - h.1.length) (slS h2.1 - slS h.1)) (mc := h2.1.length - h.1.length) (ms := slS h2.1 - slS h.1) (argB y2) hts (good_gd hin) rfl rfl rfl (hKN.1 _ (l2 rfl) rfl) (hts _ w2) hpd hroom
              exact call_go hI hA hl hn hL (ok_t hSr) (va_runVN hfix hM ⟨cw, hts _ v2, hts _ (v4 hini)⟩ hPV rfl hAl hls hstk hmon hd hrm) kk
          · have hnm : (namB y2).name = "<init>" := by unfold iniB at hini; exact eq_of_beq hini
            have hrt := v3 hini
            rw [show wsB y2 = .code (namB y2) (codB y2) (maxB y2) none :: gdW by unfold wsB; rw [hrt]] at hM
            have hPS : PreS s H (va_Pc ((vR (some b) :: (st.take (argB y2)).reverse).map (rV ads)) (relP dC dI ads tys h H.size (vR (some b) :: (st.take (argB y2)).reverse))) (.ref (adr ads b) :: ((st.take (argB y2)).reverse).map (rV ads)) := ⟨rel_blind dC dI ads tys h H.size _, hpre⟩
            have hcd : ∀ w ∈ (.code (namB y2) (codB y2) (maxB y2) none :: gdW : List Jvm.Cond), w ∈ gdW := by
              intro w hw
              rcases List.mem_cons.mp hw with g | g
              · rw [g, ← hrt]; exact w1
              · exact g
            cases nest with
            | false =>
              have cw := cwI (R := R) (s := s) (args := args) (own := ownN (ownB y)) (index := ix) (y := namB y2) (bytes := codB y2) (maxL := maxB y2) (ws := .code (namB y2) (codB y2) (maxB y2) none :: gdW) (ws' := gdW) (rm := rmB d (h2.1.length - h.1.length) (slS h2.1 - slS h.1)) (mc := h2.1.length - h.1.length) (ms := slS h2.1 - slS h.1) (argB y2) hts (good_gd hcd) rfl rfl rfl (hts _ w2) (hts _ (l1 rfl)) (hts _ v2) hnm hpd hroom
              exact call_go hI hA hl hn hL (ok_t hSr) (va_runI hfix hM cw hPS rfl hAl hls hstk hmon hd hrm) kk
            | true =>
              have cw := va_cnB (R := R) (s := s) (args := args) (own := ownN (ownB y)) (host := RX7) (index := ix) (y := namB y2) (bytes := codB y2) (maxL := maxB y2) (ret := none) (ws := .code (namB y2) (codB y2) (maxB y2) none :: gdW) (ws' := gdW) (rm := rmB d (h2.1.length - h.1.length) (slS h2.1 - slS h.1)) (mc := h2.1.length - h.1.length) (ms := slS h2.1 - slS h.1) (argB y2) hts (good_gd hcd) rfl rfl rfl (hKN.1 _ (l2 rfl) rfl) (hts _ w2) hpd hroom
              exact call_go hI hA hl hn hL (ok_t hSr) (va_runIN hfix hM ⟨cw, hnm, hts _ v2⟩ hPS rfl hAl hls hstk hmon hd hrm) kk
        next => cases hs
      next => cases hs
    next => cases hs
  next => cases hs
end STE
