/-! THE CLAIM OUT OF ONE WALK OF THE LAW'S BODY. Your part is whole_start (and what it stands on); all else here is the same for every law, but numbers. -/
def R_law : String := "WalkingStreetsLaw"
def lw_P (b : Addr) (xs : List Int32) (args : Array Value) (s : State) : Prop := args = #[.ref b] ∧ s.IntsAt b xs ∧ xs.length ≤ 320 ∧ (Jvm.Cond.and given_1 narrow_1).before args s = true
def lw_Q (_ : Array Value) (s : State) (o : Outcome) (t : State) : Prop := o = .returned (some (.int 1)) ∧ Framed s o t [] 600000 7302250
def lw_Z (below : List Frame) (a : Array Value) (s : State) : State → Prop := fun t => ∃ o, t.status = .running ∧ Ended t below o ∧ lw_Q a s o t
/-- the law's own end, with 1 on the stack, nothing written that was there before, its room as the claim has it -/
theorem lw_ret {p : Program} {l : Launch} {e : Env} {s : State} {m : MethodId} {below : List Frame} {meth : Method} {c : Code} {b : Nat} (hx : p.tables.exec = Jvm.exec) (hb : c.code = code) (hr : meth.sig.returnType = ret) (hlocks : meth.locks = false) {pc : Nat} {H : Heap} {ls : Array Slot} (hdg : decode code pc = .ok (.ireturn, 1)) : W p l e room_1 s m #[Value.ref b] below meth c H [] 600000 7302250 (lw_Z below #[Value.ref b] s) (F0 m pc ls [.int 1]) := by
  intro T hT X
  obtain ⟨fs, hret, hrun, hended, hW, hframe⟩ := X.leave (v := some (.int 1)) (hlocks := hlocks) (fun h => by rw [hr] at h; cases h)
  have hmeth' : T.vm.method? m = some meth := X.method'
  refine ⟨T.setFrames fs, ?_, .returned (some (.int 1)), hrun, hended, rfl, ⟨_, rfl⟩, hW, hframe⟩
  jvm_step X.here [X.here.top, hx, hb, hdg, hmeth', hr, ret, narrow_b1]
  (try refine ⟨rfl, ?_⟩); (try refine ⟨rfl, ?_⟩)
  first | (intro acts; rw [hret _ acts rfl rfl rfl]) | rw [hret _ _ rfl rfl rfl]
  exact Steps.refl _
/-- what holds at the law's entry: the machine, the code, the tables' words (any of lw_tbl by 'hts w (by decide +kernel)'), the script of L ints xs at the cell b, what the Statement gives of the start (any of its parts by flat_of_before) -/
def lw_At (p : Program) (s : State) (m : MethodId) (meth : Method) (c : Code) (b L : Nat) (xs : Nat → Int32) : Prop :=
  p.tables.exec = Jvm.exec ∧ c.code = code ∧ meth.sig.returnType = ret ∧ c.maxLocals = 4 ∧ s.vm.findClass R_law = some m.cls ∧ (∀ w ∈ lw_tbl, w.before #[Value.ref b] s = true) ∧ va_X b L xs s s.heap ∧ b < s.heap.size ∧ meth.locks = false ∧ (Jvm.Cond.and given_1 narrow_1).before #[Value.ref b] s = true
theorem lw_gd {p : Program} {s : State} {m : MethodId} {meth : Method} {c : Code} {b Lx : Nat} {xs : Nat → Int32} (C0 : lw_At p s m meth c b Lx xs) : ∀ w ∈ gdW, w.before #[Value.ref b] s = true := fun w hw => C0.2.2.2.2.2.1 w (List.mem_filter.mp hw).1
theorem lw_KN {p : Program} {s : State} {m : MethodId} {meth : Method} {c : Code} {b Lx : Nat} {xs : Nat → Int32} (C0 : lw_At p s m meth c b Lx xs) : KN s := by
  have hts := C0.2.2.2.2.2.1
  refine ⟨fun w hw hn => ?_, va_AO.of (hts (.arrayOver (.object RX2)) (by decide +kernel)), va_AO.of (hts (.arrayOver (.object RX4)) (by decide +kernel)), va_AOA.of (hts (.arrayOver (.array .int)) (by decide +kernel))⟩
  have h1 := hts w hw
  cases w <;> first | exact va_Nw.of rfl h1 | exact absurd hn (by simp [nestW])
section LWS
variable {p : Program} {l : Launch} {e : Env} {s : State} {m : MethodId} {below : List Frame} {meth : Method} {c : Code} {dC : Nat → ClassId} {dI : Nat → Nat → Nat} {b Lx : Nat} {xs : Nat → Int32} {Q : State → Prop}
variable {pc : Nat} {L st : List mV} {h : mH}
def WL (p : Program) (l : Launch) (e : Env) (s : State) (m : MethodId) (below : List Frame) (meth : Method) (c : Code) (dC : Nat → ClassId) (dI : Nat → Nat → Nat) (b : Nat) (Q : State → Prop) (k : mC) : Prop :=
  ∀ (ads : List (Nat × Nat)) (tys : List (ClassId × FieldType)) (H : Heap) (locs : List Loc) (ls : Array Slot), InvA dC dI (fun q => s.heap.size ≤ q) s.heap s [] [] ads tys k.2.2.2 H locs → lrA ads ls k.2.1 → ls[0]? = some (.val (.ref b)) → k.2.1.length = 4 → (∀ v ∈ k.2.1, okV k.2.2.2.1.length v) → (∀ v ∈ k.2.2.1, okV k.2.2.2.1.length v) →
    W p l e room_1 s m #[Value.ref b] below meth c H locs (k.2.2.2.1.length - ([] : List (Nat × Nat)).length) (slS k.2.2.2.1 - slS []) Q (F0 m k.1 ls (k.2.2.1.map (rV ads)))
theorem l_ldA {j : Fin 4} {a : Nat} (C0 : lw_At p s m meth c b Lx xs) (hd : decode code pc = .ok (.aload_n j, 1)) (hv : ld L (j : Nat) = vR (some a)) (kk : WL p l e s m below meth c dC dI b Q (pc + 1, L, vR (some a) :: st, h)) : WL p l e s m below meth c dC dI b Q (pc, L, st, h) := by
  intro ads tys H locs ls hI hl hb0 hn hL hS
  exact lv_aload_n C0.1 C0.2.1 hd rfl (lr_get hl hv (fun q => by cases q)) (kk ads tys H locs ls hI hl hb0 hn hL (ok_c (by have := ok_ld hL (j : Nat); rw [hv] at this; exact this) hS))
theorem l_scr {i k : Nat} (C0 : lw_At p s m meth c b Lx xs) (hLx : Lx ≤ 320) (hi : i + k < Lx) (hv : ld L 3 = vI (i : Int)) (d0 : decode code pc = .ok (.aload_n 0, 1)) (d1 : decode code (pc + 1) = .ok (.iload_n 3, 1)) (d2 : decode code (pc + 2) = .ok (.iconst (k : Int), 1)) (d3 : decode code (pc + 3) = .ok (.iadd, 1)) (d4 : decode code (pc + 4) = .ok (.iaload, 1)) (kk : WL p l e s m below meth c dC dI b Q (pc + 5, L, vI (xs (i + k)).toInt :: st, h)) : WL p l e s m below meth c dC dI b Q (pc, L, st, h) := by
  intro ads tys H locs ls hI hl hb0 hn hL hS
  have hx := C0.1
  have hb := C0.2.1
  refine lv_aload_n hx hb d0 rfl hb0 ?_
  refine lv_iload_n hx hb d1 rfl (lr_get hl hv (fun q => by cases q)) ?_
  refine lv_iconst (v := Int32.ofInt (k : Int)) hx hb d2 rfl ?_
  refine lv_iadd hx hb d3 ?_
  have es : Int32.ofInt (i : Int) + Int32.ofInt (k : Int) = Int32.ofInt ((i + k : Nat) : Int) := by rw [← Int32.ofInt_add]; rfl
  have hr : inR ((i + k : Nat) : Int) := ⟨by omega, by omega⟩
  rw [es]
  refine va_sld hx hb C0.2.2.2.2.2.2.1 C0.2.2.2.2.2.2.2.1 (Nat.not_le.mpr C0.2.2.2.2.2.2.2.1) hI.2.2.2.2.2.2.2.1 (i32_in (by omega) (by omega) hr) d4 ?_
  rw [i32_nc (by omega) hr, Int.toNat_natCast]
  have kk2 := kk ads tys H locs ls hI hl hb0 hn hL (ok_c (v := vI (xs (i + k)).toInt) (t32_in _) hS)
  have ee : (vI (xs (i + k)).toInt :: st).map (rV ads) = .int (xs (i + k)) :: st.map (rV ads) := by
    show Value.int (Int32.ofInt (xs (i + k)).toInt) :: _ = _
    rw [Int32.ofInt_toInt]
  dsimp only at kk2
  rw [ee] at kk2
  exact kk2
theorem l_eq {x off : Int} {tgt : Nat} (C0 : lw_At p s m meth c b Lx xs) (hd : decode code pc = .ok (.if_icmp .eq off, 3)) (ht : (pc : Int) + off = (tgt : Int)) (kk : WL p l e s m below meth c dC dI b Q (tgt, L, st, h)) : WL p l e s m below meth c dC dI b Q (pc, L, vI x :: vI x :: st, h) := by
  intro ads tys H locs ls hI hl hb0 hn hL hS
  exact lv_icmp_eq C0.1 C0.2.1 hd ht (fun _ => kk ads tys H locs ls hI hl hb0 hn hL (ok_t (ok_t hS))) (fun q => absurd rfl q)
theorem lg_cmp_rf (x : Int64) : lg_cmp x x = 0 := by
  unfold lg_cmp
  rw [if_neg (by rw [gt_iff_lt, Int64.lt_iff_toInt_lt]; omega), if_pos rfl]
theorem l_cmp {x off : Int} {tgt : Nat} (C0 : lw_At p s m meth c b Lx xs) (d0 : decode code pc = .ok (.lcmp, 1)) (d1 : decode code (pc + 1) = .ok (.ifCond .eq off, 3)) (ht : ((pc + 1 : Nat) : Int) + off = (tgt : Int)) (kk : WL p l e s m below meth c dC dI b Q (tgt, L, st, h)) : WL p l e s m below meth c dC dI b Q (pc, L, vL x :: vL x :: st, h) := by
  intro ads tys H locs ls hI hl hb0 hn hL hS
  refine W.lcmp C0.1 C0.2.1 d0 ?_
  exact lv_if_eq C0.1 C0.2.1 d1 ht (fun _ => kk ads tys H locs ls hI hl hb0 hn hL (ok_t (ok_t hS))) (fun q => absurd (lg_cmp_rf _) q)
theorem l_dup {a : Nat} (C0 : lw_At p s m meth c b Lx xs) (hd : decode code pc = .ok (.dup, 1)) (kk : WL p l e s m below meth c dC dI b Q (pc + 1, L, vR (some a) :: vR (some a) :: st, h)) : WL p l e s m below meth c dC dI b Q (pc, L, vR (some a) :: st, h) := by
  intro ads tys H locs ls hI hl hb0 hn hL hS
  exact lv_dup C0.1 C0.2.1 hd rfl (kk ads tys H locs ls hI hl hb0 hn hL (ok_c (ok_h hS) hS))
theorem l_goto {off : Int} {tgt : Nat} (C0 : lw_At p s m meth c b Lx xs) (hd : decode code pc = .ok (.goto off, 3)) (ht : (pc : Int) + off = (tgt : Int)) (kk : WL p l e s m below meth c dC dI b Q (tgt, L, st, h)) : WL p l e s m below meth c dC dI b Q (pc, L, st, h) := by
  intro ads tys H locs ls hI hl hb0 hn hL hS
  exact lv_goto C0.1 C0.2.1 hd ht (kk ads tys H locs ls hI hl hb0 hn hL hS)
theorem l_icn {n : Int} (C0 : lw_At p s m meth c b Lx xs) (hr : inR n) (hd : decode code pc = .ok (.iconst n, 1)) (kk : WL p l e s m below meth c dC dI b Q (pc + 1, L, vI n :: st, h)) : WL p l e s m below meth c dC dI b Q (pc, L, st, h) := by
  intro ads tys H locs ls hI hl hb0 hn hL hS
  exact lv_iconst C0.1 C0.2.1 hd rfl (kk ads tys H locs ls hI hl hb0 hn hL (ok_c (v := vI n) hr hS))
/-- the list of locals with the script's reference ahead -/
theorem lr_scr {ads : List (Nat × Nat)} {ls : Array Slot} {L : List mV} (hl : lrA ads ls L) (hb0 : ls[0]? = some (.val (.ref b))) : lv_has ls L.length ((0, .ref b) :: lvA ads L) := ⟨hl.1, hl.2.1, fun q hq => by
  rcases List.mem_cons.mp hq with g | g
  · rw [g]; exact hb0
  · exact hl.2.2 q g⟩
theorem lr_scr2 {ads : List (Nat × Nat)} {ls2 : Array Slot} {L : List mV} {i : Nat} {v : mV} (h0 : i ≠ 0) (hi : i < L.length) (h2 : lv_has ls2 L.length ((i, rV ads v) :: ((0, Value.ref b) :: lvA ads L).filter (fun q => !(q.1 == i) && !(q.1 + 1 == i && q.2.category == 2)))) : lrA ads ls2 (s1 L i v) ∧ ls2[0]? = some (.val (.ref b)) := by
  refine ⟨lr_s1 hi ⟨h2.1, h2.2.1, fun q hq => h2.2.2 q ?_⟩, h2.2.2 (0, .ref b) (List.mem_cons_of_mem _ (List.mem_filter.mpr ⟨List.mem_cons_self, ?_⟩))⟩
  · rcases List.mem_cons.mp hq with g | g
    · rw [g]; exact List.mem_cons_self
    · exact List.mem_cons_of_mem _ (List.mem_filter.mpr ⟨List.mem_cons_of_mem _ (List.mem_filter.mp g).1, (List.mem_filter.mp g).2⟩)
  · have e1 : (Value.ref b).category = 1 := rfl
    have e2 : (0 == i) = false := by rw [beq_eq_false_iff_ne]; omega
    rw [e1, e2]
    cases (0 + 1 == i) <;> rfl
theorem l_ast {j : Fin 4} {a : Nat} (C0 : lw_At p s m meth c b Lx xs) (h0 : (j : Nat) ≠ 0) (hd : decode code pc = .ok (.astore_n j, 1)) (kk : WL p l e s m below meth c dC dI b Q (pc + 1, s1 L (j : Nat) (vR (some a)), st, h)) : WL p l e s m below meth c dC dI b Q (pc, L, vR (some a) :: st, h) := by
  intro ads tys H locs ls hI hl hb0 hn hL hS
  have hj : (j : Nat) < L.length := by have h4 : L.length = 4 := hn; rw [h4]; exact j.isLt
  exact lv_astore_n C0.1 C0.2.1 hd rfl (lr_scr hl hb0) hj rfl fun ls2 h2 => by
    obtain ⟨g1, g2⟩ := lr_scr2 (v := vR (some a)) h0 hj h2
    exact kk ads tys H locs ls2 hI g1 g2 (by simp [s1, kl_len]; exact hn) (ok_s1 hL (ok_h hS)) (ok_t hS)
theorem l_ist {j : Fin 4} {x : Int} (C0 : lw_At p s m meth c b Lx xs) (h0 : (j : Nat) ≠ 0) (hd : decode code pc = .ok (.istore_n j, 1)) (kk : WL p l e s m below meth c dC dI b Q (pc + 1, s1 L (j : Nat) (vI x), st, h)) : WL p l e s m below meth c dC dI b Q (pc, L, vI x :: st, h) := by
  intro ads tys H locs ls hI hl hb0 hn hL hS
  have hj : (j : Nat) < L.length := by have h4 : L.length = 4 := hn; rw [h4]; exact j.isLt
  exact lv_istore_n C0.1 C0.2.1 hd rfl (lr_scr hl hb0) hj rfl fun ls2 h2 => by
    obtain ⟨g1, g2⟩ := lr_scr2 (v := vI x) h0 hj h2
    exact kk ads tys H locs ls2 hI g1 g2 (by simp [s1, kl_len]; exact hn) (ok_s1 hL (ok_h hS)) (ok_t hS)
theorem l_inc {n x : Int} {j : Nat} (C0 : lw_At p s m meth c b Lx xs) (h0 : j ≠ 0) (hv : ld L j = vI x) (hr : inR (x + n)) (hd : decode code pc = .ok (.iinc j n, 3)) (kk : WL p l e s m below meth c dC dI b Q (pc + 3, s1 L j (vI (x + n)), st, h)) : WL p l e s m below meth c dC dI b Q (pc, L, st, h) := by
  intro ads tys H locs ls hI hl hb0 hn hL hS
  have hj : j < L.length := ld_lt (by rw [hv]; intro q; cases q)
  obtain ⟨q, hq⟩ := lv_ix (ads := ads) hv
  exact lv_iinc (k := q + 1) (v := Int32.ofInt (x + n)) C0.1 C0.2.1 hd (lr_scr hl hb0) (by rw [List.getElem?_cons_succ]; exact hq) (by rw [Int32.ofInt_add]) hj rfl fun ls2 h2 => by
    obtain ⟨g1, g2⟩ := lr_scr2 (v := vI (x + n)) h0 hj h2
    exact kk ads tys H locs ls2 hI g1 g2 (by simp [s1, kl_len]; exact hn) (ok_s1 hL hr) hS
set_option maxRecDepth 100000 in
theorem l_new {ci ix : Nat} (C0 : lw_At p s m meth c b Lx xs) (c9 : ci < 9) (hlk : Cond.classLink R_law ix (ownN ci) ∈ gdW) (hr : (nw h ci (clN ci)).1.length - ([] : List (Nat × Nat)).length ≤ room_1.cells ∧ slS (nw h ci (clN ci)).1 - slS [] ≤ room_1.slots) (hd : decode code pc = .ok (.new ix, 3)) (kk : WL p l e s m below meth c dC dI b Q (pc + 3, L, vR (some h.1.length) :: st, nw h ci (clN ci))) : WL p l e s m below meth c dC dI b Q (pc, L, st, h) := by
  intro ads tys H locs ls hI hl hb0 hn hL hS
  have hx := C0.1
  have hb := C0.2.1
  have hts := lw_gd C0
  have hown := C0.2.2.2.2.1
  have hA : ∀ q, s.heap.size ≤ q → (fun q => s.heap.size ≤ q) q := fun _ q => q
  obtain ⟨r1, r2, r3, r4⟩ := room_nw (t := ci) hI hr
  have hI2 := hI
  obtain ⟨i1, i2, i3, hP, hD, hK, hT, hSt, hW⟩ := hI
  have hdef : ∀ (ads2 : List (Nat × Nat)) j, j < clN ci → defaultValue (clF ci j) = rV ads2 (ldF (nw h ci (clN ci)) h.1.length ci j) := by
    intro ads2 j hj
    have hF : clF ci j = .int ∨ clF ci j = .boolean ∨ clF ci j = .long ∨ (∃ n, clF ci j = .object n) ∨ ∃ n, clF ci j = .array n := cl_kinds c9 hj
    unfold ldF
    rw [nw_gI, nw_gL, nw_gR]
    rcases hF with f | f | f | ⟨n, f⟩ | ⟨n, f⟩ <;> rw [f] <;> rfl
  refine va_new (D := (dC, dI)) (cl := vwCl) (fs := (List.range (clN ci)).map (fun j => rV (ads ++ [(0, 0)]) (ldF (nw h ci (clN ci)) h.1.length ci j))) hx hb hts (cl_ws c9) (clF ci) (cl_ty c9) hown (hts _ hlk) (hts _ (ins_ok c9).1) (hts _ (ins_ok c9).2) hK hP hD hSt hA (cl_at c9) (fun j hj => ?_) r3 r4 hd fun q H1 hP hD hS2 => ?_
  · unfold vp_V
    rw [List.getD_eq_getElem?_getD, List.getElem?_map, List.getElem?_range hj]
    exact hdef _ j hj
  · have ec : cellA (ads ++ [(q, 0)]) (nw h ci (clN ci)) h.1.length = .inr (ci, (List.range (clN ci)).map (fun j => rV (ads ++ [(0, 0)]) (ldF (nw h ci (clN ci)) h.1.length ci j))) := by
      rw [cell_obj (nw_kd h ci (clN ci)) (by omega)]
      congr 2
      apply List.map_congr_left
      intro j hj
      rw [← hdef _ j (List.mem_range.mp hj), ← hdef _ j (List.mem_range.mp hj)]
    have h2 := inv_nw (t2 := []) (t := ci) (n := clN ci) hI2 (fun _ => ⟨c9, rfl⟩) (fun g => by omega) ec (by rw [List.append_nil]; exact hK) hP hD hS2
    rw [List.append_nil] at h2
    have hlen := nw_len h ci (clN ci)
    have h1 := kk (ads ++ [(q, 0)]) _ H1 locs ls h2 (lr_pre ⟨_, rfl⟩ (by rw [i3]; exact hL) hl) hb0 hn (fun v hv => (hL v hv).up (by show h.1.length ≤ (nw h ci (clN ci)).1.length; omega)) (ok_c (v := vR (some h.1.length)) (by show h.1.length < (nw h ci (clN ci)).1.length; omega) (fun v hv => (hS v hv).up (by show h.1.length ≤ (nw h ci (clN ci)).1.length; omega)))
    have er : (vR (some h.1.length) :: st).map (rV (ads ++ [(q, 0)])) = .ref q :: st.map (rV ads) := by
      show Value.ref _ :: _ = _
      rw [(app1 i3).1]
      congr 1
      apply List.map_congr_left
      intro v hv
      exact rV_app (by rw [i3]; exact hS v hv)
    dsimp only at h1
    rw [er, ← r1, ← r2] at h1
    exact h1
theorem l_go {ads : List (Nat × Nat)} {tys : List (ClassId × FieldType)} {H : Heap} {locs : List Loc} {ls : Array Slot} {r : List mV} {rv : Option mV} {h2 : mH} {a : Array Value} {st0 : List Value} (hI : InvA dC dI (fun q => s.heap.size ≤ q) s.heap s [] [] ads tys h H locs) (hl : lrA ads ls L) (hb0 : ls[0]? = some (.val (.ref b))) (hn : L.length = 4) (hL : ∀ v ∈ L, okV h.1.length v) (hS : ∀ v ∈ r, okV h.1.length v)
    (hr : va_Run p l e room_1 s m #[Value.ref b] below meth c H locs (h.1.length - ([] : List (Nat × Nat)).length) (slS h.1 - slS []) (h2.1.length - h.1.length) (slS h2.1 - slS h.1) (F0 m pc ls st0) (r.map (rV ads)) (relQ dC dI ads h H.size rv h2 a) (va_A (wsA ads h) H.size)) (kk : WL p l e s m below meth c dC dI b Q (pc + 3, L, rv.toList ++ r, h2)) : W p l e room_1 s m #[Value.ref b] below meth c H locs (h.1.length - ([] : List (Nat × Nat)).length) (slS h.1 - slS []) Q (F0 m pc ls st0) := by
  intro T hT X
  obtain ⟨v, st1, t, T2, L2, h0, X2, hL2, e1, e2, ⟨ads2, tys2, hv, p1, p2, p3, hP, hD, hK, hT2, hW, hok, hz, hk⟩, go1⟩ := hr T hT X
  obtain ⟨i1, i2, i3, iP, iD, iK, iT, iS, iW⟩ := hI
  have hv2 : v = rv.map (rV ads2) := by injection hv
  subst hv2
  have hF : ∀ q, va_A (wsA ads h) H.size q → (fun q => s.heap.size ≤ q) q := by
    intro q hq
    rcases hq with ⟨j, ej, hj⟩ | hq
    · exact iD.2 j _ hj
    · exact Nat.le_trans iS.1 hq
  rw [h0] at hz hk
  have hal : s.vm.Alike t.vm := by rw [← e2]; exact X2.warmed.alike
  have hinv : InvA dC dI (fun q => s.heap.size ≤ q) s.heap s [] [] ads2 tys2 h2 T2.heap (locs ++ L2) := by
    refine ⟨i1.trans p1, i2.trans p2, p3, by rw [e1]; exact hP, hD.weaken (fun _ _ _ q => hF _ q), va_K.moved hal.symm hK, hT2, ⟨by rw [e1]; exact Nat.le_trans iS.1 hz, fun q g1 g2 => ?_, fun q hq => ?_⟩, hW⟩
    · rw [e1, hk q (Nat.lt_of_lt_of_le g1 iS.1) (fun z => g2 (hF q z))]
      exact iS.2.1 q g1 g2
    · rcases List.mem_append.mp hq with g | g
      · exact iS.2.2 q g
      · exact hF _ (hL2 q g)
  have h1l := p2.length_le
  have hw := kk ads2 tys2 T2.heap (locs ++ L2) ls hinv (lr_pre p1 (by rw [i3]; exact hL) hl) hb0 hn (fun v hv => (hL v hv).up h1l) (fun v hv => by
    rcases List.mem_append.mp hv with g | g
    · cases hrv : rv with
      | none => rw [hrv] at g; cases g
      | some u =>
        rw [hrv] at g
        have : v = u := by simpa using g
        rw [this]
        exact hok u hrv
    · exact (hS v g).up h1l)
  have es : (rv.toList ++ r).map (rV ads2) = (rv.map (rV ads2)).toList ++ r.map (rV ads) := by
    rw [List.map_append]
    congr 1
    · cases rv <;> rfl
    · apply List.map_congr_left
      intro v hv
      exact rV_pre p1 (by rw [i3]; exact hS v hv)
  dsimp only at hw
  rw [es] at hw
  have c1 : h.1.length - ([] : List (Nat × Nat)).length + (h2.1.length - h.1.length) = h2.1.length - ([] : List (Nat × Nat)).length := by
    show h.1.length - 0 + _ = h2.1.length - 0
    omega
  have c2 : slS h.1 - slS [] + (slS h2.1 - slS h.1) = slS h2.1 - slS [] := by
    have := slS_pre p2
    show slS h.1 - 0 + _ = slS h2.1 - 0
    omega
  rw [c1, c2] at X2
  obtain ⟨u, a1, b1⟩ := hw T2 rfl X2
  exact ⟨u, go1 u a1, b1⟩
theorem l_call {d ix y2 a : Nat} {as r : List mV} {rv : Option mV} {h2 : mH} (C0 : lw_At p s m meth c b Lx xs) (hcall : callA d y2 (vR (some a) :: as) h = some (rv, h2)) (hy : y2 < 195) (hst : st = as.reverse ++ vR (some a) :: r) (hlen : as.length = argB y2) (hkb : kd h a = (ownB y2, clN (ownB y2))) (o9 : ownB y2 < 9) (hsta : staB y2 = false) (hini : iniB y2 = false) (hlk : Cond.methodLink R_law ix (namB y2) ∈ gdW) (hcr : catS r ≤ 8) (hR : d + 1 ≤ room_1.frames ∧ d * 64 + 64 ≤ room_1.locals) (hrm0 : h2.1.length ≤ room_1.cells ∧ slS h2.1 ≤ room_1.slots) (hd : decode code pc = .ok (.invokevirtual ix, 3)) (kk : WL p l e s m below meth c dC dI b Q (pc + 3, L, rv.toList ++ r, h2)) : WL p l e s m below meth c dC dI b Q (pc, L, st, h) := by
  subst hst
  intro ads tys H locs ls hI hl hb0 hn hL hS
  have hx := C0.1
  have hb := C0.2.1
  have hKN := lw_KN C0
  have hts := lw_gd C0
  have hown := C0.2.2.2.2.1
  have hpm : h.1 <+: h2.1 := call_h d _ _ _ _ _ hcall
  obtain ⟨w1, w2, w3, w4, w5, w6, w7, -, w9⟩ := mI_ok hy
  obtain ⟨v1, v2, v3, v4⟩ := w9 hsta
  have hSr : ∀ v ∈ vR (some a) :: r, okV h.1.length v := fun v hv => hS v (List.mem_append_right _ hv)
  have hSa : ∀ v ∈ vR (some a) :: as, okV h.1.length v := ok_c (ok_h hSr) (fun v hv => hS v (List.mem_append_left _ (List.mem_reverse.mpr hv)))
  have hbl : a < h.1.length := ok_h hSr
  have hM := sound d l dC dI y2 _ h rv h2 hy hcall ads tys H.size
  have hpre := pre_at hI hKN hSa
  have hcl := va_recv hI.2.2.2.2.2.1 hI.2.2.2.1 (cl_at o9) (by rw [ws_at hbl, cell_obj hkb (by omega)])
  have hPV : PreV s H (namB y2).cls (adr ads a) (va_Pc ((vR (some a) :: as).map (rV ads)) (relP dC dI ads tys h H.size (vR (some a) :: as))) (as.map (rV ads)) := ⟨rel_blind dC dI ads tys h H.size _, by rw [w5]; exact hcl, hpre⟩
  have hstk : (as.reverse ++ vR (some a) :: r).map (rV ads) = (as.map (rV ads)).reverse ++ Value.ref (adr ads a) :: r.map (rV ads) := by
    rw [List.map_append, List.map_reverse]
    rfl
  have hAl : (as.map (rV ads)).length = argB y2 := by rw [List.length_map]; exact hlen
  have hmon : 2 * (F0 m pc ls ((as.reverse ++ vR (some a) :: r).map (rV ads))).monitorRoom + ((r.map (rV ads)).map fun v => v.category).sum ≤ 8 := by
    rw [cat_map]
    exact (by have e0 : (F0 m pc ls ((as.reverse ++ vR (some a) :: r).map (rV ads))).monitorRoom = 0 := rfl; rw [e0]; omega)
  have hrm : h.1.length - ([] : List (Nat × Nat)).length + (h2.1.length - h.1.length) ≤ room_1.cells ∧ slS h.1 - slS [] + (slS h2.1 - slS h.1) ≤ room_1.slots := by
    have a2 := hpm.length_le
    have a4 : slS h.1 ≤ slS h2.1 := slS_pre hpm
    show h.1.length - 0 + _ ≤ _ ∧ slS h.1 - 0 + _ ≤ _
    omega
  have hroom : (rmB d (h2.1.length - h.1.length) (slS h2.1 - slS h.1)).frames + 1 ≤ room_1.frames ∧ 8 + (maxB y2 + 11) + (rmB d (h2.1.length - h.1.length) (slS h2.1 - slS h.1)).locals ≤ room_1.locals := by
    show d + 1 ≤ room_1.frames ∧ 8 + (maxB y2 + 11) + d * 64 ≤ room_1.locals
    omega
  have hfix : CallFix p m c code c.maxLocals s #[Value.ref b] gdW R_law := ⟨hx, hb, rfl, hown, hts⟩
  have hls : ls.size = c.maxLocals := hl.1.trans (hn.trans C0.2.2.2.1.symm)
  have hpd : (namB y2).cls ≠ "java/lang/invoke/MethodHandle" ∧ (namB y2).cls ≠ "java/lang/invoke/VarHandle" ∧ (parseMethodDescriptor (namB y2).desc).map (fun d => d.parameters.length) = some (argB y2) := ⟨w3.1, w3.2, w4⟩
  have hin := wsB_in hy
  have cw := cwV (R := room_1) (s := s) (args := #[Value.ref b]) (own := R_law) (C := (namB y2).cls) (index := ix) (y := namB y2) (bytes := codB y2) (maxL := maxB y2) (ret := retB y2) (ws := wsB y2) (ws' := gdW) (rm := rmB d (h2.1.length - h.1.length) (slS h2.1 - slS h.1)) (mc := h2.1.length - h.1.length) (ms := slS h2.1 - slS h.1) (argB y2) hts (good_gd fun w hw => by
    rcases List.mem_append.mp hw with g | g
    · simp only [List.mem_cons, List.not_mem_nil, or_false] at g
      rcases g with rfl | rfl | rfl | rfl
      · exact hlk
      · exact v2
      · exact v4 hini
      · exact w2
    · exact hin w g) rfl rfl rfl ⟨rfl, hpd⟩ hroom
  exact l_go hI hl hb0 hn hL (ok_t hSr) (va_runV hfix hM cw hPV rfl hAl hls hstk hmon hd hrm) kk
theorem l_ini {d ix y2 a : Nat} {as r : List mV} {rv : Option mV} {h2 : mH} (C0 : lw_At p s m meth c b Lx xs) (hcall : callA d y2 (vR (some a) :: as) h = some (rv, h2)) (hy : y2 < 195) (hst : st = as.reverse ++ vR (some a) :: r) (hlen : as.length = argB y2) (hkb : kd h a = (ownB y2, clN (ownB y2))) (o9 : ownB y2 < 9) (hsta : staB y2 = false) (hini : iniB y2 = true) (hlk : Cond.methodLink R_law ix (namB y2) ∈ gdW) (hcr : catS r ≤ 8) (hR : d + 1 ≤ room_1.frames ∧ d * 64 + 64 ≤ room_1.locals) (hrm0 : h2.1.length ≤ room_1.cells ∧ slS h2.1 ≤ room_1.slots) (hd : decode code pc = .ok (.invokespecial ix, 3)) (kk : WL p l e s m below meth c dC dI b Q (pc + 3, L, rv.toList ++ r, h2)) : WL p l e s m below meth c dC dI b Q (pc, L, st, h) := by
  subst hst
  intro ads tys H locs ls hI hl hb0 hn hL hS
  have hx := C0.1
  have hb := C0.2.1
  have hKN := lw_KN C0
  have hts := lw_gd C0
  have hown := C0.2.2.2.2.1
  have hpm : h.1 <+: h2.1 := call_h d _ _ _ _ _ hcall
  obtain ⟨w1, w2, w3, w4, w5, w6, w7, -, w9⟩ := mI_ok hy
  obtain ⟨v1, v2, v3, v4⟩ := w9 hsta
  have hSr : ∀ v ∈ vR (some a) :: r, okV h.1.length v := fun v hv => hS v (List.mem_append_right _ hv)
  have hSa : ∀ v ∈ vR (some a) :: as, okV h.1.length v := ok_c (ok_h hSr) (fun v hv => hS v (List.mem_append_left _ (List.mem_reverse.mpr hv)))
  have hM := sound d l dC dI y2 _ h rv h2 hy hcall ads tys H.size
  have hpre := pre_at hI hKN hSa
  have hnm : (namB y2).name = "<init>" := by unfold iniB at hini; exact eq_of_beq hini
  have hrt := v3 hini
  rw [show wsB y2 = .code (namB y2) (codB y2) (maxB y2) none :: gdW by unfold wsB; rw [hrt]] at hM
  have hPS : PreS s H (va_Pc ((vR (some a) :: as).map (rV ads)) (relP dC dI ads tys h H.size (vR (some a) :: as))) (.ref (adr ads a) :: as.map (rV ads)) := ⟨rel_blind dC dI ads tys h H.size _, hpre⟩
  have hcd : ∀ w ∈ (.code (namB y2) (codB y2) (maxB y2) none :: gdW : List Jvm.Cond), w ∈ gdW := by
    intro w hw
    rcases List.mem_cons.mp hw with g | g
    · rw [g, ← hrt]; exact w1
    · exact g
  have hstk : (as.reverse ++ vR (some a) :: r).map (rV ads) = (as.map (rV ads)).reverse ++ Value.ref (adr ads a) :: r.map (rV ads) := by
    rw [List.map_append, List.map_reverse]
    rfl
  have hAl : (as.map (rV ads)).length = argB y2 := by rw [List.length_map]; exact hlen
  have hmon : 2 * (F0 m pc ls ((as.reverse ++ vR (some a) :: r).map (rV ads))).monitorRoom + ((r.map (rV ads)).map fun v => v.category).sum ≤ 8 := by
    rw [cat_map]
    exact (by have e0 : (F0 m pc ls ((as.reverse ++ vR (some a) :: r).map (rV ads))).monitorRoom = 0 := rfl; rw [e0]; omega)
  have hrm : h.1.length - ([] : List (Nat × Nat)).length + (h2.1.length - h.1.length) ≤ room_1.cells ∧ slS h.1 - slS [] + (slS h2.1 - slS h.1) ≤ room_1.slots := by
    have a2 := hpm.length_le
    have a4 : slS h.1 ≤ slS h2.1 := slS_pre hpm
    show h.1.length - 0 + _ ≤ _ ∧ slS h.1 - 0 + _ ≤ _
    omega
  have hroom : (rmB d (h2.1.length - h.1.length) (slS h2.1 - slS h.1)).frames + 1 ≤ room_1.frames ∧ 8 + (maxB y2 + 11) + (rmB d (h2.1.length - h.1.length) (slS h2.1 - slS h.1)).locals ≤ room_1.locals := by
    show d + 1 ≤ room_1.frames ∧ 8 + (maxB y2 + 11) + d * 64 ≤ room_1.locals
    omega
  have hfix : CallFix p m c code c.maxLocals s #[Value.ref b] gdW R_law := ⟨hx, hb, rfl, hown, hts⟩
  have hls : ls.size = c.maxLocals := hl.1.trans (hn.trans C0.2.2.2.1.symm)
  have hpd : (namB y2).cls ≠ "java/lang/invoke/MethodHandle" ∧ (namB y2).cls ≠ "java/lang/invoke/VarHandle" ∧ (parseMethodDescriptor (namB y2).desc).map (fun d => d.parameters.length) = some (argB y2) := ⟨w3.1, w3.2, w4⟩
  have cw := cwI (R := room_1) (s := s) (args := #[Value.ref b]) (own := R_law) (index := ix) (y := namB y2) (bytes := codB y2) (maxL := maxB y2) (ws := .code (namB y2) (codB y2) (maxB y2) none :: gdW) (ws' := gdW) (rm := rmB d (h2.1.length - h.1.length) (slS h2.1 - slS h.1)) (mc := h2.1.length - h.1.length) (ms := slS h2.1 - slS h.1) (argB y2) hts (good_gd hcd) rfl rfl rfl (hts _ w2) (hts _ hlk) (hts _ v2) hnm hpd hroom
  exact l_go hI hl hb0 hn hL (ok_t hSr) (va_runI hfix hM cw hPS rfl hAl hls hstk hmon hd hrm) kk
end LWS
