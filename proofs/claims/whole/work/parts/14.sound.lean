section STG
variable {p : Program} {l : Launch} {e : Env} {R : Room} {s : State} {m : MethodId} {args : Array Value} {below : List Frame} {meth : Method} {c : Code} {Q : State → Prop} {dC : Nat → ClassId} {dI : Nat → Nat → Nat} {A : Nat → Prop} {H0 : Heap} {ads0 : List (Nat × Nat)} {sh0 : List (Nat × Nat)}
variable {pc y len : Nat} {L st : List mV} {h : mH} {k : mC} {i : Instr}
/-- ONE STEP: what holds behind it holds ahead of it -/
theorem step_w {C : mCall} {d : Nat} (hSN : SNC C d) (hC : MNC C) (hs : stepI C y len pc L st h i = some (.inl k)) (hd : decode (codB y) pc = .ok (i, len)) (hR : d + 1 ≤ R.frames ∧ d * 64 + 64 ≤ R.locals) (hr : k.2.2.2.1.length - sh0.length ≤ R.cells ∧ slS k.2.2.2.1 - slS sh0 ≤ R.slots) (hx : p.tables.exec = Jvm.exec) (hb : c.code = codB y) (hown : s.vm.findClass (ownN (ownB y)) = some m.cls) (hts : ∀ w ∈ gdW, w.before args s = true) (hKN : KN s) (hini : iniB y = true → meth.name = "<init>") (hA : ∀ q, H0.size ≤ q → A q) (kk : WI p l e R s m args below meth c Q dC dI A H0 ads0 sh0 k) : WI p l e R s m args below meth c Q dC dI A H0 ads0 sh0 (pc, L, st, h) := by
  have hpm := step_h hC hs
  unfold stepI at hs
  cases i with
  | iconst n =>
    obtain ⟨gl, hs⟩ := gd_inv hs
    simp only [beq_iff_eq] at gl
    subst gl
    exact w_pInt hs (t32_in _) (fun w => lv_iconst hx hb hd (by rw [wr_of]) w) kk
  | bipush n =>
    obtain ⟨gl, hs⟩ := gd_inv hs
    simp only [beq_iff_eq] at gl
    subst gl
    exact w_pInt hs (t32_in _) (fun w => lv_bipush hx hb hd (Int32.ofInt_toInt _).symm w) kk
  | sipush n =>
    obtain ⟨gl, hs⟩ := gd_inv hs
    simp only [beq_iff_eq] at gl
    subst gl
    exact w_pInt hs (t32_in _) (fun w => lv_sipush hx hb hd (Int32.ofInt_toInt _).symm w) kk
  | lconst n =>
    obtain ⟨gl, hs⟩ := gd_inv hs
    simp only [beq_iff_eq] at gl
    subst gl
    exact w_pLng hs (by have := n.isLt; exact ⟨by omega, by omega⟩) (fun w => lv_lconst hx hb hd rfl w) kk
  | ldc j =>
    dsimp only at hs
    split at hs
    next x hq =>
      obtain ⟨gl, hs⟩ := gd_inv hs
      simp only [beq_iff_eq] at gl
      subst gl
      exact w_pInt hs (t32_in _) (fun w => lv_ldc hx hb hown (by rw [wr_of]; exact hts _ (cst_ok hq)) hd w) kk
    next => cases hs
  | ldc_w j =>
    dsimp only at hs
    split at hs
    next x hq =>
      obtain ⟨gl, hs⟩ := gd_inv hs
      simp only [beq_iff_eq] at gl
      subst gl
      exact w_pInt hs (t32_in _) (fun w => lv_ldcw hx hb hown (by rw [wr_of]; exact hts _ (cst_ok hq)) hd w) kk
    next => cases hs
  | ldc2_w j =>
    dsimp only at hs
    split at hs
    next x hq =>
      obtain ⟨gl, hs⟩ := gd_inv hs
      simp only [beq_iff_eq] at gl
      subst gl
      exact w_pLng hs (t64_in _) (fun w => lv_ldc2 hx hb hown (by rw [wrL_of]; exact hts _ (cstl_ok hq)) hd w) kk
    next => cases hs
  | iload_n j =>
    obtain ⟨gl, hs⟩ := gd_inv hs
    simp only [beq_iff_eq] at gl
    subst gl
    exact w_ldI hs (fun g w => lv_iload_n hx hb hd rfl g w) kk
  | iload j =>
    obtain ⟨gl, hs⟩ := gd_inv hs
    simp only [beq_iff_eq] at gl
    subst gl
    exact w_ldI hs (fun g w => lv_iload hx hb hd g w) kk
  | lload_n j =>
    obtain ⟨gl, hs⟩ := gd_inv hs
    simp only [beq_iff_eq] at gl
    subst gl
    exact w_ldL hs (fun g w => lv_lload_n hx hb hd rfl g w) kk
  | lload j =>
    obtain ⟨gl, hs⟩ := gd_inv hs
    simp only [beq_iff_eq] at gl
    subst gl
    exact w_ldL hs (fun g w => lv_lload hx hb hd g w) kk
  | aload_n j =>
    obtain ⟨gl, hs⟩ := gd_inv hs
    simp only [beq_iff_eq] at gl
    subst gl
    exact w_ldA hs (fun g w => lv_aload_n hx hb hd rfl g w) kk
  | aload j =>
    obtain ⟨gl, hs⟩ := gd_inv hs
    simp only [beq_iff_eq] at gl
    subst gl
    exact w_ldA hs (fun g w => lv_aload hx hb hd g w) kk
  | istore_n j =>
    obtain ⟨gl, hs⟩ := gd_inv hs
    simp only [beq_iff_eq] at gl
    subst gl
    exact w_stI hs (fun g1 g2 w => lv_istore_n hx hb hd rfl g1 g2 rfl w) kk
  | istore j =>
    obtain ⟨gl, hs⟩ := gd_inv hs
    simp only [beq_iff_eq] at gl
    subst gl
    exact w_stI hs (fun g1 g2 w => lv_istore hx hb hd g1 g2 rfl w) kk
  | lstore_n j =>
    obtain ⟨gl, hs⟩ := gd_inv hs
    simp only [beq_iff_eq] at gl
    subst gl
    exact w_stL hs (fun g1 g2 w => lv_lstore_n hx hb hd rfl g1 g2 rfl w) kk
  | lstore j =>
    obtain ⟨gl, hs⟩ := gd_inv hs
    simp only [beq_iff_eq] at gl
    subst gl
    exact w_stL hs (fun g1 g2 w => lv_lstore hx hb hd g1 g2 rfl w) kk
  | astore_n j =>
    obtain ⟨gl, hs⟩ := gd_inv hs
    simp only [beq_iff_eq] at gl
    subst gl
    exact w_stA hs (fun g1 g2 w => lv_astore_n hx hb hd rfl g1 g2 rfl w) kk
  | astore j =>
    obtain ⟨gl, hs⟩ := gd_inv hs
    simp only [beq_iff_eq] at gl
    subst gl
    exact w_stA hs (fun g1 g2 w => lv_astore hx hb hd g1 g2 rfl w) kk
  | iinc j n =>
    obtain ⟨gl, hs⟩ := gd_inv hs
    simp only [beq_iff_eq] at gl
    subst gl
    exact w_inc hs hx hb hd kk
  | iadd =>
    obtain ⟨gl, hs⟩ := gd_inv hs
    simp only [beq_iff_eq] at gl
    subst gl
    exact w_b2I hs (g := fun x y => x + y) (fun x y => ⟨by rw [wr_of, Int32.ofInt_add], t32_in _⟩) (fun w => lv_iadd hx hb hd w) kk
  | isub =>
    obtain ⟨gl, hs⟩ := gd_inv hs
    simp only [beq_iff_eq] at gl
    subst gl
    exact w_b2I hs (g := fun x y => x - y) (fun x y => ⟨by rw [wr_of, Int32.ofInt_sub], t32_in _⟩) (fun w => lv_isub hx hb hd w) kk
  | imul =>
    obtain ⟨gl, hs⟩ := gd_inv hs
    simp only [beq_iff_eq] at gl
    subst gl
    exact w_b2I hs (g := fun x y => x * y) (fun x y => ⟨by rw [wr_of, Int32.ofInt_mul], t32_in _⟩) (fun w => lv_imul hx hb hd w) kk
  | idiv =>
    obtain ⟨gl, hs⟩ := gd_inv hs
    simp only [beq_iff_eq] at gl
    subst gl
    exact w_b2O hs (g := fun x y => x / y) (fun x y z a b q => i32_div a b q) (fun a w => lv_idiv hx hb hd a w) kk
  | irem =>
    obtain ⟨gl, hs⟩ := gd_inv hs
    simp only [beq_iff_eq] at gl
    subst gl
    exact w_b2O hs (g := fun x y => x - x / y * y) (fun x y z a b q => i32_rem a b q) (fun a w => lv_irem hx hb hd a w) kk
  | iand =>
    obtain ⟨gl, hs⟩ := gd_inv hs
    simp only [beq_iff_eq] at gl
    subst gl
    exact w_b2I hs (g := fun x y => x &&& y) (fun x y => ⟨Int32.ofInt_toInt _, t32_in _⟩) (fun w => lv_iand hx hb hd w) kk
  | ior =>
    obtain ⟨gl, hs⟩ := gd_inv hs
    simp only [beq_iff_eq] at gl
    subst gl
    exact w_b2I hs (g := fun x y => x ||| y) (fun x y => ⟨Int32.ofInt_toInt _, t32_in _⟩) (fun w => lv_ior hx hb hd w) kk
  | ixor =>
    obtain ⟨gl, hs⟩ := gd_inv hs
    simp only [beq_iff_eq] at gl
    subst gl
    exact w_b2I hs (g := fun x y => x ^^^ y) (fun x y => ⟨Int32.ofInt_toInt _, t32_in _⟩) (fun w => lv_ixor hx hb hd w) kk
  | ishl =>
    obtain ⟨gl, hs⟩ := gd_inv hs
    simp only [beq_iff_eq] at gl
    subst gl
    exact w_b2I hs (g := fun x y => x <<< (y &&& 31)) (fun x y => ⟨Int32.ofInt_toInt _, t32_in _⟩) (fun w => lv_ishl hx hb hd w) kk
  | ishr =>
    obtain ⟨gl, hs⟩ := gd_inv hs
    simp only [beq_iff_eq] at gl
    subst gl
    exact w_b2I hs (g := fun x y => x >>> (y &&& 31)) (fun x y => ⟨Int32.ofInt_toInt _, t32_in _⟩) (fun w => lv_ishr hx hb hd w) kk
  | iushr =>
    obtain ⟨gl, hs⟩ := gd_inv hs
    simp only [beq_iff_eq] at gl
    subst gl
    exact w_b2I hs (g := fun x y => (x.toUInt32 >>> (y.toUInt32 &&& Int32.toUInt32 31)).toInt32) (fun x y => ⟨Int32.ofInt_toInt _, t32_in _⟩) (fun w => lv_iushr hx hb hd rfl w) kk
  | ladd =>
    obtain ⟨gl, hs⟩ := gd_inv hs
    simp only [beq_iff_eq] at gl
    subst gl
    exact w_b2L hs (g := fun x y => x + y) (fun x y => ⟨by rw [wrL_of, Int64.ofInt_add], t64_in _⟩) (fun w => lv_ladd hx hb hd w) kk
  | lsub =>
    obtain ⟨gl, hs⟩ := gd_inv hs
    simp only [beq_iff_eq] at gl
    subst gl
    exact w_b2L hs (g := fun x y => x - y) (fun x y => ⟨by rw [wrL_of, Int64.ofInt_sub], t64_in _⟩) (fun w => lv_lsub hx hb hd w) kk
  | land =>
    obtain ⟨gl, hs⟩ := gd_inv hs
    simp only [beq_iff_eq] at gl
    subst gl
    exact w_b2L hs (g := fun x y => x &&& y) (fun x y => ⟨Int64.ofInt_toInt _, t64_in _⟩) (fun w => lv_land hx hb hd w) kk
  | lor =>
    obtain ⟨gl, hs⟩ := gd_inv hs
    simp only [beq_iff_eq] at gl
    subst gl
    exact w_b2L hs (g := fun x y => x ||| y) (fun x y => ⟨Int64.ofInt_toInt _, t64_in _⟩) (fun w => lv_lor hx hb hd w) kk
  | lxor =>
    obtain ⟨gl, hs⟩ := gd_inv hs
    simp only [beq_iff_eq] at gl
    subst gl
    exact w_b2L hs (g := fun x y => x ^^^ y) (fun x y => ⟨Int64.ofInt_toInt _, t64_in _⟩) (fun w => lv_lxor hx hb hd w) kk
  | lshl =>
    obtain ⟨gl, hs⟩ := gd_inv hs
    simp only [beq_iff_eq] at gl
    subst gl
    exact w_sfL hs (g := fun x y => x <<< (y.toInt64 &&& 63)) (fun x y => ⟨Int64.ofInt_toInt _, t64_in _⟩) (fun w => lv_lshl hx hb hd rfl w) kk
  | lshr =>
    obtain ⟨gl, hs⟩ := gd_inv hs
    simp only [beq_iff_eq] at gl
    subst gl
    exact w_sfL hs (g := fun x y => x >>> (y.toInt64 &&& 63)) (fun x y => ⟨Int64.ofInt_toInt _, t64_in _⟩) (fun w => lv_lshr hx hb hd rfl w) kk
  | lushr =>
    obtain ⟨gl, hs⟩ := gd_inv hs
    simp only [beq_iff_eq] at gl
    subst gl
    exact w_sfL hs (g := fun x y => (x.toUInt64 >>> (y.toInt64.toUInt64 &&& Int64.toUInt64 63)).toInt64) (fun x y => ⟨Int64.ofInt_toInt _, t64_in _⟩) (fun w => lv_lushr hx hb hd rfl w) kk
  | lcmp =>
    obtain ⟨gl, hs⟩ := gd_inv hs
    simp only [beq_iff_eq] at gl
    subst gl
    exact w_cmp2 hs hx hb hd kk
  | l2i =>
    obtain ⟨gl, hs⟩ := gd_inv hs
    simp only [beq_iff_eq] at gl
    subst gl
    exact w_u1L hs hx hb hd kk
  | i2b =>
    obtain ⟨gl, hs⟩ := gd_inv hs
    simp only [beq_iff_eq] at gl
    subst gl
    exact w_u1B hs hx hb hd kk
  | dup =>
    obtain ⟨gl, hs⟩ := gd_inv hs
    simp only [beq_iff_eq] at gl
    subst gl
    exact w_dup1 hs hx hb hd kk
  | dup2 =>
    obtain ⟨gl, hs⟩ := gd_inv hs
    simp only [beq_iff_eq] at gl
    subst gl
    exact w_dup22 hs hx hb hd kk
  | pop =>
    obtain ⟨gl, hs⟩ := gd_inv hs
    simp only [beq_iff_eq] at gl
    subst gl
    exact w_pop1 hs hx hb hd kk
  | ifCond q off =>
    obtain ⟨gl, hs⟩ := gd_inv hs
    simp only [beq_iff_eq] at gl
    subst gl
    exact w_br1 hs hx hb hd kk
  | if_icmp q off =>
    obtain ⟨gl, hs⟩ := gd_inv hs
    simp only [beq_iff_eq] at gl
    subst gl
    exact w_br2 hs hx hb hd kk
  | goto off =>
    obtain ⟨gl, hs⟩ := gd_inv hs
    simp only [beq_iff_eq] at gl
    subst gl
    exact w_jmp hs hx hb hd kk
  | iaload =>
    obtain ⟨gl, hs⟩ := gd_inv hs
    simp only [beq_iff_eq] at gl
    subst gl
    exact w_ald hs hx hb hd kk
  | baload =>
    obtain ⟨gl, hs⟩ := gd_inv hs
    simp only [beq_iff_eq] at gl
    subst gl
    exact w_bld hs hx hb hd kk
  | iastore =>
    obtain ⟨gl, hs⟩ := gd_inv hs
    simp only [beq_iff_eq] at gl
    subst gl
    exact w_ast hs hx hb hd kk
  | bastore =>
    obtain ⟨gl, hs⟩ := gd_inv hs
    simp only [beq_iff_eq] at gl
    subst gl
    exact w_bst hs hx hb hd kk
  | aaload =>
    obtain ⟨gl, hs⟩ := gd_inv hs
    simp only [beq_iff_eq] at gl
    subst gl
    exact w_qld hs hx hb hd kk
  | aastore =>
    obtain ⟨gl, hs⟩ := gd_inv hs
    simp only [beq_iff_eq] at gl
    subst gl
    exact w_qst hs hx hb hd kk
  | arraylength =>
    obtain ⟨gl, hs⟩ := gd_inv hs
    simp only [beq_iff_eq] at gl
    subst gl
    exact w_aln hs hx hb hd kk
  | getfield j =>
    obtain ⟨gl, hs⟩ := gd_inv hs
    simp only [beq_iff_eq] at gl
    subst gl
    exact w_gfd hs hx hb hown hts hKN hd kk
  | putfield j =>
    obtain ⟨gl, hs⟩ := gd_inv hs
    simp only [beq_iff_eq] at gl
    subst gl
    exact w_pfd hs hx hb hown hts hKN hini hd kk
  | tableswitch d2 lo hi os => exact w_tsw hs hx hb hd kk
  | lookupswitch d2 ps => exact w_lsw hs hx hb hd kk
  | newarray t =>
    cases t with
    | int =>
      obtain ⟨gl, hs⟩ := gd_inv hs
      simp only [beq_iff_eq] at gl
      subst gl
      exact w_nwa .int hs (by omega) (by omega) rfl rfl (by decide) hr hx hb (hts _ arc_ws.1) hd hA kk
    | byte =>
      obtain ⟨gl, hs⟩ := gd_inv hs
      simp only [beq_iff_eq] at gl
      subst gl
      exact w_nwa .byte hs (by omega) (by omega) rfl rfl (by decide) hr hx hb (hts _ arc_ws.2.1) hd hA kk
    | boolean =>
      obtain ⟨gl, hs⟩ := gd_inv hs
      simp only [beq_iff_eq] at gl
      subst gl
      exact w_nwa .boolean hs (by omega) (by omega) rfl rfl (by decide) hr hx hb (hts _ arc_ws.2.2) hd hA kk
    | _ => cases hs
  | anewarray j =>
    obtain ⟨gl, hs⟩ := gd_inv hs
    simp only [beq_iff_eq] at gl
    subst gl
    exact w_nwq hs hr hx hb hown hts hKN hd hA kk
  | multianewarray j dd =>
    obtain ⟨gl, hs⟩ := gd_inv hs
    simp only [Bool.and_eq_true, beq_iff_eq] at gl
    obtain ⟨rfl, rfl⟩ := gl
    exact w_nw2 hs hr hx hb hown hts hKN hd hA kk
  | new j =>
    obtain ⟨gl, hs⟩ := gd_inv hs
    simp only [beq_iff_eq] at gl
    subst gl
    exact w_nwo hs hr hx hb hown hts hd hA kk
  | invokevirtual j =>
    obtain ⟨gl, hs⟩ := gd_inv hs
    simp only [beq_iff_eq] at gl
    subst gl
    exact w_cav (ins := .nop) hSN hs (Or.inl ⟨rfl, hd⟩) hR hr hpm hx hb hown hts hKN hA kk
  | invokestatic j =>
    obtain ⟨gl, hs⟩ := gd_inv hs
    simp only [beq_iff_eq] at gl
    subst gl
    exact w_cas hSN hs hd hR hr hpm hx hb hown hts hKN hA kk
  | invokespecial j =>
    obtain ⟨gl, hs⟩ := gd_inv hs
    simp only [beq_iff_eq] at gl
    subst gl
    exact w_cai hSN hs hd hR hr hpm hx hb hown hts hKN hA kk
  | ireturn => exact (iret_n (gd_inv hs).2).elim
  | lreturn => exact (lret_n (gd_inv hs).2).elim
  | return_ => exact (vret_n (gd_inv hs).2).elim
  | _ => cases hs
/-- A RETURN -/
theorem ret_w {C : mCall} {rv : Option mV} {h2 : mH} {adsI : List (Nat × Nat)} {hI0 : mH} (hs : stepI C y len pc L st h i = some (.inr (rv, h2))) (hd : decode (codB y) pc = .ok (i, len)) (hx : p.tables.exec = Jvm.exec) (hb : c.code = codB y) (hret : meth.sig.returnType = retB y) (hlocks : meth.locks = false) :
    WI p l e R s m args below meth c (MQ below (relQ dC dI adsI hI0 s.heap.size rv h2) args s (h2.1.length - hI0.1.length) (slS h2.1 - slS hI0.1) (va_A (wsA adsI hI0) s.heap.size)) dC dI (va_A (wsA adsI hI0) s.heap.size) s.heap adsI hI0.1 (pc, L, st, h) := by
  intro ads tys H locs ls hI hl hn hL hS
  obtain ⟨i1, i2, i3, hP, hD, hK, hT, hSt, hW⟩ := hI
  have base : ∀ (rv : Option mV) (v : Option Value) (t : State), v = rv.map (rV ads) → (∀ u, rv = some u → okV h.1.length u) → t.heap = H → s.WarmedH t.vm → relQ dC dI adsI hI0 s.heap.size rv h args s (.returned v) t := fun rv v t e ok ht hw => ⟨ads, tys, by rw [e], i1, i2, i3, by rw [ht]; exact hP, hD, va_K.moved hw.alike hK, hT, hW, ok, hSt.F ht⟩
  rcases step_r hs with ⟨rfl, rfl, g⟩ | ⟨rfl, rfl, g⟩ | ⟨rfl, rfl, g⟩
  · have e2 : h2 = h := iret_h g
    subst e2
    unfold iret at g
    split at g
    next x =>
      have hx1 : inR x := ok_h hS
      split at g
      next hr =>
        cases g
        exact W.iret (v := Int32.ofInt x) hx hb (hret.trans hr) (fun t ht hw => base (some (vI x)) _ t rfl (fun u hu => by cases hu; exact hx1) ht hw) hSt.2.2 hd hlocks
      next hr =>
        split at g
        next hz =>
          cases g
          exact W.zret (v := Int32.ofInt x) (ty := .boolean) hx hb (hret.trans hr) (by rcases hz with rfl | rfl <;> rfl) (fun t ht hw => base (some (vI x)) _ t rfl (fun u hu => by cases hu; exact hx1) ht hw) hSt.2.2 hd hlocks
        next => cases g
      next => cases g
    next => cases g
  · have e2 : h2 = h := lret_h g
    subst e2
    unfold lret at g
    split at g
    next x =>
      have hx1 : inL x := ok_h hS
      split at g
      next hr =>
        cases g
        exact W.lret (v := Int64.ofInt x) hx hb (hret.trans hr) (fun t ht hw => base (some (vL x)) _ t rfl (fun u hu => by cases hu; exact hx1) ht hw) hSt.2.2 hd hlocks
      next => cases g
    next => cases g
  · have e2 : h2 = h := vret_h g
    subst e2
    unfold vret at g
    split at g
    next =>
      split at g
      next hr =>
        cases g
        exact W.vret hx hb (hret.trans hr) (fun t ht hw => base none _ t rfl (fun u hu => by cases hu) ht hw) hSt.2.2 hd hlocks
      next => cases g
    next => cases g
theorem run_w {C : mCall} {d : Nat} (hSN : SNC C d) (hC : MNC C) {rv : Option mV} {h2 : mH} {adsI : List (Nat × Nat)} {hI0 : mH} (hR : d + 1 ≤ R.frames ∧ d * 64 + 64 ≤ R.locals) (hr : h2.1.length - hI0.1.length ≤ R.cells ∧ slS h2.1 - slS hI0.1 ≤ R.slots) (hx : p.tables.exec = Jvm.exec) (hb : c.code = codB y) (hown : s.vm.findClass (ownN (ownB y)) = some m.cls) (hts : ∀ w ∈ gdW, w.before args s = true) (hKN : KN s) (hini : iniB y = true → meth.name = "<init>") (hret : meth.sig.returnType = retB y) (hlocks : meth.locks = false) : ∀ (n : Nat) (q : mC), runA C y n q = some (rv, h2) →
    WI p l e R s m args below meth c (MQ below (relQ dC dI adsI hI0 s.heap.size rv h2) args s (h2.1.length - hI0.1.length) (slS h2.1 - slS hI0.1) (va_A (wsA adsI hI0) s.heap.size)) dC dI (va_A (wsA adsI hI0) s.heap.size) s.heap adsI hI0.1 q
  | 0, q, hq => by cases hq
  | n + 1, (pc, L, st, h), hq => by
    unfold runA at hq
    split at hq
    next c2 hs =>
      have ih := run_w (adsI := adsI) (hI0 := hI0) hSN hC hR hr hx hb hown hts hKN hini hret hlocks n c2 hq
      have hg := run_h hC n c2 _ hq
      unfold stepA at hs
      split at hs
      next i len hdec =>
        refine step_w hSN hC hs hdec hR ?_ hx hb hown hts hKN hini (fun q g => Or.inr g) ih
        have a1 : c2.2.2.2.1.length ≤ h2.1.length := hg.length_le
        have a2 : slS c2.2.2.2.1 ≤ slS h2.1 := slS_pre hg
        omega
      next => cases hs
    next r hs =>
      cases hq
      unfold stepA at hs
      split at hs
      next i len hdec => exact ret_w hs hdec hx hb hret hlocks
      next => cases hs
    next => cases hq
end STG
theorem lay_sl (ads : List (Nat × Nat)) (as : List mV) : (lg_sl (as.map (rV ads))).length = (layL as).length := by
  unfold lg_sl layL
  induction as with
  | nil => rfl
  | cons v as ih =>
    rw [List.map_cons, List.flatMap_cons, List.flatMap_cons, List.length_append, List.length_append, ih, rV_cat]
    congr 1
    rcases v with x | x | _ | b <;> rfl
theorem lay_cons (v : mV) (as : List mV) : layL (v :: as) = layL [v] ++ layL as := by unfold layL; simp
theorem lay_at (ads : List (Nat × Nat)) : ∀ (as : List mV) (o i : Nat), ld (layL as) i ≠ vR none → (o + i, rV ads (ld (layL as) i)) ∈ lv_args o (as.map (rV ads))
  | [], o, i, h => by exact absurd (by unfold ld; simp [layL]) h
  | v :: as, o, i, h => by
    rw [List.map_cons]
    unfold lv_args
    rw [rV_cat]
    rw [lay_cons] at h ⊢
    rcases v with x | x | r
    · rw [show layL [Sum.inl x] = [Sum.inl x] from rfl] at h ⊢
      cases i with
      | zero => exact List.mem_cons_self
      | succ i =>
        have e : ld ([Sum.inl x] ++ layL as) (i + 1) = ld (layL as) i := by unfold ld; simp [List.getD_eq_getElem?_getD]
        rw [e] at h ⊢
        have := lay_at ads as (o + 1) i h
        rw [show o + 1 + i = o + (i + 1) by omega] at this
        exact List.mem_cons_of_mem _ this
    · rw [show layL [Sum.inr (Sum.inl x)] = [vL x, vR none] from rfl] at h ⊢
      cases i with
      | zero => exact List.mem_cons_self
      | succ i => cases i with
        | zero => exact absurd (by unfold ld; rfl) h
        | succ i =>
          have e : ld ([vL x, vR none] ++ layL as) (i + 1 + 1) = ld (layL as) i := by unfold ld; simp [List.getD_eq_getElem?_getD]
          rw [e] at h ⊢
          have := lay_at ads as (o + 2) i h
          rw [show o + 2 + i = o + (i + 1 + 1) by omega] at this
          exact List.mem_cons_of_mem _ this
    · rw [show layL [Sum.inr (Sum.inr r)] = [Sum.inr (Sum.inr r)] from rfl] at h ⊢
      cases i with
      | zero => exact List.mem_cons_self
      | succ i =>
        have e : ld ([Sum.inr (Sum.inr r)] ++ layL as) (i + 1) = ld (layL as) i := by unfold ld; simp [List.getD_eq_getElem?_getD]
        rw [e] at h ⊢
        have := lay_at ads as (o + 1) i h
        rw [show o + 1 + i = o + (i + 1) by omega] at this
        exact List.mem_cons_of_mem _ this
theorem ok_lay {n : Nat} {as : List mV} (h : ∀ v ∈ as, okV n v) : ∀ v ∈ layL as, okV n v := fun v hv => by
  unfold layL at hv
  obtain ⟨u, hu, g⟩ := List.mem_flatMap.mp hv
  rcases u with x | x | r
  · rw [List.mem_singleton.mp g]; exact h _ hu
  · rcases List.mem_cons.mp g with q | q
    · rw [q]; exact h _ hu
    · rw [List.mem_singleton.mp q]; trivial
  · rw [List.mem_singleton.mp g]; exact h _ hu
/-- EVERY CALL OF THE MACHINE IN NUMBERS IS A CALL OF THE MACHINE -/
theorem sound : ∀ d : Nat, SNC (callA d) d
  | 0 => fun _ _ _ _ _ _ _ _ _ hc => by cases hc
  | d + 1 => by
    intro l dC dI y as h r h2 hy hc ads tys sz
    unfold callA at hc
    by_cases hlay : (layL as).length ≤ maxB y
    rw [if_pos hlay] at hc
    obtain ⟨n, hrun⟩ := resA_run hc
    obtain ⟨w1, w2, w3, w4, w5, w6, w7, -, -⟩ := mI_ok hy
    refine Met.ofW (cc := codB y) (maxL := maxB y) (ret := retB y) w6 rfl ?_
    intro p e s m args below meth c s1 B hml hv
    obtain ⟨rfl, hsz, hlen, hP, hD, hK, hT, hW, hKN, has⟩ := hv
    subst hsz
    have hts0 := atoms_spec (ws := wsB y) B.pre
    have hts : ∀ w ∈ gdW, w.before (as.map (rV ads)).toArray s = true := fun w hw => hts0 w (List.mem_cons_of_mem _ hw)
    have hown : s.vm.findClass (ownN (ownB y)) = some m.cls := by rw [← w5]; exact findClass_of_methodNamed B.named
    have hini : iniB y = true → meth.name = "<init>" := fun hi => ((name_of_methodNamed B.named B.method).1).trans (by unfold iniB at hi; exact eq_of_beq hi)
    have hw := run_w (p := p) (l := l) (e := e) (R := (headSpec (wsB y) (rmB (d + 1) (h2.1.length - h.1.length) (slS h2.1 - slS h.1))).room) (s := s) (m := m) (args := (as.map (rV ads)).toArray) (below := below) (meth := meth) (c := c) (dC := dC) (dI := dI) (y := y) (adsI := ads) (hI0 := h) (sound d) (call_h d) ⟨Nat.le_refl _, by show d * 64 + 64 ≤ (d + 1) * 64; omega⟩ ⟨Nat.le_refl _, Nat.le_refl _⟩ B.exec B.bytes hown hts hKN hini B.returns B.notSynchronized n _ hrun
    rw [lg_entry_eq]
    have hent := lv_entry (as.map (rV ads)) (n := maxB y) (by rw [lay_sl]; exact hlay)
    have hlr : lrA ads ((lg_sl (as.map (rV ads)) ++ List.replicate (maxB y - (lg_sl (as.map (rV ads))).length) Slot.unset).toArray) (initL y as) := by
      refine lr_mk (by rw [hent.1]; simp [initL]; omega) hent.2.1 fun i hi hn => ?_
      have e1 : ld (initL y as) i = ld (layL as) i := by
        by_cases q : i < (layL as).length
        · unfold initL ld
          rw [List.getD_eq_getElem?_getD, List.getD_eq_getElem?_getD, List.getElem?_append_left q]
        · exfalso
          apply hn
          unfold initL ld
          rw [List.getD_eq_getElem?_getD, List.getElem?_append_right (by omega), List.getElem?_replicate]
          split <;> rfl
      rw [e1] at hn ⊢
      have g := lay_at ads as 0 i hn
      rw [Nat.zero_add] at g
      exact hent.2.2 _ g
    have hinv : InvA dC dI (va_A (wsA ads h) s.heap.size) s.heap s ads h.1 ads tys h s.heap [] := ⟨List.prefix_rfl, List.prefix_rfl, hlen, hP, hD.self, hK, hT, va_S.rf, hW⟩
    have hfin := hw ads tys s.heap [] _ hinv hlr (by rw [hml]; simp [initL]; omega) (fun v hv => by
      rcases List.mem_append.mp hv with g | g
      · exact ok_lay has v g
      · rw [(List.mem_replicate.mp g).2]; trivial) (fun v hv => by cases hv)
    dsimp only at hfin
    rw [Nat.sub_self, Nat.sub_self] at hfin
    exact hfin
    rw [if_neg hlay] at hc
    cases hc
