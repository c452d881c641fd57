theorem d_tsw : decode code 32 = .ok (.tableswitch 894 0 30 #[140, 163, 176, 189, 222, 245, 268, 301, 314, 337, 350, 373, 406, 439, 452, 475, 498, 531, 564, 587, 610, 633, 666, 699, 712, 725, 778, 811, 834, 857, 880], 140) := by decide +kernel
section LWL
variable {p : Program} {l : Launch} {e : Env} {s : State} {m : MethodId} {below : List Frame} {meth : Method} {c : Code} {dC : Nat → ClassId} {dI : Nat → Nat → Nat} {b Lx : Nat} {xs : Nat → Int32}
theorem ll_nx (i : Nat) : s1 (LL i) 3 (vI ((i : Int) + 5)) = LL (i + 5) := rfl
theorem z31 (x : Int32) : 0 ≤ (x &&& 31).toInt ∧ (x &&& 31).toInt ≤ 31 := by
  have h : (x &&& 31).toBitVec.toNat ≤ 31 := by
    rw [Int32.toBitVec_and, BitVec.toNat_and]
    exact Nat.and_le_right
  show 0 ≤ (x &&& 31).toBitVec.toInt ∧ (x &&& 31).toBitVec.toInt ≤ 31
  rw [BitVec.toInt_eq_toNat_of_lt (by omega)]
  omega
theorem law_loop (hL : Lx ≤ 320) (C0 : lw_At p s m meth c b Lx xs) : ∀ (n i : Nat) (h : mH) (σ : Sg), i ≤ Lx → Lx + 5 ≤ i + 5 * n → RR h σ → WL p l e s m below meth c dC dI b (lw_Z below #[Value.ref b] s) (18, LL i, [], h)
  | 0, i, h, σ, hi, hn, R => by omega
  | n + 1, i, h, σ, hi, hn, R => by
    intro ads tys H locs ls hI hl hb0 hn4 hLk hS
    obtain ⟨hx, hb, hr, hml, hown, hts, hX, hbl, hlocks, hgv⟩ := id C0
    have hSt := hI.2.2.2.2.2.2.2.1
    have hbA : ¬ (fun q : Nat => s.heap.size ≤ q) b := Nat.not_le.mpr hbl
    show W p l e room_1 s m #[Value.ref b] below meth c H locs (h.1.length - ([] : List (Nat × Nat)).length) (slS h.1 - slS []) (lw_Z below #[Value.ref b] s) (F0 m 18 ls [])
    have gi : ls[3]? = some (.val (.int (Int32.ofInt (i : Int)))) := lr_get (v := vI (i : Int)) hl rfl (fun q => by cases q)
    refine lv_iload_n hx hb (show decode code 18 = .ok (.iload_n 3, 1) from by decide +kernel) rfl gi ?_
    refine lv_aload_n hx hb (show decode code 19 = .ok (.aload_n 0, 1) from by decide +kernel) rfl hb0 ?_
    refine va_slen hx hb hX hbl hbA hSt (show decode code 20 = .ok (.arraylength, 1) from by decide +kernel) ?_
    refine lv_iconst (v := 5) hx hb (show decode code 21 = .ok (.iconst 5, 1) from by decide +kernel) (by decide) ?_
    refine lv_isub hx hb (show decode code 22 = .ok (.isub, 1) from by decide +kernel) ?_
    have e5 : (Int32.ofNat Lx - 5).toInt = (Lx : Int) - 5 := by
      have : Int32.ofNat Lx - 5 = Int32.ofInt ((Lx : Int) - 5) := by
        rw [Int32.ofInt_sub]
        rfl
      rw [this, i32_of ⟨by omega, by omega⟩]
    have ei : (Int32.ofInt (i : Int)).toInt = (i : Int) := i32_of ⟨by omega, by omega⟩
    refine lv_icmp_gt (tgt := 932) hx hb (show decode code 23 = .ok (.if_icmp .gt 909, 3) from by decide +kernel) (by decide) (fun c1 => ?_) (fun c1 => ?_)
    · refine lv_iconst (v := 1) hx hb (show decode code 932 = .ok (.iconst 1, 1) from by decide +kernel) (by decide) ?_
      refine va_forget (fun q hq => hSt.2.2 q hq) ?_
      have hr1 : h.1.length ≤ 600000 := by rw [R.1.1]; exact shT_room.1
      have hr2 : slS h.1 ≤ 7302250 := by rw [R.1.1]; exact shT_room.2
      refine W.widen (k := 600000) (n := 7302250) (by show h.1.length - 0 ≤ _; omega) (by show slS h.1 - 0 ≤ _; omega) ?_
      exact lw_ret hx hb hr hlocks (show decode code 933 = .ok (.ireturn, 1) from by decide +kernel)
    · rw [Int32.lt_iff_toInt_lt, e5, ei] at c1
      have i5 : i + 5 ≤ Lx := by omega
      refine lv_aload_n hx hb (show decode code 26 = .ok (.aload_n 0, 1) from by decide +kernel) rfl hb0 ?_
      refine lv_iload_n hx hb (show decode code 27 = .ok (.iload_n 3, 1) from by decide +kernel) rfl gi ?_
      refine va_sld hx hb hX hbl hbA hSt (i32_in (by omega) (by omega) ⟨by omega, by omega⟩) (show decode code 28 = .ok (.iaload, 1) from by decide +kernel) ?_
      rw [i32_nc (by omega) ⟨by omega, by omega⟩, Int.toNat_natCast]
      refine lv_bipush (v := 31) hx hb (show decode code 29 = .ok (.bipush 31, 2) from by decide +kernel) (by decide) ?_
      refine lv_iand hx hb (show decode code 31 = .ok (.iand, 1) from by decide +kernel) ?_
      have hz := z31 (xs i)
      generalize xs i &&& 31 = z at hz ⊢
      have nx : ∀ h2 σ2, RR h2 σ2 → WL p l e s m below meth c dC dI b (lw_Z below #[Value.ref b] s) (926, LL i, [], h2) := fun h2 σ2 R2 => by
        refine l_inc (x := (i : Int)) C0 (by omega) rfl ⟨by omega, by omega⟩ (show decode code 926 = .ok (.iinc 3 5, 3) from by decide +kernel) ?_
        rw [ll_nx]
        exact l_goto C0 (show decode code 929 = .ok (.goto (-911), 3) from by decide +kernel) (by decide) (law_loop hL C0 n (i + 5) h2 σ2 i5 (by omega) R2)
      have hc : z.toInt = 0 ∨ z.toInt = 1 ∨ z.toInt = 2 ∨ z.toInt = 3 ∨ z.toInt = 4 ∨ z.toInt = 5 ∨ z.toInt = 6 ∨ z.toInt = 7 ∨ z.toInt = 8 ∨ z.toInt = 9 ∨ z.toInt = 10 ∨ z.toInt = 11 ∨ z.toInt = 12 ∨ z.toInt = 13 ∨ z.toInt = 14 ∨ z.toInt = 15 ∨ z.toInt = 16 ∨ z.toInt = 17 ∨ z.toInt = 18 ∨ z.toInt = 19 ∨ z.toInt = 20 ∨ z.toInt = 21 ∨ z.toInt = 22 ∨ z.toInt = 23 ∨ z.toInt = 24 ∨ z.toInt = 25 ∨ z.toInt = 26 ∨ z.toInt = 27 ∨ z.toInt = 28 ∨ z.toInt = 29 ∨ z.toInt = 30 ∨ z.toInt = 31 := by omega
      rcases hc with q | q | q | q | q | q | q | q | q | q | q | q | q | q | q | q | q | q | q | q | q | q | q | q | q | q | q | q | q | q | q | q
      · exact lv_tableIn (off := 140) (tgt := 172) hx hb d_tsw (by rw [q]; decide) (by rw [q]; decide) (by rw [q]; decide +kernel) (by decide) (lc_0 C0 hL (by omega) R nx ads tys H locs ls hI hl hb0 hn4 hLk hS)
      · exact lv_tableIn (off := 163) (tgt := 195) hx hb d_tsw (by rw [q]; decide) (by rw [q]; decide) (by rw [q]; decide +kernel) (by decide) (lc_1 C0 hL (by omega) R nx ads tys H locs ls hI hl hb0 hn4 hLk hS)
      · exact lv_tableIn (off := 176) (tgt := 208) hx hb d_tsw (by rw [q]; decide) (by rw [q]; decide) (by rw [q]; decide +kernel) (by decide) (lc_2 C0 hL (by omega) R nx ads tys H locs ls hI hl hb0 hn4 hLk hS)
      · exact lv_tableIn (off := 189) (tgt := 221) hx hb d_tsw (by rw [q]; decide) (by rw [q]; decide) (by rw [q]; decide +kernel) (by decide) (lc_3 C0 hL (by omega) R nx ads tys H locs ls hI hl hb0 hn4 hLk hS)
      · exact lv_tableIn (off := 222) (tgt := 254) hx hb d_tsw (by rw [q]; decide) (by rw [q]; decide) (by rw [q]; decide +kernel) (by decide) (lc_4 C0 hL (by omega) R nx ads tys H locs ls hI hl hb0 hn4 hLk hS)
      · exact lv_tableIn (off := 245) (tgt := 277) hx hb d_tsw (by rw [q]; decide) (by rw [q]; decide) (by rw [q]; decide +kernel) (by decide) (lc_5 C0 hL (by omega) R nx ads tys H locs ls hI hl hb0 hn4 hLk hS)
      · exact lv_tableIn (off := 268) (tgt := 300) hx hb d_tsw (by rw [q]; decide) (by rw [q]; decide) (by rw [q]; decide +kernel) (by decide) (lc_6 C0 hL (by omega) R nx ads tys H locs ls hI hl hb0 hn4 hLk hS)
      · exact lv_tableIn (off := 301) (tgt := 333) hx hb d_tsw (by rw [q]; decide) (by rw [q]; decide) (by rw [q]; decide +kernel) (by decide) (lc_7 C0 hL (by omega) R nx ads tys H locs ls hI hl hb0 hn4 hLk hS)
      · exact lv_tableIn (off := 314) (tgt := 346) hx hb d_tsw (by rw [q]; decide) (by rw [q]; decide) (by rw [q]; decide +kernel) (by decide) (lc_8 C0 hL (by omega) R nx ads tys H locs ls hI hl hb0 hn4 hLk hS)
      · exact lv_tableIn (off := 337) (tgt := 369) hx hb d_tsw (by rw [q]; decide) (by rw [q]; decide) (by rw [q]; decide +kernel) (by decide) (lc_9 C0 hL (by omega) R nx ads tys H locs ls hI hl hb0 hn4 hLk hS)
      · exact lv_tableIn (off := 350) (tgt := 382) hx hb d_tsw (by rw [q]; decide) (by rw [q]; decide) (by rw [q]; decide +kernel) (by decide) (lc_10 C0 hL (by omega) R nx ads tys H locs ls hI hl hb0 hn4 hLk hS)
      · exact lv_tableIn (off := 373) (tgt := 405) hx hb d_tsw (by rw [q]; decide) (by rw [q]; decide) (by rw [q]; decide +kernel) (by decide) (lc_11 C0 hL (by omega) R nx ads tys H locs ls hI hl hb0 hn4 hLk hS)
      · exact lv_tableIn (off := 406) (tgt := 438) hx hb d_tsw (by rw [q]; decide) (by rw [q]; decide) (by rw [q]; decide +kernel) (by decide) (lc_12 C0 hL (by omega) R nx ads tys H locs ls hI hl hb0 hn4 hLk hS)
      · exact lv_tableIn (off := 439) (tgt := 471) hx hb d_tsw (by rw [q]; decide) (by rw [q]; decide) (by rw [q]; decide +kernel) (by decide) (lc_13 C0 hL (by omega) R nx ads tys H locs ls hI hl hb0 hn4 hLk hS)
      · exact lv_tableIn (off := 452) (tgt := 484) hx hb d_tsw (by rw [q]; decide) (by rw [q]; decide) (by rw [q]; decide +kernel) (by decide) (lc_14 C0 hL (by omega) R nx ads tys H locs ls hI hl hb0 hn4 hLk hS)
      · exact lv_tableIn (off := 475) (tgt := 507) hx hb d_tsw (by rw [q]; decide) (by rw [q]; decide) (by rw [q]; decide +kernel) (by decide) (lc_15 C0 hL (by omega) R nx ads tys H locs ls hI hl hb0 hn4 hLk hS)
      · exact lv_tableIn (off := 498) (tgt := 530) hx hb d_tsw (by rw [q]; decide) (by rw [q]; decide) (by rw [q]; decide +kernel) (by decide) (lc_16 C0 hL (by omega) R nx ads tys H locs ls hI hl hb0 hn4 hLk hS)
      · exact lv_tableIn (off := 531) (tgt := 563) hx hb d_tsw (by rw [q]; decide) (by rw [q]; decide) (by rw [q]; decide +kernel) (by decide) (lc_17 C0 hL (by omega) R nx ads tys H locs ls hI hl hb0 hn4 hLk hS)
      · exact lv_tableIn (off := 564) (tgt := 596) hx hb d_tsw (by rw [q]; decide) (by rw [q]; decide) (by rw [q]; decide +kernel) (by decide) (lc_18 C0 hL (by omega) R nx ads tys H locs ls hI hl hb0 hn4 hLk hS)
      · exact lv_tableIn (off := 587) (tgt := 619) hx hb d_tsw (by rw [q]; decide) (by rw [q]; decide) (by rw [q]; decide +kernel) (by decide) (lc_19 C0 hL (by omega) R nx ads tys H locs ls hI hl hb0 hn4 hLk hS)
      · exact lv_tableIn (off := 610) (tgt := 642) hx hb d_tsw (by rw [q]; decide) (by rw [q]; decide) (by rw [q]; decide +kernel) (by decide) (lc_20 C0 hL (by omega) R nx ads tys H locs ls hI hl hb0 hn4 hLk hS)
      · exact lv_tableIn (off := 633) (tgt := 665) hx hb d_tsw (by rw [q]; decide) (by rw [q]; decide) (by rw [q]; decide +kernel) (by decide) (lc_21 C0 hL (by omega) R nx ads tys H locs ls hI hl hb0 hn4 hLk hS)
      · exact lv_tableIn (off := 666) (tgt := 698) hx hb d_tsw (by rw [q]; decide) (by rw [q]; decide) (by rw [q]; decide +kernel) (by decide) (lc_22 C0 hL (by omega) R nx ads tys H locs ls hI hl hb0 hn4 hLk hS)
      · exact lv_tableIn (off := 699) (tgt := 731) hx hb d_tsw (by rw [q]; decide) (by rw [q]; decide) (by rw [q]; decide +kernel) (by decide) (lc_23 C0 hL (by omega) R nx ads tys H locs ls hI hl hb0 hn4 hLk hS)
      · exact lv_tableIn (off := 712) (tgt := 744) hx hb d_tsw (by rw [q]; decide) (by rw [q]; decide) (by rw [q]; decide +kernel) (by decide) (lc_24 C0 hL (by omega) R nx ads tys H locs ls hI hl hb0 hn4 hLk hS)
      · exact lv_tableIn (off := 725) (tgt := 757) hx hb d_tsw (by rw [q]; decide) (by rw [q]; decide) (by rw [q]; decide +kernel) (by decide) (lc_25 C0 hL (by omega) R nx ads tys H locs ls hI hl hb0 hn4 hLk hS)
      · exact lv_tableIn (off := 778) (tgt := 810) hx hb d_tsw (by rw [q]; decide) (by rw [q]; decide) (by rw [q]; decide +kernel) (by decide) (lc_26 C0 hL (by omega) R nx ads tys H locs ls hI hl hb0 hn4 hLk hS)
      · exact lv_tableIn (off := 811) (tgt := 843) hx hb d_tsw (by rw [q]; decide) (by rw [q]; decide) (by rw [q]; decide +kernel) (by decide) (lc_27 C0 hL (by omega) R nx ads tys H locs ls hI hl hb0 hn4 hLk hS)
      · exact lv_tableIn (off := 834) (tgt := 866) hx hb d_tsw (by rw [q]; decide) (by rw [q]; decide) (by rw [q]; decide +kernel) (by decide) (lc_28 C0 hL (by omega) R nx ads tys H locs ls hI hl hb0 hn4 hLk hS)
      · exact lv_tableIn (off := 857) (tgt := 889) hx hb d_tsw (by rw [q]; decide) (by rw [q]; decide) (by rw [q]; decide +kernel) (by decide) (lc_29 C0 hL (by omega) R nx ads tys H locs ls hI hl hb0 hn4 hLk hS)
      · exact lv_tableIn (off := 880) (tgt := 912) hx hb d_tsw (by rw [q]; decide) (by rw [q]; decide) (by rw [q]; decide +kernel) (by decide) (lc_30 C0 hL (by omega) R nx ads tys H locs ls hI hl hb0 hn4 hLk hS)
      · exact lv_tableOut (tgt := 926) hx hb d_tsw (by rw [q]; decide) (by decide) (nx h σ R ads tys H locs ls hI hl hb0 hn4 hLk hS)
end LWL
def eH : mH := ([], fun _ _ => 0, fun _ _ => 0, fun _ _ => none)
theorem eH_wf : WfH eH := ⟨fun _ _ => (show inR 0 from ⟨by decide, by decide⟩), fun _ _ => (show inL 0 from ⟨by decide, by decide⟩), fun _ _ b (e : (none : Option Nat) = some b) => (nomatch e), fun k hk => absurd hk (Nat.not_lt_zero k), fun k hk => absurd hk (Nat.not_lt_zero k)⟩
theorem whole_start {p : Program} {e : Env} {s : State} {m : MethodId} {below : List Frame} {meth : Method} {c : Code} (l : Launch) (hflags : l.flags = flags0) {b L : Nat} {xs : Nat → Int32} (hL : L ≤ 320) (C0 : lw_At p s m meth c b L xs) : W p l e room_1 s m #[Value.ref b] below meth c s.heap [] 0 0 (lw_Z below #[Value.ref b] s) (entryFrame m ([Value.ref b] : List Value).toArray 4) := by
  have hts := lw_gd C0
  have kn : ∀ ci : Nat, ∃ (cC : ClassId) (iS : Nat → Nat), ci < 9 → u_Kn s (ownN ci) (clT ci) (clN ci) cC iS := fun ci => by
    by_cases h9 : ci < 9
    · obtain ⟨cC, iS, k⟩ := u_known (C := ownN ci) (T := clT ci) (N := clN ci) (n := clN ci) hts (cl_ws h9) (hts _ (ins_ok h9).1)
      exact ⟨cC, iS, fun _ => k⟩
    · exact ⟨m.cls, fun _ => 0, fun h => absurd h h9⟩
  obtain ⟨dC, kn1⟩ := Classical.axiomOfChoice kn
  obtain ⟨dI, kn2⟩ := Classical.axiomOfChoice kn1
  have hK : va_K (dC, dI) vwCl [] s := by
    refine ⟨fun k q hq => ?_, fun k q h => by simp at h⟩
    have h9 : k < 9 := by
      have := (List.getElem?_eq_some_iff.mp hq).1
      exact this
    rw [cl_at h9] at hq
    cases hq
    exact kn2 k h9
  have hl := lv_entry ([.ref b]) (n := 4) (Nat.le_of_ble_eq_true rfl)
  rw [lg_entry_eq]
  generalize (lg_sl ([.ref b]) ++ List.replicate (4 - (lg_sl ([.ref b])).length) Slot.unset).toArray = ls at hl ⊢
  have hl : lv_has ls 4 [(0, .ref b)] := hl
  obtain ⟨g, c1, Lg, Cg, -⟩ := cInit_ok 40
  obtain ⟨g3, c2, R⟩ := mInit_ok 40 Lg Cg
  have lg1 : g.1.length = 141 := by rw [Lg.1]; rfl
  have w1 : WL p l e s m below meth c dC dI b (lw_Z below #[Value.ref b] s) (0, [vR none, vR none, vR none, vR none], [], eH) := by
    refine l_new (ci := 7) C0 (by omega) (gd_mem (by decide +kernel) rfl) (by decide +kernel) (show decode code 0 = .ok (.new 7, 3) from by decide +kernel) ?_
    refine l_dup C0 (show decode code 3 = .ok (.dup, 1) from by decide +kernel) ?_
    refine l_ini (r := [vR (some 0)]) C0 c1 (by omega) rfl (show 0 = argB 60 from by decide +kernel) (by decide +kernel) (by decide +kernel) (by decide +kernel) (by decide +kernel) (gd_mem (List.mem_of_getElem? (i := 128) (by decide +kernel)) rfl) (Nat.le_of_ble_eq_true rfl) ⟨by decide, by decide⟩ (by rw [Lg.1]; decide +kernel) (show decode code 4 = .ok (.invokespecial 9, 3) from by decide +kernel) ?_
    refine l_ast C0 (by decide) (show decode code 7 = .ok (.astore_n 1, 1) from by decide +kernel) ?_
    refine l_new (ci := 8) C0 (by omega) (gd_mem (by decide +kernel) rfl) (by rw [show (nw g 8 (clN 8)).1 = g.1 ++ [(8, clN 8)] from rfl, Lg.1]; decide +kernel) (show decode code 8 = .ok (.new 10, 3) from by decide +kernel) ?_
    refine l_dup C0 (show decode code 11 = .ok (.dup, 1) from by decide +kernel) ?_
    rw [lg1]
    refine l_ini (r := [vR (some 141)]) C0 c2 (by omega) rfl (show 0 = argB 122 from by decide +kernel) (by rw [← lg1]; exact (kd_nws g 8 26).trans (by decide +kernel)) (by decide +kernel) (by decide +kernel) (by decide +kernel) (gd_mem (List.mem_of_getElem? (i := 871) (by decide +kernel)) rfl) (Nat.le_of_ble_eq_true rfl) ⟨by decide, by decide⟩ (by rw [R.1.1]; exact shT_room) (show decode code 12 = .ok (.invokespecial 12, 3) from by decide +kernel) ?_
    refine l_ast C0 (by decide) (show decode code 15 = .ok (.astore_n 2, 1) from by decide +kernel) ?_
    refine l_icn C0 ⟨by decide, by decide⟩ (show decode code 16 = .ok (.iconst 0, 1) from by decide +kernel) ?_
    refine l_ist C0 (by decide) (show decode code 17 = .ok (.istore_n 3, 1) from by decide +kernel) ?_
    exact law_loop hL C0 (L + 1) 0 g3 _ (Nat.zero_le L) (by omega) R
  refine w1 [] [] s.heap [] ls ⟨List.prefix_rfl, List.prefix_rfl, rfl, fun k q h => by simp [wsA, eH] at h, ⟨fun i j p q h => by simp [wsA, eH] at h, fun k q h => by simp [wsA, eH] at h⟩, hK, fun k hk => absurd hk (Nat.not_lt_zero k), va_S.rf, eH_wf⟩ (lr_mk hl.1 hl.2.1 fun i hi hn => ?_) (lv_at hl 0 rfl) rfl (fun v hv => ?_) (fun v hv => by cases hv)
  · exfalso
    apply hn
    rcases (show i = 0 ∨ i = 1 ∨ i = 2 ∨ i = 3 by have : i < 4 := hi; omega) with q | q | q | q <;> subst q <;> rfl
  · simp only [List.mem_cons, List.not_mem_nil, or_false] at hv
    rcases hv with q | q | q | q <;> rw [q] <;> trivial
