def LL (i : Nat) : List mV := [vR none, vR (some 0), vR (some 141), vI (i : Int)]
theorem kdT {h : mH} (e : h.1 = shT) : kd h 0 = (7, 17) ∧ kd h 141 = (8, 26) := by unfold kd; rw [e]; exact ⟨rfl, rfl⟩
theorem shT_room : shT.length ≤ room_1.cells ∧ slS shT ≤ room_1.slots := by decide +kernel
theorem pst_g {d y1 y2 : Nat} {a1 a2 : List mV} {h g g2 : mH} {r1 r2 : Option mV} (e : h.1 = shT) (e2 : g2.1 = shT) (c1 : callA d y1 a1 h = some (r1, g)) (c2 : callA d y2 a2 g = some (r2, g2)) : g.1 = shT := by
  have p1 := call_h d _ _ _ _ _ c1
  have p2 := call_h d _ _ _ _ _ c2
  have q1 := p1.length_le
  have q2 := p2.length_le
  rw [e] at q1 p1
  rw [e2] at q2
  exact (p1.eq_of_length (by omega)).symm
theorem lw_cw : ([61, 62, 63, 64, 65, 66, 67, 68, 69, 70, 71, 72, 73, 74, 75, 76, 77, 78, 79, 80, 81, 82, 83, 84, 85, 86, 87, 88, 89, 90, 91] : List Nat).all (fun y => decide (ownB y = 7) && !(staB y) && !(iniB y) && decide (y < 195)) = true := by decide +kernel
theorem lw_cm : ([124, 125, 136, 155, 156, 157, 160, 161, 162, 163, 164, 165, 166, 167, 168, 169, 171, 172, 176, 179, 181, 182, 183, 184, 186, 187, 188, 189, 190, 191, 192] : List Nat).all (fun y => decide (ownB y = 8) && !(staB y) && !(iniB y) && decide (y < 195)) = true := by decide +kernel
theorem lw_cw1 {y : Nat} (hy : y ∈ ([61, 62, 63, 64, 65, 66, 67, 68, 69, 70, 71, 72, 73, 74, 75, 76, 77, 78, 79, 80, 81, 82, 83, 84, 85, 86, 87, 88, 89, 90, 91] : List Nat)) : ownB y = 7 ∧ staB y = false ∧ iniB y = false ∧ y < 195 := by
  have h := List.all_eq_true.mp lw_cw y hy
  simp only [Bool.and_eq_true, decide_eq_true_eq, Bool.not_eq_true'] at h
  exact ⟨h.1.1.1, h.1.1.2, h.1.2, h.2⟩
theorem lw_cm1 {y : Nat} (hy : y ∈ ([124, 125, 136, 155, 156, 157, 160, 161, 162, 163, 164, 165, 166, 167, 168, 169, 171, 172, 176, 179, 181, 182, 183, 184, 186, 187, 188, 189, 190, 191, 192] : List Nat)) : ownB y = 8 ∧ staB y = false ∧ iniB y = false ∧ y < 195 := by
  have h := List.all_eq_true.mp lw_cm y hy
  simp only [Bool.and_eq_true, decide_eq_true_eq, Bool.not_eq_true'] at h
  exact ⟨h.1.1.1, h.1.1.2, h.1.2, h.2⟩
section LWC
variable {p : Program} {l : Launch} {e : Env} {s : State} {m : MethodId} {below : List Frame} {meth : Method} {c : Code} {dC : Nat → ClassId} {dI : Nat → Nat → Nat} {b Lx : Nat} {xs : Nat → Int32} {Q : State → Prop}
theorem l_cw {d ix y2 pc : Nat} {L st as r : List mV} {rv : Option mV} {h h2 : mH} (C0 : lw_At p s m meth c b Lx xs) (e1 : h.1 = shT) (e2 : h2.1 = shT) (hcall : callA d y2 (vR (some 0) :: as) h = some (rv, h2)) (hy : y2 ∈ ([61, 62, 63, 64, 65, 66, 67, 68, 69, 70, 71, 72, 73, 74, 75, 76, 77, 78, 79, 80, 81, 82, 83, 84, 85, 86, 87, 88, 89, 90, 91] : List Nat)) (hst : st = as.reverse ++ vR (some 0) :: r) (hlen : as.length = argB y2) (hlk : Cond.methodLink R_law ix (namB y2) ∈ gdW) (hcr : catS r ≤ 8) (hR : d ≤ 1000) (hd : decode code pc = .ok (.invokevirtual ix, 3)) (kk : WL p l e s m below meth c dC dI b Q (pc + 3, L, rv.toList ++ r, h2)) : WL p l e s m below meth c dC dI b Q (pc, L, st, h) := by
  obtain ⟨o1, o2, o3, o4⟩ := lw_cw1 hy
  refine l_call C0 hcall o4 hst hlen ?_ (by rw [o1]; exact Nat.le_of_ble_eq_true rfl) o2 o3 hlk hcr ⟨?_, ?_⟩ (by rw [e2]; exact shT_room) hd kk
  · rw [o1]
    exact (kdT e1).1
  · show d + 1 ≤ 2048; omega
  · show d * 64 + 64 ≤ 84000; omega
theorem l_cm {d ix y2 pc : Nat} {L st as r : List mV} {rv : Option mV} {h h2 : mH} (C0 : lw_At p s m meth c b Lx xs) (e1 : h.1 = shT) (e2 : h2.1 = shT) (hcall : callA d y2 (vR (some 141) :: as) h = some (rv, h2)) (hy : y2 ∈ ([124, 125, 136, 155, 156, 157, 160, 161, 162, 163, 164, 165, 166, 167, 168, 169, 171, 172, 176, 179, 181, 182, 183, 184, 186, 187, 188, 189, 190, 191, 192] : List Nat)) (hst : st = as.reverse ++ vR (some 141) :: r) (hlen : as.length = argB y2) (hlk : Cond.methodLink R_law ix (namB y2) ∈ gdW) (hcr : catS r ≤ 8) (hR : d ≤ 1000) (hd : decode code pc = .ok (.invokevirtual ix, 3)) (kk : WL p l e s m below meth c dC dI b Q (pc + 3, L, rv.toList ++ r, h2)) : WL p l e s m below meth c dC dI b Q (pc, L, st, h) := by
  obtain ⟨o1, o2, o3, o4⟩ := lw_cm1 hy
  refine l_call C0 hcall o4 hst hlen ?_ (by rw [o1]; exact Nat.le_of_ble_eq_true rfl) o2 o3 hlk hcr ⟨?_, ?_⟩ (by rw [e2]; exact shT_room) hd kk
  · rw [o1]
    exact (kdT e1).2
  · show d + 1 ≤ 2048; omega
  · show d * 64 + 64 ≤ 84000; omega
theorem lc_0 (C0 : lw_At p s m meth c b Lx xs) (hL : Lx ≤ 320) {i : Nat} (hi : i + 4 < Lx) {h : mH} {σ : Sg} (R : RR h σ) (kk : ∀ h2 σ2, RR h2 σ2 → WL p l e s m below meth c dC dI b Q (926, LL i, [], h2)) : WL p l e s m below meth c dC dI b Q (172, LL i, [], h) := by
  obtain ⟨r, σ2, g, g2, e1, e2, R2⟩ := p_typ R (xs (i + 1)).toInt
  have eg := pst_g R.1.1 R2.1.1 e1 e2
  refine l_ldA C0 (show decode code 172 = .ok (.aload_n 1, 1) from by decide +kernel) rfl ?_
  refine l_scr (k := 1) C0 hL (by omega) rfl (show decode code 173 = .ok (.aload_n 0, 1) from by decide +kernel) (show decode code 174 = .ok (.iload_n 3, 1) from by decide +kernel) (show decode code 175 = .ok (.iconst 1, 1) from by decide +kernel) (show decode code 176 = .ok (.iadd, 1) from by decide +kernel) (show decode code 177 = .ok (.iaload, 1) from by decide +kernel) ?_
  refine l_cw (r := []) C0 R.1.1 eg e1 (by decide +kernel) rfl (show 1 = argB 61 from by decide +kernel) (gd_mem (List.mem_of_getElem? (i := 428) (by decide +kernel)) rfl) (Nat.le_of_ble_eq_true rfl) (by omega) (show decode code 178 = .ok (.invokevirtual 13, 3) from by decide +kernel) ?_
  refine l_ldA C0 (show decode code 181 = .ok (.aload_n 2, 1) from by decide +kernel) rfl ?_
  refine l_scr (k := 1) C0 hL (by omega) rfl (show decode code 182 = .ok (.aload_n 0, 1) from by decide +kernel) (show decode code 183 = .ok (.iload_n 3, 1) from by decide +kernel) (show decode code 184 = .ok (.iconst 1, 1) from by decide +kernel) (show decode code 185 = .ok (.iadd, 1) from by decide +kernel) (show decode code 186 = .ok (.iaload, 1) from by decide +kernel) ?_
  refine l_cm (r := [_]) C0 eg R2.1.1 e2 (by decide +kernel) rfl (show 1 = argB 124 from by decide +kernel) (gd_mem (List.mem_of_getElem? (i := 964) (by decide +kernel)) rfl) (Nat.le_of_ble_eq_true rfl) (by omega) (show decode code 187 = .ok (.invokevirtual 17, 3) from by decide +kernel) ?_
  exact l_eq C0 (show decode code 190 = .ok (.if_icmp .eq 736, 3) from by decide +kernel) (by decide) (kk _ _ R2)
theorem lc_1 (C0 : lw_At p s m meth c b Lx xs) (hL : Lx ≤ 320) {i : Nat} (hi : i + 4 < Lx) {h : mH} {σ : Sg} (R : RR h σ) (kk : ∀ h2 σ2, RR h2 σ2 → WL p l e s m below meth c dC dI b Q (926, LL i, [], h2)) : WL p l e s m below meth c dC dI b Q (195, LL i, [], h) := by
  obtain ⟨r, σ2, g, g2, e1, e2, R2⟩ := p_clr R
  have eg := pst_g R.1.1 R2.1.1 e1 e2
  refine l_ldA C0 (show decode code 195 = .ok (.aload_n 1, 1) from by decide +kernel) rfl ?_
  refine l_cw (r := []) C0 R.1.1 eg e1 (by decide +kernel) rfl (show 0 = argB 62 from by decide +kernel) (gd_mem (List.mem_of_getElem? (i := 436) (by decide +kernel)) rfl) (Nat.le_of_ble_eq_true rfl) (by omega) (show decode code 196 = .ok (.invokevirtual 18, 3) from by decide +kernel) ?_
  refine l_ldA C0 (show decode code 199 = .ok (.aload_n 2, 1) from by decide +kernel) rfl ?_
  refine l_cm (r := [_]) C0 eg R2.1.1 e2 (by decide +kernel) rfl (show 0 = argB 125 from by decide +kernel) (gd_mem (List.mem_of_getElem? (i := 971) (by decide +kernel)) rfl) (Nat.le_of_ble_eq_true rfl) (by omega) (show decode code 200 = .ok (.invokevirtual 22, 3) from by decide +kernel) ?_
  exact l_eq C0 (show decode code 203 = .ok (.if_icmp .eq 723, 3) from by decide +kernel) (by decide) (kk _ _ R2)
theorem lc_2 (C0 : lw_At p s m meth c b Lx xs) (hL : Lx ≤ 320) {i : Nat} (hi : i + 4 < Lx) {h : mH} {σ : Sg} (R : RR h σ) (kk : ∀ h2 σ2, RR h2 σ2 → WL p l e s m below meth c dC dI b Q (926, LL i, [], h2)) : WL p l e s m below meth c dC dI b Q (208, LL i, [], h) := by
  obtain ⟨r, σ2, g, g2, e1, e2, R2⟩ := p_twn R
  have eg := pst_g R.1.1 R2.1.1 e1 e2
  refine l_ldA C0 (show decode code 208 = .ok (.aload_n 1, 1) from by decide +kernel) rfl ?_
  refine l_cw (r := []) C0 R.1.1 eg e1 (by decide +kernel) rfl (show 0 = argB 63 from by decide +kernel) (gd_mem (List.mem_of_getElem? (i := 444) (by decide +kernel)) rfl) (Nat.le_of_ble_eq_true rfl) (by omega) (show decode code 209 = .ok (.invokevirtual 23, 3) from by decide +kernel) ?_
  refine l_ldA C0 (show decode code 212 = .ok (.aload_n 2, 1) from by decide +kernel) rfl ?_
  refine l_cm (r := [_]) C0 eg R2.1.1 e2 (by decide +kernel) rfl (show 0 = argB 136 from by decide +kernel) (gd_mem (List.mem_of_getElem? (i := 975) (by decide +kernel)) rfl) (Nat.le_of_ble_eq_true rfl) (by omega) (show decode code 213 = .ok (.invokevirtual 26, 3) from by decide +kernel) ?_
  exact l_eq C0 (show decode code 216 = .ok (.if_icmp .eq 710, 3) from by decide +kernel) (by decide) (kk _ _ R2)
theorem lc_3 (C0 : lw_At p s m meth c b Lx xs) (hL : Lx ≤ 320) {i : Nat} (hi : i + 4 < Lx) {h : mH} {σ : Sg} (R : RR h σ) (kk : ∀ h2 σ2, RR h2 σ2 → WL p l e s m below meth c dC dI b Q (926, LL i, [], h2)) : WL p l e s m below meth c dC dI b Q (221, LL i, [], h) := by
  obtain ⟨r, σ2, g, g2, e1, e2, R2⟩ := p_cart R (xs (i + 1)).toInt (xs (i + 2)).toInt
  have eg := pst_g R.1.1 R2.1.1 e1 e2
  refine l_ldA C0 (show decode code 221 = .ok (.aload_n 1, 1) from by decide +kernel) rfl ?_
  refine l_scr (k := 1) C0 hL (by omega) rfl (show decode code 222 = .ok (.aload_n 0, 1) from by decide +kernel) (show decode code 223 = .ok (.iload_n 3, 1) from by decide +kernel) (show decode code 224 = .ok (.iconst 1, 1) from by decide +kernel) (show decode code 225 = .ok (.iadd, 1) from by decide +kernel) (show decode code 226 = .ok (.iaload, 1) from by decide +kernel) ?_
  refine l_scr (k := 2) C0 hL (by omega) rfl (show decode code 227 = .ok (.aload_n 0, 1) from by decide +kernel) (show decode code 228 = .ok (.iload_n 3, 1) from by decide +kernel) (show decode code 229 = .ok (.iconst 2, 1) from by decide +kernel) (show decode code 230 = .ok (.iadd, 1) from by decide +kernel) (show decode code 231 = .ok (.iaload, 1) from by decide +kernel) ?_
  refine l_cw (r := []) C0 R.1.1 eg e1 (by decide +kernel) rfl (show 2 = argB 64 from by decide +kernel) (gd_mem (List.mem_of_getElem? (i := 513) (by decide +kernel)) rfl) (Nat.le_of_ble_eq_true rfl) (by omega) (show decode code 232 = .ok (.invokevirtual 27, 3) from by decide +kernel) ?_
  refine l_ldA C0 (show decode code 235 = .ok (.aload_n 2, 1) from by decide +kernel) rfl ?_
  refine l_scr (k := 1) C0 hL (by omega) rfl (show decode code 236 = .ok (.aload_n 0, 1) from by decide +kernel) (show decode code 237 = .ok (.iload_n 3, 1) from by decide +kernel) (show decode code 238 = .ok (.iconst 1, 1) from by decide +kernel) (show decode code 239 = .ok (.iadd, 1) from by decide +kernel) (show decode code 240 = .ok (.iaload, 1) from by decide +kernel) ?_
  refine l_scr (k := 2) C0 hL (by omega) rfl (show decode code 241 = .ok (.aload_n 0, 1) from by decide +kernel) (show decode code 242 = .ok (.iload_n 3, 1) from by decide +kernel) (show decode code 243 = .ok (.iconst 2, 1) from by decide +kernel) (show decode code 244 = .ok (.iadd, 1) from by decide +kernel) (show decode code 245 = .ok (.iaload, 1) from by decide +kernel) ?_
  refine l_cm (r := [_]) C0 eg R2.1.1 e2 (by decide +kernel) rfl (show 2 = argB 155 from by decide +kernel) (gd_mem (List.mem_of_getElem? (i := 1010) (by decide +kernel)) rfl) (Nat.le_of_ble_eq_true rfl) (by omega) (show decode code 246 = .ok (.invokevirtual 31, 3) from by decide +kernel) ?_
  exact l_eq C0 (show decode code 249 = .ok (.if_icmp .eq 677, 3) from by decide +kernel) (by decide) (kk _ _ R2)
theorem lc_4 (C0 : lw_At p s m meth c b Lx xs) (hL : Lx ≤ 320) {i : Nat} (hi : i + 4 < Lx) {h : mH} {σ : Sg} (R : RR h σ) (kk : ∀ h2 σ2, RR h2 σ2 → WL p l e s m below meth c dC dI b Q (926, LL i, [], h2)) : WL p l e s m below meth c dC dI b Q (254, LL i, [], h) := by
  obtain ⟨r, σ2, g, g2, e1, e2, R2⟩ := p_gnd R (xs (i + 1)).toInt
  have eg := pst_g R.1.1 R2.1.1 e1 e2
  refine l_ldA C0 (show decode code 254 = .ok (.aload_n 1, 1) from by decide +kernel) rfl ?_
  refine l_scr (k := 1) C0 hL (by omega) rfl (show decode code 255 = .ok (.aload_n 0, 1) from by decide +kernel) (show decode code 256 = .ok (.iload_n 3, 1) from by decide +kernel) (show decode code 257 = .ok (.iconst 1, 1) from by decide +kernel) (show decode code 258 = .ok (.iadd, 1) from by decide +kernel) (show decode code 259 = .ok (.iaload, 1) from by decide +kernel) ?_
  refine l_cw (r := []) C0 R.1.1 eg e1 (by decide +kernel) rfl (show 1 = argB 65 from by decide +kernel) (gd_mem (List.mem_of_getElem? (i := 538) (by decide +kernel)) rfl) (Nat.le_of_ble_eq_true rfl) (by omega) (show decode code 260 = .ok (.invokevirtual 32, 3) from by decide +kernel) ?_
  refine l_ldA C0 (show decode code 263 = .ok (.aload_n 2, 1) from by decide +kernel) rfl ?_
  refine l_scr (k := 1) C0 hL (by omega) rfl (show decode code 264 = .ok (.aload_n 0, 1) from by decide +kernel) (show decode code 265 = .ok (.iload_n 3, 1) from by decide +kernel) (show decode code 266 = .ok (.iconst 1, 1) from by decide +kernel) (show decode code 267 = .ok (.iadd, 1) from by decide +kernel) (show decode code 268 = .ok (.iaload, 1) from by decide +kernel) ?_
  refine l_cm (r := [_]) C0 eg R2.1.1 e2 (by decide +kernel) rfl (show 1 = argB 156 from by decide +kernel) (gd_mem (List.mem_of_getElem? (i := 1050) (by decide +kernel)) rfl) (Nat.le_of_ble_eq_true rfl) (by omega) (show decode code 269 = .ok (.invokevirtual 35, 3) from by decide +kernel) ?_
  exact l_eq C0 (show decode code 272 = .ok (.if_icmp .eq 654, 3) from by decide +kernel) (by decide) (kk _ _ R2)
theorem lc_5 (C0 : lw_At p s m meth c b Lx xs) (hL : Lx ≤ 320) {i : Nat} (hi : i + 4 < Lx) {h : mH} {σ : Sg} (R : RR h σ) (kk : ∀ h2 σ2, RR h2 σ2 → WL p l e s m below meth c dC dI b Q (926, LL i, [], h2)) : WL p l e s m below meth c dC dI b Q (277, LL i, [], h) := by
  obtain ⟨r, σ2, g, g2, e1, e2, R2⟩ := p_tak R (xs (i + 1)).toInt
  have eg := pst_g R.1.1 R2.1.1 e1 e2
  refine l_ldA C0 (show decode code 277 = .ok (.aload_n 1, 1) from by decide +kernel) rfl ?_
  refine l_scr (k := 1) C0 hL (by omega) rfl (show decode code 278 = .ok (.aload_n 0, 1) from by decide +kernel) (show decode code 279 = .ok (.iload_n 3, 1) from by decide +kernel) (show decode code 280 = .ok (.iconst 1, 1) from by decide +kernel) (show decode code 281 = .ok (.iadd, 1) from by decide +kernel) (show decode code 282 = .ok (.iaload, 1) from by decide +kernel) ?_
  refine l_cw (r := []) C0 R.1.1 eg e1 (by decide +kernel) rfl (show 1 = argB 66 from by decide +kernel) (gd_mem (List.mem_of_getElem? (i := 554) (by decide +kernel)) rfl) (Nat.le_of_ble_eq_true rfl) (by omega) (show decode code 283 = .ok (.invokevirtual 36, 3) from by decide +kernel) ?_
  refine l_ldA C0 (show decode code 286 = .ok (.aload_n 2, 1) from by decide +kernel) rfl ?_
  refine l_scr (k := 1) C0 hL (by omega) rfl (show decode code 287 = .ok (.aload_n 0, 1) from by decide +kernel) (show decode code 288 = .ok (.iload_n 3, 1) from by decide +kernel) (show decode code 289 = .ok (.iconst 1, 1) from by decide +kernel) (show decode code 290 = .ok (.iadd, 1) from by decide +kernel) (show decode code 291 = .ok (.iaload, 1) from by decide +kernel) ?_
  refine l_cm (r := [_]) C0 eg R2.1.1 e2 (by decide +kernel) rfl (show 1 = argB 157 from by decide +kernel) (gd_mem (List.mem_of_getElem? (i := 1058) (by decide +kernel)) rfl) (Nat.le_of_ble_eq_true rfl) (by omega) (show decode code 292 = .ok (.invokevirtual 39, 3) from by decide +kernel) ?_
  exact l_eq C0 (show decode code 295 = .ok (.if_icmp .eq 631, 3) from by decide +kernel) (by decide) (kk _ _ R2)
theorem lc_6 (C0 : lw_At p s m meth c b Lx xs) (hL : Lx ≤ 320) {i : Nat} (hi : i + 4 < Lx) {h : mH} {σ : Sg} (R : RR h σ) (kk : ∀ h2 σ2, RR h2 σ2 → WL p l e s m below meth c dC dI b Q (926, LL i, [], h2)) : WL p l e s m below meth c dC dI b Q (300, LL i, [], h) := by
  obtain ⟨r, σ2, g, g2, e1, e2, R2⟩ := p_lat R (xs (i + 1)).toInt (xs (i + 2)).toInt
  have eg := pst_g R.1.1 R2.1.1 e1 e2
  refine l_ldA C0 (show decode code 300 = .ok (.aload_n 1, 1) from by decide +kernel) rfl ?_
  refine l_scr (k := 1) C0 hL (by omega) rfl (show decode code 301 = .ok (.aload_n 0, 1) from by decide +kernel) (show decode code 302 = .ok (.iload_n 3, 1) from by decide +kernel) (show decode code 303 = .ok (.iconst 1, 1) from by decide +kernel) (show decode code 304 = .ok (.iadd, 1) from by decide +kernel) (show decode code 305 = .ok (.iaload, 1) from by decide +kernel) ?_
  refine l_scr (k := 2) C0 hL (by omega) rfl (show decode code 306 = .ok (.aload_n 0, 1) from by decide +kernel) (show decode code 307 = .ok (.iload_n 3, 1) from by decide +kernel) (show decode code 308 = .ok (.iconst 2, 1) from by decide +kernel) (show decode code 309 = .ok (.iadd, 1) from by decide +kernel) (show decode code 310 = .ok (.iaload, 1) from by decide +kernel) ?_
  refine l_cw (r := []) C0 R.1.1 eg e1 (by decide +kernel) rfl (show 2 = argB 67 from by decide +kernel) (gd_mem (List.mem_of_getElem? (i := 558) (by decide +kernel)) rfl) (Nat.le_of_ble_eq_true rfl) (by omega) (show decode code 311 = .ok (.invokevirtual 40, 3) from by decide +kernel) ?_
  refine l_ldA C0 (show decode code 314 = .ok (.aload_n 2, 1) from by decide +kernel) rfl ?_
  refine l_scr (k := 1) C0 hL (by omega) rfl (show decode code 315 = .ok (.aload_n 0, 1) from by decide +kernel) (show decode code 316 = .ok (.iload_n 3, 1) from by decide +kernel) (show decode code 317 = .ok (.iconst 1, 1) from by decide +kernel) (show decode code 318 = .ok (.iadd, 1) from by decide +kernel) (show decode code 319 = .ok (.iaload, 1) from by decide +kernel) ?_
  refine l_scr (k := 2) C0 hL (by omega) rfl (show decode code 320 = .ok (.aload_n 0, 1) from by decide +kernel) (show decode code 321 = .ok (.iload_n 3, 1) from by decide +kernel) (show decode code 322 = .ok (.iconst 2, 1) from by decide +kernel) (show decode code 323 = .ok (.iadd, 1) from by decide +kernel) (show decode code 324 = .ok (.iaload, 1) from by decide +kernel) ?_
  refine l_cm (r := [_]) C0 eg R2.1.1 e2 (by decide +kernel) rfl (show 2 = argB 160 from by decide +kernel) (gd_mem (List.mem_of_getElem? (i := 1062) (by decide +kernel)) rfl) (Nat.le_of_ble_eq_true rfl) (by omega) (show decode code 325 = .ok (.invokevirtual 43, 3) from by decide +kernel) ?_
  exact l_eq C0 (show decode code 328 = .ok (.if_icmp .eq 598, 3) from by decide +kernel) (by decide) (kk _ _ R2)
theorem lc_7 (C0 : lw_At p s m meth c b Lx xs) (hL : Lx ≤ 320) {i : Nat} (hi : i + 4 < Lx) {h : mH} {σ : Sg} (R : RR h σ) (kk : ∀ h2 σ2, RR h2 σ2 → WL p l e s m below meth c dC dI b Q (926, LL i, [], h2)) : WL p l e s m below meth c dC dI b Q (333, LL i, [], h) := by
  obtain ⟨r, σ2, g, g2, e1, e2, R2⟩ := p_nin R
  have eg := pst_g R.1.1 R2.1.1 e1 e2
  refine l_ldA C0 (show decode code 333 = .ok (.aload_n 1, 1) from by decide +kernel) rfl ?_
  refine l_cw (r := []) C0 R.1.1 eg e1 (by decide +kernel) rfl (show 0 = argB 68 from by decide +kernel) (gd_mem (List.mem_of_getElem? (i := 581) (by decide +kernel)) rfl) (Nat.le_of_ble_eq_true rfl) (by omega) (show decode code 334 = .ok (.invokevirtual 44, 3) from by decide +kernel) ?_
  refine l_ldA C0 (show decode code 337 = .ok (.aload_n 2, 1) from by decide +kernel) rfl ?_
  refine l_cm (r := [_]) C0 eg R2.1.1 e2 (by decide +kernel) rfl (show 0 = argB 161 from by decide +kernel) (gd_mem (List.mem_of_getElem? (i := 1070) (by decide +kernel)) rfl) (Nat.le_of_ble_eq_true rfl) (by omega) (show decode code 338 = .ok (.invokevirtual 47, 3) from by decide +kernel) ?_
  exact l_eq C0 (show decode code 341 = .ok (.if_icmp .eq 585, 3) from by decide +kernel) (by decide) (kk _ _ R2)
theorem lc_8 (C0 : lw_At p s m meth c b Lx xs) (hL : Lx ≤ 320) {i : Nat} (hi : i + 4 < Lx) {h : mH} {σ : Sg} (R : RR h σ) (kk : ∀ h2 σ2, RR h2 σ2 → WL p l e s m below meth c dC dI b Q (926, LL i, [], h2)) : WL p l e s m below meth c dC dI b Q (346, LL i, [], h) := by
  obtain ⟨r, σ2, g, g2, e1, e2, R2⟩ := p_pin R (xs (i + 1)).toInt
  have eg := pst_g R.1.1 R2.1.1 e1 e2
  refine l_ldA C0 (show decode code 346 = .ok (.aload_n 1, 1) from by decide +kernel) rfl ?_
  refine l_scr (k := 1) C0 hL (by omega) rfl (show decode code 347 = .ok (.aload_n 0, 1) from by decide +kernel) (show decode code 348 = .ok (.iload_n 3, 1) from by decide +kernel) (show decode code 349 = .ok (.iconst 1, 1) from by decide +kernel) (show decode code 350 = .ok (.iadd, 1) from by decide +kernel) (show decode code 351 = .ok (.iaload, 1) from by decide +kernel) ?_
  refine l_cw (r := []) C0 R.1.1 eg e1 (by decide +kernel) rfl (show 1 = argB 69 from by decide +kernel) (gd_mem (List.mem_of_getElem? (i := 598) (by decide +kernel)) rfl) (Nat.le_of_ble_eq_true rfl) (by omega) (show decode code 352 = .ok (.invokevirtual 48, 3) from by decide +kernel) ?_
  refine l_ldA C0 (show decode code 355 = .ok (.aload_n 2, 1) from by decide +kernel) rfl ?_
  refine l_scr (k := 1) C0 hL (by omega) rfl (show decode code 356 = .ok (.aload_n 0, 1) from by decide +kernel) (show decode code 357 = .ok (.iload_n 3, 1) from by decide +kernel) (show decode code 358 = .ok (.iconst 1, 1) from by decide +kernel) (show decode code 359 = .ok (.iadd, 1) from by decide +kernel) (show decode code 360 = .ok (.iaload, 1) from by decide +kernel) ?_
  refine l_cm (r := [_]) C0 eg R2.1.1 e2 (by decide +kernel) rfl (show 1 = argB 162 from by decide +kernel) (gd_mem (List.mem_of_getElem? (i := 1078) (by decide +kernel)) rfl) (Nat.le_of_ble_eq_true rfl) (by omega) (show decode code 361 = .ok (.invokevirtual 51, 3) from by decide +kernel) ?_
  exact l_eq C0 (show decode code 364 = .ok (.if_icmp .eq 562, 3) from by decide +kernel) (by decide) (kk _ _ R2)
theorem lc_9 (C0 : lw_At p s m meth c b Lx xs) (hL : Lx ≤ 320) {i : Nat} (hi : i + 4 < Lx) {h : mH} {σ : Sg} (R : RR h σ) (kk : ∀ h2 σ2, RR h2 σ2 → WL p l e s m below meth c dC dI b Q (926, LL i, [], h2)) : WL p l e s m below meth c dC dI b Q (369, LL i, [], h) := by
  obtain ⟨r, σ2, g, g2, e1, e2, R2⟩ := p_sto R
  have eg := pst_g R.1.1 R2.1.1 e1 e2
  refine l_ldA C0 (show decode code 369 = .ok (.aload_n 1, 1) from by decide +kernel) rfl ?_
  refine l_cw (r := []) C0 R.1.1 eg e1 (by decide +kernel) rfl (show 0 = argB 70 from by decide +kernel) (gd_mem (List.mem_of_getElem? (i := 610) (by decide +kernel)) rfl) (Nat.le_of_ble_eq_true rfl) (by omega) (show decode code 370 = .ok (.invokevirtual 52, 3) from by decide +kernel) ?_
  refine l_ldA C0 (show decode code 373 = .ok (.aload_n 2, 1) from by decide +kernel) rfl ?_
  refine l_cm (r := [_]) C0 eg R2.1.1 e2 (by decide +kernel) rfl (show 0 = argB 163 from by decide +kernel) (gd_mem (List.mem_of_getElem? (i := 1082) (by decide +kernel)) rfl) (Nat.le_of_ble_eq_true rfl) (by omega) (show decode code 374 = .ok (.invokevirtual 55, 3) from by decide +kernel) ?_
  exact l_eq C0 (show decode code 377 = .ok (.if_icmp .eq 549, 3) from by decide +kernel) (by decide) (kk _ _ R2)
theorem lc_10 (C0 : lw_At p s m meth c b Lx xs) (hL : Lx ≤ 320) {i : Nat} (hi : i + 4 < Lx) {h : mH} {σ : Sg} (R : RR h σ) (kk : ∀ h2 σ2, RR h2 σ2 → WL p l e s m below meth c dC dI b Q (926, LL i, [], h2)) : WL p l e s m below meth c dC dI b Q (382, LL i, [], h) := by
  obtain ⟨r, σ2, g, g2, e1, e2, R2⟩ := p_wid R (xs (i + 1)).toInt
  have eg := pst_g R.1.1 R2.1.1 e1 e2
  refine l_ldA C0 (show decode code 382 = .ok (.aload_n 1, 1) from by decide +kernel) rfl ?_
  refine l_scr (k := 1) C0 hL (by omega) rfl (show decode code 383 = .ok (.aload_n 0, 1) from by decide +kernel) (show decode code 384 = .ok (.iload_n 3, 1) from by decide +kernel) (show decode code 385 = .ok (.iconst 1, 1) from by decide +kernel) (show decode code 386 = .ok (.iadd, 1) from by decide +kernel) (show decode code 387 = .ok (.iaload, 1) from by decide +kernel) ?_
  refine l_cw (r := []) C0 R.1.1 eg e1 (by decide +kernel) rfl (show 1 = argB 71 from by decide +kernel) (gd_mem (List.mem_of_getElem? (i := 618) (by decide +kernel)) rfl) (Nat.le_of_ble_eq_true rfl) (by omega) (show decode code 388 = .ok (.invokevirtual 56, 3) from by decide +kernel) ?_
  refine l_ldA C0 (show decode code 391 = .ok (.aload_n 2, 1) from by decide +kernel) rfl ?_
  refine l_scr (k := 1) C0 hL (by omega) rfl (show decode code 392 = .ok (.aload_n 0, 1) from by decide +kernel) (show decode code 393 = .ok (.iload_n 3, 1) from by decide +kernel) (show decode code 394 = .ok (.iconst 1, 1) from by decide +kernel) (show decode code 395 = .ok (.iadd, 1) from by decide +kernel) (show decode code 396 = .ok (.iaload, 1) from by decide +kernel) ?_
  refine l_cm (r := [_]) C0 eg R2.1.1 e2 (by decide +kernel) rfl (show 1 = argB 164 from by decide +kernel) (gd_mem (List.mem_of_getElem? (i := 1086) (by decide +kernel)) rfl) (Nat.le_of_ble_eq_true rfl) (by omega) (show decode code 397 = .ok (.invokevirtual 59, 3) from by decide +kernel) ?_
  exact l_eq C0 (show decode code 400 = .ok (.if_icmp .eq 526, 3) from by decide +kernel) (by decide) (kk _ _ R2)
theorem lc_11 (C0 : lw_At p s m meth c b Lx xs) (hL : Lx ≤ 320) {i : Nat} (hi : i + 4 < Lx) {h : mH} {σ : Sg} (R : RR h σ) (kk : ∀ h2 σ2, RR h2 σ2 → WL p l e s m below meth c dC dI b Q (926, LL i, [], h2)) : WL p l e s m below meth c dC dI b Q (405, LL i, [], h) := by
  obtain ⟨r, σ2, g, g2, e1, e2, R2⟩ := p_flo R (xs (i + 1)).toInt (xs (i + 2)).toInt
  have eg := pst_g R.1.1 R2.1.1 e1 e2
  refine l_ldA C0 (show decode code 405 = .ok (.aload_n 1, 1) from by decide +kernel) rfl ?_
  refine l_scr (k := 1) C0 hL (by omega) rfl (show decode code 406 = .ok (.aload_n 0, 1) from by decide +kernel) (show decode code 407 = .ok (.iload_n 3, 1) from by decide +kernel) (show decode code 408 = .ok (.iconst 1, 1) from by decide +kernel) (show decode code 409 = .ok (.iadd, 1) from by decide +kernel) (show decode code 410 = .ok (.iaload, 1) from by decide +kernel) ?_
  refine l_scr (k := 2) C0 hL (by omega) rfl (show decode code 411 = .ok (.aload_n 0, 1) from by decide +kernel) (show decode code 412 = .ok (.iload_n 3, 1) from by decide +kernel) (show decode code 413 = .ok (.iconst 2, 1) from by decide +kernel) (show decode code 414 = .ok (.iadd, 1) from by decide +kernel) (show decode code 415 = .ok (.iaload, 1) from by decide +kernel) ?_
  refine l_cw (r := []) C0 R.1.1 eg e1 (by decide +kernel) rfl (show 2 = argB 72 from by decide +kernel) (gd_mem (List.mem_of_getElem? (i := 622) (by decide +kernel)) rfl) (Nat.le_of_ble_eq_true rfl) (by omega) (show decode code 416 = .ok (.invokevirtual 60, 3) from by decide +kernel) ?_
  refine l_ldA C0 (show decode code 419 = .ok (.aload_n 2, 1) from by decide +kernel) rfl ?_
  refine l_scr (k := 1) C0 hL (by omega) rfl (show decode code 420 = .ok (.aload_n 0, 1) from by decide +kernel) (show decode code 421 = .ok (.iload_n 3, 1) from by decide +kernel) (show decode code 422 = .ok (.iconst 1, 1) from by decide +kernel) (show decode code 423 = .ok (.iadd, 1) from by decide +kernel) (show decode code 424 = .ok (.iaload, 1) from by decide +kernel) ?_
  refine l_scr (k := 2) C0 hL (by omega) rfl (show decode code 425 = .ok (.aload_n 0, 1) from by decide +kernel) (show decode code 426 = .ok (.iload_n 3, 1) from by decide +kernel) (show decode code 427 = .ok (.iconst 2, 1) from by decide +kernel) (show decode code 428 = .ok (.iadd, 1) from by decide +kernel) (show decode code 429 = .ok (.iaload, 1) from by decide +kernel) ?_
  refine l_cm (r := [_]) C0 eg R2.1.1 e2 (by decide +kernel) rfl (show 2 = argB 165 from by decide +kernel) (gd_mem (List.mem_of_getElem? (i := 1090) (by decide +kernel)) rfl) (Nat.le_of_ble_eq_true rfl) (by omega) (show decode code 430 = .ok (.invokevirtual 63, 3) from by decide +kernel) ?_
  exact l_eq C0 (show decode code 433 = .ok (.if_icmp .eq 493, 3) from by decide +kernel) (by decide) (kk _ _ R2)
theorem lc_12 (C0 : lw_At p s m meth c b Lx xs) (hL : Lx ≤ 320) {i : Nat} (hi : i + 4 < Lx) {h : mH} {σ : Sg} (R : RR h σ) (kk : ∀ h2 σ2, RR h2 σ2 → WL p l e s m below meth c dC dI b Q (926, LL i, [], h2)) : WL p l e s m below meth c dC dI b Q (438, LL i, [], h) := by
  obtain ⟨r, σ2, g, g2, e1, e2, R2⟩ := p_los R (xs (i + 1)).toInt (xs (i + 2)).toInt
  have eg := pst_g R.1.1 R2.1.1 e1 e2
  refine l_ldA C0 (show decode code 438 = .ok (.aload_n 1, 1) from by decide +kernel) rfl ?_
  refine l_scr (k := 1) C0 hL (by omega) rfl (show decode code 439 = .ok (.aload_n 0, 1) from by decide +kernel) (show decode code 440 = .ok (.iload_n 3, 1) from by decide +kernel) (show decode code 441 = .ok (.iconst 1, 1) from by decide +kernel) (show decode code 442 = .ok (.iadd, 1) from by decide +kernel) (show decode code 443 = .ok (.iaload, 1) from by decide +kernel) ?_
  refine l_scr (k := 2) C0 hL (by omega) rfl (show decode code 444 = .ok (.aload_n 0, 1) from by decide +kernel) (show decode code 445 = .ok (.iload_n 3, 1) from by decide +kernel) (show decode code 446 = .ok (.iconst 2, 1) from by decide +kernel) (show decode code 447 = .ok (.iadd, 1) from by decide +kernel) (show decode code 448 = .ok (.iaload, 1) from by decide +kernel) ?_
  refine l_cw (r := []) C0 R.1.1 eg e1 (by decide +kernel) rfl (show 2 = argB 73 from by decide +kernel) (gd_mem (List.mem_of_getElem? (i := 626) (by decide +kernel)) rfl) (Nat.le_of_ble_eq_true rfl) (by omega) (show decode code 449 = .ok (.invokevirtual 64, 3) from by decide +kernel) ?_
  refine l_ldA C0 (show decode code 452 = .ok (.aload_n 2, 1) from by decide +kernel) rfl ?_
  refine l_scr (k := 1) C0 hL (by omega) rfl (show decode code 453 = .ok (.aload_n 0, 1) from by decide +kernel) (show decode code 454 = .ok (.iload_n 3, 1) from by decide +kernel) (show decode code 455 = .ok (.iconst 1, 1) from by decide +kernel) (show decode code 456 = .ok (.iadd, 1) from by decide +kernel) (show decode code 457 = .ok (.iaload, 1) from by decide +kernel) ?_
  refine l_scr (k := 2) C0 hL (by omega) rfl (show decode code 458 = .ok (.aload_n 0, 1) from by decide +kernel) (show decode code 459 = .ok (.iload_n 3, 1) from by decide +kernel) (show decode code 460 = .ok (.iconst 2, 1) from by decide +kernel) (show decode code 461 = .ok (.iadd, 1) from by decide +kernel) (show decode code 462 = .ok (.iaload, 1) from by decide +kernel) ?_
  refine l_cm (r := [_]) C0 eg R2.1.1 e2 (by decide +kernel) rfl (show 2 = argB 166 from by decide +kernel) (gd_mem (List.mem_of_getElem? (i := 1094) (by decide +kernel)) rfl) (Nat.le_of_ble_eq_true rfl) (by omega) (show decode code 463 = .ok (.invokevirtual 67, 3) from by decide +kernel) ?_
  exact l_eq C0 (show decode code 466 = .ok (.if_icmp .eq 460, 3) from by decide +kernel) (by decide) (kk _ _ R2)
theorem lc_13 (C0 : lw_At p s m meth c b Lx xs) (hL : Lx ≤ 320) {i : Nat} (hi : i + 4 < Lx) {h : mH} {σ : Sg} (R : RR h σ) (kk : ∀ h2 σ2, RR h2 σ2 → WL p l e s m below meth c dC dI b Q (926, LL i, [], h2)) : WL p l e s m below meth c dC dI b Q (471, LL i, [], h) := by
  obtain ⟨r, σ2, g, g2, e1, e2, R2⟩ := p_und R
  have eg := pst_g R.1.1 R2.1.1 e1 e2
  refine l_ldA C0 (show decode code 471 = .ok (.aload_n 1, 1) from by decide +kernel) rfl ?_
  refine l_cw (r := []) C0 R.1.1 eg e1 (by decide +kernel) rfl (show 0 = argB 74 from by decide +kernel) (gd_mem (List.mem_of_getElem? (i := 630) (by decide +kernel)) rfl) (Nat.le_of_ble_eq_true rfl) (by omega) (show decode code 472 = .ok (.invokevirtual 68, 3) from by decide +kernel) ?_
  refine l_ldA C0 (show decode code 475 = .ok (.aload_n 2, 1) from by decide +kernel) rfl ?_
  refine l_cm (r := [_]) C0 eg R2.1.1 e2 (by decide +kernel) rfl (show 0 = argB 167 from by decide +kernel) (gd_mem (List.mem_of_getElem? (i := 1098) (by decide +kernel)) rfl) (Nat.le_of_ble_eq_true rfl) (by omega) (show decode code 476 = .ok (.invokevirtual 71, 3) from by decide +kernel) ?_
  exact l_eq C0 (show decode code 479 = .ok (.if_icmp .eq 447, 3) from by decide +kernel) (by decide) (kk _ _ R2)
theorem lc_14 (C0 : lw_At p s m meth c b Lx xs) (hL : Lx ≤ 320) {i : Nat} (hi : i + 4 < Lx) {h : mH} {σ : Sg} (R : RR h σ) (kk : ∀ h2 σ2, RR h2 σ2 → WL p l e s m below meth c dC dI b Q (926, LL i, [], h2)) : WL p l e s m below meth c dC dI b Q (484, LL i, [], h) := by
  obtain ⟨r, σ2, g, g2, e1, e2, R2⟩ := p_now R (xs (i + 1)).toInt
  have eg := pst_g R.1.1 R2.1.1 e1 e2
  refine l_ldA C0 (show decode code 484 = .ok (.aload_n 1, 1) from by decide +kernel) rfl ?_
  refine l_scr (k := 1) C0 hL (by omega) rfl (show decode code 485 = .ok (.aload_n 0, 1) from by decide +kernel) (show decode code 486 = .ok (.iload_n 3, 1) from by decide +kernel) (show decode code 487 = .ok (.iconst 1, 1) from by decide +kernel) (show decode code 488 = .ok (.iadd, 1) from by decide +kernel) (show decode code 489 = .ok (.iaload, 1) from by decide +kernel) ?_
  refine l_cw (r := []) C0 R.1.1 eg e1 (by decide +kernel) rfl (show 1 = argB 75 from by decide +kernel) (gd_mem (List.mem_of_getElem? (i := 638) (by decide +kernel)) rfl) (Nat.le_of_ble_eq_true rfl) (by omega) (show decode code 490 = .ok (.invokevirtual 72, 3) from by decide +kernel) ?_
  refine l_ldA C0 (show decode code 493 = .ok (.aload_n 2, 1) from by decide +kernel) rfl ?_
  refine l_scr (k := 1) C0 hL (by omega) rfl (show decode code 494 = .ok (.aload_n 0, 1) from by decide +kernel) (show decode code 495 = .ok (.iload_n 3, 1) from by decide +kernel) (show decode code 496 = .ok (.iconst 1, 1) from by decide +kernel) (show decode code 497 = .ok (.iadd, 1) from by decide +kernel) (show decode code 498 = .ok (.iaload, 1) from by decide +kernel) ?_
  refine l_cm (r := [_]) C0 eg R2.1.1 e2 (by decide +kernel) rfl (show 1 = argB 168 from by decide +kernel) (gd_mem (List.mem_of_getElem? (i := 1102) (by decide +kernel)) rfl) (Nat.le_of_ble_eq_true rfl) (by omega) (show decode code 499 = .ok (.invokevirtual 75, 3) from by decide +kernel) ?_
  exact l_eq C0 (show decode code 502 = .ok (.if_icmp .eq 424, 3) from by decide +kernel) (by decide) (kk _ _ R2)
theorem lc_15 (C0 : lw_At p s m meth c b Lx xs) (hL : Lx ≤ 320) {i : Nat} (hi : i + 4 < Lx) {h : mH} {σ : Sg} (R : RR h σ) (kk : ∀ h2 σ2, RR h2 σ2 → WL p l e s m below meth c dC dI b Q (926, LL i, [], h2)) : WL p l e s m below meth c dC dI b Q (507, LL i, [], h) := by
  obtain ⟨r, σ2, g, g2, e1, e2, R2⟩ := p_ord R (xs (i + 1)).toInt
  have eg := pst_g R.1.1 R2.1.1 e1 e2
  refine l_ldA C0 (show decode code 507 = .ok (.aload_n 1, 1) from by decide +kernel) rfl ?_
  refine l_scr (k := 1) C0 hL (by omega) rfl (show decode code 508 = .ok (.aload_n 0, 1) from by decide +kernel) (show decode code 509 = .ok (.iload_n 3, 1) from by decide +kernel) (show decode code 510 = .ok (.iconst 1, 1) from by decide +kernel) (show decode code 511 = .ok (.iadd, 1) from by decide +kernel) (show decode code 512 = .ok (.iaload, 1) from by decide +kernel) ?_
  refine l_cw (r := []) C0 R.1.1 eg e1 (by decide +kernel) rfl (show 1 = argB 76 from by decide +kernel) (gd_mem (List.mem_of_getElem? (i := 677) (by decide +kernel)) rfl) (Nat.le_of_ble_eq_true rfl) (by omega) (show decode code 513 = .ok (.invokevirtual 76, 3) from by decide +kernel) ?_
  refine l_ldA C0 (show decode code 516 = .ok (.aload_n 2, 1) from by decide +kernel) rfl ?_
  refine l_scr (k := 1) C0 hL (by omega) rfl (show decode code 517 = .ok (.aload_n 0, 1) from by decide +kernel) (show decode code 518 = .ok (.iload_n 3, 1) from by decide +kernel) (show decode code 519 = .ok (.iconst 1, 1) from by decide +kernel) (show decode code 520 = .ok (.iadd, 1) from by decide +kernel) (show decode code 521 = .ok (.iaload, 1) from by decide +kernel) ?_
  refine l_cm (r := [_]) C0 eg R2.1.1 e2 (by decide +kernel) rfl (show 1 = argB 169 from by decide +kernel) (gd_mem (List.mem_of_getElem? (i := 1134) (by decide +kernel)) rfl) (Nat.le_of_ble_eq_true rfl) (by omega) (show decode code 522 = .ok (.invokevirtual 79, 3) from by decide +kernel) ?_
  exact l_eq C0 (show decode code 525 = .ok (.if_icmp .eq 401, 3) from by decide +kernel) (by decide) (kk _ _ R2)
theorem lc_16 (C0 : lw_At p s m meth c b Lx xs) (hL : Lx ≤ 320) {i : Nat} (hi : i + 4 < Lx) {h : mH} {σ : Sg} (R : RR h σ) (kk : ∀ h2 σ2, RR h2 σ2 → WL p l e s m below meth c dC dI b Q (926, LL i, [], h2)) : WL p l e s m below meth c dC dI b Q (530, LL i, [], h) := by
  obtain ⟨r, σ2, g, g2, e1, e2, R2⟩ := p_btw R (xs (i + 1)).toInt (xs (i + 2)).toInt
  have eg := pst_g R.1.1 R2.1.1 e1 e2
  refine l_ldA C0 (show decode code 530 = .ok (.aload_n 1, 1) from by decide +kernel) rfl ?_
  refine l_scr (k := 1) C0 hL (by omega) rfl (show decode code 531 = .ok (.aload_n 0, 1) from by decide +kernel) (show decode code 532 = .ok (.iload_n 3, 1) from by decide +kernel) (show decode code 533 = .ok (.iconst 1, 1) from by decide +kernel) (show decode code 534 = .ok (.iadd, 1) from by decide +kernel) (show decode code 535 = .ok (.iaload, 1) from by decide +kernel) ?_
  refine l_scr (k := 2) C0 hL (by omega) rfl (show decode code 536 = .ok (.aload_n 0, 1) from by decide +kernel) (show decode code 537 = .ok (.iload_n 3, 1) from by decide +kernel) (show decode code 538 = .ok (.iconst 2, 1) from by decide +kernel) (show decode code 539 = .ok (.iadd, 1) from by decide +kernel) (show decode code 540 = .ok (.iaload, 1) from by decide +kernel) ?_
  refine l_cw (r := []) C0 R.1.1 eg e1 (by decide +kernel) rfl (show 2 = argB 77 from by decide +kernel) (gd_mem (List.mem_of_getElem? (i := 681) (by decide +kernel)) rfl) (Nat.le_of_ble_eq_true rfl) (by omega) (show decode code 541 = .ok (.invokevirtual 80, 3) from by decide +kernel) ?_
  refine l_ldA C0 (show decode code 544 = .ok (.aload_n 2, 1) from by decide +kernel) rfl ?_
  refine l_scr (k := 1) C0 hL (by omega) rfl (show decode code 545 = .ok (.aload_n 0, 1) from by decide +kernel) (show decode code 546 = .ok (.iload_n 3, 1) from by decide +kernel) (show decode code 547 = .ok (.iconst 1, 1) from by decide +kernel) (show decode code 548 = .ok (.iadd, 1) from by decide +kernel) (show decode code 549 = .ok (.iaload, 1) from by decide +kernel) ?_
  refine l_scr (k := 2) C0 hL (by omega) rfl (show decode code 550 = .ok (.aload_n 0, 1) from by decide +kernel) (show decode code 551 = .ok (.iload_n 3, 1) from by decide +kernel) (show decode code 552 = .ok (.iconst 2, 1) from by decide +kernel) (show decode code 553 = .ok (.iadd, 1) from by decide +kernel) (show decode code 554 = .ok (.iaload, 1) from by decide +kernel) ?_
  refine l_cm (r := [_]) C0 eg R2.1.1 e2 (by decide +kernel) rfl (show 2 = argB 171 from by decide +kernel) (gd_mem (List.mem_of_getElem? (i := 1138) (by decide +kernel)) rfl) (Nat.le_of_ble_eq_true rfl) (by omega) (show decode code 555 = .ok (.invokevirtual 83, 3) from by decide +kernel) ?_
  exact l_eq C0 (show decode code 558 = .ok (.if_icmp .eq 368, 3) from by decide +kernel) (by decide) (kk _ _ R2)
theorem lc_17 (C0 : lw_At p s m meth c b Lx xs) (hL : Lx ≤ 320) {i : Nat} (hi : i + 4 < Lx) {h : mH} {σ : Sg} (R : RR h σ) (kk : ∀ h2 σ2, RR h2 σ2 → WL p l e s m below meth c dC dI b Q (926, LL i, [], h2)) : WL p l e s m below meth c dC dI b Q (563, LL i, [], h) := by
  obtain ⟨r, σ2, g, g2, e1, e2, R2⟩ := p_wnd R (xs (i + 1)).toInt (xs (i + 2)).toInt
  have eg := pst_g R.1.1 R2.1.1 e1 e2
  refine l_ldA C0 (show decode code 563 = .ok (.aload_n 1, 1) from by decide +kernel) rfl ?_
  refine l_scr (k := 1) C0 hL (by omega) rfl (show decode code 564 = .ok (.aload_n 0, 1) from by decide +kernel) (show decode code 565 = .ok (.iload_n 3, 1) from by decide +kernel) (show decode code 566 = .ok (.iconst 1, 1) from by decide +kernel) (show decode code 567 = .ok (.iadd, 1) from by decide +kernel) (show decode code 568 = .ok (.iaload, 1) from by decide +kernel) ?_
  refine l_scr (k := 2) C0 hL (by omega) rfl (show decode code 569 = .ok (.aload_n 0, 1) from by decide +kernel) (show decode code 570 = .ok (.iload_n 3, 1) from by decide +kernel) (show decode code 571 = .ok (.iconst 2, 1) from by decide +kernel) (show decode code 572 = .ok (.iadd, 1) from by decide +kernel) (show decode code 573 = .ok (.iaload, 1) from by decide +kernel) ?_
  refine l_cw (r := []) C0 R.1.1 eg e1 (by decide +kernel) rfl (show 2 = argB 78 from by decide +kernel) (gd_mem (List.mem_of_getElem? (i := 689) (by decide +kernel)) rfl) (Nat.le_of_ble_eq_true rfl) (by omega) (show decode code 574 = .ok (.invokevirtual 84, 3) from by decide +kernel) ?_
  refine l_ldA C0 (show decode code 577 = .ok (.aload_n 2, 1) from by decide +kernel) rfl ?_
  refine l_scr (k := 1) C0 hL (by omega) rfl (show decode code 578 = .ok (.aload_n 0, 1) from by decide +kernel) (show decode code 579 = .ok (.iload_n 3, 1) from by decide +kernel) (show decode code 580 = .ok (.iconst 1, 1) from by decide +kernel) (show decode code 581 = .ok (.iadd, 1) from by decide +kernel) (show decode code 582 = .ok (.iaload, 1) from by decide +kernel) ?_
  refine l_scr (k := 2) C0 hL (by omega) rfl (show decode code 583 = .ok (.aload_n 0, 1) from by decide +kernel) (show decode code 584 = .ok (.iload_n 3, 1) from by decide +kernel) (show decode code 585 = .ok (.iconst 2, 1) from by decide +kernel) (show decode code 586 = .ok (.iadd, 1) from by decide +kernel) (show decode code 587 = .ok (.iaload, 1) from by decide +kernel) ?_
  refine l_cm (r := [_]) C0 eg R2.1.1 e2 (by decide +kernel) rfl (show 2 = argB 172 from by decide +kernel) (gd_mem (List.mem_of_getElem? (i := 1146) (by decide +kernel)) rfl) (Nat.le_of_ble_eq_true rfl) (by omega) (show decode code 588 = .ok (.invokevirtual 87, 3) from by decide +kernel) ?_
  exact l_eq C0 (show decode code 591 = .ok (.if_icmp .eq 335, 3) from by decide +kernel) (by decide) (kk _ _ R2)
theorem lc_18 (C0 : lw_At p s m meth c b Lx xs) (hL : Lx ≤ 320) {i : Nat} (hi : i + 4 < Lx) {h : mH} {σ : Sg} (R : RR h σ) (kk : ∀ h2 σ2, RR h2 σ2 → WL p l e s m below meth c dC dI b Q (926, LL i, [], h2)) : WL p l e s m below meth c dC dI b Q (596, LL i, [], h) := by
  obtain ⟨r, σ2, g, g2, e1, e2, R2⟩ := p_bst R (xs (i + 1)).toInt
  have eg := pst_g R.1.1 R2.1.1 e1 e2
  refine l_ldA C0 (show decode code 596 = .ok (.aload_n 1, 1) from by decide +kernel) rfl ?_
  refine l_scr (k := 1) C0 hL (by omega) rfl (show decode code 597 = .ok (.aload_n 0, 1) from by decide +kernel) (show decode code 598 = .ok (.iload_n 3, 1) from by decide +kernel) (show decode code 599 = .ok (.iconst 1, 1) from by decide +kernel) (show decode code 600 = .ok (.iadd, 1) from by decide +kernel) (show decode code 601 = .ok (.iaload, 1) from by decide +kernel) ?_
  refine l_cw (r := []) C0 R.1.1 eg e1 (by decide +kernel) rfl (show 1 = argB 79 from by decide +kernel) (gd_mem (List.mem_of_getElem? (i := 693) (by decide +kernel)) rfl) (Nat.le_of_ble_eq_true rfl) (by omega) (show decode code 602 = .ok (.invokevirtual 88, 3) from by decide +kernel) ?_
  refine l_ldA C0 (show decode code 605 = .ok (.aload_n 2, 1) from by decide +kernel) rfl ?_
  refine l_scr (k := 1) C0 hL (by omega) rfl (show decode code 606 = .ok (.aload_n 0, 1) from by decide +kernel) (show decode code 607 = .ok (.iload_n 3, 1) from by decide +kernel) (show decode code 608 = .ok (.iconst 1, 1) from by decide +kernel) (show decode code 609 = .ok (.iadd, 1) from by decide +kernel) (show decode code 610 = .ok (.iaload, 1) from by decide +kernel) ?_
  refine l_cm (r := [_]) C0 eg R2.1.1 e2 (by decide +kernel) rfl (show 1 = argB 176 from by decide +kernel) (gd_mem (List.mem_of_getElem? (i := 1150) (by decide +kernel)) rfl) (Nat.le_of_ble_eq_true rfl) (by omega) (show decode code 611 = .ok (.invokevirtual 91, 3) from by decide +kernel) ?_
  exact l_eq C0 (show decode code 614 = .ok (.if_icmp .eq 312, 3) from by decide +kernel) (by decide) (kk _ _ R2)
theorem lc_19 (C0 : lw_At p s m meth c b Lx xs) (hL : Lx ≤ 320) {i : Nat} (hi : i + 4 < Lx) {h : mH} {σ : Sg} (R : RR h σ) (kk : ∀ h2 σ2, RR h2 σ2 → WL p l e s m below meth c dC dI b Q (926, LL i, [], h2)) : WL p l e s m below meth c dC dI b Q (619, LL i, [], h) := by
  obtain ⟨r, σ2, g, g2, e1, e2, R2⟩ := p_rop R (xs (i + 1)).toInt
  have eg := pst_g R.1.1 R2.1.1 e1 e2
  refine l_ldA C0 (show decode code 619 = .ok (.aload_n 1, 1) from by decide +kernel) rfl ?_
  refine l_scr (k := 1) C0 hL (by omega) rfl (show decode code 620 = .ok (.aload_n 0, 1) from by decide +kernel) (show decode code 621 = .ok (.iload_n 3, 1) from by decide +kernel) (show decode code 622 = .ok (.iconst 1, 1) from by decide +kernel) (show decode code 623 = .ok (.iadd, 1) from by decide +kernel) (show decode code 624 = .ok (.iaload, 1) from by decide +kernel) ?_
  refine l_cw (r := []) C0 R.1.1 eg e1 (by decide +kernel) rfl (show 1 = argB 80 from by decide +kernel) (gd_mem (List.mem_of_getElem? (i := 729) (by decide +kernel)) rfl) (Nat.le_of_ble_eq_true rfl) (by omega) (show decode code 625 = .ok (.invokevirtual 92, 3) from by decide +kernel) ?_
  refine l_ldA C0 (show decode code 628 = .ok (.aload_n 2, 1) from by decide +kernel) rfl ?_
  refine l_scr (k := 1) C0 hL (by omega) rfl (show decode code 629 = .ok (.aload_n 0, 1) from by decide +kernel) (show decode code 630 = .ok (.iload_n 3, 1) from by decide +kernel) (show decode code 631 = .ok (.iconst 1, 1) from by decide +kernel) (show decode code 632 = .ok (.iadd, 1) from by decide +kernel) (show decode code 633 = .ok (.iaload, 1) from by decide +kernel) ?_
  refine l_cm (r := [_]) C0 eg R2.1.1 e2 (by decide +kernel) rfl (show 1 = argB 179 from by decide +kernel) (gd_mem (List.mem_of_getElem? (i := 1167) (by decide +kernel)) rfl) (Nat.le_of_ble_eq_true rfl) (by omega) (show decode code 634 = .ok (.invokevirtual 95, 3) from by decide +kernel) ?_
  exact l_eq C0 (show decode code 637 = .ok (.if_icmp .eq 289, 3) from by decide +kernel) (by decide) (kk _ _ R2)
theorem lc_20 (C0 : lw_At p s m meth c b Lx xs) (hL : Lx ≤ 320) {i : Nat} (hi : i + 4 < Lx) {h : mH} {σ : Sg} (R : RR h σ) (kk : ∀ h2 σ2, RR h2 σ2 → WL p l e s m below meth c dC dI b Q (926, LL i, [], h2)) : WL p l e s m below meth c dC dI b Q (642, LL i, [], h) := by
  obtain ⟨r, σ2, g, g2, e1, e2, R2⟩ := p_dar R (xs (i + 1)).toInt
  have eg := pst_g R.1.1 R2.1.1 e1 e2
  refine l_ldA C0 (show decode code 642 = .ok (.aload_n 1, 1) from by decide +kernel) rfl ?_
  refine l_scr (k := 1) C0 hL (by omega) rfl (show decode code 643 = .ok (.aload_n 0, 1) from by decide +kernel) (show decode code 644 = .ok (.iload_n 3, 1) from by decide +kernel) (show decode code 645 = .ok (.iconst 1, 1) from by decide +kernel) (show decode code 646 = .ok (.iadd, 1) from by decide +kernel) (show decode code 647 = .ok (.iaload, 1) from by decide +kernel) ?_
  refine l_cw (r := []) C0 R.1.1 eg e1 (by decide +kernel) rfl (show 1 = argB 81 from by decide +kernel) (gd_mem (List.mem_of_getElem? (i := 754) (by decide +kernel)) rfl) (Nat.le_of_ble_eq_true rfl) (by omega) (show decode code 648 = .ok (.invokevirtual 96, 3) from by decide +kernel) ?_
  refine l_ldA C0 (show decode code 651 = .ok (.aload_n 2, 1) from by decide +kernel) rfl ?_
  refine l_scr (k := 1) C0 hL (by omega) rfl (show decode code 652 = .ok (.aload_n 0, 1) from by decide +kernel) (show decode code 653 = .ok (.iload_n 3, 1) from by decide +kernel) (show decode code 654 = .ok (.iconst 1, 1) from by decide +kernel) (show decode code 655 = .ok (.iadd, 1) from by decide +kernel) (show decode code 656 = .ok (.iaload, 1) from by decide +kernel) ?_
  refine l_cm (r := [_]) C0 eg R2.1.1 e2 (by decide +kernel) rfl (show 1 = argB 181 from by decide +kernel) (gd_mem (List.mem_of_getElem? (i := 1179) (by decide +kernel)) rfl) (Nat.le_of_ble_eq_true rfl) (by omega) (show decode code 657 = .ok (.invokevirtual 99, 3) from by decide +kernel) ?_
  exact l_eq C0 (show decode code 660 = .ok (.if_icmp .eq 266, 3) from by decide +kernel) (by decide) (kk _ _ R2)
theorem lc_21 (C0 : lw_At p s m meth c b Lx xs) (hL : Lx ≤ 320) {i : Nat} (hi : i + 4 < Lx) {h : mH} {σ : Sg} (R : RR h σ) (kk : ∀ h2 σ2, RR h2 σ2 → WL p l e s m below meth c dC dI b Q (926, LL i, [], h2)) : WL p l e s m below meth c dC dI b Q (665, LL i, [], h) := by
  obtain ⟨r, σ2, g, g2, e1, e2, R2⟩ := p_soo R (xs (i + 1)).toInt (xs (i + 2)).toInt
  have eg := pst_g R.1.1 R2.1.1 e1 e2
  refine l_ldA C0 (show decode code 665 = .ok (.aload_n 1, 1) from by decide +kernel) rfl ?_
  refine l_scr (k := 1) C0 hL (by omega) rfl (show decode code 666 = .ok (.aload_n 0, 1) from by decide +kernel) (show decode code 667 = .ok (.iload_n 3, 1) from by decide +kernel) (show decode code 668 = .ok (.iconst 1, 1) from by decide +kernel) (show decode code 669 = .ok (.iadd, 1) from by decide +kernel) (show decode code 670 = .ok (.iaload, 1) from by decide +kernel) ?_
  refine l_scr (k := 2) C0 hL (by omega) rfl (show decode code 671 = .ok (.aload_n 0, 1) from by decide +kernel) (show decode code 672 = .ok (.iload_n 3, 1) from by decide +kernel) (show decode code 673 = .ok (.iconst 2, 1) from by decide +kernel) (show decode code 674 = .ok (.iadd, 1) from by decide +kernel) (show decode code 675 = .ok (.iaload, 1) from by decide +kernel) ?_
  refine l_cw (r := []) C0 R.1.1 eg e1 (by decide +kernel) rfl (show 2 = argB 82 from by decide +kernel) (gd_mem (List.mem_of_getElem? (i := 765) (by decide +kernel)) rfl) (Nat.le_of_ble_eq_true rfl) (by omega) (show decode code 676 = .ok (.invokevirtual 100, 3) from by decide +kernel) ?_
  refine l_ldA C0 (show decode code 679 = .ok (.aload_n 2, 1) from by decide +kernel) rfl ?_
  refine l_scr (k := 1) C0 hL (by omega) rfl (show decode code 680 = .ok (.aload_n 0, 1) from by decide +kernel) (show decode code 681 = .ok (.iload_n 3, 1) from by decide +kernel) (show decode code 682 = .ok (.iconst 1, 1) from by decide +kernel) (show decode code 683 = .ok (.iadd, 1) from by decide +kernel) (show decode code 684 = .ok (.iaload, 1) from by decide +kernel) ?_
  refine l_scr (k := 2) C0 hL (by omega) rfl (show decode code 685 = .ok (.aload_n 0, 1) from by decide +kernel) (show decode code 686 = .ok (.iload_n 3, 1) from by decide +kernel) (show decode code 687 = .ok (.iconst 2, 1) from by decide +kernel) (show decode code 688 = .ok (.iadd, 1) from by decide +kernel) (show decode code 689 = .ok (.iaload, 1) from by decide +kernel) ?_
  refine l_cm (r := [_]) C0 eg R2.1.1 e2 (by decide +kernel) rfl (show 2 = argB 182 from by decide +kernel) (gd_mem (List.mem_of_getElem? (i := 1187) (by decide +kernel)) rfl) (Nat.le_of_ble_eq_true rfl) (by omega) (show decode code 690 = .ok (.invokevirtual 103, 3) from by decide +kernel) ?_
  exact l_eq C0 (show decode code 693 = .ok (.if_icmp .eq 233, 3) from by decide +kernel) (by decide) (kk _ _ R2)
theorem lc_22 (C0 : lw_At p s m meth c b Lx xs) (hL : Lx ≤ 320) {i : Nat} (hi : i + 4 < Lx) {h : mH} {σ : Sg} (R : RR h σ) (kk : ∀ h2 σ2, RR h2 σ2 → WL p l e s m below meth c dC dI b Q (926, LL i, [], h2)) : WL p l e s m below meth c dC dI b Q (698, LL i, [], h) := by
  obtain ⟨r, σ2, g, g2, e1, e2, R2⟩ := p_saw R (xs (i + 1)).toInt (xs (i + 2)).toInt
  have eg := pst_g R.1.1 R2.1.1 e1 e2
  refine l_ldA C0 (show decode code 698 = .ok (.aload_n 1, 1) from by decide +kernel) rfl ?_
  refine l_scr (k := 1) C0 hL (by omega) rfl (show decode code 699 = .ok (.aload_n 0, 1) from by decide +kernel) (show decode code 700 = .ok (.iload_n 3, 1) from by decide +kernel) (show decode code 701 = .ok (.iconst 1, 1) from by decide +kernel) (show decode code 702 = .ok (.iadd, 1) from by decide +kernel) (show decode code 703 = .ok (.iaload, 1) from by decide +kernel) ?_
  refine l_scr (k := 2) C0 hL (by omega) rfl (show decode code 704 = .ok (.aload_n 0, 1) from by decide +kernel) (show decode code 705 = .ok (.iload_n 3, 1) from by decide +kernel) (show decode code 706 = .ok (.iconst 2, 1) from by decide +kernel) (show decode code 707 = .ok (.iadd, 1) from by decide +kernel) (show decode code 708 = .ok (.iaload, 1) from by decide +kernel) ?_
  refine l_cw (r := []) C0 R.1.1 eg e1 (by decide +kernel) rfl (show 2 = argB 83 from by decide +kernel) (gd_mem (List.mem_of_getElem? (i := 777) (by decide +kernel)) rfl) (Nat.le_of_ble_eq_true rfl) (by omega) (show decode code 709 = .ok (.invokevirtual 104, 3) from by decide +kernel) ?_
  refine l_ldA C0 (show decode code 712 = .ok (.aload_n 2, 1) from by decide +kernel) rfl ?_
  refine l_scr (k := 1) C0 hL (by omega) rfl (show decode code 713 = .ok (.aload_n 0, 1) from by decide +kernel) (show decode code 714 = .ok (.iload_n 3, 1) from by decide +kernel) (show decode code 715 = .ok (.iconst 1, 1) from by decide +kernel) (show decode code 716 = .ok (.iadd, 1) from by decide +kernel) (show decode code 717 = .ok (.iaload, 1) from by decide +kernel) ?_
  refine l_scr (k := 2) C0 hL (by omega) rfl (show decode code 718 = .ok (.aload_n 0, 1) from by decide +kernel) (show decode code 719 = .ok (.iload_n 3, 1) from by decide +kernel) (show decode code 720 = .ok (.iconst 2, 1) from by decide +kernel) (show decode code 721 = .ok (.iadd, 1) from by decide +kernel) (show decode code 722 = .ok (.iaload, 1) from by decide +kernel) ?_
  refine l_cm (r := [_]) C0 eg R2.1.1 e2 (by decide +kernel) rfl (show 2 = argB 183 from by decide +kernel) (gd_mem (List.mem_of_getElem? (i := 1191) (by decide +kernel)) rfl) (Nat.le_of_ble_eq_true rfl) (by omega) (show decode code 723 = .ok (.invokevirtual 107, 3) from by decide +kernel) ?_
  exact l_eq C0 (show decode code 726 = .ok (.if_icmp .eq 200, 3) from by decide +kernel) (by decide) (kk _ _ R2)
theorem lc_23 (C0 : lw_At p s m meth c b Lx xs) (hL : Lx ≤ 320) {i : Nat} (hi : i + 4 < Lx) {h : mH} {σ : Sg} (R : RR h σ) (kk : ∀ h2 σ2, RR h2 σ2 → WL p l e s m below meth c dC dI b Q (926, LL i, [], h2)) : WL p l e s m below meth c dC dI b Q (731, LL i, [], h) := by
  obtain ⟨r, σ2, g, g2, e1, e2, R2⟩ := p_for R
  have eg := pst_g R.1.1 R2.1.1 e1 e2
  refine l_ldA C0 (show decode code 731 = .ok (.aload_n 1, 1) from by decide +kernel) rfl ?_
  refine l_cw (r := []) C0 R.1.1 eg e1 (by decide +kernel) rfl (show 0 = argB 84 from by decide +kernel) (gd_mem (List.mem_of_getElem? (i := 781) (by decide +kernel)) rfl) (Nat.le_of_ble_eq_true rfl) (by omega) (show decode code 732 = .ok (.invokevirtual 108, 3) from by decide +kernel) ?_
  refine l_ldA C0 (show decode code 735 = .ok (.aload_n 2, 1) from by decide +kernel) rfl ?_
  refine l_cm (r := [_]) C0 eg R2.1.1 e2 (by decide +kernel) rfl (show 0 = argB 184 from by decide +kernel) (gd_mem (List.mem_of_getElem? (i := 1195) (by decide +kernel)) rfl) (Nat.le_of_ble_eq_true rfl) (by omega) (show decode code 736 = .ok (.invokevirtual 111, 3) from by decide +kernel) ?_
  exact l_eq C0 (show decode code 739 = .ok (.if_icmp .eq 187, 3) from by decide +kernel) (by decide) (kk _ _ R2)
theorem lc_24 (C0 : lw_At p s m meth c b Lx xs) (hL : Lx ≤ 320) {i : Nat} (hi : i + 4 < Lx) {h : mH} {σ : Sg} (R : RR h σ) (kk : ∀ h2 σ2, RR h2 σ2 → WL p l e s m below meth c dC dI b Q (926, LL i, [], h2)) : WL p l e s m below meth c dC dI b Q (744, LL i, [], h) := by
  obtain ⟨r, σ2, g, g2, e1, e2, R2⟩ := p_who R
  have eg := pst_g R.1.1 R2.1.1 e1 e2
  refine l_ldA C0 (show decode code 744 = .ok (.aload_n 1, 1) from by decide +kernel) rfl ?_
  refine l_cw (r := []) C0 R.1.1 eg e1 (by decide +kernel) rfl (show 0 = argB 85 from by decide +kernel) (gd_mem (List.mem_of_getElem? (i := 785) (by decide +kernel)) rfl) (Nat.le_of_ble_eq_true rfl) (by omega) (show decode code 745 = .ok (.invokevirtual 112, 3) from by decide +kernel) ?_
  refine l_ldA C0 (show decode code 748 = .ok (.aload_n 2, 1) from by decide +kernel) rfl ?_
  refine l_cm (r := [_]) C0 eg R2.1.1 e2 (by decide +kernel) rfl (show 0 = argB 186 from by decide +kernel) (gd_mem (List.mem_of_getElem? (i := 1199) (by decide +kernel)) rfl) (Nat.le_of_ble_eq_true rfl) (by omega) (show decode code 749 = .ok (.invokevirtual 115, 3) from by decide +kernel) ?_
  exact l_eq C0 (show decode code 752 = .ok (.if_icmp .eq 174, 3) from by decide +kernel) (by decide) (kk _ _ R2)
theorem lc_25 (C0 : lw_At p s m meth c b Lx xs) (hL : Lx ≤ 320) {i : Nat} (hi : i + 4 < Lx) {h : mH} {σ : Sg} (R : RR h σ) (kk : ∀ h2 σ2, RR h2 σ2 → WL p l e s m below meth c dC dI b Q (926, LL i, [], h2)) : WL p l e s m below meth c dC dI b Q (757, LL i, [], h) := by
  obtain ⟨r, σ2, g, g2, e1, e2, R2⟩ := p_odd R (xs (i + 1)).toInt (xs (i + 2)).toInt (xs (i + 3)).toInt (xs (i + 4)).toInt
  have eg := pst_g R.1.1 R2.1.1 e1 e2
  refine l_ldA C0 (show decode code 757 = .ok (.aload_n 1, 1) from by decide +kernel) rfl ?_
  refine l_scr (k := 1) C0 hL (by omega) rfl (show decode code 758 = .ok (.aload_n 0, 1) from by decide +kernel) (show decode code 759 = .ok (.iload_n 3, 1) from by decide +kernel) (show decode code 760 = .ok (.iconst 1, 1) from by decide +kernel) (show decode code 761 = .ok (.iadd, 1) from by decide +kernel) (show decode code 762 = .ok (.iaload, 1) from by decide +kernel) ?_
  refine l_scr (k := 2) C0 hL (by omega) rfl (show decode code 763 = .ok (.aload_n 0, 1) from by decide +kernel) (show decode code 764 = .ok (.iload_n 3, 1) from by decide +kernel) (show decode code 765 = .ok (.iconst 2, 1) from by decide +kernel) (show decode code 766 = .ok (.iadd, 1) from by decide +kernel) (show decode code 767 = .ok (.iaload, 1) from by decide +kernel) ?_
  refine l_scr (k := 3) C0 hL (by omega) rfl (show decode code 768 = .ok (.aload_n 0, 1) from by decide +kernel) (show decode code 769 = .ok (.iload_n 3, 1) from by decide +kernel) (show decode code 770 = .ok (.iconst 3, 1) from by decide +kernel) (show decode code 771 = .ok (.iadd, 1) from by decide +kernel) (show decode code 772 = .ok (.iaload, 1) from by decide +kernel) ?_
  refine l_scr (k := 4) C0 hL (by omega) rfl (show decode code 773 = .ok (.aload_n 0, 1) from by decide +kernel) (show decode code 774 = .ok (.iload_n 3, 1) from by decide +kernel) (show decode code 775 = .ok (.iconst 4, 1) from by decide +kernel) (show decode code 776 = .ok (.iadd, 1) from by decide +kernel) (show decode code 777 = .ok (.iaload, 1) from by decide +kernel) ?_
  refine l_cw (r := []) C0 R.1.1 eg e1 (by decide +kernel) rfl (show 4 = argB 86 from by decide +kernel) (gd_mem (List.mem_of_getElem? (i := 797) (by decide +kernel)) rfl) (Nat.le_of_ble_eq_true rfl) (by omega) (show decode code 778 = .ok (.invokevirtual 116, 3) from by decide +kernel) ?_
  refine l_ldA C0 (show decode code 781 = .ok (.aload_n 2, 1) from by decide +kernel) rfl ?_
  refine l_scr (k := 1) C0 hL (by omega) rfl (show decode code 782 = .ok (.aload_n 0, 1) from by decide +kernel) (show decode code 783 = .ok (.iload_n 3, 1) from by decide +kernel) (show decode code 784 = .ok (.iconst 1, 1) from by decide +kernel) (show decode code 785 = .ok (.iadd, 1) from by decide +kernel) (show decode code 786 = .ok (.iaload, 1) from by decide +kernel) ?_
  refine l_scr (k := 2) C0 hL (by omega) rfl (show decode code 787 = .ok (.aload_n 0, 1) from by decide +kernel) (show decode code 788 = .ok (.iload_n 3, 1) from by decide +kernel) (show decode code 789 = .ok (.iconst 2, 1) from by decide +kernel) (show decode code 790 = .ok (.iadd, 1) from by decide +kernel) (show decode code 791 = .ok (.iaload, 1) from by decide +kernel) ?_
  refine l_scr (k := 3) C0 hL (by omega) rfl (show decode code 792 = .ok (.aload_n 0, 1) from by decide +kernel) (show decode code 793 = .ok (.iload_n 3, 1) from by decide +kernel) (show decode code 794 = .ok (.iconst 3, 1) from by decide +kernel) (show decode code 795 = .ok (.iadd, 1) from by decide +kernel) (show decode code 796 = .ok (.iaload, 1) from by decide +kernel) ?_
  refine l_scr (k := 4) C0 hL (by omega) rfl (show decode code 797 = .ok (.aload_n 0, 1) from by decide +kernel) (show decode code 798 = .ok (.iload_n 3, 1) from by decide +kernel) (show decode code 799 = .ok (.iconst 4, 1) from by decide +kernel) (show decode code 800 = .ok (.iadd, 1) from by decide +kernel) (show decode code 801 = .ok (.iaload, 1) from by decide +kernel) ?_
  refine l_cm (r := [_]) C0 eg R2.1.1 e2 (by decide +kernel) rfl (show 4 = argB 187 from by decide +kernel) (gd_mem (List.mem_of_getElem? (i := 1207) (by decide +kernel)) rfl) (Nat.le_of_ble_eq_true rfl) (by omega) (show decode code 802 = .ok (.invokevirtual 120, 3) from by decide +kernel) ?_
  exact l_eq C0 (show decode code 805 = .ok (.if_icmp .eq 121, 3) from by decide +kernel) (by decide) (kk _ _ R2)
theorem lc_26 (C0 : lw_At p s m meth c b Lx xs) (hL : Lx ≤ 320) {i : Nat} (hi : i + 4 < Lx) {h : mH} {σ : Sg} (R : RR h σ) (kk : ∀ h2 σ2, RR h2 σ2 → WL p l e s m below meth c dC dI b Q (926, LL i, [], h2)) : WL p l e s m below meth c dC dI b Q (810, LL i, [], h) := by
  obtain ⟨r, σ2, g, g2, e1, e2, R2⟩ := p_mar R (xs (i + 1)).toInt (xs (i + 2)).toInt
  have eg := pst_g R.1.1 R2.1.1 e1 e2
  refine l_ldA C0 (show decode code 810 = .ok (.aload_n 1, 1) from by decide +kernel) rfl ?_
  refine l_scr (k := 1) C0 hL (by omega) rfl (show decode code 811 = .ok (.aload_n 0, 1) from by decide +kernel) (show decode code 812 = .ok (.iload_n 3, 1) from by decide +kernel) (show decode code 813 = .ok (.iconst 1, 1) from by decide +kernel) (show decode code 814 = .ok (.iadd, 1) from by decide +kernel) (show decode code 815 = .ok (.iaload, 1) from by decide +kernel) ?_
  refine l_scr (k := 2) C0 hL (by omega) rfl (show decode code 816 = .ok (.aload_n 0, 1) from by decide +kernel) (show decode code 817 = .ok (.iload_n 3, 1) from by decide +kernel) (show decode code 818 = .ok (.iconst 2, 1) from by decide +kernel) (show decode code 819 = .ok (.iadd, 1) from by decide +kernel) (show decode code 820 = .ok (.iaload, 1) from by decide +kernel) ?_
  refine l_cw (r := []) C0 R.1.1 eg e1 (by decide +kernel) rfl (show 2 = argB 87 from by decide +kernel) (gd_mem (List.mem_of_getElem? (i := 815) (by decide +kernel)) rfl) (Nat.le_of_ble_eq_true rfl) (by omega) (show decode code 821 = .ok (.invokevirtual 121, 3) from by decide +kernel) ?_
  refine l_ldA C0 (show decode code 824 = .ok (.aload_n 2, 1) from by decide +kernel) rfl ?_
  refine l_scr (k := 1) C0 hL (by omega) rfl (show decode code 825 = .ok (.aload_n 0, 1) from by decide +kernel) (show decode code 826 = .ok (.iload_n 3, 1) from by decide +kernel) (show decode code 827 = .ok (.iconst 1, 1) from by decide +kernel) (show decode code 828 = .ok (.iadd, 1) from by decide +kernel) (show decode code 829 = .ok (.iaload, 1) from by decide +kernel) ?_
  refine l_scr (k := 2) C0 hL (by omega) rfl (show decode code 830 = .ok (.aload_n 0, 1) from by decide +kernel) (show decode code 831 = .ok (.iload_n 3, 1) from by decide +kernel) (show decode code 832 = .ok (.iconst 2, 1) from by decide +kernel) (show decode code 833 = .ok (.iadd, 1) from by decide +kernel) (show decode code 834 = .ok (.iaload, 1) from by decide +kernel) ?_
  refine l_cm (r := [_]) C0 eg R2.1.1 e2 (by decide +kernel) rfl (show 2 = argB 188 from by decide +kernel) (gd_mem (List.mem_of_getElem? (i := 1211) (by decide +kernel)) rfl) (Nat.le_of_ble_eq_true rfl) (by omega) (show decode code 835 = .ok (.invokevirtual 124, 3) from by decide +kernel) ?_
  exact l_eq C0 (show decode code 838 = .ok (.if_icmp .eq 88, 3) from by decide +kernel) (by decide) (kk _ _ R2)
theorem lc_27 (C0 : lw_At p s m meth c b Lx xs) (hL : Lx ≤ 320) {i : Nat} (hi : i + 4 < Lx) {h : mH} {σ : Sg} (R : RR h σ) (kk : ∀ h2 σ2, RR h2 σ2 → WL p l e s m below meth c dC dI b Q (926, LL i, [], h2)) : WL p l e s m below meth c dC dI b Q (843, LL i, [], h) := by
  obtain ⟨r, σ2, g, g2, e1, e2, R2⟩ := p_kee R (xs (i + 1)).toInt
  have eg := pst_g R.1.1 R2.1.1 e1 e2
  refine l_ldA C0 (show decode code 843 = .ok (.aload_n 1, 1) from by decide +kernel) rfl ?_
  refine l_scr (k := 1) C0 hL (by omega) rfl (show decode code 844 = .ok (.aload_n 0, 1) from by decide +kernel) (show decode code 845 = .ok (.iload_n 3, 1) from by decide +kernel) (show decode code 846 = .ok (.iconst 1, 1) from by decide +kernel) (show decode code 847 = .ok (.iadd, 1) from by decide +kernel) (show decode code 848 = .ok (.iaload, 1) from by decide +kernel) ?_
  refine l_cw (r := []) C0 R.1.1 eg e1 (by decide +kernel) rfl (show 1 = argB 88 from by decide +kernel) (gd_mem (List.mem_of_getElem? (i := 849) (by decide +kernel)) rfl) (Nat.le_of_ble_eq_true rfl) (by omega) (show decode code 849 = .ok (.invokevirtual 125, 3) from by decide +kernel) ?_
  refine l_ldA C0 (show decode code 852 = .ok (.aload_n 2, 1) from by decide +kernel) rfl ?_
  refine l_scr (k := 1) C0 hL (by omega) rfl (show decode code 853 = .ok (.aload_n 0, 1) from by decide +kernel) (show decode code 854 = .ok (.iload_n 3, 1) from by decide +kernel) (show decode code 855 = .ok (.iconst 1, 1) from by decide +kernel) (show decode code 856 = .ok (.iadd, 1) from by decide +kernel) (show decode code 857 = .ok (.iaload, 1) from by decide +kernel) ?_
  refine l_cm (r := [_]) C0 eg R2.1.1 e2 (by decide +kernel) rfl (show 1 = argB 189 from by decide +kernel) (gd_mem (List.mem_of_getElem? (i := 1224) (by decide +kernel)) rfl) (Nat.le_of_ble_eq_true rfl) (by omega) (show decode code 858 = .ok (.invokevirtual 128, 3) from by decide +kernel) ?_
  exact l_eq C0 (show decode code 861 = .ok (.if_icmp .eq 65, 3) from by decide +kernel) (by decide) (kk _ _ R2)
theorem lc_28 (C0 : lw_At p s m meth c b Lx xs) (hL : Lx ≤ 320) {i : Nat} (hi : i + 4 < Lx) {h : mH} {σ : Sg} (R : RR h σ) (kk : ∀ h2 σ2, RR h2 σ2 → WL p l e s m below meth c dC dI b Q (926, LL i, [], h2)) : WL p l e s m below meth c dC dI b Q (866, LL i, [], h) := by
  obtain ⟨r, σ2, g, g2, e1, e2, R2⟩ := p_bac R (xs (i + 1)).toInt
  have eg := pst_g R.1.1 R2.1.1 e1 e2
  refine l_ldA C0 (show decode code 866 = .ok (.aload_n 1, 1) from by decide +kernel) rfl ?_
  refine l_scr (k := 1) C0 hL (by omega) rfl (show decode code 867 = .ok (.aload_n 0, 1) from by decide +kernel) (show decode code 868 = .ok (.iload_n 3, 1) from by decide +kernel) (show decode code 869 = .ok (.iconst 1, 1) from by decide +kernel) (show decode code 870 = .ok (.iadd, 1) from by decide +kernel) (show decode code 871 = .ok (.iaload, 1) from by decide +kernel) ?_
  refine l_cw (r := []) C0 R.1.1 eg e1 (by decide +kernel) rfl (show 1 = argB 89 from by decide +kernel) (gd_mem (List.mem_of_getElem? (i := 857) (by decide +kernel)) rfl) (Nat.le_of_ble_eq_true rfl) (by omega) (show decode code 872 = .ok (.invokevirtual 129, 3) from by decide +kernel) ?_
  refine l_ldA C0 (show decode code 875 = .ok (.aload_n 2, 1) from by decide +kernel) rfl ?_
  refine l_scr (k := 1) C0 hL (by omega) rfl (show decode code 876 = .ok (.aload_n 0, 1) from by decide +kernel) (show decode code 877 = .ok (.iload_n 3, 1) from by decide +kernel) (show decode code 878 = .ok (.iconst 1, 1) from by decide +kernel) (show decode code 879 = .ok (.iadd, 1) from by decide +kernel) (show decode code 880 = .ok (.iaload, 1) from by decide +kernel) ?_
  refine l_cm (r := [_]) C0 eg R2.1.1 e2 (by decide +kernel) rfl (show 1 = argB 190 from by decide +kernel) (gd_mem (List.mem_of_getElem? (i := 1228) (by decide +kernel)) rfl) (Nat.le_of_ble_eq_true rfl) (by omega) (show decode code 881 = .ok (.invokevirtual 132, 3) from by decide +kernel) ?_
  exact l_eq C0 (show decode code 884 = .ok (.if_icmp .eq 42, 3) from by decide +kernel) (by decide) (kk _ _ R2)
theorem lc_29 (C0 : lw_At p s m meth c b Lx xs) (hL : Lx ≤ 320) {i : Nat} (hi : i + 4 < Lx) {h : mH} {σ : Sg} (R : RR h σ) (kk : ∀ h2 σ2, RR h2 σ2 → WL p l e s m below meth c dC dI b Q (926, LL i, [], h2)) : WL p l e s m below meth c dC dI b Q (889, LL i, [], h) := by
  obtain ⟨r, σ2, g, g2, e1, e2, R2⟩ := p_cnt R (xs (i + 1)).toInt
  have eg := pst_g R.1.1 R2.1.1 e1 e2
  refine l_ldA C0 (show decode code 889 = .ok (.aload_n 1, 1) from by decide +kernel) rfl ?_
  refine l_scr (k := 1) C0 hL (by omega) rfl (show decode code 890 = .ok (.aload_n 0, 1) from by decide +kernel) (show decode code 891 = .ok (.iload_n 3, 1) from by decide +kernel) (show decode code 892 = .ok (.iconst 1, 1) from by decide +kernel) (show decode code 893 = .ok (.iadd, 1) from by decide +kernel) (show decode code 894 = .ok (.iaload, 1) from by decide +kernel) ?_
  refine l_cw (r := []) C0 R.1.1 eg e1 (by decide +kernel) rfl (show 1 = argB 90 from by decide +kernel) (gd_mem (List.mem_of_getElem? (i := 861) (by decide +kernel)) rfl) (Nat.le_of_ble_eq_true rfl) (by omega) (show decode code 895 = .ok (.invokevirtual 133, 3) from by decide +kernel) ?_
  refine l_ldA C0 (show decode code 898 = .ok (.aload_n 2, 1) from by decide +kernel) rfl ?_
  refine l_scr (k := 1) C0 hL (by omega) rfl (show decode code 899 = .ok (.aload_n 0, 1) from by decide +kernel) (show decode code 900 = .ok (.iload_n 3, 1) from by decide +kernel) (show decode code 901 = .ok (.iconst 1, 1) from by decide +kernel) (show decode code 902 = .ok (.iadd, 1) from by decide +kernel) (show decode code 903 = .ok (.iaload, 1) from by decide +kernel) ?_
  refine l_cm (r := [_]) C0 eg R2.1.1 e2 (by decide +kernel) rfl (show 1 = argB 191 from by decide +kernel) (gd_mem (List.mem_of_getElem? (i := 1232) (by decide +kernel)) rfl) (Nat.le_of_ble_eq_true rfl) (by omega) (show decode code 904 = .ok (.invokevirtual 136, 3) from by decide +kernel) ?_
  exact l_eq C0 (show decode code 907 = .ok (.if_icmp .eq 19, 3) from by decide +kernel) (by decide) (kk _ _ R2)
theorem lc_30 (C0 : lw_At p s m meth c b Lx xs) (hL : Lx ≤ 320) {i : Nat} (hi : i + 4 < Lx) {h : mH} {σ : Sg} (R : RR h σ) (kk : ∀ h2 σ2, RR h2 σ2 → WL p l e s m below meth c dC dI b Q (926, LL i, [], h2)) : WL p l e s m below meth c dC dI b Q (912, LL i, [], h) := by
  obtain ⟨r, σ2, g, g2, e1, e2, R2⟩ := p_tra R
  have eg := pst_g R.1.1 R2.1.1 e1 e2
  refine l_ldA C0 (show decode code 912 = .ok (.aload_n 1, 1) from by decide +kernel) rfl ?_
  refine l_cw (r := []) C0 R.1.1 eg e1 (by decide +kernel) rfl (show 0 = argB 91 from by decide +kernel) (gd_mem (List.mem_of_getElem? (i := 865) (by decide +kernel)) rfl) (Nat.le_of_ble_eq_true rfl) (by omega) (show decode code 913 = .ok (.invokevirtual 137, 3) from by decide +kernel) ?_
  refine l_ldA C0 (show decode code 916 = .ok (.aload_n 2, 1) from by decide +kernel) rfl ?_
  refine l_cm (r := [_]) C0 eg R2.1.1 e2 (by decide +kernel) rfl (show 0 = argB 192 from by decide +kernel) (gd_mem (List.mem_of_getElem? (i := 1236) (by decide +kernel)) rfl) (Nat.le_of_ble_eq_true rfl) (by omega) (show decode code 917 = .ok (.invokevirtual 141, 3) from by decide +kernel) ?_
  exact l_cmp C0 (show decode code 920 = .ok (.lcmp, 1) from by decide +kernel) (show decode code 921 = .ok (.ifCond .eq 5, 3) from by decide +kernel) (by decide) (kk _ _ R2)
end LWC
