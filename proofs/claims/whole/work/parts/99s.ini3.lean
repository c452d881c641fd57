def ary51 (h : mH) (a : Nat) : mH := (nwR (nwR (nwR (nwR h 100 7 a 0) 100 7 a 1) 100 7 a 2) 100 40 a 3)
theorem ary51_l (h : mH) (a : Nat) : (ary51 h a).1.length = h.1.length + 4 := by
  unfold ary51
  rw [nwR_l, nwR_l, nwR_l, nwR_l]
theorem ary51_k {h : mH} {a b : Nat} (l : b < h.1.length) : kd (ary51 h a) b = kd h b := by
  unfold ary51
  rw [nwR_k (by rw [nwR_l, nwR_l, nwR_l]; omega)]
  rw [nwR_k (by rw [nwR_l, nwR_l]; omega)]
  rw [nwR_k (by rw [nwR_l]; omega)]
  rw [nwR_k (by exact l)]
theorem ary51_ok (C : mCall) (h : mH) (a : Nat) (l : a < h.1.length) (k1 : (kd h a).1 = 6) (k2 : (kd h a).2 = 8) : resA C 51 (4, [Sum.inr (Sum.inr (some a))], [], h) = resA C 51 (36, [Sum.inr (Sum.inr (some a))], [], ary51 h a) := by
  have l1 : a < (nwR h 100 7 a 0).1.length := by rw [nwR_l]; omega
  have p1 : (kd (nwR h 100 7 a 0) a).1 = 6 := by rw [nwR_k (by omega)]; exact k1
  have r1 : (kd (nwR h 100 7 a 0) a).2 = 8 := by rw [nwR_k (by omega)]; exact k2
  have l2 : a < (nwR (nwR h 100 7 a 0) 100 7 a 1).1.length := by rw [nwR_l]; omega
  have p2 : (kd (nwR (nwR h 100 7 a 0) 100 7 a 1) a).1 = 6 := by rw [nwR_k (by omega)]; exact p1
  have r2 : (kd (nwR (nwR h 100 7 a 0) 100 7 a 1) a).2 = 8 := by rw [nwR_k (by omega)]; exact r1
  have l3 : a < (nwR (nwR (nwR h 100 7 a 0) 100 7 a 1) 100 7 a 2).1.length := by rw [nwR_l]; omega
  have p3 : (kd (nwR (nwR (nwR h 100 7 a 0) 100 7 a 1) 100 7 a 2) a).1 = 6 := by rw [nwR_k (by omega)]; exact p2
  have r3 : (kd (nwR (nwR (nwR h 100 7 a 0) 100 7 a 1) 100 7 a 2) a).2 = 8 := by rw [nwR_k (by omega)]; exact r2
  rw [g_51_4 C h a l k1 k2]
  rw [g_51_12 C (nwR h 100 7 a 0) a l1 p1 r1]
  rw [g_51_20 C (nwR (nwR h 100 7 a 0) 100 7 a 1) a l2 p2 r2]
  rw [g_51_28 C (nwR (nwR (nwR h 100 7 a 0) 100 7 a 1) 100 7 a 2) a l3 p3 r3]
  rfl
def ary0 (h : mH) (a : Nat) : mH := (nwR (nwR (nwR h 100 7 a 0) 100 7 a 4) 100 7 a 5)
theorem ary0_l (h : mH) (a : Nat) : (ary0 h a).1.length = h.1.length + 3 := by
  unfold ary0
  rw [nwR_l, nwR_l, nwR_l]
theorem ary0_k {h : mH} {a b : Nat} (l : b < h.1.length) : kd (ary0 h a) b = kd h b := by
  unfold ary0
  rw [nwR_k (by rw [nwR_l, nwR_l]; omega)]
  rw [nwR_k (by rw [nwR_l]; omega)]
  rw [nwR_k (by exact l)]
theorem ary0_ok (C : mCall) (h : mH) (b1 b2 b3 : mV) (a : Nat) (l : a < h.1.length) (k1 : (kd h a).1 = 0) (k2 : (kd h a).2 = 9) : resA C 0 (4, [Sum.inr (Sum.inr (some a)), b1, b2, b3], [], h) = resA C 0 (28, [Sum.inr (Sum.inr (some a)), b1, b2, b3], [], ary0 h a) := by
  have l1 : a < (nwR h 100 7 a 0).1.length := by rw [nwR_l]; omega
  have p1 : (kd (nwR h 100 7 a 0) a).1 = 0 := by rw [nwR_k (by omega)]; exact k1
  have r1 : (kd (nwR h 100 7 a 0) a).2 = 9 := by rw [nwR_k (by omega)]; exact k2
  have l2 : a < (nwR (nwR h 100 7 a 0) 100 7 a 4).1.length := by rw [nwR_l]; omega
  have p2 : (kd (nwR (nwR h 100 7 a 0) 100 7 a 4) a).1 = 0 := by rw [nwR_k (by omega)]; exact p1
  have r2 : (kd (nwR (nwR h 100 7 a 0) 100 7 a 4) a).2 = 9 := by rw [nwR_k (by omega)]; exact r1
  rw [g_0_4 C h b1 b2 b3 a l k1 k2]
  rw [g_0_12 C (nwR h 100 7 a 0) b1 b2 b3 a l1 p1 r1]
  rw [g_0_20 C (nwR (nwR h 100 7 a 0) 100 7 a 4) b1 b2 b3 a l2 p2 r2]
  rfl
def ary8 (h : mH) (a : Nat) : mH := (nwR (nwR (nwR h 100 3 a 0) 100 41 a 1) 100 41 a 2)
theorem ary8_l (h : mH) (a : Nat) : (ary8 h a).1.length = h.1.length + 3 := by
  unfold ary8
  rw [nwR_l, nwR_l, nwR_l]
theorem ary8_k {h : mH} {a b : Nat} (l : b < h.1.length) : kd (ary8 h a) b = kd h b := by
  unfold ary8
  rw [nwR_k (by rw [nwR_l, nwR_l]; omega)]
  rw [nwR_k (by rw [nwR_l]; omega)]
  rw [nwR_k (by exact l)]
theorem ary8_ok (C : mCall) (h : mH) (a : Nat) (l : a < h.1.length) (k1 : (kd h a).1 = 1) (k2 : (kd h a).2 = 3) : resA C 8 (4, [Sum.inr (Sum.inr (some a))], [], h) = resA C 8 (27, [Sum.inr (Sum.inr (some a))], [], ary8 h a) := by
  have l1 : a < (nwR h 100 3 a 0).1.length := by rw [nwR_l]; omega
  have p1 : (kd (nwR h 100 3 a 0) a).1 = 1 := by rw [nwR_k (by omega)]; exact k1
  have r1 : (kd (nwR h 100 3 a 0) a).2 = 3 := by rw [nwR_k (by omega)]; exact k2
  have l2 : a < (nwR (nwR h 100 3 a 0) 100 41 a 1).1.length := by rw [nwR_l]; omega
  have p2 : (kd (nwR (nwR h 100 3 a 0) 100 41 a 1) a).1 = 1 := by rw [nwR_k (by omega)]; exact p1
  have r2 : (kd (nwR (nwR h 100 3 a 0) 100 41 a 1) a).2 = 3 := by rw [nwR_k (by omega)]; exact r1
  rw [g_8_4 C h a l k1 k2]
  rw [g_8_11 C (nwR h 100 3 a 0) a l1 p1 r1]
  rw [g_8_19 C (nwR (nwR h 100 3 a 0) 100 41 a 1) a l2 p2 r2]
  rfl
def ary122 (h : mH) (a : Nat) : mH := (nwR (nwR (nwR (nwR (nwR (nwR (nwR (nwR (nwR (nwR (nwR (nwR (nwR (nwR (nwR (nwR h 101 180 a 1) 100 2 a 3) 100 7 a 4) 100 14 a 5) 100 14 a 6) 100 2 a 7) 100 80 a 8) 100 4 a 9) 100 1851 a 16) 102 2 a 17) 100 7 a 18) 100 40 a 20) 100 7 a 21) 100 7 a 22) 100 6 a 23) 100 6 a 24)
theorem ary122_l (h : mH) (a : Nat) : (ary122 h a).1.length = h.1.length + 16 := by
  unfold ary122
  rw [nwR_l, nwR_l, nwR_l, nwR_l, nwR_l, nwR_l, nwR_l, nwR_l, nwR_l, nwR_l, nwR_l, nwR_l, nwR_l, nwR_l, nwR_l, nwR_l]
theorem ary122_k {h : mH} {a b : Nat} (l : b < h.1.length) : kd (ary122 h a) b = kd h b := by
  unfold ary122
  rw [nwR_k (by rw [nwR_l, nwR_l, nwR_l, nwR_l, nwR_l, nwR_l, nwR_l, nwR_l, nwR_l, nwR_l, nwR_l, nwR_l, nwR_l, nwR_l, nwR_l]; omega)]
  rw [nwR_k (by rw [nwR_l, nwR_l, nwR_l, nwR_l, nwR_l, nwR_l, nwR_l, nwR_l, nwR_l, nwR_l, nwR_l, nwR_l, nwR_l, nwR_l]; omega)]
  rw [nwR_k (by rw [nwR_l, nwR_l, nwR_l, nwR_l, nwR_l, nwR_l, nwR_l, nwR_l, nwR_l, nwR_l, nwR_l, nwR_l, nwR_l]; omega)]
  rw [nwR_k (by rw [nwR_l, nwR_l, nwR_l, nwR_l, nwR_l, nwR_l, nwR_l, nwR_l, nwR_l, nwR_l, nwR_l, nwR_l]; omega)]
  rw [nwR_k (by rw [nwR_l, nwR_l, nwR_l, nwR_l, nwR_l, nwR_l, nwR_l, nwR_l, nwR_l, nwR_l, nwR_l]; omega)]
  rw [nwR_k (by rw [nwR_l, nwR_l, nwR_l, nwR_l, nwR_l, nwR_l, nwR_l, nwR_l, nwR_l, nwR_l]; omega)]
  rw [nwR_k (by rw [nwR_l, nwR_l, nwR_l, nwR_l, nwR_l, nwR_l, nwR_l, nwR_l, nwR_l]; omega)]
  rw [nwR_k (by rw [nwR_l, nwR_l, nwR_l, nwR_l, nwR_l, nwR_l, nwR_l, nwR_l]; omega)]
  rw [nwR_k (by rw [nwR_l, nwR_l, nwR_l, nwR_l, nwR_l, nwR_l, nwR_l]; omega)]
  rw [nwR_k (by rw [nwR_l, nwR_l, nwR_l, nwR_l, nwR_l, nwR_l]; omega)]
  rw [nwR_k (by rw [nwR_l, nwR_l, nwR_l, nwR_l, nwR_l]; omega)]
  rw [nwR_k (by rw [nwR_l, nwR_l, nwR_l, nwR_l]; omega)]
  rw [nwR_k (by rw [nwR_l, nwR_l, nwR_l]; omega)]
  rw [nwR_k (by rw [nwR_l, nwR_l]; omega)]
  rw [nwR_k (by rw [nwR_l]; omega)]
  rw [nwR_k (by exact l)]
theorem ary122_ok (C : mCall) (h : mH) (a : Nat) (l : a < h.1.length) (k1 : (kd h a).1 = 8) (k2 : (kd h a).2 = 26) : resA C 122 (4, [Sum.inr (Sum.inr (some a))], [], h) = resA C 122 (130, [Sum.inr (Sum.inr (some a))], [], ary122 h a) := by
  have l1 : a < (nwR h 101 180 a 1).1.length := by rw [nwR_l]; omega
  have p1 : (kd (nwR h 101 180 a 1) a).1 = 8 := by rw [nwR_k (by omega)]; exact k1
  have r1 : (kd (nwR h 101 180 a 1) a).2 = 26 := by rw [nwR_k (by omega)]; exact k2
  have l2 : a < (nwR (nwR h 101 180 a 1) 100 2 a 3).1.length := by rw [nwR_l]; omega
  have p2 : (kd (nwR (nwR h 101 180 a 1) 100 2 a 3) a).1 = 8 := by rw [nwR_k (by omega)]; exact p1
  have r2 : (kd (nwR (nwR h 101 180 a 1) 100 2 a 3) a).2 = 26 := by rw [nwR_k (by omega)]; exact r1
  have l3 : a < (nwR (nwR (nwR h 101 180 a 1) 100 2 a 3) 100 7 a 4).1.length := by rw [nwR_l]; omega
  have p3 : (kd (nwR (nwR (nwR h 101 180 a 1) 100 2 a 3) 100 7 a 4) a).1 = 8 := by rw [nwR_k (by omega)]; exact p2
  have r3 : (kd (nwR (nwR (nwR h 101 180 a 1) 100 2 a 3) 100 7 a 4) a).2 = 26 := by rw [nwR_k (by omega)]; exact r2
  have l4 : a < (nwR (nwR (nwR (nwR h 101 180 a 1) 100 2 a 3) 100 7 a 4) 100 14 a 5).1.length := by rw [nwR_l]; omega
  have p4 : (kd (nwR (nwR (nwR (nwR h 101 180 a 1) 100 2 a 3) 100 7 a 4) 100 14 a 5) a).1 = 8 := by rw [nwR_k (by omega)]; exact p3
  have r4 : (kd (nwR (nwR (nwR (nwR h 101 180 a 1) 100 2 a 3) 100 7 a 4) 100 14 a 5) a).2 = 26 := by rw [nwR_k (by omega)]; exact r3
  have l5 : a < (nwR (nwR (nwR (nwR (nwR h 101 180 a 1) 100 2 a 3) 100 7 a 4) 100 14 a 5) 100 14 a 6).1.length := by rw [nwR_l]; omega
  have p5 : (kd (nwR (nwR (nwR (nwR (nwR h 101 180 a 1) 100 2 a 3) 100 7 a 4) 100 14 a 5) 100 14 a 6) a).1 = 8 := by rw [nwR_k (by omega)]; exact p4
  have r5 : (kd (nwR (nwR (nwR (nwR (nwR h 101 180 a 1) 100 2 a 3) 100 7 a 4) 100 14 a 5) 100 14 a 6) a).2 = 26 := by rw [nwR_k (by omega)]; exact r4
  have l6 : a < (nwR (nwR (nwR (nwR (nwR (nwR h 101 180 a 1) 100 2 a 3) 100 7 a 4) 100 14 a 5) 100 14 a 6) 100 2 a 7).1.length := by rw [nwR_l]; omega
  have p6 : (kd (nwR (nwR (nwR (nwR (nwR (nwR h 101 180 a 1) 100 2 a 3) 100 7 a 4) 100 14 a 5) 100 14 a 6) 100 2 a 7) a).1 = 8 := by rw [nwR_k (by omega)]; exact p5
  have r6 : (kd (nwR (nwR (nwR (nwR (nwR (nwR h 101 180 a 1) 100 2 a 3) 100 7 a 4) 100 14 a 5) 100 14 a 6) 100 2 a 7) a).2 = 26 := by rw [nwR_k (by omega)]; exact r5
  have l7 : a < (nwR (nwR (nwR (nwR (nwR (nwR (nwR h 101 180 a 1) 100 2 a 3) 100 7 a 4) 100 14 a 5) 100 14 a 6) 100 2 a 7) 100 80 a 8).1.length := by rw [nwR_l]; omega
  have p7 : (kd (nwR (nwR (nwR (nwR (nwR (nwR (nwR h 101 180 a 1) 100 2 a 3) 100 7 a 4) 100 14 a 5) 100 14 a 6) 100 2 a 7) 100 80 a 8) a).1 = 8 := by rw [nwR_k (by omega)]; exact p6
  have r7 : (kd (nwR (nwR (nwR (nwR (nwR (nwR (nwR h 101 180 a 1) 100 2 a 3) 100 7 a 4) 100 14 a 5) 100 14 a 6) 100 2 a 7) 100 80 a 8) a).2 = 26 := by rw [nwR_k (by omega)]; exact r6
  have l8 : a < (nwR (nwR (nwR (nwR (nwR (nwR (nwR (nwR h 101 180 a 1) 100 2 a 3) 100 7 a 4) 100 14 a 5) 100 14 a 6) 100 2 a 7) 100 80 a 8) 100 4 a 9).1.length := by rw [nwR_l]; omega
  have p8 : (kd (nwR (nwR (nwR (nwR (nwR (nwR (nwR (nwR h 101 180 a 1) 100 2 a 3) 100 7 a 4) 100 14 a 5) 100 14 a 6) 100 2 a 7) 100 80 a 8) 100 4 a 9) a).1 = 8 := by rw [nwR_k (by omega)]; exact p7
  have r8 : (kd (nwR (nwR (nwR (nwR (nwR (nwR (nwR (nwR h 101 180 a 1) 100 2 a 3) 100 7 a 4) 100 14 a 5) 100 14 a 6) 100 2 a 7) 100 80 a 8) 100 4 a 9) a).2 = 26 := by rw [nwR_k (by omega)]; exact r7
  have l9 : a < (nwR (nwR (nwR (nwR (nwR (nwR (nwR (nwR (nwR h 101 180 a 1) 100 2 a 3) 100 7 a 4) 100 14 a 5) 100 14 a 6) 100 2 a 7) 100 80 a 8) 100 4 a 9) 100 1851 a 16).1.length := by rw [nwR_l]; omega
  have p9 : (kd (nwR (nwR (nwR (nwR (nwR (nwR (nwR (nwR (nwR h 101 180 a 1) 100 2 a 3) 100 7 a 4) 100 14 a 5) 100 14 a 6) 100 2 a 7) 100 80 a 8) 100 4 a 9) 100 1851 a 16) a).1 = 8 := by rw [nwR_k (by omega)]; exact p8
  have r9 : (kd (nwR (nwR (nwR (nwR (nwR (nwR (nwR (nwR (nwR h 101 180 a 1) 100 2 a 3) 100 7 a 4) 100 14 a 5) 100 14 a 6) 100 2 a 7) 100 80 a 8) 100 4 a 9) 100 1851 a 16) a).2 = 26 := by rw [nwR_k (by omega)]; exact r8
  have l10 : a < (nwR (nwR (nwR (nwR (nwR (nwR (nwR (nwR (nwR (nwR h 101 180 a 1) 100 2 a 3) 100 7 a 4) 100 14 a 5) 100 14 a 6) 100 2 a 7) 100 80 a 8) 100 4 a 9) 100 1851 a 16) 102 2 a 17).1.length := by rw [nwR_l]; omega
  have p10 : (kd (nwR (nwR (nwR (nwR (nwR (nwR (nwR (nwR (nwR (nwR h 101 180 a 1) 100 2 a 3) 100 7 a 4) 100 14 a 5) 100 14 a 6) 100 2 a 7) 100 80 a 8) 100 4 a 9) 100 1851 a 16) 102 2 a 17) a).1 = 8 := by rw [nwR_k (by omega)]; exact p9
  have r10 : (kd (nwR (nwR (nwR (nwR (nwR (nwR (nwR (nwR (nwR (nwR h 101 180 a 1) 100 2 a 3) 100 7 a 4) 100 14 a 5) 100 14 a 6) 100 2 a 7) 100 80 a 8) 100 4 a 9) 100 1851 a 16) 102 2 a 17) a).2 = 26 := by rw [nwR_k (by omega)]; exact r9
  have l11 : a < (nwR (nwR (nwR (nwR (nwR (nwR (nwR (nwR (nwR (nwR (nwR h 101 180 a 1) 100 2 a 3) 100 7 a 4) 100 14 a 5) 100 14 a 6) 100 2 a 7) 100 80 a 8) 100 4 a 9) 100 1851 a 16) 102 2 a 17) 100 7 a 18).1.length := by rw [nwR_l]; omega
  have p11 : (kd (nwR (nwR (nwR (nwR (nwR (nwR (nwR (nwR (nwR (nwR (nwR h 101 180 a 1) 100 2 a 3) 100 7 a 4) 100 14 a 5) 100 14 a 6) 100 2 a 7) 100 80 a 8) 100 4 a 9) 100 1851 a 16) 102 2 a 17) 100 7 a 18) a).1 = 8 := by rw [nwR_k (by omega)]; exact p10
  have r11 : (kd (nwR (nwR (nwR (nwR (nwR (nwR (nwR (nwR (nwR (nwR (nwR h 101 180 a 1) 100 2 a 3) 100 7 a 4) 100 14 a 5) 100 14 a 6) 100 2 a 7) 100 80 a 8) 100 4 a 9) 100 1851 a 16) 102 2 a 17) 100 7 a 18) a).2 = 26 := by rw [nwR_k (by omega)]; exact r10
  have l12 : a < (nwR (nwR (nwR (nwR (nwR (nwR (nwR (nwR (nwR (nwR (nwR (nwR h 101 180 a 1) 100 2 a 3) 100 7 a 4) 100 14 a 5) 100 14 a 6) 100 2 a 7) 100 80 a 8) 100 4 a 9) 100 1851 a 16) 102 2 a 17) 100 7 a 18) 100 40 a 20).1.length := by rw [nwR_l]; omega
  have p12 : (kd (nwR (nwR (nwR (nwR (nwR (nwR (nwR (nwR (nwR (nwR (nwR (nwR h 101 180 a 1) 100 2 a 3) 100 7 a 4) 100 14 a 5) 100 14 a 6) 100 2 a 7) 100 80 a 8) 100 4 a 9) 100 1851 a 16) 102 2 a 17) 100 7 a 18) 100 40 a 20) a).1 = 8 := by rw [nwR_k (by omega)]; exact p11
  have r12 : (kd (nwR (nwR (nwR (nwR (nwR (nwR (nwR (nwR (nwR (nwR (nwR (nwR h 101 180 a 1) 100 2 a 3) 100 7 a 4) 100 14 a 5) 100 14 a 6) 100 2 a 7) 100 80 a 8) 100 4 a 9) 100 1851 a 16) 102 2 a 17) 100 7 a 18) 100 40 a 20) a).2 = 26 := by rw [nwR_k (by omega)]; exact r11
  have l13 : a < (nwR (nwR (nwR (nwR (nwR (nwR (nwR (nwR (nwR (nwR (nwR (nwR (nwR h 101 180 a 1) 100 2 a 3) 100 7 a 4) 100 14 a 5) 100 14 a 6) 100 2 a 7) 100 80 a 8) 100 4 a 9) 100 1851 a 16) 102 2 a 17) 100 7 a 18) 100 40 a 20) 100 7 a 21).1.length := by rw [nwR_l]; omega
  have p13 : (kd (nwR (nwR (nwR (nwR (nwR (nwR (nwR (nwR (nwR (nwR (nwR (nwR (nwR h 101 180 a 1) 100 2 a 3) 100 7 a 4) 100 14 a 5) 100 14 a 6) 100 2 a 7) 100 80 a 8) 100 4 a 9) 100 1851 a 16) 102 2 a 17) 100 7 a 18) 100 40 a 20) 100 7 a 21) a).1 = 8 := by rw [nwR_k (by omega)]; exact p12
  have r13 : (kd (nwR (nwR (nwR (nwR (nwR (nwR (nwR (nwR (nwR (nwR (nwR (nwR (nwR h 101 180 a 1) 100 2 a 3) 100 7 a 4) 100 14 a 5) 100 14 a 6) 100 2 a 7) 100 80 a 8) 100 4 a 9) 100 1851 a 16) 102 2 a 17) 100 7 a 18) 100 40 a 20) 100 7 a 21) a).2 = 26 := by rw [nwR_k (by omega)]; exact r12
  have l14 : a < (nwR (nwR (nwR (nwR (nwR (nwR (nwR (nwR (nwR (nwR (nwR (nwR (nwR (nwR h 101 180 a 1) 100 2 a 3) 100 7 a 4) 100 14 a 5) 100 14 a 6) 100 2 a 7) 100 80 a 8) 100 4 a 9) 100 1851 a 16) 102 2 a 17) 100 7 a 18) 100 40 a 20) 100 7 a 21) 100 7 a 22).1.length := by rw [nwR_l]; omega
  have p14 : (kd (nwR (nwR (nwR (nwR (nwR (nwR (nwR (nwR (nwR (nwR (nwR (nwR (nwR (nwR h 101 180 a 1) 100 2 a 3) 100 7 a 4) 100 14 a 5) 100 14 a 6) 100 2 a 7) 100 80 a 8) 100 4 a 9) 100 1851 a 16) 102 2 a 17) 100 7 a 18) 100 40 a 20) 100 7 a 21) 100 7 a 22) a).1 = 8 := by rw [nwR_k (by omega)]; exact p13
  have r14 : (kd (nwR (nwR (nwR (nwR (nwR (nwR (nwR (nwR (nwR (nwR (nwR (nwR (nwR (nwR h 101 180 a 1) 100 2 a 3) 100 7 a 4) 100 14 a 5) 100 14 a 6) 100 2 a 7) 100 80 a 8) 100 4 a 9) 100 1851 a 16) 102 2 a 17) 100 7 a 18) 100 40 a 20) 100 7 a 21) 100 7 a 22) a).2 = 26 := by rw [nwR_k (by omega)]; exact r13
  have l15 : a < (nwR (nwR (nwR (nwR (nwR (nwR (nwR (nwR (nwR (nwR (nwR (nwR (nwR (nwR (nwR h 101 180 a 1) 100 2 a 3) 100 7 a 4) 100 14 a 5) 100 14 a 6) 100 2 a 7) 100 80 a 8) 100 4 a 9) 100 1851 a 16) 102 2 a 17) 100 7 a 18) 100 40 a 20) 100 7 a 21) 100 7 a 22) 100 6 a 23).1.length := by rw [nwR_l]; omega
  have p15 : (kd (nwR (nwR (nwR (nwR (nwR (nwR (nwR (nwR (nwR (nwR (nwR (nwR (nwR (nwR (nwR h 101 180 a 1) 100 2 a 3) 100 7 a 4) 100 14 a 5) 100 14 a 6) 100 2 a 7) 100 80 a 8) 100 4 a 9) 100 1851 a 16) 102 2 a 17) 100 7 a 18) 100 40 a 20) 100 7 a 21) 100 7 a 22) 100 6 a 23) a).1 = 8 := by rw [nwR_k (by omega)]; exact p14
  have r15 : (kd (nwR (nwR (nwR (nwR (nwR (nwR (nwR (nwR (nwR (nwR (nwR (nwR (nwR (nwR (nwR h 101 180 a 1) 100 2 a 3) 100 7 a 4) 100 14 a 5) 100 14 a 6) 100 2 a 7) 100 80 a 8) 100 4 a 9) 100 1851 a 16) 102 2 a 17) 100 7 a 18) 100 40 a 20) 100 7 a 21) 100 7 a 22) 100 6 a 23) a).2 = 26 := by rw [nwR_k (by omega)]; exact r14
  rw [g_122_4 C h a l k1 k2]
  rw [g_122_13 C (nwR h 101 180 a 1) a l1 p1 r1]
  rw [g_122_20 C (nwR (nwR h 101 180 a 1) 100 2 a 3) a l2 p2 r2]
  rw [g_122_28 C (nwR (nwR (nwR h 101 180 a 1) 100 2 a 3) 100 7 a 4) a l3 p3 r3]
  rw [g_122_36 C (nwR (nwR (nwR (nwR h 101 180 a 1) 100 2 a 3) 100 7 a 4) 100 14 a 5) a l4 p4 r4]
  rw [g_122_44 C (nwR (nwR (nwR (nwR (nwR h 101 180 a 1) 100 2 a 3) 100 7 a 4) 100 14 a 5) 100 14 a 6) a l5 p5 r5]
  rw [g_122_51 C (nwR (nwR (nwR (nwR (nwR (nwR h 101 180 a 1) 100 2 a 3) 100 7 a 4) 100 14 a 5) 100 14 a 6) 100 2 a 7) a l6 p6 r6]
  rw [g_122_59 C (nwR (nwR (nwR (nwR (nwR (nwR (nwR h 101 180 a 1) 100 2 a 3) 100 7 a 4) 100 14 a 5) 100 14 a 6) 100 2 a 7) 100 80 a 8) a l7 p7 r7]
  rw [g_122_66 C (nwR (nwR (nwR (nwR (nwR (nwR (nwR (nwR h 101 180 a 1) 100 2 a 3) 100 7 a 4) 100 14 a 5) 100 14 a 6) 100 2 a 7) 100 80 a 8) 100 4 a 9) a l8 p8 r8]
  rw [g_122_75 C (nwR (nwR (nwR (nwR (nwR (nwR (nwR (nwR (nwR h 101 180 a 1) 100 2 a 3) 100 7 a 4) 100 14 a 5) 100 14 a 6) 100 2 a 7) 100 80 a 8) 100 4 a 9) 100 1851 a 16) a l9 p9 r9]
  rw [g_122_82 C (nwR (nwR (nwR (nwR (nwR (nwR (nwR (nwR (nwR (nwR h 101 180 a 1) 100 2 a 3) 100 7 a 4) 100 14 a 5) 100 14 a 6) 100 2 a 7) 100 80 a 8) 100 4 a 9) 100 1851 a 16) 102 2 a 17) a l10 p10 r10]
  rw [g_122_90 C (nwR (nwR (nwR (nwR (nwR (nwR (nwR (nwR (nwR (nwR (nwR h 101 180 a 1) 100 2 a 3) 100 7 a 4) 100 14 a 5) 100 14 a 6) 100 2 a 7) 100 80 a 8) 100 4 a 9) 100 1851 a 16) 102 2 a 17) 100 7 a 18) a l11 p11 r11]
  rw [g_122_98 C (nwR (nwR (nwR (nwR (nwR (nwR (nwR (nwR (nwR (nwR (nwR (nwR h 101 180 a 1) 100 2 a 3) 100 7 a 4) 100 14 a 5) 100 14 a 6) 100 2 a 7) 100 80 a 8) 100 4 a 9) 100 1851 a 16) 102 2 a 17) 100 7 a 18) 100 40 a 20) a l12 p12 r12]
  rw [g_122_106 C (nwR (nwR (nwR (nwR (nwR (nwR (nwR (nwR (nwR (nwR (nwR (nwR (nwR h 101 180 a 1) 100 2 a 3) 100 7 a 4) 100 14 a 5) 100 14 a 6) 100 2 a 7) 100 80 a 8) 100 4 a 9) 100 1851 a 16) 102 2 a 17) 100 7 a 18) 100 40 a 20) 100 7 a 21) a l13 p13 r13]
  rw [g_122_114 C (nwR (nwR (nwR (nwR (nwR (nwR (nwR (nwR (nwR (nwR (nwR (nwR (nwR (nwR h 101 180 a 1) 100 2 a 3) 100 7 a 4) 100 14 a 5) 100 14 a 6) 100 2 a 7) 100 80 a 8) 100 4 a 9) 100 1851 a 16) 102 2 a 17) 100 7 a 18) 100 40 a 20) 100 7 a 21) 100 7 a 22) a l14 p14 r14]
  rw [g_122_122 C (nwR (nwR (nwR (nwR (nwR (nwR (nwR (nwR (nwR (nwR (nwR (nwR (nwR (nwR (nwR h 101 180 a 1) 100 2 a 3) 100 7 a 4) 100 14 a 5) 100 14 a 6) 100 2 a 7) 100 80 a 8) 100 4 a 9) 100 1851 a 16) 102 2 a 17) 100 7 a 18) 100 40 a 20) 100 7 a 21) 100 7 a 22) 100 6 a 23) a l15 p15 r15]
  rfl
