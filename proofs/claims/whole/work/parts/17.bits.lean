theorem bb_I (n : Nat) : Int32.ofInt (n : Int) = nI n := Int32.ofInt_eq_ofNat
theorem bb_L (n : Nat) : Int64.ofInt (n : Int) = lN n := Int64.ofInt_eq_ofNat
theorem s_l : ∀ n, n < 32 → ((nI n &&& 31).toBitVec.smod 32).toNat = n := by decide +kernel
theorem wb_c : ∀ k, k < 64 → ((nI k).toInt64 &&& 63) = lN k := by decide +kernel
theorem wb_sm : ∀ k, k < 64 → (BitVec.ofNat 64 k).smod 64 = BitVec.ofNat 64 k := by decide +kernel
theorem wb_tb (n : Nat) : (lN n).toBitVec = BitVec.ofNat 64 n := rfl
theorem wb_inj {a b : Int64} (h : a.toBitVec = b.toBitVec) : a = b := Int64.toBitVec_inj.mp h
theorem wb_shl (n : Nat) {k : Nat} (hk : k < 64) : lN n <<< ((nI k).toInt64 &&& 63) = lN (n * 2 ^ k) := by
  rw [wb_c k hk]
  apply wb_inj
  rw [Int64.toBitVec_shiftLeft, wb_tb, wb_tb, wb_tb, wb_sm k hk]
  apply BitVec.eq_of_toNat_eq
  rw [BitVec.shiftLeft_eq', BitVec.toNat_shiftLeft, BitVec.toNat_ofNat, BitVec.toNat_ofNat, BitVec.toNat_ofNat, Nat.mod_eq_of_lt (show k < 2 ^ 64 by omega), Nat.shiftLeft_eq, Nat.mul_mod, Nat.mod_mod, ← Nat.mul_mod]
theorem pf_lI {a : Nat} (h : a < 2 ^ 63) : (lN a).toInt = (a : Int) := lg_ofNat_toInt h
theorem pf_shr {a d : Nat} {D : Int64} (hD : (D.toBitVec.smod 64).toNat = d) (h : a < 2 ^ 62) : lN a >>> D = lN (a / 2 ^ d) := by
  have hd : a / 2 ^ d ≤ a := Nat.div_le_self _ _
  apply Int64.toInt_inj.mp
  have e : (lN a >>> D).toInt = (lN a).toInt >>> d := by
    rw [← hD]
    exact BitVec.toInt_sshiftRight ..
  rw [e, Int.shiftRight_eq_div_pow, pf_lI (by omega), pf_lI (by omega)]
  rfl
theorem fb_andL (a b : Nat) : lN a &&& lN b = lN (a &&& b) := by
  apply Int64.toBitVec_inj.1
  show BitVec.ofNat 64 a &&& BitVec.ofNat 64 b = BitVec.ofNat 64 (a &&& b)
  apply BitVec.eq_of_getLsbD_eq
  intro i hi
  simp [hi]
theorem fb_orL (a b : Nat) : lN a ||| lN b = lN (a ||| b) := by
  apply Int64.toBitVec_inj.1
  show BitVec.ofNat 64 a ||| BitVec.ofNat 64 b = BitVec.ofNat 64 (a ||| b)
  apply BitVec.eq_of_getLsbD_eq
  intro i hi
  simp [hi]
theorem fb_xorL (a b : Nat) : lN a ^^^ lN b = lN (a ^^^ b) := by
  apply Int64.toBitVec_inj.1
  show BitVec.ofNat 64 a ^^^ BitVec.ofNat 64 b = BitVec.ofNat 64 (a ^^^ b)
  apply BitVec.eq_of_getLsbD_eq
  intro i hi
  simp [hi]
theorem fb_andI (a b : Nat) : nI a &&& nI b = nI (a &&& b) := by
  apply Int32.toBitVec_inj.1
  show BitVec.ofNat 32 a &&& BitVec.ofNat 32 b = BitVec.ofNat 32 (a &&& b)
  apply BitVec.eq_of_getLsbD_eq
  intro i hi
  simp [hi]
theorem fb_orI (a b : Nat) : nI a ||| nI b = nI (a ||| b) := by
  apply Int32.toBitVec_inj.1
  show BitVec.ofNat 32 a ||| BitVec.ofNat 32 b = BitVec.ofNat 32 (a ||| b)
  apply BitVec.eq_of_getLsbD_eq
  intro i hi
  simp [hi]
theorem fb_xorI (a b : Nat) : nI a ^^^ nI b = nI (a ^^^ b) := by
  apply Int32.toBitVec_inj.1
  show BitVec.ofNat 32 a ^^^ BitVec.ofNat 32 b = BitVec.ofNat 32 (a ^^^ b)
  apply BitVec.eq_of_getLsbD_eq
  intro i hi
  simp [hi]
theorem an_lt {a b k : Nat} (h : a < 2 ^ k) : a &&& b < 2 ^ k := Nat.lt_of_le_of_lt Nat.and_le_left h
theorem andI_n {a : Nat} (b : Nat) (h : a < 2 ^ 31) : andI a b = ((a &&& b : Nat) : Int) := by
  unfold andI
  rw [bb_I, bb_I, fb_andI]
  exact nI_toInt (an_lt h)
theorem orI_n {a b : Nat} (h : a < 2 ^ 31) (h2 : b < 2 ^ 31) : orI a b = ((a ||| b : Nat) : Int) := by
  unfold orI
  rw [bb_I, bb_I, fb_orI]
  exact nI_toInt (Nat.or_lt_two_pow h h2)
theorem xorI_n {a b : Nat} (h : a < 2 ^ 31) (h2 : b < 2 ^ 31) : xorI a b = ((a ^^^ b : Nat) : Int) := by
  unfold xorI
  rw [bb_I, bb_I, fb_xorI]
  exact nI_toInt (Nat.xor_lt_two_pow h h2)
theorem shlI_n {a c : Nat} (hc : c < 32) (h : a * 2 ^ c < 2 ^ 31) : shlI a c = ((a * 2 ^ c : Nat) : Int) := by
  unfold shlI
  rw [bb_I, bb_I, pk_shlN (nI c &&& 31) c (s_l c hc) (by omega)]
  exact nI_toInt h
theorem shrI_n {a c : Nat} (hc : c < 32) (h : a < 2 ^ 31) : shrI a c = ((a / 2 ^ c : Nat) : Int) := by
  unfold shrI
  rw [bb_I, bb_I, pk_shrN h (nI c &&& 31) c (s_l c hc)]
  exact nI_toInt (Nat.lt_of_le_of_lt (Nat.div_le_self _ _) h)
theorem clr_bv {w : Nat} (x y : BitVec w) : x &&& (y ^^^ BitVec.allOnes w) = x ^^^ (x &&& y) := by
  apply BitVec.eq_of_getLsbD_eq
  intro i hi
  simp [hi]
  cases x[i] <;> cases y[i] <;> rfl
theorem clrI_n {a : Nat} (b : Nat) (h : a < 2 ^ 31) : andI a (xorI b (-1)) = ((a ^^^ (a &&& b) : Nat) : Int) := by
  unfold andI xorI
  rw [Int32.ofInt_toInt, bb_I, bb_I]
  have e : nI a &&& (nI b ^^^ Int32.ofInt (-1)) = nI a ^^^ (nI a &&& nI b) := by
    apply Int32.toBitVec_inj.1
    exact clr_bv (nI a).toBitVec (nI b).toBitVec
  rw [e, fb_andI, fb_xorI]
  exact nI_toInt (Nat.xor_lt_two_pow h (an_lt h))
theorem andL_n {a : Nat} (b : Nat) (h : a < 2 ^ 63) : andL a b = ((a &&& b : Nat) : Int) := by
  unfold andL
  rw [bb_L, bb_L, fb_andL]
  exact pf_lI (an_lt h)
theorem orL_n {a b : Nat} (h : a < 2 ^ 63) (h2 : b < 2 ^ 63) : orL a b = ((a ||| b : Nat) : Int) := by
  unfold orL
  rw [bb_L, bb_L, fb_orL]
  exact pf_lI (Nat.or_lt_two_pow h h2)
theorem xorL_n {a b : Nat} (h : a < 2 ^ 63) (h2 : b < 2 ^ 63) : xorL a b = ((a ^^^ b : Nat) : Int) := by
  unfold xorL
  rw [bb_L, bb_L, fb_xorL]
  exact pf_lI (Nat.xor_lt_two_pow h h2)
theorem shlL_n {a c : Nat} (hc : c < 64) (h : a * 2 ^ c < 2 ^ 63) : shlL a c = ((a * 2 ^ c : Nat) : Int) := by
  unfold shlL
  rw [bb_L, bb_I, wb_shl a hc]
  exact pf_lI h
theorem shrL_n {a c : Nat} (hc : c < 64) (h : a < 2 ^ 62) : shrL a c = ((a / 2 ^ c : Nat) : Int) := by
  unfold shrL
  rw [bb_L, bb_I, wb_c c hc, pf_shr (d := c) (by rw [wb_tb, wb_sm c hc, BitVec.toNat_ofNat]; exact Nat.mod_eq_of_lt (by omega)) h]
  exact pf_lI (Nat.lt_of_le_of_lt (Nat.div_le_self _ _) (by omega))
theorem clrL_n {a : Nat} (b : Nat) (h : a < 2 ^ 63) : andL a (xorL b (-1)) = ((a ^^^ (a &&& b) : Nat) : Int) := by
  unfold andL xorL
  rw [Int64.ofInt_toInt, bb_L, bb_L]
  have e : lN a &&& (lN b ^^^ Int64.ofInt (-1)) = lN a ^^^ (lN a &&& lN b) := by
    apply Int64.toBitVec_inj.1
    exact clr_bv (lN a).toBitVec (lN b).toBitVec
  rw [e, fb_andL, fb_xorL]
  exact pf_lI (Nat.xor_lt_two_pow h (an_lt h))
/-- a bit, as the code reads it -/
theorem bit_n {a c : Nat} : (a / 2 ^ c) &&& 1 = if a.testBit c then 1 else 0 := by
  rw [Nat.and_one_is_mod, Nat.testBit_eq_decide_div_mod_eq]
  by_cases q : a / 2 ^ c % 2 = 1
  · simp [q]
  · have : a / 2 ^ c % 2 = 0 := by omega
    simp [this]
theorem bitI {a c : Nat} (hc : c < 32) (h : a < 2 ^ 31) : andI (shrI a c) 1 = if a.testBit c then 1 else 0 := by
  rw [shrI_n hc h, show (1 : Int) = ((1 : Nat) : Int) from rfl, andI_n 1 (Nat.lt_of_le_of_lt (Nat.div_le_self _ _) h), bit_n]
  split <;> rfl
theorem bitL {a c : Nat} (hc : c < 64) (h : a < 2 ^ 62) : andL (shrL a c) 1 = if a.testBit c then 1 else 0 := by
  rw [shrL_n hc h, show (1 : Int) = ((1 : Nat) : Int) from rfl, andL_n 1 (Nat.lt_of_le_of_lt (Nat.div_le_self _ _) (by omega)), bit_n]
  split <;> rfl
theorem clr_bit (a b i : Nat) : (a ^^^ (a &&& b)).testBit i = (a.testBit i && !b.testBit i) := by
  rw [Nat.testBit_xor, Nat.testBit_and]
  cases a.testBit i <;> cases b.testBit i <;> rfl
theorem mH_ext {h g : mH} (h1 : h.1 = g.1) (h2 : ∀ q k, gI h q k = gI g q k) (h3 : ∀ q k, gL h q k = gL g q k) (h4 : ∀ q k, gR h q k = gR g q k) : h = g := by
  obtain ⟨a, b, c, d⟩ := h
  obtain ⟨a2, b2, c2, d2⟩ := g
  have e2 : b = b2 := funext fun q => funext fun k => h2 q k
  have e3 : c = c2 := funext fun q => funext fun k => h3 q k
  have e4 : d = d2 := funext fun q => funext fun k => h4 q k
  have e1 : a = a2 := h1
  subst e1 e2 e3 e4
  rfl
