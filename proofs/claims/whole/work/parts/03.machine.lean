abbrev mV : Type := Int ⊕ (Int ⊕ Option Nat)
abbrev vI (x : Int) : mV := Sum.inl x
abbrev vL (x : Int) : mV := Sum.inr (Sum.inl x)
abbrev vR (r : Option Nat) : mV := Sum.inr (Sum.inr r)
abbrev mH : Type := List (Nat × Nat) × (Nat → Nat → Int) × (Nat → Nat → Int) × (Nat → Nat → Option Nat)
abbrev mC : Type := Nat × List mV × List mV × mH
abbrev mR : Type := Option mV × mH
abbrev mO : Type := Option (mC ⊕ mR)
abbrev mCall : Type := Nat → List mV → mH → Option mR
def kd (h : mH) (a : Nat) : Nat × Nat := h.1.getD a (99, 0)
def gI (h : mH) (a k : Nat) : Int := h.2.1 a k
def gL (h : mH) (a k : Nat) : Int := h.2.2.1 a k
def gR (h : mH) (a k : Nat) : Option Nat := h.2.2.2 a k
def sI (h : mH) (a k : Nat) (x : Int) : mH := (h.1, (fun b j => if b = a ∧ j = k then x else h.2.1 b j), h.2.2.1, h.2.2.2)
def sL (h : mH) (a k : Nat) (x : Int) : mH := (h.1, h.2.1, (fun b j => if b = a ∧ j = k then x else h.2.2.1 b j), h.2.2.2)
def sR (h : mH) (a k : Nat) (x : Option Nat) : mH := (h.1, h.2.1, h.2.2.1, (fun b j => if b = a ∧ j = k then x else h.2.2.2 b j))
def nw (h : mH) (t n : Nat) : mH := (h.1 ++ [(t, n)], (fun b j => if b = h.1.length then 0 else h.2.1 b j), (fun b j => if b = h.1.length then 0 else h.2.2.1 b j), (fun b j => if b = h.1.length then none else h.2.2.2 b j))
def nws (h : mH) (t n : Nat) : Nat → mH
  | 0 => h
  | i + 1 => nw (nws h t n i) t n
def nwm (h : mH) (n k : Nat) : mH := ((nws (nw h 105 n) 100 k n).1, (nws (nw h 105 n) 100 k n).2.1, (nws (nw h 105 n) 100 k n).2.2.1, fun b j => if b = h.1.length ∧ j < n then some (h.1.length + 1 + j) else (nws (nw h 105 n) 100 k n).2.2.2 b j)
def cpI (h : mH) (a sp b dp n : Nat) : mH := (h.1, (fun q j => if q = b ∧ dp ≤ j ∧ j < dp + n then h.2.1 a (sp + (j - dp)) else h.2.1 q j), h.2.2.1, h.2.2.2)
def wr (z : Int) : Int := (Int32.ofInt z).toInt
def wrL (z : Int) : Int := (Int64.ofInt z).toInt
def andI (x y : Int) : Int := (Int32.ofInt x &&& Int32.ofInt y).toInt
def orI (x y : Int) : Int := (Int32.ofInt x ||| Int32.ofInt y).toInt
def xorI (x y : Int) : Int := (Int32.ofInt x ^^^ Int32.ofInt y).toInt
def shlI (x y : Int) : Int := (Int32.ofInt x <<< (Int32.ofInt y &&& 31)).toInt
def shrI (x y : Int) : Int := (Int32.ofInt x >>> (Int32.ofInt y &&& 31)).toInt
def ushI (x y : Int) : Int := ((Int32.ofInt x).toUInt32 >>> ((Int32.ofInt y).toUInt32 &&& Int32.toUInt32 31)).toInt32.toInt
def andL (x y : Int) : Int := (Int64.ofInt x &&& Int64.ofInt y).toInt
def orL (x y : Int) : Int := (Int64.ofInt x ||| Int64.ofInt y).toInt
def xorL (x y : Int) : Int := (Int64.ofInt x ^^^ Int64.ofInt y).toInt
def shlL (x y : Int) : Int := (Int64.ofInt x <<< ((Int32.ofInt y).toInt64 &&& 63)).toInt
def shrL (x y : Int) : Int := (Int64.ofInt x >>> ((Int32.ofInt y).toInt64 &&& 63)).toInt
def ushL (x y : Int) : Int := ((Int64.ofInt x).toUInt64 >>> ((Int32.ofInt y).toInt64.toUInt64 &&& Int64.toUInt64 63)).toInt64.toInt
def cmpL (x y : Int) : Int := if x < y then -1 else if x = y then 0 else 1
def l2i (x : Int) : Int := (Int64.ofInt x).toInt32.toInt
def i2b (x : Int) : Int := (Int32.ofInt x).toInt8.toInt32.toInt
def divI (x y : Int) : Option Int := if 0 ≤ x ∧ 0 < y then some (x / y) else none
def remI (x y : Int) : Option Int := if 0 ≤ x ∧ 0 < y then some (x % y) else none
-- the tables
abbrev mInfo : Type := Nat × MethodName × ByteArray × Nat × Option FieldType × Nat × Bool
def mI (y : Nat) : mInfo := mTab.getD y (99, ⟨"", "", ""⟩, ⟨#[]⟩, 0, none, 0, false)
def ownB (y : Nat) : Nat := (mI y).1
def namB (y : Nat) : MethodName := (mI y).2.1
def codB (y : Nat) : ByteArray := (mI y).2.2.1
def maxB (y : Nat) : Nat := (mI y).2.2.2.1
def retB (y : Nat) : Option FieldType := (mI y).2.2.2.2.1
def argB (y : Nat) : Nat := (mI y).2.2.2.2.2.1
def staB (y : Nat) : Bool := (mI y).2.2.2.2.2.2
def iniB (y : Nat) : Bool := (namB y).name == "<init>"
def fldR (own idx : Nat) : Option (Nat × Nat × Bool) := (fldT.find? (fun q => q.1.1 == own && q.1.2 == idx)).map (·.2)
def mthR (own idx : Nat) : Option (Nat × Bool) := (mthT.find? (fun q => q.1.1 == own && q.1.2 == idx)).map (·.2)
def clsR (own idx : Nat) : Option Nat := (clsT.find? (fun q => q.1.1 == own && q.1.2 == idx)).map (·.2)
def cstR (own idx : Nat) : Option Int := (cstT.find? (fun q => q.1.1 == own && q.1.2 == idx)).map (·.2)
def cstLR (own idx : Nat) : Option Int := (cstL.find? (fun q => q.1.1 == own && q.1.2 == idx)).map (·.2)
-- one step
def go (pc : Nat) (L st : List mV) (h : mH) : mO := some (Sum.inl (pc, L, st, h))
def gd (b : Bool) (o : mO) : mO := match b with
  | true => o
  | false => none
def ld (L : List mV) (i : Nat) : mV := L.getD i (vR none)
def kl (L : List mV) (i : Nat) : List mV := match i with
  | 0 => L
  | j + 1 => match ld L j with
    | .inr (.inl _) => L.set j (vR none)
    | _ => L
def s1 (L : List mV) (i : Nat) (v : mV) : List mV := (kl L i).set i v
def s2 (L : List mV) (i : Nat) (v : mV) : List mV := ((kl L i).set i v).set (i + 1) (vR none)
def catV (v : mV) : Nat := match v with
  | .inr (.inl _) => 2
  | _ => 1
def catS (st : List mV) : Nat := (st.map catV).sum
def pInt (n : Nat) (x : Int) (pc : Nat) (L st : List mV) (h : mH) : mO := go (pc + n) L (vI x :: st) h
def pLng (n : Nat) (x : Int) (pc : Nat) (L st : List mV) (h : mH) : mO := go (pc + n) L (vL x :: st) h
def ldI (n i : Nat) (pc : Nat) (L st : List mV) (h : mH) : mO := match ld L i with
  | .inl x => go (pc + n) L (vI x :: st) h
  | _ => none
def ldL (n i : Nat) (pc : Nat) (L st : List mV) (h : mH) : mO := match ld L i with
  | .inr (.inl x) => go (pc + n) L (vL x :: st) h
  | _ => none
def ldA (n i : Nat) (pc : Nat) (L st : List mV) (h : mH) : mO := match ld L i with
  | .inr (.inr (some a)) => go (pc + n) L (vR (some a) :: st) h
  | _ => none
def stI (n i : Nat) (pc : Nat) (L st : List mV) (h : mH) : mO := match st with
  | .inl x :: r => if i < L.length then go (pc + n) (s1 L i (vI x)) r h else none
  | _ => none
def stL (n i : Nat) (pc : Nat) (L st : List mV) (h : mH) : mO := match st with
  | .inr (.inl x) :: r => if i + 1 < L.length then go (pc + n) (s2 L i (vL x)) r h else none
  | _ => none
def stA (n i : Nat) (pc : Nat) (L st : List mV) (h : mH) : mO := match st with
  | .inr (.inr (some a)) :: r => if i < L.length then go (pc + n) (s1 L i (vR (some a))) r h else none
  | _ => none
def inc (i : Nat) (n : Int) (pc : Nat) (L st : List mV) (h : mH) : mO := match ld L i with
  | .inl x => go (pc + 3) (s1 L i (vI (wr (x + n)))) st h
  | _ => none
def b2I (f : Int → Int → Int) (pc : Nat) (L st : List mV) (h : mH) : mO := match st with
  | .inl y :: .inl x :: r => go (pc + 1) L (vI (f x y) :: r) h
  | _ => none
def b2O (f : Int → Int → Option Int) (pc : Nat) (L st : List mV) (h : mH) : mO := match st with
  | .inl y :: .inl x :: r => match f x y with
    | some z => go (pc + 1) L (vI z :: r) h
    | none => none
  | _ => none
def b2L (f : Int → Int → Int) (pc : Nat) (L st : List mV) (h : mH) : mO := match st with
  | .inr (.inl y) :: .inr (.inl x) :: r => go (pc + 1) L (vL (f x y) :: r) h
  | _ => none
def sfL (f : Int → Int → Int) (pc : Nat) (L st : List mV) (h : mH) : mO := match st with
  | .inl y :: .inr (.inl x) :: r => go (pc + 1) L (vL (f x y) :: r) h
  | _ => none
def cmp2 (pc : Nat) (L st : List mV) (h : mH) : mO := match st with
  | .inr (.inl y) :: .inr (.inl x) :: r => go (pc + 1) L (vI (cmpL x y) :: r) h
  | _ => none
def u1L (pc : Nat) (L st : List mV) (h : mH) : mO := match st with
  | .inr (.inl x) :: r => go (pc + 1) L (vI (l2i x) :: r) h
  | _ => none
def u1B (pc : Nat) (L st : List mV) (h : mH) : mO := match st with
  | .inl x :: r => go (pc + 1) L (vI (i2b x) :: r) h
  | _ => none
def dup1 (pc : Nat) (L st : List mV) (h : mH) : mO := match st with
  | v :: r => if catV v = 1 then go (pc + 1) L (v :: v :: r) h else none
  | _ => none
def dup22 (pc : Nat) (L st : List mV) (h : mH) : mO := match st with
  | v :: w :: r => if catV v = 1 ∧ catV w = 1 then go (pc + 1) L (v :: w :: v :: w :: r) h else none
  | _ => none
def pop1 (pc : Nat) (L st : List mV) (h : mH) : mO := match st with
  | v :: r => if catV v = 1 then go (pc + 1) L r h else none
  | _ => none
def tst (c : Jvm.ClassFile.Cond) (x y : Int) : Bool := match c with
  | .eq => decide (x = y)
  | .ne => decide (x ≠ y)
  | .lt => decide (x < y)
  | .ge => decide (y ≤ x)
  | .gt => decide (y < x)
  | .le => decide (x ≤ y)
def jmp (off : Int) (pc : Nat) (L st : List mV) (h : mH) : mO := if 0 ≤ (pc : Int) + off then go ((pc : Int) + off).toNat L st h else none
def br1 (c : Jvm.ClassFile.Cond) (off : Int) (pc : Nat) (L st : List mV) (h : mH) : mO := match st with
  | .inl x :: r => if 0 ≤ (pc : Int) + off then (if tst c x 0 = true then go ((pc : Int) + off).toNat L r h else go (pc + 3) L r h) else none
  | _ => none
def br2 (c : Jvm.ClassFile.Cond) (off : Int) (pc : Nat) (L st : List mV) (h : mH) : mO := match st with
  | .inl y :: .inl x :: r => if 0 ≤ (pc : Int) + off then (if tst c x y = true then go ((pc : Int) + off).toNat L r h else go (pc + 3) L r h) else none
  | _ => none
def tsw (d lo hi : Int) (os : Array Int) (pc : Nat) (L st : List mV) (h : mH) : mO := match st with
  | .inl x :: r => if x < lo ∨ hi < x then jmp d pc L r h else match os[(x - lo).toNat]? with
    | some off => jmp off pc L r h
    | none => none
  | _ => none
def lsw (d : Int) (ps : List (Int × Int)) (pc : Nat) (L st : List mV) (h : mH) : mO := match st with
  | .inl x :: r => if (ps.zip (ps.drop 1)).all (fun (a, next) => a.1 < next.1) = true then jmp (Op.lookupswitch.offset ps d x) pc L r h else none
  | _ => none
def ldF (h : mH) (a ci k : Nat) : mV := match clF ci k with
  | .int => vI (gI h a k)
  | .boolean => vI (gI h a k)
  | .long => vL (gL h a k)
  | _ => vR (gR h a k)
def stF (h : mH) (a ci k : Nat) (v : mV) : Option mH := match clF ci k with
  | .int => match v with
    | .inl x => some (sI h a k x)
    | _ => none
  | .boolean => match v with
    | .inl x => if x = 0 ∨ x = 1 then some (sI h a k x) else none
    | _ => none
  | .long => match v with
    | .inr (.inl x) => some (sL h a k x)
    | _ => none
  | .object _ => match v with
    | .inr (.inr (some b)) => some (sR h a k (some b))
    | _ => none
  | .array _ => match v with
    | .inr (.inr (some b)) => some (sR h a k (some b))
    | _ => none
  | _ => none
def finB (y ci k : Nat) (nest : Bool) : Bool := !(clT ci k).2.2.2 || (iniB y && ownB y == ci && !nest)
def gfd (q : Option (Nat × Nat × Bool)) (pc : Nat) (L st : List mV) (h : mH) : mO := match q with
  | some (ci, k, _) => match st with
    | .inr (.inr (some a)) :: r => if kd h a = (ci, clN ci) then go (pc + 3) L (ldF h a ci k :: r) h else none
    | _ => none
  | none => none
def pfd (y : Nat) (q : Option (Nat × Nat × Bool)) (pc : Nat) (L st : List mV) (h : mH) : mO := match q with
  | some (ci, k, nest) => match st with
    | v :: .inr (.inr (some a)) :: r => if kd h a = (ci, clN ci) ∧ finB y ci k nest = true then match stF h a ci k v with
        | some h2 => go (pc + 3) L r h2
        | none => none
      else none
    | _ => none
  | none => none
def inA (i : Int) (n : Nat) : Prop := 0 ≤ i ∧ i < n
def ald (t : Nat) (pc : Nat) (L st : List mV) (h : mH) : mO := match st with
  | .inl i :: .inr (.inr (some a)) :: r => if (kd h a).1 = t ∧ 0 ≤ i ∧ i < (kd h a).2 then go (pc + 1) L (vI (gI h a i.toNat) :: r) h else none
  | _ => none
def bld (pc : Nat) (L st : List mV) (h : mH) : mO := match st with
  | .inl i :: .inr (.inr (some a)) :: r => if ((kd h a).1 = 101 ∨ (kd h a).1 = 102) ∧ 0 ≤ i ∧ i < (kd h a).2 then go (pc + 1) L (vI (gI h a i.toNat) :: r) h else none
  | _ => none
def ast (pc : Nat) (L st : List mV) (h : mH) : mO := match st with
  | .inl x :: .inl i :: .inr (.inr (some a)) :: r => if (kd h a).1 = 100 ∧ 0 ≤ i ∧ i < (kd h a).2 then go (pc + 1) L r (sI h a i.toNat x) else none
  | _ => none
def bst (pc : Nat) (L st : List mV) (h : mH) : mO := match st with
  | .inl x :: .inl i :: .inr (.inr (some a)) :: r => if (((kd h a).1 = 101 ∧ -128 ≤ x ∧ x < 128) ∨ ((kd h a).1 = 102 ∧ (x = 0 ∨ x = 1))) ∧ 0 ≤ i ∧ i < (kd h a).2 then go (pc + 1) L r (sI h a i.toNat x) else none
  | _ => none
def qld (pc : Nat) (L st : List mV) (h : mH) : mO := match st with
  | .inl i :: .inr (.inr (some a)) :: r => if ((kd h a).1 = 103 ∨ (kd h a).1 = 104 ∨ (kd h a).1 = 105) ∧ 0 ≤ i ∧ i < (kd h a).2 then go (pc + 1) L (vR (gR h a i.toNat) :: r) h else none
  | _ => none
def qst (pc : Nat) (L st : List mV) (h : mH) : mO := match st with
  | .inr (.inr (some b)) :: .inl i :: .inr (.inr (some a)) :: r => if (((kd h a).1 = 103 ∧ (kd h b).1 = 2) ∨ ((kd h a).1 = 104 ∧ (kd h b).1 = 4)) ∧ 0 ≤ i ∧ i < (kd h a).2 then go (pc + 1) L r (sR h a i.toNat (some b)) else none
  | _ => none
def aln (pc : Nat) (L st : List mV) (h : mH) : mO := match st with
  | .inr (.inr (some a)) :: r => if 100 ≤ (kd h a).1 then go (pc + 1) L (vI ((kd h a).2 : Int) :: r) h else none
  | _ => none
def nwa (t : Nat) (n : Nat) (pc : Nat) (L st : List mV) (h : mH) : mO := match st with
  | .inl x :: r => if 0 ≤ x ∧ x ≤ 100000 then go (pc + n) L (vR (some h.1.length) :: r) (nw h t x.toNat) else none
  | _ => none
def nwq (q : Option Nat) (pc : Nat) (L st : List mV) (h : mH) : mO := match q with
  | some 2 => nwa 103 3 pc L st h
  | some 4 => nwa 104 3 pc L st h
  | _ => none
def nwo (q : Option Nat) (pc : Nat) (L st : List mV) (h : mH) : mO := match q with
  | some ci => if ci < 9 then go (pc + 3) L (vR (some h.1.length) :: st) (nw h ci (clN ci)) else none
  | none => none
def nw2 (q : Option Nat) (pc : Nat) (L st : List mV) (h : mH) : mO := match q with
  | some 105 => match st with
    | .inl k :: .inl n :: r => if 0 ≤ k ∧ k ≤ 1000 ∧ 0 ≤ n ∧ n ≤ 1000 then go (pc + 4) L (vR (some h.1.length) :: r) (nwm h n.toNat k.toNat) else none
    | _ => none
  | _ => none
def ret2 (o : Option mR) (pc : Nat) (L r : List mV) : mO := match o with
  | some q => go (pc + 3) L (q.1.toList ++ r) q.2
  | none => none
def cav (C : mCall) (ini : Bool) (q : Option (Nat × Bool)) (pc : Nat) (L st : List mV) (h : mH) : mO := match q with
  | some (y, _) => match st.drop (argB y) with
    | .inr (.inr (some b)) :: r => if kd h b = (ownB y, clN (ownB y)) ∧ ownB y < 9 ∧ y < 195 ∧ staB y = false ∧ iniB y = ini ∧ catS r ≤ 8 then ret2 (C y (vR (some b) :: (st.take (argB y)).reverse) h) pc L r else none
    | _ => none
  | none => none
def cas (C : mCall) (q : Option (Nat × Bool)) (pc : Nat) (L st : List mV) (h : mH) : mO := match q with
  | some (900, _) => match st with
    | .inl n :: .inl dp :: .inr (.inr (some b)) :: .inl sp :: .inr (.inr (some a)) :: r => if (kd h a).1 = 100 ∧ (kd h b).1 = 100 ∧ 0 ≤ sp ∧ 0 ≤ dp ∧ 0 ≤ n ∧ sp + n ≤ (kd h a).2 ∧ dp + n ≤ (kd h b).2 ∧ catS r ≤ 8 then go (pc + 3) L r (cpI h a sp.toNat b dp.toNat n.toNat) else none
    | _ => none
  | some (902, _) => match st with
    | .inl y :: .inl x :: r => if catS r ≤ 8 then go (pc + 3) L (vI (min x y) :: r) h else none
    | _ => none
  | some (y, _) => if y < 195 ∧ staB y = true ∧ argB y ≤ st.length ∧ catS (st.drop (argB y)) ≤ 8 then ret2 (C y (st.take (argB y)).reverse h) pc L (st.drop (argB y)) else none
  | none => none
def cai (C : mCall) (q : Option (Nat × Bool)) (pc : Nat) (L st : List mV) (h : mH) : mO := match q with
  | some (901, _) => match st with
    | .inr (.inr (some _)) :: r => if catS r ≤ 8 then go (pc + 3) L r h else none
    | _ => none
  | q => cav C true q pc L st h
def iret (r : Option FieldType) (st : List mV) (h : mH) : mO := match st with
  | [.inl x] => match r with
    | some .int => some (.inr (some (vI x), h))
    | some .boolean => if x = 0 ∨ x = 1 then some (.inr (some (vI x), h)) else none
    | _ => none
  | _ => none
def lret (r : Option FieldType) (st : List mV) (h : mH) : mO := match st with
  | [.inr (.inl x)] => match r with
    | some .long => some (.inr (some (vL x), h))
    | _ => none
  | _ => none
def vret (r : Option FieldType) (st : List mV) (h : mH) : mO := match st with
  | [] => match r with
    | none => some (.inr (none, h))
    | _ => none
  | _ => none
def stepI (C : mCall) (y len pc : Nat) (L st : List mV) (h : mH) (i : Instr) : mO := match i with
  | .iconst n => gd (len == 1) (pInt 1 (wr n) pc L st h)
  | .bipush n => gd (len == 2) (pInt 2 (Int8.ofInt n).toInt32.toInt pc L st h)
  | .sipush n => gd (len == 3) (pInt 3 (Int16.ofInt n).toInt32.toInt pc L st h)
  | .ldc k => match cstR (ownB y) k with
    | some x => gd (len == 2) (pInt 2 (wr x) pc L st h)
    | none => none
  | .ldc_w k => match cstR (ownB y) k with
    | some x => gd (len == 3) (pInt 3 (wr x) pc L st h)
    | none => none
  | .ldc2_w k => match cstLR (ownB y) k with
    | some x => gd (len == 3) (pLng 3 (wrL x) pc L st h)
    | none => none
  | .lconst n => gd (len == 1) (pLng 1 ((n : Nat) : Int) pc L st h)
  | .iload_n k => gd (len == 1) (ldI 1 k pc L st h)
  | .iload k => gd (len == 2) (ldI 2 k pc L st h)
  | .lload_n k => gd (len == 1) (ldL 1 k pc L st h)
  | .lload k => gd (len == 2) (ldL 2 k pc L st h)
  | .aload_n k => gd (len == 1) (ldA 1 k pc L st h)
  | .aload k => gd (len == 2) (ldA 2 k pc L st h)
  | .istore_n k => gd (len == 1) (stI 1 k pc L st h)
  | .istore k => gd (len == 2) (stI 2 k pc L st h)
  | .lstore_n k => gd (len == 1) (stL 1 k pc L st h)
  | .lstore k => gd (len == 2) (stL 2 k pc L st h)
  | .astore_n k => gd (len == 1) (stA 1 k pc L st h)
  | .astore k => gd (len == 2) (stA 2 k pc L st h)
  | .iinc k n => gd (len == 3) (inc k n pc L st h)
  | .iadd => gd (len == 1) (b2I (fun x y => wr (x + y)) pc L st h)
  | .isub => gd (len == 1) (b2I (fun x y => wr (x - y)) pc L st h)
  | .imul => gd (len == 1) (b2I (fun x y => wr (x * y)) pc L st h)
  | .idiv => gd (len == 1) (b2O divI pc L st h)
  | .irem => gd (len == 1) (b2O remI pc L st h)
  | .iand => gd (len == 1) (b2I andI pc L st h)
  | .ior => gd (len == 1) (b2I orI pc L st h)
  | .ixor => gd (len == 1) (b2I xorI pc L st h)
  | .ishl => gd (len == 1) (b2I shlI pc L st h)
  | .ishr => gd (len == 1) (b2I shrI pc L st h)
  | .iushr => gd (len == 1) (b2I ushI pc L st h)
  | .ladd => gd (len == 1) (b2L (fun x y => wrL (x + y)) pc L st h)
  | .lsub => gd (len == 1) (b2L (fun x y => wrL (x - y)) pc L st h)
  | .land => gd (len == 1) (b2L andL pc L st h)
  | .lor => gd (len == 1) (b2L orL pc L st h)
  | .lxor => gd (len == 1) (b2L xorL pc L st h)
  | .lshl => gd (len == 1) (sfL shlL pc L st h)
  | .lshr => gd (len == 1) (sfL shrL pc L st h)
  | .lushr => gd (len == 1) (sfL ushL pc L st h)
  | .lcmp => gd (len == 1) (cmp2 pc L st h)
  | .l2i => gd (len == 1) (u1L pc L st h)
  | .i2b => gd (len == 1) (u1B pc L st h)
  | .dup => gd (len == 1) (dup1 pc L st h)
  | .dup2 => gd (len == 1) (dup22 pc L st h)
  | .pop => gd (len == 1) (pop1 pc L st h)
  | .ifCond c off => gd (len == 3) (br1 c off pc L st h)
  | .if_icmp c off => gd (len == 3) (br2 c off pc L st h)
  | .goto off => gd (len == 3) (jmp off pc L st h)
  | .tableswitch d lo hi os => tsw d lo hi os pc L st h
  | .lookupswitch d ps => lsw d ps.toList pc L st h
  | .getfield k => gd (len == 3) (gfd (fldR (ownB y) k) pc L st h)
  | .putfield k => gd (len == 3) (pfd y (fldR (ownB y) k) pc L st h)
  | .iaload => gd (len == 1) (ald 100 pc L st h)
  | .baload => gd (len == 1) (bld pc L st h)
  | .iastore => gd (len == 1) (ast pc L st h)
  | .bastore => gd (len == 1) (bst pc L st h)
  | .aaload => gd (len == 1) (qld pc L st h)
  | .aastore => gd (len == 1) (qst pc L st h)
  | .arraylength => gd (len == 1) (aln pc L st h)
  | .newarray t => match t with
    | .int => gd (len == 2) (nwa 100 2 pc L st h)
    | .byte => gd (len == 2) (nwa 101 2 pc L st h)
    | .boolean => gd (len == 2) (nwa 102 2 pc L st h)
    | _ => none
  | .anewarray k => gd (len == 3) (nwq (clsR (ownB y) k) pc L st h)
  | .multianewarray k d => gd (len == 4 && d == 2) (nw2 (clsR (ownB y) k) pc L st h)
  | .new k => gd (len == 3) (nwo (clsR (ownB y) k) pc L st h)
  | .invokevirtual k => gd (len == 3) (cav C false (mthR (ownB y) k) pc L st h)
  | .invokestatic k => gd (len == 3) (cas C (mthR (ownB y) k) pc L st h)
  | .invokespecial k => gd (len == 3) (cai C (mthR (ownB y) k) pc L st h)
  | .ireturn => gd (len == 1) (iret (retB y) st h)
  | .lreturn => gd (len == 1) (lret (retB y) st h)
  | .return_ => gd (len == 1) (vret (retB y) st h)
  | _ => none
def stepA (C : mCall) (y : Nat) (c : mC) : mO := match decode (codB y) c.1 with
  | .ok (i, len) => stepI C y len c.1 c.2.1 c.2.2.1 c.2.2.2 i
  | .error _ => none
def runA (C : mCall) (y : Nat) : Nat → mC → Option mR
  | 0, _ => none
  | n + 1, c => match stepA C y c with
    | some (.inl c2) => runA C y n c2
    | some (.inr r) => some r
    | none => none
theorem runA_mono (C : mCall) (y : Nat) : ∀ (n : Nat) (c : mC) (r : mR), runA C y n c = some r → runA C y (n + 1) c = some r
  | 0, c, r, h => by cases h
  | n + 1, c, r, h => by
    unfold runA at h ⊢
    cases hs : stepA C y c with
    | none => rw [hs] at h; cases h
    | some o =>
      rw [hs] at h
      cases o with
      | inl c2 => exact runA_mono C y n c2 r h
      | inr q => exact h
theorem runA_le (C : mCall) (y : Nat) {n m : Nat} (hm : n ≤ m) {c : mC} {r : mR} (h : runA C y n c = some r) : runA C y m c = some r := by
  induction hm with
  | refl => exact h
  | step _ ih => exact runA_mono C y _ c r ih
theorem runA_one (C : mCall) (y : Nat) {n m : Nat} {c : mC} {r q : mR} (h : runA C y n c = some r) (h2 : runA C y m c = some q) : r = q := by
  have a := runA_le C y (Nat.le_max_left n m) h
  have b := runA_le C y (Nat.le_max_right n m) h2
  rw [a] at b
  exact Option.some.inj b
noncomputable def resA (C : mCall) (y : Nat) (c : mC) : Option mR :=
  @dite (Option mR) (∃ r n, runA C y n c = some r) (Classical.propDecidable _) (fun h => some (Classical.choose h)) (fun _ => none)
theorem resA_of {C : mCall} {y n : Nat} {c : mC} {r : mR} (h : runA C y n c = some r) : resA C y c = some r := by
  have hx : ∃ r n, runA C y n c = some r := ⟨r, n, h⟩
  unfold resA
  rw [dif_pos hx]
  obtain ⟨k, hk⟩ := Classical.choose_spec hx
  rw [runA_one C y hk h]
theorem resA_run {C : mCall} {y : Nat} {c : mC} {r : mR} (h : resA C y c = some r) : ∃ n, runA C y n c = some r := by
  unfold resA at h
  by_cases hx : ∃ r n, runA C y n c = some r
  · rw [dif_pos hx] at h
    obtain ⟨k, hk⟩ := Classical.choose_spec hx
    exact ⟨k, by rw [hk, Option.some.inj h]⟩
  · rw [dif_neg hx] at h
    cases h
theorem resA_step {C : mCall} {y : Nat} {c c2 : mC} (h : stepA C y c = some (.inl c2)) : resA C y c = resA C y c2 := by
  cases h2 : resA C y c2 with
  | some r =>
    obtain ⟨n, hn⟩ := resA_run h2
    exact resA_of (n := n + 1) (by unfold runA; rw [h]; exact hn)
  | none =>
    cases h1 : resA C y c with
    | none => rfl
    | some r =>
      obtain ⟨n, hn⟩ := resA_run h1
      cases n with
      | zero => cases hn
      | succ n =>
        unfold runA at hn
        rw [h] at hn
        rw [resA_of (n := n) hn] at h2
        cases h2
theorem resA_ret {C : mCall} {y : Nat} {c : mC} {r : mR} (h : stepA C y c = some (.inr r)) : resA C y c = some r :=
  resA_of (n := 1) (by unfold runA; rw [h])
def layL (as : List mV) : List mV := as.flatMap (fun v => match v with
  | .inr (.inl x) => [vL x, vR none]
  | v => [v])
def initL (y : Nat) (as : List mV) : List mV := layL as ++ List.replicate (maxB y - (layL as).length) (vR none)
noncomputable def callA : Nat → mCall
  | 0 => fun _ _ _ => none
  | d + 1 => fun y as h => if (layL as).length ≤ maxB y then resA (callA d) y (0, initL y as, [], h) else none
