section RUL
variable {C : mCall} {y pc pc2 n i : Nat} {L L2 st : List mV} {h : mH} {x z v : Int}
theorem rs {ins : Instr} {len : Nat} {k : mC} (hd : decode (codB y) pc = .ok (ins, len)) (hs : stepI C y len pc L st h ins = some (.inl k)) : resA C y (pc, L, st, h) = resA C y k := resA_step (by unfold stepA; dsimp only; rw [hd]; exact hs)
theorem rr {ins : Instr} {len : Nat} {q : mR} (hd : decode (codB y) pc = .ok (ins, len)) (hs : stepI C y len pc L st h ins = some (.inr q)) : resA C y (pc, L, st, h) = some q := resA_ret (by unfold stepA; dsimp only; rw [hd]; exact hs)
theorem R_iconst {n : Int} (hd : decode (codB y) pc = .ok (.iconst n, 1)) (hv : wr n = v) (hp : pc + 1 = pc2) : resA C y (pc, L, st, h) = resA C y (pc2, L, Sum.inl v :: st, h) := by subst hv hp; exact rs hd rfl
theorem R_bipush {n : Int} (hd : decode (codB y) pc = .ok (.bipush n, 2)) (hv : (Int8.ofInt n).toInt32.toInt = v) (hp : pc + 2 = pc2) : resA C y (pc, L, st, h) = resA C y (pc2, L, Sum.inl v :: st, h) := by subst hv hp; exact rs hd rfl
theorem R_sipush {n : Int} (hd : decode (codB y) pc = .ok (.sipush n, 3)) (hv : (Int16.ofInt n).toInt32.toInt = v) (hp : pc + 3 = pc2) : resA C y (pc, L, st, h) = resA C y (pc2, L, Sum.inl v :: st, h) := by subst hv hp; exact rs hd rfl
theorem R_ldc {k : Nat} (hd : decode (codB y) pc = .ok (.ldc k, 2)) (hq : cstR (ownB y) k = some x) (hv : wr x = v) (hp : pc + 2 = pc2) : resA C y (pc, L, st, h) = resA C y (pc2, L, Sum.inl v :: st, h) := by subst hv hp; exact rs hd (by unfold stepI; dsimp only; rw [hq]; rfl)
theorem R_ldc_w {k : Nat} (hd : decode (codB y) pc = .ok (.ldc_w k, 3)) (hq : cstR (ownB y) k = some x) (hv : wr x = v) (hp : pc + 3 = pc2) : resA C y (pc, L, st, h) = resA C y (pc2, L, Sum.inl v :: st, h) := by subst hv hp; exact rs hd (by unfold stepI; dsimp only; rw [hq]; rfl)
theorem R_ldc2_w {k : Nat} (hd : decode (codB y) pc = .ok (.ldc2_w k, 3)) (hq : cstLR (ownB y) k = some x) (hv : wrL x = v) (hp : pc + 3 = pc2) : resA C y (pc, L, st, h) = resA C y (pc2, L, Sum.inr (Sum.inl v) :: st, h) := by subst hv hp; exact rs hd (by unfold stepI; dsimp only; rw [hq]; rfl)
theorem R_lconst {n : Fin 2} (hd : decode (codB y) pc = .ok (.lconst n, 1)) (hv : ((n : Nat) : Int) = v) (hp : pc + 1 = pc2) : resA C y (pc, L, st, h) = resA C y (pc2, L, Sum.inr (Sum.inl v) :: st, h) := by subst hv hp; exact rs hd rfl
theorem R_iload_n {k : Fin 4} (hd : decode (codB y) pc = .ok (.iload_n k, 1)) (hl : ld L (k : Nat) = Sum.inl x) (hp : pc + 1 = pc2) : resA C y (pc, L, st, h) = resA C y (pc2, L, Sum.inl x :: st, h) := by subst hp; exact rs hd (by show ldI 1 _ _ _ _ _ = _; unfold ldI; rw [hl]; rfl)
theorem R_iload {k : Nat} (hd : decode (codB y) pc = .ok (.iload k, 2)) (hl : ld L (k : Nat) = Sum.inl x) (hp : pc + 2 = pc2) : resA C y (pc, L, st, h) = resA C y (pc2, L, Sum.inl x :: st, h) := by subst hp; exact rs hd (by show ldI 2 _ _ _ _ _ = _; unfold ldI; rw [hl]; rfl)
theorem R_lload_n {k : Fin 4} (hd : decode (codB y) pc = .ok (.lload_n k, 1)) (hl : ld L (k : Nat) = Sum.inr (Sum.inl x)) (hp : pc + 1 = pc2) : resA C y (pc, L, st, h) = resA C y (pc2, L, Sum.inr (Sum.inl x) :: st, h) := by subst hp; exact rs hd (by show ldL 1 _ _ _ _ _ = _; unfold ldL; rw [hl]; rfl)
theorem R_lload {k : Nat} (hd : decode (codB y) pc = .ok (.lload k, 2)) (hl : ld L (k : Nat) = Sum.inr (Sum.inl x)) (hp : pc + 2 = pc2) : resA C y (pc, L, st, h) = resA C y (pc2, L, Sum.inr (Sum.inl x) :: st, h) := by subst hp; exact rs hd (by show ldL 2 _ _ _ _ _ = _; unfold ldL; rw [hl]; rfl)
theorem R_aload_n {a : Nat} {k : Fin 4} (hd : decode (codB y) pc = .ok (.aload_n k, 1)) (hl : ld L (k : Nat) = Sum.inr (Sum.inr (some a))) (hp : pc + 1 = pc2) : resA C y (pc, L, st, h) = resA C y (pc2, L, Sum.inr (Sum.inr (some a)) :: st, h) := by subst hp; exact rs hd (by show ldA 1 _ _ _ _ _ = _; unfold ldA; rw [hl]; rfl)
theorem R_aload {a k : Nat} (hd : decode (codB y) pc = .ok (.aload k, 2)) (hl : ld L (k : Nat) = Sum.inr (Sum.inr (some a))) (hp : pc + 2 = pc2) : resA C y (pc, L, st, h) = resA C y (pc2, L, Sum.inr (Sum.inr (some a)) :: st, h) := by subst hp; exact rs hd (by show ldA 2 _ _ _ _ _ = _; unfold ldA; rw [hl]; rfl)
theorem kl_id (hc : i = 0 ∨ catV (ld L (i - 1)) = 1) : kl L i = L := by
  cases i with
  | zero => rfl
  | succ j =>
    rcases hc with q | q
    · cases q
    · rw [Nat.add_sub_cancel] at q
      show (match ld L j with
        | .inr (.inl _) => L.set j (vR none)
        | _ => L) = L
      cases hk : ld L j with
      | inl x => rfl
      | inr w =>
        cases w with
        | inl x => rw [hk] at q; cases q
        | inr r => rfl
theorem R_istore_n {k : Fin 4} (hd : decode (codB y) pc = .ok (.istore_n k, 1)) (hi : (k : Nat) < L.length) (h2 : L.set k (Sum.inl x) = L2) (hp : pc + 1 = pc2) (hc : (k : Nat) = 0 ∨ catV (ld L ((k : Nat) - 1)) = 1) : resA C y (pc, L, Sum.inl x :: st, h) = resA C y (pc2, L2, st, h) := by
  subst h2 hp
  exact rs hd (show stI 1 (k : Nat) pc L (Sum.inl x :: st) h = some (.inl (pc + 1, _, st, h)) from by unfold stI; dsimp only; rw [if_pos hi]; unfold s1; rw [kl_id hc]; rfl)
theorem R_istore {k : Nat} (hd : decode (codB y) pc = .ok (.istore k, 2)) (hi : (k : Nat) < L.length) (h2 : L.set k (Sum.inl x) = L2) (hp : pc + 2 = pc2) (hc : (k : Nat) = 0 ∨ catV (ld L ((k : Nat) - 1)) = 1) : resA C y (pc, L, Sum.inl x :: st, h) = resA C y (pc2, L2, st, h) := by
  subst h2 hp
  exact rs hd (show stI 2 (k : Nat) pc L (Sum.inl x :: st) h = some (.inl (pc + 2, _, st, h)) from by unfold stI; dsimp only; rw [if_pos hi]; unfold s1; rw [kl_id hc]; rfl)
theorem R_astore_n {a : Nat} {k : Fin 4} (hd : decode (codB y) pc = .ok (.astore_n k, 1)) (hi : (k : Nat) < L.length) (h2 : L.set k (Sum.inr (Sum.inr (some a))) = L2) (hp : pc + 1 = pc2) (hc : (k : Nat) = 0 ∨ catV (ld L ((k : Nat) - 1)) = 1) : resA C y (pc, L, Sum.inr (Sum.inr (some a)) :: st, h) = resA C y (pc2, L2, st, h) := by
  subst h2 hp
  exact rs hd (show stA 1 (k : Nat) pc L (Sum.inr (Sum.inr (some a)) :: st) h = some (.inl (pc + 1, _, st, h)) from by unfold stA; dsimp only; rw [if_pos hi]; unfold s1; rw [kl_id hc]; rfl)
theorem R_astore {a k : Nat} (hd : decode (codB y) pc = .ok (.astore k, 2)) (hi : (k : Nat) < L.length) (h2 : L.set k (Sum.inr (Sum.inr (some a))) = L2) (hp : pc + 2 = pc2) (hc : (k : Nat) = 0 ∨ catV (ld L ((k : Nat) - 1)) = 1) : resA C y (pc, L, Sum.inr (Sum.inr (some a)) :: st, h) = resA C y (pc2, L2, st, h) := by
  subst h2 hp
  exact rs hd (show stA 2 (k : Nat) pc L (Sum.inr (Sum.inr (some a)) :: st) h = some (.inl (pc + 2, _, st, h)) from by unfold stA; dsimp only; rw [if_pos hi]; unfold s1; rw [kl_id hc]; rfl)
theorem R_lstore_n {k : Fin 4} (hd : decode (codB y) pc = .ok (.lstore_n k, 1)) (hi : (k : Nat) + 1 < L.length) (h2 : (L.set k (Sum.inr (Sum.inl x))).set (k + 1) (Sum.inr (Sum.inr none)) = L2) (hp : pc + 1 = pc2) (hc : (k : Nat) = 0 ∨ catV (ld L ((k : Nat) - 1)) = 1) : resA C y (pc, L, Sum.inr (Sum.inl x) :: st, h) = resA C y (pc2, L2, st, h) := by
  subst h2 hp
  exact rs hd (show stL 1 (k : Nat) pc L (Sum.inr (Sum.inl x) :: st) h = some (.inl (pc + 1, _, st, h)) from by unfold stL; dsimp only; rw [if_pos hi]; unfold s2; rw [kl_id hc]; rfl)
theorem R_lstore {k : Nat} (hd : decode (codB y) pc = .ok (.lstore k, 2)) (hi : (k : Nat) + 1 < L.length) (h2 : (L.set k (Sum.inr (Sum.inl x))).set (k + 1) (Sum.inr (Sum.inr none)) = L2) (hp : pc + 2 = pc2) (hc : (k : Nat) = 0 ∨ catV (ld L ((k : Nat) - 1)) = 1) : resA C y (pc, L, Sum.inr (Sum.inl x) :: st, h) = resA C y (pc2, L2, st, h) := by
  subst h2 hp
  exact rs hd (show stL 2 (k : Nat) pc L (Sum.inr (Sum.inl x) :: st) h = some (.inl (pc + 2, _, st, h)) from by unfold stL; dsimp only; rw [if_pos hi]; unfold s2; rw [kl_id hc]; rfl)
theorem R_iinc {k : Nat} {n : Int} (hd : decode (codB y) pc = .ok (.iinc k n, 3)) (hl : ld L k = Sum.inl x) (h2 : L.set k (Sum.inl (x + n)) = L2) (hp : pc + 3 = pc2) (hc : k = 0 ∨ catV (ld L (k - 1)) = 1) (hr : -2147483648 ≤ x + n ∧ x + n < 2147483648) : resA C y (pc, L, st, h) = resA C y (pc2, L2, st, h) := by
  subst h2 hp
  exact rs hd (by show inc k n pc L st h = _; unfold inc; rw [hl]; dsimp only; unfold s1; rw [kl_id hc, wr_id hr]; rfl)
theorem R_iadd (hd : decode (codB y) pc = .ok (.iadd, 1)) (hp : pc + 1 = pc2) (hr : -2147483648 ≤ x + z ∧ x + z < 2147483648) : resA C y (pc, L, Sum.inl z :: Sum.inl x :: st, h) = resA C y (pc2, L, Sum.inl (x + z) :: st, h) := by subst hp; exact (rs hd rfl).trans (by show resA C y (pc + 1, L, Sum.inl (wr (x + z)) :: st, h) = _; rw [wr_id hr])
theorem R_isub (hd : decode (codB y) pc = .ok (.isub, 1)) (hp : pc + 1 = pc2) (hr : -2147483648 ≤ x - z ∧ x - z < 2147483648) : resA C y (pc, L, Sum.inl z :: Sum.inl x :: st, h) = resA C y (pc2, L, Sum.inl (x - z) :: st, h) := by subst hp; exact (rs hd rfl).trans (by show resA C y (pc + 1, L, Sum.inl (wr (x - z)) :: st, h) = _; rw [wr_id hr])
theorem R_imul (hd : decode (codB y) pc = .ok (.imul, 1)) (hp : pc + 1 = pc2) (hr : -2147483648 ≤ x * z ∧ x * z < 2147483648) : resA C y (pc, L, Sum.inl z :: Sum.inl x :: st, h) = resA C y (pc2, L, Sum.inl (x * z) :: st, h) := by subst hp; exact (rs hd rfl).trans (by show resA C y (pc + 1, L, Sum.inl (wr (x * z)) :: st, h) = _; rw [wr_id hr])
theorem R_iaddw (hd : decode (codB y) pc = .ok (.iadd, 1)) (hp : pc + 1 = pc2) : resA C y (pc, L, Sum.inl z :: Sum.inl x :: st, h) = resA C y (pc2, L, Sum.inl (wr (x + z)) :: st, h) := by subst hp; exact rs hd rfl
theorem R_isubw (hd : decode (codB y) pc = .ok (.isub, 1)) (hp : pc + 1 = pc2) : resA C y (pc, L, Sum.inl z :: Sum.inl x :: st, h) = resA C y (pc2, L, Sum.inl (wr (x - z)) :: st, h) := by subst hp; exact rs hd rfl
theorem R_idiv (hd : decode (codB y) pc = .ok (.idiv, 1)) (hp : pc + 1 = pc2) (hr : 0 ≤ x ∧ 0 < z) : resA C y (pc, L, Sum.inl z :: Sum.inl x :: st, h) = resA C y (pc2, L, Sum.inl (x / z) :: st, h) := by
  subst hp
  exact rs hd (by show b2O divI pc L (Sum.inl z :: Sum.inl x :: st) h = _; unfold b2O divI; dsimp only; rw [if_pos hr]; rfl)
theorem R_irem (hd : decode (codB y) pc = .ok (.irem, 1)) (hp : pc + 1 = pc2) (hr : 0 ≤ x ∧ 0 < z) : resA C y (pc, L, Sum.inl z :: Sum.inl x :: st, h) = resA C y (pc2, L, Sum.inl (x % z) :: st, h) := by
  subst hp
  exact rs hd (by show b2O remI pc L (Sum.inl z :: Sum.inl x :: st) h = _; unfold b2O remI; dsimp only; rw [if_pos hr]; rfl)
theorem R_iand (hd : decode (codB y) pc = .ok (.iand, 1)) (hp : pc + 1 = pc2) : resA C y (pc, L, Sum.inl z :: Sum.inl x :: st, h) = resA C y (pc2, L, Sum.inl (andI x z) :: st, h) := by subst hp; exact rs hd rfl
theorem R_ior (hd : decode (codB y) pc = .ok (.ior, 1)) (hp : pc + 1 = pc2) : resA C y (pc, L, Sum.inl z :: Sum.inl x :: st, h) = resA C y (pc2, L, Sum.inl (orI x z) :: st, h) := by subst hp; exact rs hd rfl
theorem R_ixor (hd : decode (codB y) pc = .ok (.ixor, 1)) (hp : pc + 1 = pc2) : resA C y (pc, L, Sum.inl z :: Sum.inl x :: st, h) = resA C y (pc2, L, Sum.inl (xorI x z) :: st, h) := by subst hp; exact rs hd rfl
theorem R_ishl (hd : decode (codB y) pc = .ok (.ishl, 1)) (hp : pc + 1 = pc2) : resA C y (pc, L, Sum.inl z :: Sum.inl x :: st, h) = resA C y (pc2, L, Sum.inl (shlI x z) :: st, h) := by subst hp; exact rs hd rfl
theorem R_ishr (hd : decode (codB y) pc = .ok (.ishr, 1)) (hp : pc + 1 = pc2) : resA C y (pc, L, Sum.inl z :: Sum.inl x :: st, h) = resA C y (pc2, L, Sum.inl (shrI x z) :: st, h) := by subst hp; exact rs hd rfl
theorem R_iushr (hd : decode (codB y) pc = .ok (.iushr, 1)) (hp : pc + 1 = pc2) : resA C y (pc, L, Sum.inl z :: Sum.inl x :: st, h) = resA C y (pc2, L, Sum.inl (ushI x z) :: st, h) := by subst hp; exact rs hd rfl
theorem R_ladd (hd : decode (codB y) pc = .ok (.ladd, 1)) (hp : pc + 1 = pc2) : resA C y (pc, L, Sum.inr (Sum.inl z) :: Sum.inr (Sum.inl x) :: st, h) = resA C y (pc2, L, Sum.inr (Sum.inl (wrL (x + z))) :: st, h) := by subst hp; exact rs hd rfl
theorem R_lsub (hd : decode (codB y) pc = .ok (.lsub, 1)) (hp : pc + 1 = pc2) : resA C y (pc, L, Sum.inr (Sum.inl z) :: Sum.inr (Sum.inl x) :: st, h) = resA C y (pc2, L, Sum.inr (Sum.inl (wrL (x - z))) :: st, h) := by subst hp; exact rs hd rfl
theorem R_land (hd : decode (codB y) pc = .ok (.land, 1)) (hp : pc + 1 = pc2) : resA C y (pc, L, Sum.inr (Sum.inl z) :: Sum.inr (Sum.inl x) :: st, h) = resA C y (pc2, L, Sum.inr (Sum.inl (andL x z)) :: st, h) := by subst hp; exact rs hd rfl
theorem R_lor (hd : decode (codB y) pc = .ok (.lor, 1)) (hp : pc + 1 = pc2) : resA C y (pc, L, Sum.inr (Sum.inl z) :: Sum.inr (Sum.inl x) :: st, h) = resA C y (pc2, L, Sum.inr (Sum.inl (orL x z)) :: st, h) := by subst hp; exact rs hd rfl
theorem R_lxor (hd : decode (codB y) pc = .ok (.lxor, 1)) (hp : pc + 1 = pc2) : resA C y (pc, L, Sum.inr (Sum.inl z) :: Sum.inr (Sum.inl x) :: st, h) = resA C y (pc2, L, Sum.inr (Sum.inl (xorL x z)) :: st, h) := by subst hp; exact rs hd rfl
theorem R_lshl (hd : decode (codB y) pc = .ok (.lshl, 1)) (hp : pc + 1 = pc2) : resA C y (pc, L, Sum.inl z :: Sum.inr (Sum.inl x) :: st, h) = resA C y (pc2, L, Sum.inr (Sum.inl (shlL x z)) :: st, h) := by subst hp; exact rs hd rfl
theorem R_lshr (hd : decode (codB y) pc = .ok (.lshr, 1)) (hp : pc + 1 = pc2) : resA C y (pc, L, Sum.inl z :: Sum.inr (Sum.inl x) :: st, h) = resA C y (pc2, L, Sum.inr (Sum.inl (shrL x z)) :: st, h) := by subst hp; exact rs hd rfl
theorem R_lushr (hd : decode (codB y) pc = .ok (.lushr, 1)) (hp : pc + 1 = pc2) : resA C y (pc, L, Sum.inl z :: Sum.inr (Sum.inl x) :: st, h) = resA C y (pc2, L, Sum.inr (Sum.inl (ushL x z)) :: st, h) := by subst hp; exact rs hd rfl
theorem R_lcmp (hd : decode (codB y) pc = .ok (.lcmp, 1)) (hp : pc + 1 = pc2) : resA C y (pc, L, Sum.inr (Sum.inl z) :: Sum.inr (Sum.inl x) :: st, h) = resA C y (pc2, L, Sum.inl (cmpL x z) :: st, h) := by subst hp; exact rs hd rfl
theorem R_l2i (hd : decode (codB y) pc = .ok (.l2i, 1)) (hp : pc + 1 = pc2) : resA C y (pc, L, Sum.inr (Sum.inl x) :: st, h) = resA C y (pc2, L, Sum.inl (l2i x) :: st, h) := by subst hp; exact rs hd rfl
theorem R_i2b (hd : decode (codB y) pc = .ok (.i2b, 1)) (hp : pc + 1 = pc2) : resA C y (pc, L, Sum.inl x :: st, h) = resA C y (pc2, L, Sum.inl (i2b x) :: st, h) := by subst hp; exact rs hd rfl
theorem R_dup {u : mV} (hd : decode (codB y) pc = .ok (.dup, 1)) (hp : pc + 1 = pc2) (hc : catV u = 1) : resA C y (pc, L, u :: st, h) = resA C y (pc2, L, u :: u :: st, h) := by subst hp; exact rs hd (show dup1 pc L (u :: st) h = some (.inl (pc + 1, L, u :: u :: st, h)) from by unfold dup1; dsimp only; rw [if_pos hc]; rfl)
theorem R_dup2 {u w : mV} (hd : decode (codB y) pc = .ok (.dup2, 1)) (hp : pc + 1 = pc2) (hc : catV u = 1) (hc2 : catV w = 1) : resA C y (pc, L, u :: w :: st, h) = resA C y (pc2, L, u :: w :: u :: w :: st, h) := by subst hp; exact rs hd (show dup22 pc L (u :: w :: st) h = some (.inl (pc + 1, L, u :: w :: u :: w :: st, h)) from by unfold dup22; dsimp only; rw [if_pos ⟨hc, hc2⟩]; rfl)
theorem R_pop {u : mV} (hd : decode (codB y) pc = .ok (.pop, 1)) (hp : pc + 1 = pc2) (hc : catV u = 1) : resA C y (pc, L, u :: st, h) = resA C y (pc2, L, st, h) := by subst hp; exact rs hd (show pop1 pc L (u :: st) h = some (.inl (pc + 1, L, st, h)) from by unfold pop1; dsimp only; rw [if_pos hc]; rfl)
theorem R_goto {off : Int} (hd : decode (codB y) pc = .ok (.goto off, 3)) (hp : (pc : Int) + off = (pc2 : Int)) : resA C y (pc, L, st, h) = resA C y (pc2, L, st, h) := by
  refine rs hd ?_
  show jmp off pc L st h = _
  unfold jmp
  rw [hp, if_pos (by omega)]
  rfl
theorem br_go {c : Jvm.ClassFile.Cond} {off : Int} {pc3 : Nat} {r : List mV} (hp : (pc : Int) + off = (pc2 : Int)) (h3 : pc + 3 = pc3) : (if 0 ≤ (pc : Int) + off then (if tst c x z = true then go ((pc : Int) + off).toNat L r h else go (pc + 3) L r h) else none) = (if tst c x z = true then go pc2 L r h else go pc3 L r h) := by
  rw [hp, if_pos (by omega), h3]
  rfl
theorem R_if1 {c : Jvm.ClassFile.Cond} {off : Int} {pc3 : Nat} (hd : decode (codB y) pc = .ok (.ifCond c off, 3)) (hp : (pc : Int) + off = (pc2 : Int)) (h3 : pc + 3 = pc3) : resA C y (pc, L, Sum.inl x :: st, h) = if tst c x 0 = true then resA C y (pc2, L, st, h) else resA C y (pc3, L, st, h) := by
  by_cases q : tst c x 0 = true
  · rw [if_pos q]
    exact rs hd (show br1 c off pc L (Sum.inl x :: st) h = some (.inl (pc2, L, st, h)) from by unfold br1; dsimp only; rw [br_go hp h3, if_pos q]; rfl)
  · rw [if_neg q]
    exact rs hd (show br1 c off pc L (Sum.inl x :: st) h = some (.inl (pc3, L, st, h)) from by unfold br1; dsimp only; rw [br_go hp h3, if_neg q]; rfl)
theorem R_if2 {c : Jvm.ClassFile.Cond} {off : Int} {pc3 : Nat} (hd : decode (codB y) pc = .ok (.if_icmp c off, 3)) (hp : (pc : Int) + off = (pc2 : Int)) (h3 : pc + 3 = pc3) : resA C y (pc, L, Sum.inl z :: Sum.inl x :: st, h) = if tst c x z = true then resA C y (pc2, L, st, h) else resA C y (pc3, L, st, h) := by
  by_cases q : tst c x z = true
  · rw [if_pos q]
    exact rs hd (show br2 c off pc L (Sum.inl z :: Sum.inl x :: st) h = some (.inl (pc2, L, st, h)) from by unfold br2; dsimp only; rw [br_go hp h3, if_pos q]; rfl)
  · rw [if_neg q]
    exact rs hd (show br2 c off pc L (Sum.inl z :: Sum.inl x :: st) h = some (.inl (pc3, L, st, h)) from by unfold br2; dsimp only; rw [br_go hp h3, if_neg q]; rfl)
theorem ite_c {α : Type} {p q : Prop} [Decidable p] [Decidable q] (h : p = q) (A B : α) : (if p then A else B) = if q then A else B := by subst h; by_cases z : p <;> simp [z]
theorem tt_eq : (tst .eq x z = true) = (x = z) := by simp [tst]
theorem tt_ne : (tst .ne x z = true) = (x ≠ z) := by simp [tst]
theorem tt_lt : (tst .lt x z = true) = (x < z) := by simp [tst]
theorem tt_ge : (tst .ge x z = true) = (z ≤ x) := by simp [tst]
theorem tt_gt : (tst .gt x z = true) = (z < x) := by simp [tst]
theorem tt_le : (tst .le x z = true) = (x ≤ z) := by simp [tst]
theorem R_tsw {d lo hi off : Int} {os : Array Int} {len : Nat} (hd : decode (codB y) pc = .ok (.tableswitch d lo hi os, len)) (h1 : lo ≤ x ∧ x ≤ hi) (ho : os[(x - lo).toNat]? = some off) (hp : (pc : Int) + off = (pc2 : Int)) : resA C y (pc, L, Sum.inl x :: st, h) = resA C y (pc2, L, st, h) := by
  refine rs hd ?_
  show tsw d lo hi os pc L (Sum.inl x :: st) h = _
  unfold tsw
  dsimp only
  rw [if_neg (by omega), ho]
  dsimp only
  unfold jmp
  rw [hp, if_pos (by omega)]
  rfl
theorem R_tswo {d lo hi : Int} {os : Array Int} {len : Nat} (hd : decode (codB y) pc = .ok (.tableswitch d lo hi os, len)) (hp : (pc : Int) + d = (pc2 : Int)) (h1 : x < lo ∨ hi < x) : resA C y (pc, L, Sum.inl x :: st, h) = resA C y (pc2, L, st, h) := by
  refine rs hd ?_
  show tsw d lo hi os pc L (Sum.inl x :: st) h = _
  unfold tsw
  dsimp only
  rw [if_pos h1]
  unfold jmp
  rw [hp, if_pos (by omega)]
  rfl
theorem R_lsw {d : Int} {ps : Array (Int × Int)} {off : Int} {len : Nat} (hd : decode (codB y) pc = .ok (.lookupswitch d ps, len)) (hs : (ps.toList.zip (ps.toList.drop 1)).all (fun (a, next) => a.1 < next.1) = true) (ho : Op.lookupswitch.offset ps.toList d x = off) (hp : (pc : Int) + off = (pc2 : Int)) : resA C y (pc, L, Sum.inl x :: st, h) = resA C y (pc2, L, st, h) := by
  refine rs hd ?_
  show lsw d ps.toList pc L (Sum.inl x :: st) h = _
  unfold lsw
  dsimp only
  rw [if_pos hs, ho]
  unfold jmp
  rw [hp, if_pos (by omega)]
  rfl
theorem kd_of {a ci m : Nat} (h1 : (kd h a).1 = ci) (h2 : (kd h a).2 = m) : kd h a = (ci, m) := Prod.ext h1 h2
theorem R_get {a ci k m ix : Nat} {nest : Bool} {u : mV} (hd : decode (codB y) pc = .ok (.getfield ix, 3)) (hq : fldR (ownB y) ix = some (ci, k, nest)) (hm : clN ci = m) (hu : ldF h a ci k = u) (hp : pc + 3 = pc2) (h1 : (kd h a).1 = ci) (h2 : (kd h a).2 = m) : resA C y (pc, L, Sum.inr (Sum.inr (some a)) :: st, h) = resA C y (pc2, L, u :: st, h) := by
  subst hp hu hm
  exact rs hd (by show gfd (fldR (ownB y) ix) pc L (Sum.inr (Sum.inr (some a)) :: st) h = _; rw [hq]; unfold gfd; dsimp only; rw [if_pos (kd_of h1 h2)]; rfl)
theorem R_put {a ci k m ix : Nat} {nest : Bool} {u : mV} {h2 : mH} (hd : decode (codB y) pc = .ok (.putfield ix, 3)) (hq : fldR (ownB y) ix = some (ci, k, nest)) (hf : finB y ci k nest = true) (hm : clN ci = m) (hu : stF h a ci k u = some h2) (hp : pc + 3 = pc2) (h1 : (kd h a).1 = ci) (h3 : (kd h a).2 = m) : resA C y (pc, L, u :: Sum.inr (Sum.inr (some a)) :: st, h) = resA C y (pc2, L, st, h2) := by
  subst hp hm
  exact rs hd (by show pfd y (fldR (ownB y) ix) pc L (u :: Sum.inr (Sum.inr (some a)) :: st) h = _; rw [hq]; unfold pfd; dsimp only; rw [if_pos ⟨kd_of h1 h3, hf⟩, hu]; rfl)
theorem R_iaload {a : Nat} (hd : decode (codB y) pc = .ok (.iaload, 1)) (hp : pc + 1 = pc2) (h1 : (kd h a).1 = 100) (h0 : 0 ≤ x) (h2 : x < (kd h a).2) : resA C y (pc, L, Sum.inl x :: Sum.inr (Sum.inr (some a)) :: st, h) = resA C y (pc2, L, Sum.inl (gI h a x.toNat) :: st, h) := by
  subst hp
  exact rs hd (by show ald 100 pc L (Sum.inl x :: Sum.inr (Sum.inr (some a)) :: st) h = _; unfold ald; dsimp only; rw [if_pos ⟨h1, h0, h2⟩]; rfl)
theorem R_baload {a : Nat} (hd : decode (codB y) pc = .ok (.baload, 1)) (hp : pc + 1 = pc2) (h1 : (kd h a).1 = 101 ∨ (kd h a).1 = 102) (h0 : 0 ≤ x) (h2 : x < (kd h a).2) : resA C y (pc, L, Sum.inl x :: Sum.inr (Sum.inr (some a)) :: st, h) = resA C y (pc2, L, Sum.inl (gI h a x.toNat) :: st, h) := by
  subst hp
  exact rs hd (by show bld pc L (Sum.inl x :: Sum.inr (Sum.inr (some a)) :: st) h = _; unfold bld; dsimp only; rw [if_pos ⟨h1, h0, h2⟩]; rfl)
theorem R_iastore {a : Nat} (hd : decode (codB y) pc = .ok (.iastore, 1)) (hp : pc + 1 = pc2) (h1 : (kd h a).1 = 100) (h0 : 0 ≤ x) (h2 : x < (kd h a).2) : resA C y (pc, L, Sum.inl z :: Sum.inl x :: Sum.inr (Sum.inr (some a)) :: st, h) = resA C y (pc2, L, st, sI h a x.toNat z) := by
  subst hp
  exact rs hd (by show ast pc L (Sum.inl z :: Sum.inl x :: Sum.inr (Sum.inr (some a)) :: st) h = _; unfold ast; dsimp only; rw [if_pos ⟨h1, h0, h2⟩]; rfl)
theorem R_bastore {a : Nat} (hd : decode (codB y) pc = .ok (.bastore, 1)) (hp : pc + 1 = pc2) (h1 : ((kd h a).1 = 101 ∧ -128 ≤ z ∧ z < 128) ∨ ((kd h a).1 = 102 ∧ (z = 0 ∨ z = 1))) (h0 : 0 ≤ x) (h2 : x < (kd h a).2) : resA C y (pc, L, Sum.inl z :: Sum.inl x :: Sum.inr (Sum.inr (some a)) :: st, h) = resA C y (pc2, L, st, sI h a x.toNat z) := by
  subst hp
  exact rs hd (by show bst pc L (Sum.inl z :: Sum.inl x :: Sum.inr (Sum.inr (some a)) :: st) h = _; unfold bst; dsimp only; rw [if_pos ⟨h1, h0, h2⟩]; rfl)
theorem R_aaload {a : Nat} (hd : decode (codB y) pc = .ok (.aaload, 1)) (hp : pc + 1 = pc2) (h1 : (kd h a).1 = 103 ∨ (kd h a).1 = 104 ∨ (kd h a).1 = 105) (h0 : 0 ≤ x) (h2 : x < (kd h a).2) : resA C y (pc, L, Sum.inl x :: Sum.inr (Sum.inr (some a)) :: st, h) = resA C y (pc2, L, Sum.inr (Sum.inr (gR h a x.toNat)) :: st, h) := by
  subst hp
  exact rs hd (by show qld pc L (Sum.inl x :: Sum.inr (Sum.inr (some a)) :: st) h = _; unfold qld; dsimp only; rw [if_pos ⟨h1, h0, h2⟩]; rfl)
theorem R_aastore {a b : Nat} (hd : decode (codB y) pc = .ok (.aastore, 1)) (hp : pc + 1 = pc2) (h1 : ((kd h a).1 = 103 ∧ (kd h b).1 = 2) ∨ ((kd h a).1 = 104 ∧ (kd h b).1 = 4)) (h0 : 0 ≤ x) (h2 : x < (kd h a).2) : resA C y (pc, L, Sum.inr (Sum.inr (some b)) :: Sum.inl x :: Sum.inr (Sum.inr (some a)) :: st, h) = resA C y (pc2, L, st, sR h a x.toNat (some b)) := by
  subst hp
  exact rs hd (by show qst pc L (Sum.inr (Sum.inr (some b)) :: Sum.inl x :: Sum.inr (Sum.inr (some a)) :: st) h = _; unfold qst; dsimp only; rw [if_pos ⟨h1, h0, h2⟩]; rfl)
theorem R_alen {a : Nat} (hd : decode (codB y) pc = .ok (.arraylength, 1)) (hp : pc + 1 = pc2) (h1 : 100 ≤ (kd h a).1) : resA C y (pc, L, Sum.inr (Sum.inr (some a)) :: st, h) = resA C y (pc2, L, Sum.inl ((kd h a).2 : Int) :: st, h) := by
  subst hp
  exact rs hd (by show aln pc L (Sum.inr (Sum.inr (some a)) :: st) h = _; unfold aln; dsimp only; rw [if_pos h1]; rfl)
/-- behind a call -/
noncomputable def aft (C : mCall) (y pc : Nat) (L st : List mV) (o : Option mR) : Option mR := match o with
  | some q => resA C y (pc, L, q.1.toList ++ st, q.2)
  | none => none
theorem aft_i : aft C y pc L st (some (some (Sum.inl x), h)) = resA C y (pc, L, Sum.inl x :: st, h) := rfl
theorem aft_l : aft C y pc L st (some (some (Sum.inr (Sum.inl x)), h)) = resA C y (pc, L, Sum.inr (Sum.inl x) :: st, h) := rfl
theorem aft_v : aft C y pc L st (some (none, h)) = resA C y (pc, L, st, h) := rfl
theorem cat_0 : catS [] ≤ 8 := Nat.le_of_ble_eq_true rfl
theorem resA_stuck {C : mCall} {y : Nat} {c : mC} (h : stepA C y c = none) : resA C y c = none := by
  cases h1 : resA C y c with
  | none => rfl
  | some r =>
    obtain ⟨n, hn⟩ := resA_run h1
    cases n with
    | zero => cases hn
    | succ n =>
      unfold runA at hn
      rw [h] at hn
      cases hn
theorem ret_aft {r : List mV} {o : Option mR} (hs : stepA C y (pc, L, st, h) = ret2 o pc L r) (hp : pc + 3 = pc2) : resA C y (pc, L, st, h) = aft C y pc2 L r o := by
  subst hp
  cases o with
  | none => exact resA_stuck hs
  | some q => exact resA_step hs
theorem R_cav {ix y2 b : Nat} {nest ini : Bool} {ins : Instr} {r as : List mV} (hd : decode (codB y) pc = .ok (ins, 3)) (hi : ins = .invokevirtual ix ∧ ini = false ∨ ins = .invokespecial ix ∧ ini = true) (hq : mthR (ownB y) ix = some (y2, nest)) (h9 : ini = true → y2 ≠ 901) (hs : st.drop (argB y2) = Sum.inr (Sum.inr (some b)) :: r ∧ (st.take (argB y2)).reverse = as) (hc : ownB y2 < 9 ∧ y2 < 195 ∧ staB y2 = false ∧ iniB y2 = ini) (hp : pc + 3 = pc2) (hcat : catS r ≤ 8) (h1 : (kd h b).1 = ownB y2) (h2 : (kd h b).2 = clN (ownB y2)) : resA C y (pc, L, st, h) = aft C y pc2 L r (C y2 (Sum.inr (Sum.inr (some b)) :: as) h) := by
  have key : cav C ini (some (y2, nest)) pc L st h = ret2 (C y2 (Sum.inr (Sum.inr (some b)) :: as) h) pc L r := by
    unfold cav
    dsimp only
    rw [hs.1]
    dsimp only
    rw [if_pos ⟨kd_of h1 h2, hc.1, hc.2.1, hc.2.2.1, hc.2.2.2, hcat⟩, hs.2]
  refine ret_aft ?_ hp
  unfold stepA
  dsimp only
  rw [hd]
  dsimp only
  rcases hi with ⟨rfl, rfl⟩ | ⟨rfl, rfl⟩
  · show cav C false (mthR (ownB y) ix) pc L st h = _
    rw [hq, key]
  · show cai C (mthR (ownB y) ix) pc L st h = _
    rw [hq, ← key]
    show cai C (some (y2, nest)) pc L st h = _
    unfold cai
    split
    next hz => injection hz with hz; injection hz with hz; exact absurd hz (h9 rfl)
    next => rfl
theorem R_cas {ix y2 : Nat} {nest : Bool} {r as : List mV} (hd : decode (codB y) pc = .ok (.invokestatic ix, 3)) (hq : mthR (ownB y) ix = some (y2, nest)) (h9 : y2 < 195) (hs : st.drop (argB y2) = r ∧ (st.take (argB y2)).reverse = as ∧ argB y2 ≤ st.length) (hc : staB y2 = true) (hp : pc + 3 = pc2) (hcat : catS r ≤ 8) : resA C y (pc, L, st, h) = aft C y pc2 L r (C y2 as h) := by
  refine ret_aft ?_ hp
  unfold stepA
  dsimp only
  rw [hd]
  show cas C (mthR (ownB y) ix) pc L st h = _
  rw [hq]
  show cas C (some (y2, nest)) pc L st h = _
  unfold cas
  split
  next hz => injection hz with hz; injection hz with hz; omega
  next hz => injection hz with hz; injection hz with hz; omega
  next hz =>
    injection hz with hz
    injection hz with hz
    subst hz
    rw [if_pos ⟨h9, hc, hs.2.2, by rw [hs.1]; exact hcat⟩, hs.1, hs.2.1]
  next hz => cases hz
theorem R_min {ix : Nat} {nest : Bool} (hd : decode (codB y) pc = .ok (.invokestatic ix, 3)) (hq : mthR (ownB y) ix = some (902, nest)) (hp : pc + 3 = pc2) (hcat : catS st ≤ 8) : resA C y (pc, L, Sum.inl z :: Sum.inl x :: st, h) = resA C y (pc2, L, Sum.inl (min x z) :: st, h) := by
  subst hp
  refine rs hd ?_
  show cas C (mthR (ownB y) ix) pc L (Sum.inl z :: Sum.inl x :: st) h = _
  rw [hq]
  show (if _ then _ else _) = _
  rw [if_pos hcat]
  rfl
theorem R_cpy {ix a b : Nat} {sp dp m : Int} {nest : Bool} (hd : decode (codB y) pc = .ok (.invokestatic ix, 3)) (hq : mthR (ownB y) ix = some (900, nest)) (hp : pc + 3 = pc2) (hcat : catS st ≤ 8) (ha : (kd h a).1 = 100) (hb : (kd h b).1 = 100) (h0 : 0 ≤ sp ∧ 0 ≤ dp ∧ 0 ≤ m) (h1 : sp + m ≤ (kd h a).2) (h2 : dp + m ≤ (kd h b).2) : resA C y (pc, L, Sum.inl m :: Sum.inl dp :: Sum.inr (Sum.inr (some b)) :: Sum.inl sp :: Sum.inr (Sum.inr (some a)) :: st, h) = resA C y (pc2, L, st, cpI h a sp.toNat b dp.toNat m.toNat) := by
  subst hp
  refine rs hd ?_
  show cas C (mthR (ownB y) ix) pc L (Sum.inl m :: Sum.inl dp :: Sum.inr (Sum.inr (some b)) :: Sum.inl sp :: Sum.inr (Sum.inr (some a)) :: st) h = _
  rw [hq]
  show (if _ then _ else _) = _
  rw [if_pos ⟨ha, hb, h0.1, h0.2.1, h0.2.2, h1, h2, hcat⟩]
  rfl
theorem R_oin {ix a : Nat} {nest : Bool} (hd : decode (codB y) pc = .ok (.invokespecial ix, 3)) (hq : mthR (ownB y) ix = some (901, nest)) (hp : pc + 3 = pc2) (hcat : catS st ≤ 8) : resA C y (pc, L, Sum.inr (Sum.inr (some a)) :: st, h) = resA C y (pc2, L, st, h) := by
  subst hp
  refine rs hd ?_
  show cai C (mthR (ownB y) ix) pc L (Sum.inr (Sum.inr (some a)) :: st) h = _
  rw [hq]
  show (if _ then _ else _) = _
  rw [if_pos hcat]
  rfl
theorem R_newarray {t : Nat} {ty : ArrayType} (hd : decode (codB y) pc = .ok (.newarray ty, 2)) (ht : ty = .int ∧ t = 100 ∨ ty = .byte ∧ t = 101 ∨ ty = .boolean ∧ t = 102) (hp : pc + 2 = pc2) (hx : 0 ≤ x ∧ x ≤ 100000) : resA C y (pc, L, Sum.inl x :: st, h) = resA C y (pc2, L, Sum.inr (Sum.inr (some h.1.length)) :: st, nw h t x.toNat) := by
  subst hp
  rcases ht with ⟨rfl, rfl⟩ | ⟨rfl, rfl⟩ | ⟨rfl, rfl⟩ <;> exact rs hd (by show nwa _ 2 pc L (Sum.inl x :: st) h = _; unfold nwa; dsimp only; rw [if_pos hx]; rfl)
theorem R_anew {ix ci t : Nat} (hd : decode (codB y) pc = .ok (.anewarray ix, 3)) (hq : clsR (ownB y) ix = some ci) (ht : ci = 2 ∧ t = 103 ∨ ci = 4 ∧ t = 104) (hp : pc + 3 = pc2) (hx : 0 ≤ x ∧ x ≤ 100000) : resA C y (pc, L, Sum.inl x :: st, h) = resA C y (pc2, L, Sum.inr (Sum.inr (some h.1.length)) :: st, nw h t x.toNat) := by
  subst hp
  rcases ht with ⟨rfl, rfl⟩ | ⟨rfl, rfl⟩ <;> exact rs hd (by show nwq (clsR (ownB y) ix) pc L (Sum.inl x :: st) h = _; rw [hq]; show nwa _ 3 pc L (Sum.inl x :: st) h = _; unfold nwa; dsimp only; rw [if_pos hx]; rfl)
theorem R_new {ix ci m : Nat} (hd : decode (codB y) pc = .ok (.new ix, 3)) (hq : clsR (ownB y) ix = some ci) (hc : ci < 9 ∧ clN ci = m) (hp : pc + 3 = pc2) : resA C y (pc, L, st, h) = resA C y (pc2, L, Sum.inr (Sum.inr (some h.1.length)) :: st, nw h ci m) := by
  obtain ⟨c9, rfl⟩ := hc
  subst hp
  exact rs hd (by show nwo (clsR (ownB y) ix) pc L st h = _; rw [hq]; unfold nwo; dsimp only; rw [if_pos c9]; rfl)
theorem R_multi {ix : Nat} (hd : decode (codB y) pc = .ok (.multianewarray ix 2, 4)) (hq : clsR (ownB y) ix = some 105) (hp : pc + 4 = pc2) (hx : 0 ≤ z ∧ z ≤ 1000 ∧ 0 ≤ x ∧ x ≤ 1000) : resA C y (pc, L, Sum.inl z :: Sum.inl x :: st, h) = resA C y (pc2, L, Sum.inr (Sum.inr (some h.1.length)) :: st, nwm h x.toNat z.toNat) := by
  subst hp
  exact rs hd (by show nw2 (clsR (ownB y) ix) pc L (Sum.inl z :: Sum.inl x :: st) h = _; rw [hq]; unfold nw2; dsimp only; rw [if_pos hx]; rfl)
theorem R_ireturn (hd : decode (codB y) pc = .ok (.ireturn, 1)) (hr : retB y = some .int) : resA C y (pc, L, [Sum.inl x], h) = some (some (Sum.inl x), h) := rr hd (by show iret (retB y) [Sum.inl x] h = _; rw [hr]; rfl)
theorem R_zreturn (hd : decode (codB y) pc = .ok (.ireturn, 1)) (hr : retB y = some .boolean) (hx : x = 0 ∨ x = 1) : resA C y (pc, L, [Sum.inl x], h) = some (some (Sum.inl x), h) := rr hd (by show iret (retB y) [Sum.inl x] h = _; rw [hr]; unfold iret; dsimp only; rw [if_pos hx])
theorem R_lreturn (hd : decode (codB y) pc = .ok (.lreturn, 1)) (hr : retB y = some .long) : resA C y (pc, L, [Sum.inr (Sum.inl x)], h) = some (some (Sum.inr (Sum.inl x)), h) := rr hd (by show lret (retB y) [Sum.inr (Sum.inl x)] h = _; rw [hr]; rfl)
theorem R_return (hd : decode (codB y) pc = .ok (.return_, 1)) (hr : retB y = none) : resA C y (pc, L, [], h) = some (none, h) := rr hd (by show vret (retB y) [] h = _; rw [hr]; rfl)
theorem callA_eq {d : Nat} {as : List mV} (hl : (layL as).length ≤ maxB y) (hL : initL y as = L) : callA (d + 1) y as h = resA (callA d) y (0, L, [], h) := by
  subst hL
  show (if _ then _ else _) = _
  rw [if_pos hl]
end RUL
theorem kd_sI (h : mH) (a k : Nat) (x : Int) : kd (sI h a k x) = kd h := rfl
theorem kd_sL (h : mH) (a k : Nat) (x : Int) : kd (sL h a k x) = kd h := rfl
theorem kd_sR (h : mH) (a k : Nat) (x : Option Nat) : kd (sR h a k x) = kd h := rfl
theorem kd_cp (h : mH) (a sp b dp n : Nat) : kd (cpI h a sp b dp n) = kd h := rfl
theorem gI_sL (h : mH) (a k : Nat) (x : Int) : gI (sL h a k x) = gI h := rfl
theorem gI_sR (h : mH) (a k : Nat) (x : Option Nat) : gI (sR h a k x) = gI h := rfl
theorem gL_sI (h : mH) (a k : Nat) (x : Int) : gL (sI h a k x) = gL h := rfl
theorem gL_sR (h : mH) (a k : Nat) (x : Option Nat) : gL (sR h a k x) = gL h := rfl
theorem gR_sI (h : mH) (a k : Nat) (x : Int) : gR (sI h a k x) = gR h := rfl
theorem gR_sL (h : mH) (a k : Nat) (x : Int) : gR (sL h a k x) = gR h := rfl
theorem gL_cp (h : mH) (a sp b dp n : Nat) : gL (cpI h a sp b dp n) = gL h := rfl
theorem gR_cp (h : mH) (a sp b dp n : Nat) : gR (cpI h a sp b dp n) = gR h := rfl
theorem gI_cp (h : mH) (a sp b dp n q j : Nat) : gI (cpI h a sp b dp n) q j = if q = b ∧ dp ≤ j ∧ j < dp + n then gI h a (sp + (j - dp)) else gI h q j := rfl
