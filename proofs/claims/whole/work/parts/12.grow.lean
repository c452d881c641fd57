theorem go_h {pc : Nat} {L st : List mV} {h : mH} {k : mC} (hs : go pc L st h = some (.inl k)) : k.2.2.2.1 = h.1 := by have := go_inv hs; subst this; rfl
theorem jmp_h {off : Int} {pc : Nat} {L st : List mV} {h : mH} {k : mC} (hs : jmp off pc L st h = some (.inl k)) : k.2.2.2.1 = h.1 := by obtain ⟨_, _, e⟩ := jmp_inv hs; subst e; rfl
theorem pInt_h {n : Nat} {x : Int} {pc : Nat} {L st : List mV} {h : mH} {k : mC} (hs : pInt n x pc L st h = some (.inl k)) : k.2.2.2.1 = h.1 := by
  unfold pInt at hs
  repeat (first | exact go_h hs | exact jmp_h hs | (exact absurd hs (by intro z; cases z)) | split at hs)
  all_goals first | exact go_h hs | exact jmp_h hs | cases hs
theorem pLng_h {n : Nat} {x : Int} {pc : Nat} {L st : List mV} {h : mH} {k : mC} (hs : pLng n x pc L st h = some (.inl k)) : k.2.2.2.1 = h.1 := by
  unfold pLng at hs
  repeat (first | exact go_h hs | exact jmp_h hs | (exact absurd hs (by intro z; cases z)) | split at hs)
  all_goals first | exact go_h hs | exact jmp_h hs | cases hs
theorem ldI_h {n i : Nat} {pc : Nat} {L st : List mV} {h : mH} {k : mC} (hs : ldI n i pc L st h = some (.inl k)) : k.2.2.2.1 = h.1 := by
  unfold ldI at hs
  repeat (first | exact go_h hs | exact jmp_h hs | (exact absurd hs (by intro z; cases z)) | split at hs)
  all_goals first | exact go_h hs | exact jmp_h hs | cases hs
theorem ldL_h {n i : Nat} {pc : Nat} {L st : List mV} {h : mH} {k : mC} (hs : ldL n i pc L st h = some (.inl k)) : k.2.2.2.1 = h.1 := by
  unfold ldL at hs
  repeat (first | exact go_h hs | exact jmp_h hs | (exact absurd hs (by intro z; cases z)) | split at hs)
  all_goals first | exact go_h hs | exact jmp_h hs | cases hs
theorem ldA_h {n i : Nat} {pc : Nat} {L st : List mV} {h : mH} {k : mC} (hs : ldA n i pc L st h = some (.inl k)) : k.2.2.2.1 = h.1 := by
  unfold ldA at hs
  repeat (first | exact go_h hs | exact jmp_h hs | (exact absurd hs (by intro z; cases z)) | split at hs)
  all_goals first | exact go_h hs | exact jmp_h hs | cases hs
theorem stI_h {n i : Nat} {pc : Nat} {L st : List mV} {h : mH} {k : mC} (hs : stI n i pc L st h = some (.inl k)) : k.2.2.2.1 = h.1 := by
  unfold stI at hs
  repeat (first | exact go_h hs | exact jmp_h hs | (exact absurd hs (by intro z; cases z)) | split at hs)
  all_goals first | exact go_h hs | exact jmp_h hs | cases hs
theorem stL_h {n i : Nat} {pc : Nat} {L st : List mV} {h : mH} {k : mC} (hs : stL n i pc L st h = some (.inl k)) : k.2.2.2.1 = h.1 := by
  unfold stL at hs
  repeat (first | exact go_h hs | exact jmp_h hs | (exact absurd hs (by intro z; cases z)) | split at hs)
  all_goals first | exact go_h hs | exact jmp_h hs | cases hs
theorem stA_h {n i : Nat} {pc : Nat} {L st : List mV} {h : mH} {k : mC} (hs : stA n i pc L st h = some (.inl k)) : k.2.2.2.1 = h.1 := by
  unfold stA at hs
  repeat (first | exact go_h hs | exact jmp_h hs | (exact absurd hs (by intro z; cases z)) | split at hs)
  all_goals first | exact go_h hs | exact jmp_h hs | cases hs
theorem inc_h {i : Nat} {n : Int} {pc : Nat} {L st : List mV} {h : mH} {k : mC} (hs : inc i n pc L st h = some (.inl k)) : k.2.2.2.1 = h.1 := by
  unfold inc at hs
  repeat (first | exact go_h hs | exact jmp_h hs | (exact absurd hs (by intro z; cases z)) | split at hs)
  all_goals first | exact go_h hs | exact jmp_h hs | cases hs
theorem b2I_h {f : Int → Int → Int} {pc : Nat} {L st : List mV} {h : mH} {k : mC} (hs : b2I f pc L st h = some (.inl k)) : k.2.2.2.1 = h.1 := by
  unfold b2I at hs
  repeat (first | exact go_h hs | exact jmp_h hs | (exact absurd hs (by intro z; cases z)) | split at hs)
  all_goals first | exact go_h hs | exact jmp_h hs | cases hs
theorem b2O_h {f : Int → Int → Option Int} {pc : Nat} {L st : List mV} {h : mH} {k : mC} (hs : b2O f pc L st h = some (.inl k)) : k.2.2.2.1 = h.1 := by
  unfold b2O at hs
  repeat (first | exact go_h hs | exact jmp_h hs | (exact absurd hs (by intro z; cases z)) | split at hs)
  all_goals first | exact go_h hs | exact jmp_h hs | cases hs
theorem b2L_h {f : Int → Int → Int} {pc : Nat} {L st : List mV} {h : mH} {k : mC} (hs : b2L f pc L st h = some (.inl k)) : k.2.2.2.1 = h.1 := by
  unfold b2L at hs
  repeat (first | exact go_h hs | exact jmp_h hs | (exact absurd hs (by intro z; cases z)) | split at hs)
  all_goals first | exact go_h hs | exact jmp_h hs | cases hs
theorem sfL_h {f : Int → Int → Int} {pc : Nat} {L st : List mV} {h : mH} {k : mC} (hs : sfL f pc L st h = some (.inl k)) : k.2.2.2.1 = h.1 := by
  unfold sfL at hs
  repeat (first | exact go_h hs | exact jmp_h hs | (exact absurd hs (by intro z; cases z)) | split at hs)
  all_goals first | exact go_h hs | exact jmp_h hs | cases hs
theorem cmp2_h  {pc : Nat} {L st : List mV} {h : mH} {k : mC} (hs : cmp2  pc L st h = some (.inl k)) : k.2.2.2.1 = h.1 := by
  unfold cmp2 at hs
  repeat (first | exact go_h hs | exact jmp_h hs | (exact absurd hs (by intro z; cases z)) | split at hs)
  all_goals first | exact go_h hs | exact jmp_h hs | cases hs
theorem u1L_h  {pc : Nat} {L st : List mV} {h : mH} {k : mC} (hs : u1L  pc L st h = some (.inl k)) : k.2.2.2.1 = h.1 := by
  unfold u1L at hs
  repeat (first | exact go_h hs | exact jmp_h hs | (exact absurd hs (by intro z; cases z)) | split at hs)
  all_goals first | exact go_h hs | exact jmp_h hs | cases hs
theorem u1B_h  {pc : Nat} {L st : List mV} {h : mH} {k : mC} (hs : u1B  pc L st h = some (.inl k)) : k.2.2.2.1 = h.1 := by
  unfold u1B at hs
  repeat (first | exact go_h hs | exact jmp_h hs | (exact absurd hs (by intro z; cases z)) | split at hs)
  all_goals first | exact go_h hs | exact jmp_h hs | cases hs
theorem dup1_h  {pc : Nat} {L st : List mV} {h : mH} {k : mC} (hs : dup1  pc L st h = some (.inl k)) : k.2.2.2.1 = h.1 := by
  unfold dup1 at hs
  repeat (first | exact go_h hs | exact jmp_h hs | (exact absurd hs (by intro z; cases z)) | split at hs)
  all_goals first | exact go_h hs | exact jmp_h hs | cases hs
theorem dup22_h  {pc : Nat} {L st : List mV} {h : mH} {k : mC} (hs : dup22  pc L st h = some (.inl k)) : k.2.2.2.1 = h.1 := by
  unfold dup22 at hs
  repeat (first | exact go_h hs | exact jmp_h hs | (exact absurd hs (by intro z; cases z)) | split at hs)
  all_goals first | exact go_h hs | exact jmp_h hs | cases hs
theorem pop1_h  {pc : Nat} {L st : List mV} {h : mH} {k : mC} (hs : pop1  pc L st h = some (.inl k)) : k.2.2.2.1 = h.1 := by
  unfold pop1 at hs
  repeat (first | exact go_h hs | exact jmp_h hs | (exact absurd hs (by intro z; cases z)) | split at hs)
  all_goals first | exact go_h hs | exact jmp_h hs | cases hs
theorem br1_h {q : Jvm.ClassFile.Cond} {off : Int} {pc : Nat} {L st : List mV} {h : mH} {k : mC} (hs : br1 q off pc L st h = some (.inl k)) : k.2.2.2.1 = h.1 := by
  unfold br1 at hs
  repeat (first | exact go_h hs | exact jmp_h hs | (exact absurd hs (by intro z; cases z)) | split at hs)
  all_goals first | exact go_h hs | exact jmp_h hs | cases hs
theorem br2_h {q : Jvm.ClassFile.Cond} {off : Int} {pc : Nat} {L st : List mV} {h : mH} {k : mC} (hs : br2 q off pc L st h = some (.inl k)) : k.2.2.2.1 = h.1 := by
  unfold br2 at hs
  repeat (first | exact go_h hs | exact jmp_h hs | (exact absurd hs (by intro z; cases z)) | split at hs)
  all_goals first | exact go_h hs | exact jmp_h hs | cases hs
theorem tsw_h {d lo hi : Int} {os : Array Int} {pc : Nat} {L st : List mV} {h : mH} {k : mC} (hs : tsw d lo hi os pc L st h = some (.inl k)) : k.2.2.2.1 = h.1 := by
  unfold tsw at hs
  repeat (first | exact go_h hs | exact jmp_h hs | (exact absurd hs (by intro z; cases z)) | split at hs)
  all_goals first | exact go_h hs | exact jmp_h hs | cases hs
theorem lsw_h {d : Int} {ps : List (Int × Int)} {pc : Nat} {L st : List mV} {h : mH} {k : mC} (hs : lsw d ps pc L st h = some (.inl k)) : k.2.2.2.1 = h.1 := by
  unfold lsw at hs
  repeat (first | exact go_h hs | exact jmp_h hs | (exact absurd hs (by intro z; cases z)) | split at hs)
  all_goals first | exact go_h hs | exact jmp_h hs | cases hs
theorem gfd_h {q : Option (Nat × Nat × Bool)} {pc : Nat} {L st : List mV} {h : mH} {k : mC} (hs : gfd q pc L st h = some (.inl k)) : k.2.2.2.1 = h.1 := by
  unfold gfd at hs
  repeat (first | exact go_h hs | exact jmp_h hs | (exact absurd hs (by intro z; cases z)) | split at hs)
  all_goals first | exact go_h hs | exact jmp_h hs | cases hs
theorem ald_h {t : Nat} {pc : Nat} {L st : List mV} {h : mH} {k : mC} (hs : ald t pc L st h = some (.inl k)) : k.2.2.2.1 = h.1 := by
  unfold ald at hs
  repeat (first | exact go_h hs | exact jmp_h hs | (exact absurd hs (by intro z; cases z)) | split at hs)
  all_goals first | exact go_h hs | exact jmp_h hs | cases hs
theorem bld_h  {pc : Nat} {L st : List mV} {h : mH} {k : mC} (hs : bld  pc L st h = some (.inl k)) : k.2.2.2.1 = h.1 := by
  unfold bld at hs
  repeat (first | exact go_h hs | exact jmp_h hs | (exact absurd hs (by intro z; cases z)) | split at hs)
  all_goals first | exact go_h hs | exact jmp_h hs | cases hs
theorem qld_h  {pc : Nat} {L st : List mV} {h : mH} {k : mC} (hs : qld  pc L st h = some (.inl k)) : k.2.2.2.1 = h.1 := by
  unfold qld at hs
  repeat (first | exact go_h hs | exact jmp_h hs | (exact absurd hs (by intro z; cases z)) | split at hs)
  all_goals first | exact go_h hs | exact jmp_h hs | cases hs
theorem aln_h  {pc : Nat} {L st : List mV} {h : mH} {k : mC} (hs : aln  pc L st h = some (.inl k)) : k.2.2.2.1 = h.1 := by
  unfold aln at hs
  repeat (first | exact go_h hs | exact jmp_h hs | (exact absurd hs (by intro z; cases z)) | split at hs)
  all_goals first | exact go_h hs | exact jmp_h hs | cases hs
theorem ast_h {pc : Nat} {L st : List mV} {h : mH} {k : mC} (hs : ast pc L st h = some (.inl k)) : k.2.2.2.1 = h.1 := by
  unfold ast at hs
  split at hs
  · split at hs
    · have e := go_h hs; exact e
    · cases hs
  · cases hs
theorem bst_h {pc : Nat} {L st : List mV} {h : mH} {k : mC} (hs : bst pc L st h = some (.inl k)) : k.2.2.2.1 = h.1 := by
  unfold bst at hs
  split at hs
  · split at hs
    · have e := go_h hs; exact e
    · cases hs
  · cases hs
theorem qst_h {pc : Nat} {L st : List mV} {h : mH} {k : mC} (hs : qst pc L st h = some (.inl k)) : k.2.2.2.1 = h.1 := by
  unfold qst at hs
  split at hs
  · split at hs
    · have e := go_h hs; exact e
    · cases hs
  · cases hs
theorem stF_h {h h2 : mH} {a ci k : Nat} {v : mV} (e : stF h a ci k v = some h2) : h2.1 = h.1 := by
  unfold stF at e
  split at e
  · split at e
    · cases e; rfl
    · cases e
  · split at e
    · split at e
      · cases e; rfl
      · cases e
    · cases e
  · split at e
    · cases e; rfl
    · cases e
  · split at e
    · cases e; rfl
    · cases e
  · split at e
    · cases e; rfl
    · cases e
  · cases e
theorem pfd_h {y : Nat} {q : Option (Nat × Nat × Bool)} {pc : Nat} {L st : List mV} {h : mH} {k : mC} (hs : pfd y q pc L st h = some (.inl k)) : k.2.2.2.1 = h.1 := by
  unfold pfd at hs
  split at hs
  · split at hs
    · split at hs
      · split at hs
        next h2 e => exact (go_h hs).trans (stF_h e)
        next => cases hs
      · cases hs
    · cases hs
  · cases hs
theorem nwa_h {t n : Nat} {pc : Nat} {L st : List mV} {h : mH} {k : mC} (hs : nwa t n pc L st h = some (.inl k)) : h.1 <+: k.2.2.2.1 := by
  unfold nwa at hs
  split at hs
  · split at hs
    · rw [go_h hs]; exact ⟨_, rfl⟩
    · cases hs
  · cases hs
theorem nwq_h {q : Option Nat} {pc : Nat} {L st : List mV} {h : mH} {k : mC} (hs : nwq q pc L st h = some (.inl k)) : h.1 <+: k.2.2.2.1 := by
  unfold nwq at hs
  split at hs
  · exact nwa_h hs
  · exact nwa_h hs
  · cases hs
theorem nwo_h {q : Option Nat} {pc : Nat} {L st : List mV} {h : mH} {k : mC} (hs : nwo q pc L st h = some (.inl k)) : h.1 <+: k.2.2.2.1 := by
  unfold nwo at hs
  split at hs
  · split at hs
    · rw [go_h hs]; exact ⟨_, rfl⟩
    · cases hs
  · cases hs
theorem nw2_h {q : Option Nat} {pc : Nat} {L st : List mV} {h : mH} {k : mC} (hs : nw2 q pc L st h = some (.inl k)) : h.1 <+: k.2.2.2.1 := by
  unfold nw2 at hs
  split at hs
  · split at hs
    · split at hs
      · rw [go_h hs]; exact (nwm_ext h _ _).1
      · cases hs
    · cases hs
  · cases hs
def MNC (C : mCall) : Prop := ∀ (y : Nat) (as : List mV) (h : mH) (r : Option mV) (h2 : mH), C y as h = some (r, h2) → h.1 <+: h2.1
theorem cav_h {C : mCall} (hC : MNC C) {ini : Bool} {q : Option (Nat × Bool)} {pc : Nat} {L st : List mV} {h : mH} {k : mC} (hs : cav C ini q pc L st h = some (.inl k)) : h.1 <+: k.2.2.2.1 := by
  unfold cav at hs
  split at hs
  · split at hs
    · split at hs
      · unfold ret2 at hs
        split at hs
        next qr e => rw [go_h hs]; exact hC _ _ _ _ _ e
        next => cases hs
      · cases hs
    · cases hs
  · cases hs
theorem cas_h {C : mCall} (hC : MNC C) {q : Option (Nat × Bool)} {pc : Nat} {L st : List mV} {h : mH} {k : mC} (hs : cas C q pc L st h = some (.inl k)) : h.1 <+: k.2.2.2.1 := by
  unfold cas at hs
  split at hs
  · split at hs
    · split at hs
      · rw [go_h hs]; exact List.prefix_rfl
      · cases hs
    · cases hs
  · split at hs
    · split at hs
      · rw [go_h hs]; exact List.prefix_rfl
      · cases hs
    · cases hs
  · split at hs
    · unfold ret2 at hs
      split at hs
      next qr e => rw [go_h hs]; exact hC _ _ _ _ _ e
      next => cases hs
    · cases hs
  · cases hs
theorem cai_h {C : mCall} (hC : MNC C) {q : Option (Nat × Bool)} {pc : Nat} {L st : List mV} {h : mH} {k : mC} (hs : cai C q pc L st h = some (.inl k)) : h.1 <+: k.2.2.2.1 := by
  unfold cai at hs
  split at hs
  · split at hs
    · split at hs
      · rw [go_h hs]; exact List.prefix_rfl
      · cases hs
    · cases hs
  · exact cav_h hC hs
theorem gd_inv {b : Bool} {o : mO} {x : mC ⊕ mR} (h : gd b o = some x) : b = true ∧ o = some x := by
  unfold gd at h
  split at h
  · exact ⟨rfl, h⟩
  · cases h
theorem pre_of {a b : List (Nat × Nat)} (h : b = a) : a <+: b := by rw [h]; exact List.prefix_rfl
theorem iret_n {r : Option FieldType} {st : List mV} {h : mH} {k : mC} (hs : iret r st h = some (.inl k)) : False := by
  unfold iret at hs
  split at hs
  · split at hs
    · cases hs
    · split at hs <;> cases hs
    · cases hs
  · cases hs
theorem lret_n {r : Option FieldType} {st : List mV} {h : mH} {k : mC} (hs : lret r st h = some (.inl k)) : False := by
  unfold lret at hs
  split at hs
  · split at hs <;> cases hs
  · cases hs
theorem vret_n {r : Option FieldType} {st : List mV} {h : mH} {k : mC} (hs : vret r st h = some (.inl k)) : False := by
  unfold vret at hs
  split at hs
  · split at hs <;> cases hs
  · cases hs
theorem step_h {C : mCall} (hC : MNC C) {y len pc : Nat} {L st : List mV} {h : mH} {i : Instr} {k : mC} (hs : stepI C y len pc L st h i = some (.inl k)) : h.1 <+: k.2.2.2.1 := by
  unfold stepI at hs
  cases i with
  | iconst n => exact pre_of (pInt_h (gd_inv hs).2)
  | bipush n => exact pre_of (pInt_h (gd_inv hs).2)
  | sipush n => exact pre_of (pInt_h (gd_inv hs).2)
  | lconst n => exact pre_of (pLng_h (gd_inv hs).2)
  | iload_n j => exact pre_of (ldI_h (gd_inv hs).2)
  | iload j => exact pre_of (ldI_h (gd_inv hs).2)
  | lload_n j => exact pre_of (ldL_h (gd_inv hs).2)
  | lload j => exact pre_of (ldL_h (gd_inv hs).2)
  | aload_n j => exact pre_of (ldA_h (gd_inv hs).2)
  | aload j => exact pre_of (ldA_h (gd_inv hs).2)
  | istore_n j => exact pre_of (stI_h (gd_inv hs).2)
  | istore j => exact pre_of (stI_h (gd_inv hs).2)
  | lstore_n j => exact pre_of (stL_h (gd_inv hs).2)
  | lstore j => exact pre_of (stL_h (gd_inv hs).2)
  | astore_n j => exact pre_of (stA_h (gd_inv hs).2)
  | astore j => exact pre_of (stA_h (gd_inv hs).2)
  | iinc j n => exact pre_of (inc_h (gd_inv hs).2)
  | iadd => exact pre_of (b2I_h (gd_inv hs).2)
  | isub => exact pre_of (b2I_h (gd_inv hs).2)
  | imul => exact pre_of (b2I_h (gd_inv hs).2)
  | idiv => exact pre_of (b2O_h (gd_inv hs).2)
  | irem => exact pre_of (b2O_h (gd_inv hs).2)
  | iand => exact pre_of (b2I_h (gd_inv hs).2)
  | ior => exact pre_of (b2I_h (gd_inv hs).2)
  | ixor => exact pre_of (b2I_h (gd_inv hs).2)
  | ishl => exact pre_of (b2I_h (gd_inv hs).2)
  | ishr => exact pre_of (b2I_h (gd_inv hs).2)
  | iushr => exact pre_of (b2I_h (gd_inv hs).2)
  | ladd => exact pre_of (b2L_h (gd_inv hs).2)
  | lsub => exact pre_of (b2L_h (gd_inv hs).2)
  | land => exact pre_of (b2L_h (gd_inv hs).2)
  | lor => exact pre_of (b2L_h (gd_inv hs).2)
  | lxor => exact pre_of (b2L_h (gd_inv hs).2)
  | lshl => exact pre_of (sfL_h (gd_inv hs).2)
  | lshr => exact pre_of (sfL_h (gd_inv hs).2)
  | lushr => exact pre_of (sfL_h (gd_inv hs).2)
  | lcmp => exact pre_of (cmp2_h (gd_inv hs).2)
  | l2i => exact pre_of (u1L_h (gd_inv hs).2)
  | i2b => exact pre_of (u1B_h (gd_inv hs).2)
  | dup => exact pre_of (dup1_h (gd_inv hs).2)
  | dup2 => exact pre_of (dup22_h (gd_inv hs).2)
  | pop => exact pre_of (pop1_h (gd_inv hs).2)
  | ifCond q off => exact pre_of (br1_h (gd_inv hs).2)
  | if_icmp q off => exact pre_of (br2_h (gd_inv hs).2)
  | goto off => exact pre_of (jmp_h (gd_inv hs).2)
  | getfield j => exact pre_of (gfd_h (gd_inv hs).2)
  | putfield j => exact pre_of (pfd_h (gd_inv hs).2)
  | iaload => exact pre_of (ald_h (gd_inv hs).2)
  | baload => exact pre_of (bld_h (gd_inv hs).2)
  | iastore => exact pre_of (ast_h (gd_inv hs).2)
  | bastore => exact pre_of (bst_h (gd_inv hs).2)
  | aaload => exact pre_of (qld_h (gd_inv hs).2)
  | aastore => exact pre_of (qst_h (gd_inv hs).2)
  | arraylength => exact pre_of (aln_h (gd_inv hs).2)
  | ldc j => dsimp only at hs; split at hs; exact pre_of (pInt_h (gd_inv hs).2); cases hs
  | ldc_w j => dsimp only at hs; split at hs; exact pre_of (pInt_h (gd_inv hs).2); cases hs
  | ldc2_w j => dsimp only at hs; split at hs; exact pre_of (pLng_h (gd_inv hs).2); cases hs
  | tableswitch d lo hi os => exact pre_of (tsw_h hs)
  | lookupswitch d ps => exact pre_of (lsw_h hs)
  | newarray t => cases t <;> first | exact nwa_h (gd_inv hs).2 | cases hs
  | anewarray j => exact nwq_h (gd_inv hs).2
  | multianewarray j d => exact nw2_h (gd_inv hs).2
  | new j => exact nwo_h (gd_inv hs).2
  | invokevirtual j => exact cav_h hC (gd_inv hs).2
  | invokestatic j => exact cas_h hC (gd_inv hs).2
  | invokespecial j => exact cai_h hC (gd_inv hs).2
  | ireturn => exact (iret_n (gd_inv hs).2).elim
  | lreturn => exact (lret_n (gd_inv hs).2).elim
  | return_ => exact (vret_n (gd_inv hs).2).elim
  | _ => cases hs
theorem iret_h {r : Option FieldType} {st : List mV} {h : mH} {q : mR} (hs : iret r st h = some (.inr q)) : q.2 = h := by
  unfold iret at hs
  split at hs
  · split at hs
    · cases hs; rfl
    · split at hs
      · cases hs; rfl
      · cases hs
    · cases hs
  · cases hs
theorem lret_h {r : Option FieldType} {st : List mV} {h : mH} {q : mR} (hs : lret r st h = some (.inr q)) : q.2 = h := by
  unfold lret at hs
  split at hs
  · split at hs
    · cases hs; rfl
    · cases hs
  · cases hs
theorem vret_h {r : Option FieldType} {st : List mV} {h : mH} {q : mR} (hs : vret r st h = some (.inr q)) : q.2 = h := by
  unfold vret at hs
  split at hs
  · split at hs
    · cases hs; rfl
    · cases hs
  · cases hs
theorem go_r {pc : Nat} {L st : List mV} {h : mH} {q : mR} (hs : go pc L st h = some (.inr q)) : False := by unfold go at hs; cases hs
theorem jmp_r {off : Int} {pc : Nat} {L st : List mV} {h : mH} {q : mR} (hs : jmp off pc L st h = some (.inr q)) : False := by
  unfold jmp at hs
  split at hs
  · exact go_r hs
  · cases hs
theorem pInt_r {n : Nat} {x : Int} {pc : Nat} {L st : List mV} {h : mH} {q : mR} (hs : pInt n x pc L st h = some (.inr q)) : False := by
  unfold pInt at hs
  repeat (first | exact go_r hs | exact jmp_r hs | (exact absurd hs (by intro z; cases z)) | split at hs)
  all_goals first | exact go_r hs | exact jmp_r hs | cases hs
theorem pLng_r {n : Nat} {x : Int} {pc : Nat} {L st : List mV} {h : mH} {q : mR} (hs : pLng n x pc L st h = some (.inr q)) : False := by
  unfold pLng at hs
  repeat (first | exact go_r hs | exact jmp_r hs | (exact absurd hs (by intro z; cases z)) | split at hs)
  all_goals first | exact go_r hs | exact jmp_r hs | cases hs
theorem ldI_r {n i : Nat} {pc : Nat} {L st : List mV} {h : mH} {q : mR} (hs : ldI n i pc L st h = some (.inr q)) : False := by
  unfold ldI at hs
  repeat (first | exact go_r hs | exact jmp_r hs | (exact absurd hs (by intro z; cases z)) | split at hs)
  all_goals first | exact go_r hs | exact jmp_r hs | cases hs
theorem ldL_r {n i : Nat} {pc : Nat} {L st : List mV} {h : mH} {q : mR} (hs : ldL n i pc L st h = some (.inr q)) : False := by
  unfold ldL at hs
  repeat (first | exact go_r hs | exact jmp_r hs | (exact absurd hs (by intro z; cases z)) | split at hs)
  all_goals first | exact go_r hs | exact jmp_r hs | cases hs
theorem ldA_r {n i : Nat} {pc : Nat} {L st : List mV} {h : mH} {q : mR} (hs : ldA n i pc L st h = some (.inr q)) : False := by
  unfold ldA at hs
  repeat (first | exact go_r hs | exact jmp_r hs | (exact absurd hs (by intro z; cases z)) | split at hs)
  all_goals first | exact go_r hs | exact jmp_r hs | cases hs
theorem stI_r {n i : Nat} {pc : Nat} {L st : List mV} {h : mH} {q : mR} (hs : stI n i pc L st h = some (.inr q)) : False := by
  unfold stI at hs
  repeat (first | exact go_r hs | exact jmp_r hs | (exact absurd hs (by intro z; cases z)) | split at hs)
  all_goals first | exact go_r hs | exact jmp_r hs | cases hs
theorem stL_r {n i : Nat} {pc : Nat} {L st : List mV} {h : mH} {q : mR} (hs : stL n i pc L st h = some (.inr q)) : False := by
  unfold stL at hs
  repeat (first | exact go_r hs | exact jmp_r hs | (exact absurd hs (by intro z; cases z)) | split at hs)
  all_goals first | exact go_r hs | exact jmp_r hs | cases hs
theorem stA_r {n i : Nat} {pc : Nat} {L st : List mV} {h : mH} {q : mR} (hs : stA n i pc L st h = some (.inr q)) : False := by
  unfold stA at hs
  repeat (first | exact go_r hs | exact jmp_r hs | (exact absurd hs (by intro z; cases z)) | split at hs)
  all_goals first | exact go_r hs | exact jmp_r hs | cases hs
theorem inc_r {i : Nat} {n : Int} {pc : Nat} {L st : List mV} {h : mH} {q : mR} (hs : inc i n pc L st h = some (.inr q)) : False := by
  unfold inc at hs
  repeat (first | exact go_r hs | exact jmp_r hs | (exact absurd hs (by intro z; cases z)) | split at hs)
  all_goals first | exact go_r hs | exact jmp_r hs | cases hs
theorem b2I_r {f : Int → Int → Int} {pc : Nat} {L st : List mV} {h : mH} {q : mR} (hs : b2I f pc L st h = some (.inr q)) : False := by
  unfold b2I at hs
  repeat (first | exact go_r hs | exact jmp_r hs | (exact absurd hs (by intro z; cases z)) | split at hs)
  all_goals first | exact go_r hs | exact jmp_r hs | cases hs
theorem b2O_r {f : Int → Int → Option Int} {pc : Nat} {L st : List mV} {h : mH} {q : mR} (hs : b2O f pc L st h = some (.inr q)) : False := by
  unfold b2O at hs
  repeat (first | exact go_r hs | exact jmp_r hs | (exact absurd hs (by intro z; cases z)) | split at hs)
  all_goals first | exact go_r hs | exact jmp_r hs | cases hs
theorem b2L_r {f : Int → Int → Int} {pc : Nat} {L st : List mV} {h : mH} {q : mR} (hs : b2L f pc L st h = some (.inr q)) : False := by
  unfold b2L at hs
  repeat (first | exact go_r hs | exact jmp_r hs | (exact absurd hs (by intro z; cases z)) | split at hs)
  all_goals first | exact go_r hs | exact jmp_r hs | cases hs
theorem sfL_r {f : Int → Int → Int} {pc : Nat} {L st : List mV} {h : mH} {q : mR} (hs : sfL f pc L st h = some (.inr q)) : False := by
  unfold sfL at hs
  repeat (first | exact go_r hs | exact jmp_r hs | (exact absurd hs (by intro z; cases z)) | split at hs)
  all_goals first | exact go_r hs | exact jmp_r hs | cases hs
theorem cmp2_r  {pc : Nat} {L st : List mV} {h : mH} {q : mR} (hs : cmp2  pc L st h = some (.inr q)) : False := by
  unfold cmp2 at hs
  repeat (first | exact go_r hs | exact jmp_r hs | (exact absurd hs (by intro z; cases z)) | split at hs)
  all_goals first | exact go_r hs | exact jmp_r hs | cases hs
theorem u1L_r  {pc : Nat} {L st : List mV} {h : mH} {q : mR} (hs : u1L  pc L st h = some (.inr q)) : False := by
  unfold u1L at hs
  repeat (first | exact go_r hs | exact jmp_r hs | (exact absurd hs (by intro z; cases z)) | split at hs)
  all_goals first | exact go_r hs | exact jmp_r hs | cases hs
theorem u1B_r  {pc : Nat} {L st : List mV} {h : mH} {q : mR} (hs : u1B  pc L st h = some (.inr q)) : False := by
  unfold u1B at hs
  repeat (first | exact go_r hs | exact jmp_r hs | (exact absurd hs (by intro z; cases z)) | split at hs)
  all_goals first | exact go_r hs | exact jmp_r hs | cases hs
theorem dup1_r  {pc : Nat} {L st : List mV} {h : mH} {q : mR} (hs : dup1  pc L st h = some (.inr q)) : False := by
  unfold dup1 at hs
  repeat (first | exact go_r hs | exact jmp_r hs | (exact absurd hs (by intro z; cases z)) | split at hs)
  all_goals first | exact go_r hs | exact jmp_r hs | cases hs
theorem dup22_r  {pc : Nat} {L st : List mV} {h : mH} {q : mR} (hs : dup22  pc L st h = some (.inr q)) : False := by
  unfold dup22 at hs
  repeat (first | exact go_r hs | exact jmp_r hs | (exact absurd hs (by intro z; cases z)) | split at hs)
  all_goals first | exact go_r hs | exact jmp_r hs | cases hs
theorem pop1_r  {pc : Nat} {L st : List mV} {h : mH} {q : mR} (hs : pop1  pc L st h = some (.inr q)) : False := by
  unfold pop1 at hs
  repeat (first | exact go_r hs | exact jmp_r hs | (exact absurd hs (by intro z; cases z)) | split at hs)
  all_goals first | exact go_r hs | exact jmp_r hs | cases hs
theorem br1_r {qq : Jvm.ClassFile.Cond} {off : Int} {pc : Nat} {L st : List mV} {h : mH} {q : mR} (hs : br1 qq off pc L st h = some (.inr q)) : False := by
  unfold br1 at hs
  repeat (first | exact go_r hs | exact jmp_r hs | (exact absurd hs (by intro z; cases z)) | split at hs)
  all_goals first | exact go_r hs | exact jmp_r hs | cases hs
theorem br2_r {qq : Jvm.ClassFile.Cond} {off : Int} {pc : Nat} {L st : List mV} {h : mH} {q : mR} (hs : br2 qq off pc L st h = some (.inr q)) : False := by
  unfold br2 at hs
  repeat (first | exact go_r hs | exact jmp_r hs | (exact absurd hs (by intro z; cases z)) | split at hs)
  all_goals first | exact go_r hs | exact jmp_r hs | cases hs
theorem tsw_r {d lo hi : Int} {os : Array Int} {pc : Nat} {L st : List mV} {h : mH} {q : mR} (hs : tsw d lo hi os pc L st h = some (.inr q)) : False := by
  unfold tsw at hs
  repeat (first | exact go_r hs | exact jmp_r hs | (exact absurd hs (by intro z; cases z)) | split at hs)
  all_goals first | exact go_r hs | exact jmp_r hs | cases hs
theorem lsw_r {d : Int} {ps : List (Int × Int)} {pc : Nat} {L st : List mV} {h : mH} {q : mR} (hs : lsw d ps pc L st h = some (.inr q)) : False := by
  unfold lsw at hs
  repeat (first | exact go_r hs | exact jmp_r hs | (exact absurd hs (by intro z; cases z)) | split at hs)
  all_goals first | exact go_r hs | exact jmp_r hs | cases hs
theorem gfd_r {qq : Option (Nat × Nat × Bool)} {pc : Nat} {L st : List mV} {h : mH} {q : mR} (hs : gfd qq pc L st h = some (.inr q)) : False := by
  unfold gfd at hs
  repeat (first | exact go_r hs | exact jmp_r hs | (exact absurd hs (by intro z; cases z)) | split at hs)
  all_goals first | exact go_r hs | exact jmp_r hs | cases hs
theorem ald_r {t : Nat} {pc : Nat} {L st : List mV} {h : mH} {q : mR} (hs : ald t pc L st h = some (.inr q)) : False := by
  unfold ald at hs
  repeat (first | exact go_r hs | exact jmp_r hs | (exact absurd hs (by intro z; cases z)) | split at hs)
  all_goals first | exact go_r hs | exact jmp_r hs | cases hs
theorem bld_r  {pc : Nat} {L st : List mV} {h : mH} {q : mR} (hs : bld  pc L st h = some (.inr q)) : False := by
  unfold bld at hs
  repeat (first | exact go_r hs | exact jmp_r hs | (exact absurd hs (by intro z; cases z)) | split at hs)
  all_goals first | exact go_r hs | exact jmp_r hs | cases hs
theorem qld_r  {pc : Nat} {L st : List mV} {h : mH} {q : mR} (hs : qld  pc L st h = some (.inr q)) : False := by
  unfold qld at hs
  repeat (first | exact go_r hs | exact jmp_r hs | (exact absurd hs (by intro z; cases z)) | split at hs)
  all_goals first | exact go_r hs | exact jmp_r hs | cases hs
theorem aln_r  {pc : Nat} {L st : List mV} {h : mH} {q : mR} (hs : aln  pc L st h = some (.inr q)) : False := by
  unfold aln at hs
  repeat (first | exact go_r hs | exact jmp_r hs | (exact absurd hs (by intro z; cases z)) | split at hs)
  all_goals first | exact go_r hs | exact jmp_r hs | cases hs
theorem ast_r  {pc : Nat} {L st : List mV} {h : mH} {q : mR} (hs : ast  pc L st h = some (.inr q)) : False := by
  unfold ast at hs
  repeat (first | exact go_r hs | exact jmp_r hs | (exact absurd hs (by intro z; cases z)) | split at hs)
  all_goals first | exact go_r hs | exact jmp_r hs | cases hs
theorem bst_r  {pc : Nat} {L st : List mV} {h : mH} {q : mR} (hs : bst  pc L st h = some (.inr q)) : False := by
  unfold bst at hs
  repeat (first | exact go_r hs | exact jmp_r hs | (exact absurd hs (by intro z; cases z)) | split at hs)
  all_goals first | exact go_r hs | exact jmp_r hs | cases hs
theorem qst_r  {pc : Nat} {L st : List mV} {h : mH} {q : mR} (hs : qst  pc L st h = some (.inr q)) : False := by
  unfold qst at hs
  repeat (first | exact go_r hs | exact jmp_r hs | (exact absurd hs (by intro z; cases z)) | split at hs)
  all_goals first | exact go_r hs | exact jmp_r hs | cases hs
theorem pfd_r {y : Nat} {qq : Option (Nat × Nat × Bool)} {pc : Nat} {L st : List mV} {h : mH} {q : mR} (hs : pfd y qq pc L st h = some (.inr q)) : False := by
  unfold pfd at hs
  repeat (first | exact go_r hs | exact jmp_r hs | (exact absurd hs (by intro z; cases z)) | split at hs)
  all_goals first | exact go_r hs | exact jmp_r hs | cases hs
theorem nwa_r {t n : Nat} {pc : Nat} {L st : List mV} {h : mH} {q : mR} (hs : nwa t n pc L st h = some (.inr q)) : False := by
  unfold nwa at hs
  repeat (first | exact go_r hs | exact jmp_r hs | (exact absurd hs (by intro z; cases z)) | split at hs)
  all_goals first | exact go_r hs | exact jmp_r hs | cases hs
theorem nwq_r {qq : Option Nat} {pc : Nat} {L st : List mV} {h : mH} {q : mR} (hs : nwq qq pc L st h = some (.inr q)) : False := by
  unfold nwq at hs
  repeat (first | exact go_r hs | exact jmp_r hs | exact nwa_r hs | (exact absurd hs (by intro z; cases z)) | split at hs)
  all_goals first | exact go_r hs | exact jmp_r hs | exact nwa_r hs | cases hs
theorem nwo_r {qq : Option Nat} {pc : Nat} {L st : List mV} {h : mH} {q : mR} (hs : nwo qq pc L st h = some (.inr q)) : False := by
  unfold nwo at hs
  repeat (first | exact go_r hs | exact jmp_r hs | (exact absurd hs (by intro z; cases z)) | split at hs)
  all_goals first | exact go_r hs | exact jmp_r hs | cases hs
theorem nw2_r {qq : Option Nat} {pc : Nat} {L st : List mV} {h : mH} {q : mR} (hs : nw2 qq pc L st h = some (.inr q)) : False := by
  unfold nw2 at hs
  repeat (first | exact go_r hs | exact jmp_r hs | (exact absurd hs (by intro z; cases z)) | split at hs)
  all_goals first | exact go_r hs | exact jmp_r hs | cases hs
theorem ret2_r {o : Option mR} {pc : Nat} {L r : List mV} {q : mR} (hs : ret2 o pc L r = some (.inr q)) : False := by
  unfold ret2 at hs
  split at hs
  · exact go_r hs
  · cases hs
theorem cav_r {C : mCall} {ini : Bool} {qq : Option (Nat × Bool)} {pc : Nat} {L st : List mV} {h : mH} {q : mR} (hs : cav C ini qq pc L st h = some (.inr q)) : False := by
  unfold cav at hs
  split at hs
  · split at hs
    · split at hs
      · exact ret2_r hs
      · cases hs
    · cases hs
  · cases hs
theorem cas_r {C : mCall} {qq : Option (Nat × Bool)} {pc : Nat} {L st : List mV} {h : mH} {q : mR} (hs : cas C qq pc L st h = some (.inr q)) : False := by
  unfold cas at hs
  split at hs
  · split at hs
    · split at hs
      · exact go_r hs
      · cases hs
    · cases hs
  · split at hs
    · split at hs
      · exact go_r hs
      · cases hs
    · cases hs
  · split at hs
    · exact ret2_r hs
    · cases hs
  · cases hs
theorem cai_r {C : mCall} {qq : Option (Nat × Bool)} {pc : Nat} {L st : List mV} {h : mH} {q : mR} (hs : cai C qq pc L st h = some (.inr q)) : False := by
  unfold cai at hs
  split at hs
  · split at hs
    · split at hs
      · exact go_r hs
      · cases hs
    · cases hs
  · exact cav_r hs
/-- which step is a return -/
theorem step_r {C : mCall} {y len pc : Nat} {L st : List mV} {h : mH} {i : Instr} {q : mR} (hs : stepI C y len pc L st h i = some (.inr q)) : (i = .ireturn ∧ len = 1 ∧ iret (retB y) st h = some (.inr q)) ∨ (i = .lreturn ∧ len = 1 ∧ lret (retB y) st h = some (.inr q)) ∨ (i = .return_ ∧ len = 1 ∧ vret (retB y) st h = some (.inr q)) := by
  unfold stepI at hs
  cases i with
  | iconst n => exact (pInt_r (gd_inv hs).2).elim
  | bipush n => exact (pInt_r (gd_inv hs).2).elim
  | sipush n => exact (pInt_r (gd_inv hs).2).elim
  | lconst n => exact (pLng_r (gd_inv hs).2).elim
  | iload_n j => exact (ldI_r (gd_inv hs).2).elim
  | iload j => exact (ldI_r (gd_inv hs).2).elim
  | lload_n j => exact (ldL_r (gd_inv hs).2).elim
  | lload j => exact (ldL_r (gd_inv hs).2).elim
  | aload_n j => exact (ldA_r (gd_inv hs).2).elim
  | aload j => exact (ldA_r (gd_inv hs).2).elim
  | istore_n j => exact (stI_r (gd_inv hs).2).elim
  | istore j => exact (stI_r (gd_inv hs).2).elim
  | lstore_n j => exact (stL_r (gd_inv hs).2).elim
  | lstore j => exact (stL_r (gd_inv hs).2).elim
  | astore_n j => exact (stA_r (gd_inv hs).2).elim
  | astore j => exact (stA_r (gd_inv hs).2).elim
  | iinc j n => exact (inc_r (gd_inv hs).2).elim
  | iadd => exact (b2I_r (gd_inv hs).2).elim
  | isub => exact (b2I_r (gd_inv hs).2).elim
  | imul => exact (b2I_r (gd_inv hs).2).elim
  | idiv => exact (b2O_r (gd_inv hs).2).elim
  | irem => exact (b2O_r (gd_inv hs).2).elim
  | iand => exact (b2I_r (gd_inv hs).2).elim
  | ior => exact (b2I_r (gd_inv hs).2).elim
  | ixor => exact (b2I_r (gd_inv hs).2).elim
  | ishl => exact (b2I_r (gd_inv hs).2).elim
  | ishr => exact (b2I_r (gd_inv hs).2).elim
  | iushr => exact (b2I_r (gd_inv hs).2).elim
  | ladd => exact (b2L_r (gd_inv hs).2).elim
  | lsub => exact (b2L_r (gd_inv hs).2).elim
  | land => exact (b2L_r (gd_inv hs).2).elim
  | lor => exact (b2L_r (gd_inv hs).2).elim
  | lxor => exact (b2L_r (gd_inv hs).2).elim
  | lshl => exact (sfL_r (gd_inv hs).2).elim
  | lshr => exact (sfL_r (gd_inv hs).2).elim
  | lushr => exact (sfL_r (gd_inv hs).2).elim
  | lcmp => exact (cmp2_r (gd_inv hs).2).elim
  | l2i => exact (u1L_r (gd_inv hs).2).elim
  | i2b => exact (u1B_r (gd_inv hs).2).elim
  | dup => exact (dup1_r (gd_inv hs).2).elim
  | dup2 => exact (dup22_r (gd_inv hs).2).elim
  | pop => exact (pop1_r (gd_inv hs).2).elim
  | ifCond q off => exact (br1_r (gd_inv hs).2).elim
  | if_icmp q off => exact (br2_r (gd_inv hs).2).elim
  | goto off => exact (jmp_r (gd_inv hs).2).elim
  | getfield j => exact (gfd_r (gd_inv hs).2).elim
  | putfield j => exact (pfd_r (gd_inv hs).2).elim
  | iaload => exact (ald_r (gd_inv hs).2).elim
  | baload => exact (bld_r (gd_inv hs).2).elim
  | iastore => exact (ast_r (gd_inv hs).2).elim
  | bastore => exact (bst_r (gd_inv hs).2).elim
  | aaload => exact (qld_r (gd_inv hs).2).elim
  | aastore => exact (qst_r (gd_inv hs).2).elim
  | arraylength => exact (aln_r (gd_inv hs).2).elim
  | ldc j => dsimp only at hs; split at hs; exact (pInt_r (gd_inv hs).2).elim; cases hs
  | ldc_w j => dsimp only at hs; split at hs; exact (pInt_r (gd_inv hs).2).elim; cases hs
  | ldc2_w j => dsimp only at hs; split at hs; exact (pLng_r (gd_inv hs).2).elim; cases hs
  | tableswitch d lo hi os => exact (tsw_r hs).elim
  | lookupswitch d ps => exact (lsw_r hs).elim
  | newarray t => cases t <;> first | exact (nwa_r (gd_inv hs).2).elim | cases hs
  | anewarray j => exact (nwq_r (gd_inv hs).2).elim
  | multianewarray j d => exact (nw2_r (gd_inv hs).2).elim
  | new j => exact (nwo_r (gd_inv hs).2).elim
  | invokevirtual j => exact (cav_r (gd_inv hs).2).elim
  | invokestatic j => exact (cas_r (gd_inv hs).2).elim
  | invokespecial j => exact (cai_r (gd_inv hs).2).elim
  | ireturn => exact Or.inl ⟨rfl, by simpa using (gd_inv hs).1, (gd_inv hs).2⟩
  | lreturn => exact Or.inr (Or.inl ⟨rfl, by simpa using (gd_inv hs).1, (gd_inv hs).2⟩)
  | return_ => exact Or.inr (Or.inr ⟨rfl, by simpa using (gd_inv hs).1, (gd_inv hs).2⟩)
  | _ => cases hs
theorem run_h {C : mCall} (hC : MNC C) {y : Nat} : ∀ (n : Nat) (c : mC) (q : mR), runA C y n c = some q → c.2.2.2.1 <+: q.2.1
  | 0, c, q, h => by cases h
  | n + 1, c, q, h => by
    unfold runA at h
    split at h
    next c2 hs =>
      have ih := run_h hC n c2 q h
      unfold stepA at hs
      split at hs
      · exact (step_h hC hs).trans ih
      · cases hs
    next r hs =>
      cases h
      unfold stepA at hs
      split at hs
      · rcases step_r hs with ⟨_, _, g⟩ | ⟨_, _, g⟩ | ⟨_, _, g⟩
        · rw [iret_h g]; exact List.prefix_rfl
        · rw [lret_h g]; exact List.prefix_rfl
        · rw [vret_h g]; exact List.prefix_rfl
      · cases hs
    next => cases h
theorem call_h : ∀ d, MNC (callA d)
  | 0 => fun _ _ _ _ _ h => by cases h
  | d + 1 => fun y as h r h2 e => by
    unfold callA at e
    split at e
    next =>
      obtain ⟨n, hn⟩ := resA_run e
      exact run_h (call_h d) n _ _ hn
    next => cases e
