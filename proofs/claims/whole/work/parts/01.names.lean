def lw_okq (q : MethodName × Nat) : Prop := (q.1.cls ≠ "java/lang/invoke/MethodHandle" ∧ q.1.cls ≠ "java/lang/invoke/VarHandle") ∧ Cond.instantiable q.1.cls q.2 ∈ tables_1 ∧ Cond.privateMethod q.1 ∈ tables_1 ∧ Cond.instanceMethod q.1 ∈ tables_1
theorem lw_p0 : lw_okq (⟨"WalkingStreets$Told", "empty", "()V"⟩, 8) := ⟨⟨by decide +kernel, by decide +kernel⟩, List.mem_of_getElem? (i := 56) (by decide +kernel), List.mem_of_getElem? (i := 62) (by decide +kernel), List.mem_of_getElem? (i := 63) (by decide +kernel)⟩
theorem lw_p1 : lw_okq (⟨"WalkingStreets", "startAsTold", "()V"⟩, 17) := ⟨⟨by decide +kernel, by decide +kernel⟩, List.mem_of_getElem? (i := 15) (by decide +kernel), List.mem_of_getElem? (i := 233) (by decide +kernel), List.mem_of_getElem? (i := 234) (by decide +kernel)⟩
theorem lw_p2 : lw_okq (⟨"WalkingStreets$Scene", "begin", "(LWalkingStreets$Told;)V"⟩, 4) := ⟨⟨by decide +kernel, by decide +kernel⟩, List.mem_of_getElem? (i := 106) (by decide +kernel), List.mem_of_getElem? (i := 237) (by decide +kernel), List.mem_of_getElem? (i := 238) (by decide +kernel)⟩
theorem lw_p3 : lw_okq (⟨"WalkingStreets$Night", "begin", "(LWalkingStreets$Told;)V"⟩, 5) := ⟨⟨by decide +kernel, by decide +kernel⟩, List.mem_of_getElem? (i := 112) (by decide +kernel), List.mem_of_getElem? (i := 241) (by decide +kernel), List.mem_of_getElem? (i := 242) (by decide +kernel)⟩
theorem lw_p4 : lw_okq (⟨"WalkingStreets$Told", "riverBits", "()J"⟩, 8) := ⟨⟨by decide +kernel, by decide +kernel⟩, List.mem_of_getElem? (i := 56) (by decide +kernel), List.mem_of_getElem? (i := 245) (by decide +kernel), List.mem_of_getElem? (i := 246) (by decide +kernel)⟩
theorem lw_p5 : lw_okq (⟨"WalkingStreets", "settle", "()V"⟩, 17) := ⟨⟨by decide +kernel, by decide +kernel⟩, List.mem_of_getElem? (i := 15) (by decide +kernel), List.mem_of_getElem? (i := 249) (by decide +kernel), List.mem_of_getElem? (i := 250) (by decide +kernel)⟩
theorem lw_p6 : lw_okq (⟨"WalkingStreets$Room", "measure", "(JI)V"⟩, 2) := ⟨⟨by decide +kernel, by decide +kernel⟩, List.mem_of_getElem? (i := 163) (by decide +kernel), List.mem_of_getElem? (i := 253) (by decide +kernel), List.mem_of_getElem? (i := 254) (by decide +kernel)⟩
theorem lw_p7 : lw_okq (⟨"WalkingStreets$Room", "setUp", "([II[I[I)I"⟩, 2) := ⟨⟨by decide +kernel, by decide +kernel⟩, List.mem_of_getElem? (i := 163) (by decide +kernel), List.mem_of_getElem? (i := 257) (by decide +kernel), List.mem_of_getElem? (i := 258) (by decide +kernel)⟩
theorem lw_p8 : lw_okq (⟨"WalkingStreets$Room", "firstFor", "(II)I"⟩, 2) := ⟨⟨by decide +kernel, by decide +kernel⟩, List.mem_of_getElem? (i := 163) (by decide +kernel), List.mem_of_getElem? (i := 261) (by decide +kernel), List.mem_of_getElem? (i := 262) (by decide +kernel)⟩
theorem lw_p9 : lw_okq (⟨"WalkingStreets$Text", "add", "(I)Z"⟩, 8) := ⟨⟨by decide +kernel, by decide +kernel⟩, List.mem_of_getElem? (i := 23) (by decide +kernel), List.mem_of_getElem? (i := 321) (by decide +kernel), List.mem_of_getElem? (i := 322) (by decide +kernel)⟩
theorem lw_p10 : lw_okq (⟨"WalkingStreets$Text", "drop", "()V"⟩, 8) := ⟨⟨by decide +kernel, by decide +kernel⟩, List.mem_of_getElem? (i := 23) (by decide +kernel), List.mem_of_getElem? (i := 329) (by decide +kernel), List.mem_of_getElem? (i := 330) (by decide +kernel)⟩
theorem lw_p11 : lw_okq (⟨"WalkingStreets$Text", "readInto", "(LWalkingStreets$Told;)I"⟩, 8) := ⟨⟨by decide +kernel, by decide +kernel⟩, List.mem_of_getElem? (i := 23) (by decide +kernel), List.mem_of_getElem? (i := 337) (by decide +kernel), List.mem_of_getElem? (i := 338) (by decide +kernel)⟩
theorem lw_p12 : lw_okq (⟨"WalkingStreets$Text", "readToken", "()V"⟩, 8) := ⟨⟨by decide +kernel, by decide +kernel⟩, List.mem_of_getElem? (i := 23) (by decide +kernel), List.mem_of_getElem? (i := 342) (by decide +kernel), List.mem_of_getElem? (i := 343) (by decide +kernel)⟩
theorem lw_p13 : lw_okq (⟨"WalkingStreets$Text", "readDigits", "()V"⟩, 8) := ⟨⟨by decide +kernel, by decide +kernel⟩, List.mem_of_getElem? (i := 23) (by decide +kernel), List.mem_of_getElem? (i := 346) (by decide +kernel), List.mem_of_getElem? (i := 347) (by decide +kernel)⟩
theorem lw_p14 : lw_okq (⟨"WalkingStreets$Text", "readItem", "(LWalkingStreets$Told;)Z"⟩, 8) := ⟨⟨by decide +kernel, by decide +kernel⟩, List.mem_of_getElem? (i := 23) (by decide +kernel), List.mem_of_getElem? (i := 350) (by decide +kernel), List.mem_of_getElem? (i := 351) (by decide +kernel)⟩
theorem lw_p15 : lw_okq (⟨"WalkingStreets$Text", "readCart", "(LWalkingStreets$Told;)Z"⟩, 8) := ⟨⟨by decide +kernel, by decide +kernel⟩, List.mem_of_getElem? (i := 23) (by decide +kernel), List.mem_of_getElem? (i := 354) (by decide +kernel), List.mem_of_getElem? (i := 355) (by decide +kernel)⟩
def lw_privs_1 : List (MethodName × Nat) := [(⟨"WalkingStreets$Told", "empty", "()V"⟩, 8), (⟨"WalkingStreets", "startAsTold", "()V"⟩, 17), (⟨"WalkingStreets$Scene", "begin", "(LWalkingStreets$Told;)V"⟩, 4), (⟨"WalkingStreets$Night", "begin", "(LWalkingStreets$Told;)V"⟩, 5), (⟨"WalkingStreets$Told", "riverBits", "()J"⟩, 8), (⟨"WalkingStreets", "settle", "()V"⟩, 17), (⟨"WalkingStreets$Room", "measure", "(JI)V"⟩, 2), (⟨"WalkingStreets$Room", "setUp", "([II[I[I)I"⟩, 2), (⟨"WalkingStreets$Room", "firstFor", "(II)I"⟩, 2), (⟨"WalkingStreets$Text", "add", "(I)Z"⟩, 8), (⟨"WalkingStreets$Text", "drop", "()V"⟩, 8), (⟨"WalkingStreets$Text", "readInto", "(LWalkingStreets$Told;)I"⟩, 8), (⟨"WalkingStreets$Text", "readToken", "()V"⟩, 8), (⟨"WalkingStreets$Text", "readDigits", "()V"⟩, 8), (⟨"WalkingStreets$Text", "readItem", "(LWalkingStreets$Told;)Z"⟩, 8), (⟨"WalkingStreets$Text", "readCart", "(LWalkingStreets$Told;)Z"⟩, 8)]
theorem lw_r1 : ∀ q ∈ lw_privs_1, lw_okq q := List.forall_mem_cons.mpr ⟨lw_p0, List.forall_mem_cons.mpr ⟨lw_p1, List.forall_mem_cons.mpr ⟨lw_p2, List.forall_mem_cons.mpr ⟨lw_p3, List.forall_mem_cons.mpr ⟨lw_p4, List.forall_mem_cons.mpr ⟨lw_p5, List.forall_mem_cons.mpr ⟨lw_p6, List.forall_mem_cons.mpr ⟨lw_p7, List.forall_mem_cons.mpr ⟨lw_p8, List.forall_mem_cons.mpr ⟨lw_p9, List.forall_mem_cons.mpr ⟨lw_p10, List.forall_mem_cons.mpr ⟨lw_p11, List.forall_mem_cons.mpr ⟨lw_p12, List.forall_mem_cons.mpr ⟨lw_p13, List.forall_mem_cons.mpr ⟨lw_p14, List.forall_mem_cons.mpr ⟨lw_p15, fun _ h => absurd h List.not_mem_nil⟩⟩⟩⟩⟩⟩⟩⟩⟩⟩⟩⟩⟩⟩⟩⟩
theorem lw_p16 : lw_okq (⟨"WalkingStreets$Text", "readNumber", "(II)Z"⟩, 8) := ⟨⟨by decide +kernel, by decide +kernel⟩, List.mem_of_getElem? (i := 23) (by decide +kernel), List.mem_of_getElem? (i := 358) (by decide +kernel), List.mem_of_getElem? (i := 359) (by decide +kernel)⟩
theorem lw_p17 : lw_okq (⟨"WalkingStreets$Told", "addCart", "(II)V"⟩, 8) := ⟨⟨by decide +kernel, by decide +kernel⟩, List.mem_of_getElem? (i := 56) (by decide +kernel), List.mem_of_getElem? (i := 362) (by decide +kernel), List.mem_of_getElem? (i := 363) (by decide +kernel)⟩
theorem lw_p18 : lw_okq (⟨"WalkingStreets$Text", "readSemicolon", "()Z"⟩, 8) := ⟨⟨by decide +kernel, by decide +kernel⟩, List.mem_of_getElem? (i := 23) (by decide +kernel), List.mem_of_getElem? (i := 366) (by decide +kernel), List.mem_of_getElem? (i := 367) (by decide +kernel)⟩
theorem lw_p19 : lw_okq (⟨"WalkingStreets$Text", "readFeud", "(LWalkingStreets$Told;)Z"⟩, 8) := ⟨⟨by decide +kernel, by decide +kernel⟩, List.mem_of_getElem? (i := 23) (by decide +kernel), List.mem_of_getElem? (i := 370) (by decide +kernel), List.mem_of_getElem? (i := 371) (by decide +kernel)⟩
theorem lw_p20 : lw_okq (⟨"WalkingStreets$Told", "addFeud", "(II)V"⟩, 8) := ⟨⟨by decide +kernel, by decide +kernel⟩, List.mem_of_getElem? (i := 56) (by decide +kernel), List.mem_of_getElem? (i := 374) (by decide +kernel), List.mem_of_getElem? (i := 375) (by decide +kernel)⟩
theorem lw_p21 : lw_okq (⟨"WalkingStreets$Text", "readApart", "(LWalkingStreets$Told;)Z"⟩, 8) := ⟨⟨by decide +kernel, by decide +kernel⟩, List.mem_of_getElem? (i := 23) (by decide +kernel), List.mem_of_getElem? (i := 378) (by decide +kernel), List.mem_of_getElem? (i := 379) (by decide +kernel)⟩
theorem lw_p22 : lw_okq (⟨"WalkingStreets$Text", "readMiles", "(LWalkingStreets$Told;)Z"⟩, 8) := ⟨⟨by decide +kernel, by decide +kernel⟩, List.mem_of_getElem? (i := 23) (by decide +kernel), List.mem_of_getElem? (i := 382) (by decide +kernel), List.mem_of_getElem? (i := 383) (by decide +kernel)⟩
theorem lw_p23 : lw_okq (⟨"WalkingStreets$Text", "readGround", "(LWalkingStreets$Told;)Z"⟩, 8) := ⟨⟨by decide +kernel, by decide +kernel⟩, List.mem_of_getElem? (i := 23) (by decide +kernel), List.mem_of_getElem? (i := 386) (by decide +kernel), List.mem_of_getElem? (i := 387) (by decide +kernel)⟩
theorem lw_p24 : lw_okq (⟨"WalkingStreets$Text", "groundOfToken", "()I"⟩, 8) := ⟨⟨by decide +kernel, by decide +kernel⟩, List.mem_of_getElem? (i := 23) (by decide +kernel), List.mem_of_getElem? (i := 390) (by decide +kernel), List.mem_of_getElem? (i := 391) (by decide +kernel)⟩
theorem lw_p25 : lw_okq (⟨"WalkingStreets$Told", "addCell", "(I)V"⟩, 8) := ⟨⟨by decide +kernel, by decide +kernel⟩, List.mem_of_getElem? (i := 56) (by decide +kernel), List.mem_of_getElem? (i := 394) (by decide +kernel), List.mem_of_getElem? (i := 395) (by decide +kernel)⟩
theorem lw_p26 : lw_okq (⟨"WalkingStreets$Told", "become", "(LWalkingStreets$Told;)V"⟩, 8) := ⟨⟨by decide +kernel, by decide +kernel⟩, List.mem_of_getElem? (i := 56) (by decide +kernel), List.mem_of_getElem? (i := 398) (by decide +kernel), List.mem_of_getElem? (i := 399) (by decide +kernel)⟩
theorem lw_p27 : lw_okq (⟨"WalkingStreets", "isCart", "(I)Z"⟩, 17) := ⟨⟨by decide +kernel, by decide +kernel⟩, List.mem_of_getElem? (i := 15) (by decide +kernel), List.mem_of_getElem? (i := 406) (by decide +kernel), List.mem_of_getElem? (i := 407) (by decide +kernel)⟩
theorem lw_p28 : lw_okq (⟨"WalkingStreets$Night", "isLate", "(I)Z"⟩, 5) := ⟨⟨by decide +kernel, by decide +kernel⟩, List.mem_of_getElem? (i := 112) (by decide +kernel), List.mem_of_getElem? (i := 410) (by decide +kernel), List.mem_of_getElem? (i := 411) (by decide +kernel)⟩
theorem lw_p29 : lw_okq (⟨"WalkingStreets$Night", "isLost", "(I)Z"⟩, 5) := ⟨⟨by decide +kernel, by decide +kernel⟩, List.mem_of_getElem? (i := 112) (by decide +kernel), List.mem_of_getElem? (i := 414) (by decide +kernel), List.mem_of_getElem? (i := 415) (by decide +kernel)⟩
theorem lw_p30 : lw_okq (⟨"WalkingStreets$Night", "placeOf", "(I)I"⟩, 5) := ⟨⟨by decide +kernel, by decide +kernel⟩, List.mem_of_getElem? (i := 112) (by decide +kernel), List.mem_of_getElem? (i := 418) (by decide +kernel), List.mem_of_getElem? (i := 419) (by decide +kernel)⟩
theorem lw_p31 : lw_okq (⟨"WalkingStreets", "cellOf", "(I)I"⟩, 17) := ⟨⟨by decide +kernel, by decide +kernel⟩, List.mem_of_getElem? (i := 15) (by decide +kernel), List.mem_of_getElem? (i := 422) (by decide +kernel), List.mem_of_getElem? (i := 423) (by decide +kernel)⟩
def lw_privs_2 : List (MethodName × Nat) := [(⟨"WalkingStreets$Text", "readNumber", "(II)Z"⟩, 8), (⟨"WalkingStreets$Told", "addCart", "(II)V"⟩, 8), (⟨"WalkingStreets$Text", "readSemicolon", "()Z"⟩, 8), (⟨"WalkingStreets$Text", "readFeud", "(LWalkingStreets$Told;)Z"⟩, 8), (⟨"WalkingStreets$Told", "addFeud", "(II)V"⟩, 8), (⟨"WalkingStreets$Text", "readApart", "(LWalkingStreets$Told;)Z"⟩, 8), (⟨"WalkingStreets$Text", "readMiles", "(LWalkingStreets$Told;)Z"⟩, 8), (⟨"WalkingStreets$Text", "readGround", "(LWalkingStreets$Told;)Z"⟩, 8), (⟨"WalkingStreets$Text", "groundOfToken", "()I"⟩, 8), (⟨"WalkingStreets$Told", "addCell", "(I)V"⟩, 8), (⟨"WalkingStreets$Told", "become", "(LWalkingStreets$Told;)V"⟩, 8), (⟨"WalkingStreets", "isCart", "(I)Z"⟩, 17), (⟨"WalkingStreets$Night", "isLate", "(I)Z"⟩, 5), (⟨"WalkingStreets$Night", "isLost", "(I)Z"⟩, 5), (⟨"WalkingStreets$Night", "placeOf", "(I)I"⟩, 5), (⟨"WalkingStreets", "cellOf", "(I)I"⟩, 17)]
theorem lw_r2 : ∀ q ∈ lw_privs_2, lw_okq q := List.forall_mem_cons.mpr ⟨lw_p16, List.forall_mem_cons.mpr ⟨lw_p17, List.forall_mem_cons.mpr ⟨lw_p18, List.forall_mem_cons.mpr ⟨lw_p19, List.forall_mem_cons.mpr ⟨lw_p20, List.forall_mem_cons.mpr ⟨lw_p21, List.forall_mem_cons.mpr ⟨lw_p22, List.forall_mem_cons.mpr ⟨lw_p23, List.forall_mem_cons.mpr ⟨lw_p24, List.forall_mem_cons.mpr ⟨lw_p25, List.forall_mem_cons.mpr ⟨lw_p26, List.forall_mem_cons.mpr ⟨lw_p27, List.forall_mem_cons.mpr ⟨lw_p28, List.forall_mem_cons.mpr ⟨lw_p29, List.forall_mem_cons.mpr ⟨lw_p30, List.forall_mem_cons.mpr ⟨lw_p31, fun _ h => absurd h List.not_mem_nil⟩⟩⟩⟩⟩⟩⟩⟩⟩⟩⟩⟩⟩⟩⟩⟩
theorem lw_p32 : lw_okq (⟨"WalkingStreets", "isCell", "(I)Z"⟩, 17) := ⟨⟨by decide +kernel, by decide +kernel⟩, List.mem_of_getElem? (i := 15) (by decide +kernel), List.mem_of_getElem? (i := 431) (by decide +kernel), List.mem_of_getElem? (i := 432) (by decide +kernel)⟩
theorem lw_p33 : lw_okq (⟨"WalkingStreets", "groundNow", "(I)I"⟩, 17) := ⟨⟨by decide +kernel, by decide +kernel⟩, List.mem_of_getElem? (i := 15) (by decide +kernel), List.mem_of_getElem? (i := 435) (by decide +kernel), List.mem_of_getElem? (i := 436) (by decide +kernel)⟩
theorem lw_p34 : lw_okq (⟨"WalkingStreets$Night", "isRiver", "(I)Z"⟩, 5) := ⟨⟨by decide +kernel, by decide +kernel⟩, List.mem_of_getElem? (i := 112) (by decide +kernel), List.mem_of_getElem? (i := 439) (by decide +kernel), List.mem_of_getElem? (i := 440) (by decide +kernel)⟩
theorem lw_p35 : lw_okq (⟨"WalkingStreets$Scene", "remember", "()V"⟩, 4) := ⟨⟨by decide +kernel, by decide +kernel⟩, List.mem_of_getElem? (i := 106) (by decide +kernel), List.mem_of_getElem? (i := 454) (by decide +kernel), List.mem_of_getElem? (i := 455) (by decide +kernel)⟩
theorem lw_p36 : lw_okq (⟨"WalkingStreets$Scene", "loseOldest", "()V"⟩, 4) := ⟨⟨by decide +kernel, by decide +kernel⟩, List.mem_of_getElem? (i := 106) (by decide +kernel), List.mem_of_getElem? (i := 458) (by decide +kernel), List.mem_of_getElem? (i := 459) (by decide +kernel)⟩
theorem lw_p37 : lw_okq (⟨"WalkingStreets$Night", "become", "(LWalkingStreets$Night;)V"⟩, 5) := ⟨⟨by decide +kernel, by decide +kernel⟩, List.mem_of_getElem? (i := 112) (by decide +kernel), List.mem_of_getElem? (i := 462) (by decide +kernel), List.mem_of_getElem? (i := 463) (by decide +kernel)⟩
theorem lw_p38 : lw_okq (⟨"WalkingStreets$Night", "setLate", "(IZ)V"⟩, 5) := ⟨⟨by decide +kernel, by decide +kernel⟩, List.mem_of_getElem? (i := 112) (by decide +kernel), List.mem_of_getElem? (i := 466) (by decide +kernel), List.mem_of_getElem? (i := 467) (by decide +kernel)⟩
theorem lw_p39 : lw_okq (⟨"WalkingStreets", "partRow", "(I)V"⟩, 17) := ⟨⟨by decide +kernel, by decide +kernel⟩, List.mem_of_getElem? (i := 15) (by decide +kernel), List.mem_of_getElem? (i := 480) (by decide +kernel), List.mem_of_getElem? (i := 481) (by decide +kernel)⟩
theorem lw_p40 : lw_okq (⟨"WalkingStreets$Night", "takeOut", "(I)V"⟩, 5) := ⟨⟨by decide +kernel, by decide +kernel⟩, List.mem_of_getElem? (i := 112) (by decide +kernel), List.mem_of_getElem? (i := 491) (by decide +kernel), List.mem_of_getElem? (i := 492) (by decide +kernel)⟩
theorem lw_p41 : lw_okq (⟨"WalkingStreets$Night", "addBehind", "(I)V"⟩, 5) := ⟨⟨by decide +kernel, by decide +kernel⟩, List.mem_of_getElem? (i := 112) (by decide +kernel), List.mem_of_getElem? (i := 495) (by decide +kernel), List.mem_of_getElem? (i := 496) (by decide +kernel)⟩
theorem lw_p42 : lw_okq (⟨"WalkingStreets$Night", "turnAbout", "()V"⟩, 5) := ⟨⟨by decide +kernel, by decide +kernel⟩, List.mem_of_getElem? (i := 112) (by decide +kernel), List.mem_of_getElem? (i := 503) (by decide +kernel), List.mem_of_getElem? (i := 504) (by decide +kernel)⟩
theorem lw_p43 : lw_okq (⟨"WalkingStreets$Scene", "recall", "()Z"⟩, 4) := ⟨⟨by decide +kernel, by decide +kernel⟩, List.mem_of_getElem? (i := 106) (by decide +kernel), List.mem_of_getElem? (i := 523) (by decide +kernel), List.mem_of_getElem? (i := 524) (by decide +kernel)⟩
theorem lw_p44 : lw_okq (⟨"WalkingStreets", "breaks", "()I"⟩, 17) := ⟨⟨by decide +kernel, by decide +kernel⟩, List.mem_of_getElem? (i := 15) (by decide +kernel), List.mem_of_getElem? (i := 531) (by decide +kernel), List.mem_of_getElem? (i := 532) (by decide +kernel)⟩
theorem lw_p45 : lw_okq (⟨"WalkingStreets", "nearTwos", "()I"⟩, 17) := ⟨⟨by decide +kernel, by decide +kernel⟩, List.mem_of_getElem? (i := 15) (by decide +kernel), List.mem_of_getElem? (i := 535) (by decide +kernel), List.mem_of_getElem? (i := 536) (by decide +kernel)⟩
theorem lw_p46 : lw_okq (⟨"WalkingStreets$Told", "isFeud", "(II)Z"⟩, 8) := ⟨⟨by decide +kernel, by decide +kernel⟩, List.mem_of_getElem? (i := 56) (by decide +kernel), List.mem_of_getElem? (i := 539) (by decide +kernel), List.mem_of_getElem? (i := 540) (by decide +kernel)⟩
theorem lw_p47 : lw_okq (⟨"WalkingStreets", "cellsBetween", "(II)I"⟩, 17) := ⟨⟨by decide +kernel, by decide +kernel⟩, List.mem_of_getElem? (i := 15) (by decide +kernel), List.mem_of_getElem? (i := 543) (by decide +kernel), List.mem_of_getElem? (i := 544) (by decide +kernel)⟩
def lw_privs_3 : List (MethodName × Nat) := [(⟨"WalkingStreets", "isCell", "(I)Z"⟩, 17), (⟨"WalkingStreets", "groundNow", "(I)I"⟩, 17), (⟨"WalkingStreets$Night", "isRiver", "(I)Z"⟩, 5), (⟨"WalkingStreets$Scene", "remember", "()V"⟩, 4), (⟨"WalkingStreets$Scene", "loseOldest", "()V"⟩, 4), (⟨"WalkingStreets$Night", "become", "(LWalkingStreets$Night;)V"⟩, 5), (⟨"WalkingStreets$Night", "setLate", "(IZ)V"⟩, 5), (⟨"WalkingStreets", "partRow", "(I)V"⟩, 17), (⟨"WalkingStreets$Night", "takeOut", "(I)V"⟩, 5), (⟨"WalkingStreets$Night", "addBehind", "(I)V"⟩, 5), (⟨"WalkingStreets$Night", "turnAbout", "()V"⟩, 5), (⟨"WalkingStreets$Scene", "recall", "()Z"⟩, 4), (⟨"WalkingStreets", "breaks", "()I"⟩, 17), (⟨"WalkingStreets", "nearTwos", "()I"⟩, 17), (⟨"WalkingStreets$Told", "isFeud", "(II)Z"⟩, 8), (⟨"WalkingStreets", "cellsBetween", "(II)I"⟩, 17)]
theorem lw_r3 : ∀ q ∈ lw_privs_3, lw_okq q := List.forall_mem_cons.mpr ⟨lw_p32, List.forall_mem_cons.mpr ⟨lw_p33, List.forall_mem_cons.mpr ⟨lw_p34, List.forall_mem_cons.mpr ⟨lw_p35, List.forall_mem_cons.mpr ⟨lw_p36, List.forall_mem_cons.mpr ⟨lw_p37, List.forall_mem_cons.mpr ⟨lw_p38, List.forall_mem_cons.mpr ⟨lw_p39, List.forall_mem_cons.mpr ⟨lw_p40, List.forall_mem_cons.mpr ⟨lw_p41, List.forall_mem_cons.mpr ⟨lw_p42, List.forall_mem_cons.mpr ⟨lw_p43, List.forall_mem_cons.mpr ⟨lw_p44, List.forall_mem_cons.mpr ⟨lw_p45, List.forall_mem_cons.mpr ⟨lw_p46, List.forall_mem_cons.mpr ⟨lw_p47, fun _ h => absurd h List.not_mem_nil⟩⟩⟩⟩⟩⟩⟩⟩⟩⟩⟩⟩⟩⟩⟩⟩
theorem lw_p48 : lw_okq (⟨"WalkingStreets", "onHills", "()I"⟩, 17) := ⟨⟨by decide +kernel, by decide +kernel⟩, List.mem_of_getElem? (i := 15) (by decide +kernel), List.mem_of_getElem? (i := 550) (by decide +kernel), List.mem_of_getElem? (i := 551) (by decide +kernel)⟩
theorem lw_p49 : lw_okq (⟨"WalkingStreets", "hasHill", "(II)Z"⟩, 17) := ⟨⟨by decide +kernel, by decide +kernel⟩, List.mem_of_getElem? (i := 15) (by decide +kernel), List.mem_of_getElem? (i := 554) (by decide +kernel), List.mem_of_getElem? (i := 555) (by decide +kernel)⟩
theorem lw_p50 : lw_okq (⟨"WalkingStreets", "lastTaken", "()I"⟩, 17) := ⟨⟨by decide +kernel, by decide +kernel⟩, List.mem_of_getElem? (i := 15) (by decide +kernel), List.mem_of_getElem? (i := 558) (by decide +kernel), List.mem_of_getElem? (i := 559) (by decide +kernel)⟩
theorem lw_p51 : lw_okq (⟨"WalkingStreets$Night", "widthOfAll", "()I"⟩, 5) := ⟨⟨by decide +kernel, by decide +kernel⟩, List.mem_of_getElem? (i := 112) (by decide +kernel), List.mem_of_getElem? (i := 562) (by decide +kernel), List.mem_of_getElem? (i := 563) (by decide +kernel)⟩
theorem lw_p52 : lw_okq (⟨"WalkingStreets", "areTwo", "(II)Z"⟩, 17) := ⟨⟨by decide +kernel, by decide +kernel⟩, List.mem_of_getElem? (i := 15) (by decide +kernel), List.mem_of_getElem? (i := 574) (by decide +kernel), List.mem_of_getElem? (i := 575) (by decide +kernel)⟩
theorem lw_p53 : lw_okq (⟨"WalkingStreets$BestOrder", "search", "()V"⟩, 9) := ⟨⟨by decide +kernel, by decide +kernel⟩, List.mem_of_getElem? (i := 178) (by decide +kernel), List.mem_of_getElem? (i := 586) (by decide +kernel), List.mem_of_getElem? (i := 587) (by decide +kernel)⟩
theorem lw_p54 : lw_okq (⟨"WalkingStreets$BestOrder", "tryAllBehind", "(IIIII)V"⟩, 9) := ⟨⟨by decide +kernel, by decide +kernel⟩, List.mem_of_getElem? (i := 178) (by decide +kernel), List.mem_of_getElem? (i := 591) (by decide +kernel), List.mem_of_getElem? (i := 592) (by decide +kernel)⟩
theorem lw_p55 : lw_okq (⟨"WalkingStreets$BestOrder", "isHopeless", "(II)Z"⟩, 9) := ⟨⟨by decide +kernel, by decide +kernel⟩, List.mem_of_getElem? (i := 178) (by decide +kernel), List.mem_of_getElem? (i := 595) (by decide +kernel), List.mem_of_getElem? (i := 596) (by decide +kernel)⟩
theorem lw_p56 : lw_okq (⟨"WalkingStreets$BestOrder", "isBetter", "(III)Z"⟩, 9) := ⟨⟨by decide +kernel, by decide +kernel⟩, List.mem_of_getElem? (i := 178) (by decide +kernel), List.mem_of_getElem? (i := 599) (by decide +kernel), List.mem_of_getElem? (i := 600) (by decide +kernel)⟩
theorem lw_p57 : lw_okq (⟨"WalkingStreets$BestOrder", "tryBehind", "(IIIII)V"⟩, 9) := ⟨⟨by decide +kernel, by decide +kernel⟩, List.mem_of_getElem? (i := 178) (by decide +kernel), List.mem_of_getElem? (i := 604) (by decide +kernel), List.mem_of_getElem? (i := 605) (by decide +kernel)⟩
theorem lw_p58 : lw_okq (⟨"WalkingStreets$BestOrder", "nearAhead", "(II)I"⟩, 9) := ⟨⟨by decide +kernel, by decide +kernel⟩, List.mem_of_getElem? (i := 178) (by decide +kernel), List.mem_of_getElem? (i := 608) (by decide +kernel), List.mem_of_getElem? (i := 609) (by decide +kernel)⟩
theorem lw_p59 : lw_okq (⟨"WalkingStreets$BestOrder", "take", "(IIII)V"⟩, 9) := ⟨⟨by decide +kernel, by decide +kernel⟩, List.mem_of_getElem? (i := 178) (by decide +kernel), List.mem_of_getElem? (i := 613) (by decide +kernel), List.mem_of_getElem? (i := 614) (by decide +kernel)⟩
theorem lw_p60 : lw_okq (⟨"WalkingStreets$Bridges", "search", "(LWalkingStreets$Night;I)I"⟩, 3) := ⟨⟨by decide +kernel, by decide +kernel⟩, List.mem_of_getElem? (i := 216) (by decide +kernel), List.mem_of_getElem? (i := 622) (by decide +kernel), List.mem_of_getElem? (i := 623) (by decide +kernel)⟩
theorem lw_p61 : lw_okq (⟨"WalkingStreets$Bridges", "fewest", "(LWalkingStreets$Night;JI)I"⟩, 3) := ⟨⟨by decide +kernel, by decide +kernel⟩, List.mem_of_getElem? (i := 216) (by decide +kernel), List.mem_of_getElem? (i := 626) (by decide +kernel), List.mem_of_getElem? (i := 627) (by decide +kernel)⟩
theorem lw_p62 : lw_okq (⟨"WalkingStreets$Told", "hours", "(I)I"⟩, 8) := ⟨⟨by decide +kernel, by decide +kernel⟩, List.mem_of_getElem? (i := 56) (by decide +kernel), List.mem_of_getElem? (i := 650) (by decide +kernel), List.mem_of_getElem? (i := 651) (by decide +kernel)⟩
theorem lw_p63 : lw_okq (⟨"WalkingStreets", "isQuick", "(II)Z"⟩, 17) := ⟨⟨by decide +kernel, by decide +kernel⟩, List.mem_of_getElem? (i := 15) (by decide +kernel), List.mem_of_getElem? (i := 658) (by decide +kernel), List.mem_of_getElem? (i := 659) (by decide +kernel)⟩
def lw_privs_4 : List (MethodName × Nat) := [(⟨"WalkingStreets", "onHills", "()I"⟩, 17), (⟨"WalkingStreets", "hasHill", "(II)Z"⟩, 17), (⟨"WalkingStreets", "lastTaken", "()I"⟩, 17), (⟨"WalkingStreets$Night", "widthOfAll", "()I"⟩, 5), (⟨"WalkingStreets", "areTwo", "(II)Z"⟩, 17), (⟨"WalkingStreets$BestOrder", "search", "()V"⟩, 9), (⟨"WalkingStreets$BestOrder", "tryAllBehind", "(IIIII)V"⟩, 9), (⟨"WalkingStreets$BestOrder", "isHopeless", "(II)Z"⟩, 9), (⟨"WalkingStreets$BestOrder", "isBetter", "(III)Z"⟩, 9), (⟨"WalkingStreets$BestOrder", "tryBehind", "(IIIII)V"⟩, 9), (⟨"WalkingStreets$BestOrder", "nearAhead", "(II)I"⟩, 9), (⟨"WalkingStreets$BestOrder", "take", "(IIII)V"⟩, 9), (⟨"WalkingStreets$Bridges", "search", "(LWalkingStreets$Night;I)I"⟩, 3), (⟨"WalkingStreets$Bridges", "fewest", "(LWalkingStreets$Night;JI)I"⟩, 3), (⟨"WalkingStreets$Told", "hours", "(I)I"⟩, 8), (⟨"WalkingStreets", "isQuick", "(II)Z"⟩, 17)]
theorem lw_r4 : ∀ q ∈ lw_privs_4, lw_okq q := List.forall_mem_cons.mpr ⟨lw_p48, List.forall_mem_cons.mpr ⟨lw_p49, List.forall_mem_cons.mpr ⟨lw_p50, List.forall_mem_cons.mpr ⟨lw_p51, List.forall_mem_cons.mpr ⟨lw_p52, List.forall_mem_cons.mpr ⟨lw_p53, List.forall_mem_cons.mpr ⟨lw_p54, List.forall_mem_cons.mpr ⟨lw_p55, List.forall_mem_cons.mpr ⟨lw_p56, List.forall_mem_cons.mpr ⟨lw_p57, List.forall_mem_cons.mpr ⟨lw_p58, List.forall_mem_cons.mpr ⟨lw_p59, List.forall_mem_cons.mpr ⟨lw_p60, List.forall_mem_cons.mpr ⟨lw_p61, List.forall_mem_cons.mpr ⟨lw_p62, List.forall_mem_cons.mpr ⟨lw_p63, fun _ h => absurd h List.not_mem_nil⟩⟩⟩⟩⟩⟩⟩⟩⟩⟩⟩⟩⟩⟩⟩⟩
theorem lw_p64 : lw_okq (⟨"WalkingStreets", "ithOfPace", "(IZI)I"⟩, 17) := ⟨⟨by decide +kernel, by decide +kernel⟩, List.mem_of_getElem? (i := 15) (by decide +kernel), List.mem_of_getElem? (i := 662) (by decide +kernel), List.mem_of_getElem? (i := 663) (by decide +kernel)⟩
theorem lw_p65 : lw_okq (⟨"WalkingStreets", "allSeenIn", "([I)Z"⟩, 17) := ⟨⟨by decide +kernel, by decide +kernel⟩, List.mem_of_getElem? (i := 15) (by decide +kernel), List.mem_of_getElem? (i := 678) (by decide +kernel), List.mem_of_getElem? (i := 679) (by decide +kernel)⟩
theorem lw_p66 : lw_okq (⟨"WalkingStreets", "standsRightAhead", "([III)Z"⟩, 17) := ⟨⟨by decide +kernel, by decide +kernel⟩, List.mem_of_getElem? (i := 15) (by decide +kernel), List.mem_of_getElem? (i := 682) (by decide +kernel), List.mem_of_getElem? (i := 683) (by decide +kernel)⟩
theorem lw_p67 : lw_okq (⟨"WalkingStreets", "waysToStandAt", "(III)I"⟩, 17) := ⟨⟨by decide +kernel, by decide +kernel⟩, List.mem_of_getElem? (i := 15) (by decide +kernel), List.mem_of_getElem? (i := 690) (by decide +kernel), List.mem_of_getElem? (i := 691) (by decide +kernel)⟩
theorem lw_p68 : lw_okq (⟨"WalkingStreets$Night", "cartsAt", "(I)I"⟩, 5) := ⟨⟨by decide +kernel, by decide +kernel⟩, List.mem_of_getElem? (i := 112) (by decide +kernel), List.mem_of_getElem? (i := 697) (by decide +kernel), List.mem_of_getElem? (i := 698) (by decide +kernel)⟩
theorem lw_p69 : lw_okq (⟨"WalkingStreets", "markOfCart", "(I)I"⟩, 17) := ⟨⟨by decide +kernel, by decide +kernel⟩, List.mem_of_getElem? (i := 15) (by decide +kernel), List.mem_of_getElem? (i := 709) (by decide +kernel), List.mem_of_getElem? (i := 710) (by decide +kernel)⟩
theorem lw_p70 : lw_okq (⟨"WalkingStreets", "markOfChurch", "(I)I"⟩, 17) := ⟨⟨by decide +kernel, by decide +kernel⟩, List.mem_of_getElem? (i := 15) (by decide +kernel), List.mem_of_getElem? (i := 713) (by decide +kernel), List.mem_of_getElem? (i := 714) (by decide +kernel)⟩
theorem lw_p71 : lw_okq (⟨"WalkingStreets", "markOfBaker", "(I)I"⟩, 17) := ⟨⟨by decide +kernel, by decide +kernel⟩, List.mem_of_getElem? (i := 15) (by decide +kernel), List.mem_of_getElem? (i := 718) (by decide +kernel), List.mem_of_getElem? (i := 719) (by decide +kernel)⟩
theorem lw_p72 : lw_okq (⟨"WalkingStreets", "markOfMill", "(I)I"⟩, 17) := ⟨⟨by decide +kernel, by decide +kernel⟩, List.mem_of_getElem? (i := 15) (by decide +kernel), List.mem_of_getElem? (i := 723) (by decide +kernel), List.mem_of_getElem? (i := 724) (by decide +kernel)⟩
theorem lw_p73 : lw_okq (⟨"WalkingStreets", "markOfDyer", "(I)I"⟩, 17) := ⟨⟨by decide +kernel, by decide +kernel⟩, List.mem_of_getElem? (i := 15) (by decide +kernel), List.mem_of_getElem? (i := 728) (by decide +kernel), List.mem_of_getElem? (i := 729) (by decide +kernel)⟩
theorem lw_p74 : lw_okq (⟨"WalkingStreets", "markOfGuest", "(I)I"⟩, 17) := ⟨⟨by decide +kernel, by decide +kernel⟩, List.mem_of_getElem? (i := 15) (by decide +kernel), List.mem_of_getElem? (i := 733) (by decide +kernel), List.mem_of_getElem? (i := 734) (by decide +kernel)⟩
theorem lw_p75 : lw_okq (⟨"WalkingStreets$Scene", "become", "(LWalkingStreets$Scene;)V"⟩, 4) := ⟨⟨by decide +kernel, by decide +kernel⟩, List.mem_of_getElem? (i := 106) (by decide +kernel), List.mem_of_getElem? (i := 742) (by decide +kernel), List.mem_of_getElem? (i := 743) (by decide +kernel)⟩
theorem lw_p76 : lw_okq (⟨"WalkingStreetsModel", "plain", "()V"⟩, 26) := ⟨⟨by decide +kernel, by decide +kernel⟩, List.mem_of_getElem? (i := 758) (by decide +kernel), List.mem_of_getElem? (i := 764) (by decide +kernel), List.mem_of_getElem? (i := 765) (by decide +kernel)⟩
theorem lw_p77 : lw_okq (⟨"WalkingStreetsModel", "takeDraft", "()V"⟩, 26) := ⟨⟨by decide +kernel, by decide +kernel⟩, List.mem_of_getElem? (i := 758) (by decide +kernel), List.mem_of_getElem? (i := 768) (by decide +kernel), List.mem_of_getElem? (i := 769) (by decide +kernel)⟩
theorem lw_p78 : lw_okq (⟨"WalkingStreetsModel", "step", "()V"⟩, 26) := ⟨⟨by decide +kernel, by decide +kernel⟩, List.mem_of_getElem? (i := 758) (by decide +kernel), List.mem_of_getElem? (i := 868) (by decide +kernel), List.mem_of_getElem? (i := 869) (by decide +kernel)⟩
theorem lw_p79 : lw_okq (⟨"WalkingStreetsModel", "here", "()I"⟩, 26) := ⟨⟨by decide +kernel, by decide +kernel⟩, List.mem_of_getElem? (i := 758) (by decide +kernel), List.mem_of_getElem? (i := 872) (by decide +kernel), List.mem_of_getElem? (i := 873) (by decide +kernel)⟩
def lw_privs_5 : List (MethodName × Nat) := [(⟨"WalkingStreets", "ithOfPace", "(IZI)I"⟩, 17), (⟨"WalkingStreets", "allSeenIn", "([I)Z"⟩, 17), (⟨"WalkingStreets", "standsRightAhead", "([III)Z"⟩, 17), (⟨"WalkingStreets", "waysToStandAt", "(III)I"⟩, 17), (⟨"WalkingStreets$Night", "cartsAt", "(I)I"⟩, 5), (⟨"WalkingStreets", "markOfCart", "(I)I"⟩, 17), (⟨"WalkingStreets", "markOfChurch", "(I)I"⟩, 17), (⟨"WalkingStreets", "markOfBaker", "(I)I"⟩, 17), (⟨"WalkingStreets", "markOfMill", "(I)I"⟩, 17), (⟨"WalkingStreets", "markOfDyer", "(I)I"⟩, 17), (⟨"WalkingStreets", "markOfGuest", "(I)I"⟩, 17), (⟨"WalkingStreets$Scene", "become", "(LWalkingStreets$Scene;)V"⟩, 4), (⟨"WalkingStreetsModel", "plain", "()V"⟩, 26), (⟨"WalkingStreetsModel", "takeDraft", "()V"⟩, 26), (⟨"WalkingStreetsModel", "step", "()V"⟩, 26), (⟨"WalkingStreetsModel", "here", "()I"⟩, 26)]
theorem lw_r5 : ∀ q ∈ lw_privs_5, lw_okq q := List.forall_mem_cons.mpr ⟨lw_p64, List.forall_mem_cons.mpr ⟨lw_p65, List.forall_mem_cons.mpr ⟨lw_p66, List.forall_mem_cons.mpr ⟨lw_p67, List.forall_mem_cons.mpr ⟨lw_p68, List.forall_mem_cons.mpr ⟨lw_p69, List.forall_mem_cons.mpr ⟨lw_p70, List.forall_mem_cons.mpr ⟨lw_p71, List.forall_mem_cons.mpr ⟨lw_p72, List.forall_mem_cons.mpr ⟨lw_p73, List.forall_mem_cons.mpr ⟨lw_p74, List.forall_mem_cons.mpr ⟨lw_p75, List.forall_mem_cons.mpr ⟨lw_p76, List.forall_mem_cons.mpr ⟨lw_p77, List.forall_mem_cons.mpr ⟨lw_p78, List.forall_mem_cons.mpr ⟨lw_p79, fun _ h => absurd h List.not_mem_nil⟩⟩⟩⟩⟩⟩⟩⟩⟩⟩⟩⟩⟩⟩⟩⟩
theorem lw_p80 : lw_okq (⟨"WalkingStreetsModel", "mayBe", "(I)Z"⟩, 26) := ⟨⟨by decide +kernel, by decide +kernel⟩, List.mem_of_getElem? (i := 758) (by decide +kernel), List.mem_of_getElem? (i := 876) (by decide +kernel), List.mem_of_getElem? (i := 877) (by decide +kernel)⟩
theorem lw_p81 : lw_okq (⟨"WalkingStreetsModel", "due", "(Z)I"⟩, 26) := ⟨⟨by decide +kernel, by decide +kernel⟩, List.mem_of_getElem? (i := 758) (by decide +kernel), List.mem_of_getElem? (i := 880) (by decide +kernel), List.mem_of_getElem? (i := 881) (by decide +kernel)⟩
theorem lw_p82 : lw_okq (⟨"WalkingStreetsModel", "readRow", "(I)V"⟩, 26) := ⟨⟨by decide +kernel, by decide +kernel⟩, List.mem_of_getElem? (i := 758) (by decide +kernel), List.mem_of_getElem? (i := 884) (by decide +kernel), List.mem_of_getElem? (i := 885) (by decide +kernel)⟩
theorem lw_p83 : lw_okq (⟨"WalkingStreetsModel", "number", "(II)I"⟩, 26) := ⟨⟨by decide +kernel, by decide +kernel⟩, List.mem_of_getElem? (i := 758) (by decide +kernel), List.mem_of_getElem? (i := 888) (by decide +kernel), List.mem_of_getElem? (i := 889) (by decide +kernel)⟩
theorem lw_p84 : lw_okq (⟨"WalkingStreetsModel", "readGround", "()V"⟩, 26) := ⟨⟨by decide +kernel, by decide +kernel⟩, List.mem_of_getElem? (i := 758) (by decide +kernel), List.mem_of_getElem? (i := 892) (by decide +kernel), List.mem_of_getElem? (i := 893) (by decide +kernel)⟩
theorem lw_p85 : lw_okq (⟨"WalkingStreetsModel", "isCart", "(I)Z"⟩, 26) := ⟨⟨by decide +kernel, by decide +kernel⟩, List.mem_of_getElem? (i := 758) (by decide +kernel), List.mem_of_getElem? (i := 903) (by decide +kernel), List.mem_of_getElem? (i := 904) (by decide +kernel)⟩
theorem lw_p86 : lw_okq (⟨"WalkingStreetsModel", "isLate", "(I)Z"⟩, 26) := ⟨⟨by decide +kernel, by decide +kernel⟩, List.mem_of_getElem? (i := 758) (by decide +kernel), List.mem_of_getElem? (i := 907) (by decide +kernel), List.mem_of_getElem? (i := 908) (by decide +kernel)⟩
theorem lw_p87 : lw_okq (⟨"WalkingStreetsModel", "placeOf", "(I)I"⟩, 26) := ⟨⟨by decide +kernel, by decide +kernel⟩, List.mem_of_getElem? (i := 758) (by decide +kernel), List.mem_of_getElem? (i := 911) (by decide +kernel), List.mem_of_getElem? (i := 912) (by decide +kernel)⟩
theorem lw_p88 : lw_okq (⟨"WalkingStreetsModel", "cellOf", "(I)I"⟩, 26) := ⟨⟨by decide +kernel, by decide +kernel⟩, List.mem_of_getElem? (i := 758) (by decide +kernel), List.mem_of_getElem? (i := 915) (by decide +kernel), List.mem_of_getElem? (i := 916) (by decide +kernel)⟩
theorem lw_p89 : lw_okq (⟨"WalkingStreetsModel", "setUpNow", "()V"⟩, 26) := ⟨⟨by decide +kernel, by decide +kernel⟩, List.mem_of_getElem? (i := 758) (by decide +kernel), List.mem_of_getElem? (i := 919) (by decide +kernel), List.mem_of_getElem? (i := 920) (by decide +kernel)⟩
theorem lw_p90 : lw_okq (⟨"WalkingStreetsModel", "takeLand", "()V"⟩, 26) := ⟨⟨by decide +kernel, by decide +kernel⟩, List.mem_of_getElem? (i := 758) (by decide +kernel), List.mem_of_getElem? (i := 923) (by decide +kernel), List.mem_of_getElem? (i := 924) (by decide +kernel)⟩
theorem lw_p91 : lw_okq (⟨"WalkingStreetsModel", "takeRow", "()V"⟩, 26) := ⟨⟨by decide +kernel, by decide +kernel⟩, List.mem_of_getElem? (i := 758) (by decide +kernel), List.mem_of_getElem? (i := 927) (by decide +kernel), List.mem_of_getElem? (i := 928) (by decide +kernel)⟩
theorem lw_p92 : lw_okq (⟨"WalkingStreetsModel", "setUp", "()V"⟩, 26) := ⟨⟨by decide +kernel, by decide +kernel⟩, List.mem_of_getElem? (i := 758) (by decide +kernel), List.mem_of_getElem? (i := 931) (by decide +kernel), List.mem_of_getElem? (i := 932) (by decide +kernel)⟩
theorem lw_p93 : lw_okq (⟨"WalkingStreetsModel", "isFree", "(II)Z"⟩, 26) := ⟨⟨by decide +kernel, by decide +kernel⟩, List.mem_of_getElem? (i := 758) (by decide +kernel), List.mem_of_getElem? (i := 935) (by decide +kernel), List.mem_of_getElem? (i := 936) (by decide +kernel)⟩
theorem lw_p94 : lw_okq (⟨"WalkingStreetsModel", "isCell", "(I)Z"⟩, 26) := ⟨⟨by decide +kernel, by decide +kernel⟩, List.mem_of_getElem? (i := 758) (by decide +kernel), List.mem_of_getElem? (i := 943) (by decide +kernel), List.mem_of_getElem? (i := 944) (by decide +kernel)⟩
theorem lw_p95 : lw_okq (⟨"WalkingStreetsModel", "know", "()V"⟩, 26) := ⟨⟨by decide +kernel, by decide +kernel⟩, List.mem_of_getElem? (i := 758) (by decide +kernel), List.mem_of_getElem? (i := 955) (by decide +kernel), List.mem_of_getElem? (i := 956) (by decide +kernel)⟩
def lw_privs_6 : List (MethodName × Nat) := [(⟨"WalkingStreetsModel", "mayBe", "(I)Z"⟩, 26), (⟨"WalkingStreetsModel", "due", "(Z)I"⟩, 26), (⟨"WalkingStreetsModel", "readRow", "(I)V"⟩, 26), (⟨"WalkingStreetsModel", "number", "(II)I"⟩, 26), (⟨"WalkingStreetsModel", "readGround", "()V"⟩, 26), (⟨"WalkingStreetsModel", "isCart", "(I)Z"⟩, 26), (⟨"WalkingStreetsModel", "isLate", "(I)Z"⟩, 26), (⟨"WalkingStreetsModel", "placeOf", "(I)I"⟩, 26), (⟨"WalkingStreetsModel", "cellOf", "(I)I"⟩, 26), (⟨"WalkingStreetsModel", "setUpNow", "()V"⟩, 26), (⟨"WalkingStreetsModel", "takeLand", "()V"⟩, 26), (⟨"WalkingStreetsModel", "takeRow", "()V"⟩, 26), (⟨"WalkingStreetsModel", "setUp", "()V"⟩, 26), (⟨"WalkingStreetsModel", "isFree", "(II)Z"⟩, 26), (⟨"WalkingStreetsModel", "isCell", "(I)Z"⟩, 26), (⟨"WalkingStreetsModel", "know", "()V"⟩, 26)]
theorem lw_r6 : ∀ q ∈ lw_privs_6, lw_okq q := List.forall_mem_cons.mpr ⟨lw_p80, List.forall_mem_cons.mpr ⟨lw_p81, List.forall_mem_cons.mpr ⟨lw_p82, List.forall_mem_cons.mpr ⟨lw_p83, List.forall_mem_cons.mpr ⟨lw_p84, List.forall_mem_cons.mpr ⟨lw_p85, List.forall_mem_cons.mpr ⟨lw_p86, List.forall_mem_cons.mpr ⟨lw_p87, List.forall_mem_cons.mpr ⟨lw_p88, List.forall_mem_cons.mpr ⟨lw_p89, List.forall_mem_cons.mpr ⟨lw_p90, List.forall_mem_cons.mpr ⟨lw_p91, List.forall_mem_cons.mpr ⟨lw_p92, List.forall_mem_cons.mpr ⟨lw_p93, List.forall_mem_cons.mpr ⟨lw_p94, List.forall_mem_cons.mpr ⟨lw_p95, fun _ h => absurd h List.not_mem_nil⟩⟩⟩⟩⟩⟩⟩⟩⟩⟩⟩⟩⟩⟩⟩⟩
theorem lw_p96 : lw_okq (⟨"WalkingStreetsModel", "goBehind", "(I)V"⟩, 26) := ⟨⟨by decide +kernel, by decide +kernel⟩, List.mem_of_getElem? (i := 758) (by decide +kernel), List.mem_of_getElem? (i := 963) (by decide +kernel), List.mem_of_getElem? (i := 964) (by decide +kernel)⟩
theorem lw_p97 : lw_okq (⟨"WalkingStreetsModel", "outs", "()I"⟩, 26) := ⟨⟨by decide +kernel, by decide +kernel⟩, List.mem_of_getElem? (i := 758) (by decide +kernel), List.mem_of_getElem? (i := 995) (by decide +kernel), List.mem_of_getElem? (i := 996) (by decide +kernel)⟩
theorem lw_p98 : lw_okq (⟨"WalkingStreetsModel", "breaks", "()I"⟩, 26) := ⟨⟨by decide +kernel, by decide +kernel⟩, List.mem_of_getElem? (i := 758) (by decide +kernel), List.mem_of_getElem? (i := 999) (by decide +kernel), List.mem_of_getElem? (i := 1000) (by decide +kernel)⟩
theorem lw_p99 : lw_okq (⟨"WalkingStreetsModel", "nearOf", "(I)I"⟩, 26) := ⟨⟨by decide +kernel, by decide +kernel⟩, List.mem_of_getElem? (i := 758) (by decide +kernel), List.mem_of_getElem? (i := 1003) (by decide +kernel), List.mem_of_getElem? (i := 1004) (by decide +kernel)⟩
theorem lw_p100 : lw_okq (⟨"WalkingStreetsModel", "betweenOf", "(II)I"⟩, 26) := ⟨⟨by decide +kernel, by decide +kernel⟩, List.mem_of_getElem? (i := 758) (by decide +kernel), List.mem_of_getElem? (i := 1007) (by decide +kernel), List.mem_of_getElem? (i := 1008) (by decide +kernel)⟩
theorem lw_p101 : lw_okq (⟨"WalkingStreetsModel", "onHills", "()I"⟩, 26) := ⟨⟨by decide +kernel, by decide +kernel⟩, List.mem_of_getElem? (i := 758) (by decide +kernel), List.mem_of_getElem? (i := 1011) (by decide +kernel), List.mem_of_getElem? (i := 1012) (by decide +kernel)⟩
theorem lw_p102 : lw_okq (⟨"WalkingStreetsModel", "lastOf", "(I)I"⟩, 26) := ⟨⟨by decide +kernel, by decide +kernel⟩, List.mem_of_getElem? (i := 758) (by decide +kernel), List.mem_of_getElem? (i := 1015) (by decide +kernel), List.mem_of_getElem? (i := 1016) (by decide +kernel)⟩
theorem lw_p103 : lw_okq (⟨"WalkingStreetsModel", "least", "()I"⟩, 26) := ⟨⟨by decide +kernel, by decide +kernel⟩, List.mem_of_getElem? (i := 758) (by decide +kernel), List.mem_of_getElem? (i := 1019) (by decide +kernel), List.mem_of_getElem? (i := 1020) (by decide +kernel)⟩
theorem lw_p104 : lw_okq (⟨"WalkingStreetsModel", "doesStand", "(I)Z"⟩, 26) := ⟨⟨by decide +kernel, by decide +kernel⟩, List.mem_of_getElem? (i := 758) (by decide +kernel), List.mem_of_getElem? (i := 1031) (by decide +kernel), List.mem_of_getElem? (i := 1032) (by decide +kernel)⟩
theorem lw_p105 : lw_okq (⟨"WalkingStreetsModel", "firstRow", "()V"⟩, 26) := ⟨⟨by decide +kernel, by decide +kernel⟩, List.mem_of_getElem? (i := 758) (by decide +kernel), List.mem_of_getElem? (i := 1043) (by decide +kernel), List.mem_of_getElem? (i := 1044) (by decide +kernel)⟩
theorem lw_p106 : lw_okq (⟨"WalkingStreetsModel", "keepRow", "()V"⟩, 26) := ⟨⟨by decide +kernel, by decide +kernel⟩, List.mem_of_getElem? (i := 758) (by decide +kernel), List.mem_of_getElem? (i := 1048) (by decide +kernel), List.mem_of_getElem? (i := 1049) (by decide +kernel)⟩
theorem lw_p107 : lw_okq (⟨"WalkingStreetsModel", "nextRow", "()Z"⟩, 26) := ⟨⟨by decide +kernel, by decide +kernel⟩, List.mem_of_getElem? (i := 758) (by decide +kernel), List.mem_of_getElem? (i := 1052) (by decide +kernel), List.mem_of_getElem? (i := 1053) (by decide +kernel)⟩
theorem lw_p108 : lw_okq (⟨"WalkingStreetsModel", "isRiver", "(I)Z"⟩, 26) := ⟨⟨by decide +kernel, by decide +kernel⟩, List.mem_of_getElem? (i := 758) (by decide +kernel), List.mem_of_getElem? (i := 1060) (by decide +kernel), List.mem_of_getElem? (i := 1061) (by decide +kernel)⟩
theorem lw_p109 : lw_okq (⟨"WalkingStreetsModel", "isDone", "(III)Z"⟩, 26) := ⟨⟨by decide +kernel, by decide +kernel⟩, List.mem_of_getElem? (i := 758) (by decide +kernel), List.mem_of_getElem? (i := 1064) (by decide +kernel), List.mem_of_getElem? (i := 1065) (by decide +kernel)⟩
theorem lw_p110 : lw_okq (⟨"WalkingStreetsModel", "inBy", "(I)I"⟩, 26) := ⟨⟨by decide +kernel, by decide +kernel⟩, List.mem_of_getElem? (i := 758) (by decide +kernel), List.mem_of_getElem? (i := 1072) (by decide +kernel), List.mem_of_getElem? (i := 1073) (by decide +kernel)⟩
theorem lw_p111 : lw_okq (⟨"WalkingStreetsModel", "isSo", "(I)Z"⟩, 26) := ⟨⟨by decide +kernel, by decide +kernel⟩, List.mem_of_getElem? (i := 758) (by decide +kernel), List.mem_of_getElem? (i := 1092) (by decide +kernel), List.mem_of_getElem? (i := 1093) (by decide +kernel)⟩
def lw_privs_7 : List (MethodName × Nat) := [(⟨"WalkingStreetsModel", "goBehind", "(I)V"⟩, 26), (⟨"WalkingStreetsModel", "outs", "()I"⟩, 26), (⟨"WalkingStreetsModel", "breaks", "()I"⟩, 26), (⟨"WalkingStreetsModel", "nearOf", "(I)I"⟩, 26), (⟨"WalkingStreetsModel", "betweenOf", "(II)I"⟩, 26), (⟨"WalkingStreetsModel", "onHills", "()I"⟩, 26), (⟨"WalkingStreetsModel", "lastOf", "(I)I"⟩, 26), (⟨"WalkingStreetsModel", "least", "()I"⟩, 26), (⟨"WalkingStreetsModel", "doesStand", "(I)Z"⟩, 26), (⟨"WalkingStreetsModel", "firstRow", "()V"⟩, 26), (⟨"WalkingStreetsModel", "keepRow", "()V"⟩, 26), (⟨"WalkingStreetsModel", "nextRow", "()Z"⟩, 26), (⟨"WalkingStreetsModel", "isRiver", "(I)Z"⟩, 26), (⟨"WalkingStreetsModel", "isDone", "(III)Z"⟩, 26), (⟨"WalkingStreetsModel", "inBy", "(I)I"⟩, 26), (⟨"WalkingStreetsModel", "isSo", "(I)Z"⟩, 26)]
theorem lw_r7 : ∀ q ∈ lw_privs_7, lw_okq q := List.forall_mem_cons.mpr ⟨lw_p96, List.forall_mem_cons.mpr ⟨lw_p97, List.forall_mem_cons.mpr ⟨lw_p98, List.forall_mem_cons.mpr ⟨lw_p99, List.forall_mem_cons.mpr ⟨lw_p100, List.forall_mem_cons.mpr ⟨lw_p101, List.forall_mem_cons.mpr ⟨lw_p102, List.forall_mem_cons.mpr ⟨lw_p103, List.forall_mem_cons.mpr ⟨lw_p104, List.forall_mem_cons.mpr ⟨lw_p105, List.forall_mem_cons.mpr ⟨lw_p106, List.forall_mem_cons.mpr ⟨lw_p107, List.forall_mem_cons.mpr ⟨lw_p108, List.forall_mem_cons.mpr ⟨lw_p109, List.forall_mem_cons.mpr ⟨lw_p110, List.forall_mem_cons.mpr ⟨lw_p111, fun _ h => absurd h List.not_mem_nil⟩⟩⟩⟩⟩⟩⟩⟩⟩⟩⟩⟩⟩⟩⟩⟩
def lw_privs : List (MethodName × Nat) := lw_privs_1 ++ (lw_privs_2 ++ (lw_privs_3 ++ (lw_privs_4 ++ (lw_privs_5 ++ (lw_privs_6 ++ (lw_privs_7))))))
def lw_tbl : List Cond := k2_sels lw_privs ++ tables_1
theorem lw_privs_ok : ∀ q ∈ lw_privs, lw_okq q := by
  show ∀ q ∈ lw_privs_1 ++ (lw_privs_2 ++ (lw_privs_3 ++ (lw_privs_4 ++ (lw_privs_5 ++ (lw_privs_6 ++ (lw_privs_7)))))), lw_okq q
  exact List.forall_mem_append.mpr ⟨lw_r1, List.forall_mem_append.mpr ⟨lw_r2, List.forall_mem_append.mpr ⟨lw_r3, List.forall_mem_append.mpr ⟨lw_r4, List.forall_mem_append.mpr ⟨lw_r5, List.forall_mem_append.mpr ⟨lw_r6, lw_r7⟩⟩⟩⟩⟩⟩
theorem goodIn_r {big : List Cond} (ws : List Cond) (ps : List Nat) (hp : ws = ps.filterMap (fun i => big[i]?)) (h : ws.all goodWord = true) : GoodIn big ws := by
  intro w hw
  have h1 := List.all_eq_true.mp h w hw
  rw [hp] at hw
  obtain ⟨i, -, hi⟩ := List.mem_filterMap.mp hw
  have hm : w ∈ big := by first | exact List.mem_of_getElem? hi | exact List.getElem?_mem hi
  exact ⟨hm, good_of_word h1⟩
theorem goodIn_app {big a b : List Cond} (ha : GoodIn big a) (hb : GoodIn big b) : GoodIn big (a ++ b) := fun w h => (List.mem_append.mp h).elim (ha w) (hb w)
theorem goodIn_ca {big a b : List Cond} {c : Cond} (ha : GoodIn big (c :: a)) (hb : GoodIn big b) : GoodIn big (c :: (a ++ b)) := fun w h => (List.mem_cons.mp h).elim (fun e => ha w (List.mem_cons.mpr (Or.inl e))) (fun h => (List.mem_append.mp h).elim (fun h => ha w (List.mem_cons.mpr (Or.inr h))) (hb w))
theorem goodIn_sub {big ws : List Cond} (hm : ∀ w ∈ ws, w ∈ big) (h : ws.all goodWord = true) : GoodIn big ws := fun w hw => ⟨hm w hw, good_of_word (List.all_eq_true.mp h w hw)⟩
def va_AOA (t : FieldType) (U : State) : Prop := (Cond.arrayOver (.array t)).before #[] U = true
theorem va_AOA.of {t : FieldType} {A : Array Value} {U : State} (h : (Cond.arrayOver (.array t)).before A U = true) : va_AOA t U := h
theorem va_AOA.use {t : FieldType} {A : Array Value} {U : State} (h : va_AOA t U) : (Cond.arrayOver (.array t)).before A U = true := h
theorem va_AOA.moved {t : FieldType} {u U : State} (hvm : u.vm.Alike U.vm) (h : va_AOA t u) : va_AOA t U := by
  obtain ⟨comp, c, k, h1, h2, h3, h4, h5⟩ := arrayOverA_spec h
  obtain ⟨k2, hk2, he⟩ := hvm.2.2 _ _ h3
  have hi : (U.vm.classes.findIdx? fun (x : Class) => match x.kind with | .array component _ => component == comp | _ => false) = some c := by
    have e1 := va_idx_bare U.vm comp
    have e2 := va_idx_bare u.vm comp
    first
      | (rw [hvm.bare_eq] at e2; exact e1.symm.trans (e2.trans h2))
      | (rw [← hvm.bare_eq] at e2; exact e1.symm.trans (e2.trans h2))
  have hkind : k2.kind = .array comp (.array t) := by rw [he]; exact h4
  have f1 : U.vm.findClass (FieldType.array t).toString = some comp := by rw [hvm.findClass]; exact h1
  have f2 : U.vm.findClass ("[" ++ (FieldType.array t).toString) = some c := by rw [hvm.findClass]; exact h5
  unfold va_AOA Cond.before Cond.holds
  simp only [Cond.value]
  rw [f1, Option.bind_some]
  refine (congrArg (fun o : Option Nat => (o.bind (fun c => (U.vm.classes[c]?).map fun (k : Class) => match k.kind with | .array _ ty => decide (ty = FieldType.array t) && decide (U.vm.findClass ("[" ++ (FieldType.array t).toString) = some c) | _ => false) == some true)) hi).trans ?_
  simp [hk2, hkind, f2]
def vr_up {α : Type} (f : Nat → α) (l : List Nat) (v : α) : Nat → α := fun a => if a ∈ l then v else f a
theorem vr_up_in {α : Type} {f : Nat → α} {l : List Nat} {v : α} {a : Nat} (h : a ∈ l) : vr_up f l v a = v := if_pos h
theorem vr_up_ne {α : Type} {f : Nat → α} {l : List Nat} {v : α} {a : Nat} (h : a ∉ l) : vr_up f l v a = f a := if_neg h
theorem vr_rows {L l : List Nat} {f : Nat → va_E} {e : va_E} (h : ∀ a, a ∈ l → a ∉ L) : va_pl L f ++ l.map (fun a => (a, e)) = va_pl (L ++ l) (vr_up f l e) := by
  unfold va_pl
  rw [List.map_append]
  congr 1
  · apply List.map_congr_left
    intro a ha
    rw [vr_up_ne (fun q => h a q ha)]
  · apply List.map_congr_left
    intro a ha
    rw [vr_up_in ha]
theorem vr_lay {X rows : va_W} {x : Nat × va_E} {pl : va_W} {D : va_G} {cl : List vw_C} {H : Heap} (hP : va_P D cl (((X ++ pl) ++ [x]) ++ rows) H) : va_P D cl ((X ++ [x]) ++ (pl ++ rows)) H := by
  rw [List.append_assoc (X ++ pl)] at hP
  have h := va_P.swap hP
  rw [← List.append_assoc X] at h
  have h2 := va_P.swap h
  rw [List.append_assoc (X ++ [x])] at h2
  exact h2
theorem vr_layD {X rows : va_W} {x : Nat × va_E} {pl : va_W} {A : Nat → Prop} (hD : va_D A (((X ++ pl) ++ [x]) ++ rows)) : va_D A ((X ++ [x]) ++ (pl ++ rows)) := by
  rw [List.append_assoc (X ++ pl)] at hD
  have h := va_D.swap hD
  rw [← List.append_assoc X] at h
  have h2 := va_D.swap h
  rw [List.append_assoc (X ++ [x])] at h2
  exact h2
theorem vr_outer (c : ClassId) (N h0 : Nat) : ∀ i : Nat, Jvm.Free.Multi.outerC c N h0 i = arrV c N (fun j => va_rf (if j < i then some (h0 + 1 + j) else none))
  | 0 => by
    show ({ cls := c, slots := Array.replicate N .null, vm := .none } : Cell) = _
    rw [arrV_new]
    refine congrArg (arrV c N) (funext fun j => ?_)
    simp [va_rf]
  | i + 1 => by
    show (Jvm.Free.Multi.outerC c N h0 i).setSlot i (.ref (h0 + 1 + i)) = _
    rw [vr_outer c N h0 i, arrV_store]
    refine congrArg (arrV c N) (funext fun j => ?_)
    by_cases e : j = i
    · subst e
      simp [updV, va_rf]
    · by_cases h : j < i
      · simp [updV, e, h, Nat.lt_succ_of_lt h]
      · simp [updV, e, h, show ¬ j < i + 1 by omega]
section VGM
variable {p : Program} {l : Launch} {e : Env} {R : Room} {s : State} {m : MethodId} {args : Array Value} {below : List Frame} {meth : Method} {c : Code} {H : Heap} {locs : List Loc} {cells slots : Nat} {Q : State → Prop}
variable {cc : ByteArray} {pc : Nat} {ls : Array Slot} {rest : List Value} {D : va_G} {cl : List vw_C} {A : Nat → Prop} {a : Nat} {tys : List (ClassId × FieldType)} {ws : va_W} {H0 : Heap}
theorem va_mna {X : va_W} {L : List Nat} {f : Nat → va_E} {cc : ByteArray} (hexec : p.tables.exec = Jvm.exec) (hb : c.code = cc) {own : String} {index : Nat} {ty : FieldType} {cy : ClassId} (hown : s.vm.findClass own = some m.cls) (hclink : (Cond.classLink own index ("[" ++ (FieldType.array ty).toString)).before args s = true) (hover : va_AOA ty s) (harr : (Cond.arrayClass ty).before args s = true) (hcy : s.vm.findClass (FieldType.array ty).toString = some cy)
    (hK : va_K D cl tys s) (hP : va_P D cl (X ++ va_pl L f) H) (hD : va_D A (X ++ va_pl L f)) (hS : va_S A H0 H locs) (hA : ∀ q, H0.size ≤ q → A q) {n k : Int32} {N' K' : Nat} {z : vp_A} (hn : ¬ n < 0) (hk : ¬ k < 0) (hN : n.toNatClampNeg = N') (hM : k.toNatClampNeg = K')
    (hb1 : N' * 4 ≤ 536870912) (hb2 : K' * componentBytes ty ≤ 536870912) (hb3 : K' ≤ 536870912) (hdf : fits ty (defaultValue ty) = true) (hdd : (defaultValue ty).isDefault = true) (hcells : cells + (1 + N') ≤ R.cells) (hslots : slots + (N' + N' * K') ≤ R.slots) (hz : ∀ c : ClassId, Jvm.Free.Multi.innerC c K' (defaultValue ty) = vp_cell c z) (hdg : decode cc pc = .ok (.multianewarray index 2, 4))
    (kk : ∀ (q : Nat) (r : Nat → Nat) (cA : ClassId) (H1 : Heap), (∀ i j : Nat, i < N' → j < N' → r i = r j → i = j) → (∀ i : Nat, i < N' → r i ∉ L) → va_K D cl (tys ++ [(cA, .array ty)]) s →
      va_P D cl ((X ++ [(q, .inl (cA, N', .inr (.inr (.inr (.inr (fun i => if i < N' then some (r i) else none))))))]) ++ va_pl (L ++ (List.range N').map r) (vr_up f ((List.range N').map r) (.inl (cy, z)))) H1 → va_D A ((X ++ [(q, .inl (cA, N', .inr (.inr (.inr (.inr (fun i => if i < N' then some (r i) else none))))))]) ++ va_pl (L ++ (List.range N').map r) (vr_up f ((List.range N').map r) (.inl (cy, z)))) → va_S A H0 H1 locs →
      W p l e R s m args below meth c H1 locs (cells + 1 + N') (slots + N' + N' * K') Q (F0 m (pc + 4) ls (.ref q :: rest))) : W p l e R s m args below meth c H locs cells slots Q (F0 m pc ls (.int k :: .int n :: rest)) := by
  subst hN
  subst hM
  intro T hT Xs
  obtain ⟨vm₁, cA, comp, -, fA, fC, hO, -, X', step⟩ := Xs.multianewarray2F hexec hown hclink (va_AOA.use hover) harr (g := F0 m pc ls (.int k :: .int n :: rest)) rfl (by rw [hb]; exact hdg) rfl hn hk hb1 hb2 hb3 hdf hdd hcells hslots
  have ec : some cy = some comp := hcy.symm.trans fC
  cases ec
  generalize hF : Jvm.Free.Multi.fill (T.setVm vm₁) cA cy n.toNatClampNeg k.toNatClampNeg (defaultValue ty) n.toNatClampNeg = F at X' step
  have hTh : (T.setVm vm₁).heap = H := hT
  obtain ⟨f1, f2, -, -⟩ := Jvm.Free.Multi.fill_facts (T.setVm vm₁) cA cy n.toNatClampNeg k.toNatClampNeg (defaultValue ty) n.toNatClampNeg
  rw [hF, hTh] at f1 f2
  have hold : ∀ x : Nat, x < H.size → F.heap[x]? = H[x]? := fun x hx => by
    have := Jvm.Free.Multi.fill_old (T.setVm vm₁) cA cy n.toNatClampNeg k.toNatClampNeg (defaultValue ty) (a := x) (by rw [hTh]; exact hx) n.toNatClampNeg
    rw [hF, hTh] at this
    exact this
  have hrow : ∀ j : Nat, j < n.toNatClampNeg → F.heap[H.size + 1 + j]? = some (vp_cell cy z) := fun j hj => by
    have := Jvm.Free.Multi.fill_inner (T.setVm vm₁) cA cy n.toNatClampNeg k.toNatClampNeg (defaultValue ty) n.toNatClampNeg j hj
    rw [hF, hTh, hz] at this
    exact this
  have hout : Jvm.Free.Multi.outerC cA n.toNatClampNeg H.size n.toNatClampNeg = vp_cell cA (n.toNatClampNeg, .inr (.inr (.inr (.inr (fun i => if i < n.toNatClampNeg then some (H.size + 1 + i) else none))))) := by
    rw [vp_cell_q]
    exact vr_outer cA n.toNatClampNeg H.size n.toNatClampNeg
  rw [hout] at f2
  have hlt : ∀ a, a ∈ L → a < H.size := fun a ha => by
    obtain ⟨k9, hk9⟩ := va_pl_get (X := X) (f := f) ha
    exact (hP k9 _ hk9).lt
  have hnl : ∀ i : Nat, i < n.toNatClampNeg → H.size + 1 + i ∉ L := fun i _ h => by
    have := hlt _ h
    omega
  have hnm : ∀ a, a ∈ (List.range n.toNatClampNeg).map (fun i => H.size + 1 + i) → a ∉ L := fun a ha h => by
    obtain ⟨i, -, rfl⟩ := List.mem_map.mp ha
    have := hlt _ h
    omega
  have hP0 : va_P D cl (X ++ va_pl L f) F.heap := hP.kept (fun k9 x hx => hold x.1 ((hP k9 x hx).lt))
  have hP1 : va_P D cl ((X ++ va_pl L f) ++ [(H.size, .inl (cA, n.toNatClampNeg, .inr (.inr (.inr (.inr (fun i => if i < n.toNatClampNeg then some (H.size + 1 + i) else none))))))]) F.heap := hP0.app (fun k9 x hx => by
    have h0 : k9 < 1 := (List.getElem?_eq_some_iff.mp hx).1
    rw [show k9 = 0 by omega] at hx
    cases hx
    exact f2)
  have hP2 : va_P D cl (((X ++ va_pl L f) ++ [(H.size, .inl (cA, n.toNatClampNeg, .inr (.inr (.inr (.inr (fun i => if i < n.toNatClampNeg then some (H.size + 1 + i) else none))))))]) ++ ((List.range n.toNatClampNeg).map (fun i => H.size + 1 + i)).map (fun a => (a, .inl (cy, z)))) F.heap := hP1.app (fun k9 x hx => by
    obtain ⟨a, ha, rfl⟩ := List.mem_map.mp (List.mem_of_getElem? hx)
    obtain ⟨i, hi, rfl⟩ := List.mem_map.mp ha
    exact hrow i (List.mem_range.mp hi))
  have hD2 : va_D A (((X ++ va_pl L f) ++ [(H.size, .inl (cA, n.toNatClampNeg, .inr (.inr (.inr (.inr (fun i => if i < n.toNatClampNeg then some (H.size + 1 + i) else none))))))]) ++ ((List.range n.toNatClampNeg).map (fun i => H.size + 1 + i)).map (fun a => (a, .inl (cy, z)))) := by
    have hD1 := hD.push (e := .inl (cA, n.toNatClampNeg, .inr (.inr (.inr (.inr (fun i => if i < n.toNatClampNeg then some (H.size + 1 + i) else none)))))) hP rfl (hA _ hS.1)
    generalize hW1 : (X ++ va_pl L f) ++ [(H.size, .inl (cA, n.toNatClampNeg, .inr (.inr (.inr (.inr (fun i => if i < n.toNatClampNeg then some (H.size + 1 + i) else none))))))] = W1 at hD1 hP1 ⊢
    have hle : ∀ (k9 : Nat) (x : Nat × va_E), W1[k9]? = some x → x.1 ≤ H.size := fun k9 x hx => by
      rw [← hW1] at hx
      by_cases hl : k9 < (X ++ va_pl L f).length
      · rw [List.getElem?_append_left hl] at hx
        exact Nat.le_of_lt ((hP k9 x hx).lt)
      · rw [List.getElem?_append_right (by omega)] at hx
        have h0 : k9 - (X ++ va_pl L f).length < 1 := (List.getElem?_eq_some_iff.mp hx).1
        rw [show k9 - (X ++ va_pl L f).length = 0 by omega] at hx
        cases hx
        exact Nat.le_refl _
    have hr : ∀ (k9 : Nat) (x : Nat × va_E), (((List.range n.toNatClampNeg).map (fun i => H.size + 1 + i)).map (fun a => ((a, .inl (cy, z)) : Nat × va_E)))[k9]? = some x → x.1 = H.size + 1 + k9 := fun k9 x hx => by
      rw [List.getElem?_map, List.getElem?_map] at hx
      by_cases h9 : k9 < n.toNatClampNeg
      · rw [List.getElem?_range h9] at hx
        cases hx
        rfl
      · have hn0 : (List.range n.toNatClampNeg)[k9]? = none := List.getElem?_eq_none (by rw [List.length_range]; omega)
        rw [hn0] at hx
        cases hx
    refine ⟨fun i j x y hi hj hxy => ?_, fun k9 x hx => ?_⟩
    · by_cases h1 : i < W1.length <;> by_cases h2 : j < W1.length
      · rw [List.getElem?_append_left h1] at hi
        rw [List.getElem?_append_left h2] at hj
        exact hD1.1 i j x y hi hj hxy
      · rw [List.getElem?_append_left h1] at hi
        rw [List.getElem?_append_right (by omega)] at hj
        have := hle _ _ hi
        have := hr _ _ hj
        omega
      · rw [List.getElem?_append_right (by omega)] at hi
        rw [List.getElem?_append_left h2] at hj
        have := hle _ _ hj
        have := hr _ _ hi
        omega
      · rw [List.getElem?_append_right (by omega)] at hi hj
        have := hr _ _ hi
        have := hr _ _ hj
        omega
    · by_cases h1 : k9 < W1.length
      · rw [List.getElem?_append_left h1] at hx
        exact hD1.2 k9 x hx
      · rw [List.getElem?_append_right (by omega)] at hx
        have := hr _ _ hx
        exact hA _ (by have := hS.1; omega)
  have hAr : ArrOfT s cA (.array ty) := fun N9 z9 => by
    obtain ⟨-, k9, hk9, cm9, hkk9⟩ := (hO 0 0 0).1
    exact ⟨(fun q hq => by cases hq), k9, hk9, cm9, hkk9⟩
  have hK2 : va_K D cl (tys ++ [(cA, .array ty)]) s := ⟨hK.1, fun k9 x hx => by
    by_cases hl : k9 < tys.length
    · rw [List.getElem?_append_left hl] at hx
      exact hK.2 k9 x hx
    · rw [List.getElem?_append_right (by omega)] at hx
      have h0 : k9 - tys.length < 1 := (List.getElem?_eq_some_iff.mp hx).1
      rw [show k9 - tys.length = 0 by omega] at hx
      cases hx
      exact ⟨hAr, fA⟩⟩
  obtain ⟨t, a1, b1⟩ := kk H.size (fun i => H.size + 1 + i) cA F.heap (fun i j _ _ h => by have h9 : H.size + 1 + i = H.size + 1 + j := h; omega) hnl hK2 (by rw [← vr_rows hnm]; exact vr_lay hP2) (by rw [← vr_rows hnm]; exact vr_layD hD2) ⟨by rw [f1]; have := hS.1; omega, fun x h1 h2 => (hold x (Nat.lt_of_lt_of_le h1 hS.1)).trans (hS.2.1 x h1 h2), hS.2.2⟩ F rfl X'
  refine ⟨t, step t ?_, b1⟩
  have e : T.heap.size = H.size := by rw [hT]
  rw [e]
  exact a1
end VGM
def RX0 : String := "WalkingStreets$BestOrder"
def TX0 : u_T := fun k => match k with
  | 0 => ("WalkingStreets$BestOrder", "row", "[I", true)
  | 1 => ("WalkingStreets$BestOrder", "stand", "I", false)
  | 2 => ("WalkingStreets$BestOrder", "near", "I", false)
  | 3 => ("WalkingStreets$BestOrder", "last", "I", false)
  | 4 => ("WalkingStreets$BestOrder", "tried", "[I", true)
  | 5 => ("WalkingStreets$BestOrder", "firsts", "[I", true)
  | 6 => ("WalkingStreets$BestOrder", "told", "LWalkingStreets$Told;", true)
  | 7 => ("WalkingStreets$BestOrder", "night", "LWalkingStreets$Night;", true)
  | _ => ("WalkingStreets$BestOrder", "room", "LWalkingStreets$Room;", true)
def tyX0 : Nat → FieldType := fun k => match k with
  | 0 => .array .int
  | 1 => .int
  | 2 => .int
  | 3 => .int
  | 4 => .array .int
  | 5 => .array .int
  | 6 => .object "WalkingStreets$Told"
  | 7 => .object "WalkingStreets$Night"
  | _ => .object "WalkingStreets$Room"
abbrev wsX00 : List Cond := u_ws RX0 TX0 9
theorem nmX0 : ∀ a, a < 9 → ∀ b, b < 9 → a ≠ b → (TX0 a).2.1 ≠ (TX0 b).2.1 := by decide +kernel
theorem tyX0_ok : ∀ k, k < 9 → parseFieldDescriptor (TX0 k).2.2.1 = some (tyX0 k) := by decide +kernel
abbrev cX0_init : ByteArray := prog_2_method_1_code
def yX0_init : MethodName := ⟨RX0, "<init>", "(LWalkingStreets$Told;LWalkingStreets$Night;LWalkingStreets$Room;)V"⟩
abbrev cX0_search : ByteArray := prog_2_method_2_code
def yX0_search : MethodName := ⟨RX0, "search", "()V"⟩
abbrev cX0_tryAllBehind : ByteArray := prog_2_method_3_code
def yX0_tryAllBehind : MethodName := ⟨RX0, "tryAllBehind", "(IIIII)V"⟩
abbrev cX0_tryBehind : ByteArray := prog_2_method_4_code
def yX0_tryBehind : MethodName := ⟨RX0, "tryBehind", "(IIIII)V"⟩
abbrev cX0_isHopeless : ByteArray := prog_2_method_5_code
def yX0_isHopeless : MethodName := ⟨RX0, "isHopeless", "(II)Z"⟩
abbrev cX0_isBetter : ByteArray := prog_2_method_6_code
def yX0_isBetter : MethodName := ⟨RX0, "isBetter", "(III)Z"⟩
abbrev cX0_take : ByteArray := prog_2_method_7_code
def yX0_take : MethodName := ⟨RX0, "take", "(IIII)V"⟩
abbrev cX0_nearAhead : ByteArray := prog_2_method_8_code
def yX0_nearAhead : MethodName := ⟨RX0, "nearAhead", "(II)I"⟩
def RX1 : String := "WalkingStreets$Bridges"
def TX1 : u_T := fun k => match k with
  | 0 => ("WalkingStreets$Bridges", "chosen", "[I", true)
  | 1 => ("WalkingStreets$Bridges", "needed", "[I", false)
  | _ => ("WalkingStreets$Bridges", "neededBehind", "[I", false)
def tyX1 : Nat → FieldType := fun k => match k with
  | 0 => .array .int
  | 1 => .array .int
  | _ => .array .int
abbrev wsX10 : List Cond := u_ws RX1 TX1 3
theorem nmX1 : ∀ a, a < 3 → ∀ b, b < 3 → a ≠ b → (TX1 a).2.1 ≠ (TX1 b).2.1 := by decide +kernel
theorem tyX1_ok : ∀ k, k < 3 → parseFieldDescriptor (TX1 k).2.2.1 = some (tyX1 k) := by decide +kernel
abbrev cX1_init : ByteArray := prog_3_method_1_code
def yX1_init : MethodName := ⟨RX1, "<init>", "()V"⟩
abbrev cX1_search : ByteArray := prog_3_method_2_code
def yX1_search : MethodName := ⟨RX1, "search", "(LWalkingStreets$Night;I)I"⟩
abbrev cX1_fewest : ByteArray := prog_3_method_3_code
def yX1_fewest : MethodName := ⟨RX1, "fewest", "(LWalkingStreets$Night;JI)I"⟩
abbrev cX1_riversIn : ByteArray := prog_3_method_4_code
def yX1_riversIn : MethodName := ⟨RX1, "riversIn", "(JII)I"⟩
def RX2 : String := "WalkingStreets$Night"
def TX2 : u_T := fun k => match k with
  | 0 => ("WalkingStreets$Night", "row", "[I", true)
  | 1 => ("WalkingStreets$Night", "axle", "[I", true)
  | 2 => ("WalkingStreets$Night", "many", "I", false)
  | 3 => ("WalkingStreets$Night", "late", "I", false)
  | _ => ("WalkingStreets$Night", "rivers", "J", false)
def tyX2 : Nat → FieldType := fun k => match k with
  | 0 => .array .int
  | 1 => .array .int
  | 2 => .int
  | 3 => .int
  | _ => .long
abbrev wsX20 : List Cond := u_ws RX2 TX2 5
theorem nmX2 : ∀ a, a < 5 → ∀ b, b < 5 → a ≠ b → (TX2 a).2.1 ≠ (TX2 b).2.1 := by decide +kernel
theorem tyX2_ok : ∀ k, k < 5 → parseFieldDescriptor (TX2 k).2.2.1 = some (tyX2 k) := by decide +kernel
abbrev cX2_init : ByteArray := prog_4_method_1_code
def yX2_init : MethodName := ⟨RX2, "<init>", "()V"⟩
abbrev cX2_begin : ByteArray := prog_4_method_2_code
def yX2_begin : MethodName := ⟨RX2, "begin", "(LWalkingStreets$Told;)V"⟩
abbrev cX2_become : ByteArray := prog_4_method_3_code
def yX2_become : MethodName := ⟨RX2, "become", "(LWalkingStreets$Night;)V"⟩
abbrev cX2_placeOf : ByteArray := prog_4_method_4_code
def yX2_placeOf : MethodName := ⟨RX2, "placeOf", "(I)I"⟩
abbrev cX2_isLost : ByteArray := prog_4_method_5_code
def yX2_isLost : MethodName := ⟨RX2, "isLost", "(I)Z"⟩
abbrev cX2_isLate : ByteArray := prog_4_method_6_code
def yX2_isLate : MethodName := ⟨RX2, "isLate", "(I)Z"⟩
abbrev cX2_setLate : ByteArray := prog_4_method_7_code
def yX2_setLate : MethodName := ⟨RX2, "setLate", "(IZ)V"⟩
abbrev cX2_isRiver : ByteArray := prog_4_method_8_code
def yX2_isRiver : MethodName := ⟨RX2, "isRiver", "(I)Z"⟩
abbrev cX2_takeOut : ByteArray := prog_4_method_9_code
def yX2_takeOut : MethodName := ⟨RX2, "takeOut", "(I)V"⟩
abbrev cX2_addBehind : ByteArray := prog_4_method_10_code
def yX2_addBehind : MethodName := ⟨RX2, "addBehind", "(I)V"⟩
abbrev cX2_turnAbout : ByteArray := prog_4_method_11_code
def yX2_turnAbout : MethodName := ⟨RX2, "turnAbout", "()V"⟩
abbrev cX2_widthOfAll : ByteArray := prog_4_method_12_code
def yX2_widthOfAll : MethodName := ⟨RX2, "widthOfAll", "()I"⟩
abbrev cX2_cartsAt : ByteArray := prog_4_method_13_code
def yX2_cartsAt : MethodName := ⟨RX2, "cartsAt", "(I)I"⟩
def RX3 : String := "WalkingStreets$Room"
def TX3 : u_T := fun k => match k with
  | 0 => ("WalkingStreets$Room", "firstFrom", "[[I", true)
  | _ => ("WalkingStreets$Room", "cells", "I", false)
def tyX3 : Nat → FieldType := fun k => match k with
  | 0 => .array (.array .int)
  | _ => .int
abbrev wsX30 : List Cond := u_ws RX3 TX3 2
theorem nmX3 : ∀ a, a < 2 → ∀ b, b < 2 → a ≠ b → (TX3 a).2.1 ≠ (TX3 b).2.1 := by decide +kernel
theorem tyX3_ok : ∀ k, k < 2 → parseFieldDescriptor (TX3 k).2.2.1 = some (tyX3 k) := by decide +kernel
abbrev cX3_init : ByteArray := prog_5_method_1_code
def yX3_init : MethodName := ⟨RX3, "<init>", "()V"⟩
abbrev cX3_measure : ByteArray := prog_5_method_2_code
def yX3_measure : MethodName := ⟨RX3, "measure", "(JI)V"⟩
abbrev cX3_firstFor : ByteArray := prog_5_method_3_code
def yX3_firstFor : MethodName := ⟨RX3, "firstFor", "(II)I"⟩
abbrev cX3_setUp : ByteArray := prog_5_method_4_code
def yX3_setUp : MethodName := ⟨RX3, "setUp", "([II[I[I)I"⟩
def RX4 : String := "WalkingStreets$Scene"
def TX4 : u_T := fun k => match k with
  | 0 => ("WalkingStreets$Scene", "night", "LWalkingStreets$Night;", true)
  | 1 => ("WalkingStreets$Scene", "past", "[LWalkingStreets$Night;", true)
  | 2 => ("WalkingStreets$Scene", "pastMany", "I", false)
  | _ => ("WalkingStreets$Scene", "kept", "Z", false)
def tyX4 : Nat → FieldType := fun k => match k with
  | 0 => .object "WalkingStreets$Night"
  | 1 => .array (.object "WalkingStreets$Night")
  | 2 => .int
  | _ => .boolean
abbrev wsX40 : List Cond := u_ws RX4 TX4 4
theorem nmX4 : ∀ a, a < 4 → ∀ b, b < 4 → a ≠ b → (TX4 a).2.1 ≠ (TX4 b).2.1 := by decide +kernel
theorem tyX4_ok : ∀ k, k < 4 → parseFieldDescriptor (TX4 k).2.2.1 = some (tyX4 k) := by decide +kernel
abbrev cX4_init : ByteArray := prog_6_method_1_code
def yX4_init : MethodName := ⟨RX4, "<init>", "()V"⟩
abbrev cX4_begin : ByteArray := prog_6_method_2_code
def yX4_begin : MethodName := ⟨RX4, "begin", "(LWalkingStreets$Told;)V"⟩
abbrev cX4_become : ByteArray := prog_6_method_3_code
def yX4_become : MethodName := ⟨RX4, "become", "(LWalkingStreets$Scene;)V"⟩
abbrev cX4_remember : ByteArray := prog_6_method_4_code
def yX4_remember : MethodName := ⟨RX4, "remember", "()V"⟩
abbrev cX4_loseOldest : ByteArray := prog_6_method_5_code
def yX4_loseOldest : MethodName := ⟨RX4, "loseOldest", "()V"⟩
abbrev cX4_recall : ByteArray := prog_6_method_6_code
def yX4_recall : MethodName := ⟨RX4, "recall", "()Z"⟩
def RX5 : String := "WalkingStreets$Text"
def TX5 : u_T := fun k => match k with
  | 0 => ("WalkingStreets$Text", "bytes", "[I", true)
  | 1 => ("WalkingStreets$Text", "length", "I", false)
  | 2 => ("WalkingStreets$Text", "at", "I", false)
  | 3 => ("WalkingStreets$Text", "start", "I", false)
  | 4 => ("WalkingStreets$Text", "kind", "I", false)
  | 5 => ("WalkingStreets$Text", "value", "I", false)
  | 6 => ("WalkingStreets$Text", "apartTold", "Z", false)
  | _ => ("WalkingStreets$Text", "milesTold", "Z", false)
def tyX5 : Nat → FieldType := fun k => match k with
  | 0 => .array .int
  | 1 => .int
  | 2 => .int
  | 3 => .int
  | 4 => .int
  | 5 => .int
  | 6 => .boolean
  | _ => .boolean
abbrev wsX50 : List Cond := u_ws RX5 TX5 8
theorem nmX5 : ∀ a, a < 8 → ∀ b, b < 8 → a ≠ b → (TX5 a).2.1 ≠ (TX5 b).2.1 := by decide +kernel
theorem tyX5_ok : ∀ k, k < 8 → parseFieldDescriptor (TX5 k).2.2.1 = some (tyX5 k) := by decide +kernel
abbrev cX5_init : ByteArray := prog_7_method_1_code
def yX5_init : MethodName := ⟨RX5, "<init>", "()V"⟩
abbrev cX5_add : ByteArray := prog_7_method_2_code
def yX5_add : MethodName := ⟨RX5, "add", "(I)Z"⟩
abbrev cX5_drop : ByteArray := prog_7_method_3_code
def yX5_drop : MethodName := ⟨RX5, "drop", "()V"⟩
abbrev cX5_readInto : ByteArray := prog_7_method_4_code
def yX5_readInto : MethodName := ⟨RX5, "readInto", "(LWalkingStreets$Told;)I"⟩
abbrev cX5_readItem : ByteArray := prog_7_method_5_code
def yX5_readItem : MethodName := ⟨RX5, "readItem", "(LWalkingStreets$Told;)Z"⟩
abbrev cX5_readCart : ByteArray := prog_7_method_6_code
def yX5_readCart : MethodName := ⟨RX5, "readCart", "(LWalkingStreets$Told;)Z"⟩
abbrev cX5_readFeud : ByteArray := prog_7_method_7_code
def yX5_readFeud : MethodName := ⟨RX5, "readFeud", "(LWalkingStreets$Told;)Z"⟩
abbrev cX5_readApart : ByteArray := prog_7_method_8_code
def yX5_readApart : MethodName := ⟨RX5, "readApart", "(LWalkingStreets$Told;)Z"⟩
abbrev cX5_readMiles : ByteArray := prog_7_method_9_code
def yX5_readMiles : MethodName := ⟨RX5, "readMiles", "(LWalkingStreets$Told;)Z"⟩
abbrev cX5_readGround : ByteArray := prog_7_method_10_code
def yX5_readGround : MethodName := ⟨RX5, "readGround", "(LWalkingStreets$Told;)Z"⟩
abbrev cX5_groundOfToken : ByteArray := prog_7_method_11_code
def yX5_groundOfToken : MethodName := ⟨RX5, "groundOfToken", "()I"⟩
abbrev cX5_readNumber : ByteArray := prog_7_method_12_code
def yX5_readNumber : MethodName := ⟨RX5, "readNumber", "(II)Z"⟩
abbrev cX5_readSemicolon : ByteArray := prog_7_method_13_code
def yX5_readSemicolon : MethodName := ⟨RX5, "readSemicolon", "()Z"⟩
abbrev cX5_readToken : ByteArray := prog_7_method_14_code
def yX5_readToken : MethodName := ⟨RX5, "readToken", "()V"⟩
abbrev cX5_readDigits : ByteArray := prog_7_method_15_code
def yX5_readDigits : MethodName := ⟨RX5, "readDigits", "()V"⟩
def RX6 : String := "WalkingStreets$Told"
def TX6 : u_T := fun k => match k with
  | 0 => ("WalkingStreets$Told", "axle", "[I", true)
  | 1 => ("WalkingStreets$Told", "pace", "[I", true)
  | 2 => ("WalkingStreets$Told", "feuds", "[I", true)
  | 3 => ("WalkingStreets$Told", "ground", "[I", true)
  | 4 => ("WalkingStreets$Told", "carts", "I", false)
  | 5 => ("WalkingStreets$Told", "cells", "I", false)
  | 6 => ("WalkingStreets$Told", "apart", "I", false)
  | _ => ("WalkingStreets$Told", "miles", "I", false)
def tyX6 : Nat → FieldType := fun k => match k with
  | 0 => .array .int
  | 1 => .array .int
  | 2 => .array .int
  | 3 => .array .int
  | 4 => .int
  | 5 => .int
  | 6 => .int
  | _ => .int
abbrev wsX60 : List Cond := u_ws RX6 TX6 8
theorem nmX6 : ∀ a, a < 8 → ∀ b, b < 8 → a ≠ b → (TX6 a).2.1 ≠ (TX6 b).2.1 := by decide +kernel
theorem tyX6_ok : ∀ k, k < 8 → parseFieldDescriptor (TX6 k).2.2.1 = some (tyX6 k) := by decide +kernel
abbrev cX6_init : ByteArray := prog_8_method_1_code
def yX6_init : MethodName := ⟨RX6, "<init>", "()V"⟩
abbrev cX6_empty : ByteArray := prog_8_method_2_code
def yX6_empty : MethodName := ⟨RX6, "empty", "()V"⟩
abbrev cX6_become : ByteArray := prog_8_method_3_code
def yX6_become : MethodName := ⟨RX6, "become", "(LWalkingStreets$Told;)V"⟩
abbrev cX6_addCart : ByteArray := prog_8_method_4_code
def yX6_addCart : MethodName := ⟨RX6, "addCart", "(II)V"⟩
abbrev cX6_addFeud : ByteArray := prog_8_method_5_code
def yX6_addFeud : MethodName := ⟨RX6, "addFeud", "(II)V"⟩
abbrev cX6_addCell : ByteArray := prog_8_method_6_code
def yX6_addCell : MethodName := ⟨RX6, "addCell", "(I)V"⟩
abbrev cX6_isFeud : ByteArray := prog_8_method_7_code
def yX6_isFeud : MethodName := ⟨RX6, "isFeud", "(II)Z"⟩
abbrev cX6_hours : ByteArray := prog_8_method_8_code
def yX6_hours : MethodName := ⟨RX6, "hours", "(I)I"⟩
abbrev cX6_riverBits : ByteArray := prog_8_method_9_code
def yX6_riverBits : MethodName := ⟨RX6, "riverBits", "()J"⟩
def RX7 : String := "WalkingStreets"
def TX7 : u_T := fun k => match k with
  | 0 => ("WalkingStreets", "text", "LWalkingStreets$Text;", true)
  | 1 => ("WalkingStreets", "told", "LWalkingStreets$Told;", true)
  | 2 => ("WalkingStreets", "draft", "LWalkingStreets$Told;", true)
  | 3 => ("WalkingStreets", "live", "LWalkingStreets$Scene;", true)
  | 4 => ("WalkingStreets", "images", "[LWalkingStreets$Scene;", true)
  | 5 => ("WalkingStreets", "room", "LWalkingStreets$Room;", true)
  | 6 => ("WalkingStreets", "firsts", "[I", true)
  | 7 => ("WalkingStreets", "placed", "I", false)
  | 8 => ("WalkingStreets", "bestOrder", "LWalkingStreets$BestOrder;", true)
  | 9 => ("WalkingStreets", "bestKnown", "Z", false)
  | 10 => ("WalkingStreets", "bridges", "LWalkingStreets$Bridges;", true)
  | 11 => ("WalkingStreets", "seenAhead", "[I", true)
  | 12 => ("WalkingStreets", "seenBehind", "[I", true)
  | 13 => ("WalkingStreets", "seen", "I", false)
  | 14 => ("WalkingStreets", "traced", "J", false)
  | 15 => ("WalkingStreets", "otherRow", "[I", true)
  | _ => ("WalkingStreets", "otherFirsts", "[I", true)
def tyX7 : Nat → FieldType := fun k => match k with
  | 0 => .object "WalkingStreets$Text"
  | 1 => .object "WalkingStreets$Told"
  | 2 => .object "WalkingStreets$Told"
  | 3 => .object "WalkingStreets$Scene"
  | 4 => .array (.object "WalkingStreets$Scene")
  | 5 => .object "WalkingStreets$Room"
  | 6 => .array .int
  | 7 => .int
  | 8 => .object "WalkingStreets$BestOrder"
  | 9 => .boolean
  | 10 => .object "WalkingStreets$Bridges"
  | 11 => .array .int
  | 12 => .array .int
  | 13 => .int
  | 14 => .long
  | 15 => .array .int
  | _ => .array .int
abbrev wsX70 : List Cond := u_ws RX7 TX7 17
theorem nmX7 : ∀ a, a < 17 → ∀ b, b < 17 → a ≠ b → (TX7 a).2.1 ≠ (TX7 b).2.1 := by decide +kernel
theorem tyX7_ok : ∀ k, k < 17 → parseFieldDescriptor (TX7 k).2.2.1 = some (tyX7 k) := by decide +kernel
abbrev cX7_init : ByteArray := prog_1_method_1_code
def yX7_init : MethodName := ⟨RX7, "<init>", "()V"⟩
abbrev cX7_type : ByteArray := prog_1_method_2_code
def yX7_type : MethodName := ⟨RX7, "type", "(I)I"⟩
abbrev cX7_clear : ByteArray := prog_1_method_3_code
def yX7_clear : MethodName := ⟨RX7, "clear", "()I"⟩
abbrev cX7_town : ByteArray := prog_1_method_4_code
def yX7_town : MethodName := ⟨RX7, "town", "()I"⟩
abbrev cX7_cart : ByteArray := prog_1_method_5_code
def yX7_cart : MethodName := ⟨RX7, "cart", "(II)I"⟩
abbrev cX7_ground : ByteArray := prog_1_method_6_code
def yX7_ground : MethodName := ⟨RX7, "ground", "(I)I"⟩
abbrev cX7_takes : ByteArray := prog_1_method_7_code
def yX7_takes : MethodName := ⟨RX7, "takes", "(I)I"⟩
abbrev cX7_late : ByteArray := prog_1_method_8_code
def yX7_late : MethodName := ⟨RX7, "late", "(II)I"⟩
abbrev cX7_nine : ByteArray := prog_1_method_9_code
def yX7_nine : MethodName := ⟨RX7, "nine", "()I"⟩
abbrev cX7_pin : ByteArray := prog_1_method_10_code
def yX7_pin : MethodName := ⟨RX7, "pin", "(I)I"⟩
abbrev cX7_storm : ByteArray := prog_1_method_11_code
def yX7_storm : MethodName := ⟨RX7, "storm", "()I"⟩
abbrev cX7_widens : ByteArray := prog_1_method_12_code
def yX7_widens : MethodName := ⟨RX7, "widens", "(I)I"⟩
abbrev cX7_floods : ByteArray := prog_1_method_13_code
def yX7_floods : MethodName := ⟨RX7, "floods", "(II)I"⟩
abbrev cX7_loses : ByteArray := prog_1_method_14_code
def yX7_loses : MethodName := ⟨RX7, "loses", "(II)I"⟩
abbrev cX7_undo : ByteArray := prog_1_method_15_code
def yX7_undo : MethodName := ⟨RX7, "undo", "()I"⟩
abbrev cX7_now : ByteArray := prog_1_method_16_code
def yX7_now : MethodName := ⟨RX7, "now", "(I)I"⟩
abbrev cX7_order : ByteArray := prog_1_method_17_code
def yX7_order : MethodName := ⟨RX7, "order", "(I)I"⟩
abbrev cX7_between : ByteArray := prog_1_method_18_code
def yX7_between : MethodName := ⟨RX7, "between", "(II)I"⟩
abbrev cX7_windward : ByteArray := prog_1_method_19_code
def yX7_windward : MethodName := ⟨RX7, "windward", "(II)I"⟩
abbrev cX7_best : ByteArray := prog_1_method_20_code
def yX7_best : MethodName := ⟨RX7, "best", "(I)I"⟩
abbrev cX7_ropes : ByteArray := prog_1_method_21_code
def yX7_ropes : MethodName := ⟨RX7, "ropes", "(I)I"⟩
abbrev cX7_dark : ByteArray := prog_1_method_22_code
def yX7_dark : MethodName := ⟨RX7, "dark", "(I)I"⟩
abbrev cX7_soon : ByteArray := prog_1_method_23_code
def yX7_soon : MethodName := ⟨RX7, "soon", "(II)I"⟩
abbrev cX7_saw : ByteArray := prog_1_method_24_code
def yX7_saw : MethodName := ⟨RX7, "saw", "(II)I"⟩
abbrev cX7_forget : ByteArray := prog_1_method_25_code
def yX7_forget : MethodName := ⟨RX7, "forget", "()I"⟩
abbrev cX7_who : ByteArray := prog_1_method_26_code
def yX7_who : MethodName := ⟨RX7, "who", "()I"⟩
abbrev cX7_odds : ByteArray := prog_1_method_27_code
def yX7_odds : MethodName := ⟨RX7, "odds", "(IIII)I"⟩
abbrev cX7_mark : ByteArray := prog_1_method_28_code
def yX7_mark : MethodName := ⟨RX7, "mark", "(II)I"⟩
abbrev cX7_keep : ByteArray := prog_1_method_29_code
def yX7_keep : MethodName := ⟨RX7, "keep", "(I)I"⟩
abbrev cX7_back : ByteArray := prog_1_method_30_code
def yX7_back : MethodName := ⟨RX7, "back", "(I)I"⟩
abbrev cX7_count : ByteArray := prog_1_method_31_code
def yX7_count : MethodName := ⟨RX7, "count", "(I)I"⟩
abbrev cX7_trace : ByteArray := prog_1_method_32_code
def yX7_trace : MethodName := ⟨RX7, "trace", "()J"⟩
abbrev cX7_isCart : ByteArray := prog_1_method_33_code
def yX7_isCart : MethodName := ⟨RX7, "isCart", "(I)Z"⟩
abbrev cX7_areTwo : ByteArray := prog_1_method_34_code
def yX7_areTwo : MethodName := ⟨RX7, "areTwo", "(II)Z"⟩
abbrev cX7_isCell : ByteArray := prog_1_method_35_code
def yX7_isCell : MethodName := ⟨RX7, "isCell", "(I)Z"⟩
abbrev cX7_isFlag : ByteArray := prog_1_method_36_code
def yX7_isFlag : MethodName := ⟨RX7, "isFlag", "(I)Z"⟩
abbrev cX7_isHour : ByteArray := prog_1_method_37_code
def yX7_isHour : MethodName := ⟨RX7, "isHour", "(I)Z"⟩
abbrev cX7_startAsTold : ByteArray := prog_1_method_38_code
def yX7_startAsTold : MethodName := ⟨RX7, "startAsTold", "()V"⟩
abbrev cX7_settle : ByteArray := prog_1_method_39_code
def yX7_settle : MethodName := ⟨RX7, "settle", "()V"⟩
abbrev cX7_groundNow : ByteArray := prog_1_method_40_code
def yX7_groundNow : MethodName := ⟨RX7, "groundNow", "(I)I"⟩
abbrev cX7_cellOf : ByteArray := prog_1_method_41_code
def yX7_cellOf : MethodName := ⟨RX7, "cellOf", "(I)I"⟩
abbrev cX7_cellsBetween : ByteArray := prog_1_method_42_code
def yX7_cellsBetween : MethodName := ⟨RX7, "cellsBetween", "(II)I"⟩
abbrev cX7_gap : ByteArray := prog_1_method_43_code
def yX7_gap : MethodName := ⟨RX7, "gap", "(IIII)I"⟩
abbrev cX7_breaks : ByteArray := prog_1_method_44_code
def yX7_breaks : MethodName := ⟨RX7, "breaks", "()I"⟩
abbrev cX7_nearTwos : ByteArray := prog_1_method_45_code
def yX7_nearTwos : MethodName := ⟨RX7, "nearTwos", "()I"⟩
abbrev cX7_onHills : ByteArray := prog_1_method_46_code
def yX7_onHills : MethodName := ⟨RX7, "onHills", "()I"⟩
abbrev cX7_hasHill : ByteArray := prog_1_method_47_code
def yX7_hasHill : MethodName := ⟨RX7, "hasHill", "(II)Z"⟩
abbrev cX7_lastTaken : ByteArray := prog_1_method_48_code
def yX7_lastTaken : MethodName := ⟨RX7, "lastTaken", "()I"⟩
abbrev cX7_partRow : ByteArray := prog_1_method_49_code
def yX7_partRow : MethodName := ⟨RX7, "partRow", "(I)V"⟩
abbrev cX7_isQuick : ByteArray := prog_1_method_50_code
def yX7_isQuick : MethodName := ⟨RX7, "isQuick", "(II)Z"⟩
abbrev cX7_ithOfPace : ByteArray := prog_1_method_51_code
def yX7_ithOfPace : MethodName := ⟨RX7, "ithOfPace", "(IZI)I"⟩
abbrev cX7_allSeenIn : ByteArray := prog_1_method_52_code
def yX7_allSeenIn : MethodName := ⟨RX7, "allSeenIn", "([I)Z"⟩
abbrev cX7_standsRightAhead : ByteArray := prog_1_method_53_code
def yX7_standsRightAhead : MethodName := ⟨RX7, "standsRightAhead", "([III)Z"⟩
abbrev cX7_waysToStandAt : ByteArray := prog_1_method_54_code
def yX7_waysToStandAt : MethodName := ⟨RX7, "waysToStandAt", "(III)I"⟩
abbrev cX7_power : ByteArray := prog_1_method_55_code
def yX7_power : MethodName := ⟨RX7, "power", "(II)I"⟩
abbrev cX7_commonDivisor : ByteArray := prog_1_method_56_code
def yX7_commonDivisor : MethodName := ⟨RX7, "commonDivisor", "(II)I"⟩
abbrev cX7_markOfCart : ByteArray := prog_1_method_57_code
def yX7_markOfCart : MethodName := ⟨RX7, "markOfCart", "(I)I"⟩
abbrev cX7_markOfChurch : ByteArray := prog_1_method_58_code
def yX7_markOfChurch : MethodName := ⟨RX7, "markOfChurch", "(I)I"⟩
abbrev cX7_markOfBaker : ByteArray := prog_1_method_59_code
def yX7_markOfBaker : MethodName := ⟨RX7, "markOfBaker", "(I)I"⟩
abbrev cX7_markOfMill : ByteArray := prog_1_method_60_code
def yX7_markOfMill : MethodName := ⟨RX7, "markOfMill", "(I)I"⟩
abbrev cX7_markOfDyer : ByteArray := prog_1_method_61_code
def yX7_markOfDyer : MethodName := ⟨RX7, "markOfDyer", "(I)I"⟩
abbrev cX7_markOfGuest : ByteArray := prog_1_method_62_code
def yX7_markOfGuest : MethodName := ⟨RX7, "markOfGuest", "(I)I"⟩
def RX8 : String := "WalkingStreetsModel"
def TX8 : u_T := fun k => match k with
  | 0 => ("WalkingStreetsModel", "trace", "J", false)
  | 1 => ("WalkingStreetsModel", "text", "[B", true)
  | 2 => ("WalkingStreetsModel", "typed", "I", false)
  | 3 => ("WalkingStreetsModel", "carts", "[I", true)
  | 4 => ("WalkingStreetsModel", "draftAxle", "[I", true)
  | 5 => ("WalkingStreetsModel", "pace", "[I", true)
  | 6 => ("WalkingStreetsModel", "feuds", "[I", true)
  | 7 => ("WalkingStreetsModel", "cells", "[I", true)
  | 8 => ("WalkingStreetsModel", "told", "[I", true)
  | 9 => ("WalkingStreetsModel", "law", "[I", true)
  | 10 => ("WalkingStreetsModel", "lawsTold", "I", false)
  | 11 => ("WalkingStreetsModel", "at", "I", false)
  | 12 => ("WalkingStreetsModel", "start", "I", false)
  | 13 => ("WalkingStreetsModel", "sort", "I", false)
  | 14 => ("WalkingStreetsModel", "value", "I", false)
  | 15 => ("WalkingStreetsModel", "fault", "I", false)
  | 16 => ("WalkingStreetsModel", "now", "[I", true)
  | 17 => ("WalkingStreetsModel", "isKept", "[Z", true)
  | 18 => ("WalkingStreetsModel", "row", "[I", true)
  | 19 => ("WalkingStreetsModel", "rowLong", "I", false)
  | 20 => ("WalkingStreetsModel", "land", "[I", true)
  | 21 => ("WalkingStreetsModel", "first", "[I", true)
  | 22 => ("WalkingStreetsModel", "bestRow", "[I", true)
  | 23 => ("WalkingStreetsModel", "seenAhead", "[I", true)
  | 24 => ("WalkingStreetsModel", "seenBehind", "[I", true)
  | _ => ("WalkingStreetsModel", "seen", "I", false)
def tyX8 : Nat → FieldType := fun k => match k with
  | 0 => .long
  | 1 => .array .byte
  | 2 => .int
  | 3 => .array .int
  | 4 => .array .int
  | 5 => .array .int
  | 6 => .array .int
  | 7 => .array .int
  | 8 => .array .int
  | 9 => .array .int
  | 10 => .int
  | 11 => .int
  | 12 => .int
  | 13 => .int
  | 14 => .int
  | 15 => .int
  | 16 => .array .int
  | 17 => .array .boolean
  | 18 => .array .int
  | 19 => .int
  | 20 => .array .int
  | 21 => .array .int
  | 22 => .array .int
  | 23 => .array .int
  | 24 => .array .int
  | _ => .int
abbrev wsX80 : List Cond := u_ws RX8 TX8 26
theorem nmX8 : ∀ a, a < 26 → ∀ b, b < 26 → a ≠ b → (TX8 a).2.1 ≠ (TX8 b).2.1 := by decide +kernel
theorem tyX8_ok : ∀ k, k < 26 → parseFieldDescriptor (TX8 k).2.2.1 = some (tyX8 k) := by decide +kernel
abbrev cX8_init : ByteArray := prog_10_method_1_code
def yX8_init : MethodName := ⟨RX8, "<init>", "()V"⟩
abbrev cX8_in : ByteArray := prog_10_method_3_code
def yX8_in : MethodName := ⟨RX8, "in", "(III)Z"⟩
abbrev cX8_type : ByteArray := prog_10_method_4_code
def yX8_type : MethodName := ⟨RX8, "type", "(I)I"⟩
abbrev cX8_clear : ByteArray := prog_10_method_5_code
def yX8_clear : MethodName := ⟨RX8, "clear", "()I"⟩
abbrev cX8_here : ByteArray := prog_10_method_6_code
def yX8_here : MethodName := ⟨RX8, "here", "()I"⟩
abbrev cX8_step : ByteArray := prog_10_method_7_code
def yX8_step : MethodName := ⟨RX8, "step", "()V"⟩
abbrev cX8_due : ByteArray := prog_10_method_8_code
def yX8_due : MethodName := ⟨RX8, "due", "(Z)I"⟩
abbrev cX8_number : ByteArray := prog_10_method_9_code
def yX8_number : MethodName := ⟨RX8, "number", "(II)I"⟩
abbrev cX8_mayBe : ByteArray := prog_10_method_10_code
def yX8_mayBe : MethodName := ⟨RX8, "mayBe", "(I)Z"⟩
abbrev cX8_groundOf : ByteArray := prog_10_method_11_code
def yX8_groundOf : MethodName := ⟨RX8, "groundOf", "(I)I"⟩
abbrev cX8_readGround : ByteArray := prog_10_method_12_code
def yX8_readGround : MethodName := ⟨RX8, "readGround", "()V"⟩
abbrev cX8_readRow : ByteArray := prog_10_method_13_code
def yX8_readRow : MethodName := ⟨RX8, "readRow", "(I)V"⟩
abbrev cX8_plain : ByteArray := prog_10_method_14_code
def yX8_plain : MethodName := ⟨RX8, "plain", "()V"⟩
abbrev cX8_takeDraft : ByteArray := prog_10_method_15_code
def yX8_takeDraft : MethodName := ⟨RX8, "takeDraft", "()V"⟩
abbrev cX8_town : ByteArray := prog_10_method_16_code
def yX8_town : MethodName := ⟨RX8, "town", "()I"⟩
abbrev cX8_isCart : ByteArray := prog_10_method_17_code
def yX8_isCart : MethodName := ⟨RX8, "isCart", "(I)Z"⟩
abbrev cX8_isCell : ByteArray := prog_10_method_18_code
def yX8_isCell : MethodName := ⟨RX8, "isCell", "(I)Z"⟩
abbrev cX8_isLate : ByteArray := prog_10_method_19_code
def yX8_isLate : MethodName := ⟨RX8, "isLate", "(I)Z"⟩
abbrev cX8_manyOf : ByteArray := prog_10_method_20_code
def yX8_manyOf : MethodName := ⟨RX8, "manyOf", "(I)I"⟩
abbrev cX8_placeOf : ByteArray := prog_10_method_21_code
def yX8_placeOf : MethodName := ⟨RX8, "placeOf", "(I)I"⟩
abbrev cX8_takeLand : ByteArray := prog_10_method_22_code
def yX8_takeLand : MethodName := ⟨RX8, "takeLand", "()V"⟩
abbrev cX8_takeRow : ByteArray := prog_10_method_23_code
def yX8_takeRow : MethodName := ⟨RX8, "takeRow", "()V"⟩
abbrev cX8_isFree : ByteArray := prog_10_method_24_code
def yX8_isFree : MethodName := ⟨RX8, "isFree", "(II)Z"⟩
abbrev cX8_setUp : ByteArray := prog_10_method_25_code
def yX8_setUp : MethodName := ⟨RX8, "setUp", "()V"⟩
abbrev cX8_setUpNow : ByteArray := prog_10_method_26_code
def yX8_setUpNow : MethodName := ⟨RX8, "setUpNow", "()V"⟩
abbrev cX8_cellOf : ByteArray := prog_10_method_27_code
def yX8_cellOf : MethodName := ⟨RX8, "cellOf", "(I)I"⟩
abbrev cX8_breaks : ByteArray := prog_10_method_28_code
def yX8_breaks : MethodName := ⟨RX8, "breaks", "()I"⟩
abbrev cX8_betweenOf : ByteArray := prog_10_method_29_code
def yX8_betweenOf : MethodName := ⟨RX8, "betweenOf", "(II)I"⟩
abbrev cX8_nearOf : ByteArray := prog_10_method_30_code
def yX8_nearOf : MethodName := ⟨RX8, "nearOf", "(I)I"⟩
abbrev cX8_outs : ByteArray := prog_10_method_31_code
def yX8_outs : MethodName := ⟨RX8, "outs", "()I"⟩
abbrev cX8_lastOf : ByteArray := prog_10_method_32_code
def yX8_lastOf : MethodName := ⟨RX8, "lastOf", "(I)I"⟩
abbrev cX8_onHills : ByteArray := prog_10_method_33_code
def yX8_onHills : MethodName := ⟨RX8, "onHills", "()I"⟩
abbrev cX8_least : ByteArray := prog_10_method_34_code
def yX8_least : MethodName := ⟨RX8, "least", "()I"⟩
abbrev cX8_cart : ByteArray := prog_10_method_35_code
def yX8_cart : MethodName := ⟨RX8, "cart", "(II)I"⟩
abbrev cX8_ground : ByteArray := prog_10_method_36_code
def yX8_ground : MethodName := ⟨RX8, "ground", "(I)I"⟩
abbrev cX8_takes : ByteArray := prog_10_method_37_code
def yX8_takes : MethodName := ⟨RX8, "takes", "(I)I"⟩
abbrev cX8_know : ByteArray := prog_10_method_38_code
def yX8_know : MethodName := ⟨RX8, "know", "()V"⟩
abbrev cX8_goBehind : ByteArray := prog_10_method_39_code
def yX8_goBehind : MethodName := ⟨RX8, "goBehind", "(I)V"⟩
abbrev cX8_late : ByteArray := prog_10_method_40_code
def yX8_late : MethodName := ⟨RX8, "late", "(II)I"⟩
abbrev cX8_nine : ByteArray := prog_10_method_41_code
def yX8_nine : MethodName := ⟨RX8, "nine", "()I"⟩
abbrev cX8_pin : ByteArray := prog_10_method_42_code
def yX8_pin : MethodName := ⟨RX8, "pin", "(I)I"⟩
abbrev cX8_storm : ByteArray := prog_10_method_43_code
def yX8_storm : MethodName := ⟨RX8, "storm", "()I"⟩
abbrev cX8_widens : ByteArray := prog_10_method_44_code
def yX8_widens : MethodName := ⟨RX8, "widens", "(I)I"⟩
abbrev cX8_floods : ByteArray := prog_10_method_45_code
def yX8_floods : MethodName := ⟨RX8, "floods", "(II)I"⟩
abbrev cX8_loses : ByteArray := prog_10_method_46_code
def yX8_loses : MethodName := ⟨RX8, "loses", "(II)I"⟩
abbrev cX8_undo : ByteArray := prog_10_method_47_code
def yX8_undo : MethodName := ⟨RX8, "undo", "()I"⟩
abbrev cX8_now : ByteArray := prog_10_method_48_code
def yX8_now : MethodName := ⟨RX8, "now", "(I)I"⟩
abbrev cX8_order : ByteArray := prog_10_method_49_code
def yX8_order : MethodName := ⟨RX8, "order", "(I)I"⟩
abbrev cX8_doesStand : ByteArray := prog_10_method_50_code
def yX8_doesStand : MethodName := ⟨RX8, "doesStand", "(I)Z"⟩
abbrev cX8_between : ByteArray := prog_10_method_51_code
def yX8_between : MethodName := ⟨RX8, "between", "(II)I"⟩
abbrev cX8_windward : ByteArray := prog_10_method_52_code
def yX8_windward : MethodName := ⟨RX8, "windward", "(II)I"⟩
abbrev cX8_firstRow : ByteArray := prog_10_method_53_code
def yX8_firstRow : MethodName := ⟨RX8, "firstRow", "()V"⟩
abbrev cX8_nextRow : ByteArray := prog_10_method_54_code
def yX8_nextRow : MethodName := ⟨RX8, "nextRow", "()Z"⟩
abbrev cX8_keepRow : ByteArray := prog_10_method_55_code
def yX8_keepRow : MethodName := ⟨RX8, "keepRow", "()V"⟩
abbrev cX8_best : ByteArray := prog_10_method_56_code
def yX8_best : MethodName := ⟨RX8, "best", "(I)I"⟩
abbrev cX8_isDone : ByteArray := prog_10_method_57_code
def yX8_isDone : MethodName := ⟨RX8, "isDone", "(III)Z"⟩
abbrev cX8_isRiver : ByteArray := prog_10_method_58_code
def yX8_isRiver : MethodName := ⟨RX8, "isRiver", "(I)Z"⟩
abbrev cX8_ropes : ByteArray := prog_10_method_59_code
def yX8_ropes : MethodName := ⟨RX8, "ropes", "(I)I"⟩
abbrev cX8_inBy : ByteArray := prog_10_method_60_code
def yX8_inBy : MethodName := ⟨RX8, "inBy", "(I)I"⟩
abbrev cX8_dark : ByteArray := prog_10_method_61_code
def yX8_dark : MethodName := ⟨RX8, "dark", "(I)I"⟩
abbrev cX8_soon : ByteArray := prog_10_method_62_code
def yX8_soon : MethodName := ⟨RX8, "soon", "(II)I"⟩
abbrev cX8_saw : ByteArray := prog_10_method_63_code
def yX8_saw : MethodName := ⟨RX8, "saw", "(II)I"⟩
abbrev cX8_forget : ByteArray := prog_10_method_64_code
def yX8_forget : MethodName := ⟨RX8, "forget", "()I"⟩
abbrev cX8_isSo : ByteArray := prog_10_method_65_code
def yX8_isSo : MethodName := ⟨RX8, "isSo", "(I)Z"⟩
abbrev cX8_who : ByteArray := prog_10_method_66_code
def yX8_who : MethodName := ⟨RX8, "who", "()I"⟩
abbrev cX8_odds : ByteArray := prog_10_method_67_code
def yX8_odds : MethodName := ⟨RX8, "odds", "(IIII)I"⟩
abbrev cX8_mark : ByteArray := prog_10_method_68_code
def yX8_mark : MethodName := ⟨RX8, "mark", "(II)I"⟩
abbrev cX8_keep : ByteArray := prog_10_method_69_code
def yX8_keep : MethodName := ⟨RX8, "keep", "(I)I"⟩
abbrev cX8_back : ByteArray := prog_10_method_70_code
def yX8_back : MethodName := ⟨RX8, "back", "(I)I"⟩
abbrev cX8_count : ByteArray := prog_10_method_71_code
def yX8_count : MethodName := ⟨RX8, "count", "(I)I"⟩
abbrev cX8_trace : ByteArray := prog_10_method_72_code
def yX8_trace : MethodName := ⟨RX8, "trace", "()J"⟩
def RJ6 : String := "java/lang/Integer"
def TJ6 : u_T := fun k => match k with
  | _ => ("", "", "", false)
def tyJ6 : Nat → FieldType := fun k => match k with
  | _ => .int
abbrev wsJ60 : List Cond := u_ws RJ6 TJ6 0
theorem nmJ6 : ∀ a, a < 0 → ∀ b, b < 0 → a ≠ b → (TJ6 a).2.1 ≠ (TJ6 b).2.1 := by decide +kernel
theorem tyJ6_ok : ∀ k, k < 0 → parseFieldDescriptor (TJ6 k).2.2.1 = some (tyJ6 k) := by decide +kernel
abbrev cJ6_bitCount_0f7a4 : ByteArray := prog_11_method_49_code
def yJ6_bitCount_0f7a4 : MethodName := ⟨RJ6, "bitCount", "(I)I"⟩
def RJ13 : String := "java/lang/Long"
def TJ13 : u_T := fun k => match k with
  | _ => ("", "", "", false)
def tyJ13 : Nat → FieldType := fun k => match k with
  | _ => .int
abbrev wsJ130 : List Cond := u_ws RJ13 TJ13 0
theorem nmJ13 : ∀ a, a < 0 → ∀ b, b < 0 → a ≠ b → (TJ13 a).2.1 ≠ (TJ13 b).2.1 := by decide +kernel
theorem tyJ13_ok : ∀ k, k < 0 → parseFieldDescriptor (TJ13 k).2.2.1 = some (tyJ13 k) := by decide +kernel
abbrev cJ13_bitCount_95d88 : ByteArray := prog_12_method_50_code
def yJ13_bitCount_95d88 : MethodName := ⟨RJ13, "bitCount", "(J)I"⟩
def RJ9 : String := "java/lang/Math"
def TJ9 : u_T := fun k => match k with
  | _ => ("", "", "", false)
def tyJ9 : Nat → FieldType := fun k => match k with
  | _ => .int
abbrev wsJ90 : List Cond := u_ws RJ9 TJ9 0
theorem nmJ9 : ∀ a, a < 0 → ∀ b, b < 0 → a ≠ b → (TJ9 a).2.1 ≠ (TJ9 b).2.1 := by decide +kernel
theorem tyJ9_ok : ∀ k, k < 0 → parseFieldDescriptor (TJ9 k).2.2.1 = some (tyJ9 k) := by decide +kernel
abbrev cJ9_min_7cf53 : ByteArray := prog_13_method_69_code
def yJ9_min_7cf53 : MethodName := ⟨RJ9, "min", "(II)I"⟩
def RJ10 : String := "java/lang/System"
def TJ10 : u_T := fun k => match k with
  | _ => ("", "", "", false)
def tyJ10 : Nat → FieldType := fun k => match k with
  | _ => .int
abbrev wsJ100 : List Cond := u_ws RJ10 TJ10 0
theorem nmJ10 : ∀ a, a < 0 → ∀ b, b < 0 → a ≠ b → (TJ10 a).2.1 ≠ (TJ10 b).2.1 := by decide +kernel
theorem tyJ10_ok : ∀ k, k < 0 → parseFieldDescriptor (TJ10 k).2.2.1 = some (tyJ10 k) := by decide +kernel
def RL : String := "WalkingStreetsLaw"
abbrev cL_law : ByteArray := code
def yL_law : MethodName := ⟨RL, "law", "([I)Z"⟩
abbrev vwCl : List vw_C := [(RX0, TX0, 9), (RX1, TX1, 3), (RX2, TX2, 5), (RX3, TX3, 2), (RX4, TX4, 4), (RX5, TX5, 8), (RX6, TX6, 8), (RX7, TX7, 17), (RX8, TX8, 26)]
theorem inX0 : ∀ w ∈ wsX00, w ∈ lw_tbl := by decide +kernel
theorem inX1 : ∀ w ∈ wsX10, w ∈ lw_tbl := by decide +kernel
theorem inX2 : ∀ w ∈ wsX20, w ∈ lw_tbl := by decide +kernel
theorem inX3 : ∀ w ∈ wsX30, w ∈ lw_tbl := by decide +kernel
theorem inX4 : ∀ w ∈ wsX40, w ∈ lw_tbl := by decide +kernel
theorem inX5 : ∀ w ∈ wsX50, w ∈ lw_tbl := by decide +kernel
theorem inX6 : ∀ w ∈ wsX60, w ∈ lw_tbl := by decide +kernel
theorem inX7 : ∀ w ∈ wsX70, w ∈ lw_tbl := by decide +kernel
theorem inX8 : ∀ w ∈ wsX80, w ∈ lw_tbl := by decide +kernel
