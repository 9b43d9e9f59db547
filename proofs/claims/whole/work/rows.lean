section
-- ===== PART A: goes FIRST, ahead of the names: the tables' words, and 'selects' of the private methods out of them =====
/-- a private method of a class that the tables say can be made, by its rows of tables_1 -/
def lw_okq (q : MethodName × Nat) : Prop := (q.1.cls ≠ "java/lang/invoke/MethodHandle" ∧ q.1.cls ≠ "java/lang/invoke/VarHandle") ∧ Cond.instantiable q.1.cls q.2 ∈ tables_1 ∧ Cond.privateMethod q.1 ∈ tables_1 ∧ Cond.instanceMethod q.1 ∈ tables_1
theorem lw_p0 : lw_okq (⟨"DipLights$Told", "forgetFormulas", "()V"⟩, 5) := ⟨⟨by decide +kernel, by decide +kernel⟩, List.mem_of_getElem? (i := 75) (by decide +kernel), List.mem_of_getElem? (i := 184) (by decide +kernel), List.mem_of_getElem? (i := 185) (by decide +kernel)⟩
theorem lw_p1 : lw_okq (⟨"DipLights$Formula", "becomeUsualLaw", "()V"⟩, 3) := ⟨⟨by decide +kernel, by decide +kernel⟩, List.mem_of_getElem? (i := 168) (by decide +kernel), List.mem_of_getElem? (i := 188) (by decide +kernel), List.mem_of_getElem? (i := 189) (by decide +kernel)⟩
theorem lw_p2 : lw_okq (⟨"DipLights$Formula", "add", "(I)V"⟩, 3) := ⟨⟨by decide +kernel, by decide +kernel⟩, List.mem_of_getElem? (i := 168) (by decide +kernel), List.mem_of_getElem? (i := 192) (by decide +kernel), List.mem_of_getElem? (i := 193) (by decide +kernel)⟩
theorem lw_p3 : lw_okq (⟨"DipLights$Formula", "becomeUsualRule", "()V"⟩, 3) := ⟨⟨by decide +kernel, by decide +kernel⟩, List.mem_of_getElem? (i := 168) (by decide +kernel), List.mem_of_getElem? (i := 196) (by decide +kernel), List.mem_of_getElem? (i := 197) (by decide +kernel)⟩
theorem lw_p4 : lw_okq (⟨"DipLights$Tape", "put", "(I)V"⟩, 9) := ⟨⟨by decide +kernel, by decide +kernel⟩, List.mem_of_getElem? (i := 34) (by decide +kernel), List.mem_of_getElem? (i := 432) (by decide +kernel), List.mem_of_getElem? (i := 433) (by decide +kernel)⟩
theorem lw_p5 : lw_okq (⟨"DipLights", "freshMeeting", "()LDipLights$Meeting;"⟩, 15) := ⟨⟨by decide +kernel, by decide +kernel⟩, List.mem_of_getElem? (i := 26) (by decide +kernel), List.mem_of_getElem? (i := 444) (by decide +kernel), List.mem_of_getElem? (i := 445) (by decide +kernel)⟩
theorem lw_p6 : lw_okq (⟨"DipLights$Meeting", "run", "(LDipLights$Told;II)V"⟩, 5) := ⟨⟨by decide +kernel, by decide +kernel⟩, List.mem_of_getElem? (i := 243) (by decide +kernel), List.mem_of_getElem? (i := 448) (by decide +kernel), List.mem_of_getElem? (i := 449) (by decide +kernel)⟩
theorem lw_p7 : lw_okq (⟨"DipLights$Trip", "begin", "(LDipLights$Road;)V"⟩, 16) := ⟨⟨by decide +kernel, by decide +kernel⟩, List.mem_of_getElem? (i := 249) (by decide +kernel), List.mem_of_getElem? (i := 452) (by decide +kernel), List.mem_of_getElem? (i := 453) (by decide +kernel)⟩
theorem lw_p8 : lw_okq (⟨"DipLights$Road", "startOf", "(I)I"⟩, 17) := ⟨⟨by decide +kernel, by decide +kernel⟩, List.mem_of_getElem? (i := 81) (by decide +kernel), List.mem_of_getElem? (i := 456) (by decide +kernel), List.mem_of_getElem? (i := 457) (by decide +kernel)⟩
theorem lw_p9 : lw_okq (⟨"DipLights$Trip", "isOn", "(LDipLights$Road;)Z"⟩, 16) := ⟨⟨by decide +kernel, by decide +kernel⟩, List.mem_of_getElem? (i := 249) (by decide +kernel), List.mem_of_getElem? (i := 460) (by decide +kernel), List.mem_of_getElem? (i := 461) (by decide +kernel)⟩
theorem lw_p10 : lw_okq (⟨"DipLights$Road", "has", "(I)Z"⟩, 17) := ⟨⟨by decide +kernel, by decide +kernel⟩, List.mem_of_getElem? (i := 81) (by decide +kernel), List.mem_of_getElem? (i := 464) (by decide +kernel), List.mem_of_getElem? (i := 465) (by decide +kernel)⟩
theorem lw_p11 : lw_okq (⟨"DipLights$Meeting", "measure", "(LDipLights$Road;I)V"⟩, 5) := ⟨⟨by decide +kernel, by decide +kernel⟩, List.mem_of_getElem? (i := 243) (by decide +kernel), List.mem_of_getElem? (i := 468) (by decide +kernel), List.mem_of_getElem? (i := 469) (by decide +kernel)⟩
theorem lw_p12 : lw_okq (⟨"DipLights$Road", "hides", "(II)Z"⟩, 17) := ⟨⟨by decide +kernel, by decide +kernel⟩, List.mem_of_getElem? (i := 81) (by decide +kernel), List.mem_of_getElem? (i := 472) (by decide +kernel), List.mem_of_getElem? (i := 473) (by decide +kernel)⟩
theorem lw_p13 : lw_okq (⟨"DipLights$Meeting", "beamsOf", "(LDipLights$Told;LDipLights$Trip;I)I"⟩, 5) := ⟨⟨by decide +kernel, by decide +kernel⟩, List.mem_of_getElem? (i := 243) (by decide +kernel), List.mem_of_getElem? (i := 482) (by decide +kernel), List.mem_of_getElem? (i := 483) (by decide +kernel)⟩
theorem lw_p14 : lw_okq (⟨"DipLights$Meeting", "beamsBy", "(II)I"⟩, 5) := ⟨⟨by decide +kernel, by decide +kernel⟩, List.mem_of_getElem? (i := 243) (by decide +kernel), List.mem_of_getElem? (i := 486) (by decide +kernel), List.mem_of_getElem? (i := 487) (by decide +kernel)⟩
theorem lw_p15 : lw_okq (⟨"DipLights$Meeting", "far", "(I)I"⟩, 5) := ⟨⟨by decide +kernel, by decide +kernel⟩, List.mem_of_getElem? (i := 243) (by decide +kernel), List.mem_of_getElem? (i := 490) (by decide +kernel), List.mem_of_getElem? (i := 491) (by decide +kernel)⟩
def lw_privs_1 : List (MethodName × Nat) := [(⟨"DipLights$Told", "forgetFormulas", "()V"⟩, 5), (⟨"DipLights$Formula", "becomeUsualLaw", "()V"⟩, 3), (⟨"DipLights$Formula", "add", "(I)V"⟩, 3), (⟨"DipLights$Formula", "becomeUsualRule", "()V"⟩, 3), (⟨"DipLights$Tape", "put", "(I)V"⟩, 9), (⟨"DipLights", "freshMeeting", "()LDipLights$Meeting;"⟩, 15), (⟨"DipLights$Meeting", "run", "(LDipLights$Told;II)V"⟩, 5), (⟨"DipLights$Trip", "begin", "(LDipLights$Road;)V"⟩, 16), (⟨"DipLights$Road", "startOf", "(I)I"⟩, 17), (⟨"DipLights$Trip", "isOn", "(LDipLights$Road;)Z"⟩, 16), (⟨"DipLights$Road", "has", "(I)Z"⟩, 17), (⟨"DipLights$Meeting", "measure", "(LDipLights$Road;I)V"⟩, 5), (⟨"DipLights$Road", "hides", "(II)Z"⟩, 17), (⟨"DipLights$Meeting", "beamsOf", "(LDipLights$Told;LDipLights$Trip;I)I"⟩, 5), (⟨"DipLights$Meeting", "beamsBy", "(II)I"⟩, 5), (⟨"DipLights$Meeting", "far", "(I)I"⟩, 5)]
theorem lw_r1 : ∀ q ∈ lw_privs_1, lw_okq q := List.forall_mem_cons.mpr ⟨lw_p0, List.forall_mem_cons.mpr ⟨lw_p1, List.forall_mem_cons.mpr ⟨lw_p2, List.forall_mem_cons.mpr ⟨lw_p3, List.forall_mem_cons.mpr ⟨lw_p4, List.forall_mem_cons.mpr ⟨lw_p5, List.forall_mem_cons.mpr ⟨lw_p6, List.forall_mem_cons.mpr ⟨lw_p7, List.forall_mem_cons.mpr ⟨lw_p8, List.forall_mem_cons.mpr ⟨lw_p9, List.forall_mem_cons.mpr ⟨lw_p10, List.forall_mem_cons.mpr ⟨lw_p11, List.forall_mem_cons.mpr ⟨lw_p12, List.forall_mem_cons.mpr ⟨lw_p13, List.forall_mem_cons.mpr ⟨lw_p14, List.forall_mem_cons.mpr ⟨lw_p15, fun _ h => absurd h List.not_mem_nil⟩⟩⟩⟩⟩⟩⟩⟩⟩⟩⟩⟩⟩⟩⟩⟩
theorem lw_p16 : lw_okq (⟨"DipLights$Meeting", "apartIn", "(I)I"⟩, 5) := ⟨⟨by decide +kernel, by decide +kernel⟩, List.mem_of_getElem? (i := 243) (by decide +kernel), List.mem_of_getElem? (i := 494) (by decide +kernel), List.mem_of_getElem? (i := 495) (by decide +kernel)⟩
theorem lw_p17 : lw_okq (⟨"DipLights$Meeting", "tellValues", "(LDipLights$Told;LDipLights$Trip;)V"⟩, 5) := ⟨⟨by decide +kernel, by decide +kernel⟩, List.mem_of_getElem? (i := 243) (by decide +kernel), List.mem_of_getElem? (i := 498) (by decide +kernel), List.mem_of_getElem? (i := 499) (by decide +kernel)⟩
theorem lw_p18 : lw_okq (⟨"DipLights$Road", "reachBy", "(I)I"⟩, 17) := ⟨⟨by decide +kernel, by decide +kernel⟩, List.mem_of_getElem? (i := 81) (by decide +kernel), List.mem_of_getElem? (i := 502) (by decide +kernel), List.mem_of_getElem? (i := 503) (by decide +kernel)⟩
theorem lw_p19 : lw_okq (⟨"DipLights$Road", "wetAt", "(I)I"⟩, 17) := ⟨⟨by decide +kernel, by decide +kernel⟩, List.mem_of_getElem? (i := 81) (by decide +kernel), List.mem_of_getElem? (i := 506) (by decide +kernel), List.mem_of_getElem? (i := 507) (by decide +kernel)⟩
theorem lw_p20 : lw_okq (⟨"DipLights$Meeting", "inView", "(I)Z"⟩, 5) := ⟨⟨by decide +kernel, by decide +kernel⟩, List.mem_of_getElem? (i := 243) (by decide +kernel), List.mem_of_getElem? (i := 511) (by decide +kernel), List.mem_of_getElem? (i := 512) (by decide +kernel)⟩
theorem lw_p21 : lw_okq (⟨"DipLights$Meeting", "tripOf", "(I)LDipLights$Trip;"⟩, 5) := ⟨⟨by decide +kernel, by decide +kernel⟩, List.mem_of_getElem? (i := 243) (by decide +kernel), List.mem_of_getElem? (i := 515) (by decide +kernel), List.mem_of_getElem? (i := 516) (by decide +kernel)⟩
theorem lw_p22 : lw_okq (⟨"DipLights$Told", "beamsByRule", "(I)I"⟩, 5) := ⟨⟨by decide +kernel, by decide +kernel⟩, List.mem_of_getElem? (i := 75) (by decide +kernel), List.mem_of_getElem? (i := 519) (by decide +kernel), List.mem_of_getElem? (i := 520) (by decide +kernel)⟩
theorem lw_p23 : lw_okq (⟨"DipLights$Formula", "valueBy", "([I)I"⟩, 3) := ⟨⟨by decide +kernel, by decide +kernel⟩, List.mem_of_getElem? (i := 168) (by decide +kernel), List.mem_of_getElem? (i := 523) (by decide +kernel), List.mem_of_getElem? (i := 524) (by decide +kernel)⟩
theorem lw_p24 : lw_okq (⟨"DipLights$Meeting", "dazzles", "(LDipLights$Trip;)Z"⟩, 5) := ⟨⟨by decide +kernel, by decide +kernel⟩, List.mem_of_getElem? (i := 243) (by decide +kernel), List.mem_of_getElem? (i := 533) (by decide +kernel), List.mem_of_getElem? (i := 534) (by decide +kernel)⟩
theorem lw_p25 : lw_okq (⟨"DipLights$Road", "blindFor", "(I)I"⟩, 17) := ⟨⟨by decide +kernel, by decide +kernel⟩, List.mem_of_getElem? (i := 81) (by decide +kernel), List.mem_of_getElem? (i := 537) (by decide +kernel), List.mem_of_getElem? (i := 538) (by decide +kernel)⟩
theorem lw_p26 : lw_okq (⟨"DipLights$Trip", "becomeBlind", "(ZI)V"⟩, 16) := ⟨⟨by decide +kernel, by decide +kernel⟩, List.mem_of_getElem? (i := 249) (by decide +kernel), List.mem_of_getElem? (i := 541) (by decide +kernel), List.mem_of_getElem? (i := 542) (by decide +kernel)⟩
theorem lw_p27 : lw_okq (⟨"DipLights$Meeting", "keep", "(LDipLights$Told;LDipLights$Trip;Z)V"⟩, 5) := ⟨⟨by decide +kernel, by decide +kernel⟩, List.mem_of_getElem? (i := 243) (by decide +kernel), List.mem_of_getElem? (i := 546) (by decide +kernel), List.mem_of_getElem? (i := 547) (by decide +kernel)⟩
theorem lw_p28 : lw_okq (⟨"DipLights$Told", "sightByLaw", "()I"⟩, 5) := ⟨⟨by decide +kernel, by decide +kernel⟩, List.mem_of_getElem? (i := 75) (by decide +kernel), List.mem_of_getElem? (i := 550) (by decide +kernel), List.mem_of_getElem? (i := 551) (by decide +kernel)⟩
theorem lw_p29 : lw_okq (⟨"DipLights$Trip", "keep", "(LDipLights$Road;IIZ)V"⟩, 16) := ⟨⟨by decide +kernel, by decide +kernel⟩, List.mem_of_getElem? (i := 249) (by decide +kernel), List.mem_of_getElem? (i := 556) (by decide +kernel), List.mem_of_getElem? (i := 557) (by decide +kernel)⟩
theorem lw_p30 : lw_okq (⟨"DipLights$Changes", "takeBack", "(LDipLights$Road;)Z"⟩, 8) := ⟨⟨by decide +kernel, by decide +kernel⟩, List.mem_of_getElem? (i := 347) (by decide +kernel), List.mem_of_getElem? (i := 569) (by decide +kernel), List.mem_of_getElem? (i := 570) (by decide +kernel)⟩
theorem lw_p31 : lw_okq (⟨"DipLights", "meetingChanged", "()V"⟩, 15) := ⟨⟨by decide +kernel, by decide +kernel⟩, List.mem_of_getElem? (i := 26) (by decide +kernel), List.mem_of_getElem? (i := 576) (by decide +kernel), List.mem_of_getElem? (i := 577) (by decide +kernel)⟩
def lw_privs_2 : List (MethodName × Nat) := [(⟨"DipLights$Meeting", "apartIn", "(I)I"⟩, 5), (⟨"DipLights$Meeting", "tellValues", "(LDipLights$Told;LDipLights$Trip;)V"⟩, 5), (⟨"DipLights$Road", "reachBy", "(I)I"⟩, 17), (⟨"DipLights$Road", "wetAt", "(I)I"⟩, 17), (⟨"DipLights$Meeting", "inView", "(I)Z"⟩, 5), (⟨"DipLights$Meeting", "tripOf", "(I)LDipLights$Trip;"⟩, 5), (⟨"DipLights$Told", "beamsByRule", "(I)I"⟩, 5), (⟨"DipLights$Formula", "valueBy", "([I)I"⟩, 3), (⟨"DipLights$Meeting", "dazzles", "(LDipLights$Trip;)Z"⟩, 5), (⟨"DipLights$Road", "blindFor", "(I)I"⟩, 17), (⟨"DipLights$Trip", "becomeBlind", "(ZI)V"⟩, 16), (⟨"DipLights$Meeting", "keep", "(LDipLights$Told;LDipLights$Trip;Z)V"⟩, 5), (⟨"DipLights$Told", "sightByLaw", "()I"⟩, 5), (⟨"DipLights$Trip", "keep", "(LDipLights$Road;IIZ)V"⟩, 16), (⟨"DipLights$Changes", "takeBack", "(LDipLights$Road;)Z"⟩, 8), (⟨"DipLights", "meetingChanged", "()V"⟩, 15)]
theorem lw_r2 : ∀ q ∈ lw_privs_2, lw_okq q := List.forall_mem_cons.mpr ⟨lw_p16, List.forall_mem_cons.mpr ⟨lw_p17, List.forall_mem_cons.mpr ⟨lw_p18, List.forall_mem_cons.mpr ⟨lw_p19, List.forall_mem_cons.mpr ⟨lw_p20, List.forall_mem_cons.mpr ⟨lw_p21, List.forall_mem_cons.mpr ⟨lw_p22, List.forall_mem_cons.mpr ⟨lw_p23, List.forall_mem_cons.mpr ⟨lw_p24, List.forall_mem_cons.mpr ⟨lw_p25, List.forall_mem_cons.mpr ⟨lw_p26, List.forall_mem_cons.mpr ⟨lw_p27, List.forall_mem_cons.mpr ⟨lw_p28, List.forall_mem_cons.mpr ⟨lw_p29, List.forall_mem_cons.mpr ⟨lw_p30, List.forall_mem_cons.mpr ⟨lw_p31, fun _ h => absurd h List.not_mem_nil⟩⟩⟩⟩⟩⟩⟩⟩⟩⟩⟩⟩⟩⟩⟩⟩
theorem lw_p32 : lw_okq (⟨"DipLights$Changes", "keepImage", "(LDipLights$Road;)Z"⟩, 8) := ⟨⟨by decide +kernel, by decide +kernel⟩, List.mem_of_getElem? (i := 347) (by decide +kernel), List.mem_of_getElem? (i := 584) (by decide +kernel), List.mem_of_getElem? (i := 585) (by decide +kernel)⟩
theorem lw_p33 : lw_okq (⟨"DipLights$Changes", "bringBack", "(LDipLights$Road;)Z"⟩, 8) := ⟨⟨by decide +kernel, by decide +kernel⟩, List.mem_of_getElem? (i := 347) (by decide +kernel), List.mem_of_getElem? (i := 598) (by decide +kernel), List.mem_of_getElem? (i := 599) (by decide +kernel)⟩
theorem lw_p34 : lw_okq (⟨"DipLights", "takeText", "(II)V"⟩, 15) := ⟨⟨by decide +kernel, by decide +kernel⟩, List.mem_of_getElem? (i := 26) (by decide +kernel), List.mem_of_getElem? (i := 621) (by decide +kernel), List.mem_of_getElem? (i := 622) (by decide +kernel)⟩
theorem lw_p35 : lw_okq (⟨"DipLights", "needArgument", "(Z)V"⟩, 15) := ⟨⟨by decide +kernel, by decide +kernel⟩, List.mem_of_getElem? (i := 26) (by decide +kernel), List.mem_of_getElem? (i := 625) (by decide +kernel), List.mem_of_getElem? (i := 626) (by decide +kernel)⟩
theorem lw_p36 : lw_okq (⟨"java/lang/Throwable", "fillInStackTrace", "(I)Ljava/lang/Throwable;"⟩, 6) := ⟨⟨by decide +kernel, by decide +kernel⟩, List.mem_of_getElem? (i := 667) (by decide +kernel), List.mem_of_getElem? (i := 665) (by decide +kernel), List.mem_of_getElem? (i := 666) (by decide +kernel)⟩
theorem lw_p37 : lw_okq (⟨"DipLights$Tape", "beginText", "(I)V"⟩, 9) := ⟨⟨by decide +kernel, by decide +kernel⟩, List.mem_of_getElem? (i := 34) (by decide +kernel), List.mem_of_getElem? (i := 697) (by decide +kernel), List.mem_of_getElem? (i := 698) (by decide +kernel)⟩
theorem lw_p38 : lw_okq (⟨"DipLights$Tape", "advance", "()V"⟩, 9) := ⟨⟨by decide +kernel, by decide +kernel⟩, List.mem_of_getElem? (i := 34) (by decide +kernel), List.mem_of_getElem? (i := 702) (by decide +kernel), List.mem_of_getElem? (i := 703) (by decide +kernel)⟩
theorem lw_p39 : lw_okq (⟨"DipLights$Road", "readFrom", "(LDipLights$Tape;)Z"⟩, 17) := ⟨⟨by decide +kernel, by decide +kernel⟩, List.mem_of_getElem? (i := 81) (by decide +kernel), List.mem_of_getElem? (i := 710) (by decide +kernel), List.mem_of_getElem? (i := 711) (by decide +kernel)⟩
theorem lw_p40 : lw_okq (⟨"DipLights$Road", "empty", "()V"⟩, 17) := ⟨⟨by decide +kernel, by decide +kernel⟩, List.mem_of_getElem? (i := 81) (by decide +kernel), List.mem_of_getElem? (i := 714) (by decide +kernel), List.mem_of_getElem? (i := 715) (by decide +kernel)⟩
theorem lw_p41 : lw_okq (⟨"DipLights$Tape", "isWord", "(Ljava/lang/String;)Z"⟩, 9) := ⟨⟨by decide +kernel, by decide +kernel⟩, List.mem_of_getElem? (i := 34) (by decide +kernel), List.mem_of_getElem? (i := 722) (by decide +kernel), List.mem_of_getElem? (i := 723) (by decide +kernel)⟩
theorem lw_p42 : lw_okq (⟨"DipLights$Tape", "fail", "(I)Z"⟩, 9) := ⟨⟨by decide +kernel, by decide +kernel⟩, List.mem_of_getElem? (i := 34) (by decide +kernel), List.mem_of_getElem? (i := 781) (by decide +kernel), List.mem_of_getElem? (i := 782) (by decide +kernel)⟩
theorem lw_p43 : lw_okq (⟨"DipLights$Road", "hasRoomFor", "(I)Z"⟩, 17) := ⟨⟨by decide +kernel, by decide +kernel⟩, List.mem_of_getElem? (i := 81) (by decide +kernel), List.mem_of_getElem? (i := 785) (by decide +kernel), List.mem_of_getElem? (i := 786) (by decide +kernel)⟩
theorem lw_p44 : lw_okq (⟨"DipLights$Road", "readClause", "(ILDipLights$Tape;)Z"⟩, 17) := ⟨⟨by decide +kernel, by decide +kernel⟩, List.mem_of_getElem? (i := 81) (by decide +kernel), List.mem_of_getElem? (i := 790) (by decide +kernel), List.mem_of_getElem? (i := 791) (by decide +kernel)⟩
theorem lw_p45 : lw_okq (⟨"DipLights$Tape", "takeNumber", "(II)I"⟩, 9) := ⟨⟨by decide +kernel, by decide +kernel⟩, List.mem_of_getElem? (i := 34) (by decide +kernel), List.mem_of_getElem? (i := 794) (by decide +kernel), List.mem_of_getElem? (i := 795) (by decide +kernel)⟩
theorem lw_p46 : lw_okq (⟨"DipLights$Tape", "standsNumber", "(II)Z"⟩, 9) := ⟨⟨by decide +kernel, by decide +kernel⟩, List.mem_of_getElem? (i := 34) (by decide +kernel), List.mem_of_getElem? (i := 798) (by decide +kernel), List.mem_of_getElem? (i := 799) (by decide +kernel)⟩
theorem lw_p47 : lw_okq (⟨"DipLights$Road", "readBend", "(LDipLights$Tape;)Z"⟩, 17) := ⟨⟨by decide +kernel, by decide +kernel⟩, List.mem_of_getElem? (i := 81) (by decide +kernel), List.mem_of_getElem? (i := 803) (by decide +kernel), List.mem_of_getElem? (i := 804) (by decide +kernel)⟩
def lw_privs_3 : List (MethodName × Nat) := [(⟨"DipLights$Changes", "keepImage", "(LDipLights$Road;)Z"⟩, 8), (⟨"DipLights$Changes", "bringBack", "(LDipLights$Road;)Z"⟩, 8), (⟨"DipLights", "takeText", "(II)V"⟩, 15), (⟨"DipLights", "needArgument", "(Z)V"⟩, 15), (⟨"java/lang/Throwable", "fillInStackTrace", "(I)Ljava/lang/Throwable;"⟩, 6), (⟨"DipLights$Tape", "beginText", "(I)V"⟩, 9), (⟨"DipLights$Tape", "advance", "()V"⟩, 9), (⟨"DipLights$Road", "readFrom", "(LDipLights$Tape;)Z"⟩, 17), (⟨"DipLights$Road", "empty", "()V"⟩, 17), (⟨"DipLights$Tape", "isWord", "(Ljava/lang/String;)Z"⟩, 9), (⟨"DipLights$Tape", "fail", "(I)Z"⟩, 9), (⟨"DipLights$Road", "hasRoomFor", "(I)Z"⟩, 17), (⟨"DipLights$Road", "readClause", "(ILDipLights$Tape;)Z"⟩, 17), (⟨"DipLights$Tape", "takeNumber", "(II)I"⟩, 9), (⟨"DipLights$Tape", "standsNumber", "(II)Z"⟩, 9), (⟨"DipLights$Road", "readBend", "(LDipLights$Tape;)Z"⟩, 17)]
theorem lw_r3 : ∀ q ∈ lw_privs_3, lw_okq q := List.forall_mem_cons.mpr ⟨lw_p32, List.forall_mem_cons.mpr ⟨lw_p33, List.forall_mem_cons.mpr ⟨lw_p34, List.forall_mem_cons.mpr ⟨lw_p35, List.forall_mem_cons.mpr ⟨lw_p36, List.forall_mem_cons.mpr ⟨lw_p37, List.forall_mem_cons.mpr ⟨lw_p38, List.forall_mem_cons.mpr ⟨lw_p39, List.forall_mem_cons.mpr ⟨lw_p40, List.forall_mem_cons.mpr ⟨lw_p41, List.forall_mem_cons.mpr ⟨lw_p42, List.forall_mem_cons.mpr ⟨lw_p43, List.forall_mem_cons.mpr ⟨lw_p44, List.forall_mem_cons.mpr ⟨lw_p45, List.forall_mem_cons.mpr ⟨lw_p46, List.forall_mem_cons.mpr ⟨lw_p47, fun _ h => absurd h List.not_mem_nil⟩⟩⟩⟩⟩⟩⟩⟩⟩⟩⟩⟩⟩⟩⟩⟩
theorem lw_p48 : lw_okq (⟨"DipLights$Road", "readWet", "(LDipLights$Tape;)Z"⟩, 17) := ⟨⟨by decide +kernel, by decide +kernel⟩, List.mem_of_getElem? (i := 81) (by decide +kernel), List.mem_of_getElem? (i := 807) (by decide +kernel), List.mem_of_getElem? (i := 808) (by decide +kernel)⟩
theorem lw_p49 : lw_okq (⟨"DipLights$Road", "readCoat", "(LDipLights$Tape;)Z"⟩, 17) := ⟨⟨by decide +kernel, by decide +kernel⟩, List.mem_of_getElem? (i := 81) (by decide +kernel), List.mem_of_getElem? (i := 811) (by decide +kernel), List.mem_of_getElem? (i := 812) (by decide +kernel)⟩
theorem lw_p50 : lw_okq (⟨"DipLights$Road", "readReach", "(LDipLights$Tape;)Z"⟩, 17) := ⟨⟨by decide +kernel, by decide +kernel⟩, List.mem_of_getElem? (i := 81) (by decide +kernel), List.mem_of_getElem? (i := 815) (by decide +kernel), List.mem_of_getElem? (i := 816) (by decide +kernel)⟩
theorem lw_p51 : lw_okq (⟨"DipLights$Road", "readCar", "(LDipLights$Tape;)Z"⟩, 17) := ⟨⟨by decide +kernel, by decide +kernel⟩, List.mem_of_getElem? (i := 81) (by decide +kernel), List.mem_of_getElem? (i := 819) (by decide +kernel), List.mem_of_getElem? (i := 820) (by decide +kernel)⟩
theorem lw_p52 : lw_okq (⟨"DipLights$Tape", "takeSign", "(C)Z"⟩, 9) := ⟨⟨by decide +kernel, by decide +kernel⟩, List.mem_of_getElem? (i := 34) (by decide +kernel), List.mem_of_getElem? (i := 823) (by decide +kernel), List.mem_of_getElem? (i := 824) (by decide +kernel)⟩
theorem lw_p53 : lw_okq (⟨"DipLights$Tape", "isSign", "(C)Z"⟩, 9) := ⟨⟨by decide +kernel, by decide +kernel⟩, List.mem_of_getElem? (i := 34) (by decide +kernel), List.mem_of_getElem? (i := 827) (by decide +kernel), List.mem_of_getElem? (i := 828) (by decide +kernel)⟩
theorem lw_p54 : lw_okq (⟨"DipLights$Tape", "answerOfFault", "()I"⟩, 9) := ⟨⟨by decide +kernel, by decide +kernel⟩, List.mem_of_getElem? (i := 34) (by decide +kernel), List.mem_of_getElem? (i := 831) (by decide +kernel), List.mem_of_getElem? (i := 832) (by decide +kernel)⟩
theorem lw_p55 : lw_okq (⟨"DipLights$Changes", "forgetAll", "()V"⟩, 8) := ⟨⟨by decide +kernel, by decide +kernel⟩, List.mem_of_getElem? (i := 347) (by decide +kernel), List.mem_of_getElem? (i := 836) (by decide +kernel), List.mem_of_getElem? (i := 837) (by decide +kernel)⟩
theorem lw_p56 : lw_okq (⟨"DipLights$Formula", "readFrom", "(LDipLights$Tape;)Z"⟩, 3) := ⟨⟨by decide +kernel, by decide +kernel⟩, List.mem_of_getElem? (i := 168) (by decide +kernel), List.mem_of_getElem? (i := 847) (by decide +kernel), List.mem_of_getElem? (i := 848) (by decide +kernel)⟩
theorem lw_p57 : lw_okq (⟨"DipLights$Formula", "readSum", "(LDipLights$Tape;I)Z"⟩, 3) := ⟨⟨by decide +kernel, by decide +kernel⟩, List.mem_of_getElem? (i := 168) (by decide +kernel), List.mem_of_getElem? (i := 851) (by decide +kernel), List.mem_of_getElem? (i := 852) (by decide +kernel)⟩
theorem lw_p58 : lw_okq (⟨"DipLights$Formula", "readProduct", "(LDipLights$Tape;I)Z"⟩, 3) := ⟨⟨by decide +kernel, by decide +kernel⟩, List.mem_of_getElem? (i := 168) (by decide +kernel), List.mem_of_getElem? (i := 855) (by decide +kernel), List.mem_of_getElem? (i := 856) (by decide +kernel)⟩
theorem lw_p59 : lw_okq (⟨"DipLights$Formula", "readUnit", "(LDipLights$Tape;I)Z"⟩, 3) := ⟨⟨by decide +kernel, by decide +kernel⟩, List.mem_of_getElem? (i := 168) (by decide +kernel), List.mem_of_getElem? (i := 859) (by decide +kernel), List.mem_of_getElem? (i := 860) (by decide +kernel)⟩
theorem lw_p60 : lw_okq (⟨"DipLights$Formula", "readPair", "(LDipLights$Tape;II)Z"⟩, 3) := ⟨⟨by decide +kernel, by decide +kernel⟩, List.mem_of_getElem? (i := 168) (by decide +kernel), List.mem_of_getElem? (i := 889) (by decide +kernel), List.mem_of_getElem? (i := 890) (by decide +kernel)⟩
theorem lw_p61 : lw_okq (⟨"DipLights", "needElement", "(Z)V"⟩, 15) := ⟨⟨by decide +kernel, by decide +kernel⟩, List.mem_of_getElem? (i := 26) (by decide +kernel), List.mem_of_getElem? (i := 901) (by decide +kernel), List.mem_of_getElem? (i := 902) (by decide +kernel)⟩
theorem lw_p62 : lw_okq (⟨"DipLights$Told", "swapRule", "(ILDipLights$Formula;)LDipLights$Formula;"⟩, 5) := ⟨⟨by decide +kernel, by decide +kernel⟩, List.mem_of_getElem? (i := 75) (by decide +kernel), List.mem_of_getElem? (i := 921) (by decide +kernel), List.mem_of_getElem? (i := 922) (by decide +kernel)⟩
theorem lw_p63 : lw_okq (⟨"DipLights$Book", "readFrom", "(LDipLights$Tape;)Z"⟩, 3) := ⟨⟨by decide +kernel, by decide +kernel⟩, List.mem_of_getElem? (i := 224) (by decide +kernel), List.mem_of_getElem? (i := 932) (by decide +kernel), List.mem_of_getElem? (i := 933) (by decide +kernel)⟩
def lw_privs_4 : List (MethodName × Nat) := [(⟨"DipLights$Road", "readWet", "(LDipLights$Tape;)Z"⟩, 17), (⟨"DipLights$Road", "readCoat", "(LDipLights$Tape;)Z"⟩, 17), (⟨"DipLights$Road", "readReach", "(LDipLights$Tape;)Z"⟩, 17), (⟨"DipLights$Road", "readCar", "(LDipLights$Tape;)Z"⟩, 17), (⟨"DipLights$Tape", "takeSign", "(C)Z"⟩, 9), (⟨"DipLights$Tape", "isSign", "(C)Z"⟩, 9), (⟨"DipLights$Tape", "answerOfFault", "()I"⟩, 9), (⟨"DipLights$Changes", "forgetAll", "()V"⟩, 8), (⟨"DipLights$Formula", "readFrom", "(LDipLights$Tape;)Z"⟩, 3), (⟨"DipLights$Formula", "readSum", "(LDipLights$Tape;I)Z"⟩, 3), (⟨"DipLights$Formula", "readProduct", "(LDipLights$Tape;I)Z"⟩, 3), (⟨"DipLights$Formula", "readUnit", "(LDipLights$Tape;I)Z"⟩, 3), (⟨"DipLights$Formula", "readPair", "(LDipLights$Tape;II)Z"⟩, 3), (⟨"DipLights", "needElement", "(Z)V"⟩, 15), (⟨"DipLights$Told", "swapRule", "(ILDipLights$Formula;)LDipLights$Formula;"⟩, 5), (⟨"DipLights$Book", "readFrom", "(LDipLights$Tape;)Z"⟩, 3)]
theorem lw_r4 : ∀ q ∈ lw_privs_4, lw_okq q := List.forall_mem_cons.mpr ⟨lw_p48, List.forall_mem_cons.mpr ⟨lw_p49, List.forall_mem_cons.mpr ⟨lw_p50, List.forall_mem_cons.mpr ⟨lw_p51, List.forall_mem_cons.mpr ⟨lw_p52, List.forall_mem_cons.mpr ⟨lw_p53, List.forall_mem_cons.mpr ⟨lw_p54, List.forall_mem_cons.mpr ⟨lw_p55, List.forall_mem_cons.mpr ⟨lw_p56, List.forall_mem_cons.mpr ⟨lw_p57, List.forall_mem_cons.mpr ⟨lw_p58, List.forall_mem_cons.mpr ⟨lw_p59, List.forall_mem_cons.mpr ⟨lw_p60, List.forall_mem_cons.mpr ⟨lw_p61, List.forall_mem_cons.mpr ⟨lw_p62, List.forall_mem_cons.mpr ⟨lw_p63, fun _ h => absurd h List.not_mem_nil⟩⟩⟩⟩⟩⟩⟩⟩⟩⟩⟩⟩⟩⟩⟩⟩
theorem lw_p64 : lw_okq (⟨"DipLights$Book", "readLine", "(LDipLights$Tape;)Z"⟩, 3) := ⟨⟨by decide +kernel, by decide +kernel⟩, List.mem_of_getElem? (i := 224) (by decide +kernel), List.mem_of_getElem? (i := 936) (by decide +kernel), List.mem_of_getElem? (i := 937) (by decide +kernel)⟩
theorem lw_p65 : lw_okq (⟨"DipLights$Book", "tells", "(I)Z"⟩, 3) := ⟨⟨by decide +kernel, by decide +kernel⟩, List.mem_of_getElem? (i := 224) (by decide +kernel), List.mem_of_getElem? (i := 941) (by decide +kernel), List.mem_of_getElem? (i := 942) (by decide +kernel)⟩
theorem lw_p66 : lw_okq (⟨"DipLights", "needRange", "(III)V"⟩, 15) := ⟨⟨by decide +kernel, by decide +kernel⟩, List.mem_of_getElem? (i := 26) (by decide +kernel), List.mem_of_getElem? (i := 956) (by decide +kernel), List.mem_of_getElem? (i := 957) (by decide +kernel)⟩
theorem lw_p67 : lw_okq (⟨"DipLights$Road", "wetCells", "()I"⟩, 17) := ⟨⟨by decide +kernel, by decide +kernel⟩, List.mem_of_getElem? (i := 81) (by decide +kernel), List.mem_of_getElem? (i := 960) (by decide +kernel), List.mem_of_getElem? (i := 961) (by decide +kernel)⟩
theorem lw_p68 : lw_okq (⟨"DipLights", "needCar", "(I)V"⟩, 15) := ⟨⟨by decide +kernel, by decide +kernel⟩, List.mem_of_getElem? (i := 26) (by decide +kernel), List.mem_of_getElem? (i := 971) (by decide +kernel), List.mem_of_getElem? (i := 972) (by decide +kernel)⟩
theorem lw_p69 : lw_okq (⟨"DipLights", "needCoat", "(I)V"⟩, 15) := ⟨⟨by decide +kernel, by decide +kernel⟩, List.mem_of_getElem? (i := 26) (by decide +kernel), List.mem_of_getElem? (i := 983) (by decide +kernel), List.mem_of_getElem? (i := 984) (by decide +kernel)⟩
theorem lw_p70 : lw_okq (⟨"DipLights$Trip", "unsaf\x65", "(I)I"⟩, 16) := ⟨⟨by decide +kernel, by decide +kernel⟩, List.mem_of_getElem? (i := 249) (by decide +kernel), List.mem_of_getElem? (i := 995) (by decide +kernel), List.mem_of_getElem? (i := 996) (by decide +kernel)⟩
theorem lw_p71 : lw_okq (⟨"DipLights$Meeting", "hitBits", "(LDipLights$Road;I)I"⟩, 5) := ⟨⟨by decide +kernel, by decide +kernel⟩, List.mem_of_getElem? (i := 243) (by decide +kernel), List.mem_of_getElem? (i := 1007) (by decide +kernel), List.mem_of_getElem? (i := 1008) (by decide +kernel)⟩
theorem lw_p72 : lw_okq (⟨"DipLights$Meeting", "hitBy", "(LDipLights$Road;III)I"⟩, 5) := ⟨⟨by decide +kernel, by decide +kernel⟩, List.mem_of_getElem? (i := 243) (by decide +kernel), List.mem_of_getElem? (i := 1011) (by decide +kernel), List.mem_of_getElem? (i := 1012) (by decide +kernel)⟩
theorem lw_p73 : lw_okq (⟨"DipLights$Trip", "doesHit", "(LDipLights$Road;II)Z"⟩, 16) := ⟨⟨by decide +kernel, by decide +kernel⟩, List.mem_of_getElem? (i := 249) (by decide +kernel), List.mem_of_getElem? (i := 1015) (by decide +kernel), List.mem_of_getElem? (i := 1016) (by decide +kernel)⟩
theorem lw_p74 : lw_okq (⟨"DipLights$Trip", "reachedIn", "(I)I"⟩, 16) := ⟨⟨by decide +kernel, by decide +kernel⟩, List.mem_of_getElem? (i := 249) (by decide +kernel), List.mem_of_getElem? (i := 1019) (by decide +kernel), List.mem_of_getElem? (i := 1020) (by decide +kernel)⟩
theorem lw_p75 : lw_okq (⟨"DipLights$Trip", "ahead", "(II)I"⟩, 16) := ⟨⟨by decide +kernel, by decide +kernel⟩, List.mem_of_getElem? (i := 249) (by decide +kernel), List.mem_of_getElem? (i := 1023) (by decide +kernel), List.mem_of_getElem? (i := 1024) (by decide +kernel)⟩
theorem lw_p76 : lw_okq (⟨"DipLights$Trip", "seenIn", "(LDipLights$Road;II)I"⟩, 16) := ⟨⟨by decide +kernel, by decide +kernel⟩, List.mem_of_getElem? (i := 249) (by decide +kernel), List.mem_of_getElem? (i := 1027) (by decide +kernel), List.mem_of_getElem? (i := 1028) (by decide +kernel)⟩
theorem lw_p77 : lw_okq (⟨"DipLights$Trip", "unsafeTenths", "()I"⟩, 16) := ⟨⟨by decide +kernel, by decide +kernel⟩, List.mem_of_getElem? (i := 249) (by decide +kernel), List.mem_of_getElem? (i := 1048) (by decide +kernel), List.mem_of_getElem? (i := 1049) (by decide +kernel)⟩
theorem lw_p78 : lw_okq (⟨"DipLights$Trip", "glareTenths", "()I"⟩, 16) := ⟨⟨by decide +kernel, by decide +kernel⟩, List.mem_of_getElem? (i := 249) (by decide +kernel), List.mem_of_getElem? (i := 1053) (by decide +kernel), List.mem_of_getElem? (i := 1054) (by decide +kernel)⟩
theorem lw_p79 : lw_okq (⟨"DipLights$Trip", "blindTenths", "()I"⟩, 16) := ⟨⟨by decide +kernel, by decide +kernel⟩, List.mem_of_getElem? (i := 249) (by decide +kernel), List.mem_of_getElem? (i := 1057) (by decide +kernel), List.mem_of_getElem? (i := 1058) (by decide +kernel)⟩
def lw_privs_5 : List (MethodName × Nat) := [(⟨"DipLights$Book", "readLine", "(LDipLights$Tape;)Z"⟩, 3), (⟨"DipLights$Book", "tells", "(I)Z"⟩, 3), (⟨"DipLights", "needRange", "(III)V"⟩, 15), (⟨"DipLights$Road", "wetCells", "()I"⟩, 17), (⟨"DipLights", "needCar", "(I)V"⟩, 15), (⟨"DipLights", "needCoat", "(I)V"⟩, 15), (⟨"DipLights$Trip", "unsaf\x65", "(I)I"⟩, 16), (⟨"DipLights$Meeting", "hitBits", "(LDipLights$Road;I)I"⟩, 5), (⟨"DipLights$Meeting", "hitBy", "(LDipLights$Road;III)I"⟩, 5), (⟨"DipLights$Trip", "doesHit", "(LDipLights$Road;II)Z"⟩, 16), (⟨"DipLights$Trip", "reachedIn", "(I)I"⟩, 16), (⟨"DipLights$Trip", "ahead", "(II)I"⟩, 16), (⟨"DipLights$Trip", "seenIn", "(LDipLights$Road;II)I"⟩, 16), (⟨"DipLights$Trip", "unsafeTenths", "()I"⟩, 16), (⟨"DipLights$Trip", "glareTenths", "()I"⟩, 16), (⟨"DipLights$Trip", "blindTenths", "()I"⟩, 16)]
theorem lw_r5 : ∀ q ∈ lw_privs_5, lw_okq q := List.forall_mem_cons.mpr ⟨lw_p64, List.forall_mem_cons.mpr ⟨lw_p65, List.forall_mem_cons.mpr ⟨lw_p66, List.forall_mem_cons.mpr ⟨lw_p67, List.forall_mem_cons.mpr ⟨lw_p68, List.forall_mem_cons.mpr ⟨lw_p69, List.forall_mem_cons.mpr ⟨lw_p70, List.forall_mem_cons.mpr ⟨lw_p71, List.forall_mem_cons.mpr ⟨lw_p72, List.forall_mem_cons.mpr ⟨lw_p73, List.forall_mem_cons.mpr ⟨lw_p74, List.forall_mem_cons.mpr ⟨lw_p75, List.forall_mem_cons.mpr ⟨lw_p76, List.forall_mem_cons.mpr ⟨lw_p77, List.forall_mem_cons.mpr ⟨lw_p78, List.forall_mem_cons.mpr ⟨lw_p79, fun _ h => absurd h List.not_mem_nil⟩⟩⟩⟩⟩⟩⟩⟩⟩⟩⟩⟩⟩⟩⟩⟩
theorem lw_p80 : lw_okq (⟨"DipLights$Trip", "fullTenths", "()I"⟩, 16) := ⟨⟨by decide +kernel, by decide +kernel⟩, List.mem_of_getElem? (i := 249) (by decide +kernel), List.mem_of_getElem? (i := 1061) (by decide +kernel), List.mem_of_getElem? (i := 1062) (by decide +kernel)⟩
theorem lw_p81 : lw_okq (⟨"DipLights$Trip", "beamChanges", "()I"⟩, 16) := ⟨⟨by decide +kernel, by decide +kernel⟩, List.mem_of_getElem? (i := 249) (by decide +kernel), List.mem_of_getElem? (i := 1065) (by decide +kernel), List.mem_of_getElem? (i := 1066) (by decide +kernel)⟩
theorem lw_p82 : lw_okq (⟨"DipLights$Trip", "leastSight", "()I"⟩, 16) := ⟨⟨by decide +kernel, by decide +kernel⟩, List.mem_of_getElem? (i := 249) (by decide +kernel), List.mem_of_getElem? (i := 1069) (by decide +kernel), List.mem_of_getElem? (i := 1070) (by decide +kernel)⟩
theorem lw_p83 : lw_okq (⟨"DipLights$Told", "valuesOfNobody", "()[I"⟩, 5) := ⟨⟨by decide +kernel, by decide +kernel⟩, List.mem_of_getElem? (i := 75) (by decide +kernel), List.mem_of_getElem? (i := 1080) (by decide +kernel), List.mem_of_getElem? (i := 1081) (by decide +kernel)⟩
theorem lw_p84 : lw_okq (⟨"DipLights", "needTwoCars", "()V"⟩, 15) := ⟨⟨by decide +kernel, by decide +kernel⟩, List.mem_of_getElem? (i := 26) (by decide +kernel), List.mem_of_getElem? (i := 1093) (by decide +kernel), List.mem_of_getElem? (i := 1094) (by decide +kernel)⟩
theorem lw_p85 : lw_okq (⟨"DipLights$Meeting", "costOf", "(LDipLights$Road;I)I"⟩, 5) := ⟨⟨by decide +kernel, by decide +kernel⟩, List.mem_of_getElem? (i := 243) (by decide +kernel), List.mem_of_getElem? (i := 1113) (by decide +kernel), List.mem_of_getElem? (i := 1114) (by decide +kernel)⟩
theorem lw_p86 : lw_okq (⟨"DipLights$Meeting", "hitCount", "(LDipLights$Road;I)I"⟩, 5) := ⟨⟨by decide +kernel, by decide +kernel⟩, List.mem_of_getElem? (i := 243) (by decide +kernel), List.mem_of_getElem? (i := 1117) (by decide +kernel), List.mem_of_getElem? (i := 1118) (by decide +kernel)⟩
theorem lw_p87 : lw_okq (⟨"DipLights", "fillDuel", "(LDipLights$Meeting;I)V"⟩, 15) := ⟨⟨by decide +kernel, by decide +kernel⟩, List.mem_of_getElem? (i := 26) (by decide +kernel), List.mem_of_getElem? (i := 1136) (by decide +kernel), List.mem_of_getElem? (i := 1137) (by decide +kernel)⟩
theorem lw_p88 : lw_okq (⟨"DipLights$Meeting", "everApartBy", "(I)Z"⟩, 5) := ⟨⟨by decide +kernel, by decide +kernel⟩, List.mem_of_getElem? (i := 243) (by decide +kernel), List.mem_of_getElem? (i := 1140) (by decide +kernel), List.mem_of_getElem? (i := 1141) (by decide +kernel)⟩
theorem lw_p89 : lw_okq (⟨"DipLights$Game", "copy", "(IIII)V"⟩, 2) := ⟨⟨by decide +kernel, by decide +kernel⟩, List.mem_of_getElem? (i := 334) (by decide +kernel), List.mem_of_getElem? (i := 1144) (by decide +kernel), List.mem_of_getElem? (i := 1145) (by decide +kernel)⟩
theorem lw_p90 : lw_okq (⟨"DipLights$Game", "put", "(IIII)V"⟩, 2) := ⟨⟨by decide +kernel, by decide +kernel⟩, List.mem_of_getElem? (i := 334) (by decide +kernel), List.mem_of_getElem? (i := 1151) (by decide +kernel), List.mem_of_getElem? (i := 1152) (by decide +kernel)⟩
theorem lw_p91 : lw_okq (⟨"DipLights$Game", "restsOf", "(I)I"⟩, 2) := ⟨⟨by decide +kernel, by decide +kernel⟩, List.mem_of_getElem? (i := 334) (by decide +kernel), List.mem_of_getElem? (i := 1156) (by decide +kernel), List.mem_of_getElem? (i := 1157) (by decide +kernel)⟩
theorem lw_p92 : lw_okq (⟨"DipLights$Game", "isRest", "(III)Z"⟩, 2) := ⟨⟨by decide +kernel, by decide +kernel⟩, List.mem_of_getElem? (i := 334) (by decide +kernel), List.mem_of_getElem? (i := 1160) (by decide +kernel), List.mem_of_getElem? (i := 1161) (by decide +kernel)⟩
theorem lw_p93 : lw_okq (⟨"DipLights$Game", "firstRest", "(I)I"⟩, 2) := ⟨⟨by decide +kernel, by decide +kernel⟩, List.mem_of_getElem? (i := 334) (by decide +kernel), List.mem_of_getElem? (i := 1164) (by decide +kernel), List.mem_of_getElem? (i := 1165) (by decide +kernel)⟩
theorem lw_p94 : lw_okq (⟨"DipLights$Game", "kindest", "(I)I"⟩, 2) := ⟨⟨by decide +kernel, by decide +kernel⟩, List.mem_of_getElem? (i := 334) (by decide +kernel), List.mem_of_getElem? (i := 1171) (by decide +kernel), List.mem_of_getElem? (i := 1172) (by decide +kernel)⟩
theorem lw_p95 : lw_okq (⟨"DipLights$Game", "together", "(I)I"⟩, 2) := ⟨⟨by decide +kernel, by decide +kernel⟩, List.mem_of_getElem? (i := 334) (by decide +kernel), List.mem_of_getElem? (i := 1175) (by decide +kernel), List.mem_of_getElem? (i := 1176) (by decide +kernel)⟩
def lw_privs_6 : List (MethodName × Nat) := [(⟨"DipLights$Trip", "fullTenths", "()I"⟩, 16), (⟨"DipLights$Trip", "beamChanges", "()I"⟩, 16), (⟨"DipLights$Trip", "leastSight", "()I"⟩, 16), (⟨"DipLights$Told", "valuesOfNobody", "()[I"⟩, 5), (⟨"DipLights", "needTwoCars", "()V"⟩, 15), (⟨"DipLights$Meeting", "costOf", "(LDipLights$Road;I)I"⟩, 5), (⟨"DipLights$Meeting", "hitCount", "(LDipLights$Road;I)I"⟩, 5), (⟨"DipLights", "fillDuel", "(LDipLights$Meeting;I)V"⟩, 15), (⟨"DipLights$Meeting", "everApartBy", "(I)Z"⟩, 5), (⟨"DipLights$Game", "copy", "(IIII)V"⟩, 2), (⟨"DipLights$Game", "put", "(IIII)V"⟩, 2), (⟨"DipLights$Game", "restsOf", "(I)I"⟩, 2), (⟨"DipLights$Game", "isRest", "(III)Z"⟩, 2), (⟨"DipLights$Game", "firstRest", "(I)I"⟩, 2), (⟨"DipLights$Game", "kindest", "(I)I"⟩, 2), (⟨"DipLights$Game", "together", "(I)I"⟩, 2)]
theorem lw_r6 : ∀ q ∈ lw_privs_6, lw_okq q := List.forall_mem_cons.mpr ⟨lw_p80, List.forall_mem_cons.mpr ⟨lw_p81, List.forall_mem_cons.mpr ⟨lw_p82, List.forall_mem_cons.mpr ⟨lw_p83, List.forall_mem_cons.mpr ⟨lw_p84, List.forall_mem_cons.mpr ⟨lw_p85, List.forall_mem_cons.mpr ⟨lw_p86, List.forall_mem_cons.mpr ⟨lw_p87, List.forall_mem_cons.mpr ⟨lw_p88, List.forall_mem_cons.mpr ⟨lw_p89, List.forall_mem_cons.mpr ⟨lw_p90, List.forall_mem_cons.mpr ⟨lw_p91, List.forall_mem_cons.mpr ⟨lw_p92, List.forall_mem_cons.mpr ⟨lw_p93, List.forall_mem_cons.mpr ⟨lw_p94, List.forall_mem_cons.mpr ⟨lw_p95, fun _ h => absurd h List.not_mem_nil⟩⟩⟩⟩⟩⟩⟩⟩⟩⟩⟩⟩⟩⟩⟩⟩
theorem lw_p96 : lw_okq (⟨"DipLights", "nextHabit", "(I)I"⟩, 15) := ⟨⟨by decide +kernel, by decide +kernel⟩, List.mem_of_getElem? (i := 26) (by decide +kernel), List.mem_of_getElem? (i := 1195) (by decide +kernel), List.mem_of_getElem? (i := 1196) (by decide +kernel)⟩
theorem lw_p97 : lw_okq (⟨"DipLights", "leastVisited", "(I)I"⟩, 15) := ⟨⟨by decide +kernel, by decide +kernel⟩, List.mem_of_getElem? (i := 26) (by decide +kernel), List.mem_of_getElem? (i := 1201) (by decide +kernel), List.mem_of_getElem? (i := 1202) (by decide +kernel)⟩
theorem lw_p98 : lw_okq (⟨"DipLights", "greatestVisited", "(I)I"⟩, 15) := ⟨⟨by decide +kernel, by decide +kernel⟩, List.mem_of_getElem? (i := 26) (by decide +kernel), List.mem_of_getElem? (i := 1205) (by decide +kernel), List.mem_of_getElem? (i := 1206) (by decide +kernel)⟩
theorem lw_p99 : lw_okq (⟨"DipLights", "distanceBits", "(LDipLights$Meeting;)J"⟩, 15) := ⟨⟨by decide +kernel, by decide +kernel⟩, List.mem_of_getElem? (i := 26) (by decide +kernel), List.mem_of_getElem? (i := 1276) (by decide +kernel), List.mem_of_getElem? (i := 1277) (by decide +kernel)⟩
theorem lw_p100 : lw_okq (⟨"DipLights", "bookFits", "(LDipLights$Meeting;I)Z"⟩, 15) := ⟨⟨by decide +kernel, by decide +kernel⟩, List.mem_of_getElem? (i := 26) (by decide +kernel), List.mem_of_getElem? (i := 1280) (by decide +kernel), List.mem_of_getElem? (i := 1281) (by decide +kernel)⟩
theorem lw_p101 : lw_okq (⟨"DipLights$Road", "cellOfDraw", "(I)I"⟩, 17) := ⟨⟨by decide +kernel, by decide +kernel⟩, List.mem_of_getElem? (i := 81) (by decide +kernel), List.mem_of_getElem? (i := 1311) (by decide +kernel), List.mem_of_getElem? (i := 1312) (by decide +kernel)⟩
theorem lw_p102 : lw_okq (⟨"DipLights$Meeting", "hitByCars", "(LDipLights$Road;II)I"⟩, 5) := ⟨⟨by decide +kernel, by decide +kernel⟩, List.mem_of_getElem? (i := 243) (by decide +kernel), List.mem_of_getElem? (i := 1323) (by decide +kernel), List.mem_of_getElem? (i := 1324) (by decide +kernel)⟩
theorem lw_p103 : lw_okq (⟨"DipLights$Trip", "firstBeams", "(II)I"⟩, 16) := ⟨⟨by decide +kernel, by decide +kernel⟩, List.mem_of_getElem? (i := 249) (by decide +kernel), List.mem_of_getElem? (i := 1341) (by decide +kernel), List.mem_of_getElem? (i := 1342) (by decide +kernel)⟩
theorem lw_p104 : lw_okq (⟨"DipLights", "change", "(IIII)I"⟩, 15) := ⟨⟨by decide +kernel, by decide +kernel⟩, List.mem_of_getElem? (i := 26) (by decide +kernel), List.mem_of_getElem? (i := 1388) (by decide +kernel), List.mem_of_getElem? (i := 1389) (by decide +kernel)⟩
theorem lw_p105 : lw_okq (⟨"DipLights$Changes", "make", "(LDipLights$Road;IIII)Z"⟩, 8) := ⟨⟨by decide +kernel, by decide +kernel⟩, List.mem_of_getElem? (i := 347) (by decide +kernel), List.mem_of_getElem? (i := 1392) (by decide +kernel), List.mem_of_getElem? (i := 1393) (by decide +kernel)⟩
theorem lw_p106 : lw_okq (⟨"DipLightsModel", "tellsNothing", "()V"⟩, 53) := ⟨⟨by decide +kernel, by decide +kernel⟩, List.mem_of_getElem? (i := 1416) (by decide +kernel), List.mem_of_getElem? (i := 1425) (by decide +kernel), List.mem_of_getElem? (i := 1426) (by decide +kernel)⟩
theorem lw_p107 : lw_okq (⟨"DipLightsModel", "standsNow", "()V"⟩, 53) := ⟨⟨by decide +kernel, by decide +kernel⟩, List.mem_of_getElem? (i := 1416) (by decide +kernel), List.mem_of_getElem? (i := 1429) (by decide +kernel), List.mem_of_getElem? (i := 1430) (by decide +kernel)⟩
theorem lw_p108 : lw_okq (⟨"DipLightsModel", "bad", "(ZII)Z"⟩, 53) := ⟨⟨by decide +kernel, by decide +kernel⟩, List.mem_of_getElem? (i := 1416) (by decide +kernel), List.mem_of_getElem? (i := 1611) (by decide +kernel), List.mem_of_getElem? (i := 1612) (by decide +kernel)⟩
theorem lw_p109 : lw_okq (⟨"DipLightsModel", "starts", "(I)V"⟩, 53) := ⟨⟨by decide +kernel, by decide +kernel⟩, List.mem_of_getElem? (i := 1416) (by decide +kernel), List.mem_of_getElem? (i := 1615) (by decide +kernel), List.mem_of_getElem? (i := 1616) (by decide +kernel)⟩
theorem lw_p110 : lw_okq (⟨"DipLightsModel", "blanks", "()V"⟩, 53) := ⟨⟨by decide +kernel, by decide +kernel⟩, List.mem_of_getElem? (i := 1416) (by decide +kernel), List.mem_of_getElem? (i := 1619) (by decide +kernel), List.mem_of_getElem? (i := 1620) (by decide +kernel)⟩
theorem lw_p111 : lw_okq (⟨"DipLightsModel", "byteAt", "(I)I"⟩, 53) := ⟨⟨by decide +kernel, by decide +kernel⟩, List.mem_of_getElem? (i := 1416) (by decide +kernel), List.mem_of_getElem? (i := 1623) (by decide +kernel), List.mem_of_getElem? (i := 1624) (by decide +kernel)⟩
def lw_privs_7 : List (MethodName × Nat) := [(⟨"DipLights", "nextHabit", "(I)I"⟩, 15), (⟨"DipLights", "leastVisited", "(I)I"⟩, 15), (⟨"DipLights", "greatestVisited", "(I)I"⟩, 15), (⟨"DipLights", "distanceBits", "(LDipLights$Meeting;)J"⟩, 15), (⟨"DipLights", "bookFits", "(LDipLights$Meeting;I)Z"⟩, 15), (⟨"DipLights$Road", "cellOfDraw", "(I)I"⟩, 17), (⟨"DipLights$Meeting", "hitByCars", "(LDipLights$Road;II)I"⟩, 5), (⟨"DipLights$Trip", "firstBeams", "(II)I"⟩, 16), (⟨"DipLights", "change", "(IIII)I"⟩, 15), (⟨"DipLights$Changes", "make", "(LDipLights$Road;IIII)Z"⟩, 8), (⟨"DipLightsModel", "tellsNothing", "()V"⟩, 53), (⟨"DipLightsModel", "standsNow", "()V"⟩, 53), (⟨"DipLightsModel", "bad", "(ZII)Z"⟩, 53), (⟨"DipLightsModel", "starts", "(I)V"⟩, 53), (⟨"DipLightsModel", "blanks", "()V"⟩, 53), (⟨"DipLightsModel", "byteAt", "(I)I"⟩, 53)]
theorem lw_r7 : ∀ q ∈ lw_privs_7, lw_okq q := List.forall_mem_cons.mpr ⟨lw_p96, List.forall_mem_cons.mpr ⟨lw_p97, List.forall_mem_cons.mpr ⟨lw_p98, List.forall_mem_cons.mpr ⟨lw_p99, List.forall_mem_cons.mpr ⟨lw_p100, List.forall_mem_cons.mpr ⟨lw_p101, List.forall_mem_cons.mpr ⟨lw_p102, List.forall_mem_cons.mpr ⟨lw_p103, List.forall_mem_cons.mpr ⟨lw_p104, List.forall_mem_cons.mpr ⟨lw_p105, List.forall_mem_cons.mpr ⟨lw_p106, List.forall_mem_cons.mpr ⟨lw_p107, List.forall_mem_cons.mpr ⟨lw_p108, List.forall_mem_cons.mpr ⟨lw_p109, List.forall_mem_cons.mpr ⟨lw_p110, List.forall_mem_cons.mpr ⟨lw_p111, fun _ h => absurd h List.not_mem_nil⟩⟩⟩⟩⟩⟩⟩⟩⟩⟩⟩⟩⟩⟩⟩⟩
theorem lw_p112 : lw_okq (⟨"DipLightsModel", "clause", "()V"⟩, 53) := ⟨⟨by decide +kernel, by decide +kernel⟩, List.mem_of_getElem? (i := 1416) (by decide +kernel), List.mem_of_getElem? (i := 1627) (by decide +kernel), List.mem_of_getElem? (i := 1628) (by decide +kernel)⟩
theorem lw_p113 : lw_okq (⟨"DipLightsModel", "kindHere", "()I"⟩, 53) := ⟨⟨by decide +kernel, by decide +kernel⟩, List.mem_of_getElem? (i := 1416) (by decide +kernel), List.mem_of_getElem? (i := 1631) (by decide +kernel), List.mem_of_getElem? (i := 1632) (by decide +kernel)⟩
theorem lw_p114 : lw_okq (⟨"DipLightsModel", "isWord", "(IIIIII)Z"⟩, 53) := ⟨⟨by decide +kernel, by decide +kernel⟩, List.mem_of_getElem? (i := 1416) (by decide +kernel), List.mem_of_getElem? (i := 1635) (by decide +kernel), List.mem_of_getElem? (i := 1636) (by decide +kernel)⟩
theorem lw_p115 : lw_okq (⟨"DipLightsModel", "wordHere", "()I"⟩, 53) := ⟨⟨by decide +kernel, by decide +kernel⟩, List.mem_of_getElem? (i := 1416) (by decide +kernel), List.mem_of_getElem? (i := 1639) (by decide +kernel), List.mem_of_getElem? (i := 1640) (by decide +kernel)⟩
theorem lw_p116 : lw_okq (⟨"DipLightsModel", "wrong", "(II)V"⟩, 53) := ⟨⟨by decide +kernel, by decide +kernel⟩, List.mem_of_getElem? (i := 1416) (by decide +kernel), List.mem_of_getElem? (i := 1649) (by decide +kernel), List.mem_of_getElem? (i := 1650) (by decide +kernel)⟩
theorem lw_p117 : lw_okq (⟨"DipLightsModel", "isFull", "(I)Z"⟩, 53) := ⟨⟨by decide +kernel, by decide +kernel⟩, List.mem_of_getElem? (i := 1416) (by decide +kernel), List.mem_of_getElem? (i := 1653) (by decide +kernel), List.mem_of_getElem? (i := 1654) (by decide +kernel)⟩
theorem lw_p118 : lw_okq (⟨"DipLightsModel", "skipWord", "()V"⟩, 53) := ⟨⟨by decide +kernel, by decide +kernel⟩, List.mem_of_getElem? (i := 1416) (by decide +kernel), List.mem_of_getElem? (i := 1657) (by decide +kernel), List.mem_of_getElem? (i := 1658) (by decide +kernel)⟩
theorem lw_p119 : lw_okq (⟨"DipLightsModel", "number", "(II)I"⟩, 53) := ⟨⟨by decide +kernel, by decide +kernel⟩, List.mem_of_getElem? (i := 1416) (by decide +kernel), List.mem_of_getElem? (i := 1661) (by decide +kernel), List.mem_of_getElem? (i := 1662) (by decide +kernel)⟩
theorem lw_p120 : lw_okq (⟨"DipLightsModel", "cellHere", "()I"⟩, 53) := ⟨⟨by decide +kernel, by decide +kernel⟩, List.mem_of_getElem? (i := 1416) (by decide +kernel), List.mem_of_getElem? (i := 1669) (by decide +kernel), List.mem_of_getElem? (i := 1670) (by decide +kernel)⟩
theorem lw_p121 : lw_okq (⟨"DipLightsModel", "sign", "(I)V"⟩, 53) := ⟨⟨by decide +kernel, by decide +kernel⟩, List.mem_of_getElem? (i := 1416) (by decide +kernel), List.mem_of_getElem? (i := 1673) (by decide +kernel), List.mem_of_getElem? (i := 1674) (by decide +kernel)⟩
theorem lw_p122 : lw_okq (⟨"DipLightsModel", "ends", "()I"⟩, 53) := ⟨⟨by decide +kernel, by decide +kernel⟩, List.mem_of_getElem? (i := 1416) (by decide +kernel), List.mem_of_getElem? (i := 1677) (by decide +kernel), List.mem_of_getElem? (i := 1678) (by decide +kernel)⟩
theorem lw_p123 : lw_okq (⟨"DipLightsModel", "reads", "(II)I"⟩, 53) := ⟨⟨by decide +kernel, by decide +kernel⟩, List.mem_of_getElem? (i := 1416) (by decide +kernel), List.mem_of_getElem? (i := 1685) (by decide +kernel), List.mem_of_getElem? (i := 1686) (by decide +kernel)⟩
theorem lw_p124 : lw_okq (⟨"DipLightsModel", "sum", "()V"⟩, 53) := ⟨⟨by decide +kernel, by decide +kernel⟩, List.mem_of_getElem? (i := 1416) (by decide +kernel), List.mem_of_getElem? (i := 1689) (by decide +kernel), List.mem_of_getElem? (i := 1690) (by decide +kernel)⟩
theorem lw_p125 : lw_okq (⟨"DipLightsModel", "product", "()V"⟩, 53) := ⟨⟨by decide +kernel, by decide +kernel⟩, List.mem_of_getElem? (i := 1416) (by decide +kernel), List.mem_of_getElem? (i := 1693) (by decide +kernel), List.mem_of_getElem? (i := 1694) (by decide +kernel)⟩
theorem lw_p126 : lw_okq (⟨"DipLightsModel", "one", "()V"⟩, 53) := ⟨⟨by decide +kernel, by decide +kernel⟩, List.mem_of_getElem? (i := 1416) (by decide +kernel), List.mem_of_getElem? (i := 1697) (by decide +kernel), List.mem_of_getElem? (i := 1698) (by decide +kernel)⟩
theorem lw_p127 : lw_okq (⟨"DipLightsModel", "opens", "()Z"⟩, 53) := ⟨⟨by decide +kernel, by decide +kernel⟩, List.mem_of_getElem? (i := 1416) (by decide +kernel), List.mem_of_getElem? (i := 1701) (by decide +kernel), List.mem_of_getElem? (i := 1702) (by decide +kernel)⟩
def lw_privs_8 : List (MethodName × Nat) := [(⟨"DipLightsModel", "clause", "()V"⟩, 53), (⟨"DipLightsModel", "kindHere", "()I"⟩, 53), (⟨"DipLightsModel", "isWord", "(IIIIII)Z"⟩, 53), (⟨"DipLightsModel", "wordHere", "()I"⟩, 53), (⟨"DipLightsModel", "wrong", "(II)V"⟩, 53), (⟨"DipLightsModel", "isFull", "(I)Z"⟩, 53), (⟨"DipLightsModel", "skipWord", "()V"⟩, 53), (⟨"DipLightsModel", "number", "(II)I"⟩, 53), (⟨"DipLightsModel", "cellHere", "()I"⟩, 53), (⟨"DipLightsModel", "sign", "(I)V"⟩, 53), (⟨"DipLightsModel", "ends", "()I"⟩, 53), (⟨"DipLightsModel", "reads", "(II)I"⟩, 53), (⟨"DipLightsModel", "sum", "()V"⟩, 53), (⟨"DipLightsModel", "product", "()V"⟩, 53), (⟨"DipLightsModel", "one", "()V"⟩, 53), (⟨"DipLightsModel", "opens", "()Z"⟩, 53)]
theorem lw_r8 : ∀ q ∈ lw_privs_8, lw_okq q := List.forall_mem_cons.mpr ⟨lw_p112, List.forall_mem_cons.mpr ⟨lw_p113, List.forall_mem_cons.mpr ⟨lw_p114, List.forall_mem_cons.mpr ⟨lw_p115, List.forall_mem_cons.mpr ⟨lw_p116, List.forall_mem_cons.mpr ⟨lw_p117, List.forall_mem_cons.mpr ⟨lw_p118, List.forall_mem_cons.mpr ⟨lw_p119, List.forall_mem_cons.mpr ⟨lw_p120, List.forall_mem_cons.mpr ⟨lw_p121, List.forall_mem_cons.mpr ⟨lw_p122, List.forall_mem_cons.mpr ⟨lw_p123, List.forall_mem_cons.mpr ⟨lw_p124, List.forall_mem_cons.mpr ⟨lw_p125, List.forall_mem_cons.mpr ⟨lw_p126, List.forall_mem_cons.mpr ⟨lw_p127, fun _ h => absurd h List.not_mem_nil⟩⟩⟩⟩⟩⟩⟩⟩⟩⟩⟩⟩⟩⟩⟩⟩
theorem lw_p128 : lw_okq (⟨"DipLightsModel", "notes", "(II)V"⟩, 53) := ⟨⟨by decide +kernel, by decide +kernel⟩, List.mem_of_getElem? (i := 1416) (by decide +kernel), List.mem_of_getElem? (i := 1705) (by decide +kernel), List.mem_of_getElem? (i := 1706) (by decide +kernel)⟩
theorem lw_p129 : lw_okq (⟨"DipLightsModel", "knownHere", "()I"⟩, 53) := ⟨⟨by decide +kernel, by decide +kernel⟩, List.mem_of_getElem? (i := 1416) (by decide +kernel), List.mem_of_getElem? (i := 1709) (by decide +kernel), List.mem_of_getElem? (i := 1710) (by decide +kernel)⟩
theorem lw_p130 : lw_okq (⟨"DipLightsModel", "takes", "(IIIIII)Z"⟩, 53) := ⟨⟨by decide +kernel, by decide +kernel⟩, List.mem_of_getElem? (i := 1416) (by decide +kernel), List.mem_of_getElem? (i := 1713) (by decide +kernel), List.mem_of_getElem? (i := 1714) (by decide +kernel)⟩
theorem lw_p131 : lw_okq (⟨"DipLightsModel", "takesSign", "(I)Z"⟩, 53) := ⟨⟨by decide +kernel, by decide +kernel⟩, List.mem_of_getElem? (i := 1416) (by decide +kernel), List.mem_of_getElem? (i := 1717) (by decide +kernel), List.mem_of_getElem? (i := 1718) (by decide +kernel)⟩
theorem lw_p132 : lw_okq (⟨"DipLightsModel", "isBendBetween", "(II)Z"⟩, 53) := ⟨⟨by decide +kernel, by decide +kernel⟩, List.mem_of_getElem? (i := 1416) (by decide +kernel), List.mem_of_getElem? (i := 1737) (by decide +kernel), List.mem_of_getElem? (i := 1738) (by decide +kernel)⟩
theorem lw_p133 : lw_okq (⟨"DipLightsModel", "isWet", "(I)Z"⟩, 53) := ⟨⟨by decide +kernel, by decide +kernel⟩, List.mem_of_getElem? (i := 1416) (by decide +kernel), List.mem_of_getElem? (i := 1747) (by decide +kernel), List.mem_of_getElem? (i := 1748) (by decide +kernel)⟩
theorem lw_p134 : lw_okq (⟨"DipLightsModel", "isCar", "(I)Z"⟩, 53) := ⟨⟨by decide +kernel, by decide +kernel⟩, List.mem_of_getElem? (i := 1416) (by decide +kernel), List.mem_of_getElem? (i := 1755) (by decide +kernel), List.mem_of_getElem? (i := 1756) (by decide +kernel)⟩
theorem lw_p135 : lw_okq (⟨"DipLightsModel", "paceOf", "(I)I"⟩, 53) := ⟨⟨by decide +kernel, by decide +kernel⟩, List.mem_of_getElem? (i := 1416) (by decide +kernel), List.mem_of_getElem? (i := 1759) (by decide +kernel), List.mem_of_getElem? (i := 1760) (by decide +kernel)⟩
theorem lw_p136 : lw_okq (⟨"DipLightsModel", "tiltOf", "(I)I"⟩, 53) := ⟨⟨by decide +kernel, by decide +kernel⟩, List.mem_of_getElem? (i := 1416) (by decide +kernel), List.mem_of_getElem? (i := 1763) (by decide +kernel), List.mem_of_getElem? (i := 1764) (by decide +kernel)⟩
theorem lw_p137 : lw_okq (⟨"DipLightsModel", "isCoat", "(I)Z"⟩, 53) := ⟨⟨by decide +kernel, by decide +kernel⟩, List.mem_of_getElem? (i := 1416) (by decide +kernel), List.mem_of_getElem? (i := 1771) (by decide +kernel), List.mem_of_getElem? (i := 1772) (by decide +kernel)⟩
theorem lw_p138 : lw_okq (⟨"DipLightsModel", "asTold", "()V"⟩, 53) := ⟨⟨by decide +kernel, by decide +kernel⟩, List.mem_of_getElem? (i := 1416) (by decide +kernel), List.mem_of_getElem? (i := 1779) (by decide +kernel), List.mem_of_getElem? (i := 1780) (by decide +kernel)⟩
theorem lw_p139 : lw_okq (⟨"DipLightsModel", "meets", "(II)V"⟩, 53) := ⟨⟨by decide +kernel, by decide +kernel⟩, List.mem_of_getElem? (i := 1416) (by decide +kernel), List.mem_of_getElem? (i := 1783) (by decide +kernel), List.mem_of_getElem? (i := 1784) (by decide +kernel)⟩
theorem lw_p140 : lw_okq (⟨"DipLightsModel", "isOn", "(I)Z"⟩, 53) := ⟨⟨by decide +kernel, by decide +kernel⟩, List.mem_of_getElem? (i := 1416) (by decide +kernel), List.mem_of_getElem? (i := 1787) (by decide +kernel), List.mem_of_getElem? (i := 1788) (by decide +kernel)⟩
theorem lw_p141 : lw_okq (⟨"DipLightsModel", "goesTenth", "(IZ)V"⟩, 53) := ⟨⟨by decide +kernel, by decide +kernel⟩, List.mem_of_getElem? (i := 1416) (by decide +kernel), List.mem_of_getElem? (i := 1791) (by decide +kernel), List.mem_of_getElem? (i := 1792) (by decide +kernel)⟩
theorem lw_p142 : lw_okq (⟨"DipLightsModel", "knows", "(IIIZZI)V"⟩, 53) := ⟨⟨by decide +kernel, by decide +kernel⟩, List.mem_of_getElem? (i := 1416) (by decide +kernel), List.mem_of_getElem? (i := 1795) (by decide +kernel), List.mem_of_getElem? (i := 1796) (by decide +kernel)⟩
theorem lw_p143 : lw_okq (⟨"DipLightsModel", "beamsBy", "(I)I"⟩, 53) := ⟨⟨by decide +kernel, by decide +kernel⟩, List.mem_of_getElem? (i := 1416) (by decide +kernel), List.mem_of_getElem? (i := 1802) (by decide +kernel), List.mem_of_getElem? (i := 1803) (by decide +kernel)⟩
def lw_privs_9 : List (MethodName × Nat) := [(⟨"DipLightsModel", "notes", "(II)V"⟩, 53), (⟨"DipLightsModel", "knownHere", "()I"⟩, 53), (⟨"DipLightsModel", "takes", "(IIIIII)Z"⟩, 53), (⟨"DipLightsModel", "takesSign", "(I)Z"⟩, 53), (⟨"DipLightsModel", "isBendBetween", "(II)Z"⟩, 53), (⟨"DipLightsModel", "isWet", "(I)Z"⟩, 53), (⟨"DipLightsModel", "isCar", "(I)Z"⟩, 53), (⟨"DipLightsModel", "paceOf", "(I)I"⟩, 53), (⟨"DipLightsModel", "tiltOf", "(I)I"⟩, 53), (⟨"DipLightsModel", "isCoat", "(I)Z"⟩, 53), (⟨"DipLightsModel", "asTold", "()V"⟩, 53), (⟨"DipLightsModel", "meets", "(II)V"⟩, 53), (⟨"DipLightsModel", "isOn", "(I)Z"⟩, 53), (⟨"DipLightsModel", "goesTenth", "(IZ)V"⟩, 53), (⟨"DipLightsModel", "knows", "(IIIZZI)V"⟩, 53), (⟨"DipLightsModel", "beamsBy", "(I)I"⟩, 53)]
theorem lw_r9 : ∀ q ∈ lw_privs_9, lw_okq q := List.forall_mem_cons.mpr ⟨lw_p128, List.forall_mem_cons.mpr ⟨lw_p129, List.forall_mem_cons.mpr ⟨lw_p130, List.forall_mem_cons.mpr ⟨lw_p131, List.forall_mem_cons.mpr ⟨lw_p132, List.forall_mem_cons.mpr ⟨lw_p133, List.forall_mem_cons.mpr ⟨lw_p134, List.forall_mem_cons.mpr ⟨lw_p135, List.forall_mem_cons.mpr ⟨lw_p136, List.forall_mem_cons.mpr ⟨lw_p137, List.forall_mem_cons.mpr ⟨lw_p138, List.forall_mem_cons.mpr ⟨lw_p139, List.forall_mem_cons.mpr ⟨lw_p140, List.forall_mem_cons.mpr ⟨lw_p141, List.forall_mem_cons.mpr ⟨lw_p142, List.forall_mem_cons.mpr ⟨lw_p143, fun _ h => absurd h List.not_mem_nil⟩⟩⟩⟩⟩⟩⟩⟩⟩⟩⟩⟩⟩⟩⟩⟩
theorem lw_p144 : lw_okq (⟨"DipLightsModel", "worked", "(I)I"⟩, 53) := ⟨⟨by decide +kernel, by decide +kernel⟩, List.mem_of_getElem? (i := 1416) (by decide +kernel), List.mem_of_getElem? (i := 1806) (by decide +kernel), List.mem_of_getElem? (i := 1807) (by decide +kernel)⟩
theorem lw_p145 : lw_okq (⟨"DipLightsModel", "blindsFor", "(I)I"⟩, 53) := ⟨⟨by decide +kernel, by decide +kernel⟩, List.mem_of_getElem? (i := 1416) (by decide +kernel), List.mem_of_getElem? (i := 1813) (by decide +kernel), List.mem_of_getElem? (i := 1814) (by decide +kernel)⟩
theorem lw_p146 : lw_okq (⟨"DipLightsModel", "looksOut", "(IIZZ)V"⟩, 53) := ⟨⟨by decide +kernel, by decide +kernel⟩, List.mem_of_getElem? (i := 1416) (by decide +kernel), List.mem_of_getElem? (i := 1817) (by decide +kernel), List.mem_of_getElem? (i := 1818) (by decide +kernel)⟩
theorem lw_p147 : lw_okq (⟨"DipLightsModel", "sightBy", "()I"⟩, 53) := ⟨⟨by decide +kernel, by decide +kernel⟩, List.mem_of_getElem? (i := 1416) (by decide +kernel), List.mem_of_getElem? (i := 1821) (by decide +kernel), List.mem_of_getElem? (i := 1822) (by decide +kernel)⟩
theorem lw_p148 : lw_okq (⟨"DipLightsModel", "stopOf", "(II)I"⟩, 53) := ⟨⟨by decide +kernel, by decide +kernel⟩, List.mem_of_getElem? (i := 1416) (by decide +kernel), List.mem_of_getElem? (i := 1825) (by decide +kernel), List.mem_of_getElem? (i := 1826) (by decide +kernel)⟩
theorem lw_p149 : lw_okq (⟨"DipLightsModel", "leaves", "()V"⟩, 53) := ⟨⟨by decide +kernel, by decide +kernel⟩, List.mem_of_getElem? (i := 1416) (by decide +kernel), List.mem_of_getElem? (i := 1829) (by decide +kernel), List.mem_of_getElem? (i := 1830) (by decide +kernel)⟩
theorem lw_p150 : lw_okq (⟨"DipLightsModel", "unsafeOf", "(I)I"⟩, 53) := ⟨⟨by decide +kernel, by decide +kernel⟩, List.mem_of_getElem? (i := 1416) (by decide +kernel), List.mem_of_getElem? (i := 1853) (by decide +kernel), List.mem_of_getElem? (i := 1854) (by decide +kernel)⟩
theorem lw_p151 : lw_okq (⟨"DipLightsModel", "notTwo", "(I)Z"⟩, 53) := ⟨⟨by decide +kernel, by decide +kernel⟩, List.mem_of_getElem? (i := 1416) (by decide +kernel), List.mem_of_getElem? (i := 1865) (by decide +kernel), List.mem_of_getElem? (i := 1866) (by decide +kernel)⟩
theorem lw_p152 : lw_okq (⟨"DipLightsModel", "costBy", "(III)I"⟩, 53) := ⟨⟨by decide +kernel, by decide +kernel⟩, List.mem_of_getElem? (i := 1416) (by decide +kernel), List.mem_of_getElem? (i := 1869) (by decide +kernel), List.mem_of_getElem? (i := 1870) (by decide +kernel)⟩
theorem lw_p153 : lw_okq (⟨"DipLightsModel", "costOf", "(I)I"⟩, 53) := ⟨⟨by decide +kernel, by decide +kernel⟩, List.mem_of_getElem? (i := 1416) (by decide +kernel), List.mem_of_getElem? (i := 1873) (by decide +kernel), List.mem_of_getElem? (i := 1874) (by decide +kernel)⟩
theorem lw_p154 : lw_okq (⟨"DipLightsModel", "isRest", "(III)Z"⟩, 53) := ⟨⟨by decide +kernel, by decide +kernel⟩, List.mem_of_getElem? (i := 1416) (by decide +kernel), List.mem_of_getElem? (i := 1884) (by decide +kernel), List.mem_of_getElem? (i := 1885) (by decide +kernel)⟩
theorem lw_p155 : lw_okq (⟨"DipLightsModel", "habitBehind", "(I)I"⟩, 53) := ⟨⟨by decide +kernel, by decide +kernel⟩, List.mem_of_getElem? (i := 1416) (by decide +kernel), List.mem_of_getElem? (i := 1896) (by decide +kernel), List.mem_of_getElem? (i := 1897) (by decide +kernel)⟩
theorem lw_p156 : lw_okq (⟨"DipLightsModel", "distancesNow", "()J"⟩, 53) := ⟨⟨by decide +kernel, by decide +kernel⟩, List.mem_of_getElem? (i := 1416) (by decide +kernel), List.mem_of_getElem? (i := 1945) (by decide +kernel), List.mem_of_getElem? (i := 1946) (by decide +kernel)⟩
theorem lw_p157 : lw_okq (⟨"DipLightsModel", "rightLines", "()I"⟩, 53) := ⟨⟨by decide +kernel, by decide +kernel⟩, List.mem_of_getElem? (i := 1416) (by decide +kernel), List.mem_of_getElem? (i := 1949) (by decide +kernel), List.mem_of_getElem? (i := 1950) (by decide +kernel)⟩
theorem lw_p158 : lw_okq (⟨"DipLightsModel", "isLine", "(I)Z"⟩, 53) := ⟨⟨by decide +kernel, by decide +kernel⟩, List.mem_of_getElem? (i := 1416) (by decide +kernel), List.mem_of_getElem? (i := 1953) (by decide +kernel), List.mem_of_getElem? (i := 1954) (by decide +kernel)⟩
theorem lw_p159 : lw_okq (⟨"DipLightsModel", "isInBook", "(I)Z"⟩, 53) := ⟨⟨by decide +kernel, by decide +kernel⟩, List.mem_of_getElem? (i := 1416) (by decide +kernel), List.mem_of_getElem? (i := 1961) (by decide +kernel), List.mem_of_getElem? (i := 1962) (by decide +kernel)⟩
def lw_privs_10 : List (MethodName × Nat) := [(⟨"DipLightsModel", "worked", "(I)I"⟩, 53), (⟨"DipLightsModel", "blindsFor", "(I)I"⟩, 53), (⟨"DipLightsModel", "looksOut", "(IIZZ)V"⟩, 53), (⟨"DipLightsModel", "sightBy", "()I"⟩, 53), (⟨"DipLightsModel", "stopOf", "(II)I"⟩, 53), (⟨"DipLightsModel", "leaves", "()V"⟩, 53), (⟨"DipLightsModel", "unsafeOf", "(I)I"⟩, 53), (⟨"DipLightsModel", "notTwo", "(I)Z"⟩, 53), (⟨"DipLightsModel", "costBy", "(III)I"⟩, 53), (⟨"DipLightsModel", "costOf", "(I)I"⟩, 53), (⟨"DipLightsModel", "isRest", "(III)Z"⟩, 53), (⟨"DipLightsModel", "habitBehind", "(I)I"⟩, 53), (⟨"DipLightsModel", "distancesNow", "()J"⟩, 53), (⟨"DipLightsModel", "rightLines", "()I"⟩, 53), (⟨"DipLightsModel", "isLine", "(I)Z"⟩, 53), (⟨"DipLightsModel", "isInBook", "(I)Z"⟩, 53)]
theorem lw_r10 : ∀ q ∈ lw_privs_10, lw_okq q := List.forall_mem_cons.mpr ⟨lw_p144, List.forall_mem_cons.mpr ⟨lw_p145, List.forall_mem_cons.mpr ⟨lw_p146, List.forall_mem_cons.mpr ⟨lw_p147, List.forall_mem_cons.mpr ⟨lw_p148, List.forall_mem_cons.mpr ⟨lw_p149, List.forall_mem_cons.mpr ⟨lw_p150, List.forall_mem_cons.mpr ⟨lw_p151, List.forall_mem_cons.mpr ⟨lw_p152, List.forall_mem_cons.mpr ⟨lw_p153, List.forall_mem_cons.mpr ⟨lw_p154, List.forall_mem_cons.mpr ⟨lw_p155, List.forall_mem_cons.mpr ⟨lw_p156, List.forall_mem_cons.mpr ⟨lw_p157, List.forall_mem_cons.mpr ⟨lw_p158, List.forall_mem_cons.mpr ⟨lw_p159, fun _ h => absurd h List.not_mem_nil⟩⟩⟩⟩⟩⟩⟩⟩⟩⟩⟩⟩⟩⟩⟩⟩
theorem lw_p160 : lw_okq (⟨"DipLightsModel", "puts", "()V"⟩, 53) := ⟨⟨by decide +kernel, by decide +kernel⟩, List.mem_of_getElem? (i := 1416) (by decide +kernel), List.mem_of_getElem? (i := 1973) (by decide +kernel), List.mem_of_getElem? (i := 1974) (by decide +kernel)⟩
theorem lw_p161 : lw_okq (⟨"DipLightsModel", "putsBack", "()V"⟩, 53) := ⟨⟨by decide +kernel, by decide +kernel⟩, List.mem_of_getElem? (i := 1416) (by decide +kernel), List.mem_of_getElem? (i := 1978) (by decide +kernel), List.mem_of_getElem? (i := 1979) (by decide +kernel)⟩
theorem lw_p162 : lw_okq (⟨"DipLightsModel", "hitAlone", "(II)I"⟩, 53) := ⟨⟨by decide +kernel, by decide +kernel⟩, List.mem_of_getElem? (i := 1416) (by decide +kernel), List.mem_of_getElem? (i := 1986) (by decide +kernel), List.mem_of_getElem? (i := 1987) (by decide +kernel)⟩
theorem lw_p163 : lw_okq (⟨"DipLightsModel", "changed", "()Z"⟩, 53) := ⟨⟨by decide +kernel, by decide +kernel⟩, List.mem_of_getElem? (i := 1416) (by decide +kernel), List.mem_of_getElem? (i := 2022) (by decide +kernel), List.mem_of_getElem? (i := 2023) (by decide +kernel)⟩
theorem lw_p164 : lw_okq (⟨"DipLightsModel", "spotsAll", "([IZ)V"⟩, 53) := ⟨⟨by decide +kernel, by decide +kernel⟩, List.mem_of_getElem? (i := 1416) (by decide +kernel), List.mem_of_getElem? (i := 2042) (by decide +kernel), List.mem_of_getElem? (i := 2043) (by decide +kernel)⟩
theorem lw_p165 : lw_okq (⟨"DipLightsModel", "spots", "([IIZ)I"⟩, 53) := ⟨⟨by decide +kernel, by decide +kernel⟩, List.mem_of_getElem? (i := 1416) (by decide +kernel), List.mem_of_getElem? (i := 2046) (by decide +kernel), List.mem_of_getElem? (i := 2047) (by decide +kernel)⟩
def lw_privs_11 : List (MethodName × Nat) := [(⟨"DipLightsModel", "puts", "()V"⟩, 53), (⟨"DipLightsModel", "putsBack", "()V"⟩, 53), (⟨"DipLightsModel", "hitAlone", "(II)I"⟩, 53), (⟨"DipLightsModel", "changed", "()Z"⟩, 53), (⟨"DipLightsModel", "spotsAll", "([IZ)V"⟩, 53), (⟨"DipLightsModel", "spots", "([IIZ)I"⟩, 53)]
theorem lw_r11 : ∀ q ∈ lw_privs_11, lw_okq q := List.forall_mem_cons.mpr ⟨lw_p160, List.forall_mem_cons.mpr ⟨lw_p161, List.forall_mem_cons.mpr ⟨lw_p162, List.forall_mem_cons.mpr ⟨lw_p163, List.forall_mem_cons.mpr ⟨lw_p164, List.forall_mem_cons.mpr ⟨lw_p165, fun _ h => absurd h List.not_mem_nil⟩⟩⟩⟩⟩⟩
def lw_privs : List (MethodName × Nat) := lw_privs_1 ++ (lw_privs_2 ++ (lw_privs_3 ++ (lw_privs_4 ++ (lw_privs_5 ++ (lw_privs_6 ++ (lw_privs_7 ++ (lw_privs_8 ++ (lw_privs_9 ++ (lw_privs_10 ++ (lw_privs_11))))))))))
def lw_tbl : List Cond := k2_sels lw_privs ++ tables_1
theorem lw_privs_ok : ∀ q ∈ lw_privs, lw_okq q := by
  show ∀ q ∈ lw_privs_1 ++ (lw_privs_2 ++ (lw_privs_3 ++ (lw_privs_4 ++ (lw_privs_5 ++ (lw_privs_6 ++ (lw_privs_7 ++ (lw_privs_8 ++ (lw_privs_9 ++ (lw_privs_10 ++ (lw_privs_11)))))))))), lw_okq q
  exact List.forall_mem_append.mpr ⟨lw_r1, List.forall_mem_append.mpr ⟨lw_r2, List.forall_mem_append.mpr ⟨lw_r3, List.forall_mem_append.mpr ⟨lw_r4, List.forall_mem_append.mpr ⟨lw_r5, List.forall_mem_append.mpr ⟨lw_r6, List.forall_mem_append.mpr ⟨lw_r7, List.forall_mem_append.mpr ⟨lw_r8, List.forall_mem_append.mpr ⟨lw_r9, List.forall_mem_append.mpr ⟨lw_r10, lw_r11⟩⟩⟩⟩⟩⟩⟩⟩⟩⟩
end
section
/-! ===== BEGIN words of one list among another's, by their places ===== -/
theorem goodIn_r {big : List Cond} (ws : List Cond) (ps : List Nat) (hp : ws = ps.filterMap (fun i => big[i]?)) (h : ws.all goodWord = true) : GoodIn big ws := by
  intro w hw
  have h1 := List.all_eq_true.mp h w hw
  rw [hp] at hw
  obtain ⟨i, -, hi⟩ := List.mem_filterMap.mp hw
  have hm : w ∈ big := by first | exact List.mem_of_getElem? hi | exact List.getElem?_mem hi
  exact ⟨hm, good_of_word h1⟩
theorem goodIn_app {big a b : List Cond} (ha : GoodIn big a) (hb : GoodIn big b) : GoodIn big (a ++ b) := fun w h => (List.mem_append.mp h).elim (ha w) (hb w)
theorem goodIn_ca {big a b : List Cond} {c : Cond} (ha : GoodIn big (c :: a)) (hb : GoodIn big b) : GoodIn big (c :: (a ++ b)) := fun w h => (List.mem_cons.mp h).elim (fun e => ha w (List.mem_cons.mpr (Or.inl e))) (fun h => (List.mem_append.mp h).elim (fun h => ha w (List.mem_cons.mpr (Or.inr h))) (hb w))
theorem goodIn_sub {big ws : List Cond} (hm : ∀ w ∈ ws, w ∈ big) (h : ws.all goodWord = true) : GoodIn big ws := fun w hw => ⟨hm w hw, good_of_word (List.all_eq_true.mp h w hw)⟩
/-! ===== END ===== -/

/-! ===== BEGIN new T[n][m]: the outer array a place, the inner ones among the pooled ===== -/
/-- f, but v at every address of l -/
def vr_up {α : Type} (f : Nat → α) (l : List Nat) (v : α) : Nat → α := fun a => if a ∈ l then v else f a
theorem vr_up_in {α : Type} {f : Nat → α} {l : List Nat} {v : α} {a : Nat} (h : a ∈ l) : vr_up f l v a = v := if_pos h
theorem vr_up_ne {α : Type} {f : Nat → α} {l : List Nat} {v : α} {a : Nat} (h : a ∉ l) : vr_up f l v a = f a := if_neg h
theorem vr_rows {L l : List Nat} {f : Nat → va_E} {e : va_E} (h : ∀ a, a ∈ l → a ∉ L) : va_pl L f ++ l.map (fun a => (a, e)) = va_pl (L ++ l) (vr_up f l e) := by
  unfold va_pl
  rw [List.map_append]
  congr 1
  · apply List.map_congr_left
    intro a ha
    rw [vr_up_ne (fun q => h a q ha)]
  · apply List.map_congr_left
    intro a ha
    rw [vr_up_in ha]
theorem vr_lay {X rows : va_W} {x : Nat × va_E} {pl : va_W} {D : va_G} {cl : List vw_C} {H : Heap} (hP : va_P D cl (((X ++ pl) ++ [x]) ++ rows) H) : va_P D cl ((X ++ [x]) ++ (pl ++ rows)) H := by
  rw [List.append_assoc (X ++ pl)] at hP
  have h := va_P.swap hP
  rw [← List.append_assoc X] at h
  have h2 := va_P.swap h
  rw [List.append_assoc (X ++ [x])] at h2
  exact h2
theorem vr_layD {X rows : va_W} {x : Nat × va_E} {pl : va_W} {A : Nat → Prop} (hD : va_D A (((X ++ pl) ++ [x]) ++ rows)) : va_D A ((X ++ [x]) ++ (pl ++ rows)) := by
  rw [List.append_assoc (X ++ pl)] at hD
  have h := va_D.swap hD
  rw [← List.append_assoc X] at h
  have h2 := va_D.swap h
  rw [List.append_assoc (X ++ [x])] at h2
  exact h2
theorem vr_outer (c : ClassId) (N h0 : Nat) : ∀ i : Nat, Jvm.Free.Multi.outerC c N h0 i = arrV c N (fun j => va_rf (if j < i then some (h0 + 1 + j) else none))
  | 0 => by
    show ({ cls := c, slots := Array.replicate N .null, vm := .none } : Cell) = _
    rw [arrV_new]
    refine congrArg (arrV c N) (funext fun j => ?_)
    simp [va_rf]
  | i + 1 => by
    show (Jvm.Free.Multi.outerC c N h0 i).setSlot i (.ref (h0 + 1 + i)) = _
    rw [vr_outer c N h0 i, arrV_store]
    refine congrArg (arrV c N) (funext fun j => ?_)
    by_cases e : j = i
    · subst e
      simp [updV, va_rf]
    · by_cases h : j < i
      · simp [updV, e, h, Nat.lt_succ_of_lt h]
      · simp [updV, e, h, show ¬ j < i + 1 by omega]
def va_AOA (ty : FieldType) (U : State) : Prop := (Cond.arrayOver (.array ty)).before #[] U = true
theorem va_AOA.use {ty : FieldType} {A : Array Value} {U : State} (h : va_AOA ty U) : (Cond.arrayOver (.array ty)).before A U = true := h
section VGM
variable {p : Program} {l : Launch} {e : Env} {R : Room} {s : State} {m : MethodId} {args : Array Value} {below : List Frame} {meth : Method} {c : Code} {H : Heap} {locs : List Loc} {cells slots : Nat} {Q : State → Prop}
variable {cc : ByteArray} {pc : Nat} {ls : Array Slot} {rest : List Value} {D : va_G} {cl : List vw_C} {A : Nat → Prop} {a : Nat} {tys : List (ClassId × FieldType)} {ws : va_W} {H0 : Heap}
theorem va_mna {X : va_W} {L : List Nat} {f : Nat → va_E} {cc : ByteArray} (hexec : p.tables.exec = Jvm.exec) (hb : c.code = cc) {own : String} {index : Nat} {ty : FieldType} {cy : ClassId} (hown : s.vm.findClass own = some m.cls) (hclink : (Cond.classLink own index ("[" ++ (FieldType.array ty).toString)).before args s = true) (hover : va_AOA ty s) (harr : (Cond.arrayClass ty).before args s = true) (hcy : s.vm.findClass (FieldType.array ty).toString = some cy)
    (hK : va_K D cl tys s) (hP : va_P D cl (X ++ va_pl L f) H) (hD : va_D A (X ++ va_pl L f)) (hS : va_S A H0 H locs) (hA : ∀ q, H0.size ≤ q → A q) {n k : Int32} {N' K' : Nat} {z : vp_A} (hn : ¬ n < 0) (hk : ¬ k < 0) (hN : n.toNatClampNeg = N') (hM : k.toNatClampNeg = K')
    (hb1 : N' * 4 ≤ 536870912) (hb2 : K' * componentBytes ty ≤ 536870912) (hb3 : K' ≤ 536870912) (hdf : fits ty (defaultValue ty) = true) (hdd : (defaultValue ty).isDefault = true) (hcells : cells + (1 + N') ≤ R.cells) (hslots : slots + (N' + N' * K') ≤ R.slots) (hz : ∀ c : ClassId, Jvm.Free.Multi.innerC c K' (defaultValue ty) = vp_cell c z) (hdg : decode cc pc = .ok (.multianewarray index 2, 4))
    (kk : ∀ (q : Nat) (r : Nat → Nat) (cA : ClassId) (H1 : Heap), (∀ i j : Nat, i < N' → j < N' → r i = r j → i = j) → (∀ i : Nat, i < N' → r i ∉ L) → va_K D cl (tys ++ [(cA, .array ty)]) s →
      va_P D cl ((X ++ [(q, .inl (cA, N', .inr (.inr (.inr (.inr (fun i => if i < N' then some (r i) else none))))))]) ++ va_pl (L ++ (List.range N').map r) (vr_up f ((List.range N').map r) (.inl (cy, z)))) H1 → va_D A ((X ++ [(q, .inl (cA, N', .inr (.inr (.inr (.inr (fun i => if i < N' then some (r i) else none))))))]) ++ va_pl (L ++ (List.range N').map r) (vr_up f ((List.range N').map r) (.inl (cy, z)))) → va_S A H0 H1 locs →
      W p l e R s m args below meth c H1 locs (cells + 1 + N') (slots + N' + N' * K') Q (F0 m (pc + 4) ls (.ref q :: rest))) : W p l e R s m args below meth c H locs cells slots Q (F0 m pc ls (.int k :: .int n :: rest)) := by
  subst hN
  subst hM
  intro T hT Xs
  obtain ⟨vm₁, cA, comp, -, fA, fC, hO, -, X', step⟩ := Xs.multianewarray2F hexec hown hclink (va_AOA.use hover) harr (g := F0 m pc ls (.int k :: .int n :: rest)) rfl (by rw [hb]; exact hdg) rfl hn hk hb1 hb2 hb3 hdf hdd hcells hslots
  have ec : some cy = some comp := hcy.symm.trans fC
  cases ec
  generalize hF : Jvm.Free.Multi.fill (T.setVm vm₁) cA cy n.toNatClampNeg k.toNatClampNeg (defaultValue ty) n.toNatClampNeg = F at X' step
  have hTh : (T.setVm vm₁).heap = H := hT
  obtain ⟨f1, f2, -, -⟩ := Jvm.Free.Multi.fill_facts (T.setVm vm₁) cA cy n.toNatClampNeg k.toNatClampNeg (defaultValue ty) n.toNatClampNeg
  rw [hF, hTh] at f1 f2
  have hold : ∀ x : Nat, x < H.size → F.heap[x]? = H[x]? := fun x hx => by
    have := Jvm.Free.Multi.fill_old (T.setVm vm₁) cA cy n.toNatClampNeg k.toNatClampNeg (defaultValue ty) (a := x) (by rw [hTh]; exact hx) n.toNatClampNeg
    rw [hF, hTh] at this
    exact this
  have hrow : ∀ j : Nat, j < n.toNatClampNeg → F.heap[H.size + 1 + j]? = some (vp_cell cy z) := fun j hj => by
    have := Jvm.Free.Multi.fill_inner (T.setVm vm₁) cA cy n.toNatClampNeg k.toNatClampNeg (defaultValue ty) n.toNatClampNeg j hj
    rw [hF, hTh, hz] at this
    exact this
  have hout : Jvm.Free.Multi.outerC cA n.toNatClampNeg H.size n.toNatClampNeg = vp_cell cA (n.toNatClampNeg, .inr (.inr (.inr (.inr (fun i => if i < n.toNatClampNeg then some (H.size + 1 + i) else none))))) := by
    rw [vp_cell_q]
    exact vr_outer cA n.toNatClampNeg H.size n.toNatClampNeg
  rw [hout] at f2
  have hlt : ∀ a, a ∈ L → a < H.size := fun a ha => by
    obtain ⟨k9, hk9⟩ := va_pl_get (X := X) (f := f) ha
    exact (hP k9 _ hk9).lt
  have hnl : ∀ i : Nat, i < n.toNatClampNeg → H.size + 1 + i ∉ L := fun i _ h => by
    have := hlt _ h
    omega
  have hnm : ∀ a, a ∈ (List.range n.toNatClampNeg).map (fun i => H.size + 1 + i) → a ∉ L := fun a ha h => by
    obtain ⟨i, -, rfl⟩ := List.mem_map.mp ha
    have := hlt _ h
    omega
  have hP0 : va_P D cl (X ++ va_pl L f) F.heap := hP.kept (fun k9 x hx => hold x.1 ((hP k9 x hx).lt))
  have hP1 : va_P D cl ((X ++ va_pl L f) ++ [(H.size, .inl (cA, n.toNatClampNeg, .inr (.inr (.inr (.inr (fun i => if i < n.toNatClampNeg then some (H.size + 1 + i) else none))))))]) F.heap := hP0.app (fun k9 x hx => by
    have h0 : k9 < 1 := (List.getElem?_eq_some_iff.mp hx).1
    rw [show k9 = 0 by omega] at hx
    cases hx
    exact f2)
  have hP2 : va_P D cl (((X ++ va_pl L f) ++ [(H.size, .inl (cA, n.toNatClampNeg, .inr (.inr (.inr (.inr (fun i => if i < n.toNatClampNeg then some (H.size + 1 + i) else none))))))]) ++ ((List.range n.toNatClampNeg).map (fun i => H.size + 1 + i)).map (fun a => (a, .inl (cy, z)))) F.heap := hP1.app (fun k9 x hx => by
    obtain ⟨a, ha, rfl⟩ := List.mem_map.mp (List.mem_of_getElem? hx)
    obtain ⟨i, hi, rfl⟩ := List.mem_map.mp ha
    exact hrow i (List.mem_range.mp hi))
  have hD2 : va_D A (((X ++ va_pl L f) ++ [(H.size, .inl (cA, n.toNatClampNeg, .inr (.inr (.inr (.inr (fun i => if i < n.toNatClampNeg then some (H.size + 1 + i) else none))))))]) ++ ((List.range n.toNatClampNeg).map (fun i => H.size + 1 + i)).map (fun a => (a, .inl (cy, z)))) := by
    have hD1 := hD.push (e := .inl (cA, n.toNatClampNeg, .inr (.inr (.inr (.inr (fun i => if i < n.toNatClampNeg then some (H.size + 1 + i) else none)))))) hP rfl (hA _ hS.1)
    generalize hW1 : (X ++ va_pl L f) ++ [(H.size, .inl (cA, n.toNatClampNeg, .inr (.inr (.inr (.inr (fun i => if i < n.toNatClampNeg then some (H.size + 1 + i) else none))))))] = W1 at hD1 hP1 ⊢
    have hle : ∀ (k9 : Nat) (x : Nat × va_E), W1[k9]? = some x → x.1 ≤ H.size := fun k9 x hx => by
      rw [← hW1] at hx
      by_cases hl : k9 < (X ++ va_pl L f).length
      · rw [List.getElem?_append_left hl] at hx
        exact Nat.le_of_lt ((hP k9 x hx).lt)
      · rw [List.getElem?_append_right (by omega)] at hx
        have h0 : k9 - (X ++ va_pl L f).length < 1 := (List.getElem?_eq_some_iff.mp hx).1
        rw [show k9 - (X ++ va_pl L f).length = 0 by omega] at hx
        cases hx
        exact Nat.le_refl _
    have hr : ∀ (k9 : Nat) (x : Nat × va_E), (((List.range n.toNatClampNeg).map (fun i => H.size + 1 + i)).map (fun a => ((a, .inl (cy, z)) : Nat × va_E)))[k9]? = some x → x.1 = H.size + 1 + k9 := fun k9 x hx => by
      rw [List.getElem?_map, List.getElem?_map] at hx
      by_cases h9 : k9 < n.toNatClampNeg
      · rw [List.getElem?_range h9] at hx
        cases hx
        rfl
      · have hn0 : (List.range n.toNatClampNeg)[k9]? = none := List.getElem?_eq_none (by rw [List.length_range]; omega)
        rw [hn0] at hx
        cases hx
    refine ⟨fun i j x y hi hj hxy => ?_, fun k9 x hx => ?_⟩
    · by_cases h1 : i < W1.length <;> by_cases h2 : j < W1.length
      · rw [List.getElem?_append_left h1] at hi
        rw [List.getElem?_append_left h2] at hj
        exact hD1.1 i j x y hi hj hxy
      · rw [List.getElem?_append_left h1] at hi
        rw [List.getElem?_append_right (by omega)] at hj
        have := hle _ _ hi
        have := hr _ _ hj
        omega
      · rw [List.getElem?_append_right (by omega)] at hi
        rw [List.getElem?_append_left h2] at hj
        have := hle _ _ hj
        have := hr _ _ hi
        omega
      · rw [List.getElem?_append_right (by omega)] at hi hj
        have := hr _ _ hi
        have := hr _ _ hj
        omega
    · by_cases h1 : k9 < W1.length
      · rw [List.getElem?_append_left h1] at hx
        exact hD1.2 k9 x hx
      · rw [List.getElem?_append_right (by omega)] at hx
        have := hr _ _ hx
        exact hA _ (by have := hS.1; omega)
  have hAr : ArrOfT s cA (.array ty) := fun N9 z9 => by
    obtain ⟨-, k9, hk9, cm9, hkk9⟩ := (hO 0 0 0).1
    exact ⟨(fun q hq => by cases hq), k9, hk9, cm9, hkk9⟩
  have hK2 : va_K D cl (tys ++ [(cA, .array ty)]) s := ⟨hK.1, fun k9 x hx => by
    by_cases hl : k9 < tys.length
    · rw [List.getElem?_append_left hl] at hx
      exact hK.2 k9 x hx
    · rw [List.getElem?_append_right (by omega)] at hx
      have h0 : k9 - tys.length < 1 := (List.getElem?_eq_some_iff.mp hx).1
      rw [show k9 - tys.length = 0 by omega] at hx
      cases hx
      exact ⟨hAr, fA⟩⟩
  obtain ⟨t, a1, b1⟩ := kk H.size (fun i => H.size + 1 + i) cA F.heap (fun i j _ _ h => by have h9 : H.size + 1 + i = H.size + 1 + j := h; omega) hnl hK2 (by rw [← vr_rows hnm]; exact vr_lay hP2) (by rw [← vr_rows hnm]; exact vr_layD hD2) ⟨by rw [f1]; have := hS.1; omega, fun x h1 h2 => (hold x (Nat.lt_of_lt_of_le h1 hS.1)).trans (hS.2.1 x h1 h2), hS.2.2⟩ F rfl X'
  refine ⟨t, step t ?_, b1⟩
  have e : T.heap.size = H.size := by rw [hT]
  rw [e]
  exact a1
end VGM
/-! ===== END ===== -/

/-! ===== BEGIN exceptions that leave a method, and their catching by the caller (launches without stack traces) ===== -/
section VXA
/-! The laws vx_back, vx_callV, vx_callS, vx_callSW, vx_throw0, vx_throwS follow proofs of the library, with one case more: JvmDerived/Free/Laws.lean (Back.of_free), Shelf42/LK1.lean (callV, callS), Shelf/KitTraced.lean (throwNew0V, throwNewS). -/
/-- where a method has thrown q: the class by its name, the cell, what was written, the world -/
def vx_T (XC : String → State → State → Prop) (st : State) (q : Addr) (t : State) (mc ms : Nat) (free : Addr → Prop) : Prop :=
  ∃ (E : String) (ce : Cell) (L : List Loc), XC E st t ∧ t.heap[q]? = some ce ∧ ce.vm = .none ∧ st.vm.findClass E = some ce.cls ∧ st.WarmedH t.vm ∧ st.sameButNew ({ t with vm := st.vm } : State) L mc ms ∧ ∀ z ∈ L, free z.base
def vx_Q (Qc : Array Value → State → Outcome → State → Prop) (XC : String → State → State → Prop) (mc ms : Nat) (free : Addr → Prop) : Array Value → State → Outcome → State → Prop := fun a st o t =>
  (Qc a st o t ∧ ∃ L, FrameEnd st o t L mc ms ∧ ∀ q ∈ L, free q.base) ∨ ∃ q, o = .threw q ∧ vx_T XC st q t mc ms free
/-- a callee that returns or throws -/
def vx_Met (l : Launch) (y : MethodName) (ws : List Cond) (rm : Room) (Pc : Array Value → State → Prop) (Qc : Array Value → State → Outcome → State → Prop) (XC : String → State → State → Prop) (mc ms : Nat) (free : Addr → Prop) : Prop :=
  MetFree l y (headSpec ws rm) Pc (fun _ _ _ _ _ => True) (vx_Q Qc XC mc ms free)
def vx_Post (XC : String → State → State → Prop) (mc ms : Nat) (free : Addr → Prop) : Pt → Array Value → Addr → Pt → Prop := fun A a q B =>
  ∃ (g : JFrame) (mk : MethodId) (t : State) (L : List Loc) (E : String) (ce : Cell), B.U.heap = t.heap ∧ B.U.vm = t.vm ∧ XC E (A.U.calling g mk a) t ∧ t.heap[q]? = some ce ∧ ce.vm = .none ∧ A.U.vm.findClass E = some ce.cls ∧ B.locs = A.locs ++ L ∧ (∀ z ∈ L, free z.base) ∧ B.cells = A.cells + mc ∧ B.slots = A.slots + ms
def vx_Back (l : Launch) (R : Room) (p : Program) (e : Env) (below : List Frame) (s : State) (sargs : Array Value) (y : MethodName) (len W9 : Nat)
    (Pre : Pt → Array Value → Prop) (Post : Pt → Array Value → Option Value → Pt → Prop) (PostX : Pt → Array Value → Addr → Pt → Prop) : Prop :=
  ∀ (m : MethodId) (meth : Method) (c : Code) (A : Pt) (g : JFrame) (ig : Instr) (mk : MethodId) (a : Array Value),
    Stand p l e R s m sargs below meth c A.U A.locs A.cells A.slots → g.method = m → g.locals.size = c.maxLocals → decode c.code g.pc = .ok (ig, len) →
    2 * g.monitorRoom + (g.stack.map fun v => v.category).sum ≤ W9 → A.U.methodNamed? y = some mk → Pre A a →
    (∃ (v : Option Value) (B : Pt), Stand p l e R s m sargs below meth c B.U B.locs B.cells B.slots ∧ Post A a v B ∧
      Steps p.tables e below (doInvoke e (A.U.setTop g) [] mk a).1 (B.U.setTop { g with pc := g.pc + len, stack := v.toList ++ g.stack })) ∨
    (∃ (q : Addr) (B : Pt), Stand p l e R s m sargs below meth c B.U B.locs B.cells B.slots ∧ PostX A a q B ∧
      Steps p.tables e below (doInvoke e (A.U.setTop g) [] mk a).1 ((B.U.setTop g).pushFrame (.throwing q)))
section Payer
variable {l : Launch} {R : Room} {p : Program} {e : Env} {below : List Frame} {s : State} {sargs : Array Value} {y : MethodName} {len W9 : Nat}
theorem vx_back {ws : List Cond} {rm : Room} {Pc : Array Value → State → Prop} {Qc : Array Value → State → Outcome → State → Prop} {XC : String → State → State → Prop} {mc ms : Nat} {free : Addr → Prop} {bytes : ByteArray} {maxL : Nat} {ret : Option FieldType}
    (hM : vx_Met l y ws rm Pc Qc XC mc ms free) (hblind : FrameBlind Pc) (hrc : rm.cells = mc) (hrs : rm.slots = ms)
    (hframes : rm.frames + 1 ≤ R.frames) (hlocals : W9 + (maxL + 11) + rm.locals ≤ R.locals)
    (hws : ∀ w ∈ ws, ∀ a' U, s.WarmedH U.vm → w.before a' U = true) (hcode : Cond.code y bytes maxL ret ∈ ws) (hinit : ∀ a' U, s.WarmedH U.vm → (Cond.initialized y.cls).before a' U = true) :
    vx_Back l R p e below s sargs y len W9 (PreOf R mc ms Pc) (PostOf Qc mc ms free) (vx_Post XC mc ms free) := by
  intro m meth c A g ig mk a X hg hsize hdg hW hn hp
  have h1 : (headSpec ws rm).pre.before a A.U = true := atoms_intro fun w hw => hws w hw _ _ X.warmed
  have h2 : (Cond.code y bytes maxL ret).before a A.U = true := hws _ hcode _ _ X.warmed
  have h3 : (Cond.initialized y.cls).before a A.U = true := hinit _ _ X.warmed
  have h4 : A.cells + (headSpec ws rm).room.cells ≤ R.cells := by rw [show (headSpec ws rm).room.cells = mc from hrc]; exact hp.1
  have h5 : A.slots + (headSpec ws rm).room.slots ≤ R.slots := by rw [show (headSpec ws rm).room.slots = ms from hrs]; exact hp.2.1
  have hPc : Pc a (A.U.calling g mk a) := hblind _ _ _ _ hp.2.2
  obtain ⟨U, Ls, c0, s0⟩ := A
  dsimp only [Pt.U, Pt.locs, Pt.cells, Pt.slots] at h1 h2 h3 h4 h5 X hn hPc ⊢
  obtain ⟨methY, cY, hmY, hcY, -, hlY, -, -, -, -⟩ := Cond.code_spec hn h2
  obtain ⟨kY, hkY, -⟩ := className_of_methodNamed hn
  have hinitY : kY.init = .initialized := Cond.initialized_spec (findClass_of_methodNamed hn) hkY h3
  have h : At U g.method c below := by rw [hg]; exact X.here
  have hlocals9 : W9 + (maxL + 11) + (headSpec ws rm).room.locals ≤ R.locals := hlocals
  have happ : (headSpec ws rm).appliesLoose y e.platform (U.calling g mk a) = true :=
    Spec.appliesLoose_calling (g := g) h hdg hn hkY hinitY
      (X.room_calling (g := g) (R' := (headSpec ws rm).room) hsize hmY hcY hframes (by rw [hlY]; omega) h4 h5) h1
  obtain ⟨mid, hmid⟩ := h.above
  have hfr : (U.setTop g).frames = (.java g :: mid) ++ below := by rw [State.frames_setTop' g h.top, hmid]; rfl
  obtain ⟨o, s₂, hsteps, -, hend, hq⟩ := Steps.callFree hM p X.admits X.cas X.clock (acts := []) hfr happ hPc trivial
  have hq' : vx_Q Qc XC mc ms free a (U.calling g mk a) o s₂ := hq
  rw [State.frames_setTop' g h.top] at hend
  obtain ⟨g₀, hg0⟩ := Option.isSome_iff_exists.mp h.top
  obtain ⟨r, hr⟩ := State.topJava?_eq_some.mp hg0
  have hr' : (({ U with heap := s₂.heap, slotsUsed := s₂.slotsUsed } : State).setVm s₂.vm).frames = .java g₀ :: r := hr
  rcases hq' with ⟨hqc, L, hfe, hL⟩ | ⟨q, rfl, E, ce, L, hx, hce, hcv, hcl, hW₂, hsm, hL⟩
  · obtain ⟨⟨v, rfl⟩, hW₂, e2, q2, q3, q4, q5, q6⟩ := id hfe
    have e3 : s₂ = ({ (U.calling g mk a).setFrames s₂.frames with heap := s₂.heap, slotsUsed := s₂.slotsUsed } : State).setVm s₂.vm := by
      have : s₂ = ({ s₂ with vm := (U.calling g mk a).vm } : State).setVm s₂.vm := rfl
      rw [e2] at this
      exact this
    obtain ⟨c₂, i₂, len₂, hc₂, hd₂, hf₂⟩ := hend
    have hW' : U.WarmedH s₂.vm := hW₂
    have hcc : c₂ = c := by
      have h1 : s₂.code? g.method = U.code? g.method := by
        rw [State.code?_eq, State.code?_eq, hW'.alike.method?]
      exact Option.some.inj (hc₂.symm.trans (h1.trans h.code))
    subst hcc
    have hlen : len₂ = len := by rw [hdg] at hd₂; cases hd₂; rfl
    subst hlen
    have hs₂ : s₂ = (({ U with heap := s₂.heap, slotsUsed := s₂.slotsUsed } : State).setVm s₂.vm).setTop { g with pc := g.pc + len₂, stack := v.toList ++ g.stack } := by
      refine e3.trans ?_
      rw [hf₂, State.calling_eq h.top, State.setFrames_setFrames, State.setTop_of_frames _ hr', hr]
      rfl
    have hsame : U.sameButNew ({ U with heap := s₂.heap, slotsUsed := s₂.slotsUsed } : State) L mc ms := by
      refine ⟨?_, q2, q3, q4, q5, q6⟩
      obtain ⟨t, ht, -⟩ := State.frames_cons hr
      show ({ U with heap := s₂.heap, slotsUsed := s₂.slotsUsed } : State) = { U.setFrames U.frames with heap := s₂.heap, slotsUsed := s₂.slotsUsed }
      rw [State.setFrames_self ht]
    subst hg
    refine Or.inl ⟨v, ⟨(({ U with heap := s₂.heap, slotsUsed := s₂.slotsUsed } : State).setVm s₂.vm), Ls ++ L, c0 + mc, s0 + ms⟩,
      ⟨X.admits, X.cas, X.clock, X.frames, X.room, X.hears, X.method, X.code, (X.here.setHeapUsed s₂.heap s₂.slotsUsed).setVm hW'.alike, X.tail, State.WarmedH.trans X.warmed hW', X.limits, X.bytes, X.same.trans (hsame.setVm s.vm)⟩,
      ⟨g, mk, s₂, L, rfl, rfl, hqc, rfl, hL, rfl, rfl⟩, ?_⟩
    show Steps p.tables e below _ ((({ U with heap := s₂.heap, slotsUsed := s₂.slotsUsed } : State).setVm s₂.vm).setTop { g with pc := g.pc + len₂, stack := v.toList ++ g.stack })
    rw [← hs₂]
    exact hsteps
  · obtain ⟨e2, q2, q3, q4, q5, q6⟩ := id hsm
    have e3 : s₂ = ({ (U.calling g mk a).setFrames s₂.frames with heap := s₂.heap, slotsUsed := s₂.slotsUsed } : State).setVm s₂.vm := by
      have : s₂ = ({ s₂ with vm := (U.calling g mk a).vm } : State).setVm s₂.vm := rfl
      rw [e2] at this
      exact this
    have hf₂ : s₂.frames = .throwing q :: .java g :: U.frames.tail := hend
    have hW' : U.WarmedH s₂.vm := hW₂
    have hs₂ : s₂ = ((({ U with heap := s₂.heap, slotsUsed := s₂.slotsUsed } : State).setVm s₂.vm).setTop g).pushFrame (.throwing q) := by
      refine e3.trans ?_
      rw [hf₂, State.calling_eq h.top, State.setFrames_setFrames, State.pushFrame, State.frames_setTop _ hr', State.setTop_of_frames _ hr', State.setFrames_setFrames, hr]
      rfl
    have hsame : U.sameButNew ({ U with heap := s₂.heap, slotsUsed := s₂.slotsUsed } : State) L mc ms := by
      refine ⟨?_, q2, q3, q4, q5, q6⟩
      obtain ⟨t, ht, -⟩ := State.frames_cons hr
      show ({ U with heap := s₂.heap, slotsUsed := s₂.slotsUsed } : State) = { U.setFrames U.frames with heap := s₂.heap, slotsUsed := s₂.slotsUsed }
      rw [State.setFrames_self ht]
    subst hg
    refine Or.inr ⟨q, ⟨(({ U with heap := s₂.heap, slotsUsed := s₂.slotsUsed } : State).setVm s₂.vm), Ls ++ L, c0 + mc, s0 + ms⟩,
      ⟨X.admits, X.cas, X.clock, X.frames, X.room, X.hears, X.method, X.code, (X.here.setHeapUsed s₂.heap s₂.slotsUsed).setVm hW'.alike, X.tail, State.WarmedH.trans X.warmed hW', X.limits, X.bytes, X.same.trans (hsame.setVm s.vm)⟩,
      ⟨g, mk, s₂, L, E, ce, rfl, rfl, hx, hce, hcv, hcl, rfl, hL, rfl, rfl⟩, ?_⟩
    show Steps p.tables e below _ (((({ U with heap := s₂.heap, slotsUsed := s₂.slotsUsed } : State).setVm s₂.vm).setTop g).pushFrame (.throwing q))
    rw [← hs₂]
    exact hsteps
end Payer
section Calls
variable {p : Program} {l : Launch} {e : Env} {R : Room} {s : State} {m : MethodId} {args : Array Value} {below : List Frame} {meth : Method} {c : Code} {T : State} {locs : List Loc} {cells slots : Nat}
theorem vx_callV (X : Stand p l e R s m args below meth c T locs cells slots) (hexec : p.tables.exec = Jvm.exec) {own C : String} {index : Nat} {y : MethodName} {bytes : ByteArray} {maxL : Nat} {ret : Option FieldType}
    (hown : s.vm.findClass own = some m.cls) (hlink : (Cond.methodLink own index y).before args s = true) (hinst : (Cond.instanceMethod y).before args s = true) (hsel : (Cond.selects C y y).before args s = true)
    (hcode : (Cond.code y bytes maxL ret).before args s = true) (hy : y.cls ≠ "java/lang/invoke/MethodHandle" ∧ y.cls ≠ "java/lang/invoke/VarHandle")
    {W9 : Nat} {Pre : Pt → Array Value → Prop} {Post : Pt → Array Value → Option Value → Pt → Prop} {PostX : Pt → Array Value → Addr → Pt → Prop} (hK : vx_Back l R p e below s args y 3 W9 Pre Post PostX)
    {b : Addr} {cellB : Cell} (hcell : T.heap[b]? = some cellB) (hobj : cellB.vm.isStatics = false) (hcls : s.vm.findClass C = some cellB.cls)
    {g : JFrame} (hg : g.method = m) (hsize : g.locals.size = c.maxLocals) {argsL rest : List Value} (hlen : ∀ sig, parseMethodDescriptor y.desc = some sig → argsL.length = sig.parameters.length)
    (hstack : g.stack = argsL.reverse ++ .ref b :: rest) (hW : 2 * g.monitorRoom + (rest.map fun v => v.category).sum ≤ W9) (hdg : decode c.code g.pc = .ok (.invokevirtual index, 3))
    (hpre : ∀ vm₁, s.WarmedH vm₁ → Pre ⟨T.setVm vm₁, locs, cells, slots⟩ (Value.ref b :: argsL).toArray) :
    (∃ (v : Option Value) (vm₁ : Vm) (B : Pt), s.WarmedH vm₁ ∧ Stand p l e R s m args below meth c B.U B.locs B.cells B.slots ∧ Post ⟨T.setVm vm₁, locs, cells, slots⟩ (Value.ref b :: argsL).toArray v B ∧
      ∀ target, Steps p.tables e below (B.U.setTop { g with pc := g.pc + 3, stack := v.toList ++ rest }) target → Steps p.tables e below (T.setTop g) target) ∨
    (∃ (q : Addr) (vm₁ : Vm) (B : Pt), s.WarmedH vm₁ ∧ Stand p l e R s m args below meth c B.U B.locs B.cells B.slots ∧ PostX ⟨T.setVm vm₁, locs, cells, slots⟩ (Value.ref b :: argsL).toArray q B ∧
      Steps p.tables e below (T.setTop g) ((B.U.setTop { g with stack := rest }).pushFrame (.throwing q))) := by
  obtain ⟨mk, methM, hnamed, hmethM, hstM, habM⟩ := Cond.instanceMethod_spec hinst
  obtain ⟨methM', cM, hmethM', -, -, -, -, -, -, hsigM⟩ := Cond.code_spec hnamed hcode
  cases hmethM.symm.trans hmethM'
  obtain ⟨c2, r2, m2, q1, q2, q3, q4, kP, hkP, hkPi⟩ := Cond.selects_spec hsel
  cases hcls.symm.trans q1
  cases (State.methodFound?_of_named hnamed hy).symm.trans q2
  cases hnamed.symm.trans q3
  have hselP : selectMethod e.platform s.vm cellB.cls mk = .method mk := by rw [Launch.admits_selectMethod X.admits]; exact q4
  obtain ⟨vm₁, X₁, hstep₁⟩ := X.invokevirtual hexec hown hlink hnamed hmethM hstM hkP hkPi hy (a := b) (cell := cellB) hcell
    (fun z h => by rw [h] at hobj; cases hobj) hselP hmethM habM hkP hkPi (g := g) hg (argsL := argsL) (rest := rest) (hlen _ hsigM) hstack hdg
  rcases hK m meth c ⟨T.setVm vm₁, locs, cells, slots⟩ { g with stack := rest } (.invokevirtual index) mk (Value.ref b :: argsL).toArray X₁ hg hsize hdg hW (X₁.named hnamed) (hpre vm₁ X₁.warmed) with ⟨v, B, X', hpost, hsteps⟩ | ⟨q, B, X', hpost, hsteps⟩
  · exact Or.inl ⟨v, vm₁, B, X₁.warmed, X', hpost, fun target h => hstep₁ _ fun acts => by rw [doInvoke_state]; exact hsteps.trans h⟩
  · exact Or.inr ⟨q, vm₁, B, X₁.warmed, X', hpost, hstep₁ _ fun acts => by rw [doInvoke_state]; exact hsteps⟩
theorem vx_callS (X : Stand p l e R s m args below meth c T locs cells slots) (hexec : p.tables.exec = Jvm.exec) {own : String} {index : Nat} {y : MethodName} {bytes : ByteArray} {maxL : Nat} {ret : Option FieldType}
    (hown : s.vm.findClass own = some m.cls) (hlink : (Cond.methodLink own index y).before args s = true) (hstat : (Cond.static y).before args s = true) (hinit : (Cond.initialized y.cls).before args s = true)
    (hcode : (Cond.code y bytes maxL ret).before args s = true) (hy : y.cls ≠ "java/lang/invoke/MethodHandle" ∧ y.cls ≠ "java/lang/invoke/VarHandle")
    {W9 : Nat} {Pre : Pt → Array Value → Prop} {Post : Pt → Array Value → Option Value → Pt → Prop} {PostX : Pt → Array Value → Addr → Pt → Prop} (hK : vx_Back l R p e below s args y 3 W9 Pre Post PostX)
    {g : JFrame} (hg : g.method = m) (hsize : g.locals.size = c.maxLocals) {argsL rest : List Value} (hlen : ∀ sig, parseMethodDescriptor y.desc = some sig → argsL.length = sig.parameters.length)
    (hstack : g.stack = argsL.reverse ++ rest) (hW : 2 * g.monitorRoom + (rest.map fun v => v.category).sum ≤ W9) (hdg : decode c.code g.pc = .ok (.invokestatic index, 3))
    (hpre : ∀ vm₁, s.WarmedH vm₁ → Pre ⟨T.setVm vm₁, locs, cells, slots⟩ argsL.toArray) :
    (∃ (v : Option Value) (vm₁ : Vm) (B : Pt), s.WarmedH vm₁ ∧ Stand p l e R s m args below meth c B.U B.locs B.cells B.slots ∧ Post ⟨T.setVm vm₁, locs, cells, slots⟩ argsL.toArray v B ∧
      ∀ target, Steps p.tables e below (B.U.setTop { g with pc := g.pc + 3, stack := v.toList ++ rest }) target → Steps p.tables e below (T.setTop g) target) ∨
    (∃ (q : Addr) (vm₁ : Vm) (B : Pt), s.WarmedH vm₁ ∧ Stand p l e R s m args below meth c B.U B.locs B.cells B.slots ∧ PostX ⟨T.setVm vm₁, locs, cells, slots⟩ argsL.toArray q B ∧
      Steps p.tables e below (T.setTop g) ((B.U.setTop { g with stack := rest }).pushFrame (.throwing q))) := by
  obtain ⟨mk, hnamed⟩ := Cond.code_named hcode
  obtain ⟨methM, cM, hmethM, -, -, -, -, -, -, hsigM⟩ := Cond.code_spec hnamed hcode
  have hstatic : methM.isStatic = true := Cond.static_spec hnamed hmethM hstat
  obtain ⟨kP, hkP, -⟩ := className_of_methodNamed hnamed
  have hinitP : kP.init = .initialized := Cond.initialized_spec (findClass_of_methodNamed hnamed) hkP hinit
  obtain ⟨vm₁, X₁, hstep₁⟩ := X.invokestatic hexec hown hlink hnamed hmethM hstatic hkP hinitP hy (g := g) hg (argsL := argsL) (rest := rest) (hlen _ hsigM) hstack hdg
  rcases hK m meth c ⟨T.setVm vm₁, locs, cells, slots⟩ { g with stack := rest } (.invokestatic index) mk argsL.toArray X₁ hg hsize hdg hW (X₁.named hnamed) (hpre vm₁ X₁.warmed) with ⟨v, B, X', hpost, hsteps⟩ | ⟨q, B, X', hpost, hsteps⟩
  · exact Or.inl ⟨v, vm₁, B, X₁.warmed, X', hpost, fun target h => hstep₁ _ fun acts => by rw [doInvoke_state]; exact hsteps.trans h⟩
  · exact Or.inr ⟨q, vm₁, B, X₁.warmed, X', hpost, hstep₁ _ fun acts => by rw [doInvoke_state]; exact hsteps⟩
end Calls
theorem vx_cls {s : State} {T : State} {vm₁ : Vm} {E : String} {k : ClassId} (hW : s.WarmedH vm₁) (h : (T.setVm vm₁).vm.findClass E = some k) : s.vm.findClass E = some k := by
  have h1 : vm₁.findClass E = some k := h
  rw [hW.alike.findClass] at h1
  exact h1
/-- the method's frame g, with q thrown over it -/
def vx_W (p : Program) (l : Launch) (e : Env) (R : Room) (s : State) (m : MethodId) (args : Array Value) (below : List Frame) (meth : Method) (c : Code) (H : Heap) (locs : List Loc) (cells slots : Nat) (Q : State → Prop) (g : JFrame) (q : Addr) : Prop :=
  ∀ T : State, T.heap = H → Stand p l e R s m args below meth c T locs cells slots → ∃ t, Steps p.tables e below ((T.setTop g).pushFrame (.throwing q)) t ∧ Q t
def vx_Run (p : Program) (l : Launch) (e : Env) (R : Room) (s : State) (m : MethodId) (args : Array Value) (below : List Frame) (meth : Method) (c : Code) (H : Heap) (locs : List Loc) (cells slots mc ms : Nat) (g : JFrame) (rest : List Value) (Qa : State → Outcome → State → Prop) (XC : String → State → State → Prop) (free : Addr → Prop) : Prop :=
  ∀ T : State, T.heap = H → Stand p l e R s m args below meth c T locs cells slots →
    (∃ (v : Option Value) (st₀ t T' : State) (L : List Loc), st₀.heap = H ∧ Stand p l e R s m args below meth c T' (locs ++ L) (cells + mc) (slots + ms) ∧ (∀ q ∈ L, free q.base) ∧ T'.heap = t.heap ∧ T'.vm = t.vm ∧ Qa st₀ (.returned v) t ∧
      Goes p e below T g T' { g with pc := g.pc + 3, stack := v.toList ++ rest }) ∨
    (∃ (q : Addr) (st₀ t T' : State) (L : List Loc) (E : String) (ce : Cell), st₀.heap = H ∧ Stand p l e R s m args below meth c T' (locs ++ L) (cells + mc) (slots + ms) ∧ (∀ z ∈ L, free z.base) ∧ T'.heap = t.heap ∧ T'.vm = t.vm ∧ XC E st₀ t ∧ t.heap[q]? = some ce ∧ ce.vm = .none ∧ s.vm.findClass E = some ce.cls ∧
      Steps p.tables e below (T.setTop g) ((T'.setTop { g with stack := rest }).pushFrame (.throwing q)))
def vx_X {S : Type} (px : S → Prop) (B : String → S → State → Prop) (A : Nat → Prop) : String → State → State → Prop := fun E st t => ∃ u : S, px u ∧ B E u t ∧ va_F A st t
section Runs
variable {p : Program} {l : Launch} {e : Env} {R : Room} {s : State} {m : MethodId} {args : Array Value} {below : List Frame} {meth : Method} {c : Code} {H : Heap} {locs : List Loc} {cells slots : Nat}
variable {y : MethodName} {bytes cc : ByteArray} {maxL nL mc ms n index : Nat} {ret : Option FieldType} {ws : List Cond} {rm : Room} {Pc : Array Value → State → Prop} {Qc : Array Value → State → Outcome → State → Prop} {XC : String → State → State → Prop} {free : Addr → Prop} {Ts : List Cond} {own C : String} {b : Addr} {As rest : List Value} {g : JFrame}
theorem vx_callBack (cb : CallB R s args own index y bytes maxL ret ws rm mc ms n) (hM : vx_Met l y ws rm Pc Qc XC mc ms free) (hbl : FrameBlind Pc) : vx_Back l R p e below s args y 3 8 (PreOf R mc ms Pc) (PostOf Qc mc ms free) (vx_Post XC mc ms free) := by
  obtain ⟨hrc, hrs, hfr, hlo, hws, hcw, -, hini, -⟩ := cb
  exact vx_back (bytes := bytes) (maxL := maxL) (ret := ret) hM hbl hrc hrs hfr hlo hws hcw (fun a' U hW => word_at hW (Or.inl (by first | rfl | simp [Cond.onTables, Cond.keeps, Cond.steady])) hini)
theorem vx_runV (S : CallFix p m c cc nL s args Ts own) (hM : vx_Met l y ws rm Pc Qc XC mc ms free) (cw : CallW R s args own C index y bytes maxL ret ws rm mc ms n) (hp : PreV s H C b Pc As)
    (hg : g.method = m) (hn : As.length = n) (hsize : g.locals.size = nL) (hstack : g.stack = As.reverse ++ .ref b :: rest) (hW : 2 * g.monitorRoom + (rest.map fun v => v.category).sum ≤ 8) (hdg : decode cc g.pc = .ok (.invokevirtual index, 3)) (hf : cells + mc ≤ R.cells ∧ slots + ms ≤ R.slots) :
    vx_Run p l e R s m args below meth c H locs cells slots mc ms g rest (Qc (Value.ref b :: As).toArray) XC free := by
  have hK : vx_Back l R p e below s args y 3 8 (PreOf R mc ms Pc) (PostOf Qc mc ms free) (vx_Post XC mc ms free) := vx_callBack cw.1 hM hp.1
  obtain ⟨⟨-, -, -, -, -, -, hcode, -, hy, hlen, hl⟩, hin, hse⟩ := cw
  obtain ⟨hx, hb, hml, ho, -⟩ := S
  obtain ⟨-, ⟨cellB, hcB, hoB, hclB⟩, hPc⟩ := hp
  intro T hT X
  rcases vx_callV X hx (C := C) (bytes := bytes) (maxL := maxL) (ret := ret) ho hl hin hse hcode hy hK (by rw [hT]; exact hcB) hoB hclB hg (hsize.trans hml.symm) (argsL := As) (rest := rest) (fun sig h => hn.trans (hlen sig h)) hstack hW (by rw [hb]; exact hdg)
    (fun vm₁ hW₁ => ⟨hf.1, hf.2, hPc (T.setVm vm₁) hT hW₁⟩) with ⟨v, vm₁, ⟨U', l2, c2, s2⟩, hW₁, X', ⟨g', mk, t, L, e1, e2, hq, h1, hL, h2, h3⟩, st⟩ | ⟨q, vm₁, ⟨U', l2, c2, s2⟩, hW₁, X', ⟨g', mk, t, L, E, ce, e1, e2, hq, hce, hcv, hcl, h1, hL, h2, h3⟩, st⟩
  · dsimp only [Pt.U, Pt.locs, Pt.cells, Pt.slots] at X' e1 e2 h1 h2 h3 st
    subst h1; subst h2; subst h3
    exact Or.inl ⟨v, (T.setVm vm₁).calling g' mk (Value.ref b :: As).toArray, t, U', L, hT, X', hL, e1, e2, hq, st⟩
  · dsimp only [Pt.U, Pt.locs, Pt.cells, Pt.slots] at X' e1 e2 h1 h2 h3 st hcl
    subst h1; subst h2; subst h3
    exact Or.inr ⟨q, (T.setVm vm₁).calling g' mk (Value.ref b :: As).toArray, t, U', L, E, ce, hT, X', hL, e1, e2, hq, hce, hcv, vx_cls hW₁ hcl, st⟩
theorem vx_runS (S : CallFix p m c cc nL s args Ts own) (hM : vx_Met l y ws rm Pc Qc XC mc ms free) (cw : CallB R s args own index y bytes maxL ret ws rm mc ms n ∧ (Cond.static y).before args s = true) (hp : PreS s H Pc As)
    (hg : g.method = m) (hn : As.length = n) (hsize : g.locals.size = nL) (hstack : g.stack = As.reverse ++ rest) (hW : 2 * g.monitorRoom + (rest.map fun v => v.category).sum ≤ 8) (hdg : decode cc g.pc = .ok (.invokestatic index, 3)) (hf : cells + mc ≤ R.cells ∧ slots + ms ≤ R.slots) :
    vx_Run p l e R s m args below meth c H locs cells slots mc ms g rest (Qc As.toArray) XC free := by
  have hK : vx_Back l R p e below s args y 3 8 (PreOf R mc ms Pc) (PostOf Qc mc ms free) (vx_Post XC mc ms free) := vx_callBack cw.1 hM hp.1
  obtain ⟨⟨-, -, -, -, -, -, hcode, hini, hy, hlen, hl⟩, hstt⟩ := cw
  obtain ⟨hx, hb, hml, ho, -⟩ := S
  intro T hT X
  rcases vx_callS X hx (bytes := bytes) (maxL := maxL) (ret := ret) ho hl hstt hini hcode hy hK hg (hsize.trans hml.symm) (argsL := As) (rest := rest) (fun sig h => hn.trans (hlen sig h)) hstack hW (by rw [hb]; exact hdg)
    (fun vm₁ hW₁ => ⟨hf.1, hf.2, hp.2 (T.setVm vm₁) hT hW₁⟩) with ⟨v, vm₁, ⟨U', l2, c2, s2⟩, hW₁, X', ⟨g', mk, t, L, e1, e2, hq, h1, hL, h2, h3⟩, st⟩ | ⟨q, vm₁, ⟨U', l2, c2, s2⟩, hW₁, X', ⟨g', mk, t, L, E, ce, e1, e2, hq, hce, hcv, hcl, h1, hL, h2, h3⟩, st⟩
  · dsimp only [Pt.U, Pt.locs, Pt.cells, Pt.slots] at X' e1 e2 h1 h2 h3 st
    subst h1; subst h2; subst h3
    exact Or.inl ⟨v, (T.setVm vm₁).calling g' mk As.toArray, t, U', L, hT, X', hL, e1, e2, hq, st⟩
  · dsimp only [Pt.U, Pt.locs, Pt.cells, Pt.slots] at X' e1 e2 h1 h2 h3 st hcl
    subst h1; subst h2; subst h3
    exact Or.inr ⟨q, (T.setVm vm₁).calling g' mk As.toArray, t, U', L, E, ce, hT, X', hL, e1, e2, hq, hce, hcv, vx_cls hW₁ hcl, st⟩
end Runs
section Rows
variable {p : Program} {l : Launch} {e : Env} {R : Room} {s : State} {m : MethodId} {args : Array Value} {below : List Frame} {meth : Method} {c : Code} {H : Heap} {locs : List Loc} {cells slots : Nat} {Q : State → Prop}
variable {mc ms : Nat} {free : Addr → Prop} {A0 A1 : Nat → Prop} {H0 : Heap} {a : Array Value} {pc : Nat} {ls : Array Slot} {st0 rest : List Value}
theorem vx_keep {st₀ t T' : State} {L : List Loc} (h0 : st₀.heap = H) (e1 : T'.heap = t.heap) (hS : va_S A0 H0 H locs) (hA : ∀ q, q < H.size → A1 q → A0 q) (hf : ∀ q, free q → A0 q) (hL : ∀ q ∈ L, free q.base) (hF : va_F A1 st₀ t) :
    H.size ≤ T'.heap.size ∧ (∀ q : Nat, q < H.size → ¬ A1 q → T'.heap[q]? = H[q]?) ∧ va_S A0 H0 T'.heap (locs ++ L) := by
  obtain ⟨hz, hk⟩ := hF
  rw [h0] at hz hk
  exact ⟨by rw [e1]; exact hz, fun q h1 h2 => by rw [e1]; exact hk q h1 h2,
    ⟨Nat.le_trans hS.1 (by rw [e1]; exact hz), fun q h1 h2 => by rw [e1, hk q (Nat.lt_of_lt_of_le h1 hS.1) (fun z => h2 (hA q (Nat.lt_of_lt_of_le h1 hS.1) z))]; exact hS.2.1 q h1 h2, fun q hq => by
      rcases List.mem_append.mp hq with h | h
      · exact hS.2.2 q h
      · exact hf _ (hL q h)⟩⟩
theorem vx_calli {S SX : Type} {post : Int32 → S → Prop} {px : SX → Prop} {B : S → State → Prop} {BX : String → SX → State → Prop} {AX : Nat → Prop} (hr : vx_Run p l e R s m args below meth c H locs cells slots mc ms (F0 m pc ls st0) rest (va_Qi post B A1 a) (vx_X px BX AX) free) (hS : va_S A0 H0 H locs) (hA : ∀ q, q < H.size → A1 q → A0 q) (hf : ∀ q, free q → A0 q) (hAX : ∀ q, q < H.size → AX q → A0 q)
    (kx : ∀ (E : String) (ce : Cell) (q9 : Addr) (u : SX) (t : State) (H1 : Heap) (locs1 : List Loc), t.heap = H1 → s.vm.Alike t.vm → px u → BX E u t → H.size ≤ H1.size → (∀ q : Nat, q < H.size → ¬ AX q → H1[q]? = H[q]?) → va_S A0 H0 H1 locs1 → H1[q9]? = some ce → ce.vm = .none → s.vm.findClass E = some ce.cls → vx_W p l e R s m args below meth c H1 locs1 (cells + mc) (slots + ms) Q (F0 m pc ls rest) q9)
    (kk : ∀ (r : Int32) (u : S) (t : State) (H1 : Heap) (locs1 : List Loc), t.heap = H1 → s.vm.Alike t.vm → post r u → B u t → H.size ≤ H1.size → (∀ q : Nat, q < H.size → ¬ A1 q → H1[q]? = H[q]?) → va_S A0 H0 H1 locs1 → W p l e R s m args below meth c H1 locs1 (cells + mc) (slots + ms) Q (F0 m (pc + 3) ls (.int r :: rest))) : W p l e R s m args below meth c H locs cells slots Q (F0 m pc ls st0) := by
  intro T hT X
  rcases hr T hT X with ⟨v, st₀, t, T', L, h0, X', hL, e1, e2, ⟨⟨r, u, hv, hp, hb⟩, hF⟩, st⟩ | ⟨q, st₀, t, T', L, E, ce, h0, X', hL, e1, e2, ⟨u, hp, hb, hF⟩, hce, hcv, hcl, st⟩
  · cases hv
    obtain ⟨k1, k2, k3⟩ := vx_keep h0 e1 hS hA hf hL hF
    obtain ⟨t2, a1, b1⟩ := kk r u t T'.heap (locs ++ L) e1.symm (by rw [← e2]; exact X'.warmed.alike) hp hb k1 k2 k3 T' rfl X'
    exact ⟨t2, st t2 a1, b1⟩
  · obtain ⟨k1, k2, k3⟩ := vx_keep h0 e1 hS hAX hf hL hF
    obtain ⟨t2, a1, b1⟩ := kx E ce q u t T'.heap (locs ++ L) e1.symm (by rw [← e2]; exact X'.warmed.alike) hp hb k1 k2 k3 (by rw [e1]; exact hce) hcv hcl T' rfl X'
    exact ⟨t2, st.trans a1, b1⟩
theorem vx_calll {S SX : Type} {post : Int64 → S → Prop} {px : SX → Prop} {B : S → State → Prop} {BX : String → SX → State → Prop} {AX : Nat → Prop} (hr : vx_Run p l e R s m args below meth c H locs cells slots mc ms (F0 m pc ls st0) rest (va_Ql post B A1 a) (vx_X px BX AX) free) (hS : va_S A0 H0 H locs) (hA : ∀ q, q < H.size → A1 q → A0 q) (hf : ∀ q, free q → A0 q) (hAX : ∀ q, q < H.size → AX q → A0 q)
    (kx : ∀ (E : String) (ce : Cell) (q9 : Addr) (u : SX) (t : State) (H1 : Heap) (locs1 : List Loc), t.heap = H1 → s.vm.Alike t.vm → px u → BX E u t → H.size ≤ H1.size → (∀ q : Nat, q < H.size → ¬ AX q → H1[q]? = H[q]?) → va_S A0 H0 H1 locs1 → H1[q9]? = some ce → ce.vm = .none → s.vm.findClass E = some ce.cls → vx_W p l e R s m args below meth c H1 locs1 (cells + mc) (slots + ms) Q (F0 m pc ls rest) q9)
    (kk : ∀ (r : Int64) (u : S) (t : State) (H1 : Heap) (locs1 : List Loc), t.heap = H1 → s.vm.Alike t.vm → post r u → B u t → H.size ≤ H1.size → (∀ q : Nat, q < H.size → ¬ A1 q → H1[q]? = H[q]?) → va_S A0 H0 H1 locs1 → W p l e R s m args below meth c H1 locs1 (cells + mc) (slots + ms) Q (F0 m (pc + 3) ls (.long r :: rest))) : W p l e R s m args below meth c H locs cells slots Q (F0 m pc ls st0) := by
  intro T hT X
  rcases hr T hT X with ⟨v, st₀, t, T', L, h0, X', hL, e1, e2, ⟨⟨r, u, hv, hp, hb⟩, hF⟩, st⟩ | ⟨q, st₀, t, T', L, E, ce, h0, X', hL, e1, e2, ⟨u, hp, hb, hF⟩, hce, hcv, hcl, st⟩
  · cases hv
    obtain ⟨k1, k2, k3⟩ := vx_keep h0 e1 hS hA hf hL hF
    obtain ⟨t2, a1, b1⟩ := kk r u t T'.heap (locs ++ L) e1.symm (by rw [← e2]; exact X'.warmed.alike) hp hb k1 k2 k3 T' rfl X'
    exact ⟨t2, st t2 a1, b1⟩
  · obtain ⟨k1, k2, k3⟩ := vx_keep h0 e1 hS hAX hf hL hF
    obtain ⟨t2, a1, b1⟩ := kx E ce q u t T'.heap (locs ++ L) e1.symm (by rw [← e2]; exact X'.warmed.alike) hp hb k1 k2 k3 (by rw [e1]; exact hce) hcv hcl T' rfl X'
    exact ⟨t2, st.trans a1, b1⟩
theorem vx_callf {S SX : Type} {post : UInt32 → S → Prop} {px : SX → Prop} {B : S → State → Prop} {BX : String → SX → State → Prop} {AX : Nat → Prop} (hr : vx_Run p l e R s m args below meth c H locs cells slots mc ms (F0 m pc ls st0) rest (va_Qf post B A1 a) (vx_X px BX AX) free) (hS : va_S A0 H0 H locs) (hA : ∀ q, q < H.size → A1 q → A0 q) (hf : ∀ q, free q → A0 q) (hAX : ∀ q, q < H.size → AX q → A0 q)
    (kx : ∀ (E : String) (ce : Cell) (q9 : Addr) (u : SX) (t : State) (H1 : Heap) (locs1 : List Loc), t.heap = H1 → s.vm.Alike t.vm → px u → BX E u t → H.size ≤ H1.size → (∀ q : Nat, q < H.size → ¬ AX q → H1[q]? = H[q]?) → va_S A0 H0 H1 locs1 → H1[q9]? = some ce → ce.vm = .none → s.vm.findClass E = some ce.cls → vx_W p l e R s m args below meth c H1 locs1 (cells + mc) (slots + ms) Q (F0 m pc ls rest) q9)
    (kk : ∀ (r : UInt32) (u : S) (t : State) (H1 : Heap) (locs1 : List Loc), t.heap = H1 → s.vm.Alike t.vm → post r u → B u t → H.size ≤ H1.size → (∀ q : Nat, q < H.size → ¬ A1 q → H1[q]? = H[q]?) → va_S A0 H0 H1 locs1 → W p l e R s m args below meth c H1 locs1 (cells + mc) (slots + ms) Q (F0 m (pc + 3) ls (.float r :: rest))) : W p l e R s m args below meth c H locs cells slots Q (F0 m pc ls st0) := by
  intro T hT X
  rcases hr T hT X with ⟨v, st₀, t, T', L, h0, X', hL, e1, e2, ⟨⟨r, u, hv, hp, hb⟩, hF⟩, st⟩ | ⟨q, st₀, t, T', L, E, ce, h0, X', hL, e1, e2, ⟨u, hp, hb, hF⟩, hce, hcv, hcl, st⟩
  · cases hv
    obtain ⟨k1, k2, k3⟩ := vx_keep h0 e1 hS hA hf hL hF
    obtain ⟨t2, a1, b1⟩ := kk r u t T'.heap (locs ++ L) e1.symm (by rw [← e2]; exact X'.warmed.alike) hp hb k1 k2 k3 T' rfl X'
    exact ⟨t2, st t2 a1, b1⟩
  · obtain ⟨k1, k2, k3⟩ := vx_keep h0 e1 hS hAX hf hL hF
    obtain ⟨t2, a1, b1⟩ := kx E ce q u t T'.heap (locs ++ L) e1.symm (by rw [← e2]; exact X'.warmed.alike) hp hb k1 k2 k3 (by rw [e1]; exact hce) hcv hcl T' rfl X'
    exact ⟨t2, st.trans a1, b1⟩
theorem vx_calld {S SX : Type} {post : UInt64 → S → Prop} {px : SX → Prop} {B : S → State → Prop} {BX : String → SX → State → Prop} {AX : Nat → Prop} (hr : vx_Run p l e R s m args below meth c H locs cells slots mc ms (F0 m pc ls st0) rest (va_Qd post B A1 a) (vx_X px BX AX) free) (hS : va_S A0 H0 H locs) (hA : ∀ q, q < H.size → A1 q → A0 q) (hf : ∀ q, free q → A0 q) (hAX : ∀ q, q < H.size → AX q → A0 q)
    (kx : ∀ (E : String) (ce : Cell) (q9 : Addr) (u : SX) (t : State) (H1 : Heap) (locs1 : List Loc), t.heap = H1 → s.vm.Alike t.vm → px u → BX E u t → H.size ≤ H1.size → (∀ q : Nat, q < H.size → ¬ AX q → H1[q]? = H[q]?) → va_S A0 H0 H1 locs1 → H1[q9]? = some ce → ce.vm = .none → s.vm.findClass E = some ce.cls → vx_W p l e R s m args below meth c H1 locs1 (cells + mc) (slots + ms) Q (F0 m pc ls rest) q9)
    (kk : ∀ (r : UInt64) (u : S) (t : State) (H1 : Heap) (locs1 : List Loc), t.heap = H1 → s.vm.Alike t.vm → post r u → B u t → H.size ≤ H1.size → (∀ q : Nat, q < H.size → ¬ A1 q → H1[q]? = H[q]?) → va_S A0 H0 H1 locs1 → W p l e R s m args below meth c H1 locs1 (cells + mc) (slots + ms) Q (F0 m (pc + 3) ls (.double r :: rest))) : W p l e R s m args below meth c H locs cells slots Q (F0 m pc ls st0) := by
  intro T hT X
  rcases hr T hT X with ⟨v, st₀, t, T', L, h0, X', hL, e1, e2, ⟨⟨r, u, hv, hp, hb⟩, hF⟩, st⟩ | ⟨q, st₀, t, T', L, E, ce, h0, X', hL, e1, e2, ⟨u, hp, hb, hF⟩, hce, hcv, hcl, st⟩
  · cases hv
    obtain ⟨k1, k2, k3⟩ := vx_keep h0 e1 hS hA hf hL hF
    obtain ⟨t2, a1, b1⟩ := kk r u t T'.heap (locs ++ L) e1.symm (by rw [← e2]; exact X'.warmed.alike) hp hb k1 k2 k3 T' rfl X'
    exact ⟨t2, st t2 a1, b1⟩
  · obtain ⟨k1, k2, k3⟩ := vx_keep h0 e1 hS hAX hf hL hF
    obtain ⟨t2, a1, b1⟩ := kx E ce q u t T'.heap (locs ++ L) e1.symm (by rw [← e2]; exact X'.warmed.alike) hp hb k1 k2 k3 (by rw [e1]; exact hce) hcv hcl T' rfl X'
    exact ⟨t2, st.trans a1, b1⟩
theorem vx_callv {S SX : Type} {post : S → Prop} {px : SX → Prop} {B : S → State → Prop} {BX : String → SX → State → Prop} {AX : Nat → Prop} (hr : vx_Run p l e R s m args below meth c H locs cells slots mc ms (F0 m pc ls st0) rest (va_Qv post B A1 a) (vx_X px BX AX) free) (hS : va_S A0 H0 H locs) (hA : ∀ q, q < H.size → A1 q → A0 q) (hf : ∀ q, free q → A0 q) (hAX : ∀ q, q < H.size → AX q → A0 q)
    (kx : ∀ (E : String) (ce : Cell) (q9 : Addr) (u : SX) (t : State) (H1 : Heap) (locs1 : List Loc), t.heap = H1 → s.vm.Alike t.vm → px u → BX E u t → H.size ≤ H1.size → (∀ q : Nat, q < H.size → ¬ AX q → H1[q]? = H[q]?) → va_S A0 H0 H1 locs1 → H1[q9]? = some ce → ce.vm = .none → s.vm.findClass E = some ce.cls → vx_W p l e R s m args below meth c H1 locs1 (cells + mc) (slots + ms) Q (F0 m pc ls rest) q9)
    (kk : ∀ (u : S) (t : State) (H1 : Heap) (locs1 : List Loc), t.heap = H1 → s.vm.Alike t.vm → post u → B u t → H.size ≤ H1.size → (∀ q : Nat, q < H.size → ¬ A1 q → H1[q]? = H[q]?) → va_S A0 H0 H1 locs1 → W p l e R s m args below meth c H1 locs1 (cells + mc) (slots + ms) Q (F0 m (pc + 3) ls (rest))) : W p l e R s m args below meth c H locs cells slots Q (F0 m pc ls st0) := by
  intro T hT X
  rcases hr T hT X with ⟨v, st₀, t, T', L, h0, X', hL, e1, e2, ⟨⟨u, hv, hp, hb⟩, hF⟩, st⟩ | ⟨q, st₀, t, T', L, E, ce, h0, X', hL, e1, e2, ⟨u, hp, hb, hF⟩, hce, hcv, hcl, st⟩
  · cases hv
    obtain ⟨k1, k2, k3⟩ := vx_keep h0 e1 hS hA hf hL hF
    obtain ⟨t2, a1, b1⟩ := kk u t T'.heap (locs ++ L) e1.symm (by rw [← e2]; exact X'.warmed.alike) hp hb k1 k2 k3 T' rfl X'
    exact ⟨t2, st t2 a1, b1⟩
  · obtain ⟨k1, k2, k3⟩ := vx_keep h0 e1 hS hAX hf hL hF
    obtain ⟨t2, a1, b1⟩ := kx E ce q u t T'.heap (locs ++ L) e1.symm (by rw [← e2]; exact X'.warmed.alike) hp hb k1 k2 k3 (by rw [e1]; exact hce) hcv hcl T' rfl X'
    exact ⟨t2, st.trans a1, b1⟩
/-- caught by the row x of this method's table; the rows ahead don't take it -/
theorem vx_catch {own name : String} {E : String} {ce : Cell} {q : Addr} (hown : s.vm.findClass own = some m.cls) (pre : List ExceptionTableEntry) (x : ExceptionTableEntry) (suf : List ExceptionTableEntry) (hsplit : c.exceptionTable.toList = pre ++ x :: suf)
    (hpass : ∀ z ∈ pre, covers z pc = false ∨ (z.catchType ≠ 0 ∧ ∃ nm : String, (Cond.classLink own z.catchType nm).before args s = true ∧ va_Nc E nm s)) (hx : covers x pc = true) (h0 : x.catchType ≠ 0)
    (hlink : (Cond.classLink own x.catchType name).before args s = true) (hcast : (Cond.castable E name).before args s = true) (hcell : H[q]? = some ce) (hv : ce.vm = .none) (hcl : s.vm.findClass E = some ce.cls)
    (kk : W p l e R s m args below meth c H locs cells slots Q (F0 m x.handlerPc ls [.ref q])) : vx_W p l e R s m args below meth c H locs cells slots Q (F0 m pc ls rest) q := by
  intro T hT X
  have hpl : e.platform.magicAccessors = ({} : Platform).magicAccessors := by rw [X.admits.platform]
  obtain ⟨c3, c4, hc3, hc4, hasg⟩ := Cond.castable_spec hcast
  cases Option.some.inj (hc3.symm.trans hcl)
  obtain ⟨c5, hc5, hcl5⟩ := Cond.classLink_spec hown hlink e.platform hpl
  cases Option.some.inj (hc4.symm.trans hc5)
  obtain ⟨vm', X', st⟩ := X.thenCaughtThrough q (g := F0 m pc ls rest) rfl (Steps.refl _) (by rw [hT]; exact hcell) (by rw [hv]; rfl) (by obtain ⟨k9, h9, -⟩ := Vm.findClass_spec hcl; exact ⟨k9, h9⟩) pre x suf hsplit
    (fun z hz => by
      rcases hpass z hz with h | ⟨hz0, nm, hl1, hn1⟩
      · exact Or.inl h
      · obtain ⟨c6, hc6, hcl6⟩ := Cond.classLink_spec hown hl1 e.platform hpl
        obtain ⟨a8, b8, h1, h2, h3⟩ := hn1
        cases Option.some.inj (h1.symm.trans hcl)
        cases Option.some.inj (h2.symm.trans hc6)
        exact Or.inr ⟨hz0, _, hcl6, h3⟩) hx (Or.inr ⟨h0, c4, hcl5, hasg⟩)
  obtain ⟨t, a1, b1⟩ := kk (T.setVm vm') hT X'
  exact ⟨t, st.trans a1, b1⟩
end Rows
section Ends
variable {p : Program} {l : Launch} {e : Env} {R : Room} {s : State} {m : MethodId} {args : Array Value} {below : List Frame} {meth : Method} {c : Code} {H : Heap} {locs : List Loc} {cells slots : Nat} {Q : State → Prop}
variable {mc ms : Nat} {free : Addr → Prop} {A0 A1 : Nat → Prop} {H0 : Heap} {a : Array Value} {ls : Array Slot} {st0 rest : List Value}
variable {Qc : Array Value → State → Outcome → State → Prop} {XC : String → State → State → Prop}
/-- what a body that may throw owes at its end -/
def vx_MQ (below : List Frame) (Qc : Array Value → State → Outcome → State → Prop) (XC : String → State → State → Prop) (a : Array Value) (s : State) (mc ms : Nat) (free : Addr → Prop) : State → Prop := fun t =>
  ∃ o, t.status = .running ∧ Ended t below o ∧ vx_Q Qc XC mc ms free a s o t
theorem vx_ret {g : JFrame} {mc ms : Nat} (k : W p l e R s m args below meth c H locs cells slots (MQ below Qc args s mc ms free) g) : W p l e R s m args below meth c H locs cells slots (vx_MQ below Qc XC args s mc ms free) g := by
  intro T hT X
  obtain ⟨t, a1, o, b1, b2, b3, b4⟩ := k T hT X
  exact ⟨t, a1, o, b1, b2, Or.inl ⟨b3, b4⟩⟩
/-- not caught here: it goes on to the caller -/
theorem vx_widen {g : JFrame} {q : Addr} {k n : Nat} (h1 : cells ≤ k) (h2 : slots ≤ n) (kk : vx_W p l e R s m args below meth c H locs k n Q g q) : vx_W p l e R s m args below meth c H locs cells slots Q g q := fun T hT X => kk T hT (stand_widen X h1 h2)
theorem vx_out {pc : Nat} {E : String} {ce : Cell} {q : Addr} {mc ms : Nat} (hout : ∀ x ∈ c.exceptionTable.toList, covers x pc = false) (hlocks : meth.locks = false) (hcell : H[q]? = some ce) (hv : ce.vm = .none) (hcl : s.vm.findClass E = some ce.cls)
    (hx : ∀ t : State, t.heap = H → s.vm.Alike t.vm → XC E s t) (hf : ∀ z ∈ locs, free z.base) (hc : cells ≤ mc) (hs : slots ≤ ms) :
    vx_W p l e R s m args below meth c H locs cells slots (vx_MQ below Qc XC args s mc ms free) (F0 m pc ls rest) q := by
  intro T hT X
  obtain ⟨st1, hrun, hend, hW, hsm⟩ := X.leaveThrown q (g := F0 m pc ls rest) rfl rfl rfl hout hlocks
  have hcell9 : (T.setFrames (.throwing q :: below)).heap[q]? = some ce := by
    show T.heap[q]? = some ce
    rw [hT]; exact hcell
  exact ⟨_, st1, .threw q, hrun, hend, Or.inr ⟨q, rfl, E, ce, locs, hx _ hT hW.alike, hcell9, hv, hcl, hW, hsm.mono hc hs, hf⟩⟩
theorem vx_frame {U : State} {k n : Nat} (h : s.sameButNew ({ U with vm := s.vm } : State) locs k n) : s.heap.size ≤ U.heap.size ∧ ∀ q : Nat, q < s.heap.size → (∀ z ∈ locs, z.base ≠ q) → U.heap[q]? = s.heap[q]? := by
  obtain ⟨-, h2, -, -, -, h6⟩ := h
  refine ⟨h2, fun q hq hz => ?_⟩
  obtain ⟨c9, e1, e2, e3, e4⟩ := h6 q _ (Array.getElem?_eq_getElem hq)
  have hs : c9.slots = (s.heap[q]).slots := Array.ext_getElem? fun i => e4 i fun hm => hz _ hm rfl
  have h9 : c9 = s.heap[q] := by
    rw [hs] at e2
    exact e2
  have e5 : U.heap[q]? = some c9 := e1
  rw [e5, h9, Array.getElem?_eq_getElem hq]
/-- the words of a throw but the four that speak of the heap -/
def vx_no (w : Cond) : Bool := decide (w ≠ .isRef (.static Bundle.tN "UNASSIGNED_STACK" Bundle.steD)) && decide (w ≠ .isRef (.static Bundle.tN "SUPPRESSED_SENTINEL" Bundle.listD)) && decide (w ≠ .laysStatic Bundle.tN "UNASSIGNED_STACK" Bundle.steD) && decide (w ≠ .laysStatic Bundle.tN "SUPPRESSED_SENTINEL" Bundle.listD)
def vx_at0 (own : String) (ic : Nat) (X : String) (names : List String) : List Cond := (Bundle.ownAtoms0 own ic X names).filter vx_no
def vx_atS (own : String) (ic : Nat) (X : String) (names : List String) : List Cond := (Bundle.ownAtoms own ic X names).filter vx_no
/-- a word that the tables alone decide, or a good one -/
def vx_ot (w : Cond) : Bool := w.onTables || goodWord w
theorem vx_ot_at {args a' : Array Value} {s U : State} {w : Cond} (hW : s.WarmedH U.vm) (hvm : s.vm = U.vm) (hg : vx_ot w = true) (h : w.before args s = true) : w.before a' U = true := by
  simp only [vx_ot, Bool.or_eq_true] at hg
  rcases hg with hg | hg
  · exact va_tabs hg hvm h
  · exact word_at hW (good_of_word hg) h
/-- a list's words: the good ones out of the method's own list, the others by premises of their own -/
theorem vx_hat {args : Array Value} {s : State} {L B : List Cond} (h1 : ∀ w ∈ L.filter goodWord, w.before args s = true) (h2 : ∀ w ∈ L.filter (fun w => !goodWord w), w ∈ B) (h3 : ∀ w ∈ B, w.before args s = true) : ∀ w ∈ L, w.before args s = true := by
  intro w hw
  by_cases g : goodWord w = true
  · exact h1 w (List.mem_filter.mpr ⟨hw, g⟩)
  · refine h3 w (h2 w (List.mem_filter.mpr ⟨hw, ?_⟩))
    show (!goodWord w) = true
    cases hgw : goodWord w
    · rfl
    · exact absurd hgw g
theorem vx_c {args : Array Value} {s : State} {w : Cond} {B : List Cond} (h : w.before args s = true) (t : ∀ w ∈ B, w.before args s = true) : ∀ w' ∈ w :: B, w'.before args s = true := fun w' h' => (List.mem_cons.mp h').elim (fun e => by rw [e]; exact h) (t w')
theorem vx_n {args : Array Value} {s : State} : ∀ w ∈ ([] : List Cond), w.before args s = true := fun _ h => nomatch h
theorem vx_own {args : Array Value} {s : State} {L : List Cond} (h1 : ∀ w ∈ L.filter vx_no, w.before args s = true)
    (hU : (Cond.isRef (.static Bundle.tN "UNASSIGNED_STACK" Bundle.steD)).before args s = true) (hN : (Cond.isRef (.static Bundle.tN "SUPPRESSED_SENTINEL" Bundle.listD)).before args s = true)
    (lU : (Cond.laysStatic Bundle.tN "UNASSIGNED_STACK" Bundle.steD).before args s = true) (lN : (Cond.laysStatic Bundle.tN "SUPPRESSED_SENTINEL" Bundle.listD).before args s = true) : ∀ w ∈ L, w.before args s = true := by
  intro w hw
  by_cases e1 : w = .isRef (.static Bundle.tN "UNASSIGNED_STACK" Bundle.steD)
  · rw [e1]; exact hU
  · by_cases e2 : w = .isRef (.static Bundle.tN "SUPPRESSED_SENTINEL" Bundle.listD)
    · rw [e2]; exact hN
    · by_cases e3 : w = .laysStatic Bundle.tN "UNASSIGNED_STACK" Bundle.steD
      · rw [e3]; exact lU
      · by_cases e4 : w = .laysStatic Bundle.tN "SUPPRESSED_SENTINEL" Bundle.listD
        · rw [e4]; exact lN
        · exact h1 w (List.mem_filter.mpr ⟨hw, by unfold vx_no; rw [decide_eq_true e1, decide_eq_true e2, decide_eq_true e3, decide_eq_true e4]; rfl⟩)
/-- where a static field lies, its class's statics cell in H -/
def vx_L (C n d : String) (A : Nat → Prop) (U : State) (H : Heap) : Prop := ∃ (c : ClassId) (k : Class) (i : Nat) (f : Field) (a : Nat) (cell : Cell), U.vm.findClass C = some c ∧ U.fieldFound? C n d = some (c, k, i, f) ∧ f.isStatic = true ∧ k.statics = some a ∧ H[a]? = some cell ∧ cell.vm.isStatics = true ∧ cell.cls = c ∧ f.slot < cell.slots.size ∧ k.staticTypes[f.slot]? = some f.type ∧ ¬ A a
theorem vx_L.moved {C n d : String} {A : Nat → Prop} {u U : State} {H : Heap} (hvm : u.vm.Alike U.vm) (h : vx_L C n d A u H) : vx_L C n d A U H := by
  obtain ⟨c, k, i, f, a, cell, h1, h2, h3, h4, h5, h6, h7, h8, h9, h10⟩ := h
  obtain ⟨k', hi', he⟩ := State.fieldFound?_setVm hvm h2
  exact ⟨c, k', i, f, a, cell, by rw [hvm.findClass]; exact h1, hi', h3, by rw [he]; exact h4, h5, h6, h7, h8, by rw [he]; exact h9, h10⟩
theorem vx_L.kept {C n d : String} {A : Nat → Prop} {U : State} {H H1 : Heap} (h : vx_L C n d A U H) (hq : ∀ a : Nat, a < H.size → ¬ A a → H1[a]? = H[a]?) : vx_L C n d A U H1 := by
  obtain ⟨c, k, i, f, a, cell, h1, h2, h3, h4, h5, h6, h7, h8, h9, h10⟩ := h
  exact ⟨c, k, i, f, a, cell, h1, h2, h3, h4, by rw [hq a (Array.getElem?_eq_some_iff.mp h5).1 h10]; exact h5, h6, h7, h8, h9, h10⟩
theorem vx_L.narrow {C n d : String} {A B : Nat → Prop} {U : State} {H : Heap} (h : vx_L C n d A U H) (hAB : ∀ q, B q → A q) : vx_L C n d B U H := by
  obtain ⟨c, k, i, f, a, cell, h1, h2, h3, h4, h5, h6, h7, h8, h9, h10⟩ := h
  exact ⟨c, k, i, f, a, cell, h1, h2, h3, h4, h5, h6, h7, h8, h9, fun z => h10 (hAB _ z)⟩
theorem vx_L.word {C n d : String} {A : Nat → Prop} {s : State} {args : Array Value} (h : vx_L C n d A s s.heap) : (Cond.laysStatic C n d).before args s = true := by
  obtain ⟨c, k, i, f, a, cell, h1, h2, h3, h4, h5, h6, h7, h8, h9, -⟩ := h
  show (Cond.laysStatic C n d).holds args s none s [] = true
  exact Cond.laysStatic_of h1 h2 h3 h4 h5 h6 h7 h8 h9
/-- .. and what it holds: null or some reference -/
def vx_Zq (C n d : String) (A : Nat → Prop) (U : State) (H : Heap) : Prop := va_Zq C n d A U H ∧ vx_L C n d A U H
theorem vx_Zq.moved {C n d : String} {A : Nat → Prop} {u U : State} {H : Heap} (hvm : u.vm.Alike U.vm) (h : vx_Zq C n d A u H) : vx_Zq C n d A U H := ⟨va_Zq.moved hvm h.1, vx_L.moved hvm h.2⟩
theorem vx_Zq.kept {C n d : String} {A : Nat → Prop} {U : State} {H H1 : Heap} (h : vx_Zq C n d A U H) (hq : ∀ a : Nat, a < H.size → ¬ A a → H1[a]? = H[a]?) : vx_Zq C n d A U H1 := ⟨va_Zq.kept h.1 hq, vx_L.kept h.2 hq⟩
theorem vx_Zq.narrow {C n d : String} {A B : Nat → Prop} {U : State} {H : Heap} (h : vx_Zq C n d A U H) (hAB : ∀ q, B q → A q) : vx_Zq C n d B U H := ⟨va_Zq.narrow h.1 hAB, vx_L.narrow h.2 hAB⟩
theorem vx_Zqof {args : Array Value} {s : State} {C n d : String} {A : Nat → Prop} (hl : (Cond.laysStatic C n d).before args s = true) (hini : (Cond.initialized C).before args s = true) (h : (Cond.isRef (.static C n d)).before args s = true) (hA : ∀ a : Nat, a < s.heap.size → ¬ A a) : vx_Zq C n d A s s.heap := by
  refine ⟨va_Zqof hl hini h hA, ?_⟩
  obtain ⟨c, k, i, f, a, cell, h1, h2, h3, h4, h5, h6, h7, h8, h9⟩ := Cond.laysStatic_spec hl
  exact ⟨c, k, i, f, a, cell, h1, h2, h3, h4, h5, h6, h7, h8, h9, hA a (Array.getElem?_eq_some_iff.mp h5).1⟩
theorem vx_isRef {C n d : String} {v : Value} {A : Nat → Prop} {s : State} {args : Array Value} (h : va_Z C n d v A s s.heap) (hv : v.isRef = true) : (Cond.isRef (.static C n d)).before args s = true := by
  obtain ⟨cf, kf, fi, f, a, cell, h1, h2, h3, h4, h5, h6, h7, -⟩ := h
  have he : (Term.static C n d).eval args s none [] s = some v := by
    simp [Term.eval, State.fieldNamed?, h1, h2, h4, h5, h6, h7]
  simp only [Cond.before, Cond.holds, Cond.value, he]
  cases v <;> simp_all [Value.isRef]
theorem vx_isRefq {C n d : String} {A : Nat → Prop} {s : State} {args : Array Value} (h : va_Zq C n d A s s.heap) : (Cond.isRef (.static C n d)).before args s = true := by
  rcases h with h | ⟨t, h⟩
  · exact vx_isRef h rfl
  · exact vx_isRef h rfl
/-- the same frame, seen from here: as if the method were called anew in this heap -/
theorem vx_rebase {T : State} (X : Stand p l e R s m args below meth c T locs cells slots) {R' : Room} (hf : R'.frames ≤ R.frames) (hl : R'.locals ≤ R.locals) (hc : cells + R'.cells ≤ R.cells) (hs : slots + R'.slots ≤ R.slots) :
    Stand p l e R' ((T.setVm s.vm).setFrames (.invoking m args :: below)) m args below meth c T [] 0 0 := by
  have htop : (T.setVm s.vm).topJava?.isSome := X.here.top
  have hF : ((T.setVm s.vm).setFrames (.invoking m args :: below)).frames = .invoking m args :: below := State.frames_setFrames _ (State.cur_lt_of_top htop)
  obtain ⟨g₀, hg0⟩ := Option.isSome_iff_exists.mp htop
  obtain ⟨r, hr⟩ := State.topJava?_eq_some.mp hg0
  have hl9 : e.platform.stackLimits (T.setVm s.vm).me = e.platform.stackLimits s.me := X.limits
  have hb9 : (T.setVm s.vm).me.stackBytes = s.me.stackBytes := X.bytes
  refine ⟨X.admits, X.cas, X.clock, hF, ?_, X.hears, X.method, X.code, X.here, X.tail, X.warmed, ?_, ?_, ?_⟩
  · have h := X.room
    have hU : ((T.setVm s.vm).setFrames (.invoking m args :: below)).localsInUse = s.localsInUse := by
      rw [State.localsInUse_invoking hF (meth := meth) (c := c) X.method X.code, State.localsInUse_invoking X.frames X.method X.code]
    simp only [State.hasRoom, Bool.and_eq_true, decide_eq_true_eq] at h ⊢
    obtain ⟨⟨⟨⟨h1, h2, h3, h4, h5, h6⟩, h7⟩, h8⟩, h9⟩ := h
    rw [X.frames, List.length_cons] at h2 h3
    have q1 := X.heapSize
    have q2 := X.used
    simp only [hF, hU, List.length_cons, State.stackLimits_setFrames, State.stackBytes_setFrames, hl9, hb9]
    refine ⟨⟨⟨⟨by omega, by omega, by omega, by omega, by omega, h6⟩, ?_⟩, ?_⟩, X.book⟩
    · show T.heap.size + R'.cells ≤ e.platform.maxCells
      omega
    · show T.slotsUsed + R'.slots ≤ e.platform.maxSlots
      omega
  · rw [State.stackLimits_setFrames]; rfl
  · rw [State.stackBytes_setFrames]; rfl
  · refine ⟨?_, Nat.le_refl _, Nat.le_refl _, ?_, ?_, fun a c9 h9 => ⟨c9, h9, rfl, rfl, fun _ _ => rfl⟩⟩
    · obtain ⟨t, ht, -⟩ := State.frames_cons hr
      show T.setVm s.vm = { ((T.setVm s.vm).setFrames (.invoking m args :: below)).setFrames (T.setVm s.vm).frames with heap := T.heap, slotsUsed := T.slotsUsed }
      rw [State.setFrames_setFrames, State.setFrames_self ht]
      rfl
    · show T.slotsUsed = T.slotsUsed + ((T.heap.toList.drop T.heap.size).map (·.slots.size)).sum
      rw [List.drop_eq_nil_of_le (Nat.le_of_eq Array.length_toList)]
      rfl
    · show ((T.heap.toList.drop T.heap.size).map (·.slots.size)).sum ≤ 0
      rw [List.drop_eq_nil_of_le (Nat.le_of_eq Array.length_toList)]
      exact Nat.le_refl _
/-- 'throw new E()': new; dup; invokespecial; athrow -/
theorem vx_throw0 {cc : ByteArray} {pc : Nat} (hexec : p.tables.exec = Jvm.exec) (hb : c.code = cc) (hl : l.stackTraces = false) {own cls : String} {names : List String} {ik ic mc ms : Nat} {A : Nat → Prop}
    (hown : s.vm.findClass own = some m.cls) (hcls : Bundle.fit cls = true) (hnames : ∀ n ∈ names, Bundle.fit n = true)
    (hk : (Cond.classLink own ik cls).before args s = true) (hini : (Cond.initialized cls).before args s = true) (hat : ∀ w ∈ vx_at0 own ic cls names, w.before args s = true)
    (hgood : ∀ w ∈ Cond.classLink own ik cls :: Cond.initialized cls :: vx_at0 own ic cls names, vx_ot w = true)
    (hU : vx_Zq Bundle.tN "UNASSIGNED_STACK" Bundle.steD A s s.heap) (hN : vx_Zq Bundle.tN "SUPPRESSED_SENTINEL" Bundle.listD A s s.heap) (hS : va_S A s.heap H locs) (hsize : ls.size = c.maxLocals)
    (d0 : decode cc pc = .ok (.new ik, 3)) (d3 : decode cc (pc + 3) = .ok (.dup, 1)) (d4 : decode cc (pc + 4) = .ok (.invokespecial ic, 3)) (d7 : decode cc (pc + 7) = .ok (.athrow, 1))
    (hout : ∀ x ∈ c.exceptionTable.toList, covers x (pc + 7) = false)
    (hRframes : names.length + 3 < R.frames) (hRlocals : (rest.map fun v => v.category).sum + (13 * (names.length + 1) + 42) ≤ R.locals) (hRcells : cells + 1 ≤ R.cells) (hRslots : slots + 6 ≤ R.slots) (hlocks : meth.locks = false)
    (hx : ∀ t : State, s.vm.Alike t.vm → H.size ≤ t.heap.size → (∀ q : Nat, q < H.size → t.heap[q]? = H[q]?) → XC cls s t)
    (hf : ∀ z ∈ locs, free z.base) (hc : cells + 1 ≤ mc) (hs : slots + 6 ≤ ms) :
    W p l e R s m args below meth c H locs cells slots (vx_MQ below Qc XC args s mc ms free) (F0 m pc ls rest) := by
  intro T hT X
  have htr : e.platform.stackTraces = false := (show e.platform.stackTraces = l.stackTraces by rw [X.admits.platform]).trans hl
  have Y := vx_rebase X (R' := { frames := R.frames, locals := R.locals, cells := 1, slots := 6 }) (Nat.le_refl _) (Nat.le_refl _) hRcells hRslots
  obtain ⟨s', hA⟩ : ∃ z, z = (T.setVm s.vm).setFrames (.invoking m args :: below) := ⟨_, rfl⟩
  rw [← hA] at Y
  have hvm : s'.vm = s.vm := by rw [hA]; rfl
  have hhp : s'.heap = H := by rw [hA]; exact hT
  have hW0 : s.WarmedH s'.vm := by rw [hvm]; exact State.WarmedH.refl s
  have hat' : ∀ w ∈ vx_at0 own ic cls names, w.before args s' = true := fun w hw => vx_ot_at hW0 hvm.symm (hgood w (List.mem_cons_of_mem _ (List.mem_cons_of_mem _ hw))) (hat w hw)
  have hk' : (Cond.classLink own ik cls).before args s' = true := vx_ot_at hW0 hvm.symm (hgood _ List.mem_cons_self) hk
  have hini' : (Cond.initialized cls).before args s' = true := vx_ot_at hW0 hvm.symm (hgood _ (List.mem_cons_of_mem _ List.mem_cons_self)) hini
  have hU' : vx_Zq Bundle.tN "UNASSIGNED_STACK" Bundle.steD A s' s'.heap := by rw [hhp]; exact vx_Zq.moved hW0.alike (hU.kept hS.2.1)
  have hN' : vx_Zq Bundle.tN "SUPPRESSED_SENTINEL" Bundle.listD A s' s'.heap := by rw [hhp]; exact vx_Zq.moved hW0.alike (hN.kept hS.2.1)
  have h : ∀ w ∈ Bundle.ownAtoms0 own ic cls names, w.before args s' = true := vx_own hat' (vx_isRefq hU'.1) (vx_isRefq hN'.1) hU'.2.word hN'.2.word
  have hown' : s'.vm.findClass own = some m.cls := by rw [hvm]; exact hown
  have hins : (Cond.instantiable cls 6).before args s' = true := h _ (by simp [Bundle.ownAtoms0])
  obtain ⟨vm₁, cX, kX, hfX, hkX, -, -, X₁, st1⟩ := Y.newCold hexec (own := own) (C := cls) (index := ik) (n := 6) hown' hk' hins hini'
    (g := F0 m pc ls rest) rfl (by rw [hb]; exact d0) (Nat.le_refl _) (Nat.le_refl _)
  generalize hT1 : (T.setVm vm₁).pushCell { cls := cX, slots := kX.instanceTypes.map defaultValue, vm := .none } = T1 at X₁ st1
  have hcat : (Value.ref T.heap.size).category = 1 := rfl
  have hcellA : T1.heap[T.heap.size]? = some (freshCell cX kX) := by rw [← hT1]; exact State.heap_pushCell_size _ _
  have d3' : decode c.code (pc + 3) = .ok (.dup, 1) := by rw [hb]; exact d3
  obtain ⟨U, hsteps, hrun, hend, hW, hsame, ce, hce, hO⟩ := X₁.ctorThrow0 hexec htr (own := own) (cls := cls) (names := names) (ic := ic) hown' hcls hnames h (fun x hx => nomatch hx) hfX hkX hcellA (by rw [hhp, hT]; exact Nat.le_refl _)
    (g := { method := m, pc := pc + 4, locals := ls, stack := .ref T.heap.size :: .ref T.heap.size :: rest, locked := none }) rfl hsize rfl rfl (rest := rest) rfl
    (by rw [hb]; exact d4) (by rw [hb]; exact d7) hout hRframes (by simp only [List.map_cons, List.sum_cons, hcat]; omega) hlocks
  obtain ⟨f1, f2⟩ := vx_frame hsame
  rw [hhp] at f1 f2
  have hWs : s.WarmedH U.vm := State.WarmedH.trans hW0 hW
  have hcl : s.vm.findClass cls = some ce.cls := by
    have h9 := hO.cls
    rw [hvm] at h9
    exact h9
  have hall : s.sameButNew ({ U with vm := s.vm } : State) locs mc ms := by
    subst hA
    obtain ⟨e1, e2⟩ := hsame
    rw [State.setFrames_setFrames] at e1
    have h2 : (T.setVm s.vm).sameButNew ({ U with vm := s.vm } : State) [] (0 + 1) (0 + 6) := ⟨e1, e2⟩
    have h3 := X.same.trans h2
    rw [List.append_nil] at h3
    exact h3.mono hc hs
  refine ⟨U, ?_, .threw T.heap.size, hrun, hend, Or.inr ⟨T.heap.size, rfl, cls, ce, locs, hx U hWs.alike f1 (fun q hq => f2 q hq (fun z hz => nomatch hz)), hce, hO.vm, hcl, hWs, hall, hf⟩⟩
  refine st1 _ ?_
  show Steps p.tables e below (T1.setTop { method := m, pc := pc + 3, locals := ls, stack := .ref T.heap.size :: rest, locked := none }) _
  jvm_step X₁.here [X₁.here.top, hexec, d3', Value.category]
  exact hsteps
/-- 'throw new E("text")': new; dup; ldc; invokespecial; athrow -/
theorem vx_throwS {cc : ByteArray} {pc : Nat} (hexec : p.tables.exec = Jvm.exec) (hb : c.code = cc) (hl : l.stackTraces = false) {own cls text : String} {names : List String} {ik is ic mc ms sa : Nat} {A : Nat → Prop}
    (hown : s.vm.findClass own = some m.cls) (hcls : Bundle.fit cls = true) (hnames : ∀ n ∈ names, Bundle.fit n = true)
    (hk : (Cond.classLink own ik cls).before args s = true) (hini : (Cond.initialized cls).before args s = true) (hstr : vk_R own is text sa s) (hat : ∀ w ∈ vx_atS own ic cls names, w.before args s = true)
    (hgood : ∀ w ∈ Cond.classLink own ik cls :: Cond.initialized cls :: vx_atS own ic cls names, vx_ot w = true)
    (hU : vx_Zq Bundle.tN "UNASSIGNED_STACK" Bundle.steD A s s.heap) (hN : vx_Zq Bundle.tN "SUPPRESSED_SENTINEL" Bundle.listD A s s.heap) (hS : va_S A s.heap H locs) (hsize : ls.size = c.maxLocals)
    (d0 : decode cc pc = .ok (.new ik, 3)) (d3 : decode cc (pc + 3) = .ok (.dup, 1)) (d4 : decode cc (pc + 4) = .ok (.ldc is, 2)) (d6 : decode cc (pc + 6) = .ok (.invokespecial ic, 3)) (d9 : decode cc (pc + 9) = .ok (.athrow, 1))
    (hout : ∀ x ∈ c.exceptionTable.toList, covers x (pc + 9) = false)
    (hRframes : names.length + 3 < R.frames) (hRlocals : (rest.map fun v => v.category).sum + (13 * (names.length + 1) + 43) ≤ R.locals) (hRcells : cells + 1 ≤ R.cells) (hRslots : slots + 6 ≤ R.slots) (hlocks : meth.locks = false)
    (hx : ∀ t : State, s.vm.Alike t.vm → H.size ≤ t.heap.size → (∀ q : Nat, q < H.size → t.heap[q]? = H[q]?) → XC cls s t)
    (hf : ∀ z ∈ locs, free z.base) (hc : cells + 1 ≤ mc) (hs : slots + 6 ≤ ms) :
    W p l e R s m args below meth c H locs cells slots (vx_MQ below Qc XC args s mc ms free) (F0 m pc ls rest) := by
  intro T hT X
  have htr : e.platform.stackTraces = false := (show e.platform.stackTraces = l.stackTraces by rw [X.admits.platform]).trans hl
  have Y := vx_rebase X (R' := { frames := R.frames, locals := R.locals, cells := 1, slots := 6 }) (Nat.le_refl _) (Nat.le_refl _) hRcells hRslots
  obtain ⟨s', hA⟩ : ∃ z, z = (T.setVm s.vm).setFrames (.invoking m args :: below) := ⟨_, rfl⟩
  rw [← hA] at Y
  have hvm : s'.vm = s.vm := by rw [hA]; rfl
  have hhp : s'.heap = H := by rw [hA]; exact hT
  have hW0 : s.WarmedH s'.vm := by rw [hvm]; exact State.WarmedH.refl s
  have hat' : ∀ w ∈ vx_atS own ic cls names, w.before args s' = true := fun w hw => vx_ot_at hW0 hvm.symm (hgood w (List.mem_cons_of_mem _ (List.mem_cons_of_mem _ hw))) (hat w hw)
  have hk' : (Cond.classLink own ik cls).before args s' = true := vx_ot_at hW0 hvm.symm (hgood _ List.mem_cons_self) hk
  have hini' : (Cond.initialized cls).before args s' = true := vx_ot_at hW0 hvm.symm (hgood _ (List.mem_cons_of_mem _ List.mem_cons_self)) hini
  have hU' : vx_Zq Bundle.tN "UNASSIGNED_STACK" Bundle.steD A s' s'.heap := by rw [hhp]; exact vx_Zq.moved hW0.alike (hU.kept hS.2.1)
  have hN' : vx_Zq Bundle.tN "SUPPRESSED_SENTINEL" Bundle.listD A s' s'.heap := by rw [hhp]; exact vx_Zq.moved hW0.alike (hN.kept hS.2.1)
  have h : ∀ w ∈ Bundle.ownAtoms own ic cls names, w.before args s' = true := vx_own hat' (vx_isRefq hU'.1) (vx_isRefq hN'.1) hU'.2.word hN'.2.word
  have hown' : s'.vm.findClass own = some m.cls := by rw [hvm]; exact hown
  have hins : (Cond.instantiable cls 6).before args s' = true := h _ (by simp [Bundle.ownAtoms])
  obtain ⟨vm₁, cX, kX, hfX, hkX, -, -, X₁, st1⟩ := Y.newCold hexec (own := own) (C := cls) (index := ik) (n := 6) hown' hk' hins hini'
    (g := F0 m pc ls rest) rfl (by rw [hb]; exact d0) (Nat.le_refl _) (Nat.le_refl _)
  generalize hT1 : (T.setVm vm₁).pushCell { cls := cX, slots := kX.instanceTypes.map defaultValue, vm := .none } = T1 at X₁ st1
  have hcat : (Value.ref T.heap.size).category = 1 := rfl
  have hcellA : T1.heap[T.heap.size]? = some (freshCell cX kX) := by rw [← hT1]; exact State.heap_pushCell_size _ _
  have d3' : decode c.code (pc + 3) = .ok (.dup, 1) := by rw [hb]; exact d3
  have d4' : decode c.code (pc + 4) = .ok (.ldc is, 2) := by rw [hb]; exact d4
  have hstr' : vk_R own is text sa s' := vk_R.warm hW0 hstr
  obtain ⟨U, hsteps, hrun, hend, hW, hsame, ce, hce, hO⟩ := X₁.ctorThrowS hexec htr (own := own) (cls := cls) (names := names) (ic := ic) hown' hcls hnames h (fun x hx => nomatch hx) hfX hkX hcellA (by rw [hhp, hT]; exact Nat.le_refl _) (msg := .ref sa) rfl
    (g := { method := m, pc := pc + 6, locals := ls, stack := .ref sa :: .ref T.heap.size :: .ref T.heap.size :: rest, locked := none }) rfl hsize rfl rfl (rest := rest) rfl
    (by rw [hb]; exact d6) (by rw [hb]; exact d9) hout hRframes (by simp only [List.map_cons, List.sum_cons, hcat]; omega) hlocks
  obtain ⟨f1, f2⟩ := vx_frame hsame
  rw [hhp] at f1 f2
  have hWs : s.WarmedH U.vm := State.WarmedH.trans hW0 hW
  have hcl : s.vm.findClass cls = some ce.cls := by
    have h9 := hO.cls
    rw [hvm] at h9
    exact h9
  have hall : s.sameButNew ({ U with vm := s.vm } : State) locs mc ms := by
    subst hA
    obtain ⟨e1, e2⟩ := hsame
    rw [State.setFrames_setFrames] at e1
    have h2 : (T.setVm s.vm).sameButNew ({ U with vm := s.vm } : State) [] (0 + 1) (0 + 6) := ⟨e1, e2⟩
    have h3 := X.same.trans h2
    rw [List.append_nil] at h3
    exact h3.mono hc hs
  refine ⟨U, ?_, .threw T.heap.size, hrun, hend, Or.inr ⟨T.heap.size, rfl, cls, ce, locs, hx U hWs.alike f1 (fun q hq => f2 q hq (fun z hz => nomatch hz)), hce, hO.vm, hcl, hWs, hall, hf⟩⟩
  refine st1 _ ?_
  show Steps p.tables e below (T1.setTop { method := m, pc := pc + 3, locals := ls, stack := .ref T.heap.size :: rest, locked := none }) _
  jvm_step X₁.here [X₁.here.top, hexec, d3', Value.category]
  exact X₁.ldcString hexec (own := own) (text := text) (index := is) (a := sa) hown' hstr'.1 hstr'.2
    (g := { method := m, pc := pc + 4, locals := ls, stack := .ref T.heap.size :: .ref T.heap.size :: rest, locked := none }) rfl d4' _ hsteps
/-- 'throw new E("text")', the text by a wide index -/
theorem vx_throwSW {cc : ByteArray} {pc : Nat} (hexec : p.tables.exec = Jvm.exec) (hb : c.code = cc) (hl : l.stackTraces = false) {own cls text : String} {names : List String} {ik is ic mc ms sa : Nat} {A : Nat → Prop}
    (hown : s.vm.findClass own = some m.cls) (hcls : Bundle.fit cls = true) (hnames : ∀ n ∈ names, Bundle.fit n = true)
    (hk : (Cond.classLink own ik cls).before args s = true) (hini : (Cond.initialized cls).before args s = true) (hstr : vk_R own is text sa s) (hat : ∀ w ∈ vx_atS own ic cls names, w.before args s = true)
    (hgood : ∀ w ∈ Cond.classLink own ik cls :: Cond.initialized cls :: vx_atS own ic cls names, vx_ot w = true)
    (hU : vx_Zq Bundle.tN "UNASSIGNED_STACK" Bundle.steD A s s.heap) (hN : vx_Zq Bundle.tN "SUPPRESSED_SENTINEL" Bundle.listD A s s.heap) (hS : va_S A s.heap H locs) (hsize : ls.size = c.maxLocals)
    (d0 : decode cc pc = .ok (.new ik, 3)) (d3 : decode cc (pc + 3) = .ok (.dup, 1)) (d4 : decode cc (pc + 4) = .ok (.ldc_w is, 3)) (d7 : decode cc (pc + 7) = .ok (.invokespecial ic, 3)) (d10 : decode cc (pc + 10) = .ok (.athrow, 1))
    (hout : ∀ x ∈ c.exceptionTable.toList, covers x (pc + 10) = false)
    (hRframes : names.length + 3 < R.frames) (hRlocals : (rest.map fun v => v.category).sum + (13 * (names.length + 1) + 43) ≤ R.locals) (hRcells : cells + 1 ≤ R.cells) (hRslots : slots + 6 ≤ R.slots) (hlocks : meth.locks = false)
    (hx : ∀ t : State, s.vm.Alike t.vm → H.size ≤ t.heap.size → (∀ q : Nat, q < H.size → t.heap[q]? = H[q]?) → XC cls s t)
    (hf : ∀ z ∈ locs, free z.base) (hc : cells + 1 ≤ mc) (hs : slots + 6 ≤ ms) :
    W p l e R s m args below meth c H locs cells slots (vx_MQ below Qc XC args s mc ms free) (F0 m pc ls rest) := by
  intro T hT X
  have htr : e.platform.stackTraces = false := (show e.platform.stackTraces = l.stackTraces by rw [X.admits.platform]).trans hl
  have Y := vx_rebase X (R' := { frames := R.frames, locals := R.locals, cells := 1, slots := 6 }) (Nat.le_refl _) (Nat.le_refl _) hRcells hRslots
  obtain ⟨s', hA⟩ : ∃ z, z = (T.setVm s.vm).setFrames (.invoking m args :: below) := ⟨_, rfl⟩
  rw [← hA] at Y
  have hvm : s'.vm = s.vm := by rw [hA]; rfl
  have hhp : s'.heap = H := by rw [hA]; exact hT
  have hW0 : s.WarmedH s'.vm := by rw [hvm]; exact State.WarmedH.refl s
  have hat' : ∀ w ∈ vx_atS own ic cls names, w.before args s' = true := fun w hw => vx_ot_at hW0 hvm.symm (hgood w (List.mem_cons_of_mem _ (List.mem_cons_of_mem _ hw))) (hat w hw)
  have hk' : (Cond.classLink own ik cls).before args s' = true := vx_ot_at hW0 hvm.symm (hgood _ List.mem_cons_self) hk
  have hini' : (Cond.initialized cls).before args s' = true := vx_ot_at hW0 hvm.symm (hgood _ (List.mem_cons_of_mem _ List.mem_cons_self)) hini
  have hU' : vx_Zq Bundle.tN "UNASSIGNED_STACK" Bundle.steD A s' s'.heap := by rw [hhp]; exact vx_Zq.moved hW0.alike (hU.kept hS.2.1)
  have hN' : vx_Zq Bundle.tN "SUPPRESSED_SENTINEL" Bundle.listD A s' s'.heap := by rw [hhp]; exact vx_Zq.moved hW0.alike (hN.kept hS.2.1)
  have h : ∀ w ∈ Bundle.ownAtoms own ic cls names, w.before args s' = true := vx_own hat' (vx_isRefq hU'.1) (vx_isRefq hN'.1) hU'.2.word hN'.2.word
  have hown' : s'.vm.findClass own = some m.cls := by rw [hvm]; exact hown
  have hins : (Cond.instantiable cls 6).before args s' = true := h _ (by simp [Bundle.ownAtoms])
  obtain ⟨vm₁, cX, kX, hfX, hkX, -, -, X₁, st1⟩ := Y.newCold hexec (own := own) (C := cls) (index := ik) (n := 6) hown' hk' hins hini'
    (g := F0 m pc ls rest) rfl (by rw [hb]; exact d0) (Nat.le_refl _) (Nat.le_refl _)
  generalize hT1 : (T.setVm vm₁).pushCell { cls := cX, slots := kX.instanceTypes.map defaultValue, vm := .none } = T1 at X₁ st1
  have hcat : (Value.ref T.heap.size).category = 1 := rfl
  have hcellA : T1.heap[T.heap.size]? = some (freshCell cX kX) := by rw [← hT1]; exact State.heap_pushCell_size _ _
  have d3' : decode c.code (pc + 3) = .ok (.dup, 1) := by rw [hb]; exact d3
  have d4' : decode c.code (pc + 4) = .ok (.ldc_w is, 3) := by rw [hb]; exact d4
  have hstr' : vk_R own is text sa s' := vk_R.warm hW0 hstr
  obtain ⟨U, hsteps, hrun, hend, hW, hsame, ce, hce, hO⟩ := X₁.ctorThrowS hexec htr (own := own) (cls := cls) (names := names) (ic := ic) hown' hcls hnames h (fun x hx => nomatch hx) hfX hkX hcellA (by rw [hhp, hT]; exact Nat.le_refl _) (msg := .ref sa) rfl
    (g := { method := m, pc := pc + 7, locals := ls, stack := .ref sa :: .ref T.heap.size :: .ref T.heap.size :: rest, locked := none }) rfl hsize rfl rfl (rest := rest) rfl
    (by rw [hb]; exact d7) (by rw [hb]; exact d10) hout hRframes (by simp only [List.map_cons, List.sum_cons, hcat]; omega) hlocks
  obtain ⟨f1, f2⟩ := vx_frame hsame
  rw [hhp] at f1 f2
  have hWs : s.WarmedH U.vm := State.WarmedH.trans hW0 hW
  have hcl : s.vm.findClass cls = some ce.cls := by
    have h9 := hO.cls
    rw [hvm] at h9
    exact h9
  have hall : s.sameButNew ({ U with vm := s.vm } : State) locs mc ms := by
    subst hA
    obtain ⟨e1, e2⟩ := hsame
    rw [State.setFrames_setFrames] at e1
    have h2 : (T.setVm s.vm).sameButNew ({ U with vm := s.vm } : State) [] (0 + 1) (0 + 6) := ⟨e1, e2⟩
    have h3 := X.same.trans h2
    rw [List.append_nil] at h3
    exact h3.mono hc hs
  refine ⟨U, ?_, .threw T.heap.size, hrun, hend, Or.inr ⟨T.heap.size, rfl, cls, ce, locs, hx U hWs.alike f1 (fun q hq => f2 q hq (fun z hz => nomatch hz)), hce, hO.vm, hcl, hWs, hall, hf⟩⟩
  refine st1 _ ?_
  show Steps p.tables e below (T1.setTop { method := m, pc := pc + 3, locals := ls, stack := .ref T.heap.size :: rest, locked := none }) _
  jvm_step X₁.here [X₁.here.top, hexec, d3', Value.category]
  exact X₁.ldcStringW hexec (own := own) (text := text) (index := is) (a := sa) hown' hstr'.1 hstr'.2
    (g := { method := m, pc := pc + 4, locals := ls, stack := .ref T.heap.size :: .ref T.heap.size :: rest, locked := none }) rfl d4' _ hsteps
end Ends
section Bodies
variable {l : Launch}
theorem vx_ofW {y : MethodName} {ws ws' : List Cond} {rm : Room} {Pc : Array Value → State → Prop} {Qc : Array Value → State → Outcome → State → Prop} {XC : String → State → State → Prop} {mc ms : Nat} {free : Addr → Prop} {cc : ByteArray} {maxL : Nat} {ret : Option FieldType}
    (hy : plainName y.cls = true) (hw : ws = Cond.code y cc maxL ret :: ws')
    (body : ∀ p e s m args below meth c s₁, BodyLoose p l y (headSpec ws rm) cc maxL ret e s m args below meth c s₁ → c.maxLocals = maxL → (∀ x ∈ c.exceptionTable.toList, False) → Pc args s →
      W p l e (headSpec ws rm).room s m args below meth c s.heap [] 0 0 (vx_MQ below Qc XC args s mc ms free) (entryFrame m args maxL)) : vx_Met l y ws rm Pc Qc XC mc ms free := by
  refine MetFree.of_bodyS (code := cc) (maxLocals := maxL) (ret := ret) hy ?_ ?_
  · intro args s m h hn
    obtain ⟨meth, c, h1, h2, h3, h4, h5, h6, -, -⟩ := Cond.code_spec hn (atoms_spec (ws := ws) h _ (by rw [hw]; exact List.mem_cons_self))
    exact ⟨meth, c, h1, h2, h3, h4, h5, h6⟩
  · intro p e s m args below meth c s₁ B hml hP _
    have hh0 : s₁.heap = s.heap := by rw [B.state]; rfl
    have ht : ∀ x ∈ c.exceptionTable.toList, False := by
      obtain ⟨meth9, c9, h1, h2, -, -, -, -, h7, -⟩ := Cond.code_spec B.named (atoms_spec (ws := ws) B.pre _ (by rw [hw]; exact List.mem_cons_self))
      cases Option.some.inj (h1.symm.trans B.method)
      cases Option.some.inj (h2.symm.trans (Stand.of_body B).code)
      intro x hx
      rw [Array.isEmpty_iff.mp h7] at hx
      cases hx
    obtain ⟨t, a1, o, b1, b2, b3⟩ := body p e s m args below meth c s₁ B hml ht hP s₁ hh0 (Stand.of_body B)
    exact ⟨t, o, a1, b1, b2, b3⟩
/-- the table of a body with handlers -/
theorem vx_table {p : Program} {x y : MethodName} {S : Spec} {cc bytes : ByteArray} {maxL maxL' : Nat} {ret ret' : Option FieldType} {e : Env} {s s₁ : State} {m : MethodId} {args : Array Value} {below : List Frame} {meth : Method} {c : Code} {hh : List (Nat × Nat × Nat × Nat)}
    (B : BodyLoose p l y S cc maxL ret e s m args below meth c s₁) (h : (Cond.codeWith y bytes maxL' ret' hh).before args s = true) : c.exceptionTable.toList = tableOf hh := by
  obtain ⟨m9, meth9, c9, hn9, h1, h2, -, -, h6, -⟩ := Cond.codeWith_spec h
  cases Option.some.inj (hn9.symm.trans B.named)
  cases Option.some.inj (h1.symm.trans B.method)
  cases Option.some.inj (h2.symm.trans (Stand.of_body B).code)
  rw [← h6, table_eq]
end Bodies
end VXA
/-! ===== END ===== -/
/-! ===== BEGIN a static call of a method with an exception table ===== -/
section VXS
variable {p : Program} {l : Launch} {e : Env} {R : Room} {s : State} {m : MethodId} {args : Array Value} {below : List Frame} {meth : Method} {c : Code} {T : State} {H : Heap} {locs : List Loc} {cells slots : Nat}
abbrev vx_CSW (R : Room) (s : State) (args : Array Value) (own : String) (index : Nat) (y : MethodName) (bytes : ByteArray) (maxL : Nat) (ret : Option FieldType) (hh : List (Nat × Nat × Nat × Nat)) (ws : List Cond) (rm : Room) (mc ms n : Nat) : Prop :=
  (rm.cells = mc ∧ rm.slots = ms ∧ rm.frames + 1 ≤ R.frames ∧ 8 + (maxL + 11) + rm.locals ≤ R.locals ∧ (∀ w ∈ ws, ∀ (a' : Array Value) (U : State), s.WarmedH U.vm → w.before a' U = true) ∧ Cond.codeWith y bytes maxL ret hh ∈ ws) ∧
  (Cond.codeWith y bytes maxL ret hh).before args s = true ∧ (Cond.initialized y.cls).before args s = true ∧ (y.cls ≠ "java/lang/invoke/MethodHandle" ∧ y.cls ≠ "java/lang/invoke/VarHandle") ∧
  (∀ sig, parseMethodDescriptor y.desc = some sig → n = sig.parameters.length) ∧ (Cond.methodLink own index y).before args s = true ∧ (Cond.static y).before args s = true
theorem vx_cwSW {own : String} {index maxL mc ms : Nat} {y : MethodName} {bytes : ByteArray} {ret : Option FieldType} {hh : List (Nat × Nat × Nat × Nat)} {Ts ws ws' : List Cond} {rm : Room} (n : Nat) (ht : ∀ w ∈ Ts, w.before args s = true) (hT : GoodIn Ts (va_wsS own index y ws)) (hw : ws = Cond.codeWith y bytes maxL ret hh :: ws') (hrc : rm.cells = mc) (hrs : rm.slots = ms)
    (hd : y.cls ≠ "java/lang/invoke/MethodHandle" ∧ y.cls ≠ "java/lang/invoke/VarHandle" ∧ (parseMethodDescriptor y.desc).map (fun d => d.parameters.length) = some n) (hR : rm.frames + 1 ≤ R.frames ∧ 8 + (maxL + 11) + rm.locals ≤ R.locals) :
    vx_CSW R s args own index y bytes maxL ret hh ws rm mc ms n := by
  have ok : ∀ w ∈ va_wsS own index y ws, w.before args s = true := fun w h => ht w (hT w h).1
  have hG : GoodIn Ts ws := fun w h => hT w (by unfold va_wsS; exact List.mem_append_right _ h)
  have hc : Cond.codeWith y bytes maxL ret hh ∈ ws := by rw [hw]; exact List.mem_cons_self
  refine ⟨⟨hrc, hrs, hR.1, hR.2, pay_in ht hG, hc⟩, ht _ (hG _ hc).1, ok _ (by simp [va_wsS]), ⟨hd.1, hd.2.1⟩, fun sig h => ?_, ok _ (by simp [va_wsS]), ok _ (by simp [va_wsS])⟩
  have h2 := hd.2.2
  rw [h] at h2
  exact (Option.some.inj h2).symm
theorem vx_callSW (X : Stand p l e R s m args below meth c T locs cells slots) (hexec : p.tables.exec = Jvm.exec) {own : String} {index : Nat} {y : MethodName} {bytes : ByteArray} {maxL : Nat} {ret : Option FieldType} {hh : List (Nat × Nat × Nat × Nat)}
    (hown : s.vm.findClass own = some m.cls) (hlink : (Cond.methodLink own index y).before args s = true) (hstat : (Cond.static y).before args s = true) (hinit : (Cond.initialized y.cls).before args s = true)
    (hcode : (Cond.codeWith y bytes maxL ret hh).before args s = true) (hy : y.cls ≠ "java/lang/invoke/MethodHandle" ∧ y.cls ≠ "java/lang/invoke/VarHandle")
    {W9 : Nat} {Pre : Pt → Array Value → Prop} {Post : Pt → Array Value → Option Value → Pt → Prop} (hK : Back l R p e below s args y 3 W9 Pre Post)
    {g : JFrame} (hg : g.method = m) (hsize : g.locals.size = c.maxLocals) {argsL rest : List Value} (hlen : ∀ sig, parseMethodDescriptor y.desc = some sig → argsL.length = sig.parameters.length)
    (hstack : g.stack = argsL.reverse ++ rest) (hW : 2 * g.monitorRoom + (rest.map fun v => v.category).sum ≤ W9) (hdg : decode c.code g.pc = .ok (.invokestatic index, 3))
    (hpre : ∀ vm₁, s.WarmedH vm₁ → Pre ⟨T.setVm vm₁, locs, cells, slots⟩ argsL.toArray) :
    ∃ (v : Option Value) (vm₁ : Vm) (B : Pt), s.WarmedH vm₁ ∧ Stand p l e R s m args below meth c B.U B.locs B.cells B.slots ∧ Post ⟨T.setVm vm₁, locs, cells, slots⟩ argsL.toArray v B ∧
      ∀ target, Steps p.tables e below (B.U.setTop { g with pc := g.pc + 3, stack := v.toList ++ rest }) target → Steps p.tables e below (T.setTop g) target := by
  obtain ⟨mk, methM, cM, hnamed, hmethM, -, -, -, -, -, -, hsigM⟩ := Cond.codeWith_spec hcode
  have hstatic : methM.isStatic = true := Cond.static_spec hnamed hmethM hstat
  obtain ⟨kP, hkP, -⟩ := className_of_methodNamed hnamed
  have hinitP : kP.init = .initialized := Cond.initialized_spec (findClass_of_methodNamed hnamed) hkP hinit
  obtain ⟨vm₁, X₁, hstep₁⟩ := X.invokestatic hexec hown hlink hnamed hmethM hstatic hkP hinitP hy (g := g) hg (argsL := argsL) (rest := rest) (hlen _ hsigM) hstack hdg
  obtain ⟨v, B, X', hpost, hsteps⟩ := hK m meth c ⟨T.setVm vm₁, locs, cells, slots⟩ { g with stack := rest } (.invokestatic index) mk argsL.toArray X₁ hg hsize hdg hW (X₁.named hnamed) (hpre vm₁ X₁.warmed)
  exact ⟨v, vm₁, B, X₁.warmed, X', hpost, fun target h => hstep₁ _ fun acts => by rw [doInvoke_state]; exact hsteps.trans h⟩
theorem vx_runSW {y : MethodName} {bytes cc : ByteArray} {maxL nL mc ms n index : Nat} {ret : Option FieldType} {hh : List (Nat × Nat × Nat × Nat)} {ws : List Cond} {rm : Room} {Pc : Array Value → State → Prop} {Qc : Array Value → State → Outcome → State → Prop} {free : Addr → Prop} {Ts : List Cond} {own : String} {As rest : List Value} {g : JFrame}
    (S : CallFix p m c cc nL s args Ts own) (hM : Met l y ws rm Pc Qc mc ms free) (cw : vx_CSW R s args own index y bytes maxL ret hh ws rm mc ms n) (hp : PreS s H Pc As)
    (hg : g.method = m) (hn : As.length = n) (hsize : g.locals.size = nL) (hstack : g.stack = As.reverse ++ rest) (hW : 2 * g.monitorRoom + (rest.map fun v => v.category).sum ≤ 8) (hdg : decode cc g.pc = .ok (.invokestatic index, 3)) (hf : cells + mc ≤ R.cells ∧ slots + ms ≤ R.slots) :
    va_Run p l e R s m args below meth c H locs cells slots mc ms g rest (Qc As.toArray) (free) := by
  obtain ⟨⟨hrc, hrs, hfr, hlo, hws, hcw⟩, hcode, hini, hy, hlen, hl, hstt⟩ := cw
  have hK : Back l R p e below s args y 3 8 (PreOf R mc ms Pc) (PostOf Qc mc ms free) := va_backW (hh := hh) (bytes := bytes) (maxL := maxL) (ret := ret) hM hp.1 hrc hrs hfr hlo hws hcw (fun a' U hW => word_at hW (Or.inl (by first | rfl | simp [Cond.onTables, Cond.keeps, Cond.steady])) hini)
  obtain ⟨hx, hb, hml, ho, -⟩ := S
  intro T hT X
  obtain ⟨v, vm₁, ⟨U', l2, c2, s2⟩, hW₁, X', ⟨g', mk, t, L, e1, e2, hq, h1, hL, h2, h3⟩, st⟩ := vx_callSW X hx (hh := hh) (bytes := bytes) (maxL := maxL) (ret := ret) ho hl hstt hini hcode hy hK hg (hsize.trans hml.symm) (argsL := As) (rest := rest) (fun sig h => hn.trans (hlen sig h)) hstack hW (by rw [hb]; exact hdg)
    (fun vm₁ hW₁ => ⟨hf.1, hf.2, hp.2 (T.setVm vm₁) hT hW₁⟩)
  dsimp only [Pt.U, Pt.locs, Pt.cells, Pt.slots] at X' e1 e2 h1 h2 h3 st
  subst h1; subst h2; subst h3
  exact ⟨v, (T.setVm vm₁).calling g' mk As.toArray, t, U', L, hT, X', hL, e1, e2, hq, st⟩
/-- not caught here, past rows that name other classes: it goes on to the caller -/
theorem vx_outP {p : Program} {l : Launch} {e : Env} {R : Room} {s : State} {m : MethodId} {args : Array Value} {below : List Frame} {meth : Method} {c : Code} {H : Heap} {locs : List Loc} {cells slots : Nat} {free : Addr → Prop} {ls : Array Slot} {rest : List Value} {Qc : Array Value → State → Outcome → State → Prop} {XC : String → State → State → Prop}
    {pc : Nat} {own E : String} {ce : Cell} {q : Addr} {mc ms : Nat} (hown : s.vm.findClass own = some m.cls) (hlocks : meth.locks = false)
    (hpass : ∀ z ∈ c.exceptionTable.toList, covers z pc = false ∨ (z.catchType ≠ 0 ∧ ∃ nm : String, (Cond.classLink own z.catchType nm).before args s = true ∧ va_Nc E nm s)) (hcell : H[q]? = some ce) (hv : ce.vm = .none) (hcl : s.vm.findClass E = some ce.cls)
    (hx : ∀ t : State, t.heap = H → s.vm.Alike t.vm → XC E s t) (hf : ∀ z ∈ locs, free z.base) (hc : cells ≤ mc) (hs : slots ≤ ms) :
    vx_W p l e R s m args below meth c H locs cells slots (vx_MQ below Qc XC args s mc ms free) (F0 m pc ls rest) q := by
  intro T hT X
  have hpl : e.platform.magicAccessors = ({} : Platform).magicAccessors := by rw [X.admits.platform]
  obtain ⟨vm', hW', X', st⟩ := X.outThrough hlocks q (g := F0 m pc ls rest) rfl rfl rfl (cell := ce) (by rw [hT]; exact hcell) (by rw [hv]; rfl)
    (by obtain ⟨k9, h9, -⟩ := Vm.findClass_spec hcl; exact ⟨k9, h9⟩) (fun z hz => by
      rcases hpass z hz with h | ⟨hz0, nm, hl1, hn1⟩
      · exact Or.inl h
      · obtain ⟨c6, hc6, hcl6⟩ := Cond.classLink_spec hown hl1 e.platform hpl
        obtain ⟨a8, b8, h1, h2, h3⟩ := hn1
        cases Option.some.inj (h1.symm.trans hcl)
        cases Option.some.inj (h2.symm.trans hc6)
        exact Or.inr ⟨hz0, _, hcl6, h3⟩)
  obtain ⟨g₀, hfr⟩ := X'.frames_eq
  have hcell9 : ((T.setVm vm').setFrames (.throwing q :: below)).heap[q]? = some ce := by
    show T.heap[q]? = some ce
    rw [hT]; exact hcell
  have hend : Ended ((T.setVm vm').setFrames (.throwing q :: below)) below (.threw q) := State.frames_setFrames _ (State.cur_lt_of_frames hfr)
  refine ⟨(T.setVm vm').setFrames (.throwing q :: below), ?_, .threw q, X'.here.running, hend, Or.inr ⟨q, rfl, E, ce, locs, hx _ hT (X'.ends _).1.alike, hcell9, hv, hcl, (X'.ends _).1, (X'.ends _).2.mono hc hs, hf⟩⟩
  rw [X.pushThrowing_eq]
  exact st
/-- a thing of a world lies in the heap -/
theorem vx_lt {D : va_G} {cl : List vw_C} {ws : va_W} {H1 : Heap} (h : va_P D cl ws H1) {k : Nat} {q : Nat × va_E} (hk : ws[k]? = some q) : q.1 < H1.size := (h k q hk).lt
end VXS
/-! ===== END ===== -/
/-! ===== BEGIN methods with a table of their own: called by a name, returning or throwing ===== -/
section VXH
/-! vx_backW, vx_callVX, vx_callSX, vx_callVW, vx_runVW, vx_runVX, vx_runSX, vx_ofWH follow the same proofs as their sisters above (Free/Laws.lean, Shelf42/LK1.lean); vx_outP calls Shelf42/NT130.lean (outThrough). -/
section
variable {l : Launch} {R : Room} {p : Program} {e : Env} {below : List Frame} {s : State} {sargs : Array Value} {y : MethodName} {len W9 : Nat}
theorem vx_backW {ws : List Cond} {rm : Room} {Pc : Array Value → State → Prop} {Qc : Array Value → State → Outcome → State → Prop} {XC : String → State → State → Prop} {mc ms : Nat} {free : Addr → Prop} {bytes : ByteArray} {maxL : Nat} {ret : Option FieldType} {hh : List (Nat × Nat × Nat × Nat)}
    (hM : vx_Met l y ws rm Pc Qc XC mc ms free) (hblind : FrameBlind Pc) (hrc : rm.cells = mc) (hrs : rm.slots = ms)
    (hframes : rm.frames + 1 ≤ R.frames) (hlocals : W9 + (maxL + 11) + rm.locals ≤ R.locals)
    (hws : ∀ w ∈ ws, ∀ a' U, s.WarmedH U.vm → w.before a' U = true) (hcode : Cond.codeWith y bytes maxL ret hh ∈ ws) (hinit : ∀ a' U, s.WarmedH U.vm → (Cond.initialized y.cls).before a' U = true) :
    vx_Back l R p e below s sargs y len W9 (PreOf R mc ms Pc) (PostOf Qc mc ms free) (vx_Post XC mc ms free) := by
  intro m meth c A g ig mk a X hg hsize hdg hW hn hp
  have h1 : (headSpec ws rm).pre.before a A.U = true := atoms_intro fun w hw => hws w hw _ _ X.warmed
  have h2 : (Cond.codeWith y bytes maxL ret hh).before a A.U = true := hws _ hcode _ _ X.warmed
  have h3 : (Cond.initialized y.cls).before a A.U = true := hinit _ _ X.warmed
  have h4 : A.cells + (headSpec ws rm).room.cells ≤ R.cells := by rw [show (headSpec ws rm).room.cells = mc from hrc]; exact hp.1
  have h5 : A.slots + (headSpec ws rm).room.slots ≤ R.slots := by rw [show (headSpec ws rm).room.slots = ms from hrs]; exact hp.2.1
  have hPc : Pc a (A.U.calling g mk a) := hblind _ _ _ _ hp.2.2
  obtain ⟨U, Ls, c0, s0⟩ := A
  dsimp only [Pt.U, Pt.locs, Pt.cells, Pt.slots] at h1 h2 h3 h4 h5 X hn hPc ⊢
  obtain ⟨m9, methY, cY, hn9, hmY, hcY, -, hlY, -⟩ := Cond.codeWith_spec h2
  cases Option.some.inj (hn9.symm.trans hn)
  obtain ⟨kY, hkY, -⟩ := className_of_methodNamed hn
  have hinitY : kY.init = .initialized := Cond.initialized_spec (findClass_of_methodNamed hn) hkY h3
  have h : At U g.method c below := by rw [hg]; exact X.here
  have hlocals9 : W9 + (maxL + 11) + (headSpec ws rm).room.locals ≤ R.locals := hlocals
  have happ : (headSpec ws rm).appliesLoose y e.platform (U.calling g mk a) = true :=
    Spec.appliesLoose_calling (g := g) h hdg hn hkY hinitY
      (X.room_calling (g := g) (R' := (headSpec ws rm).room) hsize hmY hcY hframes (by rw [hlY]; omega) h4 h5) h1
  obtain ⟨mid, hmid⟩ := h.above
  have hfr : (U.setTop g).frames = (.java g :: mid) ++ below := by rw [State.frames_setTop' g h.top, hmid]; rfl
  obtain ⟨o, s₂, hsteps, -, hend, hq⟩ := Steps.callFree hM p X.admits X.cas X.clock (acts := []) hfr happ hPc trivial
  have hq' : vx_Q Qc XC mc ms free a (U.calling g mk a) o s₂ := hq
  rw [State.frames_setTop' g h.top] at hend
  obtain ⟨g₀, hg0⟩ := Option.isSome_iff_exists.mp h.top
  obtain ⟨r, hr⟩ := State.topJava?_eq_some.mp hg0
  have hr' : (({ U with heap := s₂.heap, slotsUsed := s₂.slotsUsed } : State).setVm s₂.vm).frames = .java g₀ :: r := hr
  rcases hq' with ⟨hqc, L, hfe, hL⟩ | ⟨q, rfl, E, ce, L, hx, hce, hcv, hcl, hW₂, hsm, hL⟩
  · obtain ⟨⟨v, rfl⟩, hW₂, e2, q2, q3, q4, q5, q6⟩ := id hfe
    have e3 : s₂ = ({ (U.calling g mk a).setFrames s₂.frames with heap := s₂.heap, slotsUsed := s₂.slotsUsed } : State).setVm s₂.vm := by
      have : s₂ = ({ s₂ with vm := (U.calling g mk a).vm } : State).setVm s₂.vm := rfl
      rw [e2] at this
      exact this
    obtain ⟨c₂, i₂, len₂, hc₂, hd₂, hf₂⟩ := hend
    have hW' : U.WarmedH s₂.vm := hW₂
    have hcc : c₂ = c := by
      have h1 : s₂.code? g.method = U.code? g.method := by
        rw [State.code?_eq, State.code?_eq, hW'.alike.method?]
      exact Option.some.inj (hc₂.symm.trans (h1.trans h.code))
    subst hcc
    have hlen : len₂ = len := by rw [hdg] at hd₂; cases hd₂; rfl
    subst hlen
    have hs₂ : s₂ = (({ U with heap := s₂.heap, slotsUsed := s₂.slotsUsed } : State).setVm s₂.vm).setTop { g with pc := g.pc + len₂, stack := v.toList ++ g.stack } := by
      refine e3.trans ?_
      rw [hf₂, State.calling_eq h.top, State.setFrames_setFrames, State.setTop_of_frames _ hr', hr]
      rfl
    have hsame : U.sameButNew ({ U with heap := s₂.heap, slotsUsed := s₂.slotsUsed } : State) L mc ms := by
      refine ⟨?_, q2, q3, q4, q5, q6⟩
      obtain ⟨t, ht, -⟩ := State.frames_cons hr
      show ({ U with heap := s₂.heap, slotsUsed := s₂.slotsUsed } : State) = { U.setFrames U.frames with heap := s₂.heap, slotsUsed := s₂.slotsUsed }
      rw [State.setFrames_self ht]
    subst hg
    refine Or.inl ⟨v, ⟨(({ U with heap := s₂.heap, slotsUsed := s₂.slotsUsed } : State).setVm s₂.vm), Ls ++ L, c0 + mc, s0 + ms⟩,
      ⟨X.admits, X.cas, X.clock, X.frames, X.room, X.hears, X.method, X.code, (X.here.setHeapUsed s₂.heap s₂.slotsUsed).setVm hW'.alike, X.tail, State.WarmedH.trans X.warmed hW', X.limits, X.bytes, X.same.trans (hsame.setVm s.vm)⟩,
      ⟨g, mk, s₂, L, rfl, rfl, hqc, rfl, hL, rfl, rfl⟩, ?_⟩
    show Steps p.tables e below _ ((({ U with heap := s₂.heap, slotsUsed := s₂.slotsUsed } : State).setVm s₂.vm).setTop { g with pc := g.pc + len₂, stack := v.toList ++ g.stack })
    rw [← hs₂]
    exact hsteps
  · obtain ⟨e2, q2, q3, q4, q5, q6⟩ := id hsm
    have e3 : s₂ = ({ (U.calling g mk a).setFrames s₂.frames with heap := s₂.heap, slotsUsed := s₂.slotsUsed } : State).setVm s₂.vm := by
      have : s₂ = ({ s₂ with vm := (U.calling g mk a).vm } : State).setVm s₂.vm := rfl
      rw [e2] at this
      exact this
    have hf₂ : s₂.frames = .throwing q :: .java g :: U.frames.tail := hend
    have hW' : U.WarmedH s₂.vm := hW₂
    have hs₂ : s₂ = ((({ U with heap := s₂.heap, slotsUsed := s₂.slotsUsed } : State).setVm s₂.vm).setTop g).pushFrame (.throwing q) := by
      refine e3.trans ?_
      rw [hf₂, State.calling_eq h.top, State.setFrames_setFrames, State.pushFrame, State.frames_setTop _ hr', State.setTop_of_frames _ hr', State.setFrames_setFrames, hr]
      rfl
    have hsame : U.sameButNew ({ U with heap := s₂.heap, slotsUsed := s₂.slotsUsed } : State) L mc ms := by
      refine ⟨?_, q2, q3, q4, q5, q6⟩
      obtain ⟨t, ht, -⟩ := State.frames_cons hr
      show ({ U with heap := s₂.heap, slotsUsed := s₂.slotsUsed } : State) = { U.setFrames U.frames with heap := s₂.heap, slotsUsed := s₂.slotsUsed }
      rw [State.setFrames_self ht]
    subst hg
    refine Or.inr ⟨q, ⟨(({ U with heap := s₂.heap, slotsUsed := s₂.slotsUsed } : State).setVm s₂.vm), Ls ++ L, c0 + mc, s0 + ms⟩,
      ⟨X.admits, X.cas, X.clock, X.frames, X.room, X.hears, X.method, X.code, (X.here.setHeapUsed s₂.heap s₂.slotsUsed).setVm hW'.alike, X.tail, State.WarmedH.trans X.warmed hW', X.limits, X.bytes, X.same.trans (hsame.setVm s.vm)⟩,
      ⟨g, mk, s₂, L, E, ce, rfl, rfl, hx, hce, hcv, hcl, rfl, hL, rfl, rfl⟩, ?_⟩
    show Steps p.tables e below _ (((({ U with heap := s₂.heap, slotsUsed := s₂.slotsUsed } : State).setVm s₂.vm).setTop g).pushFrame (.throwing q))
    rw [← hs₂]
    exact hsteps
end
variable {p : Program} {l : Launch} {e : Env} {R : Room} {s : State} {m : MethodId} {args : Array Value} {below : List Frame} {meth : Method} {c : Code} {T : State} {H : Heap} {locs : List Loc} {cells slots : Nat}
theorem vx_callVX (X : Stand p l e R s m args below meth c T locs cells slots) (hexec : p.tables.exec = Jvm.exec) {own C : String} {index : Nat} {y : MethodName} {bytes : ByteArray} {maxL : Nat} {ret : Option FieldType} {hh : List (Nat × Nat × Nat × Nat)}
    (hown : s.vm.findClass own = some m.cls) (hlink : (Cond.methodLink own index y).before args s = true) (hinst : (Cond.instanceMethod y).before args s = true) (hsel : (Cond.selects C y y).before args s = true)
    (hcode : (Cond.codeWith y bytes maxL ret hh).before args s = true) (hy : y.cls ≠ "java/lang/invoke/MethodHandle" ∧ y.cls ≠ "java/lang/invoke/VarHandle")
    {W9 : Nat} {Pre : Pt → Array Value → Prop} {Post : Pt → Array Value → Option Value → Pt → Prop} {PostX : Pt → Array Value → Addr → Pt → Prop} (hK : vx_Back l R p e below s args y 3 W9 Pre Post PostX)
    {b : Addr} {cellB : Cell} (hcell : T.heap[b]? = some cellB) (hobj : cellB.vm.isStatics = false) (hcls : s.vm.findClass C = some cellB.cls)
    {g : JFrame} (hg : g.method = m) (hsize : g.locals.size = c.maxLocals) {argsL rest : List Value} (hlen : ∀ sig, parseMethodDescriptor y.desc = some sig → argsL.length = sig.parameters.length)
    (hstack : g.stack = argsL.reverse ++ .ref b :: rest) (hW : 2 * g.monitorRoom + (rest.map fun v => v.category).sum ≤ W9) (hdg : decode c.code g.pc = .ok (.invokevirtual index, 3))
    (hpre : ∀ vm₁, s.WarmedH vm₁ → Pre ⟨T.setVm vm₁, locs, cells, slots⟩ (Value.ref b :: argsL).toArray) :
    (∃ (v : Option Value) (vm₁ : Vm) (B : Pt), s.WarmedH vm₁ ∧ Stand p l e R s m args below meth c B.U B.locs B.cells B.slots ∧ Post ⟨T.setVm vm₁, locs, cells, slots⟩ (Value.ref b :: argsL).toArray v B ∧
      ∀ target, Steps p.tables e below (B.U.setTop { g with pc := g.pc + 3, stack := v.toList ++ rest }) target → Steps p.tables e below (T.setTop g) target) ∨
    (∃ (q : Addr) (vm₁ : Vm) (B : Pt), s.WarmedH vm₁ ∧ Stand p l e R s m args below meth c B.U B.locs B.cells B.slots ∧ PostX ⟨T.setVm vm₁, locs, cells, slots⟩ (Value.ref b :: argsL).toArray q B ∧
      Steps p.tables e below (T.setTop g) ((B.U.setTop { g with stack := rest }).pushFrame (.throwing q))) := by
  obtain ⟨mk, methM, hnamed, hmethM, hstM, habM⟩ := Cond.instanceMethod_spec hinst
  obtain ⟨m8, methM', cM, hn8, hmethM', -, -, -, -, -, -, hsigM⟩ := Cond.codeWith_spec hcode
  cases Option.some.inj (hn8.symm.trans hnamed)
  cases hmethM.symm.trans hmethM'
  obtain ⟨c2, r2, m2, q1, q2, q3, q4, kP, hkP, hkPi⟩ := Cond.selects_spec hsel
  cases hcls.symm.trans q1
  cases (State.methodFound?_of_named hnamed hy).symm.trans q2
  cases hnamed.symm.trans q3
  have hselP : selectMethod e.platform s.vm cellB.cls mk = .method mk := by rw [Launch.admits_selectMethod X.admits]; exact q4
  obtain ⟨vm₁, X₁, hstep₁⟩ := X.invokevirtual hexec hown hlink hnamed hmethM hstM hkP hkPi hy (a := b) (cell := cellB) hcell
    (fun z h => by rw [h] at hobj; cases hobj) hselP hmethM habM hkP hkPi (g := g) hg (argsL := argsL) (rest := rest) (hlen _ hsigM) hstack hdg
  rcases hK m meth c ⟨T.setVm vm₁, locs, cells, slots⟩ { g with stack := rest } (.invokevirtual index) mk (Value.ref b :: argsL).toArray X₁ hg hsize hdg hW (X₁.named hnamed) (hpre vm₁ X₁.warmed) with ⟨v, B, X', hpost, hsteps⟩ | ⟨q, B, X', hpost, hsteps⟩
  · exact Or.inl ⟨v, vm₁, B, X₁.warmed, X', hpost, fun target h => hstep₁ _ fun acts => by rw [doInvoke_state]; exact hsteps.trans h⟩
  · exact Or.inr ⟨q, vm₁, B, X₁.warmed, X', hpost, hstep₁ _ fun acts => by rw [doInvoke_state]; exact hsteps⟩
theorem vx_callSX (X : Stand p l e R s m args below meth c T locs cells slots) (hexec : p.tables.exec = Jvm.exec) {own : String} {index : Nat} {y : MethodName} {bytes : ByteArray} {maxL : Nat} {ret : Option FieldType} {hh : List (Nat × Nat × Nat × Nat)}
    (hown : s.vm.findClass own = some m.cls) (hlink : (Cond.methodLink own index y).before args s = true) (hstat : (Cond.static y).before args s = true) (hinit : (Cond.initialized y.cls).before args s = true)
    (hcode : (Cond.codeWith y bytes maxL ret hh).before args s = true) (hy : y.cls ≠ "java/lang/invoke/MethodHandle" ∧ y.cls ≠ "java/lang/invoke/VarHandle")
    {W9 : Nat} {Pre : Pt → Array Value → Prop} {Post : Pt → Array Value → Option Value → Pt → Prop} {PostX : Pt → Array Value → Addr → Pt → Prop} (hK : vx_Back l R p e below s args y 3 W9 Pre Post PostX)
    {g : JFrame} (hg : g.method = m) (hsize : g.locals.size = c.maxLocals) {argsL rest : List Value} (hlen : ∀ sig, parseMethodDescriptor y.desc = some sig → argsL.length = sig.parameters.length)
    (hstack : g.stack = argsL.reverse ++ rest) (hW : 2 * g.monitorRoom + (rest.map fun v => v.category).sum ≤ W9) (hdg : decode c.code g.pc = .ok (.invokestatic index, 3))
    (hpre : ∀ vm₁, s.WarmedH vm₁ → Pre ⟨T.setVm vm₁, locs, cells, slots⟩ argsL.toArray) :
    (∃ (v : Option Value) (vm₁ : Vm) (B : Pt), s.WarmedH vm₁ ∧ Stand p l e R s m args below meth c B.U B.locs B.cells B.slots ∧ Post ⟨T.setVm vm₁, locs, cells, slots⟩ argsL.toArray v B ∧
      ∀ target, Steps p.tables e below (B.U.setTop { g with pc := g.pc + 3, stack := v.toList ++ rest }) target → Steps p.tables e below (T.setTop g) target) ∨
    (∃ (q : Addr) (vm₁ : Vm) (B : Pt), s.WarmedH vm₁ ∧ Stand p l e R s m args below meth c B.U B.locs B.cells B.slots ∧ PostX ⟨T.setVm vm₁, locs, cells, slots⟩ argsL.toArray q B ∧
      Steps p.tables e below (T.setTop g) ((B.U.setTop { g with stack := rest }).pushFrame (.throwing q))) := by
  obtain ⟨mk, methM, cM, hnamed, hmethM, -, -, -, -, -, -, hsigM⟩ := Cond.codeWith_spec hcode
  have hstatic : methM.isStatic = true := Cond.static_spec hnamed hmethM hstat
  obtain ⟨kP, hkP, -⟩ := className_of_methodNamed hnamed
  have hinitP : kP.init = .initialized := Cond.initialized_spec (findClass_of_methodNamed hnamed) hkP hinit
  obtain ⟨vm₁, X₁, hstep₁⟩ := X.invokestatic hexec hown hlink hnamed hmethM hstatic hkP hinitP hy (g := g) hg (argsL := argsL) (rest := rest) (hlen _ hsigM) hstack hdg
  rcases hK m meth c ⟨T.setVm vm₁, locs, cells, slots⟩ { g with stack := rest } (.invokestatic index) mk argsL.toArray X₁ hg hsize hdg hW (X₁.named hnamed) (hpre vm₁ X₁.warmed) with ⟨v, B, X', hpost, hsteps⟩ | ⟨q, B, X', hpost, hsteps⟩
  · exact Or.inl ⟨v, vm₁, B, X₁.warmed, X', hpost, fun target h => hstep₁ _ fun acts => by rw [doInvoke_state]; exact hsteps.trans h⟩
  · exact Or.inr ⟨q, vm₁, B, X₁.warmed, X', hpost, hstep₁ _ fun acts => by rw [doInvoke_state]; exact hsteps⟩
theorem vx_callVW (X : Stand p l e R s m args below meth c T locs cells slots) (hexec : p.tables.exec = Jvm.exec) {own C : String} {index : Nat} {y : MethodName} {bytes : ByteArray} {maxL : Nat} {ret : Option FieldType} {hh : List (Nat × Nat × Nat × Nat)}
    (hown : s.vm.findClass own = some m.cls) (hlink : (Cond.methodLink own index y).before args s = true) (hinst : (Cond.instanceMethod y).before args s = true) (hsel : (Cond.selects C y y).before args s = true)
    (hcode : (Cond.codeWith y bytes maxL ret hh).before args s = true) (hy : y.cls ≠ "java/lang/invoke/MethodHandle" ∧ y.cls ≠ "java/lang/invoke/VarHandle")
    {W9 : Nat} {Pre : Pt → Array Value → Prop} {Post : Pt → Array Value → Option Value → Pt → Prop} (hK : Back l R p e below s args y 3 W9 Pre Post)
    {b : Addr} {cellB : Cell} (hcell : T.heap[b]? = some cellB) (hobj : cellB.vm.isStatics = false) (hcls : s.vm.findClass C = some cellB.cls)
    {g : JFrame} (hg : g.method = m) (hsize : g.locals.size = c.maxLocals) {argsL rest : List Value} (hlen : ∀ sig, parseMethodDescriptor y.desc = some sig → argsL.length = sig.parameters.length)
    (hstack : g.stack = argsL.reverse ++ .ref b :: rest) (hW : 2 * g.monitorRoom + (rest.map fun v => v.category).sum ≤ W9) (hdg : decode c.code g.pc = .ok (.invokevirtual index, 3))
    (hpre : ∀ vm₁, s.WarmedH vm₁ → Pre ⟨T.setVm vm₁, locs, cells, slots⟩ (Value.ref b :: argsL).toArray) :
    ∃ (v : Option Value) (vm₁ : Vm) (B : Pt), s.WarmedH vm₁ ∧ Stand p l e R s m args below meth c B.U B.locs B.cells B.slots ∧ Post ⟨T.setVm vm₁, locs, cells, slots⟩ (Value.ref b :: argsL).toArray v B ∧
      ∀ target, Steps p.tables e below (B.U.setTop { g with pc := g.pc + 3, stack := v.toList ++ rest }) target → Steps p.tables e below (T.setTop g) target := by
  obtain ⟨mk, methM, hnamed, hmethM, hstM, habM⟩ := Cond.instanceMethod_spec hinst
  obtain ⟨m8, methM', cM, hn8, hmethM', -, -, -, -, -, -, hsigM⟩ := Cond.codeWith_spec hcode
  cases Option.some.inj (hn8.symm.trans hnamed)
  cases hmethM.symm.trans hmethM'
  obtain ⟨c2, r2, m2, q1, q2, q3, q4, kP, hkP, hkPi⟩ := Cond.selects_spec hsel
  cases hcls.symm.trans q1
  cases (State.methodFound?_of_named hnamed hy).symm.trans q2
  cases hnamed.symm.trans q3
  have hselP : selectMethod e.platform s.vm cellB.cls mk = .method mk := by rw [Launch.admits_selectMethod X.admits]; exact q4
  obtain ⟨vm₁, X₁, hstep₁⟩ := X.invokevirtual hexec hown hlink hnamed hmethM hstM hkP hkPi hy (a := b) (cell := cellB) hcell
    (fun z h => by rw [h] at hobj; cases hobj) hselP hmethM habM hkP hkPi (g := g) hg (argsL := argsL) (rest := rest) (hlen _ hsigM) hstack hdg
  obtain ⟨v, B, X', hpost, hsteps⟩ := hK m meth c ⟨T.setVm vm₁, locs, cells, slots⟩ { g with stack := rest } (.invokevirtual index) mk (Value.ref b :: argsL).toArray X₁ hg hsize hdg hW (X₁.named hnamed) (hpre vm₁ X₁.warmed)
  exact ⟨v, vm₁, B, X₁.warmed, X', hpost, fun target h => hstep₁ _ fun acts => by rw [doInvoke_state]; exact hsteps.trans h⟩
abbrev vx_CVW (R : Room) (s : State) (args : Array Value) (own C : String) (index : Nat) (y : MethodName) (bytes : ByteArray) (maxL : Nat) (ret : Option FieldType) (hh : List (Nat × Nat × Nat × Nat)) (ws : List Cond) (rm : Room) (mc ms n : Nat) : Prop :=
  (rm.cells = mc ∧ rm.slots = ms ∧ rm.frames + 1 ≤ R.frames ∧ 8 + (maxL + 11) + rm.locals ≤ R.locals ∧ (∀ w ∈ ws, ∀ (a' : Array Value) (U : State), s.WarmedH U.vm → w.before a' U = true) ∧ Cond.codeWith y bytes maxL ret hh ∈ ws) ∧
  (Cond.codeWith y bytes maxL ret hh).before args s = true ∧ (Cond.initialized y.cls).before args s = true ∧ (y.cls ≠ "java/lang/invoke/MethodHandle" ∧ y.cls ≠ "java/lang/invoke/VarHandle") ∧
  (∀ sig, parseMethodDescriptor y.desc = some sig → n = sig.parameters.length) ∧ (Cond.methodLink own index y).before args s = true ∧ (Cond.instanceMethod y).before args s = true ∧ (Cond.selects C y y).before args s = true
theorem vx_cwVW {own C : String} {index maxL mc ms : Nat} {y : MethodName} {bytes : ByteArray} {ret : Option FieldType} {hh : List (Nat × Nat × Nat × Nat)} {Ts ws ws' : List Cond} {rm : Room} (n : Nat) (ht : ∀ w ∈ Ts, w.before args s = true) (hT : GoodIn Ts (wsV own index C y ws)) (hw : ws = Cond.codeWith y bytes maxL ret hh :: ws') (hrc : rm.cells = mc) (hrs : rm.slots = ms)
    (hd : y.cls = C ∧ y.cls ≠ "java/lang/invoke/MethodHandle" ∧ y.cls ≠ "java/lang/invoke/VarHandle" ∧ (parseMethodDescriptor y.desc).map (fun d => d.parameters.length) = some n) (hR : rm.frames + 1 ≤ R.frames ∧ 8 + (maxL + 11) + rm.locals ≤ R.locals) :
    vx_CVW R s args own C index y bytes maxL ret hh ws rm mc ms n := by
  obtain ⟨hC, hd⟩ := hd
  subst hC
  have ok : ∀ w ∈ wsV own index y.cls y ws, w.before args s = true := fun w h => ht w (hT w h).1
  have hG : GoodIn Ts ws := fun w h => hT w (by unfold wsV; exact List.mem_append_right _ h)
  have hc : Cond.codeWith y bytes maxL ret hh ∈ ws := by rw [hw]; exact List.mem_cons_self
  refine ⟨⟨hrc, hrs, hR.1, hR.2, pay_in ht hG, hc⟩, ht _ (hG _ hc).1, ok _ (by simp [wsV]), ⟨hd.1, hd.2.1⟩, fun sig h => ?_, ok _ (by simp [wsV]), ok _ (by simp [wsV]), ok _ (by simp [wsV])⟩
  have h2 := hd.2.2
  rw [h] at h2
  exact (Option.some.inj h2).symm
theorem vx_runVW {y : MethodName} {bytes cc : ByteArray} {maxL nL mc ms n index : Nat} {ret : Option FieldType} {hh : List (Nat × Nat × Nat × Nat)} {ws : List Cond} {rm : Room} {Pc : Array Value → State → Prop} {Qc : Array Value → State → Outcome → State → Prop} {free : Addr → Prop} {Ts : List Cond} {own C : String} {b : Addr} {As rest : List Value} {g : JFrame}
    (S : CallFix p m c cc nL s args Ts own) (hM : Met l y ws rm Pc Qc mc ms free) (cw : vx_CVW R s args own C index y bytes maxL ret hh ws rm mc ms n) (hp : PreV s H C b Pc As)
    (hg : g.method = m) (hn : As.length = n) (hsize : g.locals.size = nL) (hstack : g.stack = As.reverse ++ .ref b :: rest) (hW : 2 * g.monitorRoom + (rest.map fun v => v.category).sum ≤ 8) (hdg : decode cc g.pc = .ok (.invokevirtual index, 3)) (hf : cells + mc ≤ R.cells ∧ slots + ms ≤ R.slots) :
    va_Run p l e R s m args below meth c H locs cells slots mc ms g rest (Qc (Value.ref b :: As).toArray) free := by
  obtain ⟨⟨hrc, hrs, hfr, hlo, hws, hcw⟩, hcode, hini, hy, hlen, hl, hin, hse⟩ := cw
  have hK : Back l R p e below s args y 3 8 (PreOf R mc ms Pc) (PostOf Qc mc ms free) := va_backW (hh := hh) (bytes := bytes) (maxL := maxL) (ret := ret) hM hp.1 hrc hrs hfr hlo hws hcw (fun a' U hW => word_at hW (Or.inl (by first | rfl | simp [Cond.onTables, Cond.keeps, Cond.steady])) hini)
  obtain ⟨hx, hb, hml, ho, -⟩ := S
  obtain ⟨-, ⟨cellB, hcB, hoB, hclB⟩, hPc⟩ := hp
  intro T hT X
  obtain ⟨v, vm₁, ⟨U', l2, c2, s2⟩, hW₁, X', ⟨g', mk, t, L, e1, e2, hq, h1, hL, h2, h3⟩, st⟩ := vx_callVW X hx (C := C) (hh := hh) (bytes := bytes) (maxL := maxL) (ret := ret) ho hl hin hse hcode hy hK (by rw [hT]; exact hcB) hoB hclB hg (hsize.trans hml.symm) (argsL := As) (rest := rest) (fun sig h => hn.trans (hlen sig h)) hstack hW (by rw [hb]; exact hdg)
    (fun vm₁ hW₁ => ⟨hf.1, hf.2, hPc (T.setVm vm₁) hT hW₁⟩)
  dsimp only [Pt.U, Pt.locs, Pt.cells, Pt.slots] at X' e1 e2 h1 h2 h3 st
  subst h1; subst h2; subst h3
  exact ⟨v, (T.setVm vm₁).calling g' mk (Value.ref b :: As).toArray, t, U', L, hT, X', hL, e1, e2, hq, st⟩
section
variable {y : MethodName} {bytes cc : ByteArray} {maxL nL mc ms n index : Nat} {ret : Option FieldType} {ws : List Cond} {rm : Room} {Pc : Array Value → State → Prop} {Qc : Array Value → State → Outcome → State → Prop} {XC : String → State → State → Prop} {free : Addr → Prop} {Ts : List Cond} {own C : String} {b : Addr} {As rest : List Value} {g : JFrame}
theorem vx_runVX {hh : List (Nat × Nat × Nat × Nat)} (S : CallFix p m c cc nL s args Ts own) (hM : vx_Met l y ws rm Pc Qc XC mc ms free) (cw : vx_CVW R s args own C index y bytes maxL ret hh ws rm mc ms n) (hp : PreV s H C b Pc As)
    (hg : g.method = m) (hn : As.length = n) (hsize : g.locals.size = nL) (hstack : g.stack = As.reverse ++ .ref b :: rest) (hW : 2 * g.monitorRoom + (rest.map fun v => v.category).sum ≤ 8) (hdg : decode cc g.pc = .ok (.invokevirtual index, 3)) (hf : cells + mc ≤ R.cells ∧ slots + ms ≤ R.slots) :
    vx_Run p l e R s m args below meth c H locs cells slots mc ms g rest (Qc (Value.ref b :: As).toArray) XC free := by
  obtain ⟨⟨hrc, hrs, hfr, hlo, hws, hcw⟩, hcode, hini, hy, hlen, hl, hin, hse⟩ := cw
  have hK : vx_Back l R p e below s args y 3 8 (PreOf R mc ms Pc) (PostOf Qc mc ms free) (vx_Post XC mc ms free) := vx_backW (hh := hh) (bytes := bytes) (maxL := maxL) (ret := ret) hM hp.1 hrc hrs hfr hlo hws hcw (fun a' U hW => word_at hW (Or.inl (by first | rfl | simp [Cond.onTables, Cond.keeps, Cond.steady])) hini)
  obtain ⟨hx, hb, hml, ho, -⟩ := S
  obtain ⟨-, ⟨cellB, hcB, hoB, hclB⟩, hPc⟩ := hp
  intro T hT X
  rcases vx_callVX X hx (C := C) (hh := hh) (bytes := bytes) (maxL := maxL) (ret := ret) ho hl hin hse hcode hy hK (by rw [hT]; exact hcB) hoB hclB hg (hsize.trans hml.symm) (argsL := As) (rest := rest) (fun sig h => hn.trans (hlen sig h)) hstack hW (by rw [hb]; exact hdg)
    (fun vm₁ hW₁ => ⟨hf.1, hf.2, hPc (T.setVm vm₁) hT hW₁⟩) with ⟨v, vm₁, ⟨U', l2, c2, s2⟩, hW₁, X', ⟨g', mk, t, L, e1, e2, hq, h1, hL, h2, h3⟩, st⟩ | ⟨q, vm₁, ⟨U', l2, c2, s2⟩, hW₁, X', ⟨g', mk, t, L, E, ce, e1, e2, hq, hce, hcv, hcl, h1, hL, h2, h3⟩, st⟩
  · dsimp only [Pt.U, Pt.locs, Pt.cells, Pt.slots] at X' e1 e2 h1 h2 h3 st
    subst h1; subst h2; subst h3
    exact Or.inl ⟨v, (T.setVm vm₁).calling g' mk (Value.ref b :: As).toArray, t, U', L, hT, X', hL, e1, e2, hq, st⟩
  · dsimp only [Pt.U, Pt.locs, Pt.cells, Pt.slots] at X' e1 e2 h1 h2 h3 st hcl
    subst h1; subst h2; subst h3
    exact Or.inr ⟨q, (T.setVm vm₁).calling g' mk (Value.ref b :: As).toArray, t, U', L, E, ce, hT, X', hL, e1, e2, hq, hce, hcv, vx_cls hW₁ hcl, st⟩
theorem vx_runSX {hh : List (Nat × Nat × Nat × Nat)} (S : CallFix p m c cc nL s args Ts own) (hM : vx_Met l y ws rm Pc Qc XC mc ms free) (cw : vx_CSW R s args own index y bytes maxL ret hh ws rm mc ms n) (hp : PreS s H Pc As)
    (hg : g.method = m) (hn : As.length = n) (hsize : g.locals.size = nL) (hstack : g.stack = As.reverse ++ rest) (hW : 2 * g.monitorRoom + (rest.map fun v => v.category).sum ≤ 8) (hdg : decode cc g.pc = .ok (.invokestatic index, 3)) (hf : cells + mc ≤ R.cells ∧ slots + ms ≤ R.slots) :
    vx_Run p l e R s m args below meth c H locs cells slots mc ms g rest (Qc As.toArray) XC free := by
  obtain ⟨⟨hrc, hrs, hfr, hlo, hws, hcw⟩, hcode, hini, hy, hlen, hl, hstt⟩ := cw
  have hK : vx_Back l R p e below s args y 3 8 (PreOf R mc ms Pc) (PostOf Qc mc ms free) (vx_Post XC mc ms free) := vx_backW (hh := hh) (bytes := bytes) (maxL := maxL) (ret := ret) hM hp.1 hrc hrs hfr hlo hws hcw (fun a' U hW => word_at hW (Or.inl (by first | rfl | simp [Cond.onTables, Cond.keeps, Cond.steady])) hini)
  obtain ⟨hx, hb, hml, ho, -⟩ := S
  intro T hT X
  rcases vx_callSX X hx (hh := hh) (bytes := bytes) (maxL := maxL) (ret := ret) ho hl hstt hini hcode hy hK hg (hsize.trans hml.symm) (argsL := As) (rest := rest) (fun sig h => hn.trans (hlen sig h)) hstack hW (by rw [hb]; exact hdg)
    (fun vm₁ hW₁ => ⟨hf.1, hf.2, hp.2 (T.setVm vm₁) hT hW₁⟩) with ⟨v, vm₁, ⟨U', l2, c2, s2⟩, hW₁, X', ⟨g', mk, t, L, e1, e2, hq, h1, hL, h2, h3⟩, st⟩ | ⟨q, vm₁, ⟨U', l2, c2, s2⟩, hW₁, X', ⟨g', mk, t, L, E, ce, e1, e2, hq, hce, hcv, hcl, h1, hL, h2, h3⟩, st⟩
  · dsimp only [Pt.U, Pt.locs, Pt.cells, Pt.slots] at X' e1 e2 h1 h2 h3 st
    subst h1; subst h2; subst h3
    exact Or.inl ⟨v, (T.setVm vm₁).calling g' mk As.toArray, t, U', L, hT, X', hL, e1, e2, hq, st⟩
  · dsimp only [Pt.U, Pt.locs, Pt.cells, Pt.slots] at X' e1 e2 h1 h2 h3 st hcl
    subst h1; subst h2; subst h3
    exact Or.inr ⟨q, (T.setVm vm₁).calling g' mk As.toArray, t, U', L, E, ce, hT, X', hL, e1, e2, hq, hce, hcv, vx_cls hW₁ hcl, st⟩
end
end VXH
theorem vx_ofWH {l : Launch} {y : MethodName} {ws ws' : List Cond} {rm : Room} {Pc : Array Value → State → Prop} {Qc : Array Value → State → Outcome → State → Prop} {XC : String → State → State → Prop} {mc ms : Nat} {free : Addr → Prop} {cc : ByteArray} {maxL : Nat} {ret : Option FieldType} {hh : List (Nat × Nat × Nat × Nat)}
    (hy : plainName y.cls = true) (hw : ws = Cond.codeWith y cc maxL ret hh :: ws')
    (body : ∀ p e s m args below meth c s₁, BodyLoose p l y (headSpec ws rm) cc maxL ret e s m args below meth c s₁ → c.maxLocals = maxL → Pc args s →
      W p l e (headSpec ws rm).room s m args below meth c s.heap [] 0 0 (vx_MQ below Qc XC args s mc ms free) (entryFrame m args maxL)) : vx_Met l y ws rm Pc Qc XC mc ms free := by
  refine MetFree.of_bodyS (code := cc) (maxLocals := maxL) (ret := ret) hy ?_ ?_
  · intro args s m h hn
    obtain ⟨m9, meth, c, hn9, h1, h2, h3, h4, -, h5, h6, -⟩ := Cond.codeWith_spec (atoms_spec (ws := ws) h _ (by rw [hw]; exact List.mem_cons_self))
    cases hn.symm.trans hn9
    exact ⟨meth, c, h1, h2, h3, h4, h5, h6⟩
  · intro p e s m args below meth c s₁ B hml hP _
    have hh0 : s₁.heap = s.heap := by rw [B.state]; rfl
    obtain ⟨t, a1, o, b1, b2, b3⟩ := body p e s m args below meth c s₁ B hml hP s₁ hh0 (Stand.of_body B)
    exact ⟨t, o, a1, b1, b2, b3⟩
/-! ===== END ===== -/
end
section
/-! ===== BEGIN printed: names, fields, word lists, decode rows ===== -/
def RX0 : String := "DipLights$Book"
def TX0 : u_T := fun k => match k with
  | 0 => ("DipLights$Book", "tenth", "[I", true)
  | 1 => ("DipLights$Book", "full", "[I", true)
  | _ => ("DipLights$Book", "lines", "I", false)
def tyX0 : Nat → FieldType := fun k => match k with
  | 0 => .array .int
  | 1 => .array .int
  | _ => .int
abbrev wsX00 : List Cond := u_ws RX0 TX0 3
theorem nmX0 : ∀ a, a < 3 → ∀ b, b < 3 → a ≠ b → (TX0 a).2.1 ≠ (TX0 b).2.1 := by decide +kernel
theorem tyX0_ok : ∀ k, k < 3 → parseFieldDescriptor (TX0 k).2.2.1 = some (tyX0 k) := by decide +kernel
abbrev cX0_init : ByteArray := prog_2_method_1_code
def yX0_init : MethodName := ⟨RX0, "<init>", "()V"⟩
abbrev cX0_readFrom : ByteArray := prog_2_method_2_code
def yX0_readFrom : MethodName := ⟨RX0, "readFrom", "(LDipLights$Tape;)Z"⟩
abbrev cX0_readLine : ByteArray := prog_2_method_3_code
def yX0_readLine : MethodName := ⟨RX0, "readLine", "(LDipLights$Tape;)Z"⟩
abbrev cX0_tells : ByteArray := prog_2_method_4_code
def yX0_tells : MethodName := ⟨RX0, "tells", "(I)Z"⟩
def RX1 : String := "DipLights$Changes"
def TX1 : u_T := fun k => match k with
  | 0 => ("DipLights$Changes", "kind", "[I", true)
  | 1 => ("DipLights$Changes", "who", "[I", true)
  | 2 => ("DipLights$Changes", "firstBefore", "[I", true)
  | 3 => ("DipLights$Changes", "secondBefore", "[I", true)
  | 4 => ("DipLights$Changes", "many", "I", false)
  | 5 => ("DipLights$Changes", "kept", "[[I", true)
  | 6 => ("DipLights$Changes", "keptMany", "[I", true)
  | _ => ("DipLights$Changes", "images", "I", false)
def tyX1 : Nat → FieldType := fun k => match k with
  | 0 => .array .int
  | 1 => .array .int
  | 2 => .array .int
  | 3 => .array .int
  | 4 => .int
  | 5 => .array (.array .int)
  | 6 => .array .int
  | _ => .int
abbrev wsX10 : List Cond := u_ws RX1 TX1 8
theorem nmX1 : ∀ a, a < 8 → ∀ b, b < 8 → a ≠ b → (TX1 a).2.1 ≠ (TX1 b).2.1 := by decide +kernel
theorem tyX1_ok : ∀ k, k < 8 → parseFieldDescriptor (TX1 k).2.2.1 = some (tyX1 k) := by decide +kernel
abbrev cX1_init : ByteArray := prog_3_method_1_code
def yX1_init : MethodName := ⟨RX1, "<init>", "()V"⟩
abbrev cX1_forgetAll : ByteArray := prog_3_method_2_code
def yX1_forgetAll : MethodName := ⟨RX1, "forgetAll", "()V"⟩
abbrev cX1_make : ByteArray := prog_3_method_3_code
def yX1_make : MethodName := ⟨RX1, "make", "(LDipLights$Road;IIII)Z"⟩
abbrev cX1_takeBack : ByteArray := prog_3_method_4_code
def yX1_takeBack : MethodName := ⟨RX1, "takeBack", "(LDipLights$Road;)Z"⟩
abbrev cX1_firstOf : ByteArray := prog_3_method_5_code
def yX1_firstOf : MethodName := ⟨RX1, "firstOf", "(LDipLights$Road;II)I"⟩
abbrev cX1_secondOf : ByteArray := prog_3_method_6_code
def yX1_secondOf : MethodName := ⟨RX1, "secondOf", "(LDipLights$Road;II)I"⟩
abbrev cX1_put : ByteArray := prog_3_method_7_code
def yX1_put : MethodName := ⟨RX1, "put", "(LDipLights$Road;IIII)V"⟩
abbrev cX1_keepImage : ByteArray := prog_3_method_8_code
def yX1_keepImage : MethodName := ⟨RX1, "keepImage", "(LDipLights$Road;)Z"⟩
abbrev cX1_bringBack : ByteArray := prog_3_method_9_code
def yX1_bringBack : MethodName := ⟨RX1, "bringBack", "(LDipLights$Road;)Z"⟩
abbrev cX1_copyTo : ByteArray := prog_3_method_10_code
def yX1_copyTo : MethodName := ⟨RX1, "copyTo", "([II[I)I"⟩
abbrev cX1_copyFrom : ByteArray := prog_3_method_11_code
def yX1_copyFrom : MethodName := ⟨RX1, "copyFrom", "([II[I)I"⟩
def RX2 : String := "DipLights$Formula"
def TX2 : u_T := fun k => match k with
  | 0 => ("DipLights$Formula", "steps", "[I", true)
  | 1 => ("DipLights$Formula", "size", "I", false)
  | _ => ("DipLights$Formula", "stack", "[I", true)
def tyX2 : Nat → FieldType := fun k => match k with
  | 0 => .array .int
  | 1 => .int
  | _ => .array .int
abbrev wsX20 : List Cond := u_ws RX2 TX2 3
theorem nmX2 : ∀ a, a < 3 → ∀ b, b < 3 → a ≠ b → (TX2 a).2.1 ≠ (TX2 b).2.1 := by decide +kernel
theorem tyX2_ok : ∀ k, k < 3 → parseFieldDescriptor (TX2 k).2.2.1 = some (tyX2 k) := by decide +kernel
abbrev cX2_init : ByteArray := prog_4_method_1_code
def yX2_init : MethodName := ⟨RX2, "<init>", "()V"⟩
abbrev cX2_add : ByteArray := prog_4_method_2_code
def yX2_add : MethodName := ⟨RX2, "add", "(I)V"⟩
abbrev cX2_becomeUsualLaw : ByteArray := prog_4_method_3_code
def yX2_becomeUsualLaw : MethodName := ⟨RX2, "becomeUsualLaw", "()V"⟩
abbrev cX2_becomeUsualRule : ByteArray := prog_4_method_4_code
def yX2_becomeUsualRule : MethodName := ⟨RX2, "becomeUsualRule", "()V"⟩
abbrev cX2_readFrom : ByteArray := prog_4_method_5_code
def yX2_readFrom : MethodName := ⟨RX2, "readFrom", "(LDipLights$Tape;)Z"⟩
abbrev cX2_readSum : ByteArray := prog_4_method_6_code
def yX2_readSum : MethodName := ⟨RX2, "readSum", "(LDipLights$Tape;I)Z"⟩
abbrev cX2_readProduct : ByteArray := prog_4_method_7_code
def yX2_readProduct : MethodName := ⟨RX2, "readProduct", "(LDipLights$Tape;I)Z"⟩
abbrev cX2_readUnit : ByteArray := prog_4_method_8_code
def yX2_readUnit : MethodName := ⟨RX2, "readUnit", "(LDipLights$Tape;I)Z"⟩
abbrev cX2_readPair : ByteArray := prog_4_method_9_code
def yX2_readPair : MethodName := ⟨RX2, "readPair", "(LDipLights$Tape;II)Z"⟩
abbrev cX2_variableOf : ByteArray := prog_4_method_10_code
def yX2_variableOf : MethodName := ⟨RX2, "variableOf", "(LDipLights$Tape;)I"⟩
abbrev cX2_variableOfMeeting : ByteArray := prog_4_method_11_code
def yX2_variableOfMeeting : MethodName := ⟨RX2, "variableOfMeeting", "(LDipLights$Tape;)I"⟩
abbrev cX2_valueBy : ByteArray := prog_4_method_12_code
def yX2_valueBy : MethodName := ⟨RX2, "valueBy", "([I)I"⟩
abbrev cX2_variableBy : ByteArray := prog_4_method_13_code
def yX2_variableBy : MethodName := ⟨RX2, "variableBy", "([II)I"⟩
abbrev cX2_joined : ByteArray := prog_4_method_14_code
def yX2_joined : MethodName := ⟨RX2, "joined", "(III)I"⟩
def RX3 : String := "DipLights$Game"
def TX3 : u_T := fun k => match k with
  | 0 => ("DipLights$Game", "costs0", "[I", true)
  | _ => ("DipLights$Game", "costs1", "[I", true)
def tyX3 : Nat → FieldType := fun k => match k with
  | 0 => .array .int
  | _ => .array .int
abbrev wsX30 : List Cond := u_ws RX3 TX3 2
theorem nmX3 : ∀ a, a < 2 → ∀ b, b < 2 → a ≠ b → (TX3 a).2.1 ≠ (TX3 b).2.1 := by decide +kernel
theorem tyX3_ok : ∀ k, k < 2 → parseFieldDescriptor (TX3 k).2.2.1 = some (tyX3 k) := by decide +kernel
abbrev cX3_init : ByteArray := prog_5_method_1_code
def yX3_init : MethodName := ⟨RX3, "<init>", "()V"⟩
abbrev cX3_isPair : ByteArray := prog_5_method_2_code
def yX3_isPair : MethodName := ⟨RX3, "isPair", "(II)Z"⟩
abbrev cX3_put : ByteArray := prog_5_method_3_code
def yX3_put : MethodName := ⟨RX3, "put", "(IIII)V"⟩
abbrev cX3_copy : ByteArray := prog_5_method_4_code
def yX3_copy : MethodName := ⟨RX3, "copy", "(IIII)V"⟩
abbrev cX3_isRest : ByteArray := prog_5_method_5_code
def yX3_isRest : MethodName := ⟨RX3, "isRest", "(III)Z"⟩
abbrev cX3_restsOf : ByteArray := prog_5_method_6_code
def yX3_restsOf : MethodName := ⟨RX3, "restsOf", "(I)I"⟩
abbrev cX3_firstRest : ByteArray := prog_5_method_7_code
def yX3_firstRest : MethodName := ⟨RX3, "firstRest", "(I)I"⟩
abbrev cX3_kindest : ByteArray := prog_5_method_8_code
def yX3_kindest : MethodName := ⟨RX3, "kindest", "(I)I"⟩
abbrev cX3_together : ByteArray := prog_5_method_9_code
def yX3_together : MethodName := ⟨RX3, "together", "(I)I"⟩
def RX4 : String := "DipLights$Meeting"
def TX4 : u_T := fun k => match k with
  | 0 => ("DipLights$Meeting", "trip0", "LDipLights$Trip;", true)
  | 1 => ("DipLights$Meeting", "trip1", "LDipLights$Trip;", true)
  | 2 => ("DipLights$Meeting", "apart", "[I", true)
  | 3 => ("DipLights$Meeting", "tenths", "I", false)
  | _ => ("DipLights$Meeting", "passedIn", "I", false)
def tyX4 : Nat → FieldType := fun k => match k with
  | 0 => .object "DipLights$Trip"
  | 1 => .object "DipLights$Trip"
  | 2 => .array .int
  | 3 => .int
  | _ => .int
abbrev wsX40 : List Cond := u_ws RX4 TX4 5
theorem nmX4 : ∀ a, a < 5 → ∀ b, b < 5 → a ≠ b → (TX4 a).2.1 ≠ (TX4 b).2.1 := by decide +kernel
theorem tyX4_ok : ∀ k, k < 5 → parseFieldDescriptor (TX4 k).2.2.1 = some (tyX4 k) := by decide +kernel
abbrev cX4_init : ByteArray := prog_6_method_1_code
def yX4_init : MethodName := ⟨RX4, "<init>", "()V"⟩
abbrev cX4_tripOf : ByteArray := prog_6_method_2_code
def yX4_tripOf : MethodName := ⟨RX4, "tripOf", "(I)LDipLights$Trip;"⟩
abbrev cX4_run : ByteArray := prog_6_method_3_code
def yX4_run : MethodName := ⟨RX4, "run", "(LDipLights$Told;II)V"⟩
abbrev cX4_measure : ByteArray := prog_6_method_4_code
def yX4_measure : MethodName := ⟨RX4, "measure", "(LDipLights$Road;I)V"⟩
abbrev cX4_beamsOf : ByteArray := prog_6_method_5_code
def yX4_beamsOf : MethodName := ⟨RX4, "beamsOf", "(LDipLights$Told;LDipLights$Trip;I)I"⟩
abbrev cX4_dazzles : ByteArray := prog_6_method_6_code
def yX4_dazzles : MethodName := ⟨RX4, "dazzles", "(LDipLights$Trip;)Z"⟩
abbrev cX4_keep : ByteArray := prog_6_method_7_code
def yX4_keep : MethodName := ⟨RX4, "keep", "(LDipLights$Told;LDipLights$Trip;Z)V"⟩
abbrev cX4_tellValues : ByteArray := prog_6_method_8_code
def yX4_tellValues : MethodName := ⟨RX4, "tellValues", "(LDipLights$Told;LDipLights$Trip;)V"⟩
abbrev cX4_apartIn : ByteArray := prog_6_method_9_code
def yX4_apartIn : MethodName := ⟨RX4, "apartIn", "(I)I"⟩
abbrev cX4_inView : ByteArray := prog_6_method_10_code
def yX4_inView : MethodName := ⟨RX4, "inView", "(I)Z"⟩
abbrev cX4_far : ByteArray := prog_6_method_11_code
def yX4_far : MethodName := ⟨RX4, "far", "(I)I"⟩
abbrev cX4_beamsBy : ByteArray := prog_6_method_12_code
def yX4_beamsBy : MethodName := ⟨RX4, "beamsBy", "(II)I"⟩
abbrev cX4_everApartBy : ByteArray := prog_6_method_13_code
def yX4_everApartBy : MethodName := ⟨RX4, "everApartBy", "(I)Z"⟩
abbrev cX4_hitBy : ByteArray := prog_6_method_14_code
def yX4_hitBy : MethodName := ⟨RX4, "hitBy", "(LDipLights$Road;III)I"⟩
abbrev cX4_hitByCars : ByteArray := prog_6_method_15_code
def yX4_hitByCars : MethodName := ⟨RX4, "hitByCars", "(LDipLights$Road;II)I"⟩
abbrev cX4_hitBits : ByteArray := prog_6_method_16_code
def yX4_hitBits : MethodName := ⟨RX4, "hitBits", "(LDipLights$Road;I)I"⟩
abbrev cX4_hitCount : ByteArray := prog_6_method_17_code
def yX4_hitCount : MethodName := ⟨RX4, "hitCount", "(LDipLights$Road;I)I"⟩
abbrev cX4_costOf : ByteArray := prog_6_method_18_code
def yX4_costOf : MethodName := ⟨RX4, "costOf", "(LDipLights$Road;I)I"⟩
def RX5 : String := "DipLights$Road"
def TX5 : u_T := fun k => match k with
  | 0 => ("DipLights$Road", "cells", "I", false)
  | 1 => ("DipLights$Road", "bendCell", "[I", true)
  | 2 => ("DipLights$Road", "bends", "I", false)
  | 3 => ("DipLights$Road", "bendClauses", "I", false)
  | 4 => ("DipLights$Road", "wet", "[I", true)
  | 5 => ("DipLights$Road", "wetClauses", "I", false)
  | 6 => ("DipLights$Road", "coatCell", "[I", true)
  | 7 => ("DipLights$Road", "coatBright", "[I", true)
  | 8 => ("DipLights$Road", "coats", "I", false)
  | 9 => ("DipLights$Road", "fog", "I", false)
  | 10 => ("DipLights$Road", "blind", "I", false)
  | 11 => ("DipLights$Road", "reachFull", "I", false)
  | 12 => ("DipLights$Road", "reachDipped", "I", false)
  | 13 => ("DipLights$Road", "age", "[I", true)
  | 14 => ("DipLights$Road", "pace", "[I", true)
  | 15 => ("DipLights$Road", "tilt", "[I", true)
  | _ => ("DipLights$Road", "cars", "I", false)
def tyX5 : Nat → FieldType := fun k => match k with
  | 0 => .int
  | 1 => .array .int
  | 2 => .int
  | 3 => .int
  | 4 => .array .int
  | 5 => .int
  | 6 => .array .int
  | 7 => .array .int
  | 8 => .int
  | 9 => .int
  | 10 => .int
  | 11 => .int
  | 12 => .int
  | 13 => .array .int
  | 14 => .array .int
  | 15 => .array .int
  | _ => .int
abbrev wsX50 : List Cond := u_ws RX5 TX5 17
theorem nmX5 : ∀ a, a < 17 → ∀ b, b < 17 → a ≠ b → (TX5 a).2.1 ≠ (TX5 b).2.1 := by decide +kernel
theorem tyX5_ok : ∀ k, k < 17 → parseFieldDescriptor (TX5 k).2.2.1 = some (tyX5 k) := by decide +kernel
abbrev cX5_init : ByteArray := prog_7_method_1_code
def yX5_init : MethodName := ⟨RX5, "<init>", "()V"⟩
abbrev cX5_empty : ByteArray := prog_7_method_2_code
def yX5_empty : MethodName := ⟨RX5, "empty", "()V"⟩
abbrev cX5_readFrom : ByteArray := prog_7_method_3_code
def yX5_readFrom : MethodName := ⟨RX5, "readFrom", "(LDipLights$Tape;)Z"⟩
abbrev cX5_clauseOf : ByteArray := prog_7_method_4_code
def yX5_clauseOf : MethodName := ⟨RX5, "clauseOf", "(LDipLights$Tape;)I"⟩
abbrev cX5_hasRoomFor : ByteArray := prog_7_method_5_code
def yX5_hasRoomFor : MethodName := ⟨RX5, "hasRoomFor", "(I)Z"⟩
abbrev cX5_readClause : ByteArray := prog_7_method_6_code
def yX5_readClause : MethodName := ⟨RX5, "readClause", "(ILDipLights$Tape;)Z"⟩
abbrev cX5_readBend : ByteArray := prog_7_method_7_code
def yX5_readBend : MethodName := ⟨RX5, "readBend", "(LDipLights$Tape;)Z"⟩
abbrev cX5_readWet : ByteArray := prog_7_method_8_code
def yX5_readWet : MethodName := ⟨RX5, "readWet", "(LDipLights$Tape;)Z"⟩
abbrev cX5_readCoat : ByteArray := prog_7_method_9_code
def yX5_readCoat : MethodName := ⟨RX5, "readCoat", "(LDipLights$Tape;)Z"⟩
abbrev cX5_readReach : ByteArray := prog_7_method_10_code
def yX5_readReach : MethodName := ⟨RX5, "readReach", "(LDipLights$Tape;)Z"⟩
abbrev cX5_readCar : ByteArray := prog_7_method_11_code
def yX5_readCar : MethodName := ⟨RX5, "readCar", "(LDipLights$Tape;)Z"⟩
abbrev cX5_startOf : ByteArray := prog_7_method_12_code
def yX5_startOf : MethodName := ⟨RX5, "startOf", "(I)I"⟩
abbrev cX5_has : ByteArray := prog_7_method_13_code
def yX5_has : MethodName := ⟨RX5, "has", "(I)Z"⟩
abbrev cX5_wetAt : ByteArray := prog_7_method_14_code
def yX5_wetAt : MethodName := ⟨RX5, "wetAt", "(I)I"⟩
abbrev cX5_wetCells : ByteArray := prog_7_method_15_code
def yX5_wetCells : MethodName := ⟨RX5, "wetCells", "()I"⟩
abbrev cX5_hides : ByteArray := prog_7_method_16_code
def yX5_hides : MethodName := ⟨RX5, "hides", "(II)Z"⟩
abbrev cX5_reachBy : ByteArray := prog_7_method_17_code
def yX5_reachBy : MethodName := ⟨RX5, "reachBy", "(I)I"⟩
abbrev cX5_blindFor : ByteArray := prog_7_method_18_code
def yX5_blindFor : MethodName := ⟨RX5, "blindFor", "(I)I"⟩
abbrev cX5_cellOfDraw : ByteArray := prog_7_method_19_code
def yX5_cellOfDraw : MethodName := ⟨RX5, "cellOfDraw", "(I)I"⟩
def RX6 : String := "DipLights$Tape"
def TX6 : u_T := fun k => match k with
  | 0 => ("DipLights$Tape", "bytes", "[I", true)
  | 1 => ("DipLights$Tape", "fed", "I", false)
  | 2 => ("DipLights$Tape", "length", "I", false)
  | 3 => ("DipLights$Tape", "after", "I", false)
  | 4 => ("DipLights$Tape", "begin", "I", false)
  | 5 => ("DipLights$Tape", "token", "I", false)
  | 6 => ("DipLights$Tape", "number", "I", false)
  | 7 => ("DipLights$Tape", "kind", "I", false)
  | _ => ("DipLights$Tape", "place", "I", false)
def tyX6 : Nat → FieldType := fun k => match k with
  | 0 => .array .int
  | 1 => .int
  | 2 => .int
  | 3 => .int
  | 4 => .int
  | 5 => .int
  | 6 => .int
  | 7 => .int
  | _ => .int
abbrev wsX60 : List Cond := u_ws RX6 TX6 9
theorem nmX6 : ∀ a, a < 9 → ∀ b, b < 9 → a ≠ b → (TX6 a).2.1 ≠ (TX6 b).2.1 := by decide +kernel
theorem tyX6_ok : ∀ k, k < 9 → parseFieldDescriptor (TX6 k).2.2.1 = some (tyX6 k) := by decide +kernel
abbrev cX6_init : ByteArray := prog_8_method_1_code
def yX6_init : MethodName := ⟨RX6, "<init>", "()V"⟩
abbrev cX6_put : ByteArray := prog_8_method_2_code
def yX6_put : MethodName := ⟨RX6, "put", "(I)V"⟩
abbrev cX6_beginText : ByteArray := prog_8_method_3_code
def yX6_beginText : MethodName := ⟨RX6, "beginText", "(I)V"⟩
abbrev cX6_answerOfFault : ByteArray := prog_8_method_4_code
def yX6_answerOfFault : MethodName := ⟨RX6, "answerOfFault", "()I"⟩
abbrev cX6_fail : ByteArray := prog_8_method_5_code
def yX6_fail : MethodName := ⟨RX6, "fail", "(I)Z"⟩
abbrev cX6_advance : ByteArray := prog_8_method_6_code
def yX6_advance : MethodName := ⟨RX6, "advance", "()V"⟩
abbrev cX6_tokenOf : ByteArray := prog_8_method_7_code
def yX6_tokenOf : MethodName := ⟨RX6, "tokenOf", "(I)I"⟩
abbrev cX6_isWord : ByteArray := prog_8_method_8_code
def yX6_isWord : MethodName := ⟨RX6, "isWord", "(Ljava/lang/String;)Z"⟩
abbrev cX6_isSign : ByteArray := prog_8_method_9_code
def yX6_isSign : MethodName := ⟨RX6, "isSign", "(C)Z"⟩
abbrev cX6_takeSign : ByteArray := prog_8_method_10_code
def yX6_takeSign : MethodName := ⟨RX6, "takeSign", "(C)Z"⟩
abbrev cX6_standsNumber : ByteArray := prog_8_method_11_code
def yX6_standsNumber : MethodName := ⟨RX6, "standsNumber", "(II)Z"⟩
abbrev cX6_takeNumber : ByteArray := prog_8_method_12_code
def yX6_takeNumber : MethodName := ⟨RX6, "takeNumber", "(II)I"⟩
def RX7 : String := "DipLights$Told"
def TX7 : u_T := fun k => match k with
  | 0 => ("DipLights$Told", "road", "LDipLights$Road;", false)
  | 1 => ("DipLights$Told", "law", "LDipLights$Formula;", false)
  | 2 => ("DipLights$Told", "rule0", "LDipLights$Formula;", false)
  | 3 => ("DipLights$Told", "rule1", "LDipLights$Formula;", false)
  | _ => ("DipLights$Told", "values", "[I", true)
def tyX7 : Nat → FieldType := fun k => match k with
  | 0 => .object "DipLights$Road"
  | 1 => .object "DipLights$Formula"
  | 2 => .object "DipLights$Formula"
  | 3 => .object "DipLights$Formula"
  | _ => .array .int
abbrev wsX70 : List Cond := u_ws RX7 TX7 5
theorem nmX7 : ∀ a, a < 5 → ∀ b, b < 5 → a ≠ b → (TX7 a).2.1 ≠ (TX7 b).2.1 := by decide +kernel
theorem tyX7_ok : ∀ k, k < 5 → parseFieldDescriptor (TX7 k).2.2.1 = some (tyX7 k) := by decide +kernel
abbrev cX7_init : ByteArray := prog_9_method_1_code
def yX7_init : MethodName := ⟨RX7, "<init>", "()V"⟩
abbrev cX7_forgetFormulas : ByteArray := prog_9_method_2_code
def yX7_forgetFormulas : MethodName := ⟨RX7, "forgetFormulas", "()V"⟩
abbrev cX7_swapRule : ByteArray := prog_9_method_3_code
def yX7_swapRule : MethodName := ⟨RX7, "swapRule", "(ILDipLights$Formula;)LDipLights$Formula;"⟩
abbrev cX7_valuesOfNobody : ByteArray := prog_9_method_4_code
def yX7_valuesOfNobody : MethodName := ⟨RX7, "valuesOfNobody", "()[I"⟩
abbrev cX7_sightByLaw : ByteArray := prog_9_method_5_code
def yX7_sightByLaw : MethodName := ⟨RX7, "sightByLaw", "()I"⟩
abbrev cX7_beamsByRule : ByteArray := prog_9_method_6_code
def yX7_beamsByRule : MethodName := ⟨RX7, "beamsByRule", "(I)I"⟩
def RX8 : String := "DipLights$Trip"
def TX8 : u_T := fun k => match k with
  | 0 => ("DipLights$Trip", "who", "I", true)
  | 1 => ("DipLights$Trip", "direction", "I", true)
  | 2 => ("DipLights$Trip", "there", "Z", false)
  | 3 => ("DipLights$Trip", "age", "I", false)
  | 4 => ("DipLights$Trip", "pace", "I", false)
  | 5 => ("DipLights$Trip", "tilt", "I", false)
  | 6 => ("DipLights$Trip", "cellNow", "I", false)
  | 7 => ("DipLights$Trip", "beamsNow", "I", false)
  | 8 => ("DipLights$Trip", "blindNow", "I", false)
  | 9 => ("DipLights$Trip", "tenths", "I", false)
  | 10 => ("DipLights$Trip", "cell", "[I", true)
  | 11 => ("DipLights$Trip", "beams", "[I", true)
  | 12 => ("DipLights$Trip", "blind", "[I", true)
  | 13 => ("DipLights$Trip", "sight", "[I", true)
  | 14 => ("DipLights$Trip", "stop", "[I", true)
  | _ => ("DipLights$Trip", "glare", "[I", true)
def tyX8 : Nat → FieldType := fun k => match k with
  | 0 => .int
  | 1 => .int
  | 2 => .boolean
  | 3 => .int
  | 4 => .int
  | 5 => .int
  | 6 => .int
  | 7 => .int
  | 8 => .int
  | 9 => .int
  | 10 => .array .int
  | 11 => .array .int
  | 12 => .array .int
  | 13 => .array .int
  | 14 => .array .int
  | _ => .array .int
abbrev wsX80 : List Cond := u_ws RX8 TX8 16
theorem nmX8 : ∀ a, a < 16 → ∀ b, b < 16 → a ≠ b → (TX8 a).2.1 ≠ (TX8 b).2.1 := by decide +kernel
theorem tyX8_ok : ∀ k, k < 16 → parseFieldDescriptor (TX8 k).2.2.1 = some (tyX8 k) := by decide +kernel
abbrev cX8_init : ByteArray := prog_10_method_1_code
def yX8_init : MethodName := ⟨RX8, "<init>", "(I)V"⟩
abbrev cX8_begin : ByteArray := prog_10_method_2_code
def yX8_begin : MethodName := ⟨RX8, "begin", "(LDipLights$Road;)V"⟩
abbrev cX8_isOn : ByteArray := prog_10_method_3_code
def yX8_isOn : MethodName := ⟨RX8, "isOn", "(LDipLights$Road;)Z"⟩
abbrev cX8_becomeBlind : ByteArray := prog_10_method_4_code
def yX8_becomeBlind : MethodName := ⟨RX8, "becomeBlind", "(ZI)V"⟩
abbrev cX8_keep : ByteArray := prog_10_method_5_code
def yX8_keep : MethodName := ⟨RX8, "keep", "(LDipLights$Road;IIZ)V"⟩
abbrev cX8_unsafe : ByteArray := prog_10_method_6_code
def yX8_unsafe : MethodName := ⟨RX8, "unsaf\x65", "(I)I"⟩
abbrev cX8_unsafeTenths : ByteArray := prog_10_method_7_code
def yX8_unsafeTenths : MethodName := ⟨RX8, "unsafeTenths", "()I"⟩
abbrev cX8_glareTenths : ByteArray := prog_10_method_8_code
def yX8_glareTenths : MethodName := ⟨RX8, "glareTenths", "()I"⟩
abbrev cX8_blindTenths : ByteArray := prog_10_method_9_code
def yX8_blindTenths : MethodName := ⟨RX8, "blindTenths", "()I"⟩
abbrev cX8_fullTenths : ByteArray := prog_10_method_10_code
def yX8_fullTenths : MethodName := ⟨RX8, "fullTenths", "()I"⟩
abbrev cX8_beamChanges : ByteArray := prog_10_method_11_code
def yX8_beamChanges : MethodName := ⟨RX8, "beamChanges", "()I"⟩
abbrev cX8_leastSight : ByteArray := prog_10_method_12_code
def yX8_leastSight : MethodName := ⟨RX8, "leastSight", "()I"⟩
abbrev cX8_firstBeams : ByteArray := prog_10_method_13_code
def yX8_firstBeams : MethodName := ⟨RX8, "firstBeams", "(II)I"⟩
abbrev cX8_ahead : ByteArray := prog_10_method_14_code
def yX8_ahead : MethodName := ⟨RX8, "ahead", "(II)I"⟩
abbrev cX8_seenIn : ByteArray := prog_10_method_15_code
def yX8_seenIn : MethodName := ⟨RX8, "seenIn", "(LDipLights$Road;II)I"⟩
abbrev cX8_reachedIn : ByteArray := prog_10_method_16_code
def yX8_reachedIn : MethodName := ⟨RX8, "reachedIn", "(I)I"⟩
abbrev cX8_doesHit : ByteArray := prog_10_method_17_code
def yX8_doesHit : MethodName := ⟨RX8, "doesHit", "(LDipLights$Road;II)Z"⟩
def RX9 : String := "DipLights"
def TX9 : u_T := fun k => match k with
  | 0 => ("DipLights", "tape", "LDipLights$Tape;", true)
  | 1 => ("DipLights", "told", "LDipLights$Told;", true)
  | 2 => ("DipLights", "spareRoad", "LDipLights$Road;", false)
  | 3 => ("DipLights", "spareFormula", "LDipLights$Formula;", false)
  | 4 => ("DipLights", "book", "LDipLights$Book;", false)
  | 5 => ("DipLights", "spareBook", "LDipLights$Book;", false)
  | 6 => ("DipLights", "meeting", "LDipLights$Meeting;", true)
  | 7 => ("DipLights", "meetingFresh", "Z", false)
  | 8 => ("DipLights", "trial", "LDipLights$Meeting;", true)
  | 9 => ("DipLights", "duelGame", "LDipLights$Game;", true)
  | 10 => ("DipLights", "duelFilled", "I", false)
  | 11 => ("DipLights", "bulbGame", "LDipLights$Game;", true)
  | 12 => ("DipLights", "visits", "[I", true)
  | 13 => ("DipLights", "changes", "LDipLights$Changes;", true)
  | _ => ("DipLights", "refused", "[I", true)
def tyX9 : Nat → FieldType := fun k => match k with
  | 0 => .object "DipLights$Tape"
  | 1 => .object "DipLights$Told"
  | 2 => .object "DipLights$Road"
  | 3 => .object "DipLights$Formula"
  | 4 => .object "DipLights$Book"
  | 5 => .object "DipLights$Book"
  | 6 => .object "DipLights$Meeting"
  | 7 => .boolean
  | 8 => .object "DipLights$Meeting"
  | 9 => .object "DipLights$Game"
  | 10 => .int
  | 11 => .object "DipLights$Game"
  | 12 => .array .int
  | 13 => .object "DipLights$Changes"
  | _ => .array .int
abbrev wsX90 : List Cond := u_ws RX9 TX9 15
theorem nmX9 : ∀ a, a < 15 → ∀ b, b < 15 → a ≠ b → (TX9 a).2.1 ≠ (TX9 b).2.1 := by decide +kernel
theorem tyX9_ok : ∀ k, k < 15 → parseFieldDescriptor (TX9 k).2.2.1 = some (tyX9 k) := by decide +kernel
abbrev cX9_init : ByteArray := prog_1_method_1_code
def yX9_init : MethodName := ⟨RX9, "<init>", "()V"⟩
abbrev cX9_feed : ByteArray := prog_1_method_2_code
def yX9_feed : MethodName := ⟨RX9, "feed", "(IIIII)I"⟩
abbrev cX9_road : ByteArray := prog_1_method_3_code
def yX9_road : MethodName := ⟨RX9, "road", "(I)I"⟩
abbrev cX9_law : ByteArray := prog_1_method_4_code
def yX9_law : MethodName := ⟨RX9, "law", "(I)I"⟩
abbrev cX9_rule : ByteArray := prog_1_method_5_code
def yX9_rule : MethodName := ⟨RX9, "rule", "(II)I"⟩
abbrev cX9_book : ByteArray := prog_1_method_6_code
def yX9_book : MethodName := ⟨RX9, "book", "(I)I"⟩
abbrev cX9_fault : ByteArray := prog_1_method_7_code
def yX9_fault : MethodName := ⟨RX9, "fault", "()I"⟩
abbrev cX9_takeText : ByteArray := prog_1_method_8_code
def yX9_takeText : MethodName := ⟨RX9, "takeText", "(II)V"⟩
abbrev cX9_meetingChanged : ByteArray := prog_1_method_9_code
def yX9_meetingChanged : MethodName := ⟨RX9, "meetingChanged", "()V"⟩
abbrev cX9_told : ByteArray := prog_1_method_10_code
def yX9_told : MethodName := ⟨RX9, "told", "(I)I"⟩
abbrev cX9_car : ByteArray := prog_1_method_11_code
def yX9_car : MethodName := ⟨RX9, "car", "(II)I"⟩
abbrev cX9_coat : ByteArray := prog_1_method_12_code
def yX9_coat : MethodName := ⟨RX9, "coat", "(II)I"⟩
abbrev cX9_freshMeeting : ByteArray := prog_1_method_13_code
def yX9_freshMeeting : MethodName := ⟨RX9, "freshMeeting", "()LDipLights$Meeting;"⟩
abbrev cX9_tenths : ByteArray := prog_1_method_14_code
def yX9_tenths : MethodName := ⟨RX9, "tenths", "()I"⟩
abbrev cX9_at : ByteArray := prog_1_method_15_code
def yX9_at : MethodName := ⟨RX9, "at", "(III)I"⟩
abbrev cX9_passes : ByteArray := prog_1_method_16_code
def yX9_passes : MethodName := ⟨RX9, "passes", "()I"⟩
abbrev cX9_hits : ByteArray := prog_1_method_17_code
def yX9_hits : MethodName := ⟨RX9, "hits", "(I)I"⟩
abbrev cX9_sees : ByteArray := prog_1_method_18_code
def yX9_sees : MethodName := ⟨RX9, "sees", "(II)I"⟩
abbrev cX9_sums : ByteArray := prog_1_method_19_code
def yX9_sums : MethodName := ⟨RX9, "sums", "(II)I"⟩
abbrev cX9_would : ByteArray := prog_1_method_20_code
def yX9_would : MethodName := ⟨RX9, "would", "(IIII)I"⟩
abbrev cX9_cost : ByteArray := prog_1_method_21_code
def yX9_cost : MethodName := ⟨RX9, "cost", "(III)I"⟩
abbrev cX9_duel : ByteArray := prog_1_method_22_code
def yX9_duel : MethodName := ⟨RX9, "duel", "(II)I"⟩
abbrev cX9_pairNumber : ByteArray := prog_1_method_23_code
def yX9_pairNumber : MethodName := ⟨RX9, "pairNumber", "(II)I"⟩
abbrev cX9_fillDuel : ByteArray := prog_1_method_24_code
def yX9_fillDuel : MethodName := ⟨RX9, "fillDuel", "(LDipLights$Meeting;I)V"⟩
abbrev cX9_answer : ByteArray := prog_1_method_25_code
def yX9_answer : MethodName := ⟨RX9, "answer", "(II)I"⟩
abbrev cX9_habit : ByteArray := prog_1_method_26_code
def yX9_habit : MethodName := ⟨RX9, "habit", "(II)I"⟩
abbrev cX9_nextHabit : ByteArray := prog_1_method_27_code
def yX9_nextHabit : MethodName := ⟨RX9, "nextHabit", "(I)I"⟩
abbrev cX9_leastVisited : ByteArray := prog_1_method_28_code
def yX9_leastVisited : MethodName := ⟨RX9, "leastVisited", "(I)I"⟩
abbrev cX9_greatestVisited : ByteArray := prog_1_method_29_code
def yX9_greatestVisited : MethodName := ⟨RX9, "greatestVisited", "(I)I"⟩
abbrev cX9_safe : ByteArray := prog_1_method_30_code
def yX9_safe : MethodName := ⟨RX9, "safe", "(II)I"⟩
abbrev cX9_loaded : ByteArray := prog_1_method_31_code
def yX9_loaded : MethodName := ⟨RX9, "loaded", "(IIII)J"⟩
abbrev cX9_power : ByteArray := prog_1_method_32_code
def yX9_power : MethodName := ⟨RX9, "power", "(II)J"⟩
abbrev cX9_commonDivisor : ByteArray := prog_1_method_33_code
def yX9_commonDivisor : MethodName := ⟨RX9, "commonDivisor", "(JJ)J"⟩
abbrev cX9_blinds : ByteArray := prog_1_method_34_code
def yX9_blinds : MethodName := ⟨RX9, "blinds", "(I)I"⟩
abbrev cX9_old : ByteArray := prog_1_method_35_code
def yX9_old : MethodName := ⟨RX9, "old", "(I)I"⟩
abbrev cX9_between : ByteArray := prog_1_method_36_code
def yX9_between : MethodName := ⟨RX9, "between", "(II)Z"⟩
abbrev cX9_gets : ByteArray := prog_1_method_37_code
def yX9_gets : MethodName := ⟨RX9, "gets", "(II)I"⟩
abbrev cX9_gain : ByteArray := prog_1_method_38_code
def yX9_gain : MethodName := ⟨RX9, "gain", "(II)I"⟩
abbrev cX9_bulbs : ByteArray := prog_1_method_39_code
def yX9_bulbs : MethodName := ⟨RX9, "bulbs", "(II)I"⟩
abbrev cX9_distances : ByteArray := prog_1_method_40_code
def yX9_distances : MethodName := ⟨RX9, "distances", "()J"⟩
abbrev cX9_distanceBits : ByteArray := prog_1_method_41_code
def yX9_distanceBits : MethodName := ⟨RX9, "distanceBits", "(LDipLights$Meeting;)J"⟩
abbrev cX9_bookFits : ByteArray := prog_1_method_42_code
def yX9_bookFits : MethodName := ⟨RX9, "bookFits", "(LDipLights$Meeting;I)Z"⟩
abbrev cX9_look : ByteArray := prog_1_method_43_code
def yX9_look : MethodName := ⟨RX9, "look", "(I)I"⟩
abbrev cX9_worstLeft : ByteArray := prog_1_method_44_code
def yX9_worstLeft : MethodName := ⟨RX9, "worstLeft", "(LDipLights$Meeting;JI)I"⟩
abbrev cX9_right : ByteArray := prog_1_method_45_code
def yX9_right : MethodName := ⟨RX9, "right", "()I"⟩
abbrev cX9_nights : ByteArray := prog_1_method_46_code
def yX9_nights : MethodName := ⟨RX9, "nights", "(III)I"⟩
abbrev cX9_darkest : ByteArray := prog_1_method_47_code
def yX9_darkest : MethodName := ⟨RX9, "darkest", "(I)I"⟩
abbrev cX9_dark : ByteArray := prog_1_method_48_code
def yX9_dark : MethodName := ⟨RX9, "dark", "(II)I"⟩
abbrev cX9_dips : ByteArray := prog_1_method_49_code
def yX9_dips : MethodName := ⟨RX9, "dips", "(II)I"⟩
abbrev cX9_gap : ByteArray := prog_1_method_50_code
def yX9_gap : MethodName := ⟨RX9, "gap", "(II)I"⟩
abbrev cX9_needs : ByteArray := prog_1_method_51_code
def yX9_needs : MethodName := ⟨RX9, "needs", "(I)I"⟩
abbrev cX9_clear : ByteArray := prog_1_method_52_code
def yX9_clear : MethodName := ⟨RX9, "clear", "(I)I"⟩
abbrev cX9_paces : ByteArray := prog_1_method_53_code
def yX9_paces : MethodName := ⟨RX9, "paces", "(I)I"⟩
abbrev cX9_finds : ByteArray := prog_1_method_54_code
def yX9_finds : MethodName := ⟨RX9, "finds", "(II)I"⟩
abbrev cX9_drives : ByteArray := prog_1_method_55_code
def yX9_drives : MethodName := ⟨RX9, "drives", "(III)I"⟩
abbrev cX9_stands : ByteArray := prog_1_method_56_code
def yX9_stands : MethodName := ⟨RX9, "stands", "(III)I"⟩
abbrev cX9_weather : ByteArray := prog_1_method_57_code
def yX9_weather : MethodName := ⟨RX9, "weather", "(II)I"⟩
abbrev cX9_change : ByteArray := prog_1_method_58_code
def yX9_change : MethodName := ⟨RX9, "change", "(IIII)I"⟩
abbrev cX9_undo : ByteArray := prog_1_method_59_code
def yX9_undo : MethodName := ⟨RX9, "undo", "()I"⟩
abbrev cX9_image : ByteArray := prog_1_method_60_code
def yX9_image : MethodName := ⟨RX9, "image", "()I"⟩
abbrev cX9_restore : ByteArray := prog_1_method_61_code
def yX9_restore : MethodName := ⟨RX9, "restore", "()I"⟩
abbrev cX9_status : ByteArray := prog_1_method_62_code
def yX9_status : MethodName := ⟨RX9, "status", "(I)I"⟩
abbrev cX9_count : ByteArray := prog_1_method_63_code
def yX9_count : MethodName := ⟨RX9, "count", "(I)I"⟩
abbrev cX9_needElement : ByteArray := prog_1_method_64_code
def yX9_needElement : MethodName := ⟨RX9, "needElement", "(Z)V"⟩
abbrev cX9_needCar : ByteArray := prog_1_method_65_code
def yX9_needCar : MethodName := ⟨RX9, "needCar", "(I)V"⟩
abbrev cX9_needCoat : ByteArray := prog_1_method_66_code
def yX9_needCoat : MethodName := ⟨RX9, "needCoat", "(I)V"⟩
abbrev cX9_needArgument : ByteArray := prog_1_method_67_code
def yX9_needArgument : MethodName := ⟨RX9, "needArgument", "(Z)V"⟩
abbrev cX9_needRange : ByteArray := prog_1_method_68_code
def yX9_needRange : MethodName := ⟨RX9, "needRange", "(III)V"⟩
abbrev cX9_needTwoCars : ByteArray := prog_1_method_69_code
def yX9_needTwoCars : MethodName := ⟨RX9, "needTwoCars", "()V"⟩
def RX10 : String := "DipLightsModel"
def TX10 : u_T := fun k => match k with
  | 0 => ("DipLightsModel", "thrown", "I", false)
  | 1 => ("DipLightsModel", "tape", "I", false)
  | 2 => ("DipLightsModel", "size", "I", false)
  | 3 => ("DipLightsModel", "place", "I", false)
  | 4 => ("DipLightsModel", "at", "I", false)
  | 5 => ("DipLightsModel", "fault", "I", false)
  | 6 => ("DipLightsModel", "faultAt", "I", false)
  | 7 => ("DipLightsModel", "clauses", "I", false)
  | 8 => ("DipLightsModel", "open", "I", false)
  | 9 => ("DipLightsModel", "fed", "[I", true)
  | 10 => ("DipLightsModel", "refused", "[I", true)
  | 11 => ("DipLightsModel", "readTold", "[I", true)
  | 12 => ("DipLightsModel", "told", "[I", true)
  | 13 => ("DipLightsModel", "readAge", "[I", true)
  | 14 => ("DipLightsModel", "age", "[I", true)
  | 15 => ("DipLightsModel", "readBend", "[I", true)
  | 16 => ("DipLightsModel", "bend", "[I", true)
  | 17 => ("DipLightsModel", "readState", "[I", true)
  | 18 => ("DipLightsModel", "state", "[I", true)
  | 19 => ("DipLightsModel", "readWet", "[[I", true)
  | 20 => ("DipLightsModel", "wet", "[[I", true)
  | 21 => ("DipLightsModel", "readLength", "Z", false)
  | 22 => ("DipLightsModel", "lawMany", "[I", true)
  | 23 => ("DipLightsModel", "readLawMany", "I", false)
  | 24 => ("DipLightsModel", "law", "[[I", true)
  | 25 => ("DipLightsModel", "readLaw", "[I", true)
  | 26 => ("DipLightsModel", "stack", "[I", true)
  | 27 => ("DipLightsModel", "known", "[I", true)
  | 28 => ("DipLightsModel", "book", "[[I", true)
  | 29 => ("DipLightsModel", "readBook", "[[I", true)
  | 30 => ("DipLightsModel", "before", "[[I", true)
  | 31 => ("DipLightsModel", "kept", "[[I", true)
  | 32 => ("DipLightsModel", "lines", "I", false)
  | 33 => ("DipLightsModel", "changes", "I", false)
  | 34 => ("DipLightsModel", "images", "I", false)
  | 35 => ("DipLightsModel", "spot", "I", false)
  | 36 => ("DipLightsModel", "tenth", "[[[I", true)
  | 37 => ("DipLightsModel", "seenAt", "[[I", true)
  | 38 => ("DipLightsModel", "seenIn", "[[I", true)
  | 39 => ("DipLightsModel", "hit", "[I", true)
  | 40 => ("DipLightsModel", "glare", "[I", true)
  | 41 => ("DipLightsModel", "cell", "[I", true)
  | 42 => ("DipLightsModel", "blind", "[I", true)
  | 43 => ("DipLightsModel", "full", "[I", true)
  | 44 => ("DipLightsModel", "fullNow", "[I", true)
  | 45 => ("DipLightsModel", "forced", "[I", true)
  | 46 => ("DipLightsModel", "tenths", "I", false)
  | 47 => ("DipLightsModel", "passedIn", "I", false)
  | 48 => ("DipLightsModel", "costs", "[[[I", true)
  | 49 => ("DipLightsModel", "beenAt", "[I", true)
  | 50 => ("DipLightsModel", "fullBy", "[I", true)
  | 51 => ("DipLightsModel", "asWas", "[I", true)
  | _ => ("DipLightsModel", "coatsWere", "I", false)
def tyX10 : Nat → FieldType := fun k => match k with
  | 0 => .int
  | 1 => .int
  | 2 => .int
  | 3 => .int
  | 4 => .int
  | 5 => .int
  | 6 => .int
  | 7 => .int
  | 8 => .int
  | 9 => .array .int
  | 10 => .array .int
  | 11 => .array .int
  | 12 => .array .int
  | 13 => .array .int
  | 14 => .array .int
  | 15 => .array .int
  | 16 => .array .int
  | 17 => .array .int
  | 18 => .array .int
  | 19 => .array (.array .int)
  | 20 => .array (.array .int)
  | 21 => .boolean
  | 22 => .array .int
  | 23 => .int
  | 24 => .array (.array .int)
  | 25 => .array .int
  | 26 => .array .int
  | 27 => .array .int
  | 28 => .array (.array .int)
  | 29 => .array (.array .int)
  | 30 => .array (.array .int)
  | 31 => .array (.array .int)
  | 32 => .int
  | 33 => .int
  | 34 => .int
  | 35 => .int
  | 36 => .array (.array (.array .int))
  | 37 => .array (.array .int)
  | 38 => .array (.array .int)
  | 39 => .array .int
  | 40 => .array .int
  | 41 => .array .int
  | 42 => .array .int
  | 43 => .array .int
  | 44 => .array .int
  | 45 => .array .int
  | 46 => .int
  | 47 => .int
  | 48 => .array (.array (.array .int))
  | 49 => .array .int
  | 50 => .array .int
  | 51 => .array .int
  | _ => .int
abbrev wsX100 : List Cond := u_ws RX10 TX10 53
theorem nmX10 : ∀ a, a < 53 → ∀ b, b < 53 → a ≠ b → (TX10 a).2.1 ≠ (TX10 b).2.1 := by decide +kernel
theorem tyX10_ok : ∀ k, k < 53 → parseFieldDescriptor (TX10 k).2.2.1 = some (tyX10 k) := by decide +kernel
abbrev cX10_init : ByteArray := prog_12_method_1_code
def yX10_init : MethodName := ⟨RX10, "<init>", "()V"⟩
abbrev cX10_tellsNothing : ByteArray := prog_12_method_2_code
def yX10_tellsNothing : MethodName := ⟨RX10, "tellsNothing", "()V"⟩
abbrev cX10_thrown : ByteArray := prog_12_method_3_code
def yX10_thrown : MethodName := ⟨RX10, "thrown", "()I"⟩
abbrev cX10_bad : ByteArray := prog_12_method_4_code
def yX10_bad : MethodName := ⟨RX10, "bad", "(ZII)Z"⟩
abbrev cX10_in : ByteArray := prog_12_method_5_code
def yX10_in : MethodName := ⟨RX10, "in", "(III)Z"⟩
abbrev cX10_less : ByteArray := prog_12_method_6_code
def yX10_less : MethodName := ⟨RX10, "less", "(II)I"⟩
abbrev cX10_more : ByteArray := prog_12_method_7_code
def yX10_more : MethodName := ⟨RX10, "more", "(II)I"⟩
abbrev cX10_far : ByteArray := prog_12_method_8_code
def yX10_far : MethodName := ⟨RX10, "far", "(II)I"⟩
abbrev cX10_feed : ByteArray := prog_12_method_9_code
def yX10_feed : MethodName := ⟨RX10, "feed", "(IIIII)I"⟩
abbrev cX10_byteAt : ByteArray := prog_12_method_10_code
def yX10_byteAt : MethodName := ⟨RX10, "byteAt", "(I)I"⟩
abbrev cX10_blanks : ByteArray := prog_12_method_11_code
def yX10_blanks : MethodName := ⟨RX10, "blanks", "()V"⟩
abbrev cX10_wrong : ByteArray := prog_12_method_12_code
def yX10_wrong : MethodName := ⟨RX10, "wrong", "(II)V"⟩
abbrev cX10_isDigit : ByteArray := prog_12_method_13_code
def yX10_isDigit : MethodName := ⟨RX10, "isDigit", "(I)Z"⟩
abbrev cX10_isSmall : ByteArray := prog_12_method_14_code
def yX10_isSmall : MethodName := ⟨RX10, "isSmall", "(I)Z"⟩
abbrev cX10_number : ByteArray := prog_12_method_15_code
def yX10_number : MethodName := ⟨RX10, "number", "(II)I"⟩
abbrev cX10_wordHere : ByteArray := prog_12_method_16_code
def yX10_wordHere : MethodName := ⟨RX10, "wordHere", "()I"⟩
abbrev cX10_six : ByteArray := prog_12_method_17_code
def yX10_six : MethodName := ⟨RX10, "six", "(IIIIII)I"⟩
abbrev cX10_isWord : ByteArray := prog_12_method_18_code
def yX10_isWord : MethodName := ⟨RX10, "isWord", "(IIIIII)Z"⟩
abbrev cX10_skipWord : ByteArray := prog_12_method_19_code
def yX10_skipWord : MethodName := ⟨RX10, "skipWord", "()V"⟩
abbrev cX10_takes : ByteArray := prog_12_method_20_code
def yX10_takes : MethodName := ⟨RX10, "takes", "(IIIIII)Z"⟩
abbrev cX10_sign : ByteArray := prog_12_method_21_code
def yX10_sign : MethodName := ⟨RX10, "sign", "(I)V"⟩
abbrev cX10_takesSign : ByteArray := prog_12_method_22_code
def yX10_takesSign : MethodName := ⟨RX10, "takesSign", "(I)Z"⟩
abbrev cX10_starts : ByteArray := prog_12_method_23_code
def yX10_starts : MethodName := ⟨RX10, "starts", "(I)V"⟩
abbrev cX10_ends : ByteArray := prog_12_method_24_code
def yX10_ends : MethodName := ⟨RX10, "ends", "()I"⟩
abbrev cX10_kindHere : ByteArray := prog_12_method_25_code
def yX10_kindHere : MethodName := ⟨RX10, "kindHere", "()I"⟩
abbrev cX10_isFull : ByteArray := prog_12_method_26_code
def yX10_isFull : MethodName := ⟨RX10, "isFull", "(I)Z"⟩
abbrev cX10_cellHere : ByteArray := prog_12_method_27_code
def yX10_cellHere : MethodName := ⟨RX10, "cellHere", "()I"⟩
abbrev cX10_clause : ByteArray := prog_12_method_28_code
def yX10_clause : MethodName := ⟨RX10, "clause", "()V"⟩
abbrev cX10_road : ByteArray := prog_12_method_29_code
def yX10_road : MethodName := ⟨RX10, "road", "(I)I"⟩
abbrev cX10_copies : ByteArray := prog_12_method_30_code
def yX10_copies : MethodName := ⟨RX10, "copies", "([I[II)V"⟩
abbrev cX10_standsNow : ByteArray := prog_12_method_31_code
def yX10_standsNow : MethodName := ⟨RX10, "standsNow", "()V"⟩
abbrev cX10_notes : ByteArray := prog_12_method_32_code
def yX10_notes : MethodName := ⟨RX10, "notes", "(II)V"⟩
abbrev cX10_opens : ByteArray := prog_12_method_33_code
def yX10_opens : MethodName := ⟨RX10, "opens", "()Z"⟩
abbrev cX10_sum : ByteArray := prog_12_method_34_code
def yX10_sum : MethodName := ⟨RX10, "sum", "()V"⟩
abbrev cX10_product : ByteArray := prog_12_method_35_code
def yX10_product : MethodName := ⟨RX10, "product", "()V"⟩
abbrev cX10_knownHere : ByteArray := prog_12_method_36_code
def yX10_knownHere : MethodName := ⟨RX10, "knownHere", "()I"⟩
abbrev cX10_one : ByteArray := prog_12_method_37_code
def yX10_one : MethodName := ⟨RX10, "one", "()V"⟩
abbrev cX10_reads : ByteArray := prog_12_method_38_code
def yX10_reads : MethodName := ⟨RX10, "reads", "(II)I"⟩
abbrev cX10_law : ByteArray := prog_12_method_39_code
def yX10_law : MethodName := ⟨RX10, "law", "(I)I"⟩
abbrev cX10_rule : ByteArray := prog_12_method_40_code
def yX10_rule : MethodName := ⟨RX10, "rule", "(II)I"⟩
abbrev cX10_by : ByteArray := prog_12_method_41_code
def yX10_by : MethodName := ⟨RX10, "by", "(III)I"⟩
abbrev cX10_worked : ByteArray := prog_12_method_42_code
def yX10_worked : MethodName := ⟨RX10, "worked", "(I)I"⟩
abbrev cX10_sightBy : ByteArray := prog_12_method_43_code
def yX10_sightBy : MethodName := ⟨RX10, "sightBy", "()I"⟩
abbrev cX10_beamsBy : ByteArray := prog_12_method_44_code
def yX10_beamsBy : MethodName := ⟨RX10, "beamsBy", "(I)I"⟩
abbrev cX10_book : ByteArray := prog_12_method_45_code
def yX10_book : MethodName := ⟨RX10, "book", "(I)I"⟩
abbrev cX10_fault : ByteArray := prog_12_method_46_code
def yX10_fault : MethodName := ⟨RX10, "fault", "()I"⟩
abbrev cX10_paceOf : ByteArray := prog_12_method_47_code
def yX10_paceOf : MethodName := ⟨RX10, "paceOf", "(I)I"⟩
abbrev cX10_tiltOf : ByteArray := prog_12_method_48_code
def yX10_tiltOf : MethodName := ⟨RX10, "tiltOf", "(I)I"⟩
abbrev cX10_isWet : ByteArray := prog_12_method_49_code
def yX10_isWet : MethodName := ⟨RX10, "isWet", "(I)Z"⟩
abbrev cX10_isBendBetween : ByteArray := prog_12_method_50_code
def yX10_isBendBetween : MethodName := ⟨RX10, "isBendBetween", "(II)Z"⟩
abbrev cX10_isOn : ByteArray := prog_12_method_51_code
def yX10_isOn : MethodName := ⟨RX10, "isOn", "(I)Z"⟩
abbrev cX10_stopOf : ByteArray := prog_12_method_52_code
def yX10_stopOf : MethodName := ⟨RX10, "stopOf", "(II)I"⟩
abbrev cX10_blindsFor : ByteArray := prog_12_method_53_code
def yX10_blindsFor : MethodName := ⟨RX10, "blindsFor", "(I)I"⟩
abbrev cX10_knows : ByteArray := prog_12_method_54_code
def yX10_knows : MethodName := ⟨RX10, "knows", "(IIIZZI)V"⟩
abbrev cX10_meets : ByteArray := prog_12_method_55_code
def yX10_meets : MethodName := ⟨RX10, "meets", "(II)V"⟩
abbrev cX10_goesTenth : ByteArray := prog_12_method_56_code
def yX10_goesTenth : MethodName := ⟨RX10, "goesTenth", "(IZ)V"⟩
abbrev cX10_looksOut : ByteArray := prog_12_method_57_code
def yX10_looksOut : MethodName := ⟨RX10, "looksOut", "(IIZZ)V"⟩
abbrev cX10_leaves : ByteArray := prog_12_method_58_code
def yX10_leaves : MethodName := ⟨RX10, "leaves", "()V"⟩
abbrev cX10_asTold : ByteArray := prog_12_method_59_code
def yX10_asTold : MethodName := ⟨RX10, "asTold", "()V"⟩
abbrev cX10_ones : ByteArray := prog_12_method_60_code
def yX10_ones : MethodName := ⟨RX10, "ones", "(I)I"⟩
abbrev cX10_unsafeOf : ByteArray := prog_12_method_61_code
def yX10_unsafeOf : MethodName := ⟨RX10, "unsafeOf", "(I)I"⟩
abbrev cX10_costOf : ByteArray := prog_12_method_62_code
def yX10_costOf : MethodName := ⟨RX10, "costOf", "(I)I"⟩
abbrev cX10_told : ByteArray := prog_12_method_63_code
def yX10_told : MethodName := ⟨RX10, "told", "(I)I"⟩
abbrev cX10_isCar : ByteArray := prog_12_method_64_code
def yX10_isCar : MethodName := ⟨RX10, "isCar", "(I)Z"⟩
abbrev cX10_isCoat : ByteArray := prog_12_method_65_code
def yX10_isCoat : MethodName := ⟨RX10, "isCoat", "(I)Z"⟩
abbrev cX10_car : ByteArray := prog_12_method_66_code
def yX10_car : MethodName := ⟨RX10, "car", "(II)I"⟩
abbrev cX10_coat : ByteArray := prog_12_method_67_code
def yX10_coat : MethodName := ⟨RX10, "coat", "(II)I"⟩
abbrev cX10_tenths : ByteArray := prog_12_method_68_code
def yX10_tenths : MethodName := ⟨RX10, "tenths", "()I"⟩
abbrev cX10_at : ByteArray := prog_12_method_69_code
def yX10_at : MethodName := ⟨RX10, "at", "(III)I"⟩
abbrev cX10_passes : ByteArray := prog_12_method_70_code
def yX10_passes : MethodName := ⟨RX10, "passes", "()I"⟩
abbrev cX10_hits : ByteArray := prog_12_method_71_code
def yX10_hits : MethodName := ⟨RX10, "hits", "(I)I"⟩
abbrev cX10_sees : ByteArray := prog_12_method_72_code
def yX10_sees : MethodName := ⟨RX10, "sees", "(II)I"⟩
abbrev cX10_sums : ByteArray := prog_12_method_73_code
def yX10_sums : MethodName := ⟨RX10, "sums", "(II)I"⟩
abbrev cX10_would : ByteArray := prog_12_method_74_code
def yX10_would : MethodName := ⟨RX10, "would", "(IIII)I"⟩
abbrev cX10_notTwo : ByteArray := prog_12_method_75_code
def yX10_notTwo : MethodName := ⟨RX10, "notTwo", "(I)Z"⟩
abbrev cX10_costBy : ByteArray := prog_12_method_76_code
def yX10_costBy : MethodName := ⟨RX10, "costBy", "(III)I"⟩
abbrev cX10_cost : ByteArray := prog_12_method_77_code
def yX10_cost : MethodName := ⟨RX10, "cost", "(III)I"⟩
abbrev cX10_isRest : ByteArray := prog_12_method_78_code
def yX10_isRest : MethodName := ⟨RX10, "isRest", "(III)Z"⟩
abbrev cX10_duel : ByteArray := prog_12_method_79_code
def yX10_duel : MethodName := ⟨RX10, "duel", "(II)I"⟩
abbrev cX10_answer : ByteArray := prog_12_method_80_code
def yX10_answer : MethodName := ⟨RX10, "answer", "(II)I"⟩
abbrev cX10_habitBehind : ByteArray := prog_12_method_81_code
def yX10_habitBehind : MethodName := ⟨RX10, "habitBehind", "(I)I"⟩
abbrev cX10_habit : ByteArray := prog_12_method_82_code
def yX10_habit : MethodName := ⟨RX10, "habit", "(II)I"⟩
abbrev cX10_safe : ByteArray := prog_12_method_83_code
def yX10_safe : MethodName := ⟨RX10, "safe", "(II)I"⟩
abbrev cX10_power : ByteArray := prog_12_method_84_code
def yX10_power : MethodName := ⟨RX10, "power", "(JI)J"⟩
abbrev cX10_loaded : ByteArray := prog_12_method_85_code
def yX10_loaded : MethodName := ⟨RX10, "loaded", "(IIII)J"⟩
abbrev cX10_blinds : ByteArray := prog_12_method_86_code
def yX10_blinds : MethodName := ⟨RX10, "blinds", "(I)I"⟩
abbrev cX10_old : ByteArray := prog_12_method_87_code
def yX10_old : MethodName := ⟨RX10, "old", "(I)I"⟩
abbrev cX10_between : ByteArray := prog_12_method_88_code
def yX10_between : MethodName := ⟨RX10, "between", "(II)Z"⟩
abbrev cX10_getsBy : ByteArray := prog_12_method_89_code
def yX10_getsBy : MethodName := ⟨RX10, "getsBy", "(II)I"⟩
abbrev cX10_gets : ByteArray := prog_12_method_90_code
def yX10_gets : MethodName := ⟨RX10, "gets", "(II)I"⟩
abbrev cX10_isBright : ByteArray := prog_12_method_91_code
def yX10_isBright : MethodName := ⟨RX10, "isBright", "(III)Z"⟩
abbrev cX10_bulbs : ByteArray := prog_12_method_92_code
def yX10_bulbs : MethodName := ⟨RX10, "bulbs", "(II)I"⟩
abbrev cX10_isLine : ByteArray := prog_12_method_93_code
def yX10_isLine : MethodName := ⟨RX10, "isLine", "(I)Z"⟩
abbrev cX10_rightLines : ByteArray := prog_12_method_94_code
def yX10_rightLines : MethodName := ⟨RX10, "rightLines", "()I"⟩
abbrev cX10_distancesNow : ByteArray := prog_12_method_95_code
def yX10_distancesNow : MethodName := ⟨RX10, "distancesNow", "()J"⟩
abbrev cX10_distances : ByteArray := prog_12_method_96_code
def yX10_distances : MethodName := ⟨RX10, "distances", "()J"⟩
abbrev cX10_isInBook : ByteArray := prog_12_method_97_code
def yX10_isInBook : MethodName := ⟨RX10, "isInBook", "(I)Z"⟩
abbrev cX10_look : ByteArray := prog_12_method_98_code
def yX10_look : MethodName := ⟨RX10, "look", "(I)I"⟩
abbrev cX10_right : ByteArray := prog_12_method_99_code
def yX10_right : MethodName := ⟨RX10, "right", "()I"⟩
abbrev cX10_puts : ByteArray := prog_12_method_100_code
def yX10_puts : MethodName := ⟨RX10, "puts", "()V"⟩
abbrev cX10_putsBack : ByteArray := prog_12_method_101_code
def yX10_putsBack : MethodName := ⟨RX10, "putsBack", "()V"⟩
abbrev cX10_nights : ByteArray := prog_12_method_102_code
def yX10_nights : MethodName := ⟨RX10, "nights", "(III)I"⟩
abbrev cX10_hitAlone : ByteArray := prog_12_method_103_code
def yX10_hitAlone : MethodName := ⟨RX10, "hitAlone", "(II)I"⟩
abbrev cX10_darkest : ByteArray := prog_12_method_104_code
def yX10_darkest : MethodName := ⟨RX10, "darkest", "(I)I"⟩
abbrev cX10_dark : ByteArray := prog_12_method_105_code
def yX10_dark : MethodName := ⟨RX10, "dark", "(II)I"⟩
abbrev cX10_needs : ByteArray := prog_12_method_106_code
def yX10_needs : MethodName := ⟨RX10, "needs", "(I)I"⟩
abbrev cX10_dips : ByteArray := prog_12_method_107_code
def yX10_dips : MethodName := ⟨RX10, "dips", "(II)I"⟩
abbrev cX10_gap : ByteArray := prog_12_method_108_code
def yX10_gap : MethodName := ⟨RX10, "gap", "(II)I"⟩
abbrev cX10_clear : ByteArray := prog_12_method_109_code
def yX10_clear : MethodName := ⟨RX10, "clear", "(I)I"⟩
abbrev cX10_paces : ByteArray := prog_12_method_110_code
def yX10_paces : MethodName := ⟨RX10, "paces", "(I)I"⟩
abbrev cX10_finds : ByteArray := prog_12_method_111_code
def yX10_finds : MethodName := ⟨RX10, "finds", "(II)I"⟩
abbrev cX10_changed : ByteArray := prog_12_method_112_code
def yX10_changed : MethodName := ⟨RX10, "changed", "()Z"⟩
abbrev cX10_drives : ByteArray := prog_12_method_113_code
def yX10_drives : MethodName := ⟨RX10, "drives", "(III)I"⟩
abbrev cX10_stands : ByteArray := prog_12_method_114_code
def yX10_stands : MethodName := ⟨RX10, "stands", "(III)I"⟩
abbrev cX10_weather : ByteArray := prog_12_method_115_code
def yX10_weather : MethodName := ⟨RX10, "weather", "(II)I"⟩
abbrev cX10_undo : ByteArray := prog_12_method_116_code
def yX10_undo : MethodName := ⟨RX10, "undo", "()I"⟩
abbrev cX10_spots : ByteArray := prog_12_method_117_code
def yX10_spots : MethodName := ⟨RX10, "spots", "([IIZ)I"⟩
abbrev cX10_spotsAll : ByteArray := prog_12_method_118_code
def yX10_spotsAll : MethodName := ⟨RX10, "spotsAll", "([IZ)V"⟩
abbrev cX10_image : ByteArray := prog_12_method_119_code
def yX10_image : MethodName := ⟨RX10, "image", "()I"⟩
abbrev cX10_restore : ByteArray := prog_12_method_120_code
def yX10_restore : MethodName := ⟨RX10, "restore", "()I"⟩
abbrev cX10_status : ByteArray := prog_12_method_121_code
def yX10_status : MethodName := ⟨RX10, "status", "(I)I"⟩
abbrev cX10_count : ByteArray := prog_12_method_122_code
def yX10_count : MethodName := ⟨RX10, "count", "(I)I"⟩
def RJx145de : String := "java/io/Serializable"
def TJx145de : u_T := fun k => match k with
  | _ => ("", "", "", false)
def tyJx145de : Nat → FieldType := fun k => match k with
  | _ => .int
abbrev wsJx145de0 : List Cond := u_ws RJx145de TJx145de 0
theorem nmJx145de : ∀ a, a < 0 → ∀ b, b < 0 → a ≠ b → (TJx145de a).2.1 ≠ (TJx145de b).2.1 := by decide +kernel
theorem tyJx145de_ok : ∀ k, k < 0 → parseFieldDescriptor (TJx145de k).2.2.1 = some (tyJx145de k) := by decide +kernel
def RJx9f9b0 : String := "java/lang/CharSequence"
def TJx9f9b0 : u_T := fun k => match k with
  | _ => ("", "", "", false)
def tyJx9f9b0 : Nat → FieldType := fun k => match k with
  | _ => .int
abbrev wsJx9f9b00 : List Cond := u_ws RJx9f9b0 TJx9f9b0 0
theorem nmJx9f9b0 : ∀ a, a < 0 → ∀ b, b < 0 → a ≠ b → (TJx9f9b0 a).2.1 ≠ (TJx9f9b0 b).2.1 := by decide +kernel
theorem tyJx9f9b0_ok : ∀ k, k < 0 → parseFieldDescriptor (TJx9f9b0 k).2.2.1 = some (tyJx9f9b0 k) := by decide +kernel
def RJxb160c : String := "java/lang/Comparable"
def TJxb160c : u_T := fun k => match k with
  | _ => ("", "", "", false)
def tyJxb160c : Nat → FieldType := fun k => match k with
  | _ => .int
abbrev wsJxb160c0 : List Cond := u_ws RJxb160c TJxb160c 0
theorem nmJxb160c : ∀ a, a < 0 → ∀ b, b < 0 → a ≠ b → (TJxb160c a).2.1 ≠ (TJxb160c b).2.1 := by decide +kernel
theorem tyJxb160c_ok : ∀ k, k < 0 → parseFieldDescriptor (TJxb160c k).2.2.1 = some (tyJxb160c k) := by decide +kernel
def RJ6 : String := "java/lang/Integer"
def TJ6 : u_T := fun k => match k with
  | _ => ("", "", "", false)
def tyJ6 : Nat → FieldType := fun k => match k with
  | _ => .int
abbrev wsJ60 : List Cond := u_ws RJ6 TJ6 0
theorem nmJ6 : ∀ a, a < 0 → ∀ b, b < 0 → a ≠ b → (TJ6 a).2.1 ≠ (TJ6 b).2.1 := by decide +kernel
theorem tyJ6_ok : ∀ k, k < 0 → parseFieldDescriptor (TJ6 k).2.2.1 = some (tyJ6 k) := by decide +kernel
abbrev cJ6_bitCount_0f7a4 : ByteArray := prog_19_method_49_code
def yJ6_bitCount_0f7a4 : MethodName := ⟨RJ6, "bitCount", "(I)I"⟩
def RJ9 : String := "java/lang/Math"
def TJ9 : u_T := fun k => match k with
  | _ => ("", "", "", false)
def tyJ9 : Nat → FieldType := fun k => match k with
  | _ => .int
abbrev wsJ90 : List Cond := u_ws RJ9 TJ9 0
theorem nmJ9 : ∀ a, a < 0 → ∀ b, b < 0 → a ≠ b → (TJ9 a).2.1 ≠ (TJ9 b).2.1 := by decide +kernel
theorem tyJ9_ok : ∀ k, k < 0 → parseFieldDescriptor (TJ9 k).2.2.1 = some (tyJ9 k) := by decide +kernel
abbrev cJ9_max_7cf53 : ByteArray := prog_20_method_65_code
def yJ9_max_7cf53 : MethodName := ⟨RJ9, "max", "(II)I"⟩
abbrev cJ9_min_7cf53 : ByteArray := prog_20_method_69_code
def yJ9_min_7cf53 : MethodName := ⟨RJ9, "min", "(II)I"⟩
def RJ0 : String := "java/lang/String"
def TJ0 : u_T := fun k => match k with
  | _ => ("", "", "", false)
def tyJ0 : Nat → FieldType := fun k => match k with
  | _ => .int
abbrev wsJ00 : List Cond := u_ws RJ0 TJ0 0
theorem nmJ0 : ∀ a, a < 0 → ∀ b, b < 0 → a ≠ b → (TJ0 a).2.1 ≠ (TJ0 b).2.1 := by decide +kernel
theorem tyJ0_ok : ∀ k, k < 0 → parseFieldDescriptor (TJ0 k).2.2.1 = some (tyJ0 k) := by decide +kernel
abbrev cJ0_length_8abf5 : ByteArray := prog_22_method_54_code
def yJ0_length_8abf5 : MethodName := ⟨RJ0, "length", "()I"⟩
abbrev cJ0_charAt_5068e : ByteArray := prog_22_method_56_code
def yJ0_charAt_5068e : MethodName := ⟨RJ0, "charAt", "(I)C"⟩
abbrev cJ0_coder_7d493 : ByteArray := prog_22_method_152_code
def yJ0_coder_7d493 : MethodName := ⟨RJ0, "coder", "()B"⟩
abbrev cJ0_isLatin1_aae02 : ByteArray := prog_22_method_154_code
def yJ0_isLatin1_aae02 : MethodName := ⟨RJ0, "isLatin1", "()Z"⟩
abbrev cJ0_checkIndex_df160 : ByteArray := prog_22_method_155_code
def yJ0_checkIndex_df160 : MethodName := ⟨RJ0, "checkIndex", "(II)V"⟩
def RJ1 : String := "java/lang/StringLatin1"
def TJ1 : u_T := fun k => match k with
  | _ => ("", "", "", false)
def tyJ1 : Nat → FieldType := fun k => match k with
  | _ => .int
abbrev wsJ10 : List Cond := u_ws RJ1 TJ1 0
theorem nmJ1 : ∀ a, a < 0 → ∀ b, b < 0 → a ≠ b → (TJ1 a).2.1 ≠ (TJ1 b).2.1 := by decide +kernel
theorem tyJ1_ok : ∀ k, k < 0 → parseFieldDescriptor (TJ1 k).2.2.1 = some (tyJ1 k) := by decide +kernel
abbrev cJ1_charAt_3b067 : ByteArray := prog_23_method_2_code
def yJ1_charAt_3b067 : MethodName := ⟨RJ1, "charAt", "([BI)C"⟩
def RJ2 : String := "java/lang/StringUTF16"
def TJ2 : u_T := fun k => match k with
  | _ => ("", "", "", false)
def tyJ2 : Nat → FieldType := fun k => match k with
  | _ => .int
abbrev wsJ20 : List Cond := u_ws RJ2 TJ2 0
theorem nmJ2 : ∀ a, a < 0 → ∀ b, b < 0 → a ≠ b → (TJ2 a).2.1 ≠ (TJ2 b).2.1 := by decide +kernel
theorem tyJ2_ok : ∀ k, k < 0 → parseFieldDescriptor (TJ2 k).2.2.1 = some (tyJ2 k) := by decide +kernel
abbrev cJ2_getChar_3b067 : ByteArray := prog_24_method_5_code
def yJ2_getChar_3b067 : MethodName := ⟨RJ2, "getChar", "([BI)C"⟩
abbrev cJ2_length_9d52b : ByteArray := prog_24_method_6_code
def yJ2_length_9d52b : MethodName := ⟨RJ2, "length", "([B)I"⟩
abbrev cJ2_charAt_3b067 : ByteArray := prog_24_method_83_code
def yJ2_charAt_3b067 : MethodName := ⟨RJ2, "charAt", "([BI)C"⟩
abbrev cJ2_checkIndex_2214a : ByteArray := prog_24_method_91_code
def yJ2_checkIndex_2214a : MethodName := ⟨RJ2, "checkIndex", "(I[B)V"⟩
def RJ10 : String := "java/lang/System"
def TJ10 : u_T := fun k => match k with
  | _ => ("", "", "", false)
def tyJ10 : Nat → FieldType := fun k => match k with
  | _ => .int
abbrev wsJ100 : List Cond := u_ws RJ10 TJ10 0
theorem nmJ10 : ∀ a, a < 0 → ∀ b, b < 0 → a ≠ b → (TJ10 a).2.1 ≠ (TJ10 b).2.1 := by decide +kernel
theorem tyJ10_ok : ∀ k, k < 0 → parseFieldDescriptor (TJ10 k).2.2.1 = some (tyJ10 k) := by decide +kernel
def RJxfd54e : String := "java/lang/constant/Constable"
def TJxfd54e : u_T := fun k => match k with
  | _ => ("", "", "", false)
def tyJxfd54e : Nat → FieldType := fun k => match k with
  | _ => .int
abbrev wsJxfd54e0 : List Cond := u_ws RJxfd54e TJxfd54e 0
theorem nmJxfd54e : ∀ a, a < 0 → ∀ b, b < 0 → a ≠ b → (TJxfd54e a).2.1 ≠ (TJxfd54e b).2.1 := by decide +kernel
theorem tyJxfd54e_ok : ∀ k, k < 0 → parseFieldDescriptor (TJxfd54e k).2.2.1 = some (tyJxfd54e k) := by decide +kernel
def RJx3cf43 : String := "java/lang/constant/ConstantDesc"
def TJx3cf43 : u_T := fun k => match k with
  | _ => ("", "", "", false)
def tyJx3cf43 : Nat → FieldType := fun k => match k with
  | _ => .int
abbrev wsJx3cf430 : List Cond := u_ws RJx3cf43 TJx3cf43 0
theorem nmJx3cf43 : ∀ a, a < 0 → ∀ b, b < 0 → a ≠ b → (TJx3cf43 a).2.1 ≠ (TJx3cf43 b).2.1 := by decide +kernel
theorem tyJx3cf43_ok : ∀ k, k < 0 → parseFieldDescriptor (TJx3cf43 k).2.2.1 = some (tyJx3cf43 k) := by decide +kernel
def RJ3 : String := "jdk/internal/util/Preconditions"
def TJ3 : u_T := fun k => match k with
  | _ => ("", "", "", false)
def tyJ3 : Nat → FieldType := fun k => match k with
  | _ => .int
abbrev wsJ30 : List Cond := u_ws RJ3 TJ3 0
theorem nmJ3 : ∀ a, a < 0 → ∀ b, b < 0 → a ≠ b → (TJ3 a).2.1 ≠ (TJ3 b).2.1 := by decide +kernel
theorem tyJ3_ok : ∀ k, k < 0 → parseFieldDescriptor (TJ3 k).2.2.1 = some (tyJ3 k) := by decide +kernel
abbrev cJ3_checkIndex_8e157 : ByteArray := prog_30_method_11_code
def yJ3_checkIndex_8e157 : MethodName := ⟨RJ3, "checkIndex", "(IILjava/util/function/BiFunction;)I"⟩
def RL : String := "DipLightsLaw"
abbrev cL_road : ByteArray := method_3_code
def yL_road : MethodName := ⟨RL, "road", "(LDipLights;I[J)I"⟩
abbrev cL_law : ByteArray := method_4_code
def yL_law : MethodName := ⟨RL, "law", "(LDipLights;I[J)I"⟩
abbrev cL_rule : ByteArray := method_5_code
def yL_rule : MethodName := ⟨RL, "rule", "(LDipLights;II[J)I"⟩
abbrev cL_book : ByteArray := method_6_code
def yL_book : MethodName := ⟨RL, "book", "(LDipLights;I[J)I"⟩
abbrev cL_told : ByteArray := method_7_code
def yL_told : MethodName := ⟨RL, "told", "(LDipLights;I[J)I"⟩
abbrev cL_car : ByteArray := method_8_code
def yL_car : MethodName := ⟨RL, "car", "(LDipLights;II[J)I"⟩
abbrev cL_coat : ByteArray := method_9_code
def yL_coat : MethodName := ⟨RL, "coat", "(LDipLights;II[J)I"⟩
abbrev cL_at : ByteArray := method_10_code
def yL_at : MethodName := ⟨RL, "at", "(LDipLights;III[J)I"⟩
abbrev cL_hits : ByteArray := method_11_code
def yL_hits : MethodName := ⟨RL, "hits", "(LDipLights;I[J)I"⟩
abbrev cL_sees : ByteArray := method_12_code
def yL_sees : MethodName := ⟨RL, "sees", "(LDipLights;II[J)I"⟩
abbrev cL_sums : ByteArray := method_13_code
def yL_sums : MethodName := ⟨RL, "sums", "(LDipLights;II[J)I"⟩
abbrev cL_would : ByteArray := method_14_code
def yL_would : MethodName := ⟨RL, "would", "(LDipLights;IIII[J)I"⟩
abbrev cL_cost : ByteArray := method_15_code
def yL_cost : MethodName := ⟨RL, "cost", "(LDipLights;III[J)I"⟩
abbrev cL_duel : ByteArray := method_16_code
def yL_duel : MethodName := ⟨RL, "duel", "(LDipLights;II[J)I"⟩
abbrev cL_answer : ByteArray := method_17_code
def yL_answer : MethodName := ⟨RL, "answer", "(LDipLights;II[J)I"⟩
abbrev cL_habit : ByteArray := method_18_code
def yL_habit : MethodName := ⟨RL, "habit", "(LDipLights;II[J)I"⟩
abbrev cL_safe : ByteArray := method_19_code
def yL_safe : MethodName := ⟨RL, "safe", "(LDipLights;II[J)I"⟩
abbrev cL_loaded : ByteArray := method_20_code
def yL_loaded : MethodName := ⟨RL, "loaded", "(LDipLights;IIII[J)I"⟩
abbrev cL_blinds : ByteArray := method_21_code
def yL_blinds : MethodName := ⟨RL, "blinds", "(LDipLights;I[J)I"⟩
abbrev cL_old : ByteArray := method_22_code
def yL_old : MethodName := ⟨RL, "old", "(LDipLights;I[J)I"⟩
abbrev cL_between : ByteArray := method_23_code
def yL_between : MethodName := ⟨RL, "between", "(LDipLights;II[J)I"⟩
abbrev cL_gets : ByteArray := method_24_code
def yL_gets : MethodName := ⟨RL, "gets", "(LDipLights;II[J)I"⟩
abbrev cL_bulbs : ByteArray := method_25_code
def yL_bulbs : MethodName := ⟨RL, "bulbs", "(LDipLights;II[J)I"⟩
abbrev cL_distances : ByteArray := method_26_code
def yL_distances : MethodName := ⟨RL, "distances", "(LDipLights;[J)I"⟩
abbrev cL_look : ByteArray := method_27_code
def yL_look : MethodName := ⟨RL, "look", "(LDipLights;I[J)I"⟩
abbrev cL_right : ByteArray := method_28_code
def yL_right : MethodName := ⟨RL, "right", "(LDipLights;[J)I"⟩
abbrev cL_nights : ByteArray := method_29_code
def yL_nights : MethodName := ⟨RL, "nights", "(LDipLights;III[J)I"⟩
abbrev cL_darkest : ByteArray := method_30_code
def yL_darkest : MethodName := ⟨RL, "darkest", "(LDipLights;I[J)I"⟩
abbrev cL_dark : ByteArray := method_31_code
def yL_dark : MethodName := ⟨RL, "dark", "(LDipLights;II[J)I"⟩
abbrev cL_dips : ByteArray := method_32_code
def yL_dips : MethodName := ⟨RL, "dips", "(LDipLights;II[J)I"⟩
abbrev cL_gap : ByteArray := method_33_code
def yL_gap : MethodName := ⟨RL, "gap", "(LDipLights;II[J)I"⟩
abbrev cL_needs : ByteArray := method_34_code
def yL_needs : MethodName := ⟨RL, "needs", "(LDipLights;I[J)I"⟩
abbrev cL_clear : ByteArray := method_35_code
def yL_clear : MethodName := ⟨RL, "clear", "(LDipLights;I[J)I"⟩
abbrev cL_paces : ByteArray := method_36_code
def yL_paces : MethodName := ⟨RL, "paces", "(LDipLights;I[J)I"⟩
abbrev cL_finds : ByteArray := method_37_code
def yL_finds : MethodName := ⟨RL, "finds", "(LDipLights;II[J)I"⟩
abbrev cL_drives : ByteArray := method_38_code
def yL_drives : MethodName := ⟨RL, "drives", "(LDipLights;III[J)I"⟩
abbrev cL_stands : ByteArray := method_39_code
def yL_stands : MethodName := ⟨RL, "stands", "(LDipLights;III[J)I"⟩
abbrev cL_weather : ByteArray := method_40_code
def yL_weather : MethodName := ⟨RL, "weather", "(LDipLights;II[J)I"⟩
abbrev cL_law_ : ByteArray := code
def yL_law_ : MethodName := ⟨RL, "law", "([I)Z"⟩
abbrev vwCl : List vw_C := [(RX0, TX0, 3), (RX1, TX1, 8), (RX2, TX2, 3), (RX3, TX3, 2), (RX4, TX4, 5), (RX5, TX5, 17), (RX6, TX6, 9), (RX7, TX7, 5), (RX8, TX8, 16), (RX9, TX9, 15), (RX10, TX10, 53)]
end
section
/-! ===== the memory as functions of (cell, place); cells by their number since the law began ===== -/
/-- ints, references (0 null, n + 1 the n-th new cell), longs, shapes, how many cells are new -/
abbrev ax_M : Type := (Nat → Nat → Int32) × (Nat → Nat → Nat) × (Nat → Nat → Int64) × (Nat → Option ((Nat × Nat) ⊕ Nat)) × Nat
abbrev ax_V : Type := Int32 ⊕ (Int64 ⊕ (Nat ⊕ Nat))
abbrev av_i (x : Int32) : ax_V := .inl x
abbrev av_l (x : Int64) : ax_V := .inr (.inl x)
abbrev av_r (n : Nat) : ax_V := .inr (.inr (.inl n))
abbrev av_o (n : Nat) : ax_V := .inr (.inr (.inr n))
/-- first new address; classes and slots; array classes by kind; old addresses (texts, script) -/
abbrev ax_G : Type := Nat × va_G × (Nat → ClassId) × (Nat → Nat)
abbrev ax_K : Type := MethodName × ByteArray × Nat × Option FieldType
def ax_rf (G : ax_G) (n : Nat) : Value := match n with
  | 0 => .null
  | k + 1 => .ref (G.1 + k)
def ax_tv (G : ax_G) (v : ax_V) : Value := match v with
  | .inl x => .int x
  | .inr (.inl x) => .long x
  | .inr (.inr (.inl n)) => ax_rf G n
  | .inr (.inr (.inr j)) => .ref (G.2.2.2 j)
def ax_val (G : ax_G) (M : ax_M) (n kd k : Nat) : Value := match kd with
  | 0 => .int (M.1 n k)
  | 1 => .long (M.2.2.1 n k)
  | _ => ax_rf G (M.2.1 n k)
def ax_aty (kd : Nat) : FieldType := match kd with
  | 0 => .int
  | 1 => .long
  | 2 => .array .int
  | _ => .array (.array .int)
def ax_fk (ty : FieldType) : Nat := match ty with
  | .int => 0
  | .boolean => 0
  | .long => 1
  | _ => 2
def ax_ft (ci : Nat) : Nat → FieldType := match ci with
  | 0 => tyX0
  | 1 => tyX1
  | 2 => tyX2
  | 3 => tyX3
  | 4 => tyX4
  | 5 => tyX5
  | 6 => tyX6
  | 7 => tyX7
  | 8 => tyX8
  | 9 => tyX9
  | _ => tyX10
def ax_A (G : ax_G) : Nat → Prop := fun q => G.1 ≤ q
/-- one cell -/
def ax_cell (G : ax_G) (M : ax_M) (n : Nat) (x : (Nat × Nat) ⊕ Nat) (H : Heap) : Prop := match x with
  | .inl a => H[G.1 + n]? = some (arrV (G.2.2.1 a.1) a.2 (fun j => ax_val G M (n + 1) a.1 j))
  | .inr ci => ∃ r : vw_C, vwCl[ci]? = some r ∧ t_OB (G.1 + n) (G.2.1.1 ci) r.2.2 (G.2.1.2 ci) H (fun k => ax_val G M (n + 1) (ax_fk (ax_ft ci k)) k)
/-- the heap holds the memory -/
def ax_R (G : ax_G) (M : ax_M) (H : Heap) : Prop := H.size = G.1 + M.2.2.2.2 ∧ M.2.2.2.1 0 = none ∧ ∀ (n : Nat) (x : (Nat × Nat) ⊕ Nat), M.2.2.2.1 (n + 1) = some x → n < M.2.2.2.2 ∧ ax_cell G M n x H
def ax_nest : Cond → Bool
  | .fieldLinkNest .. => true
  | .methodLinkNest .. => true
  | _ => false
def ax_okw (w : Cond) : Bool := goodWord w || ax_nest w
def ax_tys (G : ax_G) : List (ClassId × FieldType) := [(G.2.2.1 0, ax_aty 0), (G.2.2.1 1, ax_aty 1), (G.2.2.1 2, ax_aty 2), (G.2.2.1 3, ax_aty 3)]
/-- text constants: class, entry, text, length, bytes -/
abbrev ax_T : Type := String × Nat × String × List Int32
def ax_txt (G : ax_G) (U : State) (H : Heap) (j : Nat) (t : ax_T) : Prop := vk_R t.1 t.2.1 t.2.2.1 (G.2.2.2 (2 * j)) U ∧ va_O "java/lang/String" (G.2.2.2 (2 * j)) (ax_A G) U H ∧ va_OF "java/lang/String" "coder" "B" (.int 0) (G.2.2.2 (2 * j)) (ax_A G) U H ∧ va_OF "java/lang/String" "value" "[B" (.ref (G.2.2.2 (2 * j + 1))) (G.2.2.2 (2 * j)) (ax_A G) U H ∧ va_T .byte (G.2.2.2 (2 * j + 1)) t.2.2.2.length (fun i => .int (t.2.2.2.getD i 0)) (ax_A G) U H

def ax_txts : List ax_T := [("DipLights", 420, "a number that is none such", [97, 32, 110, 117, 109, 98, 101, 114, 32, 116, 104, 97, 116, 32, 105, 115, 32, 110, 111, 110, 101, 32, 115, 117, 99, 104]), ("DipLights$Road", 94, "length", [108, 101, 110, 103, 116, 104]), ("DipLights$Road", 100, "bend", [98, 101, 110, 100]), ("DipLights$Road", 102, "wet", [119, 101, 116]), ("DipLights$Road", 103, "coat", [99, 111, 97, 116]), ("DipLights$Road", 105, "fog", [102, 111, 103]), ("DipLights$Road", 106, "blind", [98, 108, 105, 110, 100]), ("DipLights$Road", 107, "reach", [114, 101, 97, 99, 104]), ("DipLights$Road", 109, "car", [99, 97, 114]), ("DipLights$Formula", 75, "reach", [114, 101, 97, 99, 104]), ("DipLights$Formula", 77, "fog", [102, 111, 103]), ("DipLights$Formula", 79, "blind", [98, 108, 105, 110, 100]), ("DipLights$Formula", 81, "age", [97, 103, 101]), ("DipLights$Formula", 83, "wet", [119, 101, 116]), ("DipLights$Formula", 85, "tilt", [116, 105, 108, 116]), ("DipLights$Formula", 90, "pace", [112, 97, 99, 101]), ("DipLights$Formula", 92, "tenth", [116, 101, 110, 116, 104]), ("DipLights$Formula", 94, "far", [102, 97, 114]), ("DipLights$Formula", 96, "met", [109, 101, 116]), ("DipLights$Formula", 98, "other", [111, 116, 104, 101, 114]), ("DipLights$Formula", 100, "mine", [109, 105, 110, 101]), ("DipLights$Formula", 60, "least", [108, 101, 97, 115, 116]), ("DipLights$Formula", 66, "most", [109, 111, 115, 116]), ("DipLights", 413, "no such CAR or COAT", [110, 111, 32, 115, 117, 99, 104, 32, 67, 65, 82, 32, 111, 114, 32, 67, 79, 65, 84]), ("DipLights", 425, "there are not two CARS", [116, 104, 101, 114, 101, 32, 97, 114, 101, 32, 110, 111, 116, 32, 116, 119, 111, 32, 67, 65, 82, 83])]
def ax_X (G : ax_G) (U : State) (H : Heap) : Prop := vx_Zq Bundle.tN "UNASSIGNED_STACK" Bundle.steD (ax_A G) U H ∧ vx_Zq Bundle.tN "SUPPRESSED_SENTINEL" Bundle.listD (ax_A G) U H ∧ va_Z "java/lang/String" "COMPACT_STRINGS" "Z" (.int 1) (ax_A G) U H ∧ ∀ (j : Nat) (t : ax_T), ax_txts[j]? = some t → ax_txt G U H j t
def ax_C (G : ax_G) (U : State) : Prop := G.1 ≤ U.heap.size ∧ (∀ w ∈ lw_tbl, ax_okw w = true → w.before #[] U = true) ∧ va_K G.2.1 vwCl (ax_tys G) U ∧ ax_X G U U.heap
theorem ax_word {w : Cond} (hok : ax_okw w = true) {A A' : Array Value} {s U : State} (hW : s.WarmedH U.vm) (h : w.before A s = true) : w.before A' U = true := by
  cases hg : goodWord w with
  | true => exact word_at hW (good_of_word hg) h
  | false =>
    have hn : ax_nest w = true := by simpa [ax_okw, hg] using hok
    cases w with
    | fieldLinkNest a i b n d hh => exact va_Nw.use rfl (va_Nw.warmF hW (va_Nw.of rfl h))
    | methodLinkNest a i x hh => exact va_Nw.use rfl (va_Nw.warmM hW (va_Nw.of rfl h))
    | _ => simp [ax_nest] at hn
theorem ax_use {G : ax_G} {s : State} (hC : ax_C G s) {w : Cond} (hm : w ∈ lw_tbl) (hok : ax_okw w = true) {A : Array Value} : w.before A s = true := ax_word hok (State.WarmedH.refl s) (hC.2.1 w hm hok)
theorem ax_X_kept {G : ax_G} {s U : State} {H H1 : Heap} (hW : s.WarmedH U.vm) (hq : ∀ a : Nat, a < H.size → ¬ ax_A G a → H1[a]? = H[a]?) (h : ax_X G s H) : ax_X G U H1 := by
  obtain ⟨h1, h2, h3, h4⟩ := h
  refine ⟨vx_Zq.moved hW.alike (h1.kept hq), vx_Zq.moved hW.alike (h2.kept hq), va_Z.moved hW.alike (h3.kept hq), fun j t ht => ?_⟩
  obtain ⟨a1, a2, a3, a4, a5⟩ := h4 j t ht
  exact ⟨vk_R.warm hW a1, va_O.moved hW.alike (a2.kept hq), va_OF.moved hW.alike (a3.kept hq), va_OF.moved hW.alike (a4.kept hq), va_T.moved hW.alike (a5.kept hq)⟩
theorem ax_C_kept {G : ax_G} {s U : State} (hC : ax_C G s) (hW : s.WarmedH U.vm) (hz : s.heap.size ≤ U.heap.size) (hq : ∀ a : Nat, a < s.heap.size → ¬ ax_A G a → U.heap[a]? = s.heap[a]?) : ax_C G U :=
  ⟨Nat.le_trans hC.1 hz, fun w hm hok => ax_word hok hW (hC.2.1 w hm hok), va_K.moved hW.alike hC.2.2.1, ax_X_kept hW hq hC.2.2.2⟩
/-! ===== locals ===== -/
def ax_ll (G : ax_G) (L : List (Option ax_V)) : List (Nat × Value) := (List.range L.length).filterMap (fun i => match L[i]? with
  | some (some v) => some (i, ax_tv G v)
  | _ => none)
theorem ax_ll_mem {G : ax_G} {L : List (Option ax_V)} {q : Nat × Value} : q ∈ ax_ll G L ↔ ∃ v, L[q.1]? = some (some v) ∧ q.2 = ax_tv G v := by
  unfold ax_ll
  rw [List.mem_filterMap]
  constructor
  · rintro ⟨i, hi, h⟩
    split at h
    · rename_i v hv
      cases h
      exact ⟨v, hv, rfl⟩
    · cases h
  · rintro ⟨v, h1, h2⟩
    have hlt : q.1 < L.length := (List.getElem?_eq_some_iff.mp h1).1
    refine ⟨q.1, List.mem_range.mpr hlt, ?_⟩
    rw [h1]
    show some (q.1, ax_tv G v) = some q
    rw [← h2]
def ax_lh (G : ax_G) (ls : Array Slot) (nL : Nat) (L : List (Option ax_V)) : Prop := lv_has ls nL (ax_ll G L)
theorem ax_lat {G : ax_G} {ls : Array Slot} {nL : Nat} {L : List (Option ax_V)} (h : ax_lh G ls nL L) {i : Nat} {v : ax_V} (hi : L[i]? = some (some v)) : ls[i]? = some (.val (ax_tv G v)) := h.2.2 (i, ax_tv G v) (ax_ll_mem.mpr ⟨v, hi, rfl⟩)
/-- no long right ahead of place i -/
def ax_ok1 (L : List (Option ax_V)) (i : Nat) : Bool := match i with
  | 0 => true
  | j + 1 => match L[j]? with
    | some (some (.inr (.inl _))) => false
    | _ => true
theorem ax_cat (G : ax_G) (v : ax_V) (h : (ax_tv G v).category = 2) : ∃ x, v = av_l x := by
  rcases v with x | x | n | j
  · cases h
  · exact ⟨x, rfl⟩
  · cases n <;> cases h
  · cases h
theorem ax_set1 {G : ax_G} {ls ls' : Array Slot} {nL i : Nat} {L : List (Option ax_V)} {v : ax_V} (hok : ax_ok1 L i = true) (h : lv_has ls' nL ((i, ax_tv G v) :: (ax_ll G L).filter (fun q => !(q.1 == i) && !(q.1 + 1 == i && q.2.category == 2)))) : ax_lh G ls' nL (L.set i (some v)) := by
  refine ⟨h.1, h.2.1, fun q hq => ?_⟩
  obtain ⟨w, h1, h2⟩ := ax_ll_mem.mp hq
  refine h.2.2 q ?_
  by_cases e : q.1 = i
  · rw [List.getElem?_set, if_pos e.symm] at h1
    split at h1
    · cases h1
      refine List.mem_cons.mpr (Or.inl ?_)
      rw [← e, ← h2]
    · cases h1
  · rw [List.getElem?_set_ne (fun z => e z.symm)] at h1
    refine List.mem_cons_of_mem _ (List.mem_filter.mpr ⟨ax_ll_mem.mpr ⟨w, h1, h2⟩, ?_⟩)
    by_cases e2 : q.1 + 1 = i
    · have hc : ¬ q.2.category = 2 := by
        rw [h2]
        intro hc
        obtain ⟨x, rfl⟩ := ax_cat G w hc
        rw [← e2] at hok
        simp [ax_ok1, h1] at hok
      simp [e, hc]
    · simp [e, e2]
theorem ax_set2 {G : ax_G} {ls ls' : Array Slot} {nL i : Nat} {L : List (Option ax_V)} {v : ax_V} (hok : ax_ok1 L i = true) (h : lv_has ls' nL ((i, ax_tv G v) :: (ax_ll G L).filter (fun q => !(q.1 == i) && (!(q.1 == i + 1) && !(q.1 + 1 == i && q.2.category == 2))))) : ax_lh G ls' nL ((L.set i (some v)).set (i + 1) none) := by
  refine ⟨h.1, h.2.1, fun q hq => ?_⟩
  obtain ⟨w, h1, h2⟩ := ax_ll_mem.mp hq
  refine h.2.2 q ?_
  by_cases e3 : q.1 = i + 1
  · rw [List.getElem?_set, if_pos e3.symm] at h1
    split at h1 <;> cases h1
  · rw [List.getElem?_set_ne (fun z => e3 z.symm)] at h1
    by_cases e : q.1 = i
    · rw [List.getElem?_set, if_pos e.symm] at h1
      split at h1
      · cases h1
        refine List.mem_cons.mpr (Or.inl ?_)
        rw [← e, ← h2]
      · cases h1
    · rw [List.getElem?_set_ne (fun z => e z.symm)] at h1
      refine List.mem_cons_of_mem _ (List.mem_filter.mpr ⟨ax_ll_mem.mpr ⟨w, h1, h2⟩, ?_⟩)
      by_cases e2 : q.1 + 1 = i
      · have hc : ¬ q.2.category = 2 := by
          rw [h2]
          intro hc
          obtain ⟨x, rfl⟩ := ax_cat G w hc
          rw [← e2] at hok
          simp [ax_ok1, h1] at hok
        simp [e, e3, hc]
      · simp [e, e2, e3]
/-! ===== the judgement ===== -/
abbrev ax_F : Type := Program → Env → Room → State → MethodId → Array Value → List Frame → Method → Code → (State → Prop) → Prop
def ax_B (G : ax_G) (k : ax_K) (p : Program) (s : State) (m : MethodId) (meth : Method) (cd : Code) : Prop := p.tables.exec = Jvm.exec ∧ cd.code = k.2.1 ∧ cd.maxLocals = k.2.2.1 ∧ s.vm.findClass k.1.cls = some m.cls ∧ meth.locks = false ∧ meth.sig.returnType = k.2.2.2 ∧ meth.name = k.1.name ∧ ax_C G s
def ax_H (G : ax_G) (k : ax_K) (F : ax_F) (d c n : Nat) (M : ax_M) (L : List (Option ax_V)) (p : Program) (e : Env) (R : Room) (s : State) (m : MethodId) (args : Array Value) (below : List Frame) (meth : Method) (cd : Code) (Z : State → Prop) (H : Heap) (locs : List Loc) (cells slots : Nat) (ls : Array Slot) : Prop :=
  ax_B G k p s m meth cd ∧ F p e R s m args below meth cd Z ∧ (d ≤ R.frames ∧ 80 * d ≤ R.locals ∧ cells + c ≤ R.cells ∧ slots + n ≤ R.slots) ∧ va_S (ax_A G) s.heap H locs ∧ ax_R G M H ∧ ax_lh G ls k.2.2.1 L
def ax_W (l : Launch) (G : ax_G) (k : ax_K) (F : ax_F) (d c n : Nat) (M : ax_M) (pc : Nat) (L : List (Option ax_V)) (S : List ax_V) : Prop :=
  ∀ (p : Program) (e : Env) (R : Room) (s : State) (m : MethodId) (args : Array Value) (below : List Frame) (meth : Method) (cd : Code) (Z : State → Prop) (H : Heap) (locs : List Loc) (cells slots : Nat) (ls : Array Slot),
    ax_H G k F d c n M L p e R s m args below meth cd Z H locs cells slots ls → W p l e R s m args below meth cd H locs cells slots Z (F0 m pc ls (S.map (ax_tv G)))
section AXR
variable {l : Launch} {G : ax_G} {k : ax_K} {F : ax_F} {d c n : Nat} {M : ax_M} {pc : Nat} {L : List (Option ax_V)} {S : List ax_V}

theorem ax_iadd {x y : Int32} (hd : decode k.2.1 pc = .ok (.iadd, 1)) (kk : ax_W l G k F d c n M (pc + 1) L (av_i (x + y) :: S)) : ax_W l G k F d c n M pc L (av_i y :: av_i x :: S) := by
  intro p e R s m args below meth cd Z H locs cells slots ls h
  exact lv_iadd h.1.1 h.1.2.1 hd (kk p e R s m args below meth cd Z H locs cells slots ls h)
theorem ax_isub {x y : Int32} (hd : decode k.2.1 pc = .ok (.isub, 1)) (kk : ax_W l G k F d c n M (pc + 1) L (av_i (x - y) :: S)) : ax_W l G k F d c n M pc L (av_i y :: av_i x :: S) := by
  intro p e R s m args below meth cd Z H locs cells slots ls h
  exact lv_isub h.1.1 h.1.2.1 hd (kk p e R s m args below meth cd Z H locs cells slots ls h)
theorem ax_imul {x y : Int32} (hd : decode k.2.1 pc = .ok (.imul, 1)) (kk : ax_W l G k F d c n M (pc + 1) L (av_i (x * y) :: S)) : ax_W l G k F d c n M pc L (av_i y :: av_i x :: S) := by
  intro p e R s m args below meth cd Z H locs cells slots ls h
  exact lv_imul h.1.1 h.1.2.1 hd (kk p e R s m args below meth cd Z H locs cells slots ls h)
theorem ax_iand {x y : Int32} (hd : decode k.2.1 pc = .ok (.iand, 1)) (kk : ax_W l G k F d c n M (pc + 1) L (av_i (x &&& y) :: S)) : ax_W l G k F d c n M pc L (av_i y :: av_i x :: S) := by
  intro p e R s m args below meth cd Z H locs cells slots ls h
  exact lv_iand h.1.1 h.1.2.1 hd (kk p e R s m args below meth cd Z H locs cells slots ls h)
theorem ax_ior {x y : Int32} (hd : decode k.2.1 pc = .ok (.ior, 1)) (kk : ax_W l G k F d c n M (pc + 1) L (av_i (x ||| y) :: S)) : ax_W l G k F d c n M pc L (av_i y :: av_i x :: S) := by
  intro p e R s m args below meth cd Z H locs cells slots ls h
  exact lv_ior h.1.1 h.1.2.1 hd (kk p e R s m args below meth cd Z H locs cells slots ls h)
theorem ax_ineg {x : Int32} (hd : decode k.2.1 pc = .ok (.ineg, 1)) (kk : ax_W l G k F d c n M (pc + 1) L (av_i (-x) :: S)) : ax_W l G k F d c n M pc L (av_i x :: S) := by
  intro p e R s m args below meth cd Z H locs cells slots ls h
  exact lv_ineg h.1.1 h.1.2.1 hd (kk p e R s m args below meth cd Z H locs cells slots ls h)
theorem ax_ishl {x y : Int32} (hd : decode k.2.1 pc = .ok (.ishl, 1)) (kk : ax_W l G k F d c n M (pc + 1) L (av_i (x <<< (y &&& 31)) :: S)) : ax_W l G k F d c n M pc L (av_i y :: av_i x :: S) := by
  intro p e R s m args below meth cd Z H locs cells slots ls h
  exact lv_ishl h.1.1 h.1.2.1 hd (kk p e R s m args below meth cd Z H locs cells slots ls h)
theorem ax_ishr {x y : Int32} (hd : decode k.2.1 pc = .ok (.ishr, 1)) (kk : ax_W l G k F d c n M (pc + 1) L (av_i (x >>> (y &&& 31)) :: S)) : ax_W l G k F d c n M pc L (av_i y :: av_i x :: S) := by
  intro p e R s m args below meth cd Z H locs cells slots ls h
  exact lv_ishr h.1.1 h.1.2.1 hd (kk p e R s m args below meth cd Z H locs cells slots ls h)
theorem ax_ladd {x y : Int64} (hd : decode k.2.1 pc = .ok (.ladd, 1)) (kk : ax_W l G k F d c n M (pc + 1) L (av_l (x + y) :: S)) : ax_W l G k F d c n M pc L (av_l y :: av_l x :: S) := by
  intro p e R s m args below meth cd Z H locs cells slots ls h
  exact lv_ladd h.1.1 h.1.2.1 hd (kk p e R s m args below meth cd Z H locs cells slots ls h)
theorem ax_lmul {x y : Int64} (hd : decode k.2.1 pc = .ok (.lmul, 1)) (kk : ax_W l G k F d c n M (pc + 1) L (av_l (x * y) :: S)) : ax_W l G k F d c n M pc L (av_l y :: av_l x :: S) := by
  intro p e R s m args below meth cd Z H locs cells slots ls h
  exact lv_lmul h.1.1 h.1.2.1 hd (kk p e R s m args below meth cd Z H locs cells slots ls h)
theorem ax_land {x y : Int64} (hd : decode k.2.1 pc = .ok (.land, 1)) (kk : ax_W l G k F d c n M (pc + 1) L (av_l (x &&& y) :: S)) : ax_W l G k F d c n M pc L (av_l y :: av_l x :: S) := by
  intro p e R s m args below meth cd Z H locs cells slots ls h
  exact lv_land h.1.1 h.1.2.1 hd (kk p e R s m args below meth cd Z H locs cells slots ls h)
theorem ax_lor {x y : Int64} (hd : decode k.2.1 pc = .ok (.lor, 1)) (kk : ax_W l G k F d c n M (pc + 1) L (av_l (x ||| y) :: S)) : ax_W l G k F d c n M pc L (av_l y :: av_l x :: S) := by
  intro p e R s m args below meth cd Z H locs cells slots ls h
  exact lv_lor h.1.1 h.1.2.1 hd (kk p e R s m args below meth cd Z H locs cells slots ls h)
theorem ax_idiv {x y : Int32} (hd : decode k.2.1 pc = .ok (.idiv, 1)) (hne : ¬ y = 0) (kk : ax_W l G k F d c n M (pc + 1) L (av_i (x / y) :: S)) : ax_W l G k F d c n M pc L (av_i y :: av_i x :: S) := by
  intro p e R s m args below meth cd Z H locs cells slots ls h
  exact lv_idiv h.1.1 h.1.2.1 hd hne (kk p e R s m args below meth cd Z H locs cells slots ls h)
theorem ax_irem {x y : Int32} (hd : decode k.2.1 pc = .ok (.irem, 1)) (hne : ¬ y = 0) (kk : ax_W l G k F d c n M (pc + 1) L (av_i (x - x / y * y) :: S)) : ax_W l G k F d c n M pc L (av_i y :: av_i x :: S) := by
  intro p e R s m args below meth cd Z H locs cells slots ls h
  exact lv_irem h.1.1 h.1.2.1 hd hne (kk p e R s m args below meth cd Z H locs cells slots ls h)
theorem ax_ldiv {x y : Int64} (hd : decode k.2.1 pc = .ok (.ldiv, 1)) (hne : ¬ y = 0) (kk : ax_W l G k F d c n M (pc + 1) L (av_l (x / y) :: S)) : ax_W l G k F d c n M pc L (av_l y :: av_l x :: S) := by
  intro p e R s m args below meth cd Z H locs cells slots ls h
  exact lv_ldiv h.1.1 h.1.2.1 hd hne (kk p e R s m args below meth cd Z H locs cells slots ls h)
theorem ax_lrem {x y : Int64} (hd : decode k.2.1 pc = .ok (.lrem, 1)) (hne : ¬ y = 0) (kk : ax_W l G k F d c n M (pc + 1) L (av_l (x - x / y * y) :: S)) : ax_W l G k F d c n M pc L (av_l y :: av_l x :: S) := by
  intro p e R s m args below meth cd Z H locs cells slots ls h
  exact lv_lrem h.1.1 h.1.2.1 hd hne (kk p e R s m args below meth cd Z H locs cells slots ls h)
theorem ax_iushr {x y : Int32} (hd : decode k.2.1 pc = .ok (.iushr, 1)) (kk : ax_W l G k F d c n M (pc + 1) L (av_i (x.toUInt32 >>> (y.toUInt32 &&& Int32.toUInt32 31)).toInt32 :: S)) : ax_W l G k F d c n M pc L (av_i y :: av_i x :: S) := by
  intro p e R s m args below meth cd Z H locs cells slots ls h
  exact lv_iushr h.1.1 h.1.2.1 hd rfl (kk p e R s m args below meth cd Z H locs cells slots ls h)
theorem ax_lushr {x : Int64} {y : Int32} (hd : decode k.2.1 pc = .ok (.lushr, 1)) (kk : ax_W l G k F d c n M (pc + 1) L (av_l (x.toUInt64 >>> (y.toInt64.toUInt64 &&& Int64.toUInt64 63)).toInt64 :: S)) : ax_W l G k F d c n M pc L (av_i y :: av_l x :: S) := by
  intro p e R s m args below meth cd Z H locs cells slots ls h
  exact lv_lushr h.1.1 h.1.2.1 hd rfl (kk p e R s m args below meth cd Z H locs cells slots ls h)
theorem ax_lshl {x : Int64} {y : Int32} (hd : decode k.2.1 pc = .ok (.lshl, 1)) (kk : ax_W l G k F d c n M (pc + 1) L (av_l (x <<< (y.toInt64 &&& 63)) :: S)) : ax_W l G k F d c n M pc L (av_i y :: av_l x :: S) := by
  intro p e R s m args below meth cd Z H locs cells slots ls h
  exact lv_lshl h.1.1 h.1.2.1 hd rfl (kk p e R s m args below meth cd Z H locs cells slots ls h)
theorem ax_lshr {x : Int64} {y : Int32} (hd : decode k.2.1 pc = .ok (.lshr, 1)) (kk : ax_W l G k F d c n M (pc + 1) L (av_l (x >>> (y.toInt64 &&& 63)) :: S)) : ax_W l G k F d c n M pc L (av_i y :: av_l x :: S) := by
  intro p e R s m args below meth cd Z H locs cells slots ls h
  exact lv_lshr h.1.1 h.1.2.1 hd rfl (kk p e R s m args below meth cd Z H locs cells slots ls h)
theorem ax_i2l {x : Int32} (hd : decode k.2.1 pc = .ok (.i2l, 1)) (kk : ax_W l G k F d c n M (pc + 1) L (av_l x.toInt64 :: S)) : ax_W l G k F d c n M pc L (av_i x :: S) := by
  intro p e R s m args below meth cd Z H locs cells slots ls h
  exact lv_i2l h.1.1 h.1.2.1 hd rfl (kk p e R s m args below meth cd Z H locs cells slots ls h)
theorem ax_i2c {x : Int32} (hd : decode k.2.1 pc = .ok (.i2c, 1)) (kk : ax_W l G k F d c n M (pc + 1) L (av_i (x.toUInt32 % 65536).toInt32 :: S)) : ax_W l G k F d c n M pc L (av_i x :: S) := by
  intro p e R s m args below meth cd Z H locs cells slots ls h
  exact lv_i2c h.1.1 h.1.2.1 hd rfl (kk p e R s m args below meth cd Z H locs cells slots ls h)
theorem ax_lcmp {x y : Int64} (hd : decode k.2.1 pc = .ok (.lcmp, 1)) (kk : ax_W l G k F d c n M (pc + 1) L (av_i (lg_cmp x y) :: S)) : ax_W l G k F d c n M pc L (av_l y :: av_l x :: S) := by
  intro p e R s m args below meth cd Z H locs cells slots ls h
  exact W.lcmp h.1.1 h.1.2.1 hd (kk p e R s m args below meth cd Z H locs cells slots ls h)
theorem ax_iconst {z : Int} {v : Int32} (hd : decode k.2.1 pc = .ok (.iconst z, 1)) (hv : Int32.ofInt z = v) (kk : ax_W l G k F d c n M (pc + 1) L (av_i v :: S)) : ax_W l G k F d c n M pc L (S) := by
  intro p e R s m args below meth cd Z H locs cells slots ls h
  exact lv_iconst h.1.1 h.1.2.1 hd hv (kk p e R s m args below meth cd Z H locs cells slots ls h)
theorem ax_bipush {z : Int} {v : Int32} (hd : decode k.2.1 pc = .ok (.bipush z, 2)) (hv : (Int8.ofInt z).toInt32 = v) (kk : ax_W l G k F d c n M (pc + 2) L (av_i v :: S)) : ax_W l G k F d c n M pc L (S) := by
  intro p e R s m args below meth cd Z H locs cells slots ls h
  exact lv_bipush h.1.1 h.1.2.1 hd hv (kk p e R s m args below meth cd Z H locs cells slots ls h)
theorem ax_sipush {z : Int} {v : Int32} (hd : decode k.2.1 pc = .ok (.sipush z, 3)) (hv : (Int16.ofInt z).toInt32 = v) (kk : ax_W l G k F d c n M (pc + 3) L (av_i v :: S)) : ax_W l G k F d c n M pc L (S) := by
  intro p e R s m args below meth cd Z H locs cells slots ls h
  exact lv_sipush h.1.1 h.1.2.1 hd hv (kk p e R s m args below meth cd Z H locs cells slots ls h)
theorem ax_lconst {z : Fin 2} {v : Int64} (hd : decode k.2.1 pc = .ok (.lconst z, 1)) (hv : Int64.ofNat (z : Nat) = v) (kk : ax_W l G k F d c n M (pc + 1) L (av_l v :: S)) : ax_W l G k F d c n M pc L (S) := by
  intro p e R s m args below meth cd Z H locs cells slots ls h
  exact lv_lconst h.1.1 h.1.2.1 hd hv (kk p e R s m args below meth cd Z H locs cells slots ls h)
theorem ax_ldc {ix : Nat} {v : Int32} (hd : decode k.2.1 pc = .ok (.ldc ix, 2)) (hm : Cond.constant k.1.cls ix v ∈ lw_tbl) (kk : ax_W l G k F d c n M (pc + 2) L (av_i v :: S)) : ax_W l G k F d c n M pc L (S) := by
  intro p e R s m args below meth cd Z H locs cells slots ls h
  exact lv_ldc h.1.1 h.1.2.1 h.1.2.2.2.1 (ax_use h.1.2.2.2.2.2.2.2 hm rfl) hd (kk p e R s m args below meth cd Z H locs cells slots ls h)
theorem ax_ldc_w {ix : Nat} {v : Int32} (hd : decode k.2.1 pc = .ok (.ldc_w ix, 3)) (hm : Cond.constant k.1.cls ix v ∈ lw_tbl) (kk : ax_W l G k F d c n M (pc + 3) L (av_i v :: S)) : ax_W l G k F d c n M pc L (S) := by
  intro p e R s m args below meth cd Z H locs cells slots ls h
  exact lv_ldcw h.1.1 h.1.2.1 h.1.2.2.2.1 (ax_use h.1.2.2.2.2.2.2.2 hm rfl) hd (kk p e R s m args below meth cd Z H locs cells slots ls h)
theorem ax_ldc2 {ix : Nat} {v : Int64} (hd : decode k.2.1 pc = .ok (.ldc2_w ix, 3)) (hm : Cond.constantLong k.1.cls ix v ∈ lw_tbl) (kk : ax_W l G k F d c n M (pc + 3) L (av_l v :: S)) : ax_W l G k F d c n M pc L (S) := by
  intro p e R s m args below meth cd Z H locs cells slots ls h
  exact lv_ldc2 h.1.1 h.1.2.1 h.1.2.2.2.1 (ax_use h.1.2.2.2.2.2.2.2 hm rfl) hd (kk p e R s m args below meth cd Z H locs cells slots ls h)
theorem ax_iload_n {q : Fin 4} {x : Int32} (hd : decode k.2.1 pc = .ok (.iload_n q, 1)) (hl : L[(q : Nat)]? = some (some (av_i x))) (kk : ax_W l G k F d c n M (pc + 1) L (av_i x :: S)) : ax_W l G k F d c n M pc L (S) := by
  intro p e R s m args below meth cd Z H locs cells slots ls h
  exact lv_iload_n h.1.1 h.1.2.1 hd rfl (ax_lat h.2.2.2.2.2 hl) (kk p e R s m args below meth cd Z H locs cells slots ls h)
theorem ax_iload {q : Nat} {x : Int32} (hd : decode k.2.1 pc = .ok (.iload q, 2)) (hl : L[q]? = some (some (av_i x))) (kk : ax_W l G k F d c n M (pc + 2) L (av_i x :: S)) : ax_W l G k F d c n M pc L (S) := by
  intro p e R s m args below meth cd Z H locs cells slots ls h
  exact lv_iload h.1.1 h.1.2.1 hd (ax_lat h.2.2.2.2.2 hl) (kk p e R s m args below meth cd Z H locs cells slots ls h)
theorem ax_lload_n {q : Fin 4} {x : Int64} (hd : decode k.2.1 pc = .ok (.lload_n q, 1)) (hl : L[(q : Nat)]? = some (some (av_l x))) (kk : ax_W l G k F d c n M (pc + 1) L (av_l x :: S)) : ax_W l G k F d c n M pc L (S) := by
  intro p e R s m args below meth cd Z H locs cells slots ls h
  exact lv_lload_n h.1.1 h.1.2.1 hd rfl (ax_lat h.2.2.2.2.2 hl) (kk p e R s m args below meth cd Z H locs cells slots ls h)
theorem ax_lload {q : Nat} {x : Int64} (hd : decode k.2.1 pc = .ok (.lload q, 2)) (hl : L[q]? = some (some (av_l x))) (kk : ax_W l G k F d c n M (pc + 2) L (av_l x :: S)) : ax_W l G k F d c n M pc L (S) := by
  intro p e R s m args below meth cd Z H locs cells slots ls h
  exact lv_lload h.1.1 h.1.2.1 hd (ax_lat h.2.2.2.2.2 hl) (kk p e R s m args below meth cd Z H locs cells slots ls h)
theorem ax_aload_n {q : Fin 4} {x : Nat ⊕ Nat} (hd : decode k.2.1 pc = .ok (.aload_n q, 1)) (hl : L[(q : Nat)]? = some (some (.inr (.inr x)))) (kk : ax_W l G k F d c n M (pc + 1) L (.inr (.inr x) :: S)) : ax_W l G k F d c n M pc L (S) := by
  intro p e R s m args below meth cd Z H locs cells slots ls h
  rcases x with x | x
  · cases x with
    | zero => exact lv_aload_nN h.1.1 h.1.2.1 hd rfl (ax_lat h.2.2.2.2.2 hl) (kk p e R s m args below meth cd Z H locs cells slots ls h)
    | succ x => exact lv_aload_n h.1.1 h.1.2.1 hd rfl (ax_lat h.2.2.2.2.2 hl) (kk p e R s m args below meth cd Z H locs cells slots ls h)
  · exact lv_aload_n h.1.1 h.1.2.1 hd rfl (ax_lat h.2.2.2.2.2 hl) (kk p e R s m args below meth cd Z H locs cells slots ls h)
theorem ax_aload {q : Nat} {x : Nat ⊕ Nat} (hd : decode k.2.1 pc = .ok (.aload q, 2)) (hl : L[q]? = some (some (.inr (.inr x)))) (kk : ax_W l G k F d c n M (pc + 2) L (.inr (.inr x) :: S)) : ax_W l G k F d c n M pc L (S) := by
  intro p e R s m args below meth cd Z H locs cells slots ls h
  rcases x with x | x
  · cases x with
    | zero => exact lv_aloadN h.1.1 h.1.2.1 hd (ax_lat h.2.2.2.2.2 hl) (kk p e R s m args below meth cd Z H locs cells slots ls h)
    | succ x => exact lv_aload h.1.1 h.1.2.1 hd (ax_lat h.2.2.2.2.2 hl) (kk p e R s m args below meth cd Z H locs cells slots ls h)
  · exact lv_aload h.1.1 h.1.2.1 hd (ax_lat h.2.2.2.2.2 hl) (kk p e R s m args below meth cd Z H locs cells slots ls h)
theorem ax_istore_n {q : Fin 4} {x : Int32} (hd : decode k.2.1 pc = .ok (.istore_n q, 1)) (hn : (q : Nat) < k.2.2.1) (hok : ax_ok1 L q = true) (kk : ax_W l G k F d c n M (pc + 1) (L.set (q : Nat) (some (av_i x))) (S)) : ax_W l G k F d c n M pc L (av_i x :: S) := by
  intro p e R s m args below meth cd Z H locs cells slots ls h
  exact lv_istore_n h.1.1 h.1.2.1 hd rfl h.2.2.2.2.2 hn rfl (fun ls2 h2 => kk p e R s m args below meth cd Z H locs cells slots ls2 ⟨h.1, h.2.1, h.2.2.1, h.2.2.2.1, h.2.2.2.2.1, ax_set1 (ls := ls) (v := av_i x) hok h2⟩)
theorem ax_istore {q : Nat} {x : Int32} (hd : decode k.2.1 pc = .ok (.istore q, 2)) (hn : q < k.2.2.1) (hok : ax_ok1 L q = true) (kk : ax_W l G k F d c n M (pc + 2) (L.set q (some (av_i x))) (S)) : ax_W l G k F d c n M pc L (av_i x :: S) := by
  intro p e R s m args below meth cd Z H locs cells slots ls h
  exact lv_istore h.1.1 h.1.2.1 hd h.2.2.2.2.2 hn rfl (fun ls2 h2 => kk p e R s m args below meth cd Z H locs cells slots ls2 ⟨h.1, h.2.1, h.2.2.1, h.2.2.2.1, h.2.2.2.2.1, ax_set1 (ls := ls) (v := av_i x) hok h2⟩)
theorem ax_lstore_n {q : Fin 4} {x : Int64} (hd : decode k.2.1 pc = .ok (.lstore_n q, 1)) (hn : (q : Nat) + 1 < k.2.2.1) (hok : ax_ok1 L q = true) (kk : ax_W l G k F d c n M (pc + 1) ((L.set (q : Nat) (some (av_l x))).set ((q : Nat) + 1) none) (S)) : ax_W l G k F d c n M pc L (av_l x :: S) := by
  intro p e R s m args below meth cd Z H locs cells slots ls h
  exact lv_lstore_n h.1.1 h.1.2.1 hd rfl h.2.2.2.2.2 hn rfl (fun ls2 h2 => kk p e R s m args below meth cd Z H locs cells slots ls2 ⟨h.1, h.2.1, h.2.2.1, h.2.2.2.1, h.2.2.2.2.1, ax_set2 (ls := ls) (v := av_l x) hok h2⟩)
theorem ax_lstore {q : Nat} {x : Int64} (hd : decode k.2.1 pc = .ok (.lstore q, 2)) (hn : q + 1 < k.2.2.1) (hok : ax_ok1 L q = true) (kk : ax_W l G k F d c n M (pc + 2) ((L.set q (some (av_l x))).set (q + 1) none) (S)) : ax_W l G k F d c n M pc L (av_l x :: S) := by
  intro p e R s m args below meth cd Z H locs cells slots ls h
  exact lv_lstore h.1.1 h.1.2.1 hd h.2.2.2.2.2 hn rfl (fun ls2 h2 => kk p e R s m args below meth cd Z H locs cells slots ls2 ⟨h.1, h.2.1, h.2.2.1, h.2.2.2.1, h.2.2.2.2.1, ax_set2 (ls := ls) (v := av_l x) hok h2⟩)
theorem ax_astore_n {q : Fin 4} {x : Nat ⊕ Nat} (hd : decode k.2.1 pc = .ok (.astore_n q, 1)) (hn : (q : Nat) < k.2.2.1) (hok : ax_ok1 L q = true) (kk : ax_W l G k F d c n M (pc + 1) (L.set (q : Nat) (some (.inr (.inr x)))) (S)) : ax_W l G k F d c n M pc L (.inr (.inr x) :: S) := by
  intro p e R s m args below meth cd Z H locs cells slots ls h
  rcases x with x | x
  · cases x with
    | zero => exact lv_astore_nN h.1.1 h.1.2.1 hd rfl h.2.2.2.2.2 hn rfl (fun ls2 h2 => kk p e R s m args below meth cd Z H locs cells slots ls2 ⟨h.1, h.2.1, h.2.2.1, h.2.2.2.1, h.2.2.2.2.1, ax_set1 (ls := ls) (v := av_r 0) hok h2⟩)
    | succ x => exact lv_astore_n h.1.1 h.1.2.1 hd rfl h.2.2.2.2.2 hn rfl (fun ls2 h2 => kk p e R s m args below meth cd Z H locs cells slots ls2 ⟨h.1, h.2.1, h.2.2.1, h.2.2.2.1, h.2.2.2.2.1, ax_set1 (ls := ls) (v := av_r (x + 1)) hok h2⟩)
  · exact lv_astore_n h.1.1 h.1.2.1 hd rfl h.2.2.2.2.2 hn rfl (fun ls2 h2 => kk p e R s m args below meth cd Z H locs cells slots ls2 ⟨h.1, h.2.1, h.2.2.1, h.2.2.2.1, h.2.2.2.2.1, ax_set1 (ls := ls) (v := av_o x) hok h2⟩)
theorem ax_astore {q : Nat} {x : Nat ⊕ Nat} (hd : decode k.2.1 pc = .ok (.astore q, 2)) (hn : q < k.2.2.1) (hok : ax_ok1 L q = true) (kk : ax_W l G k F d c n M (pc + 2) (L.set q (some (.inr (.inr x)))) (S)) : ax_W l G k F d c n M pc L (.inr (.inr x) :: S) := by
  intro p e R s m args below meth cd Z H locs cells slots ls h
  rcases x with x | x
  · cases x with
    | zero => exact lv_astoreN h.1.1 h.1.2.1 hd h.2.2.2.2.2 hn rfl (fun ls2 h2 => kk p e R s m args below meth cd Z H locs cells slots ls2 ⟨h.1, h.2.1, h.2.2.1, h.2.2.2.1, h.2.2.2.2.1, ax_set1 (ls := ls) (v := av_r 0) hok h2⟩)
    | succ x => exact lv_astore h.1.1 h.1.2.1 hd h.2.2.2.2.2 hn rfl (fun ls2 h2 => kk p e R s m args below meth cd Z H locs cells slots ls2 ⟨h.1, h.2.1, h.2.2.1, h.2.2.2.1, h.2.2.2.2.1, ax_set1 (ls := ls) (v := av_r (x + 1)) hok h2⟩)
  · exact lv_astore h.1.1 h.1.2.1 hd h.2.2.2.2.2 hn rfl (fun ls2 h2 => kk p e R s m args below meth cd Z H locs cells slots ls2 ⟨h.1, h.2.1, h.2.2.1, h.2.2.2.1, h.2.2.2.2.1, ax_set1 (ls := ls) (v := av_o x) hok h2⟩)
theorem ax_iinc {q : Nat} {z : Int} {x v : Int32} (hd : decode k.2.1 pc = .ok (.iinc q z, 3)) (hl : L[q]? = some (some (av_i x))) (hv : Int32.ofInt z = v) (hn : q < k.2.2.1) (hok : ax_ok1 L q = true) (kk : ax_W l G k F d c n M (pc + 3) (L.set q (some (av_i (x + v)))) (S)) : ax_W l G k F d c n M pc L (S) := by
  intro p e R s m args below meth cd Z H locs cells slots ls h
  subst hv
  obtain ⟨i, hi⟩ := List.getElem?_of_mem (ax_ll_mem (G := G) (q := (q, ax_tv G (av_i x))).mpr ⟨av_i x, hl, rfl⟩)
  exact lv_iinc h.1.1 h.1.2.1 hd h.2.2.2.2.2 hi rfl hn rfl (fun ls2 h2 => kk p e R s m args below meth cd Z H locs cells slots ls2 ⟨h.1, h.2.1, h.2.2.1, h.2.2.2.1, h.2.2.2.2.1, ax_set1 (ls := ls) (v := av_i (x + Int32.ofInt z)) hok h2⟩)
theorem ax_dup {v : ax_V} (hd : decode k.2.1 pc = .ok (.dup, 1)) (hv : (ax_tv G v).category = 1) (kk : ax_W l G k F d c n M (pc + 1) L (v :: v :: S)) : ax_W l G k F d c n M pc L (v :: S) := by
  intro p e R s m args below meth cd Z H locs cells slots ls h
  exact lv_dup h.1.1 h.1.2.1 hd hv (kk p e R s m args below meth cd Z H locs cells slots ls h)
theorem ax_pop {v : ax_V} (hd : decode k.2.1 pc = .ok (.pop, 1)) (hv : (ax_tv G v).category = 1) (kk : ax_W l G k F d c n M (pc + 1) L (S)) : ax_W l G k F d c n M pc L (v :: S) := by
  intro p e R s m args below meth cd Z H locs cells slots ls h
  exact lv_pop h.1.1 h.1.2.1 hd hv (kk p e R s m args below meth cd Z H locs cells slots ls h)
theorem ax_dup2 {v w : ax_V} (hd : decode k.2.1 pc = .ok (.dup2, 1)) (hv : (ax_tv G v).category = 1) (hw : (ax_tv G w).category = 1) (kk : ax_W l G k F d c n M (pc + 1) L (v :: w :: v :: w :: S)) : ax_W l G k F d c n M pc L (v :: w :: S) := by
  intro p e R s m args below meth cd Z H locs cells slots ls h
  exact lv_dup2_11 h.1.1 h.1.2.1 hd hv hw (kk p e R s m args below meth cd Z H locs cells slots ls h)
theorem ax_crf (n : Nat) : (ax_tv G (av_r n)).category = 1 := by cases n <;> rfl
theorem ax_if_eq {x : Int32} {off : Int} {tgt : Nat} (hd : decode k.2.1 pc = .ok (.ifCond .eq off, 3)) (ht : (pc : Int) + off = (tgt : Int)) (kt : x = 0 → ax_W l G k F d c n M tgt L (S)) (kf : ¬ x = 0 → ax_W l G k F d c n M (pc + 3) L (S)) : ax_W l G k F d c n M pc L (av_i x :: S) := by
  intro p e R s m args below meth cd Z H locs cells slots ls h
  exact lv_if_eq h.1.1 h.1.2.1 hd ht (fun hc => kt hc p e R s m args below meth cd Z H locs cells slots ls h) (fun hc => kf hc p e R s m args below meth cd Z H locs cells slots ls h)
theorem ax_icmp_eq {x y : Int32} {off : Int} {tgt : Nat} (hd : decode k.2.1 pc = .ok (.if_icmp .eq off, 3)) (ht : (pc : Int) + off = (tgt : Int)) (kt : x = y → ax_W l G k F d c n M tgt L (S)) (kf : ¬ x = y → ax_W l G k F d c n M (pc + 3) L (S)) : ax_W l G k F d c n M pc L (av_i y :: av_i x :: S) := by
  intro p e R s m args below meth cd Z H locs cells slots ls h
  exact lv_icmp_eq h.1.1 h.1.2.1 hd ht (fun hc => kt hc p e R s m args below meth cd Z H locs cells slots ls h) (fun hc => kf hc p e R s m args below meth cd Z H locs cells slots ls h)
theorem ax_if_ne {x : Int32} {off : Int} {tgt : Nat} (hd : decode k.2.1 pc = .ok (.ifCond .ne off, 3)) (ht : (pc : Int) + off = (tgt : Int)) (kt : ¬ x = 0 → ax_W l G k F d c n M tgt L (S)) (kf : x = 0 → ax_W l G k F d c n M (pc + 3) L (S)) : ax_W l G k F d c n M pc L (av_i x :: S) := by
  intro p e R s m args below meth cd Z H locs cells slots ls h
  exact lv_if_ne h.1.1 h.1.2.1 hd ht (fun hc => kt hc p e R s m args below meth cd Z H locs cells slots ls h) (fun hc => kf hc p e R s m args below meth cd Z H locs cells slots ls h)
theorem ax_icmp_ne {x y : Int32} {off : Int} {tgt : Nat} (hd : decode k.2.1 pc = .ok (.if_icmp .ne off, 3)) (ht : (pc : Int) + off = (tgt : Int)) (kt : ¬ x = y → ax_W l G k F d c n M tgt L (S)) (kf : x = y → ax_W l G k F d c n M (pc + 3) L (S)) : ax_W l G k F d c n M pc L (av_i y :: av_i x :: S) := by
  intro p e R s m args below meth cd Z H locs cells slots ls h
  exact lv_icmp_ne h.1.1 h.1.2.1 hd ht (fun hc => kt hc p e R s m args below meth cd Z H locs cells slots ls h) (fun hc => kf hc p e R s m args below meth cd Z H locs cells slots ls h)
theorem ax_if_lt {x : Int32} {off : Int} {tgt : Nat} (hd : decode k.2.1 pc = .ok (.ifCond .lt off, 3)) (ht : (pc : Int) + off = (tgt : Int)) (kt : x < 0 → ax_W l G k F d c n M tgt L (S)) (kf : ¬ x < 0 → ax_W l G k F d c n M (pc + 3) L (S)) : ax_W l G k F d c n M pc L (av_i x :: S) := by
  intro p e R s m args below meth cd Z H locs cells slots ls h
  exact lv_if_lt h.1.1 h.1.2.1 hd ht (fun hc => kt hc p e R s m args below meth cd Z H locs cells slots ls h) (fun hc => kf hc p e R s m args below meth cd Z H locs cells slots ls h)
theorem ax_icmp_lt {x y : Int32} {off : Int} {tgt : Nat} (hd : decode k.2.1 pc = .ok (.if_icmp .lt off, 3)) (ht : (pc : Int) + off = (tgt : Int)) (kt : x < y → ax_W l G k F d c n M tgt L (S)) (kf : ¬ x < y → ax_W l G k F d c n M (pc + 3) L (S)) : ax_W l G k F d c n M pc L (av_i y :: av_i x :: S) := by
  intro p e R s m args below meth cd Z H locs cells slots ls h
  exact lv_icmp_lt h.1.1 h.1.2.1 hd ht (fun hc => kt hc p e R s m args below meth cd Z H locs cells slots ls h) (fun hc => kf hc p e R s m args below meth cd Z H locs cells slots ls h)
theorem ax_if_ge {x : Int32} {off : Int} {tgt : Nat} (hd : decode k.2.1 pc = .ok (.ifCond .ge off, 3)) (ht : (pc : Int) + off = (tgt : Int)) (kt : 0 ≤ x → ax_W l G k F d c n M tgt L (S)) (kf : ¬ 0 ≤ x → ax_W l G k F d c n M (pc + 3) L (S)) : ax_W l G k F d c n M pc L (av_i x :: S) := by
  intro p e R s m args below meth cd Z H locs cells slots ls h
  exact lv_if_ge h.1.1 h.1.2.1 hd ht (fun hc => kt hc p e R s m args below meth cd Z H locs cells slots ls h) (fun hc => kf hc p e R s m args below meth cd Z H locs cells slots ls h)
theorem ax_icmp_ge {x y : Int32} {off : Int} {tgt : Nat} (hd : decode k.2.1 pc = .ok (.if_icmp .ge off, 3)) (ht : (pc : Int) + off = (tgt : Int)) (kt : y ≤ x → ax_W l G k F d c n M tgt L (S)) (kf : ¬ y ≤ x → ax_W l G k F d c n M (pc + 3) L (S)) : ax_W l G k F d c n M pc L (av_i y :: av_i x :: S) := by
  intro p e R s m args below meth cd Z H locs cells slots ls h
  exact lv_icmp_ge h.1.1 h.1.2.1 hd ht (fun hc => kt hc p e R s m args below meth cd Z H locs cells slots ls h) (fun hc => kf hc p e R s m args below meth cd Z H locs cells slots ls h)
theorem ax_if_gt {x : Int32} {off : Int} {tgt : Nat} (hd : decode k.2.1 pc = .ok (.ifCond .gt off, 3)) (ht : (pc : Int) + off = (tgt : Int)) (kt : 0 < x → ax_W l G k F d c n M tgt L (S)) (kf : ¬ 0 < x → ax_W l G k F d c n M (pc + 3) L (S)) : ax_W l G k F d c n M pc L (av_i x :: S) := by
  intro p e R s m args below meth cd Z H locs cells slots ls h
  exact lv_if_gt h.1.1 h.1.2.1 hd ht (fun hc => kt hc p e R s m args below meth cd Z H locs cells slots ls h) (fun hc => kf hc p e R s m args below meth cd Z H locs cells slots ls h)
theorem ax_icmp_gt {x y : Int32} {off : Int} {tgt : Nat} (hd : decode k.2.1 pc = .ok (.if_icmp .gt off, 3)) (ht : (pc : Int) + off = (tgt : Int)) (kt : y < x → ax_W l G k F d c n M tgt L (S)) (kf : ¬ y < x → ax_W l G k F d c n M (pc + 3) L (S)) : ax_W l G k F d c n M pc L (av_i y :: av_i x :: S) := by
  intro p e R s m args below meth cd Z H locs cells slots ls h
  exact lv_icmp_gt h.1.1 h.1.2.1 hd ht (fun hc => kt hc p e R s m args below meth cd Z H locs cells slots ls h) (fun hc => kf hc p e R s m args below meth cd Z H locs cells slots ls h)
theorem ax_if_le {x : Int32} {off : Int} {tgt : Nat} (hd : decode k.2.1 pc = .ok (.ifCond .le off, 3)) (ht : (pc : Int) + off = (tgt : Int)) (kt : x ≤ 0 → ax_W l G k F d c n M tgt L (S)) (kf : ¬ x ≤ 0 → ax_W l G k F d c n M (pc + 3) L (S)) : ax_W l G k F d c n M pc L (av_i x :: S) := by
  intro p e R s m args below meth cd Z H locs cells slots ls h
  exact lv_if_le h.1.1 h.1.2.1 hd ht (fun hc => kt hc p e R s m args below meth cd Z H locs cells slots ls h) (fun hc => kf hc p e R s m args below meth cd Z H locs cells slots ls h)
theorem ax_icmp_le {x y : Int32} {off : Int} {tgt : Nat} (hd : decode k.2.1 pc = .ok (.if_icmp .le off, 3)) (ht : (pc : Int) + off = (tgt : Int)) (kt : x ≤ y → ax_W l G k F d c n M tgt L (S)) (kf : ¬ x ≤ y → ax_W l G k F d c n M (pc + 3) L (S)) : ax_W l G k F d c n M pc L (av_i y :: av_i x :: S) := by
  intro p e R s m args below meth cd Z H locs cells slots ls h
  exact lv_icmp_le h.1.1 h.1.2.1 hd ht (fun hc => kt hc p e R s m args below meth cd Z H locs cells slots ls h) (fun hc => kf hc p e R s m args below meth cd Z H locs cells slots ls h)
theorem ax_tableIn {dflt lo hi : Int} {offs : Array Int} {len : Nat} {x : Int32} {off : Int} {tgt : Nat} (hd : decode k.2.1 pc = .ok (.tableswitch dflt lo hi offs, len)) (h1 : ¬ x.toInt < lo) (h2 : ¬ hi < x.toInt) (ho : offs[(x.toInt - lo).toNat]? = some off) (ht : (pc : Int) + off = (tgt : Int)) (kk : ax_W l G k F d c n M tgt L (S)) : ax_W l G k F d c n M pc L (av_i x :: S) := by
  intro p e R s m args below meth cd Z H locs cells slots ls h
  exact lv_tableIn h.1.1 h.1.2.1 hd h1 h2 ho ht (kk p e R s m args below meth cd Z H locs cells slots ls h)
theorem ax_tableOut {dflt lo hi : Int} {offs : Array Int} {len : Nat} {x : Int32} {tgt : Nat} (hd : decode k.2.1 pc = .ok (.tableswitch dflt lo hi offs, len)) (h1 : x.toInt < lo ∨ hi < x.toInt) (ht : (pc : Int) + dflt = (tgt : Int)) (kk : ax_W l G k F d c n M tgt L (S)) : ax_W l G k F d c n M pc L (av_i x :: S) := by
  intro p e R s m args below meth cd Z H locs cells slots ls h
  exact lv_tableOut h.1.1 h.1.2.1 hd h1 ht (kk p e R s m args below meth cd Z H locs cells slots ls h)
theorem ax_lookup {dflt : Int} {ps : Array (Int × Int)} {len : Nat} {x : Int32} {off : Int} {tgt : Nat} (hd : decode k.2.1 pc = .ok (.lookupswitch dflt ps, len)) (hp : (ps.toList.zip (ps.toList.drop 1)).all (fun (a, next) => a.1 < next.1) = true) (ho : Op.lookupswitch.offset ps.toList dflt x.toInt = off) (ht : (pc : Int) + off = (tgt : Int)) (kk : ax_W l G k F d c n M tgt L (S)) : ax_W l G k F d c n M pc L (av_i x :: S) := by
  intro p e R s m args below meth cd Z H locs cells slots ls h
  exact lv_lookup h.1.1 h.1.2.1 hd hp ho ht (kk p e R s m args below meth cd Z H locs cells slots ls h)
theorem ax_goto {off : Int} {tgt : Nat} (hd : decode k.2.1 pc = .ok (.goto off, 3)) (ht : (pc : Int) + off = (tgt : Int)) (kk : ax_W l G k F d c n M tgt L (S)) : ax_W l G k F d c n M pc L (S) := by
  intro p e R s m args below meth cd Z H locs cells slots ls h
  exact lv_goto h.1.1 h.1.2.1 hd ht (kk p e R s m args below meth cd Z H locs cells slots ls h)
theorem ax_weak {L2 : List (Option ax_V)} (hw : ∀ (i : Nat) (v : ax_V), L2[i]? = some (some v) → L[i]? = some (some v)) (kk : ax_W l G k F d c n M pc L2 (S)) : ax_W l G k F d c n M pc L (S) := by
  intro p e R s m args below meth cd Z H locs cells slots ls h
  refine kk p e R s m args below meth cd Z H locs cells slots ls ⟨h.1, h.2.1, h.2.2.1, h.2.2.2.1, h.2.2.2.2.1, h.2.2.2.2.2.1, h.2.2.2.2.2.2.1, fun q hq => ?_⟩
  obtain ⟨v, h1, h2⟩ := ax_ll_mem.mp hq
  exact h.2.2.2.2.2.2.2 q (ax_ll_mem.mpr ⟨v, hw _ _ h1, h2⟩)
end AXR
end
section
/-! ===== what a memory becomes ===== -/
def ax_u2 {α : Type} (f : Nat → Nat → α) (a k : Nat) (x : α) : Nat → Nat → α := fun b j => if b = a ∧ j = k then x else f b j
theorem ax_u2_ne {α : Type} {f : Nat → Nat → α} {a k b : Nat} {x : α} (h : b ≠ a) : ax_u2 f a k x b = f b := by
  funext j
  simp [ax_u2, h]
theorem ax_u2_eq {α : Type} {f : Nat → Nat → α} {a k j : Nat} {x : α} : ax_u2 f a k x a j = if j = k then x else f a j := by
  simp [ax_u2]
def ax_pI (M : ax_M) (a k : Nat) (x : Int32) : ax_M := (ax_u2 M.1 a k x, M.2)
def ax_pR (M : ax_M) (a k : Nat) (x : Nat) : ax_M := (M.1, ax_u2 M.2.1 a k x, M.2.2)
def ax_pL (M : ax_M) (a k : Nat) (x : Int64) : ax_M := (M.1, M.2.1, ax_u2 M.2.2.1 a k x, M.2.2.2)
/-- a new cell of this shape, all nought -/
def ax_new (M : ax_M) (x : (Nat × Nat) ⊕ Nat) : ax_M := (fun b j => if b = M.2.2.2.2 + 1 then 0 else M.1 b j, fun b j => if b = M.2.2.2.2 + 1 then 0 else M.2.1 b j, fun b j => if b = M.2.2.2.2 + 1 then 0 else M.2.2.1 b j, fun b => if b = M.2.2.2.2 + 1 then some x else M.2.2.2.1 b, M.2.2.2.2 + 1)
theorem ax_cell_cong {G : ax_G} {M M2 : ax_M} {n : Nat} {x : (Nat × Nat) ⊕ Nat} {H H1 : Heap} (hv : ∀ kd j, ax_val G M2 (n + 1) kd j = ax_val G M (n + 1) kd j) (hq : H1[G.1 + n]? = H[G.1 + n]?) (h : ax_cell G M n x H) : ax_cell G M2 n x H1 := by
  cases x with
  | inl a =>
    show H1[G.1 + n]? = _
    have e : (fun j => ax_val G M2 (n + 1) a.1 j) = (fun j => ax_val G M (n + 1) a.1 j) := funext fun j => hv _ j
    rw [hq, e]
    exact h
  | inr ci =>
    obtain ⟨r, h1, h2⟩ := h
    refine ⟨r, h1, ?_⟩
    have e : (fun k => ax_val G M2 (n + 1) (ax_fk (ax_ft ci k)) k) = (fun k => ax_val G M (n + 1) (ax_fk (ax_ft ci k)) k) := funext fun j => hv _ j
    rw [e]
    exact h2.kept hq
theorem ax_val_cong {G : ax_G} {M M2 : ax_M} {a : Nat} (h1 : M2.1 a = M.1 a) (h2 : M2.2.1 a = M.2.1 a) (h3 : M2.2.2.1 a = M.2.2.1 a) (kd j : Nat) : ax_val G M2 a kd j = ax_val G M a kd j := by
  unfold ax_val
  split
  · rw [h1]
  · rw [h3]
  · rw [h2]
theorem ax_R_put {G : ax_G} {M M2 : ax_M} {n : Nat} {x : (Nat × Nat) ⊕ Nat} {H H1 : Heap} (hR : ax_R G M H) (hz : H1.size = H.size) (ho : ∀ q, q ≠ G.1 + n → H1[q]? = H[q]?) (hs : M2.2.2.2 = M.2.2.2) (h1 : ∀ a, a ≠ n + 1 → M2.1 a = M.1 a) (h2 : ∀ a, a ≠ n + 1 → M2.2.1 a = M.2.1 a) (h3 : ∀ a, a ≠ n + 1 → M2.2.2.1 a = M.2.2.1 a) (hx : M.2.2.2.1 (n + 1) = some x) (hc : ax_cell G M2 n x H1) : ax_R G M2 H1 := by
  refine ⟨by rw [hz, hs]; exact hR.1, by rw [hs]; exact hR.2.1, fun q y hy => ?_⟩
  rw [hs] at hy ⊢
  obtain ⟨hlt, hcell⟩ := hR.2.2 q y hy
  refine ⟨hlt, ?_⟩
  by_cases e : q = n
  · subst e
    cases Option.some.inj (hx.symm.trans hy)
    exact hc
  · have e1 : q + 1 ≠ n + 1 := by omega
    exact ax_cell_cong (ax_val_cong (h1 _ e1) (h2 _ e1) (h3 _ e1)) (ho _ (by omega)) hcell
theorem ax_S_put {G : ax_G} {H0 H H1 : Heap} {locs : List Loc} {n i : Nat} (hS : va_S (ax_A G) H0 H locs) (hz : H1.size = H.size) (ho : ∀ q, q ≠ G.1 + n → H1[q]? = H[q]?) : va_S (ax_A G) H0 H1 (locs ++ [⟨G.1 + n, i⟩]) := by
  refine ⟨by rw [hz]; exact hS.1, fun q h1 h2 => ?_, fun q hq => ?_⟩
  · rw [ho q (fun e => h2 (by show G.1 ≤ q; omega))]
    exact hS.2.1 q h1 h2
  · rcases List.mem_append.mp hq with h | h
    · exact hS.2.2 q h
    · cases List.mem_singleton.mp h
      show G.1 ≤ G.1 + n
      omega
def ax_cls (ci : Nat) (C : String) (T : u_T) (N : Nat) : Prop := vwCl[ci]? = some (C, T, N) ∧ (∀ w ∈ u_ws C T N, w ∈ lw_tbl ∧ ax_okw w = true) ∧ (∀ k, k < N → parseFieldDescriptor (T k).2.2.1 = some (ax_ft ci k)) ∧ (∀ a, a < N → ∀ b, b < N → a ≠ b → (T a).2.1 ≠ (T b).2.1) ∧ ∀ k, k < N → (T k).1 = C
section AXM
variable {l : Launch} {G : ax_G} {k : ax_K} {F : ax_F} {d c n : Nat} {M : ax_M} {pc : Nat} {L : List (Option ax_V)} {S : List ax_V}

theorem ax_getV {ix ci f a : Nat} {C : String} {T : u_T} {N : Nat} {v : ax_V} (hd : decode k.2.1 pc = .ok (.getfield ix, 3)) (hcl : ax_cls ci C T N) (hlink : Cond.fieldLink k.1.cls ix (T f).1 (T f).2.1 (T f).2.2.1 ∈ lw_tbl) (hf : f < N) (hsh : M.2.2.2.1 a = some (.inr ci)) (hv : ax_val G M a (ax_fk (ax_ft ci f)) f = ax_tv G v) (kk : ax_W l G k F d c n M (pc + 3) L (v :: S)) : ax_W l G k F d c n M pc L (av_r a :: S) := by
  intro p e R s m args below meth cd Z H locs cells slots ls h
  obtain ⟨hB, hF, hr, hS, hR, hl⟩ := id h
  obtain ⟨hx, hb, hml, hown, -, -, -, hC⟩ := id hB
  cases a with
  | zero => rw [hR.2.1] at hsh; cases hsh
  | succ q =>
    obtain ⟨hlt, r, hr1, cell, q1, q2, q3, q4⟩ := hR.2.2 q _ hsh
    cases Option.some.inj (hr1.symm.trans hcl.1)
    obtain ⟨hS1, hfc, kC, hkC, hkind⟩ := hC.2.2.1.1 ci _ hcl.1
    obtain ⟨cf, kf, fi, fd, hi, hsl⟩ := hS1 f hf
    refine W.getf hx hb hown (ax_use hC hlink rfl) hi (u_facts hfc hkC (u_lays (args := args) (fun w hw => ax_use hC (hcl.2.1 w hw).1 (hcl.2.1 w hw).2) (fun _ h9 => h9) hf) hi).1 q1 (by rw [q3]; exact fun h9 => by cases h9) (v := ax_tv G v) ?_ rfl rfl hd (kk p e R s m args below meth cd Z H locs cells slots ls h)
    rw [hsl, q4 f hf]
    exact congrArg some hv
theorem ax_getI {ix ci f a : Nat} {C : String} {T : u_T} {N : Nat} (hd : decode k.2.1 pc = .ok (.getfield ix, 3)) (hcl : ax_cls ci C T N) (hlink : Cond.fieldLink k.1.cls ix (T f).1 (T f).2.1 (T f).2.2.1 ∈ lw_tbl) (hf : f < N) (hk : ax_fk (ax_ft ci f) = 0) (hsh : M.2.2.2.1 a = some (.inr ci)) (kk : ax_W l G k F d c n M (pc + 3) L (av_i (M.1 a f) :: S)) : ax_W l G k F d c n M pc L (av_r a :: S) := ax_getV hd hcl hlink hf hsh (by rw [hk]; rfl) kk
theorem ax_getR {ix ci f a : Nat} {C : String} {T : u_T} {N : Nat} (hd : decode k.2.1 pc = .ok (.getfield ix, 3)) (hcl : ax_cls ci C T N) (hlink : Cond.fieldLink k.1.cls ix (T f).1 (T f).2.1 (T f).2.2.1 ∈ lw_tbl) (hf : f < N) (hk : ax_fk (ax_ft ci f) = 2) (hsh : M.2.2.2.1 a = some (.inr ci)) (kk : ax_W l G k F d c n M (pc + 3) L (av_r (M.2.1 a f) :: S)) : ax_W l G k F d c n M pc L (av_r a :: S) := ax_getV hd hcl hlink hf hsh (by rw [hk]; rfl) kk
theorem ax_getL {ix ci f a : Nat} {C : String} {T : u_T} {N : Nat} (hd : decode k.2.1 pc = .ok (.getfield ix, 3)) (hcl : ax_cls ci C T N) (hlink : Cond.fieldLink k.1.cls ix (T f).1 (T f).2.1 (T f).2.2.1 ∈ lw_tbl) (hf : f < N) (hk : ax_fk (ax_ft ci f) = 1) (hsh : M.2.2.2.1 a = some (.inr ci)) (kk : ax_W l G k F d c n M (pc + 3) L (av_l (M.2.2.1 a f) :: S)) : ax_W l G k F d c n M pc L (av_r a :: S) := ax_getV hd hcl hlink hf hsh (by rw [hk]; rfl) kk
theorem ax_getVN {ix ci f a : Nat} {C : String} {T : u_T} {N : Nat} {hst9 : String} {v : ax_V} (hd : decode k.2.1 pc = .ok (.getfield ix, 3)) (hcl : ax_cls ci C T N) (hlink : Cond.fieldLinkNest k.1.cls ix (T f).1 (T f).2.1 (T f).2.2.1 hst9 ∈ lw_tbl) (hf : f < N) (hsh : M.2.2.2.1 a = some (.inr ci)) (hv : ax_val G M a (ax_fk (ax_ft ci f)) f = ax_tv G v) (kk : ax_W l G k F d c n M (pc + 3) L (v :: S)) : ax_W l G k F d c n M pc L (av_r a :: S) := by
  intro p e R s m args below meth cd Z H locs cells slots ls h
  obtain ⟨hB, hF, hr, hS, hR, hl⟩ := id h
  obtain ⟨hx, hb, hml, hown, -, -, -, hC⟩ := id hB
  cases a with
  | zero => rw [hR.2.1] at hsh; cases hsh
  | succ q =>
    obtain ⟨hlt, r, hr1, cell, q1, q2, q3, q4⟩ := hR.2.2 q _ hsh
    cases Option.some.inj (hr1.symm.trans hcl.1)
    obtain ⟨hS1, hfc, kC, hkC, hkind⟩ := hC.2.2.1.1 ci _ hcl.1
    obtain ⟨cf, kf, fi, fd, hi, hsl⟩ := hS1 f hf
    refine va_Wgetf hx hb hown (ax_use hC hlink rfl) hi (u_facts hfc hkC (u_lays (args := args) (fun w hw => ax_use hC (hcl.2.1 w hw).1 (hcl.2.1 w hw).2) (fun _ h9 => h9) hf) hi).1 q1 (by rw [q3]; exact fun h9 => by cases h9) (v := ax_tv G v) ?_ rfl rfl hd (kk p e R s m args below meth cd Z H locs cells slots ls h)
    rw [hsl, q4 f hf]
    exact congrArg some hv
theorem ax_getIN {ix ci f a : Nat} {C : String} {T : u_T} {N : Nat} {hst9 : String} (hd : decode k.2.1 pc = .ok (.getfield ix, 3)) (hcl : ax_cls ci C T N) (hlink : Cond.fieldLinkNest k.1.cls ix (T f).1 (T f).2.1 (T f).2.2.1 hst9 ∈ lw_tbl) (hf : f < N) (hk : ax_fk (ax_ft ci f) = 0) (hsh : M.2.2.2.1 a = some (.inr ci)) (kk : ax_W l G k F d c n M (pc + 3) L (av_i (M.1 a f) :: S)) : ax_W l G k F d c n M pc L (av_r a :: S) := ax_getVN hd hcl hlink hf hsh (by rw [hk]; rfl) kk
theorem ax_getRN {ix ci f a : Nat} {C : String} {T : u_T} {N : Nat} {hst9 : String} (hd : decode k.2.1 pc = .ok (.getfield ix, 3)) (hcl : ax_cls ci C T N) (hlink : Cond.fieldLinkNest k.1.cls ix (T f).1 (T f).2.1 (T f).2.2.1 hst9 ∈ lw_tbl) (hf : f < N) (hk : ax_fk (ax_ft ci f) = 2) (hsh : M.2.2.2.1 a = some (.inr ci)) (kk : ax_W l G k F d c n M (pc + 3) L (av_r (M.2.1 a f) :: S)) : ax_W l G k F d c n M pc L (av_r a :: S) := ax_getVN hd hcl hlink hf hsh (by rw [hk]; rfl) kk
theorem ax_getLN {ix ci f a : Nat} {C : String} {T : u_T} {N : Nat} {hst9 : String} (hd : decode k.2.1 pc = .ok (.getfield ix, 3)) (hcl : ax_cls ci C T N) (hlink : Cond.fieldLinkNest k.1.cls ix (T f).1 (T f).2.1 (T f).2.2.1 hst9 ∈ lw_tbl) (hf : f < N) (hk : ax_fk (ax_ft ci f) = 1) (hsh : M.2.2.2.1 a = some (.inr ci)) (kk : ax_W l G k F d c n M (pc + 3) L (av_l (M.2.2.1 a f) :: S)) : ax_W l G k F d c n M pc L (av_r a :: S) := ax_getVN hd hcl hlink hf hsh (by rw [hk]; rfl) kk
theorem ax_setcell {V : Nat → Value} {a : Nat} (f : Nat) (v : Value) (h : ∀ j, V j = if j = f then v else ax_val G M (a + 1) (ax_fk (ax_ft c j)) j) : updV (fun j => ax_val G M (a + 1) (ax_fk (ax_ft c j)) j) f v = V := by
  funext j
  rw [h j]
  rfl
theorem ax_putI {ix ci f a : Nat} {x : Int32} {C : String} {T : u_T} {N : Nat} (hd : decode k.2.1 pc = .ok (.putfield ix, 3)) (hcl : ax_cls ci C T N) (hlink : Cond.fieldLink k.1.cls ix (T f).1 (T f).2.1 (T f).2.2.1 ∈ lw_tbl) (hf : f < N) (hk : ax_fk (ax_ft ci f) = 0) (hfin : (T f).2.2.2 = false) (hnf : narrow (ax_ft ci f) (ax_tv G (av_i x)) = ax_tv G (av_i x) ∧ fits (ax_ft ci f) (ax_tv G (av_i x)) = true) (hsh : M.2.2.2.1 a = some (.inr ci)) (kk : ax_W l G k F d c n (ax_pI M a f x) (pc + 3) L (S)) : ax_W l G k F d c n M pc L (av_i x :: av_r a :: S) := by
  intro p e R s m args below meth cd Z H locs cells slots ls h
  obtain ⟨hB, hF, hr, hS, hR, hl⟩ := id h
  obtain ⟨hx, hb, hml, hown, hlo, hrt, hnm, hC⟩ := id hB
  cases a with
  | zero => rw [hR.2.1] at hsh; cases hsh
  | succ q =>
    obtain ⟨hlt, r, hr1, cell, q1, q2, q3, q4⟩ := hR.2.2 q _ hsh
    cases Option.some.inj (hr1.symm.trans hcl.1)
    have hts : ∀ w ∈ u_ws C T N, w.before args s = true := fun w hw => ax_use hC (hcl.2.1 w hw).1 (hcl.2.1 w hw).2
    have hap := va_apart (own := C) hts (fun _ h9 => h9) (ax_ft ci) hcl.2.2.1 hcl.2.2.2.1 hC.2.2.1 hcl.1
    obtain ⟨hS1, hfc, kC, hkC, hkind⟩ := hC.2.2.1.1 ci _ hcl.1
    obtain ⟨cf, kf, fi, fd, hi, hsl⟩ := hS1 f hf
    have hlay := hts _ (u_in_lay hf)
    unfold u_lay at hlay
    rw [if_neg (by rw [hfin]; decide)] at hlay
    have hst := (u_facts hfc hkC (u_lays (args := args) hts (fun _ h9 => h9) hf) hi).1
    have h6 := u_store hfc hkC hkind hlay hi (hcl.2.2.1 f hf) hnf.1 hnf.2
    refine W.putK hx hb (f := fd) ⟨hown, ax_use hC hlink rfl, ⟨_, _, _, hi⟩, hst⟩ (by rw [q2]; exact h6) q1 q3 (by rw [hsl]; exact k2_hasslot (q4 f hf)) rfl rfl hd fun H1 e1 e2 e3 => ?_
    rw [hsl] at e1 ⊢
    have hcell : ax_cell G (ax_pI M (q + 1) f x) q (.inr ci) H1 := by
      refine ⟨_, hcl.1, t_OB.to (V := updV (fun j => ax_val G M (q + 1) (ax_fk (ax_ft ci j)) j) f (ax_tv G (av_i x))) ⟨_, e1, q2, q3, t_set q4 hap hf (ax_tv G (av_i x))⟩ (fun j _ => ?_)⟩
      by_cases e9 : j = f
      · subst e9
        simp only [updV, if_true]
        rw [hk]
        show ax_tv G (av_i x) = ax_tv G (av_i ((ax_pI M (q + 1) j x).1 (q + 1) j))
        congr 2
        simp [ax_pI, ax_u2]
      · simp only [updV, if_neg e9]
        unfold ax_val
        split <;> first | rfl | (congr 1; simp [ax_pI, ax_u2, e9])
    exact kk p e R s m args below meth cd Z H1 _ cells slots ls ⟨hB, hF, hr, ax_S_put hS e2 e3, ax_R_put hR e2 e3 rfl (fun a9 h9 => ax_u2_ne h9) (fun _ _ => rfl) (fun _ _ => rfl) hsh hcell, hl⟩
theorem ax_putR {ix ci f a : Nat} {x : Nat} {C : String} {T : u_T} {N : Nat} (hd : decode k.2.1 pc = .ok (.putfield ix, 3)) (hcl : ax_cls ci C T N) (hlink : Cond.fieldLink k.1.cls ix (T f).1 (T f).2.1 (T f).2.2.1 ∈ lw_tbl) (hf : f < N) (hk : ax_fk (ax_ft ci f) = 2) (hfin : (T f).2.2.2 = false) (hnf : narrow (ax_ft ci f) (ax_tv G (av_r x)) = ax_tv G (av_r x) ∧ fits (ax_ft ci f) (ax_tv G (av_r x)) = true) (hsh : M.2.2.2.1 a = some (.inr ci)) (kk : ax_W l G k F d c n (ax_pR M a f x) (pc + 3) L (S)) : ax_W l G k F d c n M pc L (av_r x :: av_r a :: S) := by
  intro p e R s m args below meth cd Z H locs cells slots ls h
  obtain ⟨hB, hF, hr, hS, hR, hl⟩ := id h
  obtain ⟨hx, hb, hml, hown, hlo, hrt, hnm, hC⟩ := id hB
  cases a with
  | zero => rw [hR.2.1] at hsh; cases hsh
  | succ q =>
    obtain ⟨hlt, r, hr1, cell, q1, q2, q3, q4⟩ := hR.2.2 q _ hsh
    cases Option.some.inj (hr1.symm.trans hcl.1)
    have hts : ∀ w ∈ u_ws C T N, w.before args s = true := fun w hw => ax_use hC (hcl.2.1 w hw).1 (hcl.2.1 w hw).2
    have hap := va_apart (own := C) hts (fun _ h9 => h9) (ax_ft ci) hcl.2.2.1 hcl.2.2.2.1 hC.2.2.1 hcl.1
    obtain ⟨hS1, hfc, kC, hkC, hkind⟩ := hC.2.2.1.1 ci _ hcl.1
    obtain ⟨cf, kf, fi, fd, hi, hsl⟩ := hS1 f hf
    have hlay := hts _ (u_in_lay hf)
    unfold u_lay at hlay
    rw [if_neg (by rw [hfin]; decide)] at hlay
    have hst := (u_facts hfc hkC (u_lays (args := args) hts (fun _ h9 => h9) hf) hi).1
    have h6 := u_store hfc hkC hkind hlay hi (hcl.2.2.1 f hf) hnf.1 hnf.2
    refine W.putK hx hb (f := fd) ⟨hown, ax_use hC hlink rfl, ⟨_, _, _, hi⟩, hst⟩ (by rw [q2]; exact h6) q1 q3 (by rw [hsl]; exact k2_hasslot (q4 f hf)) rfl rfl hd fun H1 e1 e2 e3 => ?_
    rw [hsl] at e1 ⊢
    have hcell : ax_cell G (ax_pR M (q + 1) f x) q (.inr ci) H1 := by
      refine ⟨_, hcl.1, t_OB.to (V := updV (fun j => ax_val G M (q + 1) (ax_fk (ax_ft ci j)) j) f (ax_tv G (av_r x))) ⟨_, e1, q2, q3, t_set q4 hap hf (ax_tv G (av_r x))⟩ (fun j _ => ?_)⟩
      by_cases e9 : j = f
      · subst e9
        simp only [updV, if_true]
        rw [hk]
        show ax_tv G (av_r x) = ax_tv G (av_r ((ax_pR M (q + 1) j x).2.1 (q + 1) j))
        congr 2
        simp [ax_pR, ax_u2]
      · simp only [updV, if_neg e9]
        unfold ax_val
        split <;> first | rfl | (congr 1; simp [ax_pR, ax_u2, e9])
    exact kk p e R s m args below meth cd Z H1 _ cells slots ls ⟨hB, hF, hr, ax_S_put hS e2 e3, ax_R_put hR e2 e3 rfl (fun _ _ => rfl) (fun a9 h9 => ax_u2_ne h9) (fun _ _ => rfl) hsh hcell, hl⟩
theorem ax_putIN {ix ci f a : Nat} {x : Int32} {C : String} {T : u_T} {N : Nat} {hst9 : String} (hd : decode k.2.1 pc = .ok (.putfield ix, 3)) (hcl : ax_cls ci C T N) (hlink : Cond.fieldLinkNest k.1.cls ix (T f).1 (T f).2.1 (T f).2.2.1 hst9 ∈ lw_tbl) (hf : f < N) (hk : ax_fk (ax_ft ci f) = 0) (hfin : (T f).2.2.2 = false) (hnf : narrow (ax_ft ci f) (ax_tv G (av_i x)) = ax_tv G (av_i x) ∧ fits (ax_ft ci f) (ax_tv G (av_i x)) = true) (hsh : M.2.2.2.1 a = some (.inr ci)) (kk : ax_W l G k F d c n (ax_pI M a f x) (pc + 3) L (S)) : ax_W l G k F d c n M pc L (av_i x :: av_r a :: S) := by
  intro p e R s m args below meth cd Z H locs cells slots ls h
  obtain ⟨hB, hF, hr, hS, hR, hl⟩ := id h
  obtain ⟨hx, hb, hml, hown, hlo, hrt, hnm, hC⟩ := id hB
  cases a with
  | zero => rw [hR.2.1] at hsh; cases hsh
  | succ q =>
    obtain ⟨hlt, r, hr1, cell, q1, q2, q3, q4⟩ := hR.2.2 q _ hsh
    cases Option.some.inj (hr1.symm.trans hcl.1)
    have hts : ∀ w ∈ u_ws C T N, w.before args s = true := fun w hw => ax_use hC (hcl.2.1 w hw).1 (hcl.2.1 w hw).2
    have hap := va_apart (own := C) hts (fun _ h9 => h9) (ax_ft ci) hcl.2.2.1 hcl.2.2.2.1 hC.2.2.1 hcl.1
    obtain ⟨hS1, hfc, kC, hkC, hkind⟩ := hC.2.2.1.1 ci _ hcl.1
    obtain ⟨cf, kf, fi, fd, hi, hsl⟩ := hS1 f hf
    have hlay := hts _ (u_in_lay hf)
    unfold u_lay at hlay
    rw [if_neg (by rw [hfin]; decide)] at hlay
    have hst := (u_facts hfc hkC (u_lays (args := args) hts (fun _ h9 => h9) hf) hi).1
    have h6 := u_store hfc hkC hkind hlay hi (hcl.2.2.1 f hf) hnf.1 hnf.2
    refine va_WputK hx hb (f := fd) hown (ax_use hC hlink rfl) hi hst (by rw [q2]; exact h6) q1 q3 (by rw [hsl]; exact k2_hasslot (q4 f hf)) rfl rfl hd fun H1 e1 e2 e3 => ?_
    rw [hsl] at e1 ⊢
    have hcell : ax_cell G (ax_pI M (q + 1) f x) q (.inr ci) H1 := by
      refine ⟨_, hcl.1, t_OB.to (V := updV (fun j => ax_val G M (q + 1) (ax_fk (ax_ft ci j)) j) f (ax_tv G (av_i x))) ⟨_, e1, q2, q3, t_set q4 hap hf (ax_tv G (av_i x))⟩ (fun j _ => ?_)⟩
      by_cases e9 : j = f
      · subst e9
        simp only [updV, if_true]
        rw [hk]
        show ax_tv G (av_i x) = ax_tv G (av_i ((ax_pI M (q + 1) j x).1 (q + 1) j))
        congr 2
        simp [ax_pI, ax_u2]
      · simp only [updV, if_neg e9]
        unfold ax_val
        split <;> first | rfl | (congr 1; simp [ax_pI, ax_u2, e9])
    exact kk p e R s m args below meth cd Z H1 _ cells slots ls ⟨hB, hF, hr, ax_S_put hS e2 e3, ax_R_put hR e2 e3 rfl (fun a9 h9 => ax_u2_ne h9) (fun _ _ => rfl) (fun _ _ => rfl) hsh hcell, hl⟩
theorem ax_putRN {ix ci f a : Nat} {x : Nat} {C : String} {T : u_T} {N : Nat} {hst9 : String} (hd : decode k.2.1 pc = .ok (.putfield ix, 3)) (hcl : ax_cls ci C T N) (hlink : Cond.fieldLinkNest k.1.cls ix (T f).1 (T f).2.1 (T f).2.2.1 hst9 ∈ lw_tbl) (hf : f < N) (hk : ax_fk (ax_ft ci f) = 2) (hfin : (T f).2.2.2 = false) (hnf : narrow (ax_ft ci f) (ax_tv G (av_r x)) = ax_tv G (av_r x) ∧ fits (ax_ft ci f) (ax_tv G (av_r x)) = true) (hsh : M.2.2.2.1 a = some (.inr ci)) (kk : ax_W l G k F d c n (ax_pR M a f x) (pc + 3) L (S)) : ax_W l G k F d c n M pc L (av_r x :: av_r a :: S) := by
  intro p e R s m args below meth cd Z H locs cells slots ls h
  obtain ⟨hB, hF, hr, hS, hR, hl⟩ := id h
  obtain ⟨hx, hb, hml, hown, hlo, hrt, hnm, hC⟩ := id hB
  cases a with
  | zero => rw [hR.2.1] at hsh; cases hsh
  | succ q =>
    obtain ⟨hlt, r, hr1, cell, q1, q2, q3, q4⟩ := hR.2.2 q _ hsh
    cases Option.some.inj (hr1.symm.trans hcl.1)
    have hts : ∀ w ∈ u_ws C T N, w.before args s = true := fun w hw => ax_use hC (hcl.2.1 w hw).1 (hcl.2.1 w hw).2
    have hap := va_apart (own := C) hts (fun _ h9 => h9) (ax_ft ci) hcl.2.2.1 hcl.2.2.2.1 hC.2.2.1 hcl.1
    obtain ⟨hS1, hfc, kC, hkC, hkind⟩ := hC.2.2.1.1 ci _ hcl.1
    obtain ⟨cf, kf, fi, fd, hi, hsl⟩ := hS1 f hf
    have hlay := hts _ (u_in_lay hf)
    unfold u_lay at hlay
    rw [if_neg (by rw [hfin]; decide)] at hlay
    have hst := (u_facts hfc hkC (u_lays (args := args) hts (fun _ h9 => h9) hf) hi).1
    have h6 := u_store hfc hkC hkind hlay hi (hcl.2.2.1 f hf) hnf.1 hnf.2
    refine va_WputK hx hb (f := fd) hown (ax_use hC hlink rfl) hi hst (by rw [q2]; exact h6) q1 q3 (by rw [hsl]; exact k2_hasslot (q4 f hf)) rfl rfl hd fun H1 e1 e2 e3 => ?_
    rw [hsl] at e1 ⊢
    have hcell : ax_cell G (ax_pR M (q + 1) f x) q (.inr ci) H1 := by
      refine ⟨_, hcl.1, t_OB.to (V := updV (fun j => ax_val G M (q + 1) (ax_fk (ax_ft ci j)) j) f (ax_tv G (av_r x))) ⟨_, e1, q2, q3, t_set q4 hap hf (ax_tv G (av_r x))⟩ (fun j _ => ?_)⟩
      by_cases e9 : j = f
      · subst e9
        simp only [updV, if_true]
        rw [hk]
        show ax_tv G (av_r x) = ax_tv G (av_r ((ax_pR M (q + 1) j x).2.1 (q + 1) j))
        congr 2
        simp [ax_pR, ax_u2]
      · simp only [updV, if_neg e9]
        unfold ax_val
        split <;> first | rfl | (congr 1; simp [ax_pR, ax_u2, e9])
    exact kk p e R s m args below meth cd Z H1 _ cells slots ls ⟨hB, hF, hr, ax_S_put hS e2 e3, ax_R_put hR e2 e3 rfl (fun _ _ => rfl) (fun a9 h9 => ax_u2_ne h9) (fun _ _ => rfl) hsh hcell, hl⟩
theorem ax_putIF {ix ci f a : Nat} {x : Int32} {C : String} {T : u_T} {N : Nat} (hd : decode k.2.1 pc = .ok (.putfield ix, 3)) (hcl : ax_cls ci C T N) (hlink : Cond.fieldLink k.1.cls ix (T f).1 (T f).2.1 (T f).2.2.1 ∈ lw_tbl) (hf : f < N) (hk : ax_fk (ax_ft ci f) = 0) (hfin : (T f).2.2.2 = true) (hini : k.1.name = "<init>") (hoc : k.1.cls = C) (hnf : narrow (ax_ft ci f) (ax_tv G (av_i x)) = ax_tv G (av_i x) ∧ fits (ax_ft ci f) (ax_tv G (av_i x)) = true) (hsh : M.2.2.2.1 a = some (.inr ci)) (kk : ax_W l G k F d c n (ax_pI M a f x) (pc + 3) L (S)) : ax_W l G k F d c n M pc L (av_i x :: av_r a :: S) := by
  intro p e R s m args below meth cd Z H locs cells slots ls h
  obtain ⟨hB, hF, hr, hS, hR, hl⟩ := id h
  obtain ⟨hx, hb, hml, hown, hlo, hrt, hnm, hC⟩ := id hB
  cases a with
  | zero => rw [hR.2.1] at hsh; cases hsh
  | succ q =>
    obtain ⟨hlt, r, hr1, cell, q1, q2, q3, q4⟩ := hR.2.2 q _ hsh
    cases Option.some.inj (hr1.symm.trans hcl.1)
    have hts : ∀ w ∈ u_ws C T N, w.before args s = true := fun w hw => ax_use hC (hcl.2.1 w hw).1 (hcl.2.1 w hw).2
    have hap := va_apart (own := C) hts (fun _ h9 => h9) (ax_ft ci) hcl.2.2.1 hcl.2.2.2.1 hC.2.2.1 hcl.1
    obtain ⟨hS1, hfc, kC, hkC, hkind⟩ := hC.2.2.1.1 ci _ hcl.1
    obtain ⟨cf, kf, fi, fd, hi, hsl⟩ := hS1 f hf
    have hlay := hts _ (u_in_lay hf)
    unfold u_lay at hlay
    rw [if_pos hfin] at hlay
    have hst := (u_facts hfc hkC (u_lays (args := args) hts (fun _ h9 => h9) hf) hi).1
    have hcf : m.cls = cf := by
      obtain ⟨_, _, c9, _, _, _, -, -, hf9, -, -, -, hown2, -⟩ := Cond.laysFinal_spec hlay
      have e1 : c9 = cf := by have := hi.symm.trans hf9; simp at this; exact this.1.symm
      rw [hcl.2.2.2.2 f hf, ← hoc] at hown2
      rw [← e1]; exact Option.some.inj (hown.symm.trans hown2)
    have h6 := u_fits hfc hkC hkind (Or.inr hlay) hi (hcl.2.2.1 f hf) hnf.1 hnf.2
    refine W.putFinK hx hb hown (ax_use hC hlink rfl) hi hst hcf (hnm.trans hini) (by rw [q2]; exact h6) q1 q3 (by rw [hsl]; exact k2_hasslot (q4 f hf)) rfl rfl hd fun H1 e1 e2 e3 => ?_
    rw [hsl] at e1 ⊢
    have hcell : ax_cell G (ax_pI M (q + 1) f x) q (.inr ci) H1 := by
      refine ⟨_, hcl.1, t_OB.to (V := updV (fun j => ax_val G M (q + 1) (ax_fk (ax_ft ci j)) j) f (ax_tv G (av_i x))) ⟨_, e1, q2, q3, t_set q4 hap hf (ax_tv G (av_i x))⟩ (fun j _ => ?_)⟩
      by_cases e9 : j = f
      · subst e9
        simp only [updV, if_true]
        rw [hk]
        show ax_tv G (av_i x) = ax_tv G (av_i ((ax_pI M (q + 1) j x).1 (q + 1) j))
        congr 2
        simp [ax_pI, ax_u2]
      · simp only [updV, if_neg e9]
        unfold ax_val
        split <;> first | rfl | (congr 1; simp [ax_pI, ax_u2, e9])
    exact kk p e R s m args below meth cd Z H1 _ cells slots ls ⟨hB, hF, hr, ax_S_put hS e2 e3, ax_R_put hR e2 e3 rfl (fun a9 h9 => ax_u2_ne h9) (fun _ _ => rfl) (fun _ _ => rfl) hsh hcell, hl⟩
theorem ax_putRF {ix ci f a : Nat} {x : Nat} {C : String} {T : u_T} {N : Nat} (hd : decode k.2.1 pc = .ok (.putfield ix, 3)) (hcl : ax_cls ci C T N) (hlink : Cond.fieldLink k.1.cls ix (T f).1 (T f).2.1 (T f).2.2.1 ∈ lw_tbl) (hf : f < N) (hk : ax_fk (ax_ft ci f) = 2) (hfin : (T f).2.2.2 = true) (hini : k.1.name = "<init>") (hoc : k.1.cls = C) (hnf : narrow (ax_ft ci f) (ax_tv G (av_r x)) = ax_tv G (av_r x) ∧ fits (ax_ft ci f) (ax_tv G (av_r x)) = true) (hsh : M.2.2.2.1 a = some (.inr ci)) (kk : ax_W l G k F d c n (ax_pR M a f x) (pc + 3) L (S)) : ax_W l G k F d c n M pc L (av_r x :: av_r a :: S) := by
  intro p e R s m args below meth cd Z H locs cells slots ls h
  obtain ⟨hB, hF, hr, hS, hR, hl⟩ := id h
  obtain ⟨hx, hb, hml, hown, hlo, hrt, hnm, hC⟩ := id hB
  cases a with
  | zero => rw [hR.2.1] at hsh; cases hsh
  | succ q =>
    obtain ⟨hlt, r, hr1, cell, q1, q2, q3, q4⟩ := hR.2.2 q _ hsh
    cases Option.some.inj (hr1.symm.trans hcl.1)
    have hts : ∀ w ∈ u_ws C T N, w.before args s = true := fun w hw => ax_use hC (hcl.2.1 w hw).1 (hcl.2.1 w hw).2
    have hap := va_apart (own := C) hts (fun _ h9 => h9) (ax_ft ci) hcl.2.2.1 hcl.2.2.2.1 hC.2.2.1 hcl.1
    obtain ⟨hS1, hfc, kC, hkC, hkind⟩ := hC.2.2.1.1 ci _ hcl.1
    obtain ⟨cf, kf, fi, fd, hi, hsl⟩ := hS1 f hf
    have hlay := hts _ (u_in_lay hf)
    unfold u_lay at hlay
    rw [if_pos hfin] at hlay
    have hst := (u_facts hfc hkC (u_lays (args := args) hts (fun _ h9 => h9) hf) hi).1
    have hcf : m.cls = cf := by
      obtain ⟨_, _, c9, _, _, _, -, -, hf9, -, -, -, hown2, -⟩ := Cond.laysFinal_spec hlay
      have e1 : c9 = cf := by have := hi.symm.trans hf9; simp at this; exact this.1.symm
      rw [hcl.2.2.2.2 f hf, ← hoc] at hown2
      rw [← e1]; exact Option.some.inj (hown.symm.trans hown2)
    have h6 := u_fits hfc hkC hkind (Or.inr hlay) hi (hcl.2.2.1 f hf) hnf.1 hnf.2
    refine W.putFinK hx hb hown (ax_use hC hlink rfl) hi hst hcf (hnm.trans hini) (by rw [q2]; exact h6) q1 q3 (by rw [hsl]; exact k2_hasslot (q4 f hf)) rfl rfl hd fun H1 e1 e2 e3 => ?_
    rw [hsl] at e1 ⊢
    have hcell : ax_cell G (ax_pR M (q + 1) f x) q (.inr ci) H1 := by
      refine ⟨_, hcl.1, t_OB.to (V := updV (fun j => ax_val G M (q + 1) (ax_fk (ax_ft ci j)) j) f (ax_tv G (av_r x))) ⟨_, e1, q2, q3, t_set q4 hap hf (ax_tv G (av_r x))⟩ (fun j _ => ?_)⟩
      by_cases e9 : j = f
      · subst e9
        simp only [updV, if_true]
        rw [hk]
        show ax_tv G (av_r x) = ax_tv G (av_r ((ax_pR M (q + 1) j x).2.1 (q + 1) j))
        congr 2
        simp [ax_pR, ax_u2]
      · simp only [updV, if_neg e9]
        unfold ax_val
        split <;> first | rfl | (congr 1; simp [ax_pR, ax_u2, e9])
    exact kk p e R s m args below meth cd Z H1 _ cells slots ls ⟨hB, hF, hr, ax_S_put hS e2 e3, ax_R_put hR e2 e3 rfl (fun _ _ => rfl) (fun a9 h9 => ax_u2_ne h9) (fun _ _ => rfl) hsh hcell, hl⟩
theorem ax_nfI {ty : FieldType} {x : Int32} (h : ty = .int) : narrow ty (ax_tv G (av_i x)) = ax_tv G (av_i x) ∧ fits ty (ax_tv G (av_i x)) = true := by
  subst h
  exact ⟨rfl, rfl⟩
theorem ax_nfZ {ty : FieldType} {x : Int32} (h : ty = .boolean) (hx : x = 0 ∨ x = 1) : narrow ty (ax_tv G (av_i x)) = ax_tv G (av_i x) ∧ fits ty (ax_tv G (av_i x)) = true := by
  subst h
  rcases hx with rfl | rfl
  · show narrow FieldType.boolean (.int 0) = .int 0 ∧ fits FieldType.boolean (.int 0) = true
    decide
  · show narrow FieldType.boolean (.int 1) = .int 1 ∧ fits FieldType.boolean (.int 1) = true
    decide
theorem ax_nfR {ty : FieldType} {x : Nat} (h : (∃ C, ty = .object C) ∨ ∃ t, ty = .array t) : narrow ty (ax_tv G (av_r x)) = ax_tv G (av_r x) ∧ fits ty (ax_tv G (av_r x)) = true := by
  rcases h with ⟨C, rfl⟩ | ⟨t, rfl⟩ <;> cases x <;> exact ⟨rfl, rfl⟩
theorem ax_iald {a len : Nat} {i : Int32} (hd : decode k.2.1 pc = .ok (.iaload, 1)) (hsh : M.2.2.2.1 a = some (.inl (0, len))) (hin : vp_in i len) (kk : ax_W l G k F d c n M (pc + 1) L (av_i (M.1 a i.toNatClampNeg) :: S)) : ax_W l G k F d c n M pc L (av_i i :: av_r a :: S) := by
  intro p e R s m args below meth cd Z H locs cells slots ls h
  obtain ⟨hB, hF, hr, hS, hR, hl⟩ := id h
  cases a with
  | zero => rw [hR.2.1] at hsh; cases hsh
  | succ q =>
    obtain ⟨hlt, hc⟩ := hR.2.2 q _ hsh
    have hlt9 : i.toNatClampNeg < len := Nat.not_le.mp fun q => hin (Or.inr q)
    refine W.iald (v := ax_val G M (q + 1) 0 i.toNatClampNeg) hB.1 hB.2.1 hc ((hB.2.2.2.2.2.2.2.2.2.1.2 0 _ rfl).1 len _) (fun q => by cases q) (by show ¬ (i < 0 ∨ (arrV _ _ _).slots.size ≤ _); rw [arrV_size]; exact hin) (by show (arrV _ _ _).slots[_]? = _; rw [arrV_read _ _ hlt9]) rfl rfl hd (kk p e R s m args below meth cd Z H locs cells slots ls h)
theorem ax_lald {a len : Nat} {i : Int32} (hd : decode k.2.1 pc = .ok (.laload, 1)) (hsh : M.2.2.2.1 a = some (.inl (1, len))) (hin : vp_in i len) (kk : ax_W l G k F d c n M (pc + 1) L (av_l (M.2.2.1 a i.toNatClampNeg) :: S)) : ax_W l G k F d c n M pc L (av_i i :: av_r a :: S) := by
  intro p e R s m args below meth cd Z H locs cells slots ls h
  obtain ⟨hB, hF, hr, hS, hR, hl⟩ := id h
  cases a with
  | zero => rw [hR.2.1] at hsh; cases hsh
  | succ q =>
    obtain ⟨hlt, hc⟩ := hR.2.2 q _ hsh
    have hlt9 : i.toNatClampNeg < len := Nat.not_le.mp fun q => hin (Or.inr q)
    refine W.lald (v := ax_val G M (q + 1) 1 i.toNatClampNeg) hB.1 hB.2.1 hc ((hB.2.2.2.2.2.2.2.2.2.1.2 1 _ rfl).1 len _) (fun q => by cases q) (by show ¬ (i < 0 ∨ (arrV _ _ _).slots.size ≤ _); rw [arrV_size]; exact hin) (by show (arrV _ _ _).slots[_]? = _; rw [arrV_read _ _ hlt9]) rfl rfl hd (kk p e R s m args below meth cd Z H locs cells slots ls h)
theorem ax_aald2 {a len : Nat} {i : Int32} (hd : decode k.2.1 pc = .ok (.aaload, 1)) (hsh : M.2.2.2.1 a = some (.inl (2, len))) (hin : vp_in i len) (kk : ax_W l G k F d c n M (pc + 1) L (av_r (M.2.1 a i.toNatClampNeg) :: S)) : ax_W l G k F d c n M pc L (av_i i :: av_r a :: S) := by
  intro p e R s m args below meth cd Z H locs cells slots ls h
  obtain ⟨hB, hF, hr, hS, hR, hl⟩ := id h
  cases a with
  | zero => rw [hR.2.1] at hsh; cases hsh
  | succ q =>
    obtain ⟨hlt, hc⟩ := hR.2.2 q _ hsh
    have hlt9 : i.toNatClampNeg < len := Nat.not_le.mp fun q => hin (Or.inr q)
    refine W.aald (v := ax_val G M (q + 1) 2 i.toNatClampNeg) (ty := ax_aty 2) hB.1 hB.2.1 hc ((hB.2.2.2.2.2.2.2.2.2.1.2 2 _ rfl).1 len _) rfl (fun q => by cases q) (by show ¬ (i < 0 ∨ (arrV _ _ _).slots.size ≤ _); rw [arrV_size]; exact hin) (by show (arrV _ _ _).slots[_]? = _; rw [arrV_read _ _ hlt9]) rfl rfl hd (kk p e R s m args below meth cd Z H locs cells slots ls h)
theorem ax_aald3 {a len : Nat} {i : Int32} (hd : decode k.2.1 pc = .ok (.aaload, 1)) (hsh : M.2.2.2.1 a = some (.inl (3, len))) (hin : vp_in i len) (kk : ax_W l G k F d c n M (pc + 1) L (av_r (M.2.1 a i.toNatClampNeg) :: S)) : ax_W l G k F d c n M pc L (av_i i :: av_r a :: S) := by
  intro p e R s m args below meth cd Z H locs cells slots ls h
  obtain ⟨hB, hF, hr, hS, hR, hl⟩ := id h
  cases a with
  | zero => rw [hR.2.1] at hsh; cases hsh
  | succ q =>
    obtain ⟨hlt, hc⟩ := hR.2.2 q _ hsh
    have hlt9 : i.toNatClampNeg < len := Nat.not_le.mp fun q => hin (Or.inr q)
    refine W.aald (v := ax_val G M (q + 1) 3 i.toNatClampNeg) (ty := ax_aty 3) hB.1 hB.2.1 hc ((hB.2.2.2.2.2.2.2.2.2.1.2 3 _ rfl).1 len _) rfl (fun q => by cases q) (by show ¬ (i < 0 ∨ (arrV _ _ _).slots.size ≤ _); rw [arrV_size]; exact hin) (by show (arrV _ _ _).slots[_]? = _; rw [arrV_read _ _ hlt9]) rfl rfl hd (kk p e R s m args below meth cd Z H locs cells slots ls h)
theorem ax_alen {a kd len : Nat} (hd : decode k.2.1 pc = .ok (.arraylength, 1)) (hsh : M.2.2.2.1 a = some (.inl (kd, len))) (hk : kd < 4) (kk : ax_W l G k F d c n M (pc + 1) L (av_i (nI len) :: S)) : ax_W l G k F d c n M pc L (av_r a :: S) := by
  intro p e R s m args below meth cd Z H locs cells slots ls h
  obtain ⟨hB, hF, hr, hS, hR, hl⟩ := id h
  cases a with
  | zero => rw [hR.2.1] at hsh; cases hsh
  | succ q =>
    obtain ⟨hlt, hc⟩ := hR.2.2 q _ hsh
    have ht : (ax_tys G)[kd]? = some (G.2.2.1 kd, ax_aty kd) := by
      rcases (show kd = 0 ∨ kd = 1 ∨ kd = 2 ∨ kd = 3 by omega) with rfl | rfl | rfl | rfl <;> rfl
    exact W.alen (n := nI len) hB.1 hB.2.1 hc ((hB.2.2.2.2.2.2.2.2.2.1.2 kd _ ht).1 len _) (by rw [arrV_size]; rfl) rfl rfl hd (kk p e R s m args below meth cd Z H locs cells slots ls h)
theorem ax_iast {a len : Nat} {i : Int32} {x : Int32} (hd : decode k.2.1 pc = .ok (.iastore, 1)) (hsh : M.2.2.2.1 a = some (.inl (0, len))) (hin : vp_in i len) (kk : ax_W l G k F d c n (ax_pI M a i.toNatClampNeg x) (pc + 1) L (S)) : ax_W l G k F d c n M pc L (av_i x :: av_i i :: av_r a :: S) := by
  intro p e R s m args below meth cd Z H locs cells slots ls h
  obtain ⟨hB, hF, hr, hS, hR, hl⟩ := id h
  cases a with
  | zero => rw [hR.2.1] at hsh; cases hsh
  | succ q =>
    obtain ⟨hlt, hc⟩ := hR.2.2 q _ hsh
    refine W.iast hB.1 hB.2.1 hc ((hB.2.2.2.2.2.2.2.2.2.1.2 0 _ rfl).1 len _) (fun q => by cases q) (by show ¬ (i < 0 ∨ (arrV _ _ _).slots.size ≤ _); rw [arrV_size]; exact hin) rfl rfl hd fun H1 e1 e2 e3 => ?_
    have hcell : ax_cell G (ax_pI M (q + 1) i.toNatClampNeg x) q (.inl (0, len)) H1 := by
      show H1[G.1 + q]? = some (arrV _ _ _)
      rw [e1, arrV_store]
      congr 2
      funext j
      by_cases e9 : j = i.toNatClampNeg
      · subst e9
        simp [updV, ax_val, ax_pI, ax_u2]
      · simp [updV, ax_val, ax_pI, ax_u2, e9]
    exact kk p e R s m args below meth cd Z H1 _ cells slots ls ⟨hB, hF, hr, ax_S_put hS e2 e3, ax_R_put hR e2 e3 rfl (fun a9 h9 => ax_u2_ne h9) (fun _ _ => rfl) (fun _ _ => rfl) hsh hcell, hl⟩
theorem ax_last {a len : Nat} {i : Int32} {x : Int64} (hd : decode k.2.1 pc = .ok (.lastore, 1)) (hsh : M.2.2.2.1 a = some (.inl (1, len))) (hin : vp_in i len) (kk : ax_W l G k F d c n (ax_pL M a i.toNatClampNeg x) (pc + 1) L (S)) : ax_W l G k F d c n M pc L (av_l x :: av_i i :: av_r a :: S) := by
  intro p e R s m args below meth cd Z H locs cells slots ls h
  obtain ⟨hB, hF, hr, hS, hR, hl⟩ := id h
  cases a with
  | zero => rw [hR.2.1] at hsh; cases hsh
  | succ q =>
    obtain ⟨hlt, hc⟩ := hR.2.2 q _ hsh
    refine W.last hB.1 hB.2.1 hc ((hB.2.2.2.2.2.2.2.2.2.1.2 1 _ rfl).1 len _) (fun q => by cases q) (by show ¬ (i < 0 ∨ (arrV _ _ _).slots.size ≤ _); rw [arrV_size]; exact hin) rfl rfl hd fun H1 e1 e2 e3 => ?_
    have hcell : ax_cell G (ax_pL M (q + 1) i.toNatClampNeg x) q (.inl (1, len)) H1 := by
      show H1[G.1 + q]? = some (arrV _ _ _)
      rw [e1, arrV_store]
      congr 2
      funext j
      by_cases e9 : j = i.toNatClampNeg
      · subst e9
        simp [updV, ax_val, ax_pL, ax_u2]
      · simp [updV, ax_val, ax_pL, ax_u2, e9]
    exact kk p e R s m args below meth cd Z H1 _ cells slots ls ⟨hB, hF, hr, ax_S_put hS e2 e3, ax_R_put hR e2 e3 rfl (fun _ _ => rfl) (fun _ _ => rfl) (fun a9 h9 => ax_u2_ne h9) hsh hcell, hl⟩
end AXM
end
section
/-! ===== contracts ===== -/
abbrev ax_O : Type := Option ax_V ⊕ String
def ax_Qc (G : ax_G) (Q : ax_O → ax_M → Prop) : Array Value → State → Outcome → State → Prop := fun _ st o t => ∃ (r : Option ax_V) (M2 : ax_M), o = .returned (r.map (ax_tv G)) ∧ Q (.inl r) M2 ∧ ax_R G M2 t.heap ∧ va_F (ax_A G) st t
def ax_XC (G : ax_G) (Q : ax_O → ax_M → Prop) : String → State → State → Prop := fun E st t => ∃ M2 : ax_M, Q (.inr E) M2 ∧ ax_R G M2 t.heap ∧ va_F (ax_A G) st t
def ax_FQ (G : ax_G) (Q : ax_O → ax_M → Prop) : ax_F := fun _ _ R s _ args below _ cd Z => Z = vx_MQ below (ax_Qc G Q) (ax_XC G Q) args s R.cells R.slots (ax_A G) ∧ ∀ x ∈ cd.exceptionTable.toList, False
def ax_ws (k : ax_K) : List Cond := [Cond.code k.1 k.2.1 k.2.2.1 k.2.2.2]
def ax_rm (d c n : Nat) : Room := { frames := d, cells := c, slots := n, locals := 80 * d }
def ax_Pc (G : ax_G) (M : ax_M) (As : List ax_V) : Array Value → State → Prop := va_Pc (As.map (ax_tv G)) (fun U => ax_C G U ∧ ax_R G M U.heap)
def ax_Met (l : Launch) (G : ax_G) (k : ax_K) (d c n : Nat) (M : ax_M) (As : List ax_V) (Q : ax_O → ax_M → Prop) : Prop := vx_Met l k.1 (ax_ws k) (ax_rm d c n) (ax_Pc G M As) (ax_Qc G Q) (ax_XC G Q) c n (ax_A G)
theorem ax_blind {G : ax_G} {M : ax_M} {As : List ax_V} : FrameBlind (ax_Pc G M As) := by
  intro a U g mk h
  obtain ⟨h1, h2, h3⟩ := h
  exact ⟨h1, ax_C_kept (U := U.calling g mk a) h2 (State.WarmedH.refl U) (Nat.le_refl _) (fun _ _ _ => rfl), h3⟩
def ax_sl (As : List ax_V) : List (Option ax_V) := As.flatMap fun v => match v with
  | .inr (.inl x) => [some (av_l x), none]
  | v => [some v]
def ax_en (As : List ax_V) (nL : Nat) : List (Option ax_V) := ax_sl As ++ List.replicate (nL - (ax_sl As).length) none
theorem ax_sl_cons (v : ax_V) (As : List ax_V) : ax_sl (v :: As) = (match v with
  | .inr (.inl x) => [some (av_l x), none]
  | v => [some v]) ++ ax_sl As := rfl
theorem ax_sl_len {G : ax_G} : ∀ As : List ax_V, (ax_sl As).length = (lg_sl (As.map (ax_tv G))).length
  | [] => rfl
  | v :: As => by
    have ih := ax_sl_len (G := G) As
    rw [ax_sl_cons]
    show _ = (lg_sl (ax_tv G v :: As.map (ax_tv G))).length
    have e : lg_sl (ax_tv G v :: As.map (ax_tv G)) = (if (ax_tv G v).category = 2 then [Slot.val (ax_tv G v), .second] else [.val (ax_tv G v)]) ++ lg_sl (As.map (ax_tv G)) := rfl
    rw [e, List.length_append, List.length_append, ih]
    congr 1
    rcases v with x | x | q | j
    · rfl
    · rfl
    · cases q <;> rfl
    · rfl
theorem ax_sl_at {G : ax_G} : ∀ (As : List ax_V) (i j : Nat) (v : ax_V), (ax_sl As)[j]? = some (some v) → (i + j, ax_tv G v) ∈ lv_args i (As.map (ax_tv G))
  | [], i, j, v, h => by simp [ax_sl] at h
  | u :: As, i, j, v, h => by
    rw [ax_sl_cons] at h
    show (i + j, ax_tv G v) ∈ (i, ax_tv G u) :: lv_args (if (ax_tv G u).category = 2 then i + 2 else i + 1) (As.map (ax_tv G))
    have one : ∀ (hc : (ax_tv G u).category = 1) (_ : ([some u] ++ ax_sl As)[j]? = some (some v)), (i + j, ax_tv G v) ∈ (i, ax_tv G u) :: lv_args (if (ax_tv G u).category = 2 then i + 2 else i + 1) (As.map (ax_tv G)) := by
      intro hc h
      rw [if_neg (by omega)]
      cases j with
      | zero =>
        cases h
        exact List.mem_cons_self
      | succ j =>
        have h2 : (ax_sl As)[j]? = some (some v) := by simpa using h
        have := ax_sl_at (G := G) As (i + 1) j v h2
        rw [show i + (j + 1) = i + 1 + j by omega]
        exact List.mem_cons_of_mem _ this
    rcases u with x | x | q | y
    · exact one rfl h
    · show (i + j, ax_tv G v) ∈ (i, Value.long x) :: lv_args (i + 2) (As.map (ax_tv G))
      cases j with
      | zero =>
        cases h
        exact List.mem_cons_self
      | succ j => cases j with
        | zero => simp at h
        | succ j =>
          have h2 : (ax_sl As)[j]? = some (some v) := by simpa using h
          have := ax_sl_at (G := G) As (i + 2) j v h2
          rw [show i + (j + 1 + 1) = i + 2 + j by omega]
          exact List.mem_cons_of_mem _ this
    · exact one (ax_crf (G := G) q) h
    · exact one rfl h
theorem ax_entry {G : ax_G} {As : List ax_V} {nL : Nat} (hn : (ax_sl As).length ≤ nL) : ax_lh G ((lg_sl (As.map (ax_tv G)) ++ List.replicate (nL - (lg_sl (As.map (ax_tv G))).length) Slot.unset).toArray) nL (ax_en As nL) := by
  have h := lv_entry (As.map (ax_tv G)) (n := nL) (by rw [← ax_sl_len]; exact hn)
  refine ⟨h.1, h.2.1, fun q hq => ?_⟩
  obtain ⟨v, h1, h2⟩ := ax_ll_mem.mp hq
  have h3 : (ax_sl As)[q.1]? = some (some v) := by
    unfold ax_en at h1
    by_cases hlt : q.1 < (ax_sl As).length
    · rwa [List.getElem?_append_left hlt] at h1
    · rw [List.getElem?_append_right (by omega)] at h1
      rw [List.getElem?_replicate] at h1
      split at h1 <;> cases h1
  have h4 := ax_sl_at (G := G) As 0 q.1 v h3
  rw [Nat.zero_add, ← h2] at h4
  exact h.2.2 q h4
theorem ax_body {l : Launch} {G : ax_G} {k : ax_K} {d c n : Nat} {M : ax_M} {As : List ax_V} {Q : ax_O → ax_M → Prop} (hy : plainName k.1.cls = true) (hn : (ax_sl As).length ≤ k.2.2.1) (kk : ax_W l G k (ax_FQ G Q) d c n M 0 (ax_en As k.2.2.1) []) : ax_Met l G k d c n M As Q := by
  refine vx_ofW (cc := k.2.1) (maxL := k.2.2.1) (ret := k.2.2.2) (ws' := []) hy rfl ?_
  intro p e s m args below meth cd s₁ B hml ht hv
  obtain ⟨rfl, hC, hR⟩ := hv
  rw [lg_entry_eq]
  exact kk p e _ s m _ below meth cd _ s.heap [] 0 0 _ ⟨⟨B.exec, B.bytes, hml, findClass_of_methodNamed B.named, B.notSynchronized, B.returns, (name_of_methodNamed B.named B.method).1, hC⟩, ⟨rfl, ht⟩, ⟨Nat.le_refl _, Nat.le_refl _, by show 0 + c ≤ c; omega, by show 0 + n ≤ n; omega⟩, va_S.rf, hR, ax_entry hn⟩
section AXC
variable {l : Launch} {G : ax_G} {k : ax_K} {F : ax_F} {d c n : Nat} {M : ax_M} {pc : Nat} {L : List (Option ax_V)} {S : List ax_V} {Q : ax_O → ax_M → Prop}

theorem ax_iret {x : Int32} (hd : decode k.2.1 pc = .ok (.ireturn, 1)) (hr : k.2.2.2 = some .int) (hq : Q (.inl (some (av_i x))) M) : ax_W l G k (ax_FQ G Q) d c n M pc L [av_i x] := by
  intro p e R s m args below meth cd Z H locs cells slots ls h
  obtain ⟨hB, ⟨rfl, -⟩, ⟨-, -, h3, h4⟩, hS, hR, -⟩ := h
  refine vx_ret (W.widen (k := R.cells) (n := R.slots) (by omega) (by omega) ?_)
  exact W.iret hB.1 hB.2.1 (hB.2.2.2.2.2.1.trans hr) (fun t ht hW => ⟨(some (av_i x)), M, rfl, hq, by rw [ht]; exact hR, hS.F ht⟩) hS.2.2 hd hB.2.2.2.2.1
theorem ax_zret {x : Int32} (hd : decode k.2.1 pc = .ok (.ireturn, 1)) (hr : k.2.2.2 = some .boolean) (hx : x = 0 ∨ x = 1) (hq : Q (.inl (some (av_i x))) M) : ax_W l G k (ax_FQ G Q) d c n M pc L [av_i x] := by
  intro p e R s m args below meth cd Z H locs cells slots ls h
  obtain ⟨hB, ⟨rfl, -⟩, ⟨-, -, h3, h4⟩, hS, hR, -⟩ := h
  refine vx_ret (W.widen (k := R.cells) (n := R.slots) (by omega) (by omega) ?_)
  exact W.zret hB.1 hB.2.1 (hB.2.2.2.2.2.1.trans hr) (by rcases hx with rfl | rfl <;> decide) (fun t ht hW => ⟨(some (av_i x)), M, rfl, hq, by rw [ht]; exact hR, hS.F ht⟩) hS.2.2 hd hB.2.2.2.2.1
theorem ax_lret {x : Int64} (hd : decode k.2.1 pc = .ok (.lreturn, 1)) (hr : k.2.2.2 = some .long) (hq : Q (.inl (some (av_l x))) M) : ax_W l G k (ax_FQ G Q) d c n M pc L [av_l x] := by
  intro p e R s m args below meth cd Z H locs cells slots ls h
  obtain ⟨hB, ⟨rfl, -⟩, ⟨-, -, h3, h4⟩, hS, hR, -⟩ := h
  refine vx_ret (W.widen (k := R.cells) (n := R.slots) (by omega) (by omega) ?_)
  exact W.lret hB.1 hB.2.1 (hB.2.2.2.2.2.1.trans hr) (fun t ht hW => ⟨(some (av_l x)), M, rfl, hq, by rw [ht]; exact hR, hS.F ht⟩) hS.2.2 hd hB.2.2.2.2.1
theorem ax_vret  (hd : decode k.2.1 pc = .ok (.return_, 1)) (hr : k.2.2.2 = none) (hq : Q (.inl none) M) : ax_W l G k (ax_FQ G Q) d c n M pc L [] := by
  intro p e R s m args below meth cd Z H locs cells slots ls h
  obtain ⟨hB, ⟨rfl, -⟩, ⟨-, -, h3, h4⟩, hS, hR, -⟩ := h
  refine vx_ret (W.widen (k := R.cells) (n := R.slots) (by omega) (by omega) ?_)
  exact W.vret hB.1 hB.2.1 (hB.2.2.2.2.2.1.trans hr) (fun t ht hW => ⟨none, M, rfl, hq, by rw [ht]; exact hR, hS.F ht⟩) hS.2.2 hd hB.2.2.2.2.1
theorem ax_aret {x : Nat} {ty : FieldType} (hd : decode k.2.1 pc = .ok (.areturn, 1)) (hr : k.2.2.2 = some ty) (hty : (∃ n, ty = .object n) ∨ ∃ t, ty = .array t) (hq : Q (.inl (some (av_r x))) M) : ax_W l G k (ax_FQ G Q) d c n M pc L [av_r x] := by
  intro p e R s m args below meth cd Z H locs cells slots ls h
  obtain ⟨hB, ⟨rfl, -⟩, ⟨-, -, h3, h4⟩, hS, hR, -⟩ := h
  refine vx_ret (W.widen (k := R.cells) (n := R.slots) (by omega) (by omega) ?_)
  exact W.aret hB.1 hB.2.1 (hB.2.2.2.2.2.1.trans hr) hty (by cases x; exact Or.inl rfl; exact Or.inr ⟨_, rfl⟩) (fun t ht hW => ⟨(some (av_r x)), M, rfl, hq, by rw [ht]; exact hR, hS.F ht⟩) hS.2.2 hd hB.2.2.2.2.1
theorem ax_nt {ky : ax_K} {As : List ax_V} (hM : ax_Met l G ky d c n M As Q) (hx : ∀ E M2, ¬ Q (.inr E) M2) : Met l ky.1 (ax_ws ky) (ax_rm d c n) (ax_Pc G M As) (ax_Qc G Q) c n (ax_A G) := by
  refine MetFree.mono hM (fun _ _ h => h) (fun _ _ _ _ _ h => h) (fun a st o t hp hq => ?_)
  rcases hq with hq | ⟨q, rfl, E, ce, L9, ⟨M2, h1, -⟩, -⟩
  · exact hq
  · exact absurd h1 (hx E M2)
theorem ax_mono {ky : ax_K} {As : List ax_V} {Q2 : ax_O → ax_M → Prop} (hM : ax_Met l G ky d c n M As Q) (hq : ∀ o M2, Q o M2 → Q2 o M2) : ax_Met l G ky d c n M As Q2 := by
  refine MetFree.mono hM (fun _ _ h => h) (fun _ _ _ _ _ h => h) (fun a st o t hp hqq => ?_)
  rcases hqq with ⟨⟨r, M2, h1, h2, h3, h4⟩, h5⟩ | ⟨q, rfl, E, ce, L9, ⟨M2, h1, h2⟩, h3⟩
  · exact Or.inl ⟨⟨r, M2, h1, hq _ _ h2, h3, h4⟩, h5⟩
  · exact Or.inr ⟨q, rfl, E, ce, L9, ⟨M2, hq _ _ h1, h2⟩, h3⟩
section After
variable {p : Program} {e : Env} {R : Room} {s : State} {m : MethodId} {args : Array Value} {below : List Frame} {meth : Method} {cd : Code} {Z : State → Prop} {H : Heap} {locs : List Loc} {cells slots mc ms : Nat} {ls : Array Slot} {a : Array Value}
theorem ax_va {g : JFrame} {rest : List Value} {Qa : State → Outcome → State → Prop} {XC : String → State → State → Prop} {free : Addr → Prop} (h : va_Run p l e R s m args below meth cd H locs cells slots mc ms g rest Qa free) : vx_Run p l e R s m args below meth cd H locs cells slots mc ms g rest Qa XC free := fun T hT X => Or.inl (h T hT X)
theorem ax_after {st : List Value} (hr : vx_Run p l e R s m args below meth cd H locs cells slots mc ms (F0 m pc ls st) (S.map (ax_tv G)) (ax_Qc G Q a) (ax_XC G Q) (ax_A G)) (hS : va_S (ax_A G) s.heap H locs)
    (kk : ∀ (r : Option ax_V) (M2 : ax_M) (H1 : Heap) (locs1 : List Loc), Q (.inl r) M2 → ax_R G M2 H1 → va_S (ax_A G) s.heap H1 locs1 → W p l e R s m args below meth cd H1 locs1 (cells + mc) (slots + ms) Z (F0 m (pc + 3) ls ((r.toList ++ S).map (ax_tv G))))
    (kx : ∀ (E : String) (M2 : ax_M) (H1 : Heap) (locs1 : List Loc) (q : Addr) (ce : Cell), Q (.inr E) M2 → ax_R G M2 H1 → va_S (ax_A G) s.heap H1 locs1 → H1[q]? = some ce → ce.vm = .none → s.vm.findClass E = some ce.cls → vx_W p l e R s m args below meth cd H1 locs1 (cells + mc) (slots + ms) Z (F0 m pc ls (S.map (ax_tv G))) q) : W p l e R s m args below meth cd H locs cells slots Z (F0 m pc ls st) := by
  intro T hT X
  rcases hr T hT X with ⟨v, st₀, t, T', L, h0, X', hL, e1, e2, ⟨r, M2, hv, hq, hR2, hF⟩, st1⟩ | ⟨q, st₀, t, T', L, E, ce, h0, X', hL, e1, e2, ⟨M2, hq, hR2, hF⟩, hce, hcv, hcl, st1⟩
  · obtain ⟨k1, k2, k3⟩ := vx_keep h0 e1 hS (fun _ _ h9 => h9) (fun _ h9 => h9) hL hF
    cases hv
    obtain ⟨t2, a1, b1⟩ := kk r M2 T'.heap (locs ++ L) hq (by rw [e1]; exact hR2) k3 T' rfl X'
    refine ⟨t2, st1 t2 ?_, b1⟩
    cases r <;> exact a1
  · obtain ⟨k1, k2, k3⟩ := vx_keep h0 e1 hS (fun _ _ h9 => h9) (fun _ h9 => h9) hL hF
    obtain ⟨t2, a1, b1⟩ := kx E M2 T'.heap (locs ++ L) q ce hq (by rw [e1]; exact hR2) k3 (by rw [e1]; exact hce) hcv hcl T' rfl X'
    exact ⟨t2, st1.trans a1, b1⟩
end After
/-- what a callee's words say, once a method -/
def ax_mo (ky : ax_K) (nA : Nat) : Prop := Cond.initialized ky.1.cls ∈ lw_tbl ∧ Cond.code ky.1 ky.2.1 ky.2.2.1 ky.2.2.2 ∈ lw_tbl ∧ (ky.1.cls ≠ "java/lang/invoke/MethodHandle" ∧ ky.1.cls ≠ "java/lang/invoke/VarHandle") ∧ (parseMethodDescriptor ky.1.desc).map (fun d => d.parameters.length) = some nA ∧ ky.2.2.1 ≤ 61
def ax_mv (ky : ax_K) (nA : Nat) : Prop := ax_mo ky nA ∧ Cond.instanceMethod ky.1 ∈ lw_tbl ∧ Cond.selects ky.1.cls ky.1 ky.1 ∈ lw_tbl
def ax_ms (ky : ax_K) (nA : Nat) : Prop := ax_mo ky nA ∧ Cond.static ky.1 ∈ lw_tbl
def ax_mi (ky : ax_K) (nA : Nat) : Prop := ax_mo ky nA ∧ Cond.instanceMethod ky.1 ∈ lw_tbl ∧ ky.1.name = "<init>"
theorem ax_sig {ky : ax_K} {nA : Nat} (h : ax_mo ky nA) : ∀ sig, parseMethodDescriptor ky.1.desc = some sig → nA = sig.parameters.length := by
  intro sig hs
  have h2 := h.2.2.2.1
  rw [hs] at h2
  exact (Option.some.inj h2).symm
theorem ax_callB {ky : ax_K} {nA ix d2 c2 n2 : Nat} {R : Room} {s : State} {args : Array Value} (hC : ax_C G s) (hm : ax_mo ky nA) (hlink : Cond.methodLink k.1.cls ix ky.1 ∈ lw_tbl) (h1 : d ≤ R.frames) (h2 : 80 * d ≤ R.locals) (hd : d2 + 1 ≤ d) : CallB R s args k.1.cls ix ky.1 ky.2.1 ky.2.2.1 ky.2.2.2 (ax_ws ky) (ax_rm d2 c2 n2) c2 n2 nA :=
  ⟨rfl, rfl, by show d2 + 1 ≤ R.frames; omega, by have := hm.2.2.2.2; show 8 + (ky.2.2.1 + 11) + 80 * d2 ≤ R.locals; omega, fun w hw a' U hW => by
    cases List.mem_singleton.mp hw
    exact ax_word rfl hW (hC.2.1 _ hm.2.1 rfl), List.mem_singleton.mpr rfl, ax_use hC hm.2.1 rfl, ax_use hC hm.1 rfl, hm.2.2.1, ax_sig hm, ax_use hC hlink rfl⟩
theorem ax_callN {ky : ax_K} {nA ix d2 c2 n2 : Nat} {R : Room} {s : State} {args : Array Value} {host : String} (hC : ax_C G s) (hm : ax_mo ky nA) (hlink : Cond.methodLinkNest k.1.cls ix ky.1 host ∈ lw_tbl) (h1 : d ≤ R.frames) (h2 : 80 * d ≤ R.locals) (hd : d2 + 1 ≤ d) : va_CN R s args k.1.cls ix ky.1 host ky.2.1 ky.2.2.1 ky.2.2.2 (ax_ws ky) (ax_rm d2 c2 n2) c2 n2 nA :=
  ⟨⟨rfl, rfl, by show d2 + 1 ≤ R.frames; omega, by have := hm.2.2.2.2; show 8 + (ky.2.2.1 + 11) + 80 * d2 ≤ R.locals; omega, fun w hw a' U hW => by
    cases List.mem_singleton.mp hw
    exact ax_word rfl hW (hC.2.1 _ hm.2.1 rfl), List.mem_singleton.mpr rfl⟩, ax_use hC hm.2.1 rfl, ax_use hC hm.1 rfl, hm.2.2.1, ax_sig hm, ax_use hC hlink rfl⟩
theorem ax_pay {As : List ax_V} {s : State} {H : Heap} {locs : List Loc} (hC : ax_C G s) (hS : va_S (ax_A G) s.heap H locs) (hR : ax_R G M H) : ∀ U : State, U.heap = H → s.WarmedH U.vm → ax_Pc G M As (As.map (ax_tv G)).toArray U := fun U hU hW => ⟨rfl, ax_C_kept hC hW (by rw [hU]; exact hS.1) (fun a h1 h2 => by rw [hU]; exact hS.2.1 a h1 h2), by rw [hU]; exact hR⟩
theorem ax_recv {ky : ax_K} {ci a : Nat} {s : State} {H : Heap} {T : u_T} {N : Nat} (hC : ax_C G s) (hR : ax_R G M H) (hcl : vwCl[ci]? = some (ky.1.cls, T, N)) (hsh : M.2.2.2.1 (a + 1) = some (.inr ci)) : ∃ cellB : Cell, H[G.1 + a]? = some cellB ∧ cellB.vm.isStatics = false ∧ s.vm.findClass ky.1.cls = some cellB.cls := by
  obtain ⟨hlt, r, hr1, cell, q1, q2, q3, q4⟩ := hR.2.2 a _ hsh
  obtain ⟨hS1, hfc, kC, hkC, hkind⟩ := hC.2.2.1.1 ci _ hcl
  exact ⟨cell, q1, by rw [q3]; rfl, by rw [q2]; exact hfc⟩
def ax_low (S : List ax_V) : Bool := decide ((S.map fun v => match v with
  | .inr (.inl _) => 2
  | _ => 1).sum ≤ 8)
theorem ax_low_ok {S : List ax_V} (h : ax_low S = true) : ((S.map (ax_tv G)).map fun v => v.category).sum ≤ 8 := by
  have e : (S.map (ax_tv G)).map (fun v => v.category) = S.map fun v => match v with
      | .inr (.inl _) => 2
      | _ => 1 := by
    rw [List.map_map]
    apply List.map_congr_left
    intro v _
    rcases v with x | x | q | j
    · rfl
    · rfl
    · cases q <;> rfl
    · rfl
  rw [e]
  exact of_decide_eq_true h

theorem ax_callV {ky : ax_K} {nA ix d2 c2 n2 c1 n1 : Nat} {ci a : Nat} {T : u_T} {N : Nat} {As : List ax_V} {St : List ax_V} {Q2 : ax_O → ax_M → Prop} (hM : ax_Met l G ky d2 c2 n2 M (av_r a :: As) Q2) (hd : decode k.2.1 pc = .ok (.invokevirtual ix, 3)) (hm : ax_mv ky nA) (hlink : Cond.methodLink k.1.cls ix ky.1 ∈ lw_tbl) (hcl : ax_cls ci ky.1.cls T N) (hsh : M.2.2.2.1 a = some (.inr ci)) (hA : As.length = nA) (hd2 : d2 + 1 ≤ d) (hc2 : c1 + c2 ≤ c) (hn2 : n1 + n2 ≤ n) (hlow : ax_low S = true) (hSt : St = As.reverse ++ av_r a :: S) (hx : ∀ E M2, ¬ Q2 (.inr E) M2) (kk : ∀ (r : Option ax_V) (M2 : ax_M), Q2 (.inl r) M2 → ax_W l G k F d c1 n1 M2 (pc + 3) L (r.toList ++ S)) : ax_W l G k F d c n M pc L (St) := by
  intro p e R s m args below meth cd Z H locs cells slots ls h
  obtain ⟨hB, hF, ⟨h1, h2, h3, h4⟩, hS, hR, hl⟩ := h
  obtain ⟨hx1, hb, hml, hown, hlo, hrt, hnm, hC⟩ := id hB
  subst hSt
  cases a with
  | zero => rw [hR.2.1] at hsh; cases hsh
  | succ q =>
    have hstk : ((As.reverse ++ av_r (q + 1) :: S).map (ax_tv G)) = (As.map (ax_tv G)).reverse ++ .ref (G.1 + q) :: S.map (ax_tv G) := by
      rw [List.map_append, List.map_reverse]; rfl
    have hrun := vx_runV (Ts := []) (C := ky.1.cls) (b := G.1 + q) (As := As.map (ax_tv G)) (rest := S.map (ax_tv G)) (locs := locs) (cells := cells) (slots := slots) (l := l) (e := e) (below := below) (meth := meth) (g := F0 m pc ls ((As.reverse ++ av_r (q + 1) :: S).map (ax_tv G))) ⟨hx1, hb, hml, hown, (fun (w : Cond) (hw : w ∈ ([] : List Cond)) => absurd hw List.not_mem_nil)⟩ hM ⟨ax_callB (d := d) (args := args) (R := R) hC hm.1 hlink h1 h2 hd2, ax_use hC hm.2.1 rfl, ax_use hC hm.2.2 rfl⟩ ⟨ax_blind, ax_recv (ky := ky) hC hR hcl.1 hsh, ax_pay (As := av_r (q + 1) :: As) hC hS hR⟩ rfl (by rw [List.length_map]; exact hA) (hl.1) hstk (lv_room (ax_low_ok hlow)) hd ⟨by omega, by omega⟩
    refine ax_after (mc := c2) (ms := n2) hrun hS (fun r M2 H1 locs1 hq hR1 hS1 => kk r M2 hq p e R s m args below meth cd Z H1 locs1 _ _ ls ⟨hB, hF, ⟨h1, h2, by omega, by omega⟩, hS1, hR1, hl⟩) (fun E M2 H1 locs1 q9 ce hq hR1 hS1 hce hcv hcl9 => ?_)
    exact absurd hq (hx E M2)
theorem ax_callVX {ky : ax_K} {nA ix d2 c2 n2 c1 n1 : Nat} {ci a : Nat} {T : u_T} {N : Nat} {As : List ax_V} {St : List ax_V} {Q2 : ax_O → ax_M → Prop} (hM : ax_Met l G ky d2 c2 n2 M (av_r a :: As) Q2) (hd : decode k.2.1 pc = .ok (.invokevirtual ix, 3)) (hm : ax_mv ky nA) (hlink : Cond.methodLink k.1.cls ix ky.1 ∈ lw_tbl) (hcl : ax_cls ci ky.1.cls T N) (hsh : M.2.2.2.1 a = some (.inr ci)) (hA : As.length = nA) (hd2 : d2 + 1 ≤ d) (hc2 : c1 + c2 ≤ c) (hn2 : n1 + n2 ≤ n) (hlow : ax_low S = true) (hSt : St = As.reverse ++ av_r a :: S) (hx : ∀ E M2, Q2 (.inr E) M2 → Q (.inr E) M2) (kk : ∀ (r : Option ax_V) (M2 : ax_M), Q2 (.inl r) M2 → ax_W l G k (ax_FQ G Q) d c1 n1 M2 (pc + 3) L (r.toList ++ S)) : ax_W l G k (ax_FQ G Q) d c n M pc L (St) := by
  intro p e R s m args below meth cd Z H locs cells slots ls h
  obtain ⟨hB, hF, ⟨h1, h2, h3, h4⟩, hS, hR, hl⟩ := h
  obtain ⟨hx1, hb, hml, hown, hlo, hrt, hnm, hC⟩ := id hB
  subst hSt
  cases a with
  | zero => rw [hR.2.1] at hsh; cases hsh
  | succ q =>
    have hstk : ((As.reverse ++ av_r (q + 1) :: S).map (ax_tv G)) = (As.map (ax_tv G)).reverse ++ .ref (G.1 + q) :: S.map (ax_tv G) := by
      rw [List.map_append, List.map_reverse]; rfl
    have hrun := vx_runV (Ts := []) (C := ky.1.cls) (b := G.1 + q) (As := As.map (ax_tv G)) (rest := S.map (ax_tv G)) (locs := locs) (cells := cells) (slots := slots) (l := l) (e := e) (below := below) (meth := meth) (g := F0 m pc ls ((As.reverse ++ av_r (q + 1) :: S).map (ax_tv G))) ⟨hx1, hb, hml, hown, (fun (w : Cond) (hw : w ∈ ([] : List Cond)) => absurd hw List.not_mem_nil)⟩ hM ⟨ax_callB (d := d) (args := args) (R := R) hC hm.1 hlink h1 h2 hd2, ax_use hC hm.2.1 rfl, ax_use hC hm.2.2 rfl⟩ ⟨ax_blind, ax_recv (ky := ky) hC hR hcl.1 hsh, ax_pay (As := av_r (q + 1) :: As) hC hS hR⟩ rfl (by rw [List.length_map]; exact hA) (hl.1) hstk (lv_room (ax_low_ok hlow)) hd ⟨by omega, by omega⟩
    refine ax_after (mc := c2) (ms := n2) hrun hS (fun r M2 H1 locs1 hq hR1 hS1 => kk r M2 hq p e R s m args below meth cd Z H1 locs1 _ _ ls ⟨hB, hF, ⟨h1, h2, by omega, by omega⟩, hS1, hR1, hl⟩) (fun E M2 H1 locs1 q9 ce hq hR1 hS1 hce hcv hcl9 => ?_)
    obtain ⟨rfl, hT⟩ := hF
    exact vx_out (fun x hx9 => absurd (hT x hx9) id) hlo hce hcv hcl9 (fun t ht hal => ⟨M2, hx E M2 hq, by rw [ht]; exact hR1, hS1.F ht⟩) hS1.2.2 (by omega) (by omega)
theorem ax_callVN {ky : ax_K} {nA ix d2 c2 n2 c1 n1 : Nat} {ci a : Nat} {T : u_T} {N : Nat} {host : String} {As : List ax_V} {St : List ax_V} {Q2 : ax_O → ax_M → Prop} (hM : ax_Met l G ky d2 c2 n2 M (av_r a :: As) Q2) (hd : decode k.2.1 pc = .ok (.invokevirtual ix, 3)) (hm : ax_mv ky nA) (hlink : Cond.methodLinkNest k.1.cls ix ky.1 host ∈ lw_tbl) (hcl : ax_cls ci ky.1.cls T N) (hsh : M.2.2.2.1 a = some (.inr ci)) (hA : As.length = nA) (hd2 : d2 + 1 ≤ d) (hc2 : c1 + c2 ≤ c) (hn2 : n1 + n2 ≤ n) (hlow : ax_low S = true) (hSt : St = As.reverse ++ av_r a :: S) (hx : ∀ E M2, ¬ Q2 (.inr E) M2) (kk : ∀ (r : Option ax_V) (M2 : ax_M), Q2 (.inl r) M2 → ax_W l G k F d c1 n1 M2 (pc + 3) L (r.toList ++ S)) : ax_W l G k F d c n M pc L (St) := by
  intro p e R s m args below meth cd Z H locs cells slots ls h
  obtain ⟨hB, hF, ⟨h1, h2, h3, h4⟩, hS, hR, hl⟩ := h
  obtain ⟨hx1, hb, hml, hown, hlo, hrt, hnm, hC⟩ := id hB
  subst hSt
  cases a with
  | zero => rw [hR.2.1] at hsh; cases hsh
  | succ q =>
    have hstk : ((As.reverse ++ av_r (q + 1) :: S).map (ax_tv G)) = (As.map (ax_tv G)).reverse ++ .ref (G.1 + q) :: S.map (ax_tv G) := by
      rw [List.map_append, List.map_reverse]; rfl
    have hrun := ax_va (XC := ax_XC G Q2) (va_runVN (Ts := []) (C := ky.1.cls) (b := G.1 + q) (As := As.map (ax_tv G)) (rest := S.map (ax_tv G)) (locs := locs) (cells := cells) (slots := slots) (l := l) (e := e) (below := below) (meth := meth) (g := F0 m pc ls ((As.reverse ++ av_r (q + 1) :: S).map (ax_tv G))) ⟨hx1, hb, hml, hown, (fun (w : Cond) (hw : w ∈ ([] : List Cond)) => absurd hw List.not_mem_nil)⟩ (ax_nt hM hx) ⟨ax_callN (d := d) (args := args) (R := R) hC hm.1 hlink h1 h2 hd2, ax_use hC hm.2.1 rfl, ax_use hC hm.2.2 rfl⟩ ⟨ax_blind, ax_recv (ky := ky) hC hR hcl.1 hsh, ax_pay (As := av_r (q + 1) :: As) hC hS hR⟩ rfl (by rw [List.length_map]; exact hA) (hl.1) hstk (lv_room (ax_low_ok hlow)) hd ⟨by omega, by omega⟩)
    refine ax_after (mc := c2) (ms := n2) hrun hS (fun r M2 H1 locs1 hq hR1 hS1 => kk r M2 hq p e R s m args below meth cd Z H1 locs1 _ _ ls ⟨hB, hF, ⟨h1, h2, by omega, by omega⟩, hS1, hR1, hl⟩) (fun E M2 H1 locs1 q9 ce hq hR1 hS1 hce hcv hcl9 => ?_)
    exact absurd hq (hx E M2)
theorem ax_callS {ky : ax_K} {nA ix d2 c2 n2 c1 n1 : Nat} {As : List ax_V} {St : List ax_V} {Q2 : ax_O → ax_M → Prop} (hM : ax_Met l G ky d2 c2 n2 M As Q2) (hd : decode k.2.1 pc = .ok (.invokestatic ix, 3)) (hm : ax_ms ky nA) (hlink : Cond.methodLink k.1.cls ix ky.1 ∈ lw_tbl) (hA : As.length = nA) (hd2 : d2 + 1 ≤ d) (hc2 : c1 + c2 ≤ c) (hn2 : n1 + n2 ≤ n) (hlow : ax_low S = true) (hSt : St = As.reverse ++ S) (hx : ∀ E M2, ¬ Q2 (.inr E) M2) (kk : ∀ (r : Option ax_V) (M2 : ax_M), Q2 (.inl r) M2 → ax_W l G k F d c1 n1 M2 (pc + 3) L (r.toList ++ S)) : ax_W l G k F d c n M pc L (St) := by
  intro p e R s m args below meth cd Z H locs cells slots ls h
  obtain ⟨hB, hF, ⟨h1, h2, h3, h4⟩, hS, hR, hl⟩ := h
  obtain ⟨hx1, hb, hml, hown, hlo, hrt, hnm, hC⟩ := id hB
  subst hSt
  have hstk : ((As.reverse ++ S).map (ax_tv G)) = (As.map (ax_tv G)).reverse ++ S.map (ax_tv G) := by
    rw [List.map_append, List.map_reverse]
  have hrun := vx_runS (Ts := []) (As := As.map (ax_tv G)) (rest := S.map (ax_tv G)) (locs := locs) (cells := cells) (slots := slots) (l := l) (e := e) (below := below) (meth := meth) (g := F0 m pc ls ((As.reverse ++ S).map (ax_tv G))) ⟨hx1, hb, hml, hown, (fun (w : Cond) (hw : w ∈ ([] : List Cond)) => absurd hw List.not_mem_nil)⟩ hM ⟨ax_callB (d := d) (args := args) (R := R) hC hm.1 hlink h1 h2 hd2, ax_use hC hm.2 rfl⟩ ⟨ax_blind, ax_pay (As := As) hC hS hR⟩ rfl (by rw [List.length_map]; exact hA) (hl.1) hstk (lv_room (ax_low_ok hlow)) hd ⟨by omega, by omega⟩
  refine ax_after (mc := c2) (ms := n2) hrun hS (fun r M2 H1 locs1 hq hR1 hS1 => kk r M2 hq p e R s m args below meth cd Z H1 locs1 _ _ ls ⟨hB, hF, ⟨h1, h2, by omega, by omega⟩, hS1, hR1, hl⟩) (fun E M2 H1 locs1 q9 ce hq hR1 hS1 hce hcv hcl9 => ?_)
  exact absurd hq (hx E M2)
theorem ax_callI {ky : ax_K} {nA ix d2 c2 n2 c1 n1 : Nat} {a : Nat} {As : List ax_V} {St : List ax_V} {Q2 : ax_O → ax_M → Prop} (hM : ax_Met l G ky d2 c2 n2 M (av_r a :: As) Q2) (hd : decode k.2.1 pc = .ok (.invokespecial ix, 3)) (hm : ax_mi ky nA) (hlink : Cond.methodLink k.1.cls ix ky.1 ∈ lw_tbl) (hne : a ≠ 0) (hret : ky.2.2.2 = none) (hA : As.length = nA) (hd2 : d2 + 1 ≤ d) (hc2 : c1 + c2 ≤ c) (hn2 : n1 + n2 ≤ n) (hlow : ax_low S = true) (hSt : St = As.reverse ++ av_r a :: S) (hx : ∀ E M2, ¬ Q2 (.inr E) M2) (kk : ∀ (r : Option ax_V) (M2 : ax_M), Q2 (.inl r) M2 → ax_W l G k F d c1 n1 M2 (pc + 3) L (r.toList ++ S)) : ax_W l G k F d c n M pc L (St) := by
  intro p e R s m args below meth cd Z H locs cells slots ls h
  obtain ⟨hB, hF, ⟨h1, h2, h3, h4⟩, hS, hR, hl⟩ := h
  obtain ⟨hx1, hb, hml, hown, hlo, hrt, hnm, hC⟩ := id hB
  subst hSt
  cases a with
  | zero => exact absurd rfl hne
  | succ q =>
    have hstk : ((As.reverse ++ av_r (q + 1) :: S).map (ax_tv G)) = (As.map (ax_tv G)).reverse ++ .ref (G.1 + q) :: S.map (ax_tv G) := by
      rw [List.map_append, List.map_reverse]; rfl
    have hrun := ax_va (XC := ax_XC G Q2) (va_runI (Ts := []) (b := G.1 + q) (As := As.map (ax_tv G)) (rest := S.map (ax_tv G)) (locs := locs) (cells := cells) (slots := slots) (l := l) (e := e) (below := below) (meth := meth) (g := F0 m pc ls ((As.reverse ++ av_r (q + 1) :: S).map (ax_tv G))) ⟨hx1, hb, hml, hown, (fun (w : Cond) (hw : w ∈ ([] : List Cond)) => absurd hw List.not_mem_nil)⟩ (ax_nt hM hx) ⟨by have h9 := ax_callB (k := k) (d := d) (c2 := c2) (n2 := n2) (args := args) (R := R) hC hm.1 hlink h1 h2 hd2; rw [hret] at h9; exact h9, hm.2.2, ax_use hC hm.2.1 rfl⟩ ⟨ax_blind, ax_pay (As := av_r (q + 1) :: As) hC hS hR⟩ rfl (by rw [List.length_map]; exact hA) (hl.1) hstk (lv_room (ax_low_ok hlow)) hd ⟨by omega, by omega⟩)
    refine ax_after (mc := c2) (ms := n2) hrun hS (fun r M2 H1 locs1 hq hR1 hS1 => kk r M2 hq p e R s m args below meth cd Z H1 locs1 _ _ ls ⟨hB, hF, ⟨h1, h2, by omega, by omega⟩, hS1, hR1, hl⟩) (fun E M2 H1 locs1 q9 ce hq hR1 hS1 hce hcv hcl9 => ?_)
    exact absurd hq (hx E M2)
theorem ax_callIN {ky : ax_K} {nA ix d2 c2 n2 c1 n1 : Nat} {a : Nat} {host : String} {As : List ax_V} {St : List ax_V} {Q2 : ax_O → ax_M → Prop} (hM : ax_Met l G ky d2 c2 n2 M (av_r a :: As) Q2) (hd : decode k.2.1 pc = .ok (.invokespecial ix, 3)) (hm : ax_mi ky nA) (hlink : Cond.methodLinkNest k.1.cls ix ky.1 host ∈ lw_tbl) (hne : a ≠ 0) (hret : ky.2.2.2 = none) (hA : As.length = nA) (hd2 : d2 + 1 ≤ d) (hc2 : c1 + c2 ≤ c) (hn2 : n1 + n2 ≤ n) (hlow : ax_low S = true) (hSt : St = As.reverse ++ av_r a :: S) (hx : ∀ E M2, ¬ Q2 (.inr E) M2) (kk : ∀ (r : Option ax_V) (M2 : ax_M), Q2 (.inl r) M2 → ax_W l G k F d c1 n1 M2 (pc + 3) L (r.toList ++ S)) : ax_W l G k F d c n M pc L (St) := by
  intro p e R s m args below meth cd Z H locs cells slots ls h
  obtain ⟨hB, hF, ⟨h1, h2, h3, h4⟩, hS, hR, hl⟩ := h
  obtain ⟨hx1, hb, hml, hown, hlo, hrt, hnm, hC⟩ := id hB
  subst hSt
  cases a with
  | zero => exact absurd rfl hne
  | succ q =>
    have hstk : ((As.reverse ++ av_r (q + 1) :: S).map (ax_tv G)) = (As.map (ax_tv G)).reverse ++ .ref (G.1 + q) :: S.map (ax_tv G) := by
      rw [List.map_append, List.map_reverse]; rfl
    have hrun := ax_va (XC := ax_XC G Q2) (va_runIN (Ts := []) (b := G.1 + q) (As := As.map (ax_tv G)) (rest := S.map (ax_tv G)) (locs := locs) (cells := cells) (slots := slots) (l := l) (e := e) (below := below) (meth := meth) (g := F0 m pc ls ((As.reverse ++ av_r (q + 1) :: S).map (ax_tv G))) ⟨hx1, hb, hml, hown, (fun (w : Cond) (hw : w ∈ ([] : List Cond)) => absurd hw List.not_mem_nil)⟩ (ax_nt hM hx) ⟨by have h9 := ax_callN (k := k) (d := d) (c2 := c2) (n2 := n2) (args := args) (R := R) hC hm.1 hlink h1 h2 hd2; rw [hret] at h9; exact h9, hm.2.2, ax_use hC hm.2.1 rfl⟩ ⟨ax_blind, ax_pay (As := av_r (q + 1) :: As) hC hS hR⟩ rfl (by rw [List.length_map]; exact hA) (hl.1) hstk (lv_room (ax_low_ok hlow)) hd ⟨by omega, by omega⟩)
    refine ax_after (mc := c2) (ms := n2) hrun hS (fun r M2 H1 locs1 hq hR1 hS1 => kk r M2 hq p e R s m args below meth cd Z H1 locs1 _ _ ls ⟨hB, hF, ⟨h1, h2, by omega, by omega⟩, hS1, hR1, hl⟩) (fun E M2 H1 locs1 q9 ce hq hR1 hS1 hce hcv hcl9 => ?_)
    exact absurd hq (hx E M2)
end AXC
end
section
/-! ===== new cells, Math, throws ===== -/
theorem ax_new_i {M : ax_M} {x : (Nat × Nat) ⊕ Nat} {b j : Nat} : (ax_new M x).1 b j = if b = M.2.2.2.2 + 1 then 0 else M.1 b j := rfl
theorem ax_R_new {G : ax_G} {M : ax_M} {x : (Nat × Nat) ⊕ Nat} {H H1 : Heap} (hR : ax_R G M H) (hz : H1.size = H.size + 1) (ho : ∀ q, q < H.size → H1[q]? = H[q]?) (hc : ax_cell G (ax_new M x) M.2.2.2.2 x H1) : ax_R G (ax_new M x) H1 := by
  refine ⟨by rw [hz, hR.1]; rfl, ?_, fun q y hy => ?_⟩
  · show (if 0 = M.2.2.2.2 + 1 then some x else M.2.2.2.1 0) = none
    rw [if_neg (by omega)]
    exact hR.2.1
  · have hy2 : (if q + 1 = M.2.2.2.2 + 1 then some x else M.2.2.2.1 (q + 1)) = some y := hy
    by_cases e : q = M.2.2.2.2
    · subst e
      rw [if_pos rfl] at hy2
      cases hy2
      exact ⟨by show M.2.2.2.2 < M.2.2.2.2 + 1; omega, hc⟩
    · rw [if_neg (by omega)] at hy2
      obtain ⟨hlt, hcell⟩ := hR.2.2 q y hy2
      refine ⟨by show q < M.2.2.2.2 + 1; omega, ax_cell_cong (ax_val_cong ?_ ?_ ?_) (ho _ (by rw [hR.1]; omega)) hcell⟩
      · funext j
        show (if q + 1 = M.2.2.2.2 + 1 then 0 else M.1 (q + 1) j) = _
        rw [if_neg (by omega)]
      · funext j
        show (if q + 1 = M.2.2.2.2 + 1 then 0 else M.2.1 (q + 1) j) = _
        rw [if_neg (by omega)]
      · funext j
        show (if q + 1 = M.2.2.2.2 + 1 then 0 else M.2.2.1 (q + 1) j) = _
        rw [if_neg (by omega)]
theorem ax_S_new {G : ax_G} {H0 H H1 : Heap} {locs : List Loc} (hS : va_S (ax_A G) H0 H locs) (hz : H1.size = H.size + 1) (ho : ∀ q, q < H.size → H1[q]? = H[q]?) : va_S (ax_A G) H0 H1 locs :=
  ⟨by have := hS.1; omega, fun q h1 h2 => (ho q (Nat.lt_of_lt_of_le h1 hS.1)).trans (hS.2.1 q h1 h2), hS.2.2⟩
def ax_tok (ty : FieldType) : Bool := match ty with
  | .int => true
  | .boolean => true
  | .long => true
  | .object _ => true
  | .array _ => true
  | _ => false
theorem ax_dflt {G : ax_G} {M : ax_M} {x : (Nat × Nat) ⊕ Nat} {ty : FieldType} (h : ax_tok ty = true) (j : Nat) : defaultValue ty = ax_val G (ax_new M x) (M.2.2.2.2 + 1) (ax_fk ty) j := by
  cases ty <;> simp [ax_tok] at h <;> simp [ax_fk, ax_val, ax_new, defaultValue, ax_rf]
section AXN
variable {l : Launch} {G : ax_G} {k : ax_K} {F : ax_F} {d c n : Nat} {M : ax_M} {pc : Nat} {L : List (Option ax_V)} {S : List ax_V} {Q : ax_O → ax_M → Prop}

theorem ax_newo {ix ci c1 n1 : Nat} {C : String} {T : u_T} {N : Nat} (hd : decode k.2.1 pc = .ok (.new ix, 3)) (hcl : ax_cls ci C T N) (hlink : Cond.classLink k.1.cls ix C ∈ lw_tbl) (hins : Cond.instantiable C N ∈ lw_tbl) (hini : Cond.initialized C ∈ lw_tbl) (htok : ∀ j, j < N → ax_tok (ax_ft ci j) = true) (hc2 : c1 + 1 ≤ c) (hn2 : n1 + N ≤ n) (kk : ax_W l G k F d c1 n1 (ax_new M (.inr ci)) (pc + 3) L (av_r (M.2.2.2.2 + 1) :: S)) : ax_W l G k F d c n M pc L (S) := by
  intro p e R s m args below meth cd Z H locs cells slots ls h
  obtain ⟨hB, hF, ⟨h1, h2, h3, h4⟩, hS, hR, hl⟩ := h
  obtain ⟨hx1, hb, hml, hown, hlo, hrt, hnm, hC⟩ := id hB
  obtain ⟨hS1, hfc, kC0, hkC0, hkind⟩ := hC.2.2.1.1 ci _ hcl.1
  refine W.newcK hx1 hb hown (ax_use hC hlink rfl) (ax_use hC hins rfl) (ax_use hC hini rfl) rfl hd (by omega) (by omega) hfc hR.1 fun H1 kC hkC e1 e2 e3 => ?_
  have hts : ∀ w ∈ u_ws C T N, w.before args s = true := fun w hw => ax_use hC (hcl.2.1 w hw).1 (hcl.2.1 w hw).2
  have hborn := u_born (ax_ft ci) hts (fun _ h9 => h9) (hC.2.2.1.1 ci _ hcl.1) hkC e1 hcl.2.2.1
  have hcell : ax_cell G (ax_new M (.inr ci)) M.2.2.2.2 (.inr ci) H1 := ⟨_, hcl.1, t_OB.to hborn (fun j hj => ax_dflt (htok j hj) j)⟩
  have hz : H1.size = H.size + 1 := by rw [e2, hR.1]
  have ho : ∀ q, q < H.size → H1[q]? = H[q]? := fun q hq => e3 q (by rw [← hR.1]; exact hq)
  exact kk p e R s m args below meth cd Z H1 locs _ _ ls ⟨hB, hF, ⟨h1, h2, by omega, by omega⟩, ax_S_new hS hz ho, ax_R_new hR hz ho hcell, hl⟩
theorem ax_newa {kd len c1 n1 : Nat} {at9 : ArrayType} {z : Int32} (hd : decode k.2.1 pc = .ok (.newarray at9, 2)) (hty : newarray.typeOf at9 = ax_aty kd) (hkd : kd < 2) (harr : Cond.arrayClass (ax_aty kd) ∈ lw_tbl) (hz0 : ¬ z < 0) (hz1 : z.toNatClampNeg = len) (hsz : len ≤ 60000000) (hc2 : c1 + 1 ≤ c) (hn2 : n1 + len ≤ n) (kk : ax_W l G k F d c1 n1 (ax_new M (.inl (kd, len))) (pc + 2) L (av_r (M.2.2.2.2 + 1) :: S)) : ax_W l G k F d c n M pc L (av_i z :: S) := by
  intro p e R s m args below meth cd Z H locs cells slots ls h
  obtain ⟨hB, hF, ⟨h1, h2, h3, h4⟩, hS, hR, hl⟩ := h
  obtain ⟨hx1, hb, hml, hown, hlo, hrt, hnm, hC⟩ := id hB
  have ht : (ax_tys G)[kd]? = some (G.2.2.1 kd, ax_aty kd) := by
    rcases (show kd = 0 ∨ kd = 1 by omega) with rfl | rfl <;> rfl
  have hRA := (hC.2.2.1.2 kd _ ht).2
  have hcA : s.vm.findClass ("[" ++ (ax_aty kd).toString) = some (G.2.2.1 kd) := by
    rcases (show kd = 0 ∨ kd = 1 by omega) with rfl | rfl <;> exact hRA
  have hby : len * componentBytes (newarray.typeOf at9) ≤ 536870912 := by
    rw [hty]
    rcases (show kd = 0 ∨ kd = 1 by omega) with rfl | rfl
    · show len * 4 ≤ _; omega
    · show len * 8 ≤ _; omega
  refine va_newaK hx1 hb (by rw [hty]; exact ax_use hC harr rfl) rfl hd rfl hz0 hz1 hby (by omega) (by omega) hR.1 fun H1 cA e1 e2 e3 hAr hfc => ?_
  rw [hty] at hfc e1
  cases Option.some.inj (hfc.symm.trans hcA)
  have hcell : ax_cell G (ax_new M (.inl (kd, len))) M.2.2.2.2 (.inl (kd, len)) H1 := by
    show H1[G.1 + M.2.2.2.2]? = some (arrV _ _ _)
    rw [e1]
    congr 2
    funext j
    rcases (show kd = 0 ∨ kd = 1 by omega) with rfl | rfl
    · simp [ax_val, ax_new, ax_aty, defaultValue]
    · simp [ax_val, ax_new, ax_aty, defaultValue]
  have hz : H1.size = H.size + 1 := by rw [e2, hR.1]
  have ho : ∀ q, q < H.size → H1[q]? = H[q]? := fun q hq => e3 q (by rw [← hR.1]; exact hq)
  exact kk p e R s m args below meth cd Z H1 locs _ _ ls ⟨hB, hF, ⟨h1, h2, by omega, by omega⟩, ax_S_new hS hz ho, ax_R_new hR hz ho hcell, hl⟩
theorem ax_objInit {ix a : Nat} (hd : decode k.2.1 pc = .ok (.invokespecial ix, 3)) (hlink : Cond.methodLink k.1.cls ix Lib.objectInit ∈ lw_tbl) (hin : Cond.instanceMethod Lib.objectInit ∈ lw_tbl) (hco : Cond.code Lib.objectInit ⟨#[0xb1]⟩ 1 none ∈ lw_tbl) (hne : a ≠ 0) (hd1 : 1 ≤ d) (hlow : ax_low S = true) (kk : ax_W l G k F d c n M (pc + 3) L (S)) : ax_W l G k F d c n M pc L (av_r a :: S) := by
  intro p e R s m args below meth cd Z H locs cells slots ls h
  obtain ⟨hB, hF, ⟨h1, h2, h3, h4⟩, hS, hR, hl⟩ := id h
  obtain ⟨hx1, hb, hml, hown, hlo, hrt, hnm, hC⟩ := id hB
  cases a with
  | zero => exact absurd rfl hne
  | succ q => exact W.objInit hx1 hb hown (ax_use hC hlink rfl) (ax_use hC hin rfl) (ax_use hC hco rfl) rfl (by rw [hml]; exact hl.1) rfl hd (by omega) (by have := ax_low_ok (G := G) hlow; show 2 * 0 + _ + 12 ≤ _; omega) (kk p e R s m args below meth cd Z H locs cells slots ls h)
theorem ax_mmax {ix : Nat} {x y : Int32} (hd : decode k.2.1 pc = .ok (.invokestatic ix, 3)) (hlink : Cond.methodLink k.1.cls ix Lib.Math.max.name ∈ lw_tbl) (hst : Cond.static Lib.Math.max.name ∈ lw_tbl) (hini : Cond.initialized "java/lang/Math" ∈ lw_tbl) (hco : Cond.code Lib.Math.max.name Lib.Math.max.code 2 (some .int) ∈ lw_tbl) (hd1 : 1 ≤ d) (hlow : ax_low S = true) (kk : ax_W l G k F d c n M (pc + 3) L (av_i (if x < y then y else x) :: S)) : ax_W l G k F d c n M pc L (av_i y :: av_i x :: S) := by
  intro p e R s m args below meth cd Z H locs cells slots ls h
  obtain ⟨hB, hF, ⟨h1, h2, h3, h4⟩, hS, hR, hl⟩ := id h
  obtain ⟨hx1, hb, hml, hown, hlo, hrt, hnm, hC⟩ := id hB
  exact va_mmax hx1 hb (by rw [hml]; exact hl.1.symm) hown (ax_use hC hlink rfl) (ax_use hC hst rfl) (ax_use hC hini rfl) (ax_use hC hco rfl) (by omega) (by have := ax_low_ok (G := G) hlow; omega) (by omega) (by omega) hd (kk p e R s m args below meth cd Z H locs cells slots ls h)
theorem ax_mmin {ix : Nat} {x y : Int32} (hd : decode k.2.1 pc = .ok (.invokestatic ix, 3)) (hlink : Cond.methodLink k.1.cls ix Lib.Math.min.name ∈ lw_tbl) (hst : Cond.static Lib.Math.min.name ∈ lw_tbl) (hini : Cond.initialized "java/lang/Math" ∈ lw_tbl) (hco : Cond.code Lib.Math.min.name Lib.Math.min.code 2 (some .int) ∈ lw_tbl) (hd1 : 1 ≤ d) (hlow : ax_low S = true) (kk : ax_W l G k F d c n M (pc + 3) L (av_i (if y < x then y else x) :: S)) : ax_W l G k F d c n M pc L (av_i y :: av_i x :: S) := by
  intro p e R s m args below meth cd Z H locs cells slots ls h
  obtain ⟨hB, hF, ⟨h1, h2, h3, h4⟩, hS, hR, hl⟩ := id h
  obtain ⟨hx1, hb, hml, hown, hlo, hrt, hnm, hC⟩ := id hB
  exact va_mmin hx1 hb (by rw [hml]; exact hl.1.symm) hown (ax_use hC hlink rfl) (ax_use hC hst rfl) (ax_use hC hini rfl) (ax_use hC hco rfl) (by omega) (by have := ax_low_ok (G := G) hlow; omega) (by omega) (by omega) hd (kk p e R s m args below meth cd Z H locs cells slots ls h)
theorem ax_throwS {ik ist ic j : Nat} {E : String} {names : List String} {t : ax_T} (hl9 : l.stackTraces = false) (hcls : Bundle.fit E = true) (hnames : ∀ z ∈ names, Bundle.fit z = true) (hk : Cond.classLink k.1.cls ik E ∈ lw_tbl) (hini : Cond.initialized E ∈ lw_tbl) (ht : ax_txts[j]? = some t) (ht1 : t.1 = k.1.cls) (ht2 : t.2.1 = ist) (hat : ∀ w ∈ vx_atS k.1.cls ic E names, w ∈ lw_tbl ∧ ax_okw w = true) (hgood : ∀ w ∈ Cond.classLink k.1.cls ik E :: Cond.initialized E :: vx_atS k.1.cls ic E names, vx_ot w = true)
    (d0 : decode k.2.1 pc = .ok (.new ik, 3)) (d3 : decode k.2.1 (pc + 3) = .ok (.dup, 1)) (d4 : decode k.2.1 (pc + 4) = .ok (.ldc ist, 2)) (d6 : decode k.2.1 (pc + 6) = .ok (.invokespecial ic, 3)) (d9 : decode k.2.1 (pc + 9) = .ok (.athrow, 1)) (hd1 : names.length + 4 ≤ d) (hc1 : 1 ≤ c) (hn1 : 6 ≤ n) (hlow : ax_low S = true) (hq : ∀ M2 : ax_M, M2.1 = M.1 → M2.2.1 = M.2.1 → M2.2.2.1 = M.2.2.1 → M2.2.2.2.1 = M.2.2.2.1 → M.2.2.2.2 ≤ M2.2.2.2.2 → Q (.inr E) M2) : ax_W l G k (ax_FQ G Q) d c n M pc L S := by
  intro p e R s m args below meth cd Z H locs cells slots ls h
  obtain ⟨hB, ⟨rfl, hT⟩, ⟨h1, h2, h3, h4⟩, hS, hR, hl⟩ := h
  obtain ⟨hx1, hb, hml, hown, hlo, hrt, hnm, hC⟩ := id hB
  obtain ⟨hX1, hX2, -, hX4⟩ := hC.2.2.2
  have htx := (hX4 j t ht).1
  rw [ht1, ht2] at htx
  refine vx_throwS (cls := E) (names := names) (text := t.2.2.1) (sa := G.2.2.2 (2 * j)) (A := ax_A G) hx1 hb hl9 hown hcls hnames (ax_use hC hk rfl) (ax_use hC hini rfl) htx (fun w hw => ax_use hC (hat w hw).1 (hat w hw).2) hgood hX1 hX2 hS (by rw [hml]; exact hl.1) d0 d3 d4 d6 d9 (fun x hx9 => absurd (hT x hx9) id) (by omega) (by have := ax_low_ok (G := G) hlow; omega) (by omega) (by omega) hlo (fun t9 hal hz ho => ?_) hS.2.2 (by omega) (by omega)
  refine ⟨(M.1, M.2.1, M.2.2.1, M.2.2.2.1, t9.heap.size - G.1), hq _ rfl rfl rfl rfl (by have := hR.1; show M.2.2.2.2 ≤ t9.heap.size - G.1; omega), ⟨by have := hR.1; show t9.heap.size = G.1 + (t9.heap.size - G.1); omega, hR.2.1, fun q y hy => ?_⟩, ⟨Nat.le_trans hS.1 hz, fun q q1 q2 => (ho q (Nat.lt_of_lt_of_le q1 hS.1)).trans (hS.2.1 q q1 q2)⟩⟩
  obtain ⟨hlt, hcell⟩ := hR.2.2 q y hy
  exact ⟨by have := hR.1; show q < t9.heap.size - G.1; omega, ax_cell_cong (fun kd j => by unfold ax_val; rfl) (ho _ (by rw [hR.1]; omega)) hcell⟩
theorem ax_throwSW {ik ist ic j : Nat} {E : String} {names : List String} {t : ax_T} (hl9 : l.stackTraces = false) (hcls : Bundle.fit E = true) (hnames : ∀ z ∈ names, Bundle.fit z = true) (hk : Cond.classLink k.1.cls ik E ∈ lw_tbl) (hini : Cond.initialized E ∈ lw_tbl) (ht : ax_txts[j]? = some t) (ht1 : t.1 = k.1.cls) (ht2 : t.2.1 = ist) (hat : ∀ w ∈ vx_atS k.1.cls ic E names, w ∈ lw_tbl ∧ ax_okw w = true) (hgood : ∀ w ∈ Cond.classLink k.1.cls ik E :: Cond.initialized E :: vx_atS k.1.cls ic E names, vx_ot w = true)
    (d0 : decode k.2.1 pc = .ok (.new ik, 3)) (d3 : decode k.2.1 (pc + 3) = .ok (.dup, 1)) (d4 : decode k.2.1 (pc + 4) = .ok (.ldc_w ist, 3)) (d6 : decode k.2.1 (pc + 7) = .ok (.invokespecial ic, 3)) (d9 : decode k.2.1 (pc + 10) = .ok (.athrow, 1)) (hd1 : names.length + 4 ≤ d) (hc1 : 1 ≤ c) (hn1 : 6 ≤ n) (hlow : ax_low S = true) (hq : ∀ M2 : ax_M, M2.1 = M.1 → M2.2.1 = M.2.1 → M2.2.2.1 = M.2.2.1 → M2.2.2.2.1 = M.2.2.2.1 → M.2.2.2.2 ≤ M2.2.2.2.2 → Q (.inr E) M2) : ax_W l G k (ax_FQ G Q) d c n M pc L S := by
  intro p e R s m args below meth cd Z H locs cells slots ls h
  obtain ⟨hB, ⟨rfl, hT⟩, ⟨h1, h2, h3, h4⟩, hS, hR, hl⟩ := h
  obtain ⟨hx1, hb, hml, hown, hlo, hrt, hnm, hC⟩ := id hB
  obtain ⟨hX1, hX2, -, hX4⟩ := hC.2.2.2
  have htx := (hX4 j t ht).1
  rw [ht1, ht2] at htx
  refine vx_throwSW (cls := E) (names := names) (text := t.2.2.1) (sa := G.2.2.2 (2 * j)) (A := ax_A G) hx1 hb hl9 hown hcls hnames (ax_use hC hk rfl) (ax_use hC hini rfl) htx (fun w hw => ax_use hC (hat w hw).1 (hat w hw).2) hgood hX1 hX2 hS (by rw [hml]; exact hl.1) d0 d3 d4 d6 d9 (fun x hx9 => absurd (hT x hx9) id) (by omega) (by have := ax_low_ok (G := G) hlow; omega) (by omega) (by omega) hlo (fun t9 hal hz ho => ?_) hS.2.2 (by omega) (by omega)
  refine ⟨(M.1, M.2.1, M.2.2.1, M.2.2.2.1, t9.heap.size - G.1), hq _ rfl rfl rfl rfl (by have := hR.1; show M.2.2.2.2 ≤ t9.heap.size - G.1; omega), ⟨by have := hR.1; show t9.heap.size = G.1 + (t9.heap.size - G.1); omega, hR.2.1, fun q y hy => ?_⟩, ⟨Nat.le_trans hS.1 hz, fun q q1 q2 => (ho q (Nat.lt_of_lt_of_le q1 hS.1)).trans (hS.2.1 q q1 q2)⟩⟩
  obtain ⟨hlt, hcell⟩ := hR.2.2 q y hy
  exact ⟨by have := hR.1; show q < t9.heap.size - G.1; omega, ax_cell_cong (fun kd j => by unfold ax_val; rfl) (ho _ (by rw [hR.1]; omega)) hcell⟩
end AXN
end
section
theorem ax_in1 {w : Cond} (h : w ∈ tables_1_1) : w ∈ lw_tbl := List.mem_append_right _ (show w ∈ tables_1 from List.mem_append_left _ h)
theorem ax_in2 {w : Cond} (h : w ∈ tables_1_2) : w ∈ lw_tbl := List.mem_append_right _ (show w ∈ tables_1 from List.mem_append_right _ (List.mem_append_left _ h))
theorem ax_in3 {w : Cond} (h : w ∈ tables_1_3) : w ∈ lw_tbl := List.mem_append_right _ (show w ∈ tables_1 from List.mem_append_right _ (List.mem_append_right _ (List.mem_append_left _ h)))
theorem ax_in4 {w : Cond} (h : w ∈ tables_1_4) : w ∈ lw_tbl := List.mem_append_right _ (show w ∈ tables_1 from List.mem_append_right _ (List.mem_append_right _ (List.mem_append_right _ (List.mem_append_left _ h))))
theorem ax_in5 {w : Cond} (h : w ∈ tables_1_5) : w ∈ lw_tbl := List.mem_append_right _ (show w ∈ tables_1 from List.mem_append_right _ (List.mem_append_right _ (List.mem_append_right _ (List.mem_append_right _ (List.mem_append_left _ h)))))
theorem ax_in6 {w : Cond} (h : w ∈ tables_1_6) : w ∈ lw_tbl := List.mem_append_right _ (show w ∈ tables_1 from List.mem_append_right _ (List.mem_append_right _ (List.mem_append_right _ (List.mem_append_right _ (List.mem_append_right _ (List.mem_append_left _ h))))))
theorem ax_in7 {w : Cond} (h : w ∈ tables_1_7) : w ∈ lw_tbl := List.mem_append_right _ (show w ∈ tables_1 from List.mem_append_right _ (List.mem_append_right _ (List.mem_append_right _ (List.mem_append_right _ (List.mem_append_right _ (List.mem_append_right _ (List.mem_append_left _ h)))))))
theorem ax_in8 {w : Cond} (h : w ∈ tables_1_8) : w ∈ lw_tbl := List.mem_append_right _ (show w ∈ tables_1 from List.mem_append_right _ (List.mem_append_right _ (List.mem_append_right _ (List.mem_append_right _ (List.mem_append_right _ (List.mem_append_right _ (List.mem_append_right _ (List.mem_append_left _ h))))))))
theorem ax_in9 {w : Cond} (h : w ∈ tables_1_9) : w ∈ lw_tbl := List.mem_append_right _ (show w ∈ tables_1 from List.mem_append_right _ (List.mem_append_right _ (List.mem_append_right _ (List.mem_append_right _ (List.mem_append_right _ (List.mem_append_right _ (List.mem_append_right _ (List.mem_append_right _ (h)))))))))
theorem ax_ps1 {q : MethodName × Nat} (h : q ∈ lw_privs_1) : Cond.selects q.1.cls q.1 q.1 ∈ lw_tbl := List.mem_append_left _ (List.mem_map.mpr ⟨q, (show q ∈ lw_privs from List.mem_append_left _ h), rfl⟩)
theorem ax_ps2 {q : MethodName × Nat} (h : q ∈ lw_privs_2) : Cond.selects q.1.cls q.1 q.1 ∈ lw_tbl := List.mem_append_left _ (List.mem_map.mpr ⟨q, (show q ∈ lw_privs from List.mem_append_right _ (List.mem_append_left _ h)), rfl⟩)
theorem ax_ps3 {q : MethodName × Nat} (h : q ∈ lw_privs_3) : Cond.selects q.1.cls q.1 q.1 ∈ lw_tbl := List.mem_append_left _ (List.mem_map.mpr ⟨q, (show q ∈ lw_privs from List.mem_append_right _ (List.mem_append_right _ (List.mem_append_left _ h))), rfl⟩)
theorem ax_ps4 {q : MethodName × Nat} (h : q ∈ lw_privs_4) : Cond.selects q.1.cls q.1 q.1 ∈ lw_tbl := List.mem_append_left _ (List.mem_map.mpr ⟨q, (show q ∈ lw_privs from List.mem_append_right _ (List.mem_append_right _ (List.mem_append_right _ (List.mem_append_left _ h)))), rfl⟩)
theorem ax_ps5 {q : MethodName × Nat} (h : q ∈ lw_privs_5) : Cond.selects q.1.cls q.1 q.1 ∈ lw_tbl := List.mem_append_left _ (List.mem_map.mpr ⟨q, (show q ∈ lw_privs from List.mem_append_right _ (List.mem_append_right _ (List.mem_append_right _ (List.mem_append_right _ (List.mem_append_left _ h))))), rfl⟩)
theorem ax_ps6 {q : MethodName × Nat} (h : q ∈ lw_privs_6) : Cond.selects q.1.cls q.1 q.1 ∈ lw_tbl := List.mem_append_left _ (List.mem_map.mpr ⟨q, (show q ∈ lw_privs from List.mem_append_right _ (List.mem_append_right _ (List.mem_append_right _ (List.mem_append_right _ (List.mem_append_right _ (List.mem_append_left _ h)))))), rfl⟩)
theorem ax_ps7 {q : MethodName × Nat} (h : q ∈ lw_privs_7) : Cond.selects q.1.cls q.1 q.1 ∈ lw_tbl := List.mem_append_left _ (List.mem_map.mpr ⟨q, (show q ∈ lw_privs from List.mem_append_right _ (List.mem_append_right _ (List.mem_append_right _ (List.mem_append_right _ (List.mem_append_right _ (List.mem_append_right _ (List.mem_append_left _ h))))))), rfl⟩)
theorem ax_ps8 {q : MethodName × Nat} (h : q ∈ lw_privs_8) : Cond.selects q.1.cls q.1 q.1 ∈ lw_tbl := List.mem_append_left _ (List.mem_map.mpr ⟨q, (show q ∈ lw_privs from List.mem_append_right _ (List.mem_append_right _ (List.mem_append_right _ (List.mem_append_right _ (List.mem_append_right _ (List.mem_append_right _ (List.mem_append_right _ (List.mem_append_left _ h)))))))), rfl⟩)
theorem ax_ps9 {q : MethodName × Nat} (h : q ∈ lw_privs_9) : Cond.selects q.1.cls q.1 q.1 ∈ lw_tbl := List.mem_append_left _ (List.mem_map.mpr ⟨q, (show q ∈ lw_privs from List.mem_append_right _ (List.mem_append_right _ (List.mem_append_right _ (List.mem_append_right _ (List.mem_append_right _ (List.mem_append_right _ (List.mem_append_right _ (List.mem_append_right _ (List.mem_append_left _ h))))))))), rfl⟩)
theorem ax_ps10 {q : MethodName × Nat} (h : q ∈ lw_privs_10) : Cond.selects q.1.cls q.1 q.1 ∈ lw_tbl := List.mem_append_left _ (List.mem_map.mpr ⟨q, (show q ∈ lw_privs from List.mem_append_right _ (List.mem_append_right _ (List.mem_append_right _ (List.mem_append_right _ (List.mem_append_right _ (List.mem_append_right _ (List.mem_append_right _ (List.mem_append_right _ (List.mem_append_right _ (List.mem_append_left _ h)))))))))), rfl⟩)
theorem ax_ps11 {q : MethodName × Nat} (h : q ∈ lw_privs_11) : Cond.selects q.1.cls q.1 q.1 ∈ lw_tbl := List.mem_append_left _ (List.mem_map.mpr ⟨q, (show q ∈ lw_privs from List.mem_append_right _ (List.mem_append_right _ (List.mem_append_right _ (List.mem_append_right _ (List.mem_append_right _ (List.mem_append_right _ (List.mem_append_right _ (List.mem_append_right _ (List.mem_append_right _ (List.mem_append_right _ (h))))))))))), rfl⟩)
theorem wd_166 : Cond.initialized RL ∈ lw_tbl := ax_in1 (List.mem_of_getElem? (i := 0) rfl)
theorem wd_167 : Cond.initialized RX9 ∈ lw_tbl := ax_in1 (List.mem_of_getElem? (i := 1) rfl)
theorem wd_168 : Cond.initialized RX6 ∈ lw_tbl := ax_in1 (List.mem_of_getElem? (i := 2) rfl)
theorem wd_169 : Cond.initialized RX7 ∈ lw_tbl := ax_in1 (List.mem_of_getElem? (i := 3) rfl)
theorem wd_170 : Cond.initialized RX5 ∈ lw_tbl := ax_in1 (List.mem_of_getElem? (i := 4) rfl)
theorem wd_171 : Cond.initialized RX2 ∈ lw_tbl := ax_in1 (List.mem_of_getElem? (i := 5) rfl)
theorem wd_172 : Cond.initialized RX0 ∈ lw_tbl := ax_in1 (List.mem_of_getElem? (i := 6) rfl)
theorem wd_173 : Cond.initialized RX4 ∈ lw_tbl := ax_in1 (List.mem_of_getElem? (i := 7) rfl)
theorem wd_174 : Cond.initialized RX8 ∈ lw_tbl := ax_in1 (List.mem_of_getElem? (i := 8) rfl)
theorem wd_175 : Cond.initialized RX3 ∈ lw_tbl := ax_in1 (List.mem_of_getElem? (i := 9) rfl)
theorem wd_176 : Cond.initialized RX1 ∈ lw_tbl := ax_in1 (List.mem_of_getElem? (i := 10) rfl)
theorem wd_177 : Cond.initialized RX10 ∈ lw_tbl := ax_in1 (List.mem_of_getElem? (i := 11) rfl)
theorem wd_178 : Cond.initialized "java/lang/Throwable" ∈ lw_tbl := ax_in1 (List.mem_of_getElem? (i := 12) rfl)
theorem wd_179 : Cond.initialized "java/lang/Exception" ∈ lw_tbl := ax_in1 (List.mem_of_getElem? (i := 13) rfl)
theorem wd_180 : Cond.initialized "java/lang/RuntimeException" ∈ lw_tbl := ax_in1 (List.mem_of_getElem? (i := 14) rfl)
theorem wd_181 : Cond.initialized "java/lang/IllegalArgumentException" ∈ lw_tbl := ax_in1 (List.mem_of_getElem? (i := 15) rfl)
theorem wd_182 : Cond.initialized RJ9 ∈ lw_tbl := ax_in1 (List.mem_of_getElem? (i := 16) rfl)
theorem wd_183 : Cond.initialized RJ0 ∈ lw_tbl := ax_in1 (List.mem_of_getElem? (i := 17) rfl)
theorem wd_184 : Cond.initialized RJ1 ∈ lw_tbl := ax_in1 (List.mem_of_getElem? (i := 18) rfl)
theorem wd_185 : Cond.initialized RJ3 ∈ lw_tbl := ax_in1 (List.mem_of_getElem? (i := 19) rfl)
theorem wd_186 : Cond.initialized RJ2 ∈ lw_tbl := ax_in1 (List.mem_of_getElem? (i := 20) rfl)
theorem wd_187 : Cond.initialized "java/util/NoSuchElementException" ∈ lw_tbl := ax_in1 (List.mem_of_getElem? (i := 21) rfl)
theorem wd_188 : Cond.initialized "java/lang/IllegalStateException" ∈ lw_tbl := ax_in1 (List.mem_of_getElem? (i := 22) rfl)
theorem wd_189 : Cond.initialized RJ6 ∈ lw_tbl := ax_in1 (List.mem_of_getElem? (i := 23) rfl)
theorem wd_190 : Cond.initialized RJ10 ∈ lw_tbl := ax_in1 (List.mem_of_getElem? (i := 24) rfl)
theorem wd_191 : Cond.classLink RL 8 "DipLights" ∈ lw_tbl := ax_in1 (List.mem_of_getElem? (i := 25) rfl)
theorem wd_192 : Cond.instantiable RX9 15 ∈ lw_tbl := ax_in1 (List.mem_of_getElem? (i := 26) rfl)
theorem wd_193 : Cond.methodLink RL 137 yX9_init ∈ lw_tbl := ax_in1 (List.mem_of_getElem? (i := 27) rfl)
theorem wd_196 : Cond.methodLink RX9 1 Lib.objectInit ∈ lw_tbl := ax_in1 (List.mem_of_getElem? (i := 30) rfl)
theorem wd_199 : Cond.classLink RX9 7 "DipLights$Tape" ∈ lw_tbl := ax_in1 (List.mem_of_getElem? (i := 33) rfl)
theorem wd_200 : Cond.instantiable RX6 9 ∈ lw_tbl := ax_in1 (List.mem_of_getElem? (i := 34) rfl)
theorem wd_201 : Cond.methodLinkNest RX9 9 yX6_init "DipLights" ∈ lw_tbl := ax_in1 (List.mem_of_getElem? (i := 35) rfl)
theorem wd_204 : Cond.methodLink RX6 3 Lib.objectInit ∈ lw_tbl := ax_in1 (List.mem_of_getElem? (i := 38) rfl)
theorem wd_205 : Cond.fieldLink RX6 9 "DipLights$Tape" "bytes" "[I" ∈ lw_tbl := ax_in1 (List.mem_of_getElem? (i := 39) rfl)
theorem wd_206 : Cond.fieldLink RX6 15 "DipLights$Tape" "fed" "I" ∈ lw_tbl := ax_in1 (List.mem_of_getElem? (i := 40) rfl)
theorem wd_207 : Cond.fieldLinkNest RX9 89 "DipLights$Tape" "fed" "I" "DipLights" ∈ lw_tbl := ax_in1 (List.mem_of_getElem? (i := 41) rfl)
theorem wd_208 : Cond.fieldLink RX6 19 "DipLights$Tape" "length" "I" ∈ lw_tbl := ax_in1 (List.mem_of_getElem? (i := 42) rfl)
theorem wd_209 : Cond.fieldLink RX6 22 "DipLights$Tape" "after" "I" ∈ lw_tbl := ax_in1 (List.mem_of_getElem? (i := 43) rfl)
theorem wd_210 : Cond.fieldLink RX6 25 "DipLights$Tape" "begin" "I" ∈ lw_tbl := ax_in1 (List.mem_of_getElem? (i := 44) rfl)
theorem wd_211 : Cond.fieldLink RX6 28 "DipLights$Tape" "token" "I" ∈ lw_tbl := ax_in1 (List.mem_of_getElem? (i := 45) rfl)
theorem wd_212 : Cond.fieldLinkNest RX0 22 "DipLights$Tape" "token" "I" "DipLights" ∈ lw_tbl := ax_in1 (List.mem_of_getElem? (i := 46) rfl)
theorem wd_213 : Cond.fieldLinkNest RX5 67 "DipLights$Tape" "token" "I" "DipLights" ∈ lw_tbl := ax_in1 (List.mem_of_getElem? (i := 47) rfl)
theorem wd_214 : Cond.fieldLinkNest RX2 30 "DipLights$Tape" "token" "I" "DipLights" ∈ lw_tbl := ax_in1 (List.mem_of_getElem? (i := 48) rfl)
theorem wd_215 : Cond.fieldLink RX6 31 "DipLights$Tape" "number" "I" ∈ lw_tbl := ax_in1 (List.mem_of_getElem? (i := 49) rfl)
theorem wd_216 : Cond.fieldLinkNest RX0 35 "DipLights$Tape" "number" "I" "DipLights" ∈ lw_tbl := ax_in1 (List.mem_of_getElem? (i := 50) rfl)
theorem wd_217 : Cond.fieldLink RX6 34 "DipLights$Tape" "kind" "I" ∈ lw_tbl := ax_in1 (List.mem_of_getElem? (i := 51) rfl)
theorem wd_218 : Cond.fieldLink RX6 37 "DipLights$Tape" "place" "I" ∈ lw_tbl := ax_in1 (List.mem_of_getElem? (i := 52) rfl)
theorem wd_219 : Cond.fieldLinkNest RX9 139 "DipLights$Tape" "place" "I" "DipLights" ∈ lw_tbl := ax_in1 (List.mem_of_getElem? (i := 53) rfl)
theorem wd_239 : Cond.arrayClass .int ∈ lw_tbl := ax_in1 (List.mem_of_getElem? (i := 73) rfl)
theorem wd_240 : Cond.classLink RX9 16 "DipLights$Told" ∈ lw_tbl := ax_in1 (List.mem_of_getElem? (i := 74) rfl)
theorem wd_241 : Cond.instantiable RX7 5 ∈ lw_tbl := ax_in1 (List.mem_of_getElem? (i := 75) rfl)
theorem wd_242 : Cond.methodLinkNest RX9 18 yX7_init "DipLights" ∈ lw_tbl := ax_in1 (List.mem_of_getElem? (i := 76) rfl)
theorem wd_245 : Cond.methodLink RX7 3 Lib.objectInit ∈ lw_tbl := ax_in1 (List.mem_of_getElem? (i := 79) rfl)
theorem wd_246 : Cond.classLink RX7 9 "DipLights$Road" ∈ lw_tbl := ax_in1 (List.mem_of_getElem? (i := 80) rfl)
theorem wd_247 : Cond.instantiable RX5 17 ∈ lw_tbl := ax_in1 (List.mem_of_getElem? (i := 81) rfl)
theorem wd_248 : Cond.methodLinkNest RX7 11 yX5_init "DipLights" ∈ lw_tbl := ax_in1 (List.mem_of_getElem? (i := 82) rfl)
theorem wd_251 : Cond.methodLink RX5 3 Lib.objectInit ∈ lw_tbl := ax_in1 (List.mem_of_getElem? (i := 85) rfl)
theorem wd_252 : Cond.fieldLink RX5 9 "DipLights$Road" "cells" "I" ∈ lw_tbl := ax_in1 (List.mem_of_getElem? (i := 86) rfl)
theorem wd_253 : Cond.fieldLinkNest RX9 152 "DipLights$Road" "cells" "I" "DipLights" ∈ lw_tbl := ax_in1 (List.mem_of_getElem? (i := 87) rfl)
theorem wd_254 : Cond.fieldLink RX5 15 "DipLights$Road" "bendCell" "[I" ∈ lw_tbl := ax_in1 (List.mem_of_getElem? (i := 88) rfl)
theorem wd_255 : Cond.fieldLink RX5 19 "DipLights$Road" "bends" "I" ∈ lw_tbl := ax_in1 (List.mem_of_getElem? (i := 89) rfl)
theorem wd_256 : Cond.fieldLinkNest RX9 158 "DipLights$Road" "bends" "I" "DipLights" ∈ lw_tbl := ax_in1 (List.mem_of_getElem? (i := 90) rfl)
theorem wd_257 : Cond.fieldLink RX5 22 "DipLights$Road" "bendClauses" "I" ∈ lw_tbl := ax_in1 (List.mem_of_getElem? (i := 91) rfl)
theorem wd_258 : Cond.fieldLink RX5 25 "DipLights$Road" "wet" "[I" ∈ lw_tbl := ax_in1 (List.mem_of_getElem? (i := 92) rfl)
theorem wd_259 : Cond.fieldLink RX5 28 "DipLights$Road" "wetClauses" "I" ∈ lw_tbl := ax_in1 (List.mem_of_getElem? (i := 93) rfl)
theorem wd_260 : Cond.fieldLink RX5 31 "DipLights$Road" "coatCell" "[I" ∈ lw_tbl := ax_in1 (List.mem_of_getElem? (i := 94) rfl)
theorem wd_261 : Cond.fieldLinkNest RX1 55 "DipLights$Road" "coatCell" "[I" "DipLights" ∈ lw_tbl := ax_in1 (List.mem_of_getElem? (i := 95) rfl)
theorem wd_262 : Cond.fieldLinkNest RX9 195 "DipLights$Road" "coatCell" "[I" "DipLights" ∈ lw_tbl := ax_in1 (List.mem_of_getElem? (i := 96) rfl)
theorem wd_263 : Cond.fieldLinkNest RX4 157 "DipLights$Road" "coatCell" "[I" "DipLights" ∈ lw_tbl := ax_in1 (List.mem_of_getElem? (i := 97) rfl)
theorem wd_264 : Cond.fieldLink RX5 34 "DipLights$Road" "coatBright" "[I" ∈ lw_tbl := ax_in1 (List.mem_of_getElem? (i := 98) rfl)
theorem wd_265 : Cond.fieldLinkNest RX1 64 "DipLights$Road" "coatBright" "[I" "DipLights" ∈ lw_tbl := ax_in1 (List.mem_of_getElem? (i := 99) rfl)
theorem wd_266 : Cond.fieldLinkNest RX9 198 "DipLights$Road" "coatBright" "[I" "DipLights" ∈ lw_tbl := ax_in1 (List.mem_of_getElem? (i := 100) rfl)
theorem wd_267 : Cond.fieldLinkNest RX4 160 "DipLights$Road" "coatBright" "[I" "DipLights" ∈ lw_tbl := ax_in1 (List.mem_of_getElem? (i := 101) rfl)
theorem wd_268 : Cond.fieldLink RX5 37 "DipLights$Road" "coats" "I" ∈ lw_tbl := ax_in1 (List.mem_of_getElem? (i := 102) rfl)
theorem wd_269 : Cond.fieldLinkNest RX9 155 "DipLights$Road" "coats" "I" "DipLights" ∈ lw_tbl := ax_in1 (List.mem_of_getElem? (i := 103) rfl)
theorem wd_270 : Cond.fieldLinkNest RX4 154 "DipLights$Road" "coats" "I" "DipLights" ∈ lw_tbl := ax_in1 (List.mem_of_getElem? (i := 104) rfl)
theorem wd_271 : Cond.fieldLink RX5 40 "DipLights$Road" "fog" "I" ∈ lw_tbl := ax_in1 (List.mem_of_getElem? (i := 105) rfl)
theorem wd_272 : Cond.fieldLinkNest RX7 44 "DipLights$Road" "fog" "I" "DipLights" ∈ lw_tbl := ax_in1 (List.mem_of_getElem? (i := 106) rfl)
theorem wd_273 : Cond.fieldLinkNest RX1 58 "DipLights$Road" "fog" "I" "DipLights" ∈ lw_tbl := ax_in1 (List.mem_of_getElem? (i := 107) rfl)
theorem wd_274 : Cond.fieldLinkNest RX4 126 "DipLights$Road" "fog" "I" "DipLights" ∈ lw_tbl := ax_in1 (List.mem_of_getElem? (i := 108) rfl)
theorem wd_275 : Cond.fieldLinkNest RX9 164 "DipLights$Road" "fog" "I" "DipLights" ∈ lw_tbl := ax_in1 (List.mem_of_getElem? (i := 109) rfl)
theorem wd_276 : Cond.fieldLink RX5 43 "DipLights$Road" "blind" "I" ∈ lw_tbl := ax_in1 (List.mem_of_getElem? (i := 110) rfl)
theorem wd_277 : Cond.fieldLinkNest RX1 67 "DipLights$Road" "blind" "I" "DipLights" ∈ lw_tbl := ax_in1 (List.mem_of_getElem? (i := 111) rfl)
theorem wd_278 : Cond.fieldLinkNest RX9 167 "DipLights$Road" "blind" "I" "DipLights" ∈ lw_tbl := ax_in1 (List.mem_of_getElem? (i := 112) rfl)
theorem wd_279 : Cond.fieldLink RX5 46 "DipLights$Road" "reachFull" "I" ∈ lw_tbl := ax_in1 (List.mem_of_getElem? (i := 113) rfl)
theorem wd_280 : Cond.fieldLinkNest RX9 170 "DipLights$Road" "reachFull" "I" "DipLights" ∈ lw_tbl := ax_in1 (List.mem_of_getElem? (i := 114) rfl)
theorem wd_281 : Cond.fieldLink RX5 49 "DipLights$Road" "reachDipped" "I" ∈ lw_tbl := ax_in1 (List.mem_of_getElem? (i := 115) rfl)
theorem wd_282 : Cond.fieldLinkNest RX9 173 "DipLights$Road" "reachDipped" "I" "DipLights" ∈ lw_tbl := ax_in1 (List.mem_of_getElem? (i := 116) rfl)
theorem wd_283 : Cond.fieldLink RX5 52 "DipLights$Road" "age" "[I" ∈ lw_tbl := ax_in1 (List.mem_of_getElem? (i := 117) rfl)
theorem wd_284 : Cond.fieldLinkNest RX8 67 "DipLights$Road" "age" "[I" "DipLights" ∈ lw_tbl := ax_in1 (List.mem_of_getElem? (i := 118) rfl)
theorem wd_285 : Cond.fieldLinkNest RX9 179 "DipLights$Road" "age" "[I" "DipLights" ∈ lw_tbl := ax_in1 (List.mem_of_getElem? (i := 119) rfl)
theorem wd_286 : Cond.fieldLink RX5 55 "DipLights$Road" "pace" "[I" ∈ lw_tbl := ax_in1 (List.mem_of_getElem? (i := 120) rfl)
theorem wd_287 : Cond.fieldLinkNest RX8 69 "DipLights$Road" "pace" "[I" "DipLights" ∈ lw_tbl := ax_in1 (List.mem_of_getElem? (i := 121) rfl)
theorem wd_288 : Cond.fieldLinkNest RX1 50 "DipLights$Road" "pace" "[I" "DipLights" ∈ lw_tbl := ax_in1 (List.mem_of_getElem? (i := 122) rfl)
theorem wd_289 : Cond.fieldLinkNest RX9 182 "DipLights$Road" "pace" "[I" "DipLights" ∈ lw_tbl := ax_in1 (List.mem_of_getElem? (i := 123) rfl)
theorem wd_290 : Cond.fieldLink RX5 58 "DipLights$Road" "tilt" "[I" ∈ lw_tbl := ax_in1 (List.mem_of_getElem? (i := 124) rfl)
theorem wd_291 : Cond.fieldLinkNest RX8 71 "DipLights$Road" "tilt" "[I" "DipLights" ∈ lw_tbl := ax_in1 (List.mem_of_getElem? (i := 125) rfl)
theorem wd_292 : Cond.fieldLinkNest RX1 61 "DipLights$Road" "tilt" "[I" "DipLights" ∈ lw_tbl := ax_in1 (List.mem_of_getElem? (i := 126) rfl)
theorem wd_293 : Cond.fieldLinkNest RX9 185 "DipLights$Road" "tilt" "[I" "DipLights" ∈ lw_tbl := ax_in1 (List.mem_of_getElem? (i := 127) rfl)
theorem wd_294 : Cond.fieldLink RX5 61 "DipLights$Road" "cars" "I" ∈ lw_tbl := ax_in1 (List.mem_of_getElem? (i := 128) rfl)
theorem wd_295 : Cond.fieldLinkNest RX8 62 "DipLights$Road" "cars" "I" "DipLights" ∈ lw_tbl := ax_in1 (List.mem_of_getElem? (i := 129) rfl)
theorem wd_296 : Cond.fieldLinkNest RX9 123 "DipLights$Road" "cars" "I" "DipLights" ∈ lw_tbl := ax_in1 (List.mem_of_getElem? (i := 130) rfl)
theorem wd_297 : Cond.fieldLinkNest RX4 86 "DipLights$Road" "cars" "I" "DipLights" ∈ lw_tbl := ax_in1 (List.mem_of_getElem? (i := 131) rfl)
theorem wd_333 : Cond.classLink RX7 18 "DipLights$Formula" ∈ lw_tbl := ax_in1 (List.mem_of_getElem? (i := 167) rfl)
theorem wd_334 : Cond.instantiable RX2 3 ∈ lw_tbl := ax_in1 (List.mem_of_getElem? (i := 168) rfl)
theorem wd_335 : Cond.methodLinkNest RX7 20 yX2_init "DipLights" ∈ lw_tbl := ax_in1 (List.mem_of_getElem? (i := 169) rfl)
theorem wd_338 : Cond.methodLink RX2 3 Lib.objectInit ∈ lw_tbl := ax_in1 (List.mem_of_getElem? (i := 172) rfl)
theorem wd_339 : Cond.fieldLink RX2 9 "DipLights$Formula" "steps" "[I" ∈ lw_tbl := ax_in1 (List.mem_of_getElem? (i := 173) rfl)
theorem wd_340 : Cond.fieldLink RX2 15 "DipLights$Formula" "size" "I" ∈ lw_tbl := ax_in1 (List.mem_of_getElem? (i := 174) rfl)
theorem wd_341 : Cond.fieldLink RX2 19 "DipLights$Formula" "stack" "[I" ∈ lw_tbl := ax_in1 (List.mem_of_getElem? (i := 175) rfl)
theorem wd_349 : Cond.methodLink RX7 35 yX7_forgetFormulas ∈ lw_tbl := ax_in1 (List.mem_of_getElem? (i := 183) rfl)
theorem wd_353 : Cond.methodLinkNest RX7 38 yX2_becomeUsualLaw "DipLights" ∈ lw_tbl := ax_in1 (List.mem_of_getElem? (i := 187) rfl)
theorem wd_357 : Cond.methodLink RX2 22 yX2_add ∈ lw_tbl := ax_in1 (List.mem_of_getElem? (i := 191) rfl)
theorem wd_361 : Cond.methodLinkNest RX7 41 yX2_becomeUsualRule "DipLights" ∈ lw_tbl := ax_in1 (List.mem_of_getElem? (i := 195) rfl)
theorem wd_365 : Cond.fieldLink RX7 12 "DipLights$Told" "road" "LDipLights$Road;" ∈ lw_tbl := ax_in1 (List.mem_of_getElem? (i := 199) rfl)
theorem wd_366 : Cond.fieldLinkNest RX4 34 "DipLights$Told" "road" "LDipLights$Road;" "DipLights" ∈ lw_tbl := ax_in1 (List.mem_of_getElem? (i := 200) rfl)
theorem wd_367 : Cond.fieldLinkNest RX9 108 "DipLights$Told" "road" "LDipLights$Road;" "DipLights" ∈ lw_tbl := ax_in1 (List.mem_of_getElem? (i := 201) rfl)
theorem wd_368 : Cond.fieldLink RX7 21 "DipLights$Told" "law" "LDipLights$Formula;" ∈ lw_tbl := ax_in1 (List.mem_of_getElem? (i := 202) rfl)
theorem wd_369 : Cond.fieldLinkNest RX9 127 "DipLights$Told" "law" "LDipLights$Formula;" "DipLights" ∈ lw_tbl := ax_in1 (List.mem_of_getElem? (i := 203) rfl)
theorem wd_370 : Cond.fieldLink RX7 25 "DipLights$Told" "rule0" "LDipLights$Formula;" ∈ lw_tbl := ax_in1 (List.mem_of_getElem? (i := 204) rfl)
theorem wd_371 : Cond.fieldLink RX7 28 "DipLights$Told" "rule1" "LDipLights$Formula;" ∈ lw_tbl := ax_in1 (List.mem_of_getElem? (i := 205) rfl)
theorem wd_372 : Cond.fieldLink RX7 31 "DipLights$Told" "values" "[I" ∈ lw_tbl := ax_in1 (List.mem_of_getElem? (i := 206) rfl)
theorem wd_373 : Cond.fieldLinkNest RX4 120 "DipLights$Told" "values" "[I" "DipLights" ∈ lw_tbl := ax_in1 (List.mem_of_getElem? (i := 207) rfl)
theorem wd_385 : Cond.classLink RX9 23 "DipLights$Road" ∈ lw_tbl := ax_in1 (List.mem_of_getElem? (i := 219) rfl)
theorem wd_386 : Cond.methodLinkNest RX9 25 yX5_init "DipLights" ∈ lw_tbl := ax_in1 (List.mem_of_getElem? (i := 220) rfl)
theorem wd_387 : Cond.classLink RX9 30 "DipLights$Formula" ∈ lw_tbl := ax_in1 (List.mem_of_getElem? (i := 221) rfl)
theorem wd_388 : Cond.methodLinkNest RX9 32 yX2_init "DipLights" ∈ lw_tbl := ax_in1 (List.mem_of_getElem? (i := 222) rfl)
theorem wd_389 : Cond.classLink RX9 37 "DipLights$Book" ∈ lw_tbl := ax_in1 (List.mem_of_getElem? (i := 223) rfl)
theorem wd_390 : Cond.instantiable RX0 3 ∈ lw_tbl := ax_in1 (List.mem_of_getElem? (i := 224) rfl)
theorem wd_391 : Cond.methodLinkNest RX9 39 yX0_init "DipLights" ∈ lw_tbl := ax_in1 (List.mem_of_getElem? (i := 225) rfl)
theorem wd_394 : Cond.methodLink RX0 3 Lib.objectInit ∈ lw_tbl := ax_in1 (List.mem_of_getElem? (i := 228) rfl)
theorem wd_395 : Cond.fieldLink RX0 9 "DipLights$Book" "tenth" "[I" ∈ lw_tbl := ax_in1 (List.mem_of_getElem? (i := 229) rfl)
theorem wd_396 : Cond.fieldLinkNest RX9 354 "DipLights$Book" "tenth" "[I" "DipLights" ∈ lw_tbl := ax_in1 (List.mem_of_getElem? (i := 230) rfl)
theorem wd_397 : Cond.fieldLink RX0 15 "DipLights$Book" "full" "[I" ∈ lw_tbl := ax_in1 (List.mem_of_getElem? (i := 231) rfl)
theorem wd_398 : Cond.fieldLinkNest RX9 360 "DipLights$Book" "full" "[I" "DipLights" ∈ lw_tbl := ax_in1 (List.mem_of_getElem? (i := 232) rfl)
theorem wd_399 : Cond.fieldLink RX0 18 "DipLights$Book" "lines" "I" ∈ lw_tbl := ax_in1 (List.mem_of_getElem? (i := 233) rfl)
theorem wd_400 : Cond.fieldLinkNest RX9 114 "DipLights$Book" "lines" "I" "DipLights" ∈ lw_tbl := ax_in1 (List.mem_of_getElem? (i := 234) rfl)
theorem wd_408 : Cond.classLink RX9 47 "DipLights$Meeting" ∈ lw_tbl := ax_in2 (List.mem_of_getElem? (i := 2) rfl)
theorem wd_409 : Cond.instantiable RX4 5 ∈ lw_tbl := ax_in2 (List.mem_of_getElem? (i := 3) rfl)
theorem wd_410 : Cond.methodLinkNest RX9 49 yX4_init "DipLights" ∈ lw_tbl := ax_in2 (List.mem_of_getElem? (i := 4) rfl)
theorem wd_413 : Cond.methodLink RX4 3 Lib.objectInit ∈ lw_tbl := ax_in2 (List.mem_of_getElem? (i := 7) rfl)
theorem wd_414 : Cond.classLink RX4 9 "DipLights$Trip" ∈ lw_tbl := ax_in2 (List.mem_of_getElem? (i := 8) rfl)
theorem wd_415 : Cond.instantiable RX8 16 ∈ lw_tbl := ax_in2 (List.mem_of_getElem? (i := 9) rfl)
theorem wd_416 : Cond.methodLinkNest RX4 11 yX8_init "DipLights" ∈ lw_tbl := ax_in2 (List.mem_of_getElem? (i := 10) rfl)
theorem wd_419 : Cond.methodLink RX8 3 Lib.objectInit ∈ lw_tbl := ax_in2 (List.mem_of_getElem? (i := 13) rfl)
theorem wd_420 : Cond.fieldLink RX8 56 "DipLights$Trip" "who" "I" ∈ lw_tbl := ax_in2 (List.mem_of_getElem? (i := 14) rfl)
theorem wd_421 : Cond.fieldLinkNest RX4 101 "DipLights$Trip" "who" "I" "DipLights" ∈ lw_tbl := ax_in2 (List.mem_of_getElem? (i := 15) rfl)
theorem wd_422 : Cond.fieldLink RX8 59 "DipLights$Trip" "direction" "I" ∈ lw_tbl := ax_in2 (List.mem_of_getElem? (i := 16) rfl)
theorem wd_423 : Cond.fieldLink RX8 9 "DipLights$Trip" "there" "Z" ∈ lw_tbl := ax_in2 (List.mem_of_getElem? (i := 17) rfl)
theorem wd_424 : Cond.fieldLink RX8 15 "DipLights$Trip" "age" "I" ∈ lw_tbl := ax_in2 (List.mem_of_getElem? (i := 18) rfl)
theorem wd_425 : Cond.fieldLinkNest RX4 63 "DipLights$Trip" "age" "I" "DipLights" ∈ lw_tbl := ax_in2 (List.mem_of_getElem? (i := 19) rfl)
theorem wd_426 : Cond.fieldLink RX8 19 "DipLights$Trip" "pace" "I" ∈ lw_tbl := ax_in2 (List.mem_of_getElem? (i := 20) rfl)
theorem wd_427 : Cond.fieldLinkNest RX4 83 "DipLights$Trip" "pace" "I" "DipLights" ∈ lw_tbl := ax_in2 (List.mem_of_getElem? (i := 21) rfl)
theorem wd_428 : Cond.fieldLink RX8 22 "DipLights$Trip" "tilt" "I" ∈ lw_tbl := ax_in2 (List.mem_of_getElem? (i := 22) rfl)
theorem wd_429 : Cond.fieldLinkNest RX4 110 "DipLights$Trip" "tilt" "I" "DipLights" ∈ lw_tbl := ax_in2 (List.mem_of_getElem? (i := 23) rfl)
theorem wd_430 : Cond.fieldLink RX8 25 "DipLights$Trip" "cellNow" "I" ∈ lw_tbl := ax_in2 (List.mem_of_getElem? (i := 24) rfl)
theorem wd_431 : Cond.fieldLinkNest RX4 80 "DipLights$Trip" "cellNow" "I" "DipLights" ∈ lw_tbl := ax_in2 (List.mem_of_getElem? (i := 25) rfl)
theorem wd_432 : Cond.fieldLink RX8 28 "DipLights$Trip" "beamsNow" "I" ∈ lw_tbl := ax_in2 (List.mem_of_getElem? (i := 26) rfl)
theorem wd_433 : Cond.fieldLinkNest RX4 56 "DipLights$Trip" "beamsNow" "I" "DipLights" ∈ lw_tbl := ax_in2 (List.mem_of_getElem? (i := 27) rfl)
theorem wd_434 : Cond.fieldLink RX8 31 "DipLights$Trip" "blindNow" "I" ∈ lw_tbl := ax_in2 (List.mem_of_getElem? (i := 28) rfl)
theorem wd_435 : Cond.fieldLinkNest RX4 129 "DipLights$Trip" "blindNow" "I" "DipLights" ∈ lw_tbl := ax_in2 (List.mem_of_getElem? (i := 29) rfl)
theorem wd_436 : Cond.fieldLink RX8 34 "DipLights$Trip" "tenths" "I" ∈ lw_tbl := ax_in2 (List.mem_of_getElem? (i := 30) rfl)
theorem wd_437 : Cond.fieldLinkNest RX9 216 "DipLights$Trip" "tenths" "I" "DipLights" ∈ lw_tbl := ax_in2 (List.mem_of_getElem? (i := 31) rfl)
theorem wd_438 : Cond.fieldLink RX8 37 "DipLights$Trip" "cell" "[I" ∈ lw_tbl := ax_in2 (List.mem_of_getElem? (i := 32) rfl)
theorem wd_439 : Cond.fieldLinkNest RX9 219 "DipLights$Trip" "cell" "[I" "DipLights" ∈ lw_tbl := ax_in2 (List.mem_of_getElem? (i := 33) rfl)
theorem wd_440 : Cond.fieldLink RX8 41 "DipLights$Trip" "beams" "[I" ∈ lw_tbl := ax_in2 (List.mem_of_getElem? (i := 34) rfl)
theorem wd_441 : Cond.fieldLinkNest RX9 222 "DipLights$Trip" "beams" "[I" "DipLights" ∈ lw_tbl := ax_in2 (List.mem_of_getElem? (i := 35) rfl)
theorem wd_442 : Cond.fieldLink RX8 44 "DipLights$Trip" "blind" "[I" ∈ lw_tbl := ax_in2 (List.mem_of_getElem? (i := 36) rfl)
theorem wd_443 : Cond.fieldLinkNest RX9 225 "DipLights$Trip" "blind" "[I" "DipLights" ∈ lw_tbl := ax_in2 (List.mem_of_getElem? (i := 37) rfl)
theorem wd_444 : Cond.fieldLink RX8 47 "DipLights$Trip" "sight" "[I" ∈ lw_tbl := ax_in2 (List.mem_of_getElem? (i := 38) rfl)
theorem wd_445 : Cond.fieldLinkNest RX9 227 "DipLights$Trip" "sight" "[I" "DipLights" ∈ lw_tbl := ax_in2 (List.mem_of_getElem? (i := 39) rfl)
theorem wd_446 : Cond.fieldLink RX8 50 "DipLights$Trip" "stop" "[I" ∈ lw_tbl := ax_in2 (List.mem_of_getElem? (i := 40) rfl)
theorem wd_447 : Cond.fieldLink RX8 53 "DipLights$Trip" "glare" "[I" ∈ lw_tbl := ax_in2 (List.mem_of_getElem? (i := 41) rfl)
theorem wd_481 : Cond.fieldLink RX4 14 "DipLights$Meeting" "trip0" "LDipLights$Trip;" ∈ lw_tbl := ax_in2 (List.mem_of_getElem? (i := 75) rfl)
theorem wd_482 : Cond.fieldLink RX4 20 "DipLights$Meeting" "trip1" "LDipLights$Trip;" ∈ lw_tbl := ax_in2 (List.mem_of_getElem? (i := 76) rfl)
theorem wd_483 : Cond.fieldLink RX4 23 "DipLights$Meeting" "apart" "[I" ∈ lw_tbl := ax_in2 (List.mem_of_getElem? (i := 77) rfl)
theorem wd_484 : Cond.fieldLink RX4 27 "DipLights$Meeting" "tenths" "I" ∈ lw_tbl := ax_in2 (List.mem_of_getElem? (i := 78) rfl)
theorem wd_485 : Cond.fieldLinkNest RX9 209 "DipLights$Meeting" "tenths" "I" "DipLights" ∈ lw_tbl := ax_in2 (List.mem_of_getElem? (i := 79) rfl)
theorem wd_486 : Cond.fieldLink RX4 31 "DipLights$Meeting" "passedIn" "I" ∈ lw_tbl := ax_in2 (List.mem_of_getElem? (i := 80) rfl)
theorem wd_487 : Cond.fieldLinkNest RX9 237 "DipLights$Meeting" "passedIn" "I" "DipLights" ∈ lw_tbl := ax_in2 (List.mem_of_getElem? (i := 81) rfl)
theorem wd_499 : Cond.classLink RX9 61 "DipLights$Game" ∈ lw_tbl := ax_in2 (List.mem_of_getElem? (i := 93) rfl)
theorem wd_500 : Cond.instantiable RX3 2 ∈ lw_tbl := ax_in2 (List.mem_of_getElem? (i := 94) rfl)
theorem wd_501 : Cond.methodLinkNest RX9 63 yX3_init "DipLights" ∈ lw_tbl := ax_in2 (List.mem_of_getElem? (i := 95) rfl)
theorem wd_504 : Cond.methodLink RX3 3 Lib.objectInit ∈ lw_tbl := ax_in2 (List.mem_of_getElem? (i := 98) rfl)
theorem wd_505 : Cond.fieldLink RX3 11 "DipLights$Game" "costs0" "[I" ∈ lw_tbl := ax_in2 (List.mem_of_getElem? (i := 99) rfl)
theorem wd_506 : Cond.fieldLink RX3 15 "DipLights$Game" "costs1" "[I" ∈ lw_tbl := ax_in2 (List.mem_of_getElem? (i := 100) rfl)
theorem wd_512 : Cond.classLink RX9 79 "DipLights$Changes" ∈ lw_tbl := ax_in2 (List.mem_of_getElem? (i := 106) rfl)
theorem wd_513 : Cond.instantiable RX1 8 ∈ lw_tbl := ax_in2 (List.mem_of_getElem? (i := 107) rfl)
theorem wd_514 : Cond.methodLinkNest RX9 81 yX1_init "DipLights" ∈ lw_tbl := ax_in2 (List.mem_of_getElem? (i := 108) rfl)
theorem wd_517 : Cond.methodLink RX1 3 Lib.objectInit ∈ lw_tbl := ax_in2 (List.mem_of_getElem? (i := 111) rfl)
theorem wd_518 : Cond.classLink RX1 28 "[[I" ∈ lw_tbl := ax_in2 (List.mem_of_getElem? (i := 112) rfl)
theorem wd_520 : Cond.fieldLink RX1 9 "DipLights$Changes" "kind" "[I" ∈ lw_tbl := ax_in2 (List.mem_of_getElem? (i := 114) rfl)
theorem wd_521 : Cond.fieldLink RX1 15 "DipLights$Changes" "who" "[I" ∈ lw_tbl := ax_in2 (List.mem_of_getElem? (i := 115) rfl)
theorem wd_522 : Cond.fieldLink RX1 18 "DipLights$Changes" "firstBefore" "[I" ∈ lw_tbl := ax_in2 (List.mem_of_getElem? (i := 116) rfl)
theorem wd_523 : Cond.fieldLink RX1 21 "DipLights$Changes" "secondBefore" "[I" ∈ lw_tbl := ax_in2 (List.mem_of_getElem? (i := 117) rfl)
theorem wd_524 : Cond.fieldLink RX1 24 "DipLights$Changes" "many" "I" ∈ lw_tbl := ax_in2 (List.mem_of_getElem? (i := 118) rfl)
theorem wd_525 : Cond.fieldLinkNest RX9 399 "DipLights$Changes" "many" "I" "DipLights" ∈ lw_tbl := ax_in2 (List.mem_of_getElem? (i := 119) rfl)
theorem wd_526 : Cond.fieldLink RX1 30 "DipLights$Changes" "kept" "[[I" ∈ lw_tbl := ax_in2 (List.mem_of_getElem? (i := 120) rfl)
theorem wd_527 : Cond.fieldLink RX1 33 "DipLights$Changes" "keptMany" "[I" ∈ lw_tbl := ax_in2 (List.mem_of_getElem? (i := 121) rfl)
theorem wd_528 : Cond.fieldLink RX1 36 "DipLights$Changes" "images" "I" ∈ lw_tbl := ax_in2 (List.mem_of_getElem? (i := 122) rfl)
theorem wd_529 : Cond.fieldLinkNest RX9 405 "DipLights$Changes" "images" "I" "DipLights" ∈ lw_tbl := ax_in2 (List.mem_of_getElem? (i := 123) rfl)
theorem wd_547 : Cond.fieldLink RX9 10 "DipLights" "tape" "LDipLights$Tape;" ∈ lw_tbl := ax_in2 (List.mem_of_getElem? (i := 141) rfl)
theorem wd_548 : Cond.fieldLink RX9 19 "DipLights" "told" "LDipLights$Told;" ∈ lw_tbl := ax_in2 (List.mem_of_getElem? (i := 142) rfl)
theorem wd_549 : Cond.fieldLink RX9 26 "DipLights" "spareRoad" "LDipLights$Road;" ∈ lw_tbl := ax_in2 (List.mem_of_getElem? (i := 143) rfl)
theorem wd_550 : Cond.fieldLink RX9 33 "DipLights" "spareFormula" "LDipLights$Formula;" ∈ lw_tbl := ax_in2 (List.mem_of_getElem? (i := 144) rfl)
theorem wd_551 : Cond.fieldLink RX9 40 "DipLights" "book" "LDipLights$Book;" ∈ lw_tbl := ax_in2 (List.mem_of_getElem? (i := 145) rfl)
theorem wd_552 : Cond.fieldLink RX9 44 "DipLights" "spareBook" "LDipLights$Book;" ∈ lw_tbl := ax_in2 (List.mem_of_getElem? (i := 146) rfl)
theorem wd_553 : Cond.fieldLink RX9 50 "DipLights" "meeting" "LDipLights$Meeting;" ∈ lw_tbl := ax_in2 (List.mem_of_getElem? (i := 147) rfl)
theorem wd_554 : Cond.fieldLink RX9 54 "DipLights" "meetingFresh" "Z" ∈ lw_tbl := ax_in2 (List.mem_of_getElem? (i := 148) rfl)
theorem wd_555 : Cond.fieldLink RX9 58 "DipLights" "trial" "LDipLights$Meeting;" ∈ lw_tbl := ax_in2 (List.mem_of_getElem? (i := 149) rfl)
theorem wd_556 : Cond.fieldLink RX9 64 "DipLights" "duelGame" "LDipLights$Game;" ∈ lw_tbl := ax_in2 (List.mem_of_getElem? (i := 150) rfl)
theorem wd_557 : Cond.fieldLink RX9 68 "DipLights" "duelFilled" "I" ∈ lw_tbl := ax_in2 (List.mem_of_getElem? (i := 151) rfl)
theorem wd_558 : Cond.fieldLink RX9 72 "DipLights" "bulbGame" "LDipLights$Game;" ∈ lw_tbl := ax_in2 (List.mem_of_getElem? (i := 152) rfl)
theorem wd_559 : Cond.fieldLink RX9 75 "DipLights" "visits" "[I" ∈ lw_tbl := ax_in2 (List.mem_of_getElem? (i := 153) rfl)
theorem wd_560 : Cond.fieldLink RX9 82 "DipLights" "changes" "LDipLights$Changes;" ∈ lw_tbl := ax_in2 (List.mem_of_getElem? (i := 154) rfl)
theorem wd_561 : Cond.fieldLink RX9 86 "DipLights" "refused" "[I" ∈ lw_tbl := ax_in2 (List.mem_of_getElem? (i := 155) rfl)
theorem wd_593 : Cond.methodLink RL 141 yX9_feed ∈ lw_tbl := ax_in2 (List.mem_of_getElem? (i := 187) rfl)
theorem wd_597 : Cond.methodLinkNest RX9 92 yX6_put "DipLights" ∈ lw_tbl := ax_in2 (List.mem_of_getElem? (i := 191) rfl)
theorem wd_601 : Cond.methodLink RL 165 yX9_fault ∈ lw_tbl := ax_in2 (List.mem_of_getElem? (i := 195) rfl)
theorem wd_605 : Cond.methodLink RL 178 yX9_tenths ∈ lw_tbl := ax_in2 (List.mem_of_getElem? (i := 199) rfl)
theorem wd_609 : Cond.methodLink RX9 205 yX9_freshMeeting ∈ lw_tbl := ax_in2 (List.mem_of_getElem? (i := 203) rfl)
theorem wd_613 : Cond.methodLinkNest RX9 201 yX4_run "DipLights" ∈ lw_tbl := ax_in2 (List.mem_of_getElem? (i := 207) rfl)
theorem wd_617 : Cond.methodLinkNest RX4 40 yX8_begin "DipLights" ∈ lw_tbl := ax_in2 (List.mem_of_getElem? (i := 211) rfl)
theorem wd_621 : Cond.methodLinkNest RX8 73 yX5_startOf "DipLights" ∈ lw_tbl := ax_in2 (List.mem_of_getElem? (i := 215) rfl)
theorem wd_625 : Cond.methodLinkNest RX4 44 yX8_isOn "DipLights" ∈ lw_tbl := ax_in2 (List.mem_of_getElem? (i := 219) rfl)
theorem wd_629 : Cond.methodLinkNest RX8 77 yX5_has "DipLights" ∈ lw_tbl := ax_in2 (List.mem_of_getElem? (i := 223) rfl)
theorem wd_633 : Cond.methodLink RX4 48 yX4_measure ∈ lw_tbl := ax_in2 (List.mem_of_getElem? (i := 227) rfl)
theorem wd_637 : Cond.methodLinkNest RX4 89 yX5_hides "DipLights" ∈ lw_tbl := ax_in2 (List.mem_of_getElem? (i := 231) rfl)
theorem wd_641 : Cond.methodLink RX5 134 yJ9_min_7cf53 ∈ lw_tbl := ax_in2 (List.mem_of_getElem? (i := 235) rfl)
theorem wd_644 : Cond.methodLink RX5 139 yJ9_max_7cf53 ∈ lw_tbl := ax_in2 (List.mem_of_getElem? (i := 238) rfl)
theorem wd_647 : Cond.methodLink RX4 52 yX4_beamsOf ∈ lw_tbl := ax_in3 (List.mem_of_getElem? (i := 1) rfl)
theorem wd_651 : Cond.methodLink RX4 93 yX4_beamsBy ∈ lw_tbl := ax_in3 (List.mem_of_getElem? (i := 5) rfl)
theorem wd_655 : Cond.methodLink RX4 135 yX4_far ∈ lw_tbl := ax_in3 (List.mem_of_getElem? (i := 9) rfl)
theorem wd_659 : Cond.methodLink RX4 107 yX4_apartIn ∈ lw_tbl := ax_in3 (List.mem_of_getElem? (i := 13) rfl)
theorem wd_663 : Cond.methodLink RX4 97 yX4_tellValues ∈ lw_tbl := ax_in3 (List.mem_of_getElem? (i := 17) rfl)
theorem wd_667 : Cond.methodLinkNest RX4 123 yX5_reachBy "DipLights" ∈ lw_tbl := ax_in3 (List.mem_of_getElem? (i := 21) rfl)
theorem wd_671 : Cond.methodLinkNest RX4 132 yX5_wetAt "DipLights" ∈ lw_tbl := ax_in3 (List.mem_of_getElem? (i := 25) rfl)
theorem wd_675 : Cond.methodLink RX5 131 yX5_has ∈ lw_tbl := ax_in3 (List.mem_of_getElem? (i := 29) rfl)
theorem wd_676 : Cond.methodLink RX4 138 yX4_inView ∈ lw_tbl := ax_in3 (List.mem_of_getElem? (i := 30) rfl)
theorem wd_680 : Cond.methodLink RX4 142 yX4_tripOf ∈ lw_tbl := ax_in3 (List.mem_of_getElem? (i := 34) rfl)
theorem wd_684 : Cond.methodLinkNest RX4 104 yX7_beamsByRule "DipLights" ∈ lw_tbl := ax_in3 (List.mem_of_getElem? (i := 38) rfl)
theorem wd_688 : Cond.methodLinkNest RX7 48 yX2_valueBy "DipLights" ∈ lw_tbl := ax_in3 (List.mem_of_getElem? (i := 42) rfl)
theorem wd_692 : Cond.methodLink RX2 102 yX2_joined ∈ lw_tbl := ax_in3 (List.mem_of_getElem? (i := 46) rfl)
theorem wd_695 : Cond.methodLink RX2 106 yX2_variableBy ∈ lw_tbl := ax_in3 (List.mem_of_getElem? (i := 49) rfl)
theorem wd_698 : Cond.methodLink RX4 59 yX4_dazzles ∈ lw_tbl := ax_in3 (List.mem_of_getElem? (i := 52) rfl)
theorem wd_702 : Cond.methodLinkNest RX4 66 yX5_blindFor "DipLights" ∈ lw_tbl := ax_in3 (List.mem_of_getElem? (i := 56) rfl)
theorem wd_706 : Cond.methodLinkNest RX4 72 yX8_becomeBlind "DipLights" ∈ lw_tbl := ax_in3 (List.mem_of_getElem? (i := 60) rfl)
theorem wd_710 : Cond.methodLink RX8 81 yJ9_max_7cf53 ∈ lw_tbl := ax_in3 (List.mem_of_getElem? (i := 64) rfl)
theorem wd_711 : Cond.methodLink RX4 76 yX4_keep ∈ lw_tbl := ax_in3 (List.mem_of_getElem? (i := 65) rfl)
theorem wd_715 : Cond.methodLinkNest RX4 113 yX7_sightByLaw "DipLights" ∈ lw_tbl := ax_in3 (List.mem_of_getElem? (i := 69) rfl)
theorem wd_719 : Cond.methodLink RX7 52 yJ9_min_7cf53 ∈ lw_tbl := ax_in3 (List.mem_of_getElem? (i := 73) rfl)
theorem wd_720 : Cond.methodLink RX7 58 yJ9_max_7cf53 ∈ lw_tbl := ax_in3 (List.mem_of_getElem? (i := 74) rfl)
theorem wd_721 : Cond.methodLinkNest RX4 117 yX8_keep "DipLights" ∈ lw_tbl := ax_in3 (List.mem_of_getElem? (i := 75) rfl)
theorem wd_725 : Cond.methodLinkNest RX8 87 yX5_wetAt "DipLights" ∈ lw_tbl := ax_in3 (List.mem_of_getElem? (i := 79) rfl)
theorem wd_726 : Cond.methodLink RL 186 yX9_passes ∈ lw_tbl := ax_in3 (List.mem_of_getElem? (i := 80) rfl)
theorem wd_730 : Cond.methodLink RL 282 yX9_undo ∈ lw_tbl := ax_in3 (List.mem_of_getElem? (i := 84) rfl)
theorem wd_734 : Cond.methodLinkNest RX9 395 yX1_takeBack "DipLights" ∈ lw_tbl := ax_in3 (List.mem_of_getElem? (i := 88) rfl)
theorem wd_738 : Cond.methodLink RX1 46 yX1_put ∈ lw_tbl := ax_in3 (List.mem_of_getElem? (i := 92) rfl)
theorem wd_741 : Cond.methodLink RX9 120 yX9_meetingChanged ∈ lw_tbl := ax_in3 (List.mem_of_getElem? (i := 95) rfl)
theorem wd_745 : Cond.methodLink RL 286 yX9_image ∈ lw_tbl := ax_in3 (List.mem_of_getElem? (i := 99) rfl)
theorem wd_749 : Cond.methodLinkNest RX9 402 yX1_keepImage "DipLights" ∈ lw_tbl := ax_in3 (List.mem_of_getElem? (i := 103) rfl)
theorem wd_753 : Cond.methodLink RX1 70 yX1_copyTo ∈ lw_tbl := ax_in3 (List.mem_of_getElem? (i := 107) rfl)
theorem wd_756 : Cond.methodLink RX1 77 ⟨"java/lang/System", "arraycopy", "(Ljava/lang/Object;ILjava/lang/Object;II)V"⟩ ∈ lw_tbl := ax_in3 (List.mem_of_getElem? (i := 110) rfl)
theorem wd_759 : Cond.methodLink RL 290 yX9_restore ∈ lw_tbl := ax_in3 (List.mem_of_getElem? (i := 113) rfl)
theorem wd_763 : Cond.methodLinkNest RX9 408 yX1_bringBack "DipLights" ∈ lw_tbl := ax_in3 (List.mem_of_getElem? (i := 117) rfl)
theorem wd_767 : Cond.methodLink RX1 74 yX1_copyFrom ∈ lw_tbl := ax_in3 (List.mem_of_getElem? (i := 121) rfl)
theorem wd_770 : Cond.methodLink RL 294 yX9_status ∈ lw_tbl := ax_in3 (List.mem_of_getElem? (i := 124) rfl)
theorem wd_774 : Cond.methodLink RL 298 yX9_count ∈ lw_tbl := ax_in3 (List.mem_of_getElem? (i := 128) rfl)
theorem wd_778 : Cond.methodLink RL 146 yL_road ∈ lw_tbl := ax_in3 (List.mem_of_getElem? (i := 132) rfl)
theorem wd_781 : Cond.classLink RL 13 "java/lang/IllegalArgumentException" ∈ lw_tbl := ax_in3 (List.mem_of_getElem? (i := 135) rfl)
theorem wd_782 : Cond.methodLink RL 7 yX9_road ∈ lw_tbl := ax_in3 (List.mem_of_getElem? (i := 136) rfl)
theorem wd_786 : Cond.methodLink RX9 96 yX9_takeText ∈ lw_tbl := ax_in3 (List.mem_of_getElem? (i := 140) rfl)
theorem wd_790 : Cond.methodLink RX9 142 yX9_needArgument ∈ lw_tbl := ax_in3 (List.mem_of_getElem? (i := 144) rfl)
theorem wd_794 : Cond.classLink RX9 418 "java/lang/IllegalArgumentException" ∈ lw_tbl := ax_in3 (List.mem_of_getElem? (i := 148) rfl)
theorem wd_795 : Cond.instantiable "java/lang/IllegalArgumentException" 6 ∈ lw_tbl := ax_in3 (List.mem_of_getElem? (i := 149) rfl)
theorem wd_833 : Cond.instantiable "java/lang/Throwable" 6 ∈ lw_tbl := ax_in3 (List.mem_of_getElem? (i := 187) rfl)
theorem wd_836 : Cond.methodLink RX9 422 ⟨"java/lang/IllegalArgumentException", "<init>", "(Ljava/lang/String;)V"⟩ ∈ lw_tbl := ax_in3 (List.mem_of_getElem? (i := 190) rfl)
theorem wd_861 : Cond.arrayClass .byte ∈ lw_tbl := ax_in3 (List.mem_of_getElem? (i := 215) rfl)
theorem wd_862 : Cond.methodLinkNest RX9 145 yX6_beginText "DipLights" ∈ lw_tbl := ax_in3 (List.mem_of_getElem? (i := 216) rfl)
theorem wd_866 : Cond.methodLink RX6 40 yJ9_min_7cf53 ∈ lw_tbl := ax_in3 (List.mem_of_getElem? (i := 220) rfl)
theorem wd_867 : Cond.methodLink RX6 46 yX6_advance ∈ lw_tbl := ax_in3 (List.mem_of_getElem? (i := 221) rfl)
theorem wd_871 : Cond.methodLink RX6 49 yX6_tokenOf ∈ lw_tbl := ax_in3 (List.mem_of_getElem? (i := 225) rfl)
theorem wd_874 : Cond.constant RX6 53 (100000) ∈ lw_tbl := ax_in3 (List.mem_of_getElem? (i := 228) rfl)
theorem wd_875 : Cond.methodLinkNest RX9 100 yX5_readFrom "DipLights" ∈ lw_tbl := ax_in3 (List.mem_of_getElem? (i := 229) rfl)
theorem wd_879 : Cond.methodLink RX5 64 yX5_empty ∈ lw_tbl := ax_in3 (List.mem_of_getElem? (i := 233) rfl)
theorem wd_883 : Cond.methodLink RX5 72 yX5_clauseOf ∈ lw_tbl := ax_in3 (List.mem_of_getElem? (i := 237) rfl)
theorem wd_887 : Cond.methodLinkNest RX5 96 yX6_isWord "DipLights" ∈ lw_tbl := ax_in4 (List.mem_of_getElem? (i := 1) rfl)
theorem wd_891 : Cond.methodLink RX6 54 yJ0_length_8abf5 ∈ lw_tbl := ax_in4 (List.mem_of_getElem? (i := 5) rfl)
theorem wd_901 : Cond.methodLink RX6 59 yJ0_charAt_5068e ∈ lw_tbl := ax_in4 (List.mem_of_getElem? (i := 15) rfl)
theorem wd_946 : Cond.methodLinkNest RX5 76 yX6_fail "DipLights" ∈ lw_tbl := ax_in4 (List.mem_of_getElem? (i := 60) rfl)
theorem wd_950 : Cond.methodLink RX5 80 yX5_hasRoomFor ∈ lw_tbl := ax_in4 (List.mem_of_getElem? (i := 64) rfl)
theorem wd_954 : Cond.methodLinkNest RX5 83 yX6_advance "DipLights" ∈ lw_tbl := ax_in4 (List.mem_of_getElem? (i := 68) rfl)
theorem wd_955 : Cond.methodLink RX5 86 yX5_readClause ∈ lw_tbl := ax_in4 (List.mem_of_getElem? (i := 69) rfl)
theorem wd_959 : Cond.methodLinkNest RX5 111 yX6_takeNumber "DipLights" ∈ lw_tbl := ax_in4 (List.mem_of_getElem? (i := 73) rfl)
theorem wd_963 : Cond.methodLink RX6 71 yX6_standsNumber ∈ lw_tbl := ax_in4 (List.mem_of_getElem? (i := 77) rfl)
theorem wd_967 : Cond.methodLink RX6 67 yX6_fail ∈ lw_tbl := ax_in4 (List.mem_of_getElem? (i := 81) rfl)
theorem wd_968 : Cond.methodLink RX5 115 yX5_readBend ∈ lw_tbl := ax_in4 (List.mem_of_getElem? (i := 82) rfl)
theorem wd_972 : Cond.methodLink RX5 119 yX5_readWet ∈ lw_tbl := ax_in4 (List.mem_of_getElem? (i := 86) rfl)
theorem wd_976 : Cond.methodLink RX5 122 yX5_readCoat ∈ lw_tbl := ax_in4 (List.mem_of_getElem? (i := 90) rfl)
theorem wd_980 : Cond.methodLink RX5 125 yX5_readReach ∈ lw_tbl := ax_in4 (List.mem_of_getElem? (i := 94) rfl)
theorem wd_984 : Cond.methodLink RX5 128 yX5_readCar ∈ lw_tbl := ax_in4 (List.mem_of_getElem? (i := 98) rfl)
theorem wd_988 : Cond.methodLinkNest RX5 90 yX6_takeSign "DipLights" ∈ lw_tbl := ax_in4 (List.mem_of_getElem? (i := 102) rfl)
theorem wd_992 : Cond.methodLink RX6 63 yX6_isSign ∈ lw_tbl := ax_in4 (List.mem_of_getElem? (i := 106) rfl)
theorem wd_996 : Cond.methodLinkNest RX9 104 yX6_answerOfFault "DipLights" ∈ lw_tbl := ax_in4 (List.mem_of_getElem? (i := 110) rfl)
theorem wd_1000 : Cond.methodLinkNest RX9 111 yX7_forgetFormulas "DipLights" ∈ lw_tbl := ax_in4 (List.mem_of_getElem? (i := 114) rfl)
theorem wd_1001 : Cond.methodLinkNest RX9 117 yX1_forgetAll "DipLights" ∈ lw_tbl := ax_in4 (List.mem_of_getElem? (i := 115) rfl)
theorem wd_1005 : Cond.methodLink RL 155 yL_law ∈ lw_tbl := ax_in4 (List.mem_of_getElem? (i := 119) rfl)
theorem wd_1008 : Cond.methodLink RL 15 yX9_law ∈ lw_tbl := ax_in4 (List.mem_of_getElem? (i := 122) rfl)
theorem wd_1012 : Cond.methodLinkNest RX9 126 yX2_readFrom "DipLights" ∈ lw_tbl := ax_in4 (List.mem_of_getElem? (i := 126) rfl)
theorem wd_1016 : Cond.methodLink RX2 26 yX2_readSum ∈ lw_tbl := ax_in4 (List.mem_of_getElem? (i := 130) rfl)
theorem wd_1020 : Cond.methodLink RX2 39 yX2_readProduct ∈ lw_tbl := ax_in4 (List.mem_of_getElem? (i := 134) rfl)
theorem wd_1024 : Cond.methodLink RX2 49 yX2_readUnit ∈ lw_tbl := ax_in4 (List.mem_of_getElem? (i := 138) rfl)
theorem wd_1028 : Cond.methodLinkNest RX2 52 yX6_takeNumber "DipLights" ∈ lw_tbl := ax_in4 (List.mem_of_getElem? (i := 142) rfl)
theorem wd_1029 : Cond.methodLink RX2 56 yX2_variableOf ∈ lw_tbl := ax_in4 (List.mem_of_getElem? (i := 143) rfl)
theorem wd_1033 : Cond.methodLinkNest RX2 62 yX6_isWord "DipLights" ∈ lw_tbl := ax_in4 (List.mem_of_getElem? (i := 147) rfl)
theorem wd_1039 : Cond.methodLink RX2 87 yX2_variableOfMeeting ∈ lw_tbl := ax_in4 (List.mem_of_getElem? (i := 153) rfl)
theorem wd_1048 : Cond.methodLinkNest RX2 46 yX6_advance "DipLights" ∈ lw_tbl := ax_in4 (List.mem_of_getElem? (i := 162) rfl)
theorem wd_1051 : Cond.methodLinkNest RX2 42 yX6_isSign "DipLights" ∈ lw_tbl := ax_in4 (List.mem_of_getElem? (i := 165) rfl)
theorem wd_1052 : Cond.methodLinkNest RX2 35 yX6_fail "DipLights" ∈ lw_tbl := ax_in4 (List.mem_of_getElem? (i := 166) rfl)
theorem wd_1053 : Cond.methodLinkNest RX2 68 yX6_takeSign "DipLights" ∈ lw_tbl := ax_in4 (List.mem_of_getElem? (i := 167) rfl)
theorem wd_1054 : Cond.methodLink RX2 71 yX2_readPair ∈ lw_tbl := ax_in4 (List.mem_of_getElem? (i := 168) rfl)
theorem wd_1058 : Cond.methodLink RL 158 yL_rule ∈ lw_tbl := ax_in4 (List.mem_of_getElem? (i := 172) rfl)
theorem wd_1061 : Cond.classLink RL 22 "java/util/NoSuchElementException" ∈ lw_tbl := ax_in4 (List.mem_of_getElem? (i := 175) rfl)
theorem wd_1062 : Cond.methodLink RL 18 yX9_rule ∈ lw_tbl := ax_in4 (List.mem_of_getElem? (i := 176) rfl)
theorem wd_1066 : Cond.methodLink RX9 130 yX9_needElement ∈ lw_tbl := ax_in4 (List.mem_of_getElem? (i := 180) rfl)
theorem wd_1070 : Cond.classLink RX9 411 "java/util/NoSuchElementException" ∈ lw_tbl := ax_in4 (List.mem_of_getElem? (i := 184) rfl)
theorem wd_1071 : Cond.instantiable "java/util/NoSuchElementException" 6 ∈ lw_tbl := ax_in4 (List.mem_of_getElem? (i := 185) rfl)
theorem wd_1080 : Cond.methodLink RX9 415 ⟨"java/util/NoSuchElementException", "<init>", "(Ljava/lang/String;)V"⟩ ∈ lw_tbl := ax_in4 (List.mem_of_getElem? (i := 194) rfl)
theorem wd_1086 : Cond.methodLinkNest RX9 134 yX7_swapRule "DipLights" ∈ lw_tbl := ax_in4 (List.mem_of_getElem? (i := 200) rfl)
theorem wd_1090 : Cond.methodLink RL 162 yL_book ∈ lw_tbl := ax_in4 (List.mem_of_getElem? (i := 204) rfl)
theorem wd_1093 : Cond.methodLink RL 24 yX9_book ∈ lw_tbl := ax_in4 (List.mem_of_getElem? (i := 207) rfl)
theorem wd_1097 : Cond.methodLinkNest RX9 138 yX0_readFrom "DipLights" ∈ lw_tbl := ax_in4 (List.mem_of_getElem? (i := 211) rfl)
theorem wd_1101 : Cond.methodLink RX0 27 yX0_readLine ∈ lw_tbl := ax_in4 (List.mem_of_getElem? (i := 215) rfl)
theorem wd_1105 : Cond.methodLinkNest RX0 31 yX6_standsNumber "DipLights" ∈ lw_tbl := ax_in4 (List.mem_of_getElem? (i := 219) rfl)
theorem wd_1106 : Cond.methodLink RX0 38 yX0_tells ∈ lw_tbl := ax_in4 (List.mem_of_getElem? (i := 220) rfl)
theorem wd_1110 : Cond.methodLinkNest RX0 42 yX6_fail "DipLights" ∈ lw_tbl := ax_in4 (List.mem_of_getElem? (i := 224) rfl)
theorem wd_1111 : Cond.methodLinkNest RX0 45 yX6_advance "DipLights" ∈ lw_tbl := ax_in4 (List.mem_of_getElem? (i := 225) rfl)
theorem wd_1112 : Cond.methodLinkNest RX0 48 yX6_takeNumber "DipLights" ∈ lw_tbl := ax_in4 (List.mem_of_getElem? (i := 226) rfl)
theorem wd_1113 : Cond.methodLinkNest RX0 52 yX6_takeSign "DipLights" ∈ lw_tbl := ax_in4 (List.mem_of_getElem? (i := 227) rfl)
theorem wd_1114 : Cond.methodLink RL 169 yL_told ∈ lw_tbl := ax_in4 (List.mem_of_getElem? (i := 228) rfl)
theorem wd_1117 : Cond.methodLink RL 27 yX9_told ∈ lw_tbl := ax_in4 (List.mem_of_getElem? (i := 231) rfl)
theorem wd_1121 : Cond.methodLink RX9 148 yX9_needRange ∈ lw_tbl := ax_in4 (List.mem_of_getElem? (i := 235) rfl)
theorem wd_1125 : Cond.methodLinkNest RX9 161 yX5_wetCells "DipLights" ∈ lw_tbl := ax_in4 (List.mem_of_getElem? (i := 239) rfl)
theorem wd_1129 : Cond.methodLink RL 172 yL_car ∈ lw_tbl := ax_in5 (List.mem_of_getElem? (i := 3) rfl)
theorem wd_1132 : Cond.methodLink RL 30 yX9_car ∈ lw_tbl := ax_in5 (List.mem_of_getElem? (i := 6) rfl)
theorem wd_1136 : Cond.methodLink RX9 176 yX9_needCar ∈ lw_tbl := ax_in5 (List.mem_of_getElem? (i := 10) rfl)
theorem wd_1140 : Cond.methodLinkNest RX9 188 yX5_startOf "DipLights" ∈ lw_tbl := ax_in5 (List.mem_of_getElem? (i := 14) rfl)
theorem wd_1141 : Cond.methodLink RL 175 yL_coat ∈ lw_tbl := ax_in5 (List.mem_of_getElem? (i := 15) rfl)
theorem wd_1144 : Cond.methodLink RL 33 yX9_coat ∈ lw_tbl := ax_in5 (List.mem_of_getElem? (i := 18) rfl)
theorem wd_1148 : Cond.methodLink RX9 192 yX9_needCoat ∈ lw_tbl := ax_in5 (List.mem_of_getElem? (i := 22) rfl)
theorem wd_1152 : Cond.methodLink RL 182 yL_at ∈ lw_tbl := ax_in5 (List.mem_of_getElem? (i := 26) rfl)
theorem wd_1155 : Cond.methodLink RL 36 yX9_at ∈ lw_tbl := ax_in5 (List.mem_of_getElem? (i := 29) rfl)
theorem wd_1159 : Cond.methodLinkNest RX9 212 yX4_tripOf "DipLights" ∈ lw_tbl := ax_in5 (List.mem_of_getElem? (i := 33) rfl)
theorem wd_1160 : Cond.methodLinkNest RX9 230 yX8_unsafe "DipLights" ∈ lw_tbl := ax_in5 (List.mem_of_getElem? (i := 34) rfl)
theorem wd_1164 : Cond.methodLinkNest RX9 233 yX4_inView "DipLights" ∈ lw_tbl := ax_in5 (List.mem_of_getElem? (i := 38) rfl)
theorem wd_1165 : Cond.methodLink RL 190 yL_hits ∈ lw_tbl := ax_in5 (List.mem_of_getElem? (i := 39) rfl)
theorem wd_1168 : Cond.methodLink RL 40 yX9_hits ∈ lw_tbl := ax_in5 (List.mem_of_getElem? (i := 42) rfl)
theorem wd_1172 : Cond.methodLinkNest RX9 240 yX4_hitBits "DipLights" ∈ lw_tbl := ax_in5 (List.mem_of_getElem? (i := 46) rfl)
theorem wd_1176 : Cond.methodLink RX4 150 yX4_hitBy ∈ lw_tbl := ax_in5 (List.mem_of_getElem? (i := 50) rfl)
theorem wd_1180 : Cond.methodLinkNest RX4 146 yX8_doesHit "DipLights" ∈ lw_tbl := ax_in5 (List.mem_of_getElem? (i := 54) rfl)
theorem wd_1184 : Cond.methodLink RX8 100 yX8_reachedIn ∈ lw_tbl := ax_in5 (List.mem_of_getElem? (i := 58) rfl)
theorem wd_1188 : Cond.methodLink RX8 93 yX8_ahead ∈ lw_tbl := ax_in5 (List.mem_of_getElem? (i := 62) rfl)
theorem wd_1192 : Cond.methodLink RX8 103 yX8_seenIn ∈ lw_tbl := ax_in5 (List.mem_of_getElem? (i := 66) rfl)
theorem wd_1196 : Cond.methodLinkNest RX8 96 yX5_hides "DipLights" ∈ lw_tbl := ax_in5 (List.mem_of_getElem? (i := 70) rfl)
theorem wd_1197 : Cond.methodLink RL 193 yL_sees ∈ lw_tbl := ax_in5 (List.mem_of_getElem? (i := 71) rfl)
theorem wd_1200 : Cond.methodLink RL 43 yX9_sees ∈ lw_tbl := ax_in5 (List.mem_of_getElem? (i := 74) rfl)
theorem wd_1204 : Cond.methodLinkNest RX9 244 yX8_seenIn "DipLights" ∈ lw_tbl := ax_in5 (List.mem_of_getElem? (i := 78) rfl)
theorem wd_1205 : Cond.methodLinkNest RX9 248 yX8_ahead "DipLights" ∈ lw_tbl := ax_in5 (List.mem_of_getElem? (i := 79) rfl)
theorem wd_1206 : Cond.methodLink RL 196 yL_sums ∈ lw_tbl := ax_in5 (List.mem_of_getElem? (i := 80) rfl)
theorem wd_1209 : Cond.methodLink RL 46 yX9_sums ∈ lw_tbl := ax_in5 (List.mem_of_getElem? (i := 83) rfl)
theorem wd_1213 : Cond.methodLinkNest RX9 252 yX8_unsafeTenths "DipLights" ∈ lw_tbl := ax_in5 (List.mem_of_getElem? (i := 87) rfl)
theorem wd_1217 : Cond.methodLink RX8 90 yX8_unsafe ∈ lw_tbl := ax_in5 (List.mem_of_getElem? (i := 91) rfl)
theorem wd_1218 : Cond.methodLinkNest RX9 255 yX8_glareTenths "DipLights" ∈ lw_tbl := ax_in5 (List.mem_of_getElem? (i := 92) rfl)
theorem wd_1222 : Cond.methodLinkNest RX9 258 yX8_blindTenths "DipLights" ∈ lw_tbl := ax_in5 (List.mem_of_getElem? (i := 96) rfl)
theorem wd_1226 : Cond.methodLinkNest RX9 261 yX8_fullTenths "DipLights" ∈ lw_tbl := ax_in5 (List.mem_of_getElem? (i := 100) rfl)
theorem wd_1230 : Cond.methodLinkNest RX9 264 yX8_beamChanges "DipLights" ∈ lw_tbl := ax_in5 (List.mem_of_getElem? (i := 104) rfl)
theorem wd_1234 : Cond.methodLinkNest RX9 267 yX8_leastSight "DipLights" ∈ lw_tbl := ax_in5 (List.mem_of_getElem? (i := 108) rfl)
theorem wd_1238 : Cond.methodLink RL 199 yL_would ∈ lw_tbl := ax_in5 (List.mem_of_getElem? (i := 112) rfl)
theorem wd_1241 : Cond.methodLink RL 49 yX9_would ∈ lw_tbl := ax_in5 (List.mem_of_getElem? (i := 115) rfl)
theorem wd_1245 : Cond.methodLinkNest RX9 270 yX7_valuesOfNobody "DipLights" ∈ lw_tbl := ax_in5 (List.mem_of_getElem? (i := 119) rfl)
theorem wd_1249 : Cond.methodLinkNest RX9 274 yX7_sightByLaw "DipLights" ∈ lw_tbl := ax_in5 (List.mem_of_getElem? (i := 123) rfl)
theorem wd_1250 : Cond.methodLink RL 203 yL_cost ∈ lw_tbl := ax_in5 (List.mem_of_getElem? (i := 124) rfl)
theorem wd_1253 : Cond.classLink RL 56 "java/lang/IllegalStateException" ∈ lw_tbl := ax_in5 (List.mem_of_getElem? (i := 127) rfl)
theorem wd_1254 : Cond.methodLink RL 53 yX9_cost ∈ lw_tbl := ax_in5 (List.mem_of_getElem? (i := 128) rfl)
theorem wd_1258 : Cond.methodLink RX9 277 yX9_needTwoCars ∈ lw_tbl := ax_in5 (List.mem_of_getElem? (i := 132) rfl)
theorem wd_1262 : Cond.classLink RX9 423 "java/lang/IllegalStateException" ∈ lw_tbl := ax_in5 (List.mem_of_getElem? (i := 136) rfl)
theorem wd_1263 : Cond.instantiable "java/lang/IllegalStateException" 6 ∈ lw_tbl := ax_in5 (List.mem_of_getElem? (i := 137) rfl)
theorem wd_1272 : Cond.methodLink RX9 427 ⟨"java/lang/IllegalStateException", "<init>", "(Ljava/lang/String;)V"⟩ ∈ lw_tbl := ax_in5 (List.mem_of_getElem? (i := 146) rfl)
theorem wd_1278 : Cond.methodLinkNest RX9 280 yX4_costOf "DipLights" ∈ lw_tbl := ax_in5 (List.mem_of_getElem? (i := 152) rfl)
theorem wd_1282 : Cond.methodLink RX4 172 yX4_hitCount ∈ lw_tbl := ax_in5 (List.mem_of_getElem? (i := 156) rfl)
theorem wd_1286 : Cond.methodLink RX4 163 yX4_hitBits ∈ lw_tbl := ax_in5 (List.mem_of_getElem? (i := 160) rfl)
theorem wd_1287 : Cond.methodLink RX4 167 yJ6_bitCount_0f7a4 ∈ lw_tbl := ax_in5 (List.mem_of_getElem? (i := 161) rfl)
theorem wd_1290 : Cond.constant RJ6 265 (1431655765) ∈ lw_tbl := ax_in5 (List.mem_of_getElem? (i := 164) rfl)
theorem wd_1291 : Cond.constant RJ6 266 (858993459) ∈ lw_tbl := ax_in5 (List.mem_of_getElem? (i := 165) rfl)
theorem wd_1292 : Cond.constant RJ6 267 (252645135) ∈ lw_tbl := ax_in5 (List.mem_of_getElem? (i := 166) rfl)
theorem wd_1293 : Cond.methodLinkNest RX4 175 yX8_unsafeTenths "DipLights" ∈ lw_tbl := ax_in5 (List.mem_of_getElem? (i := 167) rfl)
theorem wd_1294 : Cond.methodLink RL 206 yL_duel ∈ lw_tbl := ax_in5 (List.mem_of_getElem? (i := 168) rfl)
theorem wd_1297 : Cond.methodLink RL 58 yX9_duel ∈ lw_tbl := ax_in5 (List.mem_of_getElem? (i := 171) rfl)
theorem wd_1301 : Cond.methodLink RX9 283 yX9_fillDuel ∈ lw_tbl := ax_in5 (List.mem_of_getElem? (i := 175) rfl)
theorem wd_1305 : Cond.methodLinkNest RX9 302 yX4_everApartBy "DipLights" ∈ lw_tbl := ax_in5 (List.mem_of_getElem? (i := 179) rfl)
theorem wd_1309 : Cond.methodLinkNest RX9 305 yX3_copy "DipLights" ∈ lw_tbl := ax_in5 (List.mem_of_getElem? (i := 183) rfl)
theorem wd_1313 : Cond.methodLink RX3 18 yX3_isPair ∈ lw_tbl := ax_in5 (List.mem_of_getElem? (i := 187) rfl)
theorem wd_1316 : Cond.methodLink RX3 22 yX3_put ∈ lw_tbl := ax_in5 (List.mem_of_getElem? (i := 190) rfl)
theorem wd_1320 : Cond.methodLinkNest RX9 309 yX3_put "DipLights" ∈ lw_tbl := ax_in5 (List.mem_of_getElem? (i := 194) rfl)
theorem wd_1321 : Cond.methodLinkNest RX9 287 yX3_restsOf "DipLights" ∈ lw_tbl := ax_in5 (List.mem_of_getElem? (i := 195) rfl)
theorem wd_1325 : Cond.methodLink RX3 26 yX3_isRest ∈ lw_tbl := ax_in5 (List.mem_of_getElem? (i := 199) rfl)
theorem wd_1329 : Cond.methodLinkNest RX9 290 yX3_firstRest "DipLights" ∈ lw_tbl := ax_in5 (List.mem_of_getElem? (i := 203) rfl)
theorem wd_1333 : Cond.methodLink RX9 293 yX9_pairNumber ∈ lw_tbl := ax_in5 (List.mem_of_getElem? (i := 207) rfl)
theorem wd_1336 : Cond.methodLinkNest RX9 296 yX3_kindest "DipLights" ∈ lw_tbl := ax_in5 (List.mem_of_getElem? (i := 210) rfl)
theorem wd_1340 : Cond.methodLink RX3 30 yX3_together ∈ lw_tbl := ax_in5 (List.mem_of_getElem? (i := 214) rfl)
theorem wd_1344 : Cond.methodLinkNest RX9 299 yX3_together "DipLights" ∈ lw_tbl := ax_in5 (List.mem_of_getElem? (i := 218) rfl)
theorem wd_1345 : Cond.methodLink RL 209 yL_answer ∈ lw_tbl := ax_in5 (List.mem_of_getElem? (i := 219) rfl)
theorem wd_1348 : Cond.methodLink RL 61 yX9_answer ∈ lw_tbl := ax_in5 (List.mem_of_getElem? (i := 222) rfl)
theorem wd_1352 : Cond.constant RX9 311 (1000000) ∈ lw_tbl := ax_in5 (List.mem_of_getElem? (i := 226) rfl)
theorem wd_1353 : Cond.methodLink RL 212 yL_habit ∈ lw_tbl := ax_in5 (List.mem_of_getElem? (i := 227) rfl)
theorem wd_1356 : Cond.methodLink RL 64 yX9_habit ∈ lw_tbl := ax_in5 (List.mem_of_getElem? (i := 230) rfl)
theorem wd_1360 : Cond.methodLink RX9 312 yX9_nextHabit ∈ lw_tbl := ax_in5 (List.mem_of_getElem? (i := 234) rfl)
theorem wd_1364 : Cond.methodLink RX9 321 yJ9_min_7cf53 ∈ lw_tbl := ax_in5 (List.mem_of_getElem? (i := 238) rfl)
theorem wd_1365 : Cond.methodLink RX9 326 yJ9_max_7cf53 ∈ lw_tbl := ax_in5 (List.mem_of_getElem? (i := 239) rfl)
theorem wd_1366 : Cond.methodLink RX9 315 yX9_leastVisited ∈ lw_tbl := ax_in6 (List.mem_of_getElem? (i := 0) rfl)
theorem wd_1370 : Cond.methodLink RX9 318 yX9_greatestVisited ∈ lw_tbl := ax_in6 (List.mem_of_getElem? (i := 4) rfl)
theorem wd_1374 : Cond.methodLink RL 215 yL_safe ∈ lw_tbl := ax_in6 (List.mem_of_getElem? (i := 8) rfl)
theorem wd_1377 : Cond.methodLink RL 67 yX9_safe ∈ lw_tbl := ax_in6 (List.mem_of_getElem? (i := 11) rfl)
theorem wd_1381 : Cond.methodLinkNest RX9 329 yX5_reachBy "DipLights" ∈ lw_tbl := ax_in6 (List.mem_of_getElem? (i := 15) rfl)
theorem wd_1382 : Cond.methodLink RL 218 yL_loaded ∈ lw_tbl := ax_in6 (List.mem_of_getElem? (i := 16) rfl)
theorem wd_1385 : Cond.methodLink RL 70 yX9_loaded ∈ lw_tbl := ax_in6 (List.mem_of_getElem? (i := 19) rfl)
theorem wd_1389 : Cond.methodLink RX9 332 yX9_power ∈ lw_tbl := ax_in6 (List.mem_of_getElem? (i := 23) rfl)
theorem wd_1392 : Cond.methodLink RX9 336 yX9_commonDivisor ∈ lw_tbl := ax_in6 (List.mem_of_getElem? (i := 26) rfl)
theorem wd_1395 : Cond.methodLink RL 221 yL_blinds ∈ lw_tbl := ax_in6 (List.mem_of_getElem? (i := 29) rfl)
theorem wd_1398 : Cond.methodLink RL 74 yX9_blinds ∈ lw_tbl := ax_in6 (List.mem_of_getElem? (i := 32) rfl)
theorem wd_1402 : Cond.methodLinkNest RX9 340 yX5_blindFor "DipLights" ∈ lw_tbl := ax_in6 (List.mem_of_getElem? (i := 36) rfl)
theorem wd_1403 : Cond.methodLink RL 224 yL_old ∈ lw_tbl := ax_in6 (List.mem_of_getElem? (i := 37) rfl)
theorem wd_1406 : Cond.methodLink RL 77 yX9_old ∈ lw_tbl := ax_in6 (List.mem_of_getElem? (i := 40) rfl)
theorem wd_1410 : Cond.methodLink RL 227 yL_between ∈ lw_tbl := ax_in6 (List.mem_of_getElem? (i := 44) rfl)
theorem wd_1413 : Cond.methodLink RL 80 yX9_between ∈ lw_tbl := ax_in6 (List.mem_of_getElem? (i := 47) rfl)
theorem wd_1417 : Cond.methodLink RL 230 yL_gets ∈ lw_tbl := ax_in6 (List.mem_of_getElem? (i := 51) rfl)
theorem wd_1420 : Cond.methodLink RL 84 yX9_gets ∈ lw_tbl := ax_in6 (List.mem_of_getElem? (i := 54) rfl)
theorem wd_1424 : Cond.methodLink RX9 343 yX9_gain ∈ lw_tbl := ax_in6 (List.mem_of_getElem? (i := 58) rfl)
theorem wd_1427 : Cond.methodLink RL 233 yL_bulbs ∈ lw_tbl := ax_in6 (List.mem_of_getElem? (i := 61) rfl)
theorem wd_1430 : Cond.methodLink RL 87 yX9_bulbs ∈ lw_tbl := ax_in6 (List.mem_of_getElem? (i := 64) rfl)
theorem wd_1434 : Cond.methodLink RL 236 yL_distances ∈ lw_tbl := ax_in6 (List.mem_of_getElem? (i := 68) rfl)
theorem wd_1437 : Cond.methodLink RL 90 yX9_distances ∈ lw_tbl := ax_in6 (List.mem_of_getElem? (i := 71) rfl)
theorem wd_1441 : Cond.methodLink RX9 346 yX9_distanceBits ∈ lw_tbl := ax_in6 (List.mem_of_getElem? (i := 75) rfl)
theorem wd_1445 : Cond.methodLink RX9 350 yX9_bookFits ∈ lw_tbl := ax_in6 (List.mem_of_getElem? (i := 79) rfl)
theorem wd_1449 : Cond.methodLinkNest RX9 357 yX4_beamsBy "DipLights" ∈ lw_tbl := ax_in6 (List.mem_of_getElem? (i := 83) rfl)
theorem wd_1450 : Cond.methodLink RL 240 yL_look ∈ lw_tbl := ax_in6 (List.mem_of_getElem? (i := 84) rfl)
theorem wd_1453 : Cond.methodLink RL 94 yX9_look ∈ lw_tbl := ax_in6 (List.mem_of_getElem? (i := 87) rfl)
theorem wd_1457 : Cond.methodLink RX9 363 yX9_worstLeft ∈ lw_tbl := ax_in6 (List.mem_of_getElem? (i := 91) rfl)
theorem wd_1460 : Cond.methodLinkNest RX9 367 yX0_tells "DipLights" ∈ lw_tbl := ax_in6 (List.mem_of_getElem? (i := 94) rfl)
theorem wd_1461 : Cond.methodLink RL 243 yL_right ∈ lw_tbl := ax_in6 (List.mem_of_getElem? (i := 95) rfl)
theorem wd_1464 : Cond.methodLink RL 97 yX9_right ∈ lw_tbl := ax_in6 (List.mem_of_getElem? (i := 98) rfl)
theorem wd_1468 : Cond.methodLink RL 246 yL_nights ∈ lw_tbl := ax_in6 (List.mem_of_getElem? (i := 102) rfl)
theorem wd_1471 : Cond.methodLink RL 101 yX9_nights ∈ lw_tbl := ax_in6 (List.mem_of_getElem? (i := 105) rfl)
theorem wd_1475 : Cond.constant RX9 370 (1103515245) ∈ lw_tbl := ax_in6 (List.mem_of_getElem? (i := 109) rfl)
theorem wd_1476 : Cond.methodLinkNest RX9 371 yX5_cellOfDraw "DipLights" ∈ lw_tbl := ax_in6 (List.mem_of_getElem? (i := 110) rfl)
theorem wd_1480 : Cond.methodLinkNest RX9 374 yX4_hitBy "DipLights" ∈ lw_tbl := ax_in6 (List.mem_of_getElem? (i := 114) rfl)
theorem wd_1481 : Cond.methodLink RL 249 yL_darkest ∈ lw_tbl := ax_in6 (List.mem_of_getElem? (i := 115) rfl)
theorem wd_1484 : Cond.methodLink RL 104 yX9_darkest ∈ lw_tbl := ax_in6 (List.mem_of_getElem? (i := 118) rfl)
theorem wd_1488 : Cond.methodLinkNest RX9 378 yX4_hitByCars "DipLights" ∈ lw_tbl := ax_in6 (List.mem_of_getElem? (i := 122) rfl)
theorem wd_1492 : Cond.methodLink RL 252 yL_dark ∈ lw_tbl := ax_in6 (List.mem_of_getElem? (i := 126) rfl)
theorem wd_1495 : Cond.methodLink RL 107 yX9_dark ∈ lw_tbl := ax_in6 (List.mem_of_getElem? (i := 129) rfl)
theorem wd_1499 : Cond.methodLink RL 255 yL_dips ∈ lw_tbl := ax_in6 (List.mem_of_getElem? (i := 133) rfl)
theorem wd_1502 : Cond.methodLink RL 110 yX9_dips ∈ lw_tbl := ax_in6 (List.mem_of_getElem? (i := 136) rfl)
theorem wd_1506 : Cond.methodLinkNest RX9 381 yX8_firstBeams "DipLights" ∈ lw_tbl := ax_in6 (List.mem_of_getElem? (i := 140) rfl)
theorem wd_1510 : Cond.methodLink RL 258 yL_gap ∈ lw_tbl := ax_in6 (List.mem_of_getElem? (i := 144) rfl)
theorem wd_1513 : Cond.methodLink RL 113 yX9_gap ∈ lw_tbl := ax_in6 (List.mem_of_getElem? (i := 147) rfl)
theorem wd_1517 : Cond.methodLink RL 261 yL_needs ∈ lw_tbl := ax_in6 (List.mem_of_getElem? (i := 151) rfl)
theorem wd_1520 : Cond.methodLink RL 116 yX9_needs ∈ lw_tbl := ax_in6 (List.mem_of_getElem? (i := 154) rfl)
theorem wd_1524 : Cond.methodLink RL 264 yL_clear ∈ lw_tbl := ax_in6 (List.mem_of_getElem? (i := 158) rfl)
theorem wd_1527 : Cond.methodLink RL 119 yX9_clear ∈ lw_tbl := ax_in6 (List.mem_of_getElem? (i := 161) rfl)
theorem wd_1531 : Cond.methodLink RL 267 yL_paces ∈ lw_tbl := ax_in6 (List.mem_of_getElem? (i := 165) rfl)
theorem wd_1534 : Cond.methodLink RL 122 yX9_paces ∈ lw_tbl := ax_in6 (List.mem_of_getElem? (i := 168) rfl)
theorem wd_1538 : Cond.methodLinkNest RX9 384 yX4_hitCount "DipLights" ∈ lw_tbl := ax_in6 (List.mem_of_getElem? (i := 172) rfl)
theorem wd_1539 : Cond.methodLink RL 270 yL_finds ∈ lw_tbl := ax_in6 (List.mem_of_getElem? (i := 173) rfl)
theorem wd_1542 : Cond.methodLink RL 125 yX9_finds ∈ lw_tbl := ax_in6 (List.mem_of_getElem? (i := 176) rfl)
theorem wd_1546 : Cond.methodLink RL 273 yL_drives ∈ lw_tbl := ax_in6 (List.mem_of_getElem? (i := 180) rfl)
theorem wd_1549 : Cond.methodLink RL 128 yX9_drives ∈ lw_tbl := ax_in6 (List.mem_of_getElem? (i := 183) rfl)
theorem wd_1553 : Cond.methodLink RX9 387 yX9_change ∈ lw_tbl := ax_in6 (List.mem_of_getElem? (i := 187) rfl)
theorem wd_1557 : Cond.methodLinkNest RX9 391 yX1_make "DipLights" ∈ lw_tbl := ax_in6 (List.mem_of_getElem? (i := 191) rfl)
theorem wd_1561 : Cond.methodLink RX1 39 yX1_firstOf ∈ lw_tbl := ax_in6 (List.mem_of_getElem? (i := 195) rfl)
theorem wd_1564 : Cond.methodLink RX1 43 yX1_secondOf ∈ lw_tbl := ax_in6 (List.mem_of_getElem? (i := 198) rfl)
theorem wd_1567 : Cond.methodLink RL 276 yL_stands ∈ lw_tbl := ax_in6 (List.mem_of_getElem? (i := 201) rfl)
theorem wd_1570 : Cond.methodLink RL 131 yX9_stands ∈ lw_tbl := ax_in6 (List.mem_of_getElem? (i := 204) rfl)
theorem wd_1574 : Cond.methodLink RL 279 yL_weather ∈ lw_tbl := ax_in6 (List.mem_of_getElem? (i := 208) rfl)
theorem wd_1577 : Cond.methodLink RL 134 yX9_weather ∈ lw_tbl := ax_in6 (List.mem_of_getElem? (i := 211) rfl)
theorem wd_1581 : Cond.classLink RL 138 "DipLightsModel" ∈ lw_tbl := ax_in6 (List.mem_of_getElem? (i := 215) rfl)
theorem wd_1582 : Cond.instantiable RX10 53 ∈ lw_tbl := ax_in6 (List.mem_of_getElem? (i := 216) rfl)
theorem wd_1583 : Cond.methodLink RL 140 yX10_init ∈ lw_tbl := ax_in6 (List.mem_of_getElem? (i := 217) rfl)
theorem wd_1586 : Cond.methodLink RX10 1 Lib.objectInit ∈ lw_tbl := ax_in6 (List.mem_of_getElem? (i := 220) rfl)
theorem wd_1587 : Cond.classLink RX10 44 "[[I" ∈ lw_tbl := ax_in6 (List.mem_of_getElem? (i := 221) rfl)
theorem wd_1588 : Cond.classLink RX10 79 "[[[I" ∈ lw_tbl := ax_in6 (List.mem_of_getElem? (i := 222) rfl)
theorem wd_1590 : Cond.methodLink RX10 123 yX10_tellsNothing ∈ lw_tbl := ax_in6 (List.mem_of_getElem? (i := 224) rfl)
theorem wd_1594 : Cond.methodLink RX10 126 yX10_standsNow ∈ lw_tbl := ax_in6 (List.mem_of_getElem? (i := 228) rfl)
theorem wd_1598 : Cond.methodLink RX10 225 yX10_copies ∈ lw_tbl := ax_in6 (List.mem_of_getElem? (i := 232) rfl)
theorem wd_1601 : Cond.fieldLink RX10 133 "DipLightsModel" "thrown" "I" ∈ lw_tbl := ax_in6 (List.mem_of_getElem? (i := 235) rfl)
theorem wd_1602 : Cond.fieldLink RX10 136 "DipLightsModel" "tape" "I" ∈ lw_tbl := ax_in6 (List.mem_of_getElem? (i := 236) rfl)
theorem wd_1603 : Cond.fieldLink RX10 139 "DipLightsModel" "size" "I" ∈ lw_tbl := ax_in6 (List.mem_of_getElem? (i := 237) rfl)
theorem wd_1604 : Cond.fieldLink RX10 9 "DipLightsModel" "place" "I" ∈ lw_tbl := ax_in6 (List.mem_of_getElem? (i := 238) rfl)
theorem wd_1605 : Cond.fieldLink RX10 142 "DipLightsModel" "at" "I" ∈ lw_tbl := ax_in6 (List.mem_of_getElem? (i := 239) rfl)
theorem wd_1606 : Cond.fieldLink RX10 149 "DipLightsModel" "fault" "I" ∈ lw_tbl := ax_in7 (List.mem_of_getElem? (i := 0) rfl)
theorem wd_1607 : Cond.fieldLink RX10 152 "DipLightsModel" "faultAt" "I" ∈ lw_tbl := ax_in7 (List.mem_of_getElem? (i := 1) rfl)
theorem wd_1608 : Cond.fieldLink RX10 189 "DipLightsModel" "clauses" "I" ∈ lw_tbl := ax_in7 (List.mem_of_getElem? (i := 2) rfl)
theorem wd_1609 : Cond.fieldLink RX10 192 "DipLightsModel" "open" "I" ∈ lw_tbl := ax_in7 (List.mem_of_getElem? (i := 3) rfl)
theorem wd_1610 : Cond.fieldLink RX10 13 "DipLightsModel" "fed" "[I" ∈ lw_tbl := ax_in7 (List.mem_of_getElem? (i := 4) rfl)
theorem wd_1611 : Cond.fieldLink RX10 17 "DipLightsModel" "refused" "[I" ∈ lw_tbl := ax_in7 (List.mem_of_getElem? (i := 5) rfl)
theorem wd_1612 : Cond.fieldLink RX10 20 "DipLightsModel" "readTold" "[I" ∈ lw_tbl := ax_in7 (List.mem_of_getElem? (i := 6) rfl)
theorem wd_1613 : Cond.fieldLink RX10 23 "DipLightsModel" "told" "[I" ∈ lw_tbl := ax_in7 (List.mem_of_getElem? (i := 7) rfl)
theorem wd_1614 : Cond.fieldLink RX10 26 "DipLightsModel" "readAge" "[I" ∈ lw_tbl := ax_in7 (List.mem_of_getElem? (i := 8) rfl)
theorem wd_1615 : Cond.fieldLink RX10 29 "DipLightsModel" "age" "[I" ∈ lw_tbl := ax_in7 (List.mem_of_getElem? (i := 9) rfl)
theorem wd_1616 : Cond.fieldLink RX10 32 "DipLightsModel" "readBend" "[I" ∈ lw_tbl := ax_in7 (List.mem_of_getElem? (i := 10) rfl)
theorem wd_1617 : Cond.fieldLink RX10 35 "DipLightsModel" "bend" "[I" ∈ lw_tbl := ax_in7 (List.mem_of_getElem? (i := 11) rfl)
theorem wd_1618 : Cond.fieldLink RX10 38 "DipLightsModel" "readState" "[I" ∈ lw_tbl := ax_in7 (List.mem_of_getElem? (i := 12) rfl)
theorem wd_1619 : Cond.fieldLink RX10 41 "DipLightsModel" "state" "[I" ∈ lw_tbl := ax_in7 (List.mem_of_getElem? (i := 13) rfl)
theorem wd_1620 : Cond.fieldLink RX10 46 "DipLightsModel" "readWet" "[[I" ∈ lw_tbl := ax_in7 (List.mem_of_getElem? (i := 14) rfl)
theorem wd_1621 : Cond.fieldLink RX10 49 "DipLightsModel" "wet" "[[I" ∈ lw_tbl := ax_in7 (List.mem_of_getElem? (i := 15) rfl)
theorem wd_1622 : Cond.fieldLink RX10 129 "DipLightsModel" "readLength" "Z" ∈ lw_tbl := ax_in7 (List.mem_of_getElem? (i := 16) rfl)
theorem wd_1623 : Cond.fieldLink RX10 52 "DipLightsModel" "lawMany" "[I" ∈ lw_tbl := ax_in7 (List.mem_of_getElem? (i := 17) rfl)
theorem wd_1624 : Cond.fieldLink RX10 238 "DipLightsModel" "readLawMany" "I" ∈ lw_tbl := ax_in7 (List.mem_of_getElem? (i := 18) rfl)
theorem wd_1625 : Cond.fieldLink RX10 55 "DipLightsModel" "law" "[[I" ∈ lw_tbl := ax_in7 (List.mem_of_getElem? (i := 19) rfl)
theorem wd_1626 : Cond.fieldLink RX10 58 "DipLightsModel" "readLaw" "[I" ∈ lw_tbl := ax_in7 (List.mem_of_getElem? (i := 20) rfl)
theorem wd_1627 : Cond.fieldLink RX10 61 "DipLightsModel" "stack" "[I" ∈ lw_tbl := ax_in7 (List.mem_of_getElem? (i := 21) rfl)
theorem wd_1628 : Cond.fieldLink RX10 64 "DipLightsModel" "known" "[I" ∈ lw_tbl := ax_in7 (List.mem_of_getElem? (i := 22) rfl)
theorem wd_1629 : Cond.fieldLink RX10 67 "DipLightsModel" "book" "[[I" ∈ lw_tbl := ax_in7 (List.mem_of_getElem? (i := 23) rfl)
theorem wd_1630 : Cond.fieldLink RX10 70 "DipLightsModel" "readBook" "[[I" ∈ lw_tbl := ax_in7 (List.mem_of_getElem? (i := 24) rfl)
theorem wd_1631 : Cond.fieldLink RX10 73 "DipLightsModel" "before" "[[I" ∈ lw_tbl := ax_in7 (List.mem_of_getElem? (i := 25) rfl)
theorem wd_1632 : Cond.fieldLink RX10 76 "DipLightsModel" "kept" "[[I" ∈ lw_tbl := ax_in7 (List.mem_of_getElem? (i := 26) rfl)
theorem wd_1633 : Cond.fieldLink RX10 229 "DipLightsModel" "lines" "I" ∈ lw_tbl := ax_in7 (List.mem_of_getElem? (i := 27) rfl)
theorem wd_1634 : Cond.fieldLink RX10 232 "DipLightsModel" "changes" "I" ∈ lw_tbl := ax_in7 (List.mem_of_getElem? (i := 28) rfl)
theorem wd_1635 : Cond.fieldLink RX10 235 "DipLightsModel" "images" "I" ∈ lw_tbl := ax_in7 (List.mem_of_getElem? (i := 29) rfl)
theorem wd_1636 : Cond.fieldLink RX10 414 "DipLightsModel" "spot" "I" ∈ lw_tbl := ax_in7 (List.mem_of_getElem? (i := 30) rfl)
theorem wd_1637 : Cond.fieldLink RX10 81 "DipLightsModel" "tenth" "[[[I" ∈ lw_tbl := ax_in7 (List.mem_of_getElem? (i := 31) rfl)
theorem wd_1638 : Cond.fieldLink RX10 84 "DipLightsModel" "seenAt" "[[I" ∈ lw_tbl := ax_in7 (List.mem_of_getElem? (i := 32) rfl)
theorem wd_1639 : Cond.fieldLink RX10 87 "DipLightsModel" "seenIn" "[[I" ∈ lw_tbl := ax_in7 (List.mem_of_getElem? (i := 33) rfl)
theorem wd_1640 : Cond.fieldLink RX10 90 "DipLightsModel" "hit" "[I" ∈ lw_tbl := ax_in7 (List.mem_of_getElem? (i := 34) rfl)
theorem wd_1641 : Cond.fieldLink RX10 93 "DipLightsModel" "glare" "[I" ∈ lw_tbl := ax_in7 (List.mem_of_getElem? (i := 35) rfl)
theorem wd_1642 : Cond.fieldLink RX10 96 "DipLightsModel" "cell" "[I" ∈ lw_tbl := ax_in7 (List.mem_of_getElem? (i := 36) rfl)
theorem wd_1643 : Cond.fieldLink RX10 99 "DipLightsModel" "blind" "[I" ∈ lw_tbl := ax_in7 (List.mem_of_getElem? (i := 37) rfl)
theorem wd_1644 : Cond.fieldLink RX10 102 "DipLightsModel" "full" "[I" ∈ lw_tbl := ax_in7 (List.mem_of_getElem? (i := 38) rfl)
theorem wd_1645 : Cond.fieldLink RX10 105 "DipLightsModel" "fullNow" "[I" ∈ lw_tbl := ax_in7 (List.mem_of_getElem? (i := 39) rfl)
theorem wd_1646 : Cond.fieldLink RX10 108 "DipLightsModel" "forced" "[I" ∈ lw_tbl := ax_in7 (List.mem_of_getElem? (i := 40) rfl)
theorem wd_1647 : Cond.fieldLink RX10 294 "DipLightsModel" "tenths" "I" ∈ lw_tbl := ax_in7 (List.mem_of_getElem? (i := 41) rfl)
theorem wd_1648 : Cond.fieldLink RX10 297 "DipLightsModel" "passedIn" "I" ∈ lw_tbl := ax_in7 (List.mem_of_getElem? (i := 42) rfl)
theorem wd_1649 : Cond.fieldLink RX10 111 "DipLightsModel" "costs" "[[[I" ∈ lw_tbl := ax_in7 (List.mem_of_getElem? (i := 43) rfl)
theorem wd_1650 : Cond.fieldLink RX10 114 "DipLightsModel" "beenAt" "[I" ∈ lw_tbl := ax_in7 (List.mem_of_getElem? (i := 44) rfl)
theorem wd_1651 : Cond.fieldLink RX10 117 "DipLightsModel" "fullBy" "[I" ∈ lw_tbl := ax_in7 (List.mem_of_getElem? (i := 45) rfl)
theorem wd_1652 : Cond.fieldLink RX10 120 "DipLightsModel" "asWas" "[I" ∈ lw_tbl := ax_in7 (List.mem_of_getElem? (i := 46) rfl)
theorem wd_1653 : Cond.fieldLink RX10 398 "DipLightsModel" "coatsWere" "I" ∈ lw_tbl := ax_in7 (List.mem_of_getElem? (i := 47) rfl)
theorem wd_1761 : Cond.methodLink RL 152 yX10_thrown ∈ lw_tbl := ax_in7 (List.mem_of_getElem? (i := 155) rfl)
theorem wd_1765 : Cond.methodLink RL 145 yX10_feed ∈ lw_tbl := ax_in7 (List.mem_of_getElem? (i := 159) rfl)
theorem wd_1769 : Cond.methodLink RL 151 yX10_road ∈ lw_tbl := ax_in7 (List.mem_of_getElem? (i := 163) rfl)
theorem wd_1773 : Cond.methodLink RX10 167 yX10_in ∈ lw_tbl := ax_in7 (List.mem_of_getElem? (i := 167) rfl)
theorem wd_1776 : Cond.methodLink RX10 212 yX10_bad ∈ lw_tbl := ax_in7 (List.mem_of_getElem? (i := 170) rfl)
theorem wd_1780 : Cond.methodLink RX10 216 yX10_starts ∈ lw_tbl := ax_in7 (List.mem_of_getElem? (i := 174) rfl)
theorem wd_1784 : Cond.methodLink RX10 155 yX10_blanks ∈ lw_tbl := ax_in7 (List.mem_of_getElem? (i := 178) rfl)
theorem wd_1788 : Cond.methodLink RX10 145 yX10_byteAt ∈ lw_tbl := ax_in7 (List.mem_of_getElem? (i := 182) rfl)
theorem wd_1792 : Cond.methodLink RX10 219 yX10_clause ∈ lw_tbl := ax_in7 (List.mem_of_getElem? (i := 186) rfl)
theorem wd_1796 : Cond.methodLink RX10 199 yX10_kindHere ∈ lw_tbl := ax_in7 (List.mem_of_getElem? (i := 190) rfl)
theorem wd_1800 : Cond.methodLink RX10 182 yX10_isWord ∈ lw_tbl := ax_in7 (List.mem_of_getElem? (i := 194) rfl)
theorem wd_1804 : Cond.methodLink RX10 174 yX10_wordHere ∈ lw_tbl := ax_in7 (List.mem_of_getElem? (i := 198) rfl)
theorem wd_1808 : Cond.methodLink RX10 171 yX10_isSmall ∈ lw_tbl := ax_in7 (List.mem_of_getElem? (i := 202) rfl)
theorem wd_1811 : Cond.methodLink RX10 178 yX10_six ∈ lw_tbl := ax_in7 (List.mem_of_getElem? (i := 205) rfl)
theorem wd_1814 : Cond.methodLink RX10 162 yX10_wrong ∈ lw_tbl := ax_in7 (List.mem_of_getElem? (i := 208) rfl)
theorem wd_1818 : Cond.methodLink RX10 202 yX10_isFull ∈ lw_tbl := ax_in7 (List.mem_of_getElem? (i := 212) rfl)
theorem wd_1822 : Cond.methodLink RX10 186 yX10_skipWord ∈ lw_tbl := ax_in7 (List.mem_of_getElem? (i := 216) rfl)
theorem wd_1826 : Cond.methodLink RX10 195 yX10_number ∈ lw_tbl := ax_in7 (List.mem_of_getElem? (i := 220) rfl)
theorem wd_1830 : Cond.methodLink RX10 158 yX10_isDigit ∈ lw_tbl := ax_in7 (List.mem_of_getElem? (i := 224) rfl)
theorem wd_1833 : Cond.constant RX10 166 (100000) ∈ lw_tbl := ax_in7 (List.mem_of_getElem? (i := 227) rfl)
theorem wd_1834 : Cond.methodLink RX10 205 yX10_cellHere ∈ lw_tbl := ax_in7 (List.mem_of_getElem? (i := 228) rfl)
theorem wd_1838 : Cond.methodLink RX10 208 yX10_sign ∈ lw_tbl := ax_in7 (List.mem_of_getElem? (i := 232) rfl)
theorem wd_1842 : Cond.methodLink RX10 222 yX10_ends ∈ lw_tbl := ax_in7 (List.mem_of_getElem? (i := 236) rfl)
theorem wd_1846 : Cond.methodLink RL 157 yX10_law ∈ lw_tbl := ax_in8 (List.mem_of_getElem? (i := 0) rfl)
theorem wd_1850 : Cond.methodLink RX10 266 yX10_reads ∈ lw_tbl := ax_in8 (List.mem_of_getElem? (i := 4) rfl)
theorem wd_1854 : Cond.methodLink RX10 260 yX10_sum ∈ lw_tbl := ax_in8 (List.mem_of_getElem? (i := 8) rfl)
theorem wd_1858 : Cond.methodLink RX10 241 yX10_product ∈ lw_tbl := ax_in8 (List.mem_of_getElem? (i := 12) rfl)
theorem wd_1862 : Cond.methodLink RX10 250 yX10_one ∈ lw_tbl := ax_in8 (List.mem_of_getElem? (i := 16) rfl)
theorem wd_1866 : Cond.methodLink RX10 256 yX10_opens ∈ lw_tbl := ax_in8 (List.mem_of_getElem? (i := 20) rfl)
theorem wd_1870 : Cond.methodLink RX10 247 yX10_notes ∈ lw_tbl := ax_in8 (List.mem_of_getElem? (i := 24) rfl)
theorem wd_1874 : Cond.methodLink RX10 263 yX10_knownHere ∈ lw_tbl := ax_in8 (List.mem_of_getElem? (i := 28) rfl)
theorem wd_1878 : Cond.methodLink RX10 253 yX10_takes ∈ lw_tbl := ax_in8 (List.mem_of_getElem? (i := 32) rfl)
theorem wd_1882 : Cond.methodLink RX10 244 yX10_takesSign ∈ lw_tbl := ax_in8 (List.mem_of_getElem? (i := 36) rfl)
theorem wd_1886 : Cond.methodLink RL 161 yX10_rule ∈ lw_tbl := ax_in8 (List.mem_of_getElem? (i := 40) rfl)
theorem wd_1890 : Cond.methodLink RL 164 yX10_book ∈ lw_tbl := ax_in8 (List.mem_of_getElem? (i := 44) rfl)
theorem wd_1894 : Cond.methodLink RL 168 yX10_fault ∈ lw_tbl := ax_in8 (List.mem_of_getElem? (i := 48) rfl)
theorem wd_1898 : Cond.methodLink RL 171 yX10_told ∈ lw_tbl := ax_in8 (List.mem_of_getElem? (i := 52) rfl)
theorem wd_1902 : Cond.methodLink RX10 307 yX10_isBendBetween ∈ lw_tbl := ax_in8 (List.mem_of_getElem? (i := 56) rfl)
theorem wd_1906 : Cond.methodLink RX10 269 yX10_less ∈ lw_tbl := ax_in8 (List.mem_of_getElem? (i := 60) rfl)
theorem wd_1909 : Cond.methodLink RX10 272 yX10_more ∈ lw_tbl := ax_in8 (List.mem_of_getElem? (i := 63) rfl)
theorem wd_1912 : Cond.methodLink RX10 285 yX10_isWet ∈ lw_tbl := ax_in8 (List.mem_of_getElem? (i := 66) rfl)
theorem wd_1916 : Cond.methodLink RL 174 yX10_car ∈ lw_tbl := ax_in8 (List.mem_of_getElem? (i := 70) rfl)
theorem wd_1920 : Cond.methodLink RX10 343 yX10_isCar ∈ lw_tbl := ax_in8 (List.mem_of_getElem? (i := 74) rfl)
theorem wd_1924 : Cond.methodLink RX10 282 yX10_paceOf ∈ lw_tbl := ax_in8 (List.mem_of_getElem? (i := 78) rfl)
theorem wd_1928 : Cond.methodLink RX10 288 yX10_tiltOf ∈ lw_tbl := ax_in8 (List.mem_of_getElem? (i := 82) rfl)
theorem wd_1932 : Cond.methodLink RL 177 yX10_coat ∈ lw_tbl := ax_in8 (List.mem_of_getElem? (i := 86) rfl)
theorem wd_1936 : Cond.methodLink RX10 346 yX10_isCoat ∈ lw_tbl := ax_in8 (List.mem_of_getElem? (i := 90) rfl)
theorem wd_1940 : Cond.methodLink RL 181 yX10_tenths ∈ lw_tbl := ax_in8 (List.mem_of_getElem? (i := 94) rfl)
theorem wd_1944 : Cond.methodLink RX10 349 yX10_asTold ∈ lw_tbl := ax_in8 (List.mem_of_getElem? (i := 98) rfl)
theorem wd_1948 : Cond.methodLink RX10 334 yX10_meets ∈ lw_tbl := ax_in8 (List.mem_of_getElem? (i := 102) rfl)
theorem wd_1952 : Cond.methodLink RX10 300 yX10_isOn ∈ lw_tbl := ax_in8 (List.mem_of_getElem? (i := 106) rfl)
theorem wd_1956 : Cond.methodLink RX10 303 yX10_goesTenth ∈ lw_tbl := ax_in8 (List.mem_of_getElem? (i := 110) rfl)
theorem wd_1960 : Cond.methodLink RX10 311 yX10_knows ∈ lw_tbl := ax_in8 (List.mem_of_getElem? (i := 114) rfl)
theorem wd_1964 : Cond.methodLink RX10 291 yX10_far ∈ lw_tbl := ax_in8 (List.mem_of_getElem? (i := 118) rfl)
theorem wd_1967 : Cond.methodLink RX10 315 yX10_beamsBy ∈ lw_tbl := ax_in8 (List.mem_of_getElem? (i := 121) rfl)
theorem wd_1971 : Cond.methodLink RX10 279 yX10_worked ∈ lw_tbl := ax_in8 (List.mem_of_getElem? (i := 125) rfl)
theorem wd_1975 : Cond.methodLink RX10 275 yX10_by ∈ lw_tbl := ax_in8 (List.mem_of_getElem? (i := 129) rfl)
theorem wd_1978 : Cond.methodLink RX10 318 yX10_blindsFor ∈ lw_tbl := ax_in8 (List.mem_of_getElem? (i := 132) rfl)
theorem wd_1982 : Cond.methodLink RX10 321 yX10_looksOut ∈ lw_tbl := ax_in8 (List.mem_of_getElem? (i := 136) rfl)
theorem wd_1986 : Cond.methodLink RX10 328 yX10_sightBy ∈ lw_tbl := ax_in8 (List.mem_of_getElem? (i := 140) rfl)
theorem wd_1990 : Cond.methodLink RX10 331 yX10_stopOf ∈ lw_tbl := ax_in8 (List.mem_of_getElem? (i := 144) rfl)
theorem wd_1994 : Cond.methodLink RX10 325 yX10_leaves ∈ lw_tbl := ax_in8 (List.mem_of_getElem? (i := 148) rfl)
theorem wd_1998 : Cond.methodLink RL 185 yX10_at ∈ lw_tbl := ax_in8 (List.mem_of_getElem? (i := 152) rfl)
theorem wd_2002 : Cond.methodLink RL 189 yX10_passes ∈ lw_tbl := ax_in8 (List.mem_of_getElem? (i := 156) rfl)
theorem wd_2006 : Cond.methodLink RL 192 yX10_hits ∈ lw_tbl := ax_in8 (List.mem_of_getElem? (i := 160) rfl)
theorem wd_2010 : Cond.methodLink RL 195 yX10_sees ∈ lw_tbl := ax_in8 (List.mem_of_getElem? (i := 164) rfl)
theorem wd_2014 : Cond.methodLink RL 198 yX10_sums ∈ lw_tbl := ax_in8 (List.mem_of_getElem? (i := 168) rfl)
theorem wd_2018 : Cond.methodLink RX10 340 yX10_unsafeOf ∈ lw_tbl := ax_in8 (List.mem_of_getElem? (i := 172) rfl)
theorem wd_2022 : Cond.methodLink RL 202 yX10_would ∈ lw_tbl := ax_in8 (List.mem_of_getElem? (i := 176) rfl)
theorem wd_2026 : Cond.methodLink RL 205 yX10_cost ∈ lw_tbl := ax_in8 (List.mem_of_getElem? (i := 180) rfl)
theorem wd_2030 : Cond.methodLink RX10 355 yX10_notTwo ∈ lw_tbl := ax_in8 (List.mem_of_getElem? (i := 184) rfl)
theorem wd_2034 : Cond.methodLink RX10 358 yX10_costBy ∈ lw_tbl := ax_in8 (List.mem_of_getElem? (i := 188) rfl)
theorem wd_2038 : Cond.methodLink RX10 352 yX10_costOf ∈ lw_tbl := ax_in8 (List.mem_of_getElem? (i := 192) rfl)
theorem wd_2042 : Cond.methodLink RX10 337 yX10_ones ∈ lw_tbl := ax_in8 (List.mem_of_getElem? (i := 196) rfl)
theorem wd_2045 : Cond.methodLink RL 208 yX10_duel ∈ lw_tbl := ax_in8 (List.mem_of_getElem? (i := 199) rfl)
theorem wd_2049 : Cond.methodLink RX10 361 yX10_isRest ∈ lw_tbl := ax_in8 (List.mem_of_getElem? (i := 203) rfl)
theorem wd_2053 : Cond.methodLink RL 211 yX10_answer ∈ lw_tbl := ax_in8 (List.mem_of_getElem? (i := 207) rfl)
theorem wd_2057 : Cond.methodLink RL 214 yX10_habit ∈ lw_tbl := ax_in8 (List.mem_of_getElem? (i := 211) rfl)
theorem wd_2061 : Cond.methodLink RX10 364 yX10_habitBehind ∈ lw_tbl := ax_in8 (List.mem_of_getElem? (i := 215) rfl)
theorem wd_2065 : Cond.methodLink RL 217 yX10_safe ∈ lw_tbl := ax_in8 (List.mem_of_getElem? (i := 219) rfl)
theorem wd_2069 : Cond.methodLink RL 220 yX10_loaded ∈ lw_tbl := ax_in8 (List.mem_of_getElem? (i := 223) rfl)
theorem wd_2073 : Cond.constantLong RX10 367 (12) ∈ lw_tbl := ax_in8 (List.mem_of_getElem? (i := 227) rfl)
theorem wd_2074 : Cond.methodLink RX10 369 yX10_power ∈ lw_tbl := ax_in8 (List.mem_of_getElem? (i := 228) rfl)
theorem wd_2077 : Cond.constantLong RX10 373 (4) ∈ lw_tbl := ax_in8 (List.mem_of_getElem? (i := 231) rfl)
theorem wd_2078 : Cond.constantLong RX10 375 (5) ∈ lw_tbl := ax_in8 (List.mem_of_getElem? (i := 232) rfl)
theorem wd_2079 : Cond.constantLong RX10 377 (11) ∈ lw_tbl := ax_in8 (List.mem_of_getElem? (i := 233) rfl)
theorem wd_2080 : Cond.methodLink RL 223 yX10_blinds ∈ lw_tbl := ax_in8 (List.mem_of_getElem? (i := 234) rfl)
theorem wd_2084 : Cond.methodLink RL 226 yX10_old ∈ lw_tbl := ax_in8 (List.mem_of_getElem? (i := 238) rfl)
theorem wd_2088 : Cond.methodLink RL 229 yX10_between ∈ lw_tbl := ax_in9 (List.mem_of_getElem? (i := 2) rfl)
theorem wd_2092 : Cond.methodLink RL 232 yX10_gets ∈ lw_tbl := ax_in9 (List.mem_of_getElem? (i := 6) rfl)
theorem wd_2096 : Cond.methodLink RX10 379 yX10_getsBy ∈ lw_tbl := ax_in9 (List.mem_of_getElem? (i := 10) rfl)
theorem wd_2099 : Cond.methodLink RL 235 yX10_bulbs ∈ lw_tbl := ax_in9 (List.mem_of_getElem? (i := 13) rfl)
theorem wd_2103 : Cond.methodLink RX10 382 yX10_isBright ∈ lw_tbl := ax_in9 (List.mem_of_getElem? (i := 17) rfl)
theorem wd_2106 : Cond.methodLink RL 239 yX10_distances ∈ lw_tbl := ax_in9 (List.mem_of_getElem? (i := 20) rfl)
theorem wd_2110 : Cond.methodLink RX10 391 yX10_distancesNow ∈ lw_tbl := ax_in9 (List.mem_of_getElem? (i := 24) rfl)
theorem wd_2114 : Cond.methodLink RX10 388 yX10_rightLines ∈ lw_tbl := ax_in9 (List.mem_of_getElem? (i := 28) rfl)
theorem wd_2118 : Cond.methodLink RX10 385 yX10_isLine ∈ lw_tbl := ax_in9 (List.mem_of_getElem? (i := 32) rfl)
theorem wd_2122 : Cond.methodLink RL 242 yX10_look ∈ lw_tbl := ax_in9 (List.mem_of_getElem? (i := 36) rfl)
theorem wd_2126 : Cond.methodLink RX10 395 yX10_isInBook ∈ lw_tbl := ax_in9 (List.mem_of_getElem? (i := 40) rfl)
theorem wd_2130 : Cond.methodLink RL 245 yX10_right ∈ lw_tbl := ax_in9 (List.mem_of_getElem? (i := 44) rfl)
theorem wd_2134 : Cond.methodLink RL 248 yX10_nights ∈ lw_tbl := ax_in9 (List.mem_of_getElem? (i := 48) rfl)
theorem wd_2138 : Cond.methodLink RX10 401 yX10_puts ∈ lw_tbl := ax_in9 (List.mem_of_getElem? (i := 52) rfl)
theorem wd_2142 : Cond.constant RX10 404 (1103515245) ∈ lw_tbl := ax_in9 (List.mem_of_getElem? (i := 56) rfl)
theorem wd_2143 : Cond.methodLink RX10 405 yX10_putsBack ∈ lw_tbl := ax_in9 (List.mem_of_getElem? (i := 57) rfl)
theorem wd_2147 : Cond.methodLink RL 251 yX10_darkest ∈ lw_tbl := ax_in9 (List.mem_of_getElem? (i := 61) rfl)
theorem wd_2151 : Cond.methodLink RX10 408 yX10_hitAlone ∈ lw_tbl := ax_in9 (List.mem_of_getElem? (i := 65) rfl)
theorem wd_2155 : Cond.methodLink RL 254 yX10_dark ∈ lw_tbl := ax_in9 (List.mem_of_getElem? (i := 69) rfl)
theorem wd_2159 : Cond.methodLink RL 263 yX10_needs ∈ lw_tbl := ax_in9 (List.mem_of_getElem? (i := 73) rfl)
theorem wd_2163 : Cond.methodLink RL 257 yX10_dips ∈ lw_tbl := ax_in9 (List.mem_of_getElem? (i := 77) rfl)
theorem wd_2167 : Cond.methodLink RL 260 yX10_gap ∈ lw_tbl := ax_in9 (List.mem_of_getElem? (i := 81) rfl)
theorem wd_2171 : Cond.methodLink RL 266 yX10_clear ∈ lw_tbl := ax_in9 (List.mem_of_getElem? (i := 85) rfl)
theorem wd_2175 : Cond.methodLink RL 269 yX10_paces ∈ lw_tbl := ax_in9 (List.mem_of_getElem? (i := 89) rfl)
theorem wd_2179 : Cond.methodLink RL 272 yX10_finds ∈ lw_tbl := ax_in9 (List.mem_of_getElem? (i := 93) rfl)
theorem wd_2183 : Cond.methodLink RL 275 yX10_drives ∈ lw_tbl := ax_in9 (List.mem_of_getElem? (i := 97) rfl)
theorem wd_2187 : Cond.methodLink RX10 411 yX10_changed ∈ lw_tbl := ax_in9 (List.mem_of_getElem? (i := 101) rfl)
theorem wd_2191 : Cond.methodLink RL 278 yX10_stands ∈ lw_tbl := ax_in9 (List.mem_of_getElem? (i := 105) rfl)
theorem wd_2195 : Cond.methodLink RL 281 yX10_weather ∈ lw_tbl := ax_in9 (List.mem_of_getElem? (i := 109) rfl)
theorem wd_2199 : Cond.methodLink RL 285 yX10_undo ∈ lw_tbl := ax_in9 (List.mem_of_getElem? (i := 113) rfl)
theorem wd_2203 : Cond.methodLink RL 289 yX10_image ∈ lw_tbl := ax_in9 (List.mem_of_getElem? (i := 117) rfl)
theorem wd_2207 : Cond.methodLink RX10 421 yX10_spotsAll ∈ lw_tbl := ax_in9 (List.mem_of_getElem? (i := 121) rfl)
theorem wd_2211 : Cond.methodLink RX10 417 yX10_spots ∈ lw_tbl := ax_in9 (List.mem_of_getElem? (i := 125) rfl)
theorem wd_2215 : Cond.methodLink RL 293 yX10_restore ∈ lw_tbl := ax_in9 (List.mem_of_getElem? (i := 129) rfl)
theorem wd_2219 : Cond.methodLink RL 297 yX10_status ∈ lw_tbl := ax_in9 (List.mem_of_getElem? (i := 133) rfl)
theorem wd_2223 : Cond.methodLink RL 301 yX10_count ∈ lw_tbl := ax_in9 (List.mem_of_getElem? (i := 137) rfl)
theorem wd_2227 : Cond.arrayClass .long ∈ lw_tbl := ax_in9 (List.mem_of_getElem? (i := 141) rfl)
end
section
theorem acl_0 : ax_cls 0 RX0 TX0 3 := ⟨rfl, by decide +kernel, by decide +kernel, nmX0, by decide +kernel⟩
theorem acl_1 : ax_cls 1 RX1 TX1 8 := ⟨rfl, by decide +kernel, by decide +kernel, nmX1, by decide +kernel⟩
theorem acl_2 : ax_cls 2 RX2 TX2 3 := ⟨rfl, by decide +kernel, by decide +kernel, nmX2, by decide +kernel⟩
theorem acl_3 : ax_cls 3 RX3 TX3 2 := ⟨rfl, by decide +kernel, by decide +kernel, nmX3, by decide +kernel⟩
theorem acl_4 : ax_cls 4 RX4 TX4 5 := ⟨rfl, by decide +kernel, by decide +kernel, nmX4, by decide +kernel⟩
theorem acl_5 : ax_cls 5 RX5 TX5 17 := ⟨rfl, by decide +kernel, by decide +kernel, nmX5, by decide +kernel⟩
theorem acl_6 : ax_cls 6 RX6 TX6 9 := ⟨rfl, by decide +kernel, by decide +kernel, nmX6, by decide +kernel⟩
theorem acl_7 : ax_cls 7 RX7 TX7 5 := ⟨rfl, by decide +kernel, by decide +kernel, nmX7, by decide +kernel⟩
theorem acl_8 : ax_cls 8 RX8 TX8 16 := ⟨rfl, by decide +kernel, by decide +kernel, nmX8, by decide +kernel⟩
theorem acl_9 : ax_cls 9 RX9 TX9 15 := ⟨rfl, by decide +kernel, by decide +kernel, nmX9, by decide +kernel⟩
theorem acl_10 : ax_cls 10 RX10 TX10 53 := ⟨rfl, by decide +kernel, by decide +kernel, nmX10, by decide +kernel⟩
theorem wd_obi : Cond.instanceMethod Lib.objectInit ∈ lw_tbl := ax_in1 (List.mem_of_getElem? (i := 31) rfl)
theorem wd_obc : Cond.code Lib.objectInit ⟨#[0xb1]⟩ 1 none ∈ lw_tbl := ax_in1 (List.mem_of_getElem? (i := 32) rfl)
theorem wd_maxs : Cond.static Lib.Math.max.name ∈ lw_tbl := ax_in2 (List.mem_of_getElem? (i := 239) rfl)
theorem wd_maxc : Cond.code Lib.Math.max.name Lib.Math.max.code 2 (some .int) ∈ lw_tbl := ax_in3 (List.mem_of_getElem? (i := 0) rfl)
theorem wd_mins : Cond.static Lib.Math.min.name ∈ lw_tbl := ax_in2 (List.mem_of_getElem? (i := 236) rfl)
theorem wd_minc : Cond.code Lib.Math.min.name Lib.Math.min.code 2 (some .int) ∈ lw_tbl := ax_in2 (List.mem_of_getElem? (i := 237) rfl)
abbrev kX0_init : ax_K := (yX0_init, cX0_init, 1, none)
theorem mX0_init : ax_mi kX0_init 0 := ⟨⟨wd_172, ax_in1 (List.mem_of_getElem? (i := 227) rfl), by decide +kernel, by decide +kernel, by decide⟩, ax_in1 (List.mem_of_getElem? (i := 226) rfl), rfl⟩
abbrev kX0_readFrom : ax_K := (yX0_readFrom, cX0_readFrom, 3, (some .boolean))
theorem mX0_readFrom : ax_mv kX0_readFrom 1 := ⟨⟨wd_172, ax_in4 (List.mem_of_getElem? (i := 214) rfl), by decide +kernel, by decide +kernel, by decide⟩, ax_in4 (List.mem_of_getElem? (i := 213) rfl), ax_ps4 (List.mem_of_getElem? (i := 15) rfl)⟩
abbrev kX0_readLine : ax_K := (yX0_readLine, cX0_readLine, 4, (some .boolean))
theorem mX0_readLine : ax_mv kX0_readLine 1 := ⟨⟨wd_172, ax_in4 (List.mem_of_getElem? (i := 218) rfl), by decide +kernel, by decide +kernel, by decide⟩, ax_in4 (List.mem_of_getElem? (i := 217) rfl), ax_ps5 (List.mem_of_getElem? (i := 0) rfl)⟩
abbrev kX0_tells : ax_K := (yX0_tells, cX0_tells, 3, (some .boolean))
theorem mX0_tells : ax_mv kX0_tells 1 := ⟨⟨wd_172, ax_in4 (List.mem_of_getElem? (i := 223) rfl), by decide +kernel, by decide +kernel, by decide⟩, ax_in4 (List.mem_of_getElem? (i := 222) rfl), ax_ps5 (List.mem_of_getElem? (i := 1) rfl)⟩
abbrev kX1_init : ax_K := (yX1_init, cX1_init, 1, none)
theorem mX1_init : ax_mi kX1_init 0 := ⟨⟨wd_176, ax_in2 (List.mem_of_getElem? (i := 110) rfl), by decide +kernel, by decide +kernel, by decide⟩, ax_in2 (List.mem_of_getElem? (i := 109) rfl), rfl⟩
abbrev kX1_forgetAll : ax_K := (yX1_forgetAll, cX1_forgetAll, 1, none)
theorem mX1_forgetAll : ax_mv kX1_forgetAll 0 := ⟨⟨wd_176, ax_in4 (List.mem_of_getElem? (i := 118) rfl), by decide +kernel, by decide +kernel, by decide⟩, ax_in4 (List.mem_of_getElem? (i := 117) rfl), ax_ps4 (List.mem_of_getElem? (i := 7) rfl)⟩
abbrev kX1_make : ax_K := (yX1_make, cX1_make, 6, (some .boolean))
theorem mX1_make : ax_mv kX1_make 5 := ⟨⟨wd_176, ax_in6 (List.mem_of_getElem? (i := 194) rfl), by decide +kernel, by decide +kernel, by decide⟩, ax_in6 (List.mem_of_getElem? (i := 193) rfl), ax_ps7 (List.mem_of_getElem? (i := 9) rfl)⟩
abbrev kX1_takeBack : ax_K := (yX1_takeBack, cX1_takeBack, 2, (some .boolean))
theorem mX1_takeBack : ax_mv kX1_takeBack 1 := ⟨⟨wd_176, ax_in3 (List.mem_of_getElem? (i := 91) rfl), by decide +kernel, by decide +kernel, by decide⟩, ax_in3 (List.mem_of_getElem? (i := 90) rfl), ax_ps2 (List.mem_of_getElem? (i := 14) rfl)⟩
abbrev kX1_firstOf : ax_K := (yX1_firstOf, cX1_firstOf, 3, (some .int))
theorem mX1_firstOf : ax_ms kX1_firstOf 3 := ⟨⟨wd_176, ax_in6 (List.mem_of_getElem? (i := 197) rfl), by decide +kernel, by decide +kernel, by decide⟩, ax_in6 (List.mem_of_getElem? (i := 196) rfl)⟩
abbrev kX1_secondOf : ax_K := (yX1_secondOf, cX1_secondOf, 3, (some .int))
theorem mX1_secondOf : ax_ms kX1_secondOf 3 := ⟨⟨wd_176, ax_in6 (List.mem_of_getElem? (i := 200) rfl), by decide +kernel, by decide +kernel, by decide⟩, ax_in6 (List.mem_of_getElem? (i := 199) rfl)⟩
abbrev kX1_put : ax_K := (yX1_put, cX1_put, 5, none)
theorem mX1_put : ax_ms kX1_put 5 := ⟨⟨wd_176, ax_in3 (List.mem_of_getElem? (i := 94) rfl), by decide +kernel, by decide +kernel, by decide⟩, ax_in3 (List.mem_of_getElem? (i := 93) rfl)⟩
abbrev kX1_keepImage : ax_K := (yX1_keepImage, cX1_keepImage, 4, (some .boolean))
theorem mX1_keepImage : ax_mv kX1_keepImage 1 := ⟨⟨wd_176, ax_in3 (List.mem_of_getElem? (i := 106) rfl), by decide +kernel, by decide +kernel, by decide⟩, ax_in3 (List.mem_of_getElem? (i := 105) rfl), ax_ps3 (List.mem_of_getElem? (i := 0) rfl)⟩
abbrev kX1_bringBack : ax_K := (yX1_bringBack, cX1_bringBack, 4, (some .boolean))
theorem mX1_bringBack : ax_mv kX1_bringBack 1 := ⟨⟨wd_176, ax_in3 (List.mem_of_getElem? (i := 120) rfl), by decide +kernel, by decide +kernel, by decide⟩, ax_in3 (List.mem_of_getElem? (i := 119) rfl), ax_ps3 (List.mem_of_getElem? (i := 1) rfl)⟩
abbrev kX1_copyTo : ax_K := (yX1_copyTo, cX1_copyTo, 3, (some .int))
theorem mX1_copyTo : ax_ms kX1_copyTo 3 := ⟨⟨wd_176, ax_in3 (List.mem_of_getElem? (i := 109) rfl), by decide +kernel, by decide +kernel, by decide⟩, ax_in3 (List.mem_of_getElem? (i := 108) rfl)⟩
abbrev kX1_copyFrom : ax_K := (yX1_copyFrom, cX1_copyFrom, 3, (some .int))
theorem mX1_copyFrom : ax_ms kX1_copyFrom 3 := ⟨⟨wd_176, ax_in3 (List.mem_of_getElem? (i := 123) rfl), by decide +kernel, by decide +kernel, by decide⟩, ax_in3 (List.mem_of_getElem? (i := 122) rfl)⟩
abbrev kX2_init : ax_K := (yX2_init, cX2_init, 1, none)
theorem mX2_init : ax_mi kX2_init 0 := ⟨⟨wd_171, ax_in1 (List.mem_of_getElem? (i := 171) rfl), by decide +kernel, by decide +kernel, by decide⟩, ax_in1 (List.mem_of_getElem? (i := 170) rfl), rfl⟩
abbrev kX2_add : ax_K := (yX2_add, cX2_add, 2, none)
theorem mX2_add : ax_mv kX2_add 1 := ⟨⟨wd_171, ax_in1 (List.mem_of_getElem? (i := 194) rfl), by decide +kernel, by decide +kernel, by decide⟩, ax_in1 (List.mem_of_getElem? (i := 193) rfl), ax_ps1 (List.mem_of_getElem? (i := 2) rfl)⟩
abbrev kX2_becomeUsualLaw : ax_K := (yX2_becomeUsualLaw, cX2_becomeUsualLaw, 1, none)
theorem mX2_becomeUsualLaw : ax_mv kX2_becomeUsualLaw 0 := ⟨⟨wd_171, ax_in1 (List.mem_of_getElem? (i := 190) rfl), by decide +kernel, by decide +kernel, by decide⟩, ax_in1 (List.mem_of_getElem? (i := 189) rfl), ax_ps1 (List.mem_of_getElem? (i := 1) rfl)⟩
abbrev kX2_becomeUsualRule : ax_K := (yX2_becomeUsualRule, cX2_becomeUsualRule, 1, none)
theorem mX2_becomeUsualRule : ax_mv kX2_becomeUsualRule 0 := ⟨⟨wd_171, ax_in1 (List.mem_of_getElem? (i := 198) rfl), by decide +kernel, by decide +kernel, by decide⟩, ax_in1 (List.mem_of_getElem? (i := 197) rfl), ax_ps1 (List.mem_of_getElem? (i := 3) rfl)⟩
abbrev kX2_readFrom : ax_K := (yX2_readFrom, cX2_readFrom, 2, (some .boolean))
theorem mX2_readFrom : ax_mv kX2_readFrom 1 := ⟨⟨wd_171, ax_in4 (List.mem_of_getElem? (i := 129) rfl), by decide +kernel, by decide +kernel, by decide⟩, ax_in4 (List.mem_of_getElem? (i := 128) rfl), ax_ps4 (List.mem_of_getElem? (i := 8) rfl)⟩
abbrev kX2_readSum : ax_K := (yX2_readSum, cX2_readSum, 5, (some .boolean))
theorem mX2_readSum : ax_mv kX2_readSum 2 := ⟨⟨wd_171, ax_in4 (List.mem_of_getElem? (i := 133) rfl), by decide +kernel, by decide +kernel, by decide⟩, ax_in4 (List.mem_of_getElem? (i := 132) rfl), ax_ps4 (List.mem_of_getElem? (i := 9) rfl)⟩
abbrev kX2_readProduct : ax_K := (yX2_readProduct, cX2_readProduct, 5, (some .boolean))
theorem mX2_readProduct : ax_mv kX2_readProduct 2 := ⟨⟨wd_171, ax_in4 (List.mem_of_getElem? (i := 137) rfl), by decide +kernel, by decide +kernel, by decide⟩, ax_in4 (List.mem_of_getElem? (i := 136) rfl), ax_ps4 (List.mem_of_getElem? (i := 10) rfl)⟩
abbrev kX2_readUnit : ax_K := (yX2_readUnit, cX2_readUnit, 7, (some .boolean))
theorem mX2_readUnit : ax_mv kX2_readUnit 2 := ⟨⟨wd_171, ax_in4 (List.mem_of_getElem? (i := 141) rfl), by decide +kernel, by decide +kernel, by decide⟩, ax_in4 (List.mem_of_getElem? (i := 140) rfl), ax_ps4 (List.mem_of_getElem? (i := 11) rfl)⟩
abbrev kX2_readPair : ax_K := (yX2_readPair, cX2_readPair, 4, (some .boolean))
theorem mX2_readPair : ax_mv kX2_readPair 3 := ⟨⟨wd_171, ax_in4 (List.mem_of_getElem? (i := 171) rfl), by decide +kernel, by decide +kernel, by decide⟩, ax_in4 (List.mem_of_getElem? (i := 170) rfl), ax_ps4 (List.mem_of_getElem? (i := 12) rfl)⟩
abbrev kX2_variableOf : ax_K := (yX2_variableOf, cX2_variableOf, 1, (some .int))
theorem mX2_variableOf : ax_ms kX2_variableOf 1 := ⟨⟨wd_171, ax_in4 (List.mem_of_getElem? (i := 145) rfl), by decide +kernel, by decide +kernel, by decide⟩, ax_in4 (List.mem_of_getElem? (i := 144) rfl)⟩
abbrev kX2_variableOfMeeting : ax_K := (yX2_variableOfMeeting, cX2_variableOfMeeting, 1, (some .int))
theorem mX2_variableOfMeeting : ax_ms kX2_variableOfMeeting 1 := ⟨⟨wd_171, ax_in4 (List.mem_of_getElem? (i := 155) rfl), by decide +kernel, by decide +kernel, by decide⟩, ax_in4 (List.mem_of_getElem? (i := 154) rfl)⟩
abbrev kX2_valueBy : ax_K := (yX2_valueBy, cX2_valueBy, 5, (some .int))
theorem mX2_valueBy : ax_mv kX2_valueBy 1 := ⟨⟨wd_171, ax_in3 (List.mem_of_getElem? (i := 45) rfl), by decide +kernel, by decide +kernel, by decide⟩, ax_in3 (List.mem_of_getElem? (i := 44) rfl), ax_ps2 (List.mem_of_getElem? (i := 7) rfl)⟩
abbrev kX2_variableBy : ax_K := (yX2_variableBy, cX2_variableBy, 2, (some .int))
theorem mX2_variableBy : ax_ms kX2_variableBy 2 := ⟨⟨wd_171, ax_in3 (List.mem_of_getElem? (i := 51) rfl), by decide +kernel, by decide +kernel, by decide⟩, ax_in3 (List.mem_of_getElem? (i := 50) rfl)⟩
abbrev kX2_joined : ax_K := (yX2_joined, cX2_joined, 3, (some .int))
theorem mX2_joined : ax_ms kX2_joined 3 := ⟨⟨wd_171, ax_in3 (List.mem_of_getElem? (i := 48) rfl), by decide +kernel, by decide +kernel, by decide⟩, ax_in3 (List.mem_of_getElem? (i := 47) rfl)⟩
abbrev kX3_init : ax_K := (yX3_init, cX3_init, 1, none)
theorem mX3_init : ax_mi kX3_init 0 := ⟨⟨wd_175, ax_in2 (List.mem_of_getElem? (i := 97) rfl), by decide +kernel, by decide +kernel, by decide⟩, ax_in2 (List.mem_of_getElem? (i := 96) rfl), rfl⟩
abbrev kX3_isPair : ax_K := (yX3_isPair, cX3_isPair, 2, (some .boolean))
theorem mX3_isPair : ax_ms kX3_isPair 2 := ⟨⟨wd_175, ax_in5 (List.mem_of_getElem? (i := 189) rfl), by decide +kernel, by decide +kernel, by decide⟩, ax_in5 (List.mem_of_getElem? (i := 188) rfl)⟩
abbrev kX3_put : ax_K := (yX3_put, cX3_put, 5, none)
theorem mX3_put : ax_mv kX3_put 4 := ⟨⟨wd_175, ax_in5 (List.mem_of_getElem? (i := 193) rfl), by decide +kernel, by decide +kernel, by decide⟩, ax_in5 (List.mem_of_getElem? (i := 192) rfl), ax_ps6 (List.mem_of_getElem? (i := 10) rfl)⟩
abbrev kX3_copy : ax_K := (yX3_copy, cX3_copy, 6, none)
theorem mX3_copy : ax_mv kX3_copy 4 := ⟨⟨wd_175, ax_in5 (List.mem_of_getElem? (i := 186) rfl), by decide +kernel, by decide +kernel, by decide⟩, ax_in5 (List.mem_of_getElem? (i := 185) rfl), ax_ps6 (List.mem_of_getElem? (i := 9) rfl)⟩
abbrev kX3_isRest : ax_K := (yX3_isRest, cX3_isRest, 6, (some .boolean))
theorem mX3_isRest : ax_mv kX3_isRest 3 := ⟨⟨wd_175, ax_in5 (List.mem_of_getElem? (i := 202) rfl), by decide +kernel, by decide +kernel, by decide⟩, ax_in5 (List.mem_of_getElem? (i := 201) rfl), ax_ps6 (List.mem_of_getElem? (i := 12) rfl)⟩
abbrev kX3_restsOf : ax_K := (yX3_restsOf, cX3_restsOf, 5, (some .int))
theorem mX3_restsOf : ax_mv kX3_restsOf 1 := ⟨⟨wd_175, ax_in5 (List.mem_of_getElem? (i := 198) rfl), by decide +kernel, by decide +kernel, by decide⟩, ax_in5 (List.mem_of_getElem? (i := 197) rfl), ax_ps6 (List.mem_of_getElem? (i := 11) rfl)⟩
abbrev kX3_firstRest : ax_K := (yX3_firstRest, cX3_firstRest, 4, (some .int))
theorem mX3_firstRest : ax_mv kX3_firstRest 1 := ⟨⟨wd_175, ax_in5 (List.mem_of_getElem? (i := 206) rfl), by decide +kernel, by decide +kernel, by decide⟩, ax_in5 (List.mem_of_getElem? (i := 205) rfl), ax_ps6 (List.mem_of_getElem? (i := 13) rfl)⟩
abbrev kX3_kindest : ax_K := (yX3_kindest, cX3_kindest, 5, (some .int))
theorem mX3_kindest : ax_mv kX3_kindest 1 := ⟨⟨wd_175, ax_in5 (List.mem_of_getElem? (i := 213) rfl), by decide +kernel, by decide +kernel, by decide⟩, ax_in5 (List.mem_of_getElem? (i := 212) rfl), ax_ps6 (List.mem_of_getElem? (i := 14) rfl)⟩
abbrev kX3_together : ax_K := (yX3_together, cX3_together, 2, (some .int))
theorem mX3_together : ax_mv kX3_together 1 := ⟨⟨wd_175, ax_in5 (List.mem_of_getElem? (i := 217) rfl), by decide +kernel, by decide +kernel, by decide⟩, ax_in5 (List.mem_of_getElem? (i := 216) rfl), ax_ps6 (List.mem_of_getElem? (i := 15) rfl)⟩
abbrev kX4_init : ax_K := (yX4_init, cX4_init, 1, none)
theorem mX4_init : ax_mi kX4_init 0 := ⟨⟨wd_173, ax_in2 (List.mem_of_getElem? (i := 6) rfl), by decide +kernel, by decide +kernel, by decide⟩, ax_in2 (List.mem_of_getElem? (i := 5) rfl), rfl⟩
abbrev kX4_tripOf : ax_K := (yX4_tripOf, cX4_tripOf, 2, (some (.object "DipLights$Trip")))
theorem mX4_tripOf : ax_mv kX4_tripOf 1 := ⟨⟨wd_173, ax_in3 (List.mem_of_getElem? (i := 37) rfl), by decide +kernel, by decide +kernel, by decide⟩, ax_in3 (List.mem_of_getElem? (i := 36) rfl), ax_ps2 (List.mem_of_getElem? (i := 5) rfl)⟩
abbrev kX4_run : ax_K := (yX4_run, cX4_run, 9, none)
theorem mX4_run : ax_mv kX4_run 3 := ⟨⟨wd_173, ax_in2 (List.mem_of_getElem? (i := 210) rfl), by decide +kernel, by decide +kernel, by decide⟩, ax_in2 (List.mem_of_getElem? (i := 209) rfl), ax_ps1 (List.mem_of_getElem? (i := 6) rfl)⟩
abbrev kX4_measure : ax_K := (yX4_measure, cX4_measure, 6, none)
theorem mX4_measure : ax_mv kX4_measure 2 := ⟨⟨wd_173, ax_in2 (List.mem_of_getElem? (i := 230) rfl), by decide +kernel, by decide +kernel, by decide⟩, ax_in2 (List.mem_of_getElem? (i := 229) rfl), ax_ps1 (List.mem_of_getElem? (i := 11) rfl)⟩
abbrev kX4_beamsOf : ax_K := (yX4_beamsOf, cX4_beamsOf, 4, (some .int))
theorem mX4_beamsOf : ax_mv kX4_beamsOf 3 := ⟨⟨wd_173, ax_in3 (List.mem_of_getElem? (i := 4) rfl), by decide +kernel, by decide +kernel, by decide⟩, ax_in3 (List.mem_of_getElem? (i := 3) rfl), ax_ps1 (List.mem_of_getElem? (i := 13) rfl)⟩
abbrev kX4_dazzles : ax_K := (yX4_dazzles, cX4_dazzles, 3, (some .boolean))
theorem mX4_dazzles : ax_mv kX4_dazzles 1 := ⟨⟨wd_173, ax_in3 (List.mem_of_getElem? (i := 55) rfl), by decide +kernel, by decide +kernel, by decide⟩, ax_in3 (List.mem_of_getElem? (i := 54) rfl), ax_ps2 (List.mem_of_getElem? (i := 8) rfl)⟩
abbrev kX4_keep : ax_K := (yX4_keep, cX4_keep, 4, none)
theorem mX4_keep : ax_mv kX4_keep 3 := ⟨⟨wd_173, ax_in3 (List.mem_of_getElem? (i := 68) rfl), by decide +kernel, by decide +kernel, by decide⟩, ax_in3 (List.mem_of_getElem? (i := 67) rfl), ax_ps2 (List.mem_of_getElem? (i := 11) rfl)⟩
abbrev kX4_tellValues : ax_K := (yX4_tellValues, cX4_tellValues, 5, none)
theorem mX4_tellValues : ax_mv kX4_tellValues 2 := ⟨⟨wd_173, ax_in3 (List.mem_of_getElem? (i := 20) rfl), by decide +kernel, by decide +kernel, by decide⟩, ax_in3 (List.mem_of_getElem? (i := 19) rfl), ax_ps2 (List.mem_of_getElem? (i := 1) rfl)⟩
abbrev kX4_apartIn : ax_K := (yX4_apartIn, cX4_apartIn, 2, (some .int))
theorem mX4_apartIn : ax_mv kX4_apartIn 1 := ⟨⟨wd_173, ax_in3 (List.mem_of_getElem? (i := 16) rfl), by decide +kernel, by decide +kernel, by decide⟩, ax_in3 (List.mem_of_getElem? (i := 15) rfl), ax_ps2 (List.mem_of_getElem? (i := 0) rfl)⟩
abbrev kX4_inView : ax_K := (yX4_inView, cX4_inView, 2, (some .boolean))
theorem mX4_inView : ax_mv kX4_inView 1 := ⟨⟨wd_173, ax_in3 (List.mem_of_getElem? (i := 33) rfl), by decide +kernel, by decide +kernel, by decide⟩, ax_in3 (List.mem_of_getElem? (i := 32) rfl), ax_ps2 (List.mem_of_getElem? (i := 4) rfl)⟩
abbrev kX4_far : ax_K := (yX4_far, cX4_far, 3, (some .int))
theorem mX4_far : ax_mv kX4_far 1 := ⟨⟨wd_173, ax_in3 (List.mem_of_getElem? (i := 12) rfl), by decide +kernel, by decide +kernel, by decide⟩, ax_in3 (List.mem_of_getElem? (i := 11) rfl), ax_ps1 (List.mem_of_getElem? (i := 15) rfl)⟩
abbrev kX4_beamsBy : ax_K := (yX4_beamsBy, cX4_beamsBy, 3, (some .int))
theorem mX4_beamsBy : ax_mv kX4_beamsBy 2 := ⟨⟨wd_173, ax_in3 (List.mem_of_getElem? (i := 8) rfl), by decide +kernel, by decide +kernel, by decide⟩, ax_in3 (List.mem_of_getElem? (i := 7) rfl), ax_ps1 (List.mem_of_getElem? (i := 14) rfl)⟩
abbrev kX4_everApartBy : ax_K := (yX4_everApartBy, cX4_everApartBy, 3, (some .boolean))
theorem mX4_everApartBy : ax_mv kX4_everApartBy 1 := ⟨⟨wd_173, ax_in5 (List.mem_of_getElem? (i := 182) rfl), by decide +kernel, by decide +kernel, by decide⟩, ax_in5 (List.mem_of_getElem? (i := 181) rfl), ax_ps6 (List.mem_of_getElem? (i := 8) rfl)⟩
abbrev kX4_hitBy : ax_K := (yX4_hitBy, cX4_hitBy, 5, (some .int))
theorem mX4_hitBy : ax_mv kX4_hitBy 4 := ⟨⟨wd_173, ax_in5 (List.mem_of_getElem? (i := 53) rfl), by decide +kernel, by decide +kernel, by decide⟩, ax_in5 (List.mem_of_getElem? (i := 52) rfl), ax_ps5 (List.mem_of_getElem? (i := 8) rfl)⟩
abbrev kX4_hitByCars : ax_K := (yX4_hitByCars, cX4_hitByCars, 4, (some .int))
theorem mX4_hitByCars : ax_mv kX4_hitByCars 3 := ⟨⟨wd_173, ax_in6 (List.mem_of_getElem? (i := 125) rfl), by decide +kernel, by decide +kernel, by decide⟩, ax_in6 (List.mem_of_getElem? (i := 124) rfl), ax_ps7 (List.mem_of_getElem? (i := 6) rfl)⟩
abbrev kX4_hitBits : ax_K := (yX4_hitBits, cX4_hitBits, 5, (some .int))
theorem mX4_hitBits : ax_mv kX4_hitBits 2 := ⟨⟨wd_173, ax_in5 (List.mem_of_getElem? (i := 49) rfl), by decide +kernel, by decide +kernel, by decide⟩, ax_in5 (List.mem_of_getElem? (i := 48) rfl), ax_ps5 (List.mem_of_getElem? (i := 7) rfl)⟩
abbrev kX4_hitCount : ax_K := (yX4_hitCount, cX4_hitCount, 3, (some .int))
theorem mX4_hitCount : ax_mv kX4_hitCount 2 := ⟨⟨wd_173, ax_in5 (List.mem_of_getElem? (i := 159) rfl), by decide +kernel, by decide +kernel, by decide⟩, ax_in5 (List.mem_of_getElem? (i := 158) rfl), ax_ps6 (List.mem_of_getElem? (i := 6) rfl)⟩
abbrev kX4_costOf : ax_K := (yX4_costOf, cX4_costOf, 3, (some .int))
theorem mX4_costOf : ax_mv kX4_costOf 2 := ⟨⟨wd_173, ax_in5 (List.mem_of_getElem? (i := 155) rfl), by decide +kernel, by decide +kernel, by decide⟩, ax_in5 (List.mem_of_getElem? (i := 154) rfl), ax_ps6 (List.mem_of_getElem? (i := 5) rfl)⟩
abbrev kX5_init : ax_K := (yX5_init, cX5_init, 1, none)
theorem mX5_init : ax_mi kX5_init 0 := ⟨⟨wd_170, ax_in1 (List.mem_of_getElem? (i := 84) rfl), by decide +kernel, by decide +kernel, by decide⟩, ax_in1 (List.mem_of_getElem? (i := 83) rfl), rfl⟩
abbrev kX5_empty : ax_K := (yX5_empty, cX5_empty, 2, none)
theorem mX5_empty : ax_mv kX5_empty 0 := ⟨⟨wd_170, ax_in3 (List.mem_of_getElem? (i := 236) rfl), by decide +kernel, by decide +kernel, by decide⟩, ax_in3 (List.mem_of_getElem? (i := 235) rfl), ax_ps3 (List.mem_of_getElem? (i := 8) rfl)⟩
abbrev kX5_readFrom : ax_K := (yX5_readFrom, cX5_readFrom, 4, (some .boolean))
theorem mX5_readFrom : ax_mv kX5_readFrom 1 := ⟨⟨wd_170, ax_in3 (List.mem_of_getElem? (i := 232) rfl), by decide +kernel, by decide +kernel, by decide⟩, ax_in3 (List.mem_of_getElem? (i := 231) rfl), ax_ps3 (List.mem_of_getElem? (i := 7) rfl)⟩
abbrev kX5_clauseOf : ax_K := (yX5_clauseOf, cX5_clauseOf, 1, (some .int))
theorem mX5_clauseOf : ax_ms kX5_clauseOf 1 := ⟨⟨wd_170, ax_in3 (List.mem_of_getElem? (i := 239) rfl), by decide +kernel, by decide +kernel, by decide⟩, ax_in3 (List.mem_of_getElem? (i := 238) rfl)⟩
abbrev kX5_hasRoomFor : ax_K := (yX5_hasRoomFor, cX5_hasRoomFor, 2, (some .boolean))
theorem mX5_hasRoomFor : ax_mv kX5_hasRoomFor 1 := ⟨⟨wd_170, ax_in4 (List.mem_of_getElem? (i := 67) rfl), by decide +kernel, by decide +kernel, by decide⟩, ax_in4 (List.mem_of_getElem? (i := 66) rfl), ax_ps3 (List.mem_of_getElem? (i := 11) rfl)⟩
abbrev kX5_readClause : ax_K := (yX5_readClause, cX5_readClause, 3, (some .boolean))
theorem mX5_readClause : ax_mv kX5_readClause 2 := ⟨⟨wd_170, ax_in4 (List.mem_of_getElem? (i := 72) rfl), by decide +kernel, by decide +kernel, by decide⟩, ax_in4 (List.mem_of_getElem? (i := 71) rfl), ax_ps3 (List.mem_of_getElem? (i := 12) rfl)⟩
abbrev kX5_readBend : ax_K := (yX5_readBend, cX5_readBend, 4, (some .boolean))
theorem mX5_readBend : ax_mv kX5_readBend 1 := ⟨⟨wd_170, ax_in4 (List.mem_of_getElem? (i := 85) rfl), by decide +kernel, by decide +kernel, by decide⟩, ax_in4 (List.mem_of_getElem? (i := 84) rfl), ax_ps3 (List.mem_of_getElem? (i := 15) rfl)⟩
abbrev kX5_readWet : ax_K := (yX5_readWet, cX5_readWet, 5, (some .boolean))
theorem mX5_readWet : ax_mv kX5_readWet 1 := ⟨⟨wd_170, ax_in4 (List.mem_of_getElem? (i := 89) rfl), by decide +kernel, by decide +kernel, by decide⟩, ax_in4 (List.mem_of_getElem? (i := 88) rfl), ax_ps4 (List.mem_of_getElem? (i := 0) rfl)⟩
abbrev kX5_readCoat : ax_K := (yX5_readCoat, cX5_readCoat, 4, (some .boolean))
theorem mX5_readCoat : ax_mv kX5_readCoat 1 := ⟨⟨wd_170, ax_in4 (List.mem_of_getElem? (i := 93) rfl), by decide +kernel, by decide +kernel, by decide⟩, ax_in4 (List.mem_of_getElem? (i := 92) rfl), ax_ps4 (List.mem_of_getElem? (i := 1) rfl)⟩
abbrev kX5_readReach : ax_K := (yX5_readReach, cX5_readReach, 2, (some .boolean))
theorem mX5_readReach : ax_mv kX5_readReach 1 := ⟨⟨wd_170, ax_in4 (List.mem_of_getElem? (i := 97) rfl), by decide +kernel, by decide +kernel, by decide⟩, ax_in4 (List.mem_of_getElem? (i := 96) rfl), ax_ps4 (List.mem_of_getElem? (i := 2) rfl)⟩
abbrev kX5_readCar : ax_K := (yX5_readCar, cX5_readCar, 5, (some .boolean))
theorem mX5_readCar : ax_mv kX5_readCar 1 := ⟨⟨wd_170, ax_in4 (List.mem_of_getElem? (i := 101) rfl), by decide +kernel, by decide +kernel, by decide⟩, ax_in4 (List.mem_of_getElem? (i := 100) rfl), ax_ps4 (List.mem_of_getElem? (i := 3) rfl)⟩
abbrev kX5_startOf : ax_K := (yX5_startOf, cX5_startOf, 2, (some .int))
theorem mX5_startOf : ax_mv kX5_startOf 1 := ⟨⟨wd_170, ax_in2 (List.mem_of_getElem? (i := 218) rfl), by decide +kernel, by decide +kernel, by decide⟩, ax_in2 (List.mem_of_getElem? (i := 217) rfl), ax_ps1 (List.mem_of_getElem? (i := 8) rfl)⟩
abbrev kX5_has : ax_K := (yX5_has, cX5_has, 2, (some .boolean))
theorem mX5_has : ax_mv kX5_has 1 := ⟨⟨wd_170, ax_in2 (List.mem_of_getElem? (i := 226) rfl), by decide +kernel, by decide +kernel, by decide⟩, ax_in2 (List.mem_of_getElem? (i := 225) rfl), ax_ps1 (List.mem_of_getElem? (i := 10) rfl)⟩
abbrev kX5_wetAt : ax_K := (yX5_wetAt, cX5_wetAt, 2, (some .int))
theorem mX5_wetAt : ax_mv kX5_wetAt 1 := ⟨⟨wd_170, ax_in3 (List.mem_of_getElem? (i := 28) rfl), by decide +kernel, by decide +kernel, by decide⟩, ax_in3 (List.mem_of_getElem? (i := 27) rfl), ax_ps2 (List.mem_of_getElem? (i := 3) rfl)⟩
abbrev kX5_wetCells : ax_K := (yX5_wetCells, cX5_wetCells, 3, (some .int))
theorem mX5_wetCells : ax_mv kX5_wetCells 0 := ⟨⟨wd_170, ax_in5 (List.mem_of_getElem? (i := 2) rfl), by decide +kernel, by decide +kernel, by decide⟩, ax_in5 (List.mem_of_getElem? (i := 1) rfl), ax_ps5 (List.mem_of_getElem? (i := 3) rfl)⟩
abbrev kX5_hides : ax_K := (yX5_hides, cX5_hides, 6, (some .boolean))
theorem mX5_hides : ax_mv kX5_hides 2 := ⟨⟨wd_170, ax_in2 (List.mem_of_getElem? (i := 234) rfl), by decide +kernel, by decide +kernel, by decide⟩, ax_in2 (List.mem_of_getElem? (i := 233) rfl), ax_ps1 (List.mem_of_getElem? (i := 12) rfl)⟩
abbrev kX5_reachBy : ax_K := (yX5_reachBy, cX5_reachBy, 2, (some .int))
theorem mX5_reachBy : ax_mv kX5_reachBy 1 := ⟨⟨wd_170, ax_in3 (List.mem_of_getElem? (i := 24) rfl), by decide +kernel, by decide +kernel, by decide⟩, ax_in3 (List.mem_of_getElem? (i := 23) rfl), ax_ps2 (List.mem_of_getElem? (i := 2) rfl)⟩
abbrev kX5_blindFor : ax_K := (yX5_blindFor, cX5_blindFor, 2, (some .int))
theorem mX5_blindFor : ax_mv kX5_blindFor 1 := ⟨⟨wd_170, ax_in3 (List.mem_of_getElem? (i := 59) rfl), by decide +kernel, by decide +kernel, by decide⟩, ax_in3 (List.mem_of_getElem? (i := 58) rfl), ax_ps2 (List.mem_of_getElem? (i := 9) rfl)⟩
abbrev kX5_cellOfDraw : ax_K := (yX5_cellOfDraw, cX5_cellOfDraw, 2, (some .int))
theorem mX5_cellOfDraw : ax_mv kX5_cellOfDraw 1 := ⟨⟨wd_170, ax_in6 (List.mem_of_getElem? (i := 113) rfl), by decide +kernel, by decide +kernel, by decide⟩, ax_in6 (List.mem_of_getElem? (i := 112) rfl), ax_ps7 (List.mem_of_getElem? (i := 5) rfl)⟩
abbrev kX6_init : ax_K := (yX6_init, cX6_init, 1, none)
theorem mX6_init : ax_mi kX6_init 0 := ⟨⟨wd_168, ax_in1 (List.mem_of_getElem? (i := 37) rfl), by decide +kernel, by decide +kernel, by decide⟩, ax_in1 (List.mem_of_getElem? (i := 36) rfl), rfl⟩
abbrev kX6_put : ax_K := (yX6_put, cX6_put, 3, none)
theorem mX6_put : ax_mv kX6_put 1 := ⟨⟨wd_168, ax_in2 (List.mem_of_getElem? (i := 194) rfl), by decide +kernel, by decide +kernel, by decide⟩, ax_in2 (List.mem_of_getElem? (i := 193) rfl), ax_ps1 (List.mem_of_getElem? (i := 4) rfl)⟩
abbrev kX6_beginText : ax_K := (yX6_beginText, cX6_beginText, 2, none)
theorem mX6_beginText : ax_mv kX6_beginText 1 := ⟨⟨wd_168, ax_in3 (List.mem_of_getElem? (i := 219) rfl), by decide +kernel, by decide +kernel, by decide⟩, ax_in3 (List.mem_of_getElem? (i := 218) rfl), ax_ps3 (List.mem_of_getElem? (i := 5) rfl)⟩
abbrev kX6_answerOfFault : ax_K := (yX6_answerOfFault, cX6_answerOfFault, 1, (some .int))
theorem mX6_answerOfFault : ax_mv kX6_answerOfFault 0 := ⟨⟨wd_168, ax_in4 (List.mem_of_getElem? (i := 113) rfl), by decide +kernel, by decide +kernel, by decide⟩, ax_in4 (List.mem_of_getElem? (i := 112) rfl), ax_ps4 (List.mem_of_getElem? (i := 6) rfl)⟩
abbrev kX6_fail : ax_K := (yX6_fail, cX6_fail, 2, (some .boolean))
theorem mX6_fail : ax_mv kX6_fail 1 := ⟨⟨wd_168, ax_in4 (List.mem_of_getElem? (i := 63) rfl), by decide +kernel, by decide +kernel, by decide⟩, ax_in4 (List.mem_of_getElem? (i := 62) rfl), ax_ps3 (List.mem_of_getElem? (i := 10) rfl)⟩
abbrev kX6_advance : ax_K := (yX6_advance, cX6_advance, 1, none)
theorem mX6_advance : ax_mv kX6_advance 0 := ⟨⟨wd_168, ax_in3 (List.mem_of_getElem? (i := 224) rfl), by decide +kernel, by decide +kernel, by decide⟩, ax_in3 (List.mem_of_getElem? (i := 223) rfl), ax_ps3 (List.mem_of_getElem? (i := 6) rfl)⟩
abbrev kX6_tokenOf : ax_K := (yX6_tokenOf, cX6_tokenOf, 1, (some .int))
theorem mX6_tokenOf : ax_ms kX6_tokenOf 1 := ⟨⟨wd_168, ax_in3 (List.mem_of_getElem? (i := 227) rfl), by decide +kernel, by decide +kernel, by decide⟩, ax_in3 (List.mem_of_getElem? (i := 226) rfl)⟩
abbrev kX6_isWord : ax_K := (yX6_isWord, cX6_isWord, 4, (some .boolean))
theorem mX6_isWord : ax_mv kX6_isWord 1 := ⟨⟨wd_168, ax_in4 (List.mem_of_getElem? (i := 4) rfl), by decide +kernel, by decide +kernel, by decide⟩, ax_in4 (List.mem_of_getElem? (i := 3) rfl), ax_ps3 (List.mem_of_getElem? (i := 9) rfl)⟩
abbrev kX6_isSign : ax_K := (yX6_isSign, cX6_isSign, 2, (some .boolean))
theorem mX6_isSign : ax_mv kX6_isSign 1 := ⟨⟨wd_168, ax_in4 (List.mem_of_getElem? (i := 109) rfl), by decide +kernel, by decide +kernel, by decide⟩, ax_in4 (List.mem_of_getElem? (i := 108) rfl), ax_ps4 (List.mem_of_getElem? (i := 5) rfl)⟩
abbrev kX6_takeSign : ax_K := (yX6_takeSign, cX6_takeSign, 2, (some .boolean))
theorem mX6_takeSign : ax_mv kX6_takeSign 1 := ⟨⟨wd_168, ax_in4 (List.mem_of_getElem? (i := 105) rfl), by decide +kernel, by decide +kernel, by decide⟩, ax_in4 (List.mem_of_getElem? (i := 104) rfl), ax_ps4 (List.mem_of_getElem? (i := 4) rfl)⟩
abbrev kX6_standsNumber : ax_K := (yX6_standsNumber, cX6_standsNumber, 3, (some .boolean))
theorem mX6_standsNumber : ax_mv kX6_standsNumber 2 := ⟨⟨wd_168, ax_in4 (List.mem_of_getElem? (i := 80) rfl), by decide +kernel, by decide +kernel, by decide⟩, ax_in4 (List.mem_of_getElem? (i := 79) rfl), ax_ps3 (List.mem_of_getElem? (i := 14) rfl)⟩
abbrev kX6_takeNumber : ax_K := (yX6_takeNumber, cX6_takeNumber, 4, (some .int))
theorem mX6_takeNumber : ax_mv kX6_takeNumber 2 := ⟨⟨wd_168, ax_in4 (List.mem_of_getElem? (i := 76) rfl), by decide +kernel, by decide +kernel, by decide⟩, ax_in4 (List.mem_of_getElem? (i := 75) rfl), ax_ps3 (List.mem_of_getElem? (i := 13) rfl)⟩
abbrev kX7_init : ax_K := (yX7_init, cX7_init, 1, none)
theorem mX7_init : ax_mi kX7_init 0 := ⟨⟨wd_169, ax_in1 (List.mem_of_getElem? (i := 78) rfl), by decide +kernel, by decide +kernel, by decide⟩, ax_in1 (List.mem_of_getElem? (i := 77) rfl), rfl⟩
abbrev kX7_forgetFormulas : ax_K := (yX7_forgetFormulas, cX7_forgetFormulas, 1, none)
theorem mX7_forgetFormulas : ax_mv kX7_forgetFormulas 0 := ⟨⟨wd_169, ax_in1 (List.mem_of_getElem? (i := 186) rfl), by decide +kernel, by decide +kernel, by decide⟩, ax_in1 (List.mem_of_getElem? (i := 185) rfl), ax_ps1 (List.mem_of_getElem? (i := 0) rfl)⟩
abbrev kX7_swapRule : ax_K := (yX7_swapRule, cX7_swapRule, 4, (some (.object "DipLights$Formula")))
theorem mX7_swapRule : ax_mv kX7_swapRule 2 := ⟨⟨wd_169, ax_in4 (List.mem_of_getElem? (i := 203) rfl), by decide +kernel, by decide +kernel, by decide⟩, ax_in4 (List.mem_of_getElem? (i := 202) rfl), ax_ps4 (List.mem_of_getElem? (i := 14) rfl)⟩
abbrev kX7_valuesOfNobody : ax_K := (yX7_valuesOfNobody, cX7_valuesOfNobody, 2, (some (.array .int)))
theorem mX7_valuesOfNobody : ax_mv kX7_valuesOfNobody 0 := ⟨⟨wd_169, ax_in5 (List.mem_of_getElem? (i := 122) rfl), by decide +kernel, by decide +kernel, by decide⟩, ax_in5 (List.mem_of_getElem? (i := 121) rfl), ax_ps6 (List.mem_of_getElem? (i := 3) rfl)⟩
abbrev kX7_sightByLaw : ax_K := (yX7_sightByLaw, cX7_sightByLaw, 1, (some .int))
theorem mX7_sightByLaw : ax_mv kX7_sightByLaw 0 := ⟨⟨wd_169, ax_in3 (List.mem_of_getElem? (i := 72) rfl), by decide +kernel, by decide +kernel, by decide⟩, ax_in3 (List.mem_of_getElem? (i := 71) rfl), ax_ps2 (List.mem_of_getElem? (i := 12) rfl)⟩
abbrev kX7_beamsByRule : ax_K := (yX7_beamsByRule, cX7_beamsByRule, 2, (some .int))
theorem mX7_beamsByRule : ax_mv kX7_beamsByRule 1 := ⟨⟨wd_169, ax_in3 (List.mem_of_getElem? (i := 41) rfl), by decide +kernel, by decide +kernel, by decide⟩, ax_in3 (List.mem_of_getElem? (i := 40) rfl), ax_ps2 (List.mem_of_getElem? (i := 6) rfl)⟩
abbrev kX8_init : ax_K := (yX8_init, cX8_init, 2, none)
theorem mX8_init : ax_mi kX8_init 1 := ⟨⟨wd_174, ax_in2 (List.mem_of_getElem? (i := 12) rfl), by decide +kernel, by decide +kernel, by decide⟩, ax_in2 (List.mem_of_getElem? (i := 11) rfl), rfl⟩
abbrev kX8_begin : ax_K := (yX8_begin, cX8_begin, 2, none)
theorem mX8_begin : ax_mv kX8_begin 1 := ⟨⟨wd_174, ax_in2 (List.mem_of_getElem? (i := 214) rfl), by decide +kernel, by decide +kernel, by decide⟩, ax_in2 (List.mem_of_getElem? (i := 213) rfl), ax_ps1 (List.mem_of_getElem? (i := 7) rfl)⟩
abbrev kX8_isOn : ax_K := (yX8_isOn, cX8_isOn, 2, (some .boolean))
theorem mX8_isOn : ax_mv kX8_isOn 1 := ⟨⟨wd_174, ax_in2 (List.mem_of_getElem? (i := 222) rfl), by decide +kernel, by decide +kernel, by decide⟩, ax_in2 (List.mem_of_getElem? (i := 221) rfl), ax_ps1 (List.mem_of_getElem? (i := 9) rfl)⟩
abbrev kX8_becomeBlind : ax_K := (yX8_becomeBlind, cX8_becomeBlind, 3, none)
theorem mX8_becomeBlind : ax_mv kX8_becomeBlind 2 := ⟨⟨wd_174, ax_in3 (List.mem_of_getElem? (i := 63) rfl), by decide +kernel, by decide +kernel, by decide⟩, ax_in3 (List.mem_of_getElem? (i := 62) rfl), ax_ps2 (List.mem_of_getElem? (i := 10) rfl)⟩
abbrev kX8_keep : ax_K := (yX8_keep, cX8_keep, 5, none)
theorem mX8_keep : ax_mv kX8_keep 4 := ⟨⟨wd_174, ax_in3 (List.mem_of_getElem? (i := 78) rfl), by decide +kernel, by decide +kernel, by decide⟩, ax_in3 (List.mem_of_getElem? (i := 77) rfl), ax_ps2 (List.mem_of_getElem? (i := 13) rfl)⟩
abbrev kX8_unsafe : ax_K := (yX8_unsafe, cX8_unsafe, 2, (some .int))
theorem mX8_unsafe : ax_mv kX8_unsafe 1 := ⟨⟨wd_174, ax_in5 (List.mem_of_getElem? (i := 37) rfl), by decide +kernel, by decide +kernel, by decide⟩, ax_in5 (List.mem_of_getElem? (i := 36) rfl), ax_ps5 (List.mem_of_getElem? (i := 6) rfl)⟩
abbrev kX8_unsafeTenths : ax_K := (yX8_unsafeTenths, cX8_unsafeTenths, 3, (some .int))
theorem mX8_unsafeTenths : ax_mv kX8_unsafeTenths 0 := ⟨⟨wd_174, ax_in5 (List.mem_of_getElem? (i := 90) rfl), by decide +kernel, by decide +kernel, by decide⟩, ax_in5 (List.mem_of_getElem? (i := 89) rfl), ax_ps5 (List.mem_of_getElem? (i := 13) rfl)⟩
abbrev kX8_glareTenths : ax_K := (yX8_glareTenths, cX8_glareTenths, 3, (some .int))
theorem mX8_glareTenths : ax_mv kX8_glareTenths 0 := ⟨⟨wd_174, ax_in5 (List.mem_of_getElem? (i := 95) rfl), by decide +kernel, by decide +kernel, by decide⟩, ax_in5 (List.mem_of_getElem? (i := 94) rfl), ax_ps5 (List.mem_of_getElem? (i := 14) rfl)⟩
abbrev kX8_blindTenths : ax_K := (yX8_blindTenths, cX8_blindTenths, 3, (some .int))
theorem mX8_blindTenths : ax_mv kX8_blindTenths 0 := ⟨⟨wd_174, ax_in5 (List.mem_of_getElem? (i := 99) rfl), by decide +kernel, by decide +kernel, by decide⟩, ax_in5 (List.mem_of_getElem? (i := 98) rfl), ax_ps5 (List.mem_of_getElem? (i := 15) rfl)⟩
abbrev kX8_fullTenths : ax_K := (yX8_fullTenths, cX8_fullTenths, 3, (some .int))
theorem mX8_fullTenths : ax_mv kX8_fullTenths 0 := ⟨⟨wd_174, ax_in5 (List.mem_of_getElem? (i := 103) rfl), by decide +kernel, by decide +kernel, by decide⟩, ax_in5 (List.mem_of_getElem? (i := 102) rfl), ax_ps6 (List.mem_of_getElem? (i := 0) rfl)⟩
abbrev kX8_beamChanges : ax_K := (yX8_beamChanges, cX8_beamChanges, 4, (some .int))
theorem mX8_beamChanges : ax_mv kX8_beamChanges 0 := ⟨⟨wd_174, ax_in5 (List.mem_of_getElem? (i := 107) rfl), by decide +kernel, by decide +kernel, by decide⟩, ax_in5 (List.mem_of_getElem? (i := 106) rfl), ax_ps6 (List.mem_of_getElem? (i := 1) rfl)⟩
abbrev kX8_leastSight : ax_K := (yX8_leastSight, cX8_leastSight, 3, (some .int))
theorem mX8_leastSight : ax_mv kX8_leastSight 0 := ⟨⟨wd_174, ax_in5 (List.mem_of_getElem? (i := 111) rfl), by decide +kernel, by decide +kernel, by decide⟩, ax_in5 (List.mem_of_getElem? (i := 110) rfl), ax_ps6 (List.mem_of_getElem? (i := 2) rfl)⟩
abbrev kX8_firstBeams : ax_K := (yX8_firstBeams, cX8_firstBeams, 4, (some .int))
theorem mX8_firstBeams : ax_mv kX8_firstBeams 2 := ⟨⟨wd_174, ax_in6 (List.mem_of_getElem? (i := 143) rfl), by decide +kernel, by decide +kernel, by decide⟩, ax_in6 (List.mem_of_getElem? (i := 142) rfl), ax_ps7 (List.mem_of_getElem? (i := 7) rfl)⟩
abbrev kX8_ahead : ax_K := (yX8_ahead, cX8_ahead, 3, (some .int))
theorem mX8_ahead : ax_mv kX8_ahead 2 := ⟨⟨wd_174, ax_in5 (List.mem_of_getElem? (i := 65) rfl), by decide +kernel, by decide +kernel, by decide⟩, ax_in5 (List.mem_of_getElem? (i := 64) rfl), ax_ps5 (List.mem_of_getElem? (i := 11) rfl)⟩
abbrev kX8_seenIn : ax_K := (yX8_seenIn, cX8_seenIn, 6, (some .int))
theorem mX8_seenIn : ax_mv kX8_seenIn 3 := ⟨⟨wd_174, ax_in5 (List.mem_of_getElem? (i := 69) rfl), by decide +kernel, by decide +kernel, by decide⟩, ax_in5 (List.mem_of_getElem? (i := 68) rfl), ax_ps5 (List.mem_of_getElem? (i := 12) rfl)⟩
abbrev kX8_reachedIn : ax_K := (yX8_reachedIn, cX8_reachedIn, 4, (some .int))
theorem mX8_reachedIn : ax_mv kX8_reachedIn 1 := ⟨⟨wd_174, ax_in5 (List.mem_of_getElem? (i := 61) rfl), by decide +kernel, by decide +kernel, by decide⟩, ax_in5 (List.mem_of_getElem? (i := 60) rfl), ax_ps5 (List.mem_of_getElem? (i := 10) rfl)⟩
abbrev kX8_doesHit : ax_K := (yX8_doesHit, cX8_doesHit, 6, (some .boolean))
theorem mX8_doesHit : ax_mv kX8_doesHit 3 := ⟨⟨wd_174, ax_in5 (List.mem_of_getElem? (i := 57) rfl), by decide +kernel, by decide +kernel, by decide⟩, ax_in5 (List.mem_of_getElem? (i := 56) rfl), ax_ps5 (List.mem_of_getElem? (i := 9) rfl)⟩
abbrev kX9_init : ax_K := (yX9_init, cX9_init, 1, none)
theorem mX9_init : ax_mi kX9_init 0 := ⟨⟨wd_167, ax_in1 (List.mem_of_getElem? (i := 29) rfl), by decide +kernel, by decide +kernel, by decide⟩, ax_in1 (List.mem_of_getElem? (i := 28) rfl), rfl⟩
abbrev kX9_feed : ax_K := (yX9_feed, cX9_feed, 6, (some .int))
theorem mX9_feed : ax_mv kX9_feed 5 := ⟨⟨wd_167, ax_in2 (List.mem_of_getElem? (i := 190) rfl), by decide +kernel, by decide +kernel, by decide⟩, ax_in2 (List.mem_of_getElem? (i := 188) rfl), ax_in2 (List.mem_of_getElem? (i := 189) rfl)⟩
abbrev kX9_road : ax_K := (yX9_road, cX9_road, 3, (some .int))
theorem mX9_road : ax_mv kX9_road 1 := ⟨⟨wd_167, ax_in3 (List.mem_of_getElem? (i := 139) rfl), by decide +kernel, by decide +kernel, by decide⟩, ax_in3 (List.mem_of_getElem? (i := 137) rfl), ax_in3 (List.mem_of_getElem? (i := 138) rfl)⟩
abbrev kX9_law : ax_K := (yX9_law, cX9_law, 3, (some .int))
theorem mX9_law : ax_mv kX9_law 1 := ⟨⟨wd_167, ax_in4 (List.mem_of_getElem? (i := 125) rfl), by decide +kernel, by decide +kernel, by decide⟩, ax_in4 (List.mem_of_getElem? (i := 123) rfl), ax_in4 (List.mem_of_getElem? (i := 124) rfl)⟩
abbrev kX9_rule : ax_K := (yX9_rule, cX9_rule, 3, (some .int))
theorem mX9_rule : ax_mv kX9_rule 2 := ⟨⟨wd_167, ax_in4 (List.mem_of_getElem? (i := 179) rfl), by decide +kernel, by decide +kernel, by decide⟩, ax_in4 (List.mem_of_getElem? (i := 177) rfl), ax_in4 (List.mem_of_getElem? (i := 178) rfl)⟩
abbrev kX9_book : ax_K := (yX9_book, cX9_book, 3, (some .int))
theorem mX9_book : ax_mv kX9_book 1 := ⟨⟨wd_167, ax_in4 (List.mem_of_getElem? (i := 210) rfl), by decide +kernel, by decide +kernel, by decide⟩, ax_in4 (List.mem_of_getElem? (i := 208) rfl), ax_in4 (List.mem_of_getElem? (i := 209) rfl)⟩
abbrev kX9_fault : ax_K := (yX9_fault, cX9_fault, 1, (some .int))
theorem mX9_fault : ax_mv kX9_fault 0 := ⟨⟨wd_167, ax_in2 (List.mem_of_getElem? (i := 198) rfl), by decide +kernel, by decide +kernel, by decide⟩, ax_in2 (List.mem_of_getElem? (i := 196) rfl), ax_in2 (List.mem_of_getElem? (i := 197) rfl)⟩
abbrev kX9_takeText : ax_K := (yX9_takeText, cX9_takeText, 3, none)
theorem mX9_takeText : ax_mv kX9_takeText 2 := ⟨⟨wd_167, ax_in3 (List.mem_of_getElem? (i := 143) rfl), by decide +kernel, by decide +kernel, by decide⟩, ax_in3 (List.mem_of_getElem? (i := 142) rfl), ax_ps3 (List.mem_of_getElem? (i := 2) rfl)⟩
abbrev kX9_meetingChanged : ax_K := (yX9_meetingChanged, cX9_meetingChanged, 1, none)
theorem mX9_meetingChanged : ax_mv kX9_meetingChanged 0 := ⟨⟨wd_167, ax_in3 (List.mem_of_getElem? (i := 98) rfl), by decide +kernel, by decide +kernel, by decide⟩, ax_in3 (List.mem_of_getElem? (i := 97) rfl), ax_ps2 (List.mem_of_getElem? (i := 15) rfl)⟩
abbrev kX9_told : ax_K := (yX9_told, cX9_told, 3, (some .int))
theorem mX9_told : ax_mv kX9_told 1 := ⟨⟨wd_167, ax_in4 (List.mem_of_getElem? (i := 234) rfl), by decide +kernel, by decide +kernel, by decide⟩, ax_in4 (List.mem_of_getElem? (i := 232) rfl), ax_in4 (List.mem_of_getElem? (i := 233) rfl)⟩
abbrev kX9_car : ax_K := (yX9_car, cX9_car, 4, (some .int))
theorem mX9_car : ax_mv kX9_car 2 := ⟨⟨wd_167, ax_in5 (List.mem_of_getElem? (i := 9) rfl), by decide +kernel, by decide +kernel, by decide⟩, ax_in5 (List.mem_of_getElem? (i := 7) rfl), ax_in5 (List.mem_of_getElem? (i := 8) rfl)⟩
abbrev kX9_coat : ax_K := (yX9_coat, cX9_coat, 3, (some .int))
theorem mX9_coat : ax_mv kX9_coat 2 := ⟨⟨wd_167, ax_in5 (List.mem_of_getElem? (i := 21) rfl), by decide +kernel, by decide +kernel, by decide⟩, ax_in5 (List.mem_of_getElem? (i := 19) rfl), ax_in5 (List.mem_of_getElem? (i := 20) rfl)⟩
abbrev kX9_freshMeeting : ax_K := (yX9_freshMeeting, cX9_freshMeeting, 1, (some (.object "DipLights$Meeting")))
theorem mX9_freshMeeting : ax_mv kX9_freshMeeting 0 := ⟨⟨wd_167, ax_in2 (List.mem_of_getElem? (i := 206) rfl), by decide +kernel, by decide +kernel, by decide⟩, ax_in2 (List.mem_of_getElem? (i := 205) rfl), ax_ps1 (List.mem_of_getElem? (i := 5) rfl)⟩
abbrev kX9_tenths : ax_K := (yX9_tenths, cX9_tenths, 1, (some .int))
theorem mX9_tenths : ax_mv kX9_tenths 0 := ⟨⟨wd_167, ax_in2 (List.mem_of_getElem? (i := 202) rfl), by decide +kernel, by decide +kernel, by decide⟩, ax_in2 (List.mem_of_getElem? (i := 200) rfl), ax_in2 (List.mem_of_getElem? (i := 201) rfl)⟩
abbrev kX9_at : ax_K := (yX9_at, cX9_at, 6, (some .int))
theorem mX9_at : ax_mv kX9_at 3 := ⟨⟨wd_167, ax_in5 (List.mem_of_getElem? (i := 32) rfl), by decide +kernel, by decide +kernel, by decide⟩, ax_in5 (List.mem_of_getElem? (i := 30) rfl), ax_in5 (List.mem_of_getElem? (i := 31) rfl)⟩
abbrev kX9_passes : ax_K := (yX9_passes, cX9_passes, 1, (some .int))
theorem mX9_passes : ax_mv kX9_passes 0 := ⟨⟨wd_167, ax_in3 (List.mem_of_getElem? (i := 83) rfl), by decide +kernel, by decide +kernel, by decide⟩, ax_in3 (List.mem_of_getElem? (i := 81) rfl), ax_in3 (List.mem_of_getElem? (i := 82) rfl)⟩
abbrev kX9_hits : ax_K := (yX9_hits, cX9_hits, 2, (some .int))
theorem mX9_hits : ax_mv kX9_hits 1 := ⟨⟨wd_167, ax_in5 (List.mem_of_getElem? (i := 45) rfl), by decide +kernel, by decide +kernel, by decide⟩, ax_in5 (List.mem_of_getElem? (i := 43) rfl), ax_in5 (List.mem_of_getElem? (i := 44) rfl)⟩
abbrev kX9_sees : ax_K := (yX9_sees, cX9_sees, 6, (some .int))
theorem mX9_sees : ax_mv kX9_sees 2 := ⟨⟨wd_167, ax_in5 (List.mem_of_getElem? (i := 77) rfl), by decide +kernel, by decide +kernel, by decide⟩, ax_in5 (List.mem_of_getElem? (i := 75) rfl), ax_in5 (List.mem_of_getElem? (i := 76) rfl)⟩
abbrev kX9_sums : ax_K := (yX9_sums, cX9_sums, 4, (some .int))
theorem mX9_sums : ax_mv kX9_sums 2 := ⟨⟨wd_167, ax_in5 (List.mem_of_getElem? (i := 86) rfl), by decide +kernel, by decide +kernel, by decide⟩, ax_in5 (List.mem_of_getElem? (i := 84) rfl), ax_in5 (List.mem_of_getElem? (i := 85) rfl)⟩
abbrev kX9_would : ax_K := (yX9_would, cX9_would, 6, (some .int))
theorem mX9_would : ax_mv kX9_would 4 := ⟨⟨wd_167, ax_in5 (List.mem_of_getElem? (i := 118) rfl), by decide +kernel, by decide +kernel, by decide⟩, ax_in5 (List.mem_of_getElem? (i := 116) rfl), ax_in5 (List.mem_of_getElem? (i := 117) rfl)⟩
abbrev kX9_cost : ax_K := (yX9_cost, cX9_cost, 4, (some .int))
theorem mX9_cost : ax_mv kX9_cost 3 := ⟨⟨wd_167, ax_in5 (List.mem_of_getElem? (i := 131) rfl), by decide +kernel, by decide +kernel, by decide⟩, ax_in5 (List.mem_of_getElem? (i := 129) rfl), ax_in5 (List.mem_of_getElem? (i := 130) rfl)⟩
abbrev kX9_duel : ax_K := (yX9_duel, cX9_duel, 4, (some .int))
theorem mX9_duel : ax_mv kX9_duel 2 := ⟨⟨wd_167, ax_in5 (List.mem_of_getElem? (i := 174) rfl), by decide +kernel, by decide +kernel, by decide⟩, ax_in5 (List.mem_of_getElem? (i := 172) rfl), ax_in5 (List.mem_of_getElem? (i := 173) rfl)⟩
abbrev kX9_pairNumber : ax_K := (yX9_pairNumber, cX9_pairNumber, 2, (some .int))
theorem mX9_pairNumber : ax_ms kX9_pairNumber 2 := ⟨⟨wd_167, ax_in5 (List.mem_of_getElem? (i := 209) rfl), by decide +kernel, by decide +kernel, by decide⟩, ax_in5 (List.mem_of_getElem? (i := 208) rfl)⟩
abbrev kX9_fillDuel : ax_K := (yX9_fillDuel, cX9_fillDuel, 5, none)
theorem mX9_fillDuel : ax_mv kX9_fillDuel 2 := ⟨⟨wd_167, ax_in5 (List.mem_of_getElem? (i := 178) rfl), by decide +kernel, by decide +kernel, by decide⟩, ax_in5 (List.mem_of_getElem? (i := 177) rfl), ax_ps6 (List.mem_of_getElem? (i := 7) rfl)⟩
abbrev kX9_answer : ax_K := (yX9_answer, cX9_answer, 7, (some .int))
theorem mX9_answer : ax_mv kX9_answer 2 := ⟨⟨wd_167, ax_in5 (List.mem_of_getElem? (i := 225) rfl), by decide +kernel, by decide +kernel, by decide⟩, ax_in5 (List.mem_of_getElem? (i := 223) rfl), ax_in5 (List.mem_of_getElem? (i := 224) rfl)⟩
abbrev kX9_habit : ax_K := (yX9_habit, cX9_habit, 6, (some .int))
theorem mX9_habit : ax_mv kX9_habit 2 := ⟨⟨wd_167, ax_in5 (List.mem_of_getElem? (i := 233) rfl), by decide +kernel, by decide +kernel, by decide⟩, ax_in5 (List.mem_of_getElem? (i := 231) rfl), ax_in5 (List.mem_of_getElem? (i := 232) rfl)⟩
abbrev kX9_nextHabit : ax_K := (yX9_nextHabit, cX9_nextHabit, 2, (some .int))
theorem mX9_nextHabit : ax_mv kX9_nextHabit 1 := ⟨⟨wd_167, ax_in5 (List.mem_of_getElem? (i := 237) rfl), by decide +kernel, by decide +kernel, by decide⟩, ax_in5 (List.mem_of_getElem? (i := 236) rfl), ax_ps7 (List.mem_of_getElem? (i := 0) rfl)⟩
abbrev kX9_leastVisited : ax_K := (yX9_leastVisited, cX9_leastVisited, 3, (some .int))
theorem mX9_leastVisited : ax_mv kX9_leastVisited 1 := ⟨⟨wd_167, ax_in6 (List.mem_of_getElem? (i := 3) rfl), by decide +kernel, by decide +kernel, by decide⟩, ax_in6 (List.mem_of_getElem? (i := 2) rfl), ax_ps7 (List.mem_of_getElem? (i := 1) rfl)⟩
abbrev kX9_greatestVisited : ax_K := (yX9_greatestVisited, cX9_greatestVisited, 3, (some .int))
theorem mX9_greatestVisited : ax_mv kX9_greatestVisited 1 := ⟨⟨wd_167, ax_in6 (List.mem_of_getElem? (i := 7) rfl), by decide +kernel, by decide +kernel, by decide⟩, ax_in6 (List.mem_of_getElem? (i := 6) rfl), ax_ps7 (List.mem_of_getElem? (i := 2) rfl)⟩
abbrev kX9_safe : ax_K := (yX9_safe, cX9_safe, 6, (some .int))
theorem mX9_safe : ax_mv kX9_safe 2 := ⟨⟨wd_167, ax_in6 (List.mem_of_getElem? (i := 14) rfl), by decide +kernel, by decide +kernel, by decide⟩, ax_in6 (List.mem_of_getElem? (i := 12) rfl), ax_in6 (List.mem_of_getElem? (i := 13) rfl)⟩
abbrev kX9_loaded : ax_K := (yX9_loaded, cX9_loaded, 11, (some .long))
theorem mX9_loaded : ax_mv kX9_loaded 4 := ⟨⟨wd_167, ax_in6 (List.mem_of_getElem? (i := 22) rfl), by decide +kernel, by decide +kernel, by decide⟩, ax_in6 (List.mem_of_getElem? (i := 20) rfl), ax_in6 (List.mem_of_getElem? (i := 21) rfl)⟩
abbrev kX9_power : ax_K := (yX9_power, cX9_power, 5, (some .long))
theorem mX9_power : ax_ms kX9_power 2 := ⟨⟨wd_167, ax_in6 (List.mem_of_getElem? (i := 25) rfl), by decide +kernel, by decide +kernel, by decide⟩, ax_in6 (List.mem_of_getElem? (i := 24) rfl)⟩
abbrev kX9_commonDivisor : ax_K := (yX9_commonDivisor, cX9_commonDivisor, 11, (some .long))
theorem mX9_commonDivisor : ax_ms kX9_commonDivisor 2 := ⟨⟨wd_167, ax_in6 (List.mem_of_getElem? (i := 28) rfl), by decide +kernel, by decide +kernel, by decide⟩, ax_in6 (List.mem_of_getElem? (i := 27) rfl)⟩
abbrev kX9_blinds : ax_K := (yX9_blinds, cX9_blinds, 2, (some .int))
theorem mX9_blinds : ax_mv kX9_blinds 1 := ⟨⟨wd_167, ax_in6 (List.mem_of_getElem? (i := 35) rfl), by decide +kernel, by decide +kernel, by decide⟩, ax_in6 (List.mem_of_getElem? (i := 33) rfl), ax_in6 (List.mem_of_getElem? (i := 34) rfl)⟩
abbrev kX9_old : ax_K := (yX9_old, cX9_old, 3, (some .int))
theorem mX9_old : ax_mv kX9_old 1 := ⟨⟨wd_167, ax_in6 (List.mem_of_getElem? (i := 43) rfl), by decide +kernel, by decide +kernel, by decide⟩, ax_in6 (List.mem_of_getElem? (i := 41) rfl), ax_in6 (List.mem_of_getElem? (i := 42) rfl)⟩
abbrev kX9_between : ax_K := (yX9_between, cX9_between, 3, (some .boolean))
theorem mX9_between : ax_mv kX9_between 2 := ⟨⟨wd_167, ax_in6 (List.mem_of_getElem? (i := 50) rfl), by decide +kernel, by decide +kernel, by decide⟩, ax_in6 (List.mem_of_getElem? (i := 48) rfl), ax_in6 (List.mem_of_getElem? (i := 49) rfl)⟩
abbrev kX9_gets : ax_K := (yX9_gets, cX9_gets, 3, (some .int))
theorem mX9_gets : ax_mv kX9_gets 2 := ⟨⟨wd_167, ax_in6 (List.mem_of_getElem? (i := 57) rfl), by decide +kernel, by decide +kernel, by decide⟩, ax_in6 (List.mem_of_getElem? (i := 55) rfl), ax_in6 (List.mem_of_getElem? (i := 56) rfl)⟩
abbrev kX9_gain : ax_K := (yX9_gain, cX9_gain, 3, (some .int))
theorem mX9_gain : ax_ms kX9_gain 2 := ⟨⟨wd_167, ax_in6 (List.mem_of_getElem? (i := 60) rfl), by decide +kernel, by decide +kernel, by decide⟩, ax_in6 (List.mem_of_getElem? (i := 59) rfl)⟩
abbrev kX9_bulbs : ax_K := (yX9_bulbs, cX9_bulbs, 5, (some .int))
theorem mX9_bulbs : ax_mv kX9_bulbs 2 := ⟨⟨wd_167, ax_in6 (List.mem_of_getElem? (i := 67) rfl), by decide +kernel, by decide +kernel, by decide⟩, ax_in6 (List.mem_of_getElem? (i := 65) rfl), ax_in6 (List.mem_of_getElem? (i := 66) rfl)⟩
abbrev kX9_distances : ax_K := (yX9_distances, cX9_distances, 1, (some .long))
theorem mX9_distances : ax_mv kX9_distances 0 := ⟨⟨wd_167, ax_in6 (List.mem_of_getElem? (i := 74) rfl), by decide +kernel, by decide +kernel, by decide⟩, ax_in6 (List.mem_of_getElem? (i := 72) rfl), ax_in6 (List.mem_of_getElem? (i := 73) rfl)⟩
abbrev kX9_distanceBits : ax_K := (yX9_distanceBits, cX9_distanceBits, 5, (some .long))
theorem mX9_distanceBits : ax_mv kX9_distanceBits 1 := ⟨⟨wd_167, ax_in6 (List.mem_of_getElem? (i := 78) rfl), by decide +kernel, by decide +kernel, by decide⟩, ax_in6 (List.mem_of_getElem? (i := 77) rfl), ax_ps7 (List.mem_of_getElem? (i := 3) rfl)⟩
abbrev kX9_bookFits : ax_K := (yX9_bookFits, cX9_bookFits, 5, (some .boolean))
theorem mX9_bookFits : ax_mv kX9_bookFits 2 := ⟨⟨wd_167, ax_in6 (List.mem_of_getElem? (i := 82) rfl), by decide +kernel, by decide +kernel, by decide⟩, ax_in6 (List.mem_of_getElem? (i := 81) rfl), ax_ps7 (List.mem_of_getElem? (i := 4) rfl)⟩
abbrev kX9_look : ax_K := (yX9_look, cX9_look, 9, (some .int))
theorem mX9_look : ax_mv kX9_look 1 := ⟨⟨wd_167, ax_in6 (List.mem_of_getElem? (i := 90) rfl), by decide +kernel, by decide +kernel, by decide⟩, ax_in6 (List.mem_of_getElem? (i := 88) rfl), ax_in6 (List.mem_of_getElem? (i := 89) rfl)⟩
abbrev kX9_worstLeft : ax_K := (yX9_worstLeft, cX9_worstLeft, 8, (some .int))
theorem mX9_worstLeft : ax_ms kX9_worstLeft 3 := ⟨⟨wd_167, ax_in6 (List.mem_of_getElem? (i := 93) rfl), by decide +kernel, by decide +kernel, by decide⟩, ax_in6 (List.mem_of_getElem? (i := 92) rfl)⟩
abbrev kX9_right : ax_K := (yX9_right, cX9_right, 4, (some .int))
theorem mX9_right : ax_mv kX9_right 0 := ⟨⟨wd_167, ax_in6 (List.mem_of_getElem? (i := 101) rfl), by decide +kernel, by decide +kernel, by decide⟩, ax_in6 (List.mem_of_getElem? (i := 99) rfl), ax_in6 (List.mem_of_getElem? (i := 100) rfl)⟩
abbrev kX9_nights : ax_K := (yX9_nights, cX9_nights, 16, (some .int))
theorem mX9_nights : ax_mv kX9_nights 3 := ⟨⟨wd_167, ax_in6 (List.mem_of_getElem? (i := 108) rfl), by decide +kernel, by decide +kernel, by decide⟩, ax_in6 (List.mem_of_getElem? (i := 106) rfl), ax_in6 (List.mem_of_getElem? (i := 107) rfl)⟩
abbrev kX9_darkest : ax_K := (yX9_darkest, cX9_darkest, 6, (some .int))
theorem mX9_darkest : ax_mv kX9_darkest 1 := ⟨⟨wd_167, ax_in6 (List.mem_of_getElem? (i := 121) rfl), by decide +kernel, by decide +kernel, by decide⟩, ax_in6 (List.mem_of_getElem? (i := 119) rfl), ax_in6 (List.mem_of_getElem? (i := 120) rfl)⟩
abbrev kX9_dark : ax_K := (yX9_dark, cX9_dark, 5, (some .int))
theorem mX9_dark : ax_mv kX9_dark 2 := ⟨⟨wd_167, ax_in6 (List.mem_of_getElem? (i := 132) rfl), by decide +kernel, by decide +kernel, by decide⟩, ax_in6 (List.mem_of_getElem? (i := 130) rfl), ax_in6 (List.mem_of_getElem? (i := 131) rfl)⟩
abbrev kX9_dips : ax_K := (yX9_dips, cX9_dips, 5, (some .int))
theorem mX9_dips : ax_mv kX9_dips 2 := ⟨⟨wd_167, ax_in6 (List.mem_of_getElem? (i := 139) rfl), by decide +kernel, by decide +kernel, by decide⟩, ax_in6 (List.mem_of_getElem? (i := 137) rfl), ax_in6 (List.mem_of_getElem? (i := 138) rfl)⟩
abbrev kX9_gap : ax_K := (yX9_gap, cX9_gap, 8, (some .int))
theorem mX9_gap : ax_mv kX9_gap 2 := ⟨⟨wd_167, ax_in6 (List.mem_of_getElem? (i := 150) rfl), by decide +kernel, by decide +kernel, by decide⟩, ax_in6 (List.mem_of_getElem? (i := 148) rfl), ax_in6 (List.mem_of_getElem? (i := 149) rfl)⟩
abbrev kX9_needs : ax_K := (yX9_needs, cX9_needs, 3, (some .int))
theorem mX9_needs : ax_mv kX9_needs 1 := ⟨⟨wd_167, ax_in6 (List.mem_of_getElem? (i := 157) rfl), by decide +kernel, by decide +kernel, by decide⟩, ax_in6 (List.mem_of_getElem? (i := 155) rfl), ax_in6 (List.mem_of_getElem? (i := 156) rfl)⟩
abbrev kX9_clear : ax_K := (yX9_clear, cX9_clear, 6, (some .int))
theorem mX9_clear : ax_mv kX9_clear 1 := ⟨⟨wd_167, ax_in6 (List.mem_of_getElem? (i := 164) rfl), by decide +kernel, by decide +kernel, by decide⟩, ax_in6 (List.mem_of_getElem? (i := 162) rfl), ax_in6 (List.mem_of_getElem? (i := 163) rfl)⟩
abbrev kX9_paces : ax_K := (yX9_paces, cX9_paces, 11, (some .int))
theorem mX9_paces : ax_mv kX9_paces 1 := ⟨⟨wd_167, ax_in6 (List.mem_of_getElem? (i := 171) rfl), by decide +kernel, by decide +kernel, by decide⟩, ax_in6 (List.mem_of_getElem? (i := 169) rfl), ax_in6 (List.mem_of_getElem? (i := 170) rfl)⟩
abbrev kX9_finds : ax_K := (yX9_finds, cX9_finds, 9, (some .int))
theorem mX9_finds : ax_mv kX9_finds 2 := ⟨⟨wd_167, ax_in6 (List.mem_of_getElem? (i := 179) rfl), by decide +kernel, by decide +kernel, by decide⟩, ax_in6 (List.mem_of_getElem? (i := 177) rfl), ax_in6 (List.mem_of_getElem? (i := 178) rfl)⟩
abbrev kX9_drives : ax_K := (yX9_drives, cX9_drives, 4, (some .int))
theorem mX9_drives : ax_mv kX9_drives 3 := ⟨⟨wd_167, ax_in6 (List.mem_of_getElem? (i := 186) rfl), by decide +kernel, by decide +kernel, by decide⟩, ax_in6 (List.mem_of_getElem? (i := 184) rfl), ax_in6 (List.mem_of_getElem? (i := 185) rfl)⟩
abbrev kX9_stands : ax_K := (yX9_stands, cX9_stands, 4, (some .int))
theorem mX9_stands : ax_mv kX9_stands 3 := ⟨⟨wd_167, ax_in6 (List.mem_of_getElem? (i := 207) rfl), by decide +kernel, by decide +kernel, by decide⟩, ax_in6 (List.mem_of_getElem? (i := 205) rfl), ax_in6 (List.mem_of_getElem? (i := 206) rfl)⟩
abbrev kX9_weather : ax_K := (yX9_weather, cX9_weather, 3, (some .int))
theorem mX9_weather : ax_mv kX9_weather 2 := ⟨⟨wd_167, ax_in6 (List.mem_of_getElem? (i := 214) rfl), by decide +kernel, by decide +kernel, by decide⟩, ax_in6 (List.mem_of_getElem? (i := 212) rfl), ax_in6 (List.mem_of_getElem? (i := 213) rfl)⟩
abbrev kX9_change : ax_K := (yX9_change, cX9_change, 5, (some .int))
theorem mX9_change : ax_mv kX9_change 4 := ⟨⟨wd_167, ax_in6 (List.mem_of_getElem? (i := 190) rfl), by decide +kernel, by decide +kernel, by decide⟩, ax_in6 (List.mem_of_getElem? (i := 189) rfl), ax_ps7 (List.mem_of_getElem? (i := 8) rfl)⟩
abbrev kX9_undo : ax_K := (yX9_undo, cX9_undo, 1, (some .int))
theorem mX9_undo : ax_mv kX9_undo 0 := ⟨⟨wd_167, ax_in3 (List.mem_of_getElem? (i := 87) rfl), by decide +kernel, by decide +kernel, by decide⟩, ax_in3 (List.mem_of_getElem? (i := 85) rfl), ax_in3 (List.mem_of_getElem? (i := 86) rfl)⟩
abbrev kX9_image : ax_K := (yX9_image, cX9_image, 1, (some .int))
theorem mX9_image : ax_mv kX9_image 0 := ⟨⟨wd_167, ax_in3 (List.mem_of_getElem? (i := 102) rfl), by decide +kernel, by decide +kernel, by decide⟩, ax_in3 (List.mem_of_getElem? (i := 100) rfl), ax_in3 (List.mem_of_getElem? (i := 101) rfl)⟩
abbrev kX9_restore : ax_K := (yX9_restore, cX9_restore, 1, (some .int))
theorem mX9_restore : ax_mv kX9_restore 0 := ⟨⟨wd_167, ax_in3 (List.mem_of_getElem? (i := 116) rfl), by decide +kernel, by decide +kernel, by decide⟩, ax_in3 (List.mem_of_getElem? (i := 114) rfl), ax_in3 (List.mem_of_getElem? (i := 115) rfl)⟩
abbrev kX9_status : ax_K := (yX9_status, cX9_status, 2, (some .int))
theorem mX9_status : ax_mv kX9_status 1 := ⟨⟨wd_167, ax_in3 (List.mem_of_getElem? (i := 127) rfl), by decide +kernel, by decide +kernel, by decide⟩, ax_in3 (List.mem_of_getElem? (i := 125) rfl), ax_in3 (List.mem_of_getElem? (i := 126) rfl)⟩
abbrev kX9_count : ax_K := (yX9_count, cX9_count, 2, (some .int))
theorem mX9_count : ax_mv kX9_count 1 := ⟨⟨wd_167, ax_in3 (List.mem_of_getElem? (i := 131) rfl), by decide +kernel, by decide +kernel, by decide⟩, ax_in3 (List.mem_of_getElem? (i := 129) rfl), ax_in3 (List.mem_of_getElem? (i := 130) rfl)⟩
abbrev kX9_needElement : ax_K := (yX9_needElement, cX9_needElement, 2, none)
theorem mX9_needElement : ax_mv kX9_needElement 1 := ⟨⟨wd_167, ax_in4 (List.mem_of_getElem? (i := 183) rfl), by decide +kernel, by decide +kernel, by decide⟩, ax_in4 (List.mem_of_getElem? (i := 182) rfl), ax_ps4 (List.mem_of_getElem? (i := 13) rfl)⟩
abbrev kX9_needCar : ax_K := (yX9_needCar, cX9_needCar, 2, none)
theorem mX9_needCar : ax_mv kX9_needCar 1 := ⟨⟨wd_167, ax_in5 (List.mem_of_getElem? (i := 13) rfl), by decide +kernel, by decide +kernel, by decide⟩, ax_in5 (List.mem_of_getElem? (i := 12) rfl), ax_ps5 (List.mem_of_getElem? (i := 4) rfl)⟩
abbrev kX9_needCoat : ax_K := (yX9_needCoat, cX9_needCoat, 2, none)
theorem mX9_needCoat : ax_mv kX9_needCoat 1 := ⟨⟨wd_167, ax_in5 (List.mem_of_getElem? (i := 25) rfl), by decide +kernel, by decide +kernel, by decide⟩, ax_in5 (List.mem_of_getElem? (i := 24) rfl), ax_ps5 (List.mem_of_getElem? (i := 5) rfl)⟩
abbrev kX9_needArgument : ax_K := (yX9_needArgument, cX9_needArgument, 2, none)
theorem mX9_needArgument : ax_mv kX9_needArgument 1 := ⟨⟨wd_167, ax_in3 (List.mem_of_getElem? (i := 147) rfl), by decide +kernel, by decide +kernel, by decide⟩, ax_in3 (List.mem_of_getElem? (i := 146) rfl), ax_ps3 (List.mem_of_getElem? (i := 3) rfl)⟩
abbrev kX9_needRange : ax_K := (yX9_needRange, cX9_needRange, 4, none)
theorem mX9_needRange : ax_mv kX9_needRange 3 := ⟨⟨wd_167, ax_in4 (List.mem_of_getElem? (i := 238) rfl), by decide +kernel, by decide +kernel, by decide⟩, ax_in4 (List.mem_of_getElem? (i := 237) rfl), ax_ps5 (List.mem_of_getElem? (i := 2) rfl)⟩
abbrev kX9_needTwoCars : ax_K := (yX9_needTwoCars, cX9_needTwoCars, 1, none)
theorem mX9_needTwoCars : ax_mv kX9_needTwoCars 0 := ⟨⟨wd_167, ax_in5 (List.mem_of_getElem? (i := 135) rfl), by decide +kernel, by decide +kernel, by decide⟩, ax_in5 (List.mem_of_getElem? (i := 134) rfl), ax_ps6 (List.mem_of_getElem? (i := 4) rfl)⟩
abbrev kX10_init : ax_K := (yX10_init, cX10_init, 1, none)
theorem mX10_init : ax_mi kX10_init 0 := ⟨⟨wd_177, ax_in6 (List.mem_of_getElem? (i := 219) rfl), by decide +kernel, by decide +kernel, by decide⟩, ax_in6 (List.mem_of_getElem? (i := 218) rfl), rfl⟩
abbrev kX10_tellsNothing : ax_K := (yX10_tellsNothing, cX10_tellsNothing, 2, none)
theorem mX10_tellsNothing : ax_mv kX10_tellsNothing 0 := ⟨⟨wd_177, ax_in6 (List.mem_of_getElem? (i := 227) rfl), by decide +kernel, by decide +kernel, by decide⟩, ax_in6 (List.mem_of_getElem? (i := 226) rfl), ax_ps7 (List.mem_of_getElem? (i := 10) rfl)⟩
abbrev kX10_thrown : ax_K := (yX10_thrown, cX10_thrown, 1, (some .int))
theorem mX10_thrown : ax_mv kX10_thrown 0 := ⟨⟨wd_177, ax_in7 (List.mem_of_getElem? (i := 158) rfl), by decide +kernel, by decide +kernel, by decide⟩, ax_in7 (List.mem_of_getElem? (i := 156) rfl), ax_in7 (List.mem_of_getElem? (i := 157) rfl)⟩
abbrev kX10_bad : ax_K := (yX10_bad, cX10_bad, 4, (some .boolean))
theorem mX10_bad : ax_mv kX10_bad 3 := ⟨⟨wd_177, ax_in7 (List.mem_of_getElem? (i := 173) rfl), by decide +kernel, by decide +kernel, by decide⟩, ax_in7 (List.mem_of_getElem? (i := 172) rfl), ax_ps7 (List.mem_of_getElem? (i := 12) rfl)⟩
abbrev kX10_in : ax_K := (yX10_in, cX10_in, 3, (some .boolean))
theorem mX10_in : ax_ms kX10_in 3 := ⟨⟨wd_177, ax_in7 (List.mem_of_getElem? (i := 169) rfl), by decide +kernel, by decide +kernel, by decide⟩, ax_in7 (List.mem_of_getElem? (i := 168) rfl)⟩
abbrev kX10_less : ax_K := (yX10_less, cX10_less, 2, (some .int))
theorem mX10_less : ax_ms kX10_less 2 := ⟨⟨wd_177, ax_in8 (List.mem_of_getElem? (i := 62) rfl), by decide +kernel, by decide +kernel, by decide⟩, ax_in8 (List.mem_of_getElem? (i := 61) rfl)⟩
abbrev kX10_more : ax_K := (yX10_more, cX10_more, 2, (some .int))
theorem mX10_more : ax_ms kX10_more 2 := ⟨⟨wd_177, ax_in8 (List.mem_of_getElem? (i := 65) rfl), by decide +kernel, by decide +kernel, by decide⟩, ax_in8 (List.mem_of_getElem? (i := 64) rfl)⟩
abbrev kX10_far : ax_K := (yX10_far, cX10_far, 2, (some .int))
theorem mX10_far : ax_ms kX10_far 2 := ⟨⟨wd_177, ax_in8 (List.mem_of_getElem? (i := 120) rfl), by decide +kernel, by decide +kernel, by decide⟩, ax_in8 (List.mem_of_getElem? (i := 119) rfl)⟩
abbrev kX10_feed : ax_K := (yX10_feed, cX10_feed, 8, (some .int))
theorem mX10_feed : ax_mv kX10_feed 5 := ⟨⟨wd_177, ax_in7 (List.mem_of_getElem? (i := 162) rfl), by decide +kernel, by decide +kernel, by decide⟩, ax_in7 (List.mem_of_getElem? (i := 160) rfl), ax_in7 (List.mem_of_getElem? (i := 161) rfl)⟩
abbrev kX10_byteAt : ax_K := (yX10_byteAt, cX10_byteAt, 2, (some .int))
theorem mX10_byteAt : ax_mv kX10_byteAt 1 := ⟨⟨wd_177, ax_in7 (List.mem_of_getElem? (i := 185) rfl), by decide +kernel, by decide +kernel, by decide⟩, ax_in7 (List.mem_of_getElem? (i := 184) rfl), ax_ps7 (List.mem_of_getElem? (i := 15) rfl)⟩
abbrev kX10_blanks : ax_K := (yX10_blanks, cX10_blanks, 1, none)
theorem mX10_blanks : ax_mv kX10_blanks 0 := ⟨⟨wd_177, ax_in7 (List.mem_of_getElem? (i := 181) rfl), by decide +kernel, by decide +kernel, by decide⟩, ax_in7 (List.mem_of_getElem? (i := 180) rfl), ax_ps7 (List.mem_of_getElem? (i := 14) rfl)⟩
abbrev kX10_wrong : ax_K := (yX10_wrong, cX10_wrong, 3, none)
theorem mX10_wrong : ax_mv kX10_wrong 2 := ⟨⟨wd_177, ax_in7 (List.mem_of_getElem? (i := 211) rfl), by decide +kernel, by decide +kernel, by decide⟩, ax_in7 (List.mem_of_getElem? (i := 210) rfl), ax_ps8 (List.mem_of_getElem? (i := 4) rfl)⟩
abbrev kX10_isDigit : ax_K := (yX10_isDigit, cX10_isDigit, 1, (some .boolean))
theorem mX10_isDigit : ax_ms kX10_isDigit 1 := ⟨⟨wd_177, ax_in7 (List.mem_of_getElem? (i := 226) rfl), by decide +kernel, by decide +kernel, by decide⟩, ax_in7 (List.mem_of_getElem? (i := 225) rfl)⟩
abbrev kX10_isSmall : ax_K := (yX10_isSmall, cX10_isSmall, 1, (some .boolean))
theorem mX10_isSmall : ax_ms kX10_isSmall 1 := ⟨⟨wd_177, ax_in7 (List.mem_of_getElem? (i := 204) rfl), by decide +kernel, by decide +kernel, by decide⟩, ax_in7 (List.mem_of_getElem? (i := 203) rfl)⟩
abbrev kX10_number : ax_K := (yX10_number, cX10_number, 5, (some .int))
theorem mX10_number : ax_mv kX10_number 2 := ⟨⟨wd_177, ax_in7 (List.mem_of_getElem? (i := 223) rfl), by decide +kernel, by decide +kernel, by decide⟩, ax_in7 (List.mem_of_getElem? (i := 222) rfl), ax_ps8 (List.mem_of_getElem? (i := 7) rfl)⟩
abbrev kX10_wordHere : ax_K := (yX10_wordHere, cX10_wordHere, 3, (some .int))
theorem mX10_wordHere : ax_mv kX10_wordHere 0 := ⟨⟨wd_177, ax_in7 (List.mem_of_getElem? (i := 201) rfl), by decide +kernel, by decide +kernel, by decide⟩, ax_in7 (List.mem_of_getElem? (i := 200) rfl), ax_ps8 (List.mem_of_getElem? (i := 3) rfl)⟩
abbrev kX10_six : ax_K := (yX10_six, cX10_six, 7, (some .int))
theorem mX10_six : ax_ms kX10_six 6 := ⟨⟨wd_177, ax_in7 (List.mem_of_getElem? (i := 207) rfl), by decide +kernel, by decide +kernel, by decide⟩, ax_in7 (List.mem_of_getElem? (i := 206) rfl)⟩
abbrev kX10_isWord : ax_K := (yX10_isWord, cX10_isWord, 7, (some .boolean))
theorem mX10_isWord : ax_mv kX10_isWord 6 := ⟨⟨wd_177, ax_in7 (List.mem_of_getElem? (i := 197) rfl), by decide +kernel, by decide +kernel, by decide⟩, ax_in7 (List.mem_of_getElem? (i := 196) rfl), ax_ps8 (List.mem_of_getElem? (i := 2) rfl)⟩
abbrev kX10_skipWord : ax_K := (yX10_skipWord, cX10_skipWord, 1, none)
theorem mX10_skipWord : ax_mv kX10_skipWord 0 := ⟨⟨wd_177, ax_in7 (List.mem_of_getElem? (i := 219) rfl), by decide +kernel, by decide +kernel, by decide⟩, ax_in7 (List.mem_of_getElem? (i := 218) rfl), ax_ps8 (List.mem_of_getElem? (i := 6) rfl)⟩
abbrev kX10_takes : ax_K := (yX10_takes, cX10_takes, 8, (some .boolean))
theorem mX10_takes : ax_mv kX10_takes 6 := ⟨⟨wd_177, ax_in8 (List.mem_of_getElem? (i := 35) rfl), by decide +kernel, by decide +kernel, by decide⟩, ax_in8 (List.mem_of_getElem? (i := 34) rfl), ax_ps9 (List.mem_of_getElem? (i := 2) rfl)⟩
abbrev kX10_sign : ax_K := (yX10_sign, cX10_sign, 2, none)
theorem mX10_sign : ax_mv kX10_sign 1 := ⟨⟨wd_177, ax_in7 (List.mem_of_getElem? (i := 235) rfl), by decide +kernel, by decide +kernel, by decide⟩, ax_in7 (List.mem_of_getElem? (i := 234) rfl), ax_ps8 (List.mem_of_getElem? (i := 9) rfl)⟩
abbrev kX10_takesSign : ax_K := (yX10_takesSign, cX10_takesSign, 3, (some .boolean))
theorem mX10_takesSign : ax_mv kX10_takesSign 1 := ⟨⟨wd_177, ax_in8 (List.mem_of_getElem? (i := 39) rfl), by decide +kernel, by decide +kernel, by decide⟩, ax_in8 (List.mem_of_getElem? (i := 38) rfl), ax_ps9 (List.mem_of_getElem? (i := 3) rfl)⟩
abbrev kX10_starts : ax_K := (yX10_starts, cX10_starts, 2, none)
theorem mX10_starts : ax_mv kX10_starts 1 := ⟨⟨wd_177, ax_in7 (List.mem_of_getElem? (i := 177) rfl), by decide +kernel, by decide +kernel, by decide⟩, ax_in7 (List.mem_of_getElem? (i := 176) rfl), ax_ps7 (List.mem_of_getElem? (i := 13) rfl)⟩
abbrev kX10_ends : ax_K := (yX10_ends, cX10_ends, 1, (some .int))
theorem mX10_ends : ax_mv kX10_ends 0 := ⟨⟨wd_177, ax_in7 (List.mem_of_getElem? (i := 239) rfl), by decide +kernel, by decide +kernel, by decide⟩, ax_in7 (List.mem_of_getElem? (i := 238) rfl), ax_ps8 (List.mem_of_getElem? (i := 10) rfl)⟩
abbrev kX10_kindHere : ax_K := (yX10_kindHere, cX10_kindHere, 1, (some .int))
theorem mX10_kindHere : ax_mv kX10_kindHere 0 := ⟨⟨wd_177, ax_in7 (List.mem_of_getElem? (i := 193) rfl), by decide +kernel, by decide +kernel, by decide⟩, ax_in7 (List.mem_of_getElem? (i := 192) rfl), ax_ps8 (List.mem_of_getElem? (i := 1) rfl)⟩
abbrev kX10_isFull : ax_K := (yX10_isFull, cX10_isFull, 2, (some .boolean))
theorem mX10_isFull : ax_mv kX10_isFull 1 := ⟨⟨wd_177, ax_in7 (List.mem_of_getElem? (i := 215) rfl), by decide +kernel, by decide +kernel, by decide⟩, ax_in7 (List.mem_of_getElem? (i := 214) rfl), ax_ps8 (List.mem_of_getElem? (i := 5) rfl)⟩
abbrev kX10_cellHere : ax_K := (yX10_cellHere, cX10_cellHere, 1, (some .int))
theorem mX10_cellHere : ax_mv kX10_cellHere 0 := ⟨⟨wd_177, ax_in7 (List.mem_of_getElem? (i := 231) rfl), by decide +kernel, by decide +kernel, by decide⟩, ax_in7 (List.mem_of_getElem? (i := 230) rfl), ax_ps8 (List.mem_of_getElem? (i := 8) rfl)⟩
abbrev kX10_clause : ax_K := (yX10_clause, cX10_clause, 4, none)
theorem mX10_clause : ax_mv kX10_clause 0 := ⟨⟨wd_177, ax_in7 (List.mem_of_getElem? (i := 189) rfl), by decide +kernel, by decide +kernel, by decide⟩, ax_in7 (List.mem_of_getElem? (i := 188) rfl), ax_ps8 (List.mem_of_getElem? (i := 0) rfl)⟩
abbrev kX10_road : ax_K := (yX10_road, cX10_road, 2, (some .int))
theorem mX10_road : ax_mv kX10_road 1 := ⟨⟨wd_177, ax_in7 (List.mem_of_getElem? (i := 166) rfl), by decide +kernel, by decide +kernel, by decide⟩, ax_in7 (List.mem_of_getElem? (i := 164) rfl), ax_in7 (List.mem_of_getElem? (i := 165) rfl)⟩
abbrev kX10_copies : ax_K := (yX10_copies, cX10_copies, 4, none)
theorem mX10_copies : ax_ms kX10_copies 3 := ⟨⟨wd_177, ax_in6 (List.mem_of_getElem? (i := 234) rfl), by decide +kernel, by decide +kernel, by decide⟩, ax_in6 (List.mem_of_getElem? (i := 233) rfl)⟩
abbrev kX10_standsNow : ax_K := (yX10_standsNow, cX10_standsNow, 2, none)
theorem mX10_standsNow : ax_mv kX10_standsNow 0 := ⟨⟨wd_177, ax_in6 (List.mem_of_getElem? (i := 231) rfl), by decide +kernel, by decide +kernel, by decide⟩, ax_in6 (List.mem_of_getElem? (i := 230) rfl), ax_ps7 (List.mem_of_getElem? (i := 11) rfl)⟩
abbrev kX10_notes : ax_K := (yX10_notes, cX10_notes, 3, none)
theorem mX10_notes : ax_mv kX10_notes 2 := ⟨⟨wd_177, ax_in8 (List.mem_of_getElem? (i := 27) rfl), by decide +kernel, by decide +kernel, by decide⟩, ax_in8 (List.mem_of_getElem? (i := 26) rfl), ax_ps9 (List.mem_of_getElem? (i := 0) rfl)⟩
abbrev kX10_opens : ax_K := (yX10_opens, cX10_opens, 1, (some .boolean))
theorem mX10_opens : ax_mv kX10_opens 0 := ⟨⟨wd_177, ax_in8 (List.mem_of_getElem? (i := 23) rfl), by decide +kernel, by decide +kernel, by decide⟩, ax_in8 (List.mem_of_getElem? (i := 22) rfl), ax_ps8 (List.mem_of_getElem? (i := 15) rfl)⟩
abbrev kX10_sum : ax_K := (yX10_sum, cX10_sum, 2, none)
theorem mX10_sum : ax_mv kX10_sum 0 := ⟨⟨wd_177, ax_in8 (List.mem_of_getElem? (i := 11) rfl), by decide +kernel, by decide +kernel, by decide⟩, ax_in8 (List.mem_of_getElem? (i := 10) rfl), ax_ps8 (List.mem_of_getElem? (i := 12) rfl)⟩
abbrev kX10_product : ax_K := (yX10_product, cX10_product, 2, none)
theorem mX10_product : ax_mv kX10_product 0 := ⟨⟨wd_177, ax_in8 (List.mem_of_getElem? (i := 15) rfl), by decide +kernel, by decide +kernel, by decide⟩, ax_in8 (List.mem_of_getElem? (i := 14) rfl), ax_ps8 (List.mem_of_getElem? (i := 13) rfl)⟩
abbrev kX10_knownHere : ax_K := (yX10_knownHere, cX10_knownHere, 1, (some .int))
theorem mX10_knownHere : ax_mv kX10_knownHere 0 := ⟨⟨wd_177, ax_in8 (List.mem_of_getElem? (i := 31) rfl), by decide +kernel, by decide +kernel, by decide⟩, ax_in8 (List.mem_of_getElem? (i := 30) rfl), ax_ps9 (List.mem_of_getElem? (i := 1) rfl)⟩
abbrev kX10_one : ax_K := (yX10_one, cX10_one, 3, none)
theorem mX10_one : ax_mv kX10_one 0 := ⟨⟨wd_177, ax_in8 (List.mem_of_getElem? (i := 19) rfl), by decide +kernel, by decide +kernel, by decide⟩, ax_in8 (List.mem_of_getElem? (i := 18) rfl), ax_ps8 (List.mem_of_getElem? (i := 14) rfl)⟩
abbrev kX10_reads : ax_K := (yX10_reads, cX10_reads, 3, (some .int))
theorem mX10_reads : ax_mv kX10_reads 2 := ⟨⟨wd_177, ax_in8 (List.mem_of_getElem? (i := 7) rfl), by decide +kernel, by decide +kernel, by decide⟩, ax_in8 (List.mem_of_getElem? (i := 6) rfl), ax_ps8 (List.mem_of_getElem? (i := 11) rfl)⟩
abbrev kX10_law : ax_K := (yX10_law, cX10_law, 2, (some .int))
theorem mX10_law : ax_mv kX10_law 1 := ⟨⟨wd_177, ax_in8 (List.mem_of_getElem? (i := 3) rfl), by decide +kernel, by decide +kernel, by decide⟩, ax_in8 (List.mem_of_getElem? (i := 1) rfl), ax_in8 (List.mem_of_getElem? (i := 2) rfl)⟩
abbrev kX10_rule : ax_K := (yX10_rule, cX10_rule, 3, (some .int))
theorem mX10_rule : ax_mv kX10_rule 2 := ⟨⟨wd_177, ax_in8 (List.mem_of_getElem? (i := 43) rfl), by decide +kernel, by decide +kernel, by decide⟩, ax_in8 (List.mem_of_getElem? (i := 41) rfl), ax_in8 (List.mem_of_getElem? (i := 42) rfl)⟩
abbrev kX10_by : ax_K := (yX10_by, cX10_by, 3, (some .int))
theorem mX10_by : ax_ms kX10_by 3 := ⟨⟨wd_177, ax_in8 (List.mem_of_getElem? (i := 131) rfl), by decide +kernel, by decide +kernel, by decide⟩, ax_in8 (List.mem_of_getElem? (i := 130) rfl)⟩
abbrev kX10_worked : ax_K := (yX10_worked, cX10_worked, 7, (some .int))
theorem mX10_worked : ax_mv kX10_worked 1 := ⟨⟨wd_177, ax_in8 (List.mem_of_getElem? (i := 128) rfl), by decide +kernel, by decide +kernel, by decide⟩, ax_in8 (List.mem_of_getElem? (i := 127) rfl), ax_ps10 (List.mem_of_getElem? (i := 0) rfl)⟩
abbrev kX10_sightBy : ax_K := (yX10_sightBy, cX10_sightBy, 2, (some .int))
theorem mX10_sightBy : ax_mv kX10_sightBy 0 := ⟨⟨wd_177, ax_in8 (List.mem_of_getElem? (i := 143) rfl), by decide +kernel, by decide +kernel, by decide⟩, ax_in8 (List.mem_of_getElem? (i := 142) rfl), ax_ps10 (List.mem_of_getElem? (i := 3) rfl)⟩
abbrev kX10_beamsBy : ax_K := (yX10_beamsBy, cX10_beamsBy, 3, (some .int))
theorem mX10_beamsBy : ax_mv kX10_beamsBy 1 := ⟨⟨wd_177, ax_in8 (List.mem_of_getElem? (i := 124) rfl), by decide +kernel, by decide +kernel, by decide⟩, ax_in8 (List.mem_of_getElem? (i := 123) rfl), ax_ps9 (List.mem_of_getElem? (i := 15) rfl)⟩
abbrev kX10_book : ax_K := (yX10_book, cX10_book, 6, (some .int))
theorem mX10_book : ax_mv kX10_book 1 := ⟨⟨wd_177, ax_in8 (List.mem_of_getElem? (i := 47) rfl), by decide +kernel, by decide +kernel, by decide⟩, ax_in8 (List.mem_of_getElem? (i := 45) rfl), ax_in8 (List.mem_of_getElem? (i := 46) rfl)⟩
abbrev kX10_fault : ax_K := (yX10_fault, cX10_fault, 1, (some .int))
theorem mX10_fault : ax_mv kX10_fault 0 := ⟨⟨wd_177, ax_in8 (List.mem_of_getElem? (i := 51) rfl), by decide +kernel, by decide +kernel, by decide⟩, ax_in8 (List.mem_of_getElem? (i := 49) rfl), ax_in8 (List.mem_of_getElem? (i := 50) rfl)⟩
abbrev kX10_paceOf : ax_K := (yX10_paceOf, cX10_paceOf, 2, (some .int))
theorem mX10_paceOf : ax_mv kX10_paceOf 1 := ⟨⟨wd_177, ax_in8 (List.mem_of_getElem? (i := 81) rfl), by decide +kernel, by decide +kernel, by decide⟩, ax_in8 (List.mem_of_getElem? (i := 80) rfl), ax_ps9 (List.mem_of_getElem? (i := 7) rfl)⟩
abbrev kX10_tiltOf : ax_K := (yX10_tiltOf, cX10_tiltOf, 2, (some .int))
theorem mX10_tiltOf : ax_mv kX10_tiltOf 1 := ⟨⟨wd_177, ax_in8 (List.mem_of_getElem? (i := 85) rfl), by decide +kernel, by decide +kernel, by decide⟩, ax_in8 (List.mem_of_getElem? (i := 84) rfl), ax_ps9 (List.mem_of_getElem? (i := 8) rfl)⟩
abbrev kX10_isWet : ax_K := (yX10_isWet, cX10_isWet, 3, (some .boolean))
theorem mX10_isWet : ax_mv kX10_isWet 1 := ⟨⟨wd_177, ax_in8 (List.mem_of_getElem? (i := 69) rfl), by decide +kernel, by decide +kernel, by decide⟩, ax_in8 (List.mem_of_getElem? (i := 68) rfl), ax_ps9 (List.mem_of_getElem? (i := 5) rfl)⟩
abbrev kX10_isBendBetween : ax_K := (yX10_isBendBetween, cX10_isBendBetween, 4, (some .boolean))
theorem mX10_isBendBetween : ax_mv kX10_isBendBetween 2 := ⟨⟨wd_177, ax_in8 (List.mem_of_getElem? (i := 59) rfl), by decide +kernel, by decide +kernel, by decide⟩, ax_in8 (List.mem_of_getElem? (i := 58) rfl), ax_ps9 (List.mem_of_getElem? (i := 4) rfl)⟩
abbrev kX10_isOn : ax_K := (yX10_isOn, cX10_isOn, 2, (some .boolean))
theorem mX10_isOn : ax_mv kX10_isOn 1 := ⟨⟨wd_177, ax_in8 (List.mem_of_getElem? (i := 109) rfl), by decide +kernel, by decide +kernel, by decide⟩, ax_in8 (List.mem_of_getElem? (i := 108) rfl), ax_ps9 (List.mem_of_getElem? (i := 12) rfl)⟩
abbrev kX10_stopOf : ax_K := (yX10_stopOf, cX10_stopOf, 3, (some .int))
theorem mX10_stopOf : ax_mv kX10_stopOf 2 := ⟨⟨wd_177, ax_in8 (List.mem_of_getElem? (i := 147) rfl), by decide +kernel, by decide +kernel, by decide⟩, ax_in8 (List.mem_of_getElem? (i := 146) rfl), ax_ps10 (List.mem_of_getElem? (i := 4) rfl)⟩
abbrev kX10_blindsFor : ax_K := (yX10_blindsFor, cX10_blindsFor, 2, (some .int))
theorem mX10_blindsFor : ax_mv kX10_blindsFor 1 := ⟨⟨wd_177, ax_in8 (List.mem_of_getElem? (i := 135) rfl), by decide +kernel, by decide +kernel, by decide⟩, ax_in8 (List.mem_of_getElem? (i := 134) rfl), ax_ps10 (List.mem_of_getElem? (i := 1) rfl)⟩
abbrev kX10_knows : ax_K := (yX10_knows, cX10_knows, 7, none)
theorem mX10_knows : ax_mv kX10_knows 6 := ⟨⟨wd_177, ax_in8 (List.mem_of_getElem? (i := 117) rfl), by decide +kernel, by decide +kernel, by decide⟩, ax_in8 (List.mem_of_getElem? (i := 116) rfl), ax_ps9 (List.mem_of_getElem? (i := 14) rfl)⟩
abbrev kX10_meets : ax_K := (yX10_meets, cX10_meets, 5, none)
theorem mX10_meets : ax_mv kX10_meets 2 := ⟨⟨wd_177, ax_in8 (List.mem_of_getElem? (i := 105) rfl), by decide +kernel, by decide +kernel, by decide⟩, ax_in8 (List.mem_of_getElem? (i := 104) rfl), ax_ps9 (List.mem_of_getElem? (i := 11) rfl)⟩
abbrev kX10_goesTenth : ax_K := (yX10_goesTenth, cX10_goesTenth, 7, none)
theorem mX10_goesTenth : ax_mv kX10_goesTenth 2 := ⟨⟨wd_177, ax_in8 (List.mem_of_getElem? (i := 113) rfl), by decide +kernel, by decide +kernel, by decide⟩, ax_in8 (List.mem_of_getElem? (i := 112) rfl), ax_ps9 (List.mem_of_getElem? (i := 13) rfl)⟩
abbrev kX10_looksOut : ax_K := (yX10_looksOut, cX10_looksOut, 13, none)
theorem mX10_looksOut : ax_mv kX10_looksOut 4 := ⟨⟨wd_177, ax_in8 (List.mem_of_getElem? (i := 139) rfl), by decide +kernel, by decide +kernel, by decide⟩, ax_in8 (List.mem_of_getElem? (i := 138) rfl), ax_ps10 (List.mem_of_getElem? (i := 2) rfl)⟩
abbrev kX10_leaves : ax_K := (yX10_leaves, cX10_leaves, 2, none)
theorem mX10_leaves : ax_mv kX10_leaves 0 := ⟨⟨wd_177, ax_in8 (List.mem_of_getElem? (i := 151) rfl), by decide +kernel, by decide +kernel, by decide⟩, ax_in8 (List.mem_of_getElem? (i := 150) rfl), ax_ps10 (List.mem_of_getElem? (i := 5) rfl)⟩
abbrev kX10_asTold : ax_K := (yX10_asTold, cX10_asTold, 1, none)
theorem mX10_asTold : ax_mv kX10_asTold 0 := ⟨⟨wd_177, ax_in8 (List.mem_of_getElem? (i := 101) rfl), by decide +kernel, by decide +kernel, by decide⟩, ax_in8 (List.mem_of_getElem? (i := 100) rfl), ax_ps9 (List.mem_of_getElem? (i := 10) rfl)⟩
abbrev kX10_ones : ax_K := (yX10_ones, cX10_ones, 3, (some .int))
theorem mX10_ones : ax_ms kX10_ones 1 := ⟨⟨wd_177, ax_in8 (List.mem_of_getElem? (i := 198) rfl), by decide +kernel, by decide +kernel, by decide⟩, ax_in8 (List.mem_of_getElem? (i := 197) rfl)⟩
abbrev kX10_unsafeOf : ax_K := (yX10_unsafeOf, cX10_unsafeOf, 4, (some .int))
theorem mX10_unsafeOf : ax_mv kX10_unsafeOf 1 := ⟨⟨wd_177, ax_in8 (List.mem_of_getElem? (i := 175) rfl), by decide +kernel, by decide +kernel, by decide⟩, ax_in8 (List.mem_of_getElem? (i := 174) rfl), ax_ps10 (List.mem_of_getElem? (i := 6) rfl)⟩
abbrev kX10_costOf : ax_K := (yX10_costOf, cX10_costOf, 2, (some .int))
theorem mX10_costOf : ax_mv kX10_costOf 1 := ⟨⟨wd_177, ax_in8 (List.mem_of_getElem? (i := 195) rfl), by decide +kernel, by decide +kernel, by decide⟩, ax_in8 (List.mem_of_getElem? (i := 194) rfl), ax_ps10 (List.mem_of_getElem? (i := 9) rfl)⟩
abbrev kX10_told : ax_K := (yX10_told, cX10_told, 4, (some .int))
theorem mX10_told : ax_mv kX10_told 1 := ⟨⟨wd_177, ax_in8 (List.mem_of_getElem? (i := 55) rfl), by decide +kernel, by decide +kernel, by decide⟩, ax_in8 (List.mem_of_getElem? (i := 53) rfl), ax_in8 (List.mem_of_getElem? (i := 54) rfl)⟩
abbrev kX10_isCar : ax_K := (yX10_isCar, cX10_isCar, 2, (some .boolean))
theorem mX10_isCar : ax_mv kX10_isCar 1 := ⟨⟨wd_177, ax_in8 (List.mem_of_getElem? (i := 77) rfl), by decide +kernel, by decide +kernel, by decide⟩, ax_in8 (List.mem_of_getElem? (i := 76) rfl), ax_ps9 (List.mem_of_getElem? (i := 6) rfl)⟩
abbrev kX10_isCoat : ax_K := (yX10_isCoat, cX10_isCoat, 2, (some .boolean))
theorem mX10_isCoat : ax_mv kX10_isCoat 1 := ⟨⟨wd_177, ax_in8 (List.mem_of_getElem? (i := 93) rfl), by decide +kernel, by decide +kernel, by decide⟩, ax_in8 (List.mem_of_getElem? (i := 92) rfl), ax_ps9 (List.mem_of_getElem? (i := 9) rfl)⟩
abbrev kX10_car : ax_K := (yX10_car, cX10_car, 3, (some .int))
theorem mX10_car : ax_mv kX10_car 2 := ⟨⟨wd_177, ax_in8 (List.mem_of_getElem? (i := 73) rfl), by decide +kernel, by decide +kernel, by decide⟩, ax_in8 (List.mem_of_getElem? (i := 71) rfl), ax_in8 (List.mem_of_getElem? (i := 72) rfl)⟩
abbrev kX10_coat : ax_K := (yX10_coat, cX10_coat, 3, (some .int))
theorem mX10_coat : ax_mv kX10_coat 2 := ⟨⟨wd_177, ax_in8 (List.mem_of_getElem? (i := 89) rfl), by decide +kernel, by decide +kernel, by decide⟩, ax_in8 (List.mem_of_getElem? (i := 87) rfl), ax_in8 (List.mem_of_getElem? (i := 88) rfl)⟩
abbrev kX10_tenths : ax_K := (yX10_tenths, cX10_tenths, 1, (some .int))
theorem mX10_tenths : ax_mv kX10_tenths 0 := ⟨⟨wd_177, ax_in8 (List.mem_of_getElem? (i := 97) rfl), by decide +kernel, by decide +kernel, by decide⟩, ax_in8 (List.mem_of_getElem? (i := 95) rfl), ax_in8 (List.mem_of_getElem? (i := 96) rfl)⟩
abbrev kX10_at : ax_K := (yX10_at, cX10_at, 4, (some .int))
theorem mX10_at : ax_mv kX10_at 3 := ⟨⟨wd_177, ax_in8 (List.mem_of_getElem? (i := 155) rfl), by decide +kernel, by decide +kernel, by decide⟩, ax_in8 (List.mem_of_getElem? (i := 153) rfl), ax_in8 (List.mem_of_getElem? (i := 154) rfl)⟩
abbrev kX10_passes : ax_K := (yX10_passes, cX10_passes, 1, (some .int))
theorem mX10_passes : ax_mv kX10_passes 0 := ⟨⟨wd_177, ax_in8 (List.mem_of_getElem? (i := 159) rfl), by decide +kernel, by decide +kernel, by decide⟩, ax_in8 (List.mem_of_getElem? (i := 157) rfl), ax_in8 (List.mem_of_getElem? (i := 158) rfl)⟩
abbrev kX10_hits : ax_K := (yX10_hits, cX10_hits, 2, (some .int))
theorem mX10_hits : ax_mv kX10_hits 1 := ⟨⟨wd_177, ax_in8 (List.mem_of_getElem? (i := 163) rfl), by decide +kernel, by decide +kernel, by decide⟩, ax_in8 (List.mem_of_getElem? (i := 161) rfl), ax_in8 (List.mem_of_getElem? (i := 162) rfl)⟩
abbrev kX10_sees : ax_K := (yX10_sees, cX10_sees, 3, (some .int))
theorem mX10_sees : ax_mv kX10_sees 2 := ⟨⟨wd_177, ax_in8 (List.mem_of_getElem? (i := 167) rfl), by decide +kernel, by decide +kernel, by decide⟩, ax_in8 (List.mem_of_getElem? (i := 165) rfl), ax_in8 (List.mem_of_getElem? (i := 166) rfl)⟩
abbrev kX10_sums : ax_K := (yX10_sums, cX10_sums, 10, (some .int))
theorem mX10_sums : ax_mv kX10_sums 2 := ⟨⟨wd_177, ax_in8 (List.mem_of_getElem? (i := 171) rfl), by decide +kernel, by decide +kernel, by decide⟩, ax_in8 (List.mem_of_getElem? (i := 169) rfl), ax_in8 (List.mem_of_getElem? (i := 170) rfl)⟩
abbrev kX10_would : ax_K := (yX10_would, cX10_would, 6, (some .int))
theorem mX10_would : ax_mv kX10_would 4 := ⟨⟨wd_177, ax_in8 (List.mem_of_getElem? (i := 179) rfl), by decide +kernel, by decide +kernel, by decide⟩, ax_in8 (List.mem_of_getElem? (i := 177) rfl), ax_in8 (List.mem_of_getElem? (i := 178) rfl)⟩
abbrev kX10_notTwo : ax_K := (yX10_notTwo, cX10_notTwo, 2, (some .boolean))
theorem mX10_notTwo : ax_mv kX10_notTwo 1 := ⟨⟨wd_177, ax_in8 (List.mem_of_getElem? (i := 187) rfl), by decide +kernel, by decide +kernel, by decide⟩, ax_in8 (List.mem_of_getElem? (i := 186) rfl), ax_ps10 (List.mem_of_getElem? (i := 7) rfl)⟩
abbrev kX10_costBy : ax_K := (yX10_costBy, cX10_costBy, 4, (some .int))
theorem mX10_costBy : ax_mv kX10_costBy 3 := ⟨⟨wd_177, ax_in8 (List.mem_of_getElem? (i := 191) rfl), by decide +kernel, by decide +kernel, by decide⟩, ax_in8 (List.mem_of_getElem? (i := 190) rfl), ax_ps10 (List.mem_of_getElem? (i := 8) rfl)⟩
abbrev kX10_cost : ax_K := (yX10_cost, cX10_cost, 4, (some .int))
theorem mX10_cost : ax_mv kX10_cost 3 := ⟨⟨wd_177, ax_in8 (List.mem_of_getElem? (i := 183) rfl), by decide +kernel, by decide +kernel, by decide⟩, ax_in8 (List.mem_of_getElem? (i := 181) rfl), ax_in8 (List.mem_of_getElem? (i := 182) rfl)⟩
abbrev kX10_isRest : ax_K := (yX10_isRest, cX10_isRest, 5, (some .boolean))
theorem mX10_isRest : ax_mv kX10_isRest 3 := ⟨⟨wd_177, ax_in8 (List.mem_of_getElem? (i := 206) rfl), by decide +kernel, by decide +kernel, by decide⟩, ax_in8 (List.mem_of_getElem? (i := 205) rfl), ax_ps10 (List.mem_of_getElem? (i := 10) rfl)⟩
abbrev kX10_duel : ax_K := (yX10_duel, cX10_duel, 9, (some .int))
theorem mX10_duel : ax_mv kX10_duel 2 := ⟨⟨wd_177, ax_in8 (List.mem_of_getElem? (i := 202) rfl), by decide +kernel, by decide +kernel, by decide⟩, ax_in8 (List.mem_of_getElem? (i := 200) rfl), ax_in8 (List.mem_of_getElem? (i := 201) rfl)⟩
abbrev kX10_answer : ax_K := (yX10_answer, cX10_answer, 7, (some .int))
theorem mX10_answer : ax_mv kX10_answer 2 := ⟨⟨wd_177, ax_in8 (List.mem_of_getElem? (i := 210) rfl), by decide +kernel, by decide +kernel, by decide⟩, ax_in8 (List.mem_of_getElem? (i := 208) rfl), ax_in8 (List.mem_of_getElem? (i := 209) rfl)⟩
abbrev kX10_habitBehind : ax_K := (yX10_habitBehind, cX10_habitBehind, 4, (some .int))
theorem mX10_habitBehind : ax_mv kX10_habitBehind 1 := ⟨⟨wd_177, ax_in8 (List.mem_of_getElem? (i := 218) rfl), by decide +kernel, by decide +kernel, by decide⟩, ax_in8 (List.mem_of_getElem? (i := 217) rfl), ax_ps10 (List.mem_of_getElem? (i := 11) rfl)⟩
abbrev kX10_habit : ax_K := (yX10_habit, cX10_habit, 9, (some .int))
theorem mX10_habit : ax_mv kX10_habit 2 := ⟨⟨wd_177, ax_in8 (List.mem_of_getElem? (i := 214) rfl), by decide +kernel, by decide +kernel, by decide⟩, ax_in8 (List.mem_of_getElem? (i := 212) rfl), ax_in8 (List.mem_of_getElem? (i := 213) rfl)⟩
abbrev kX10_safe : ax_K := (yX10_safe, cX10_safe, 6, (some .int))
theorem mX10_safe : ax_mv kX10_safe 2 := ⟨⟨wd_177, ax_in8 (List.mem_of_getElem? (i := 222) rfl), by decide +kernel, by decide +kernel, by decide⟩, ax_in8 (List.mem_of_getElem? (i := 220) rfl), ax_in8 (List.mem_of_getElem? (i := 221) rfl)⟩
abbrev kX10_power : ax_K := (yX10_power, cX10_power, 6, (some .long))
theorem mX10_power : ax_ms kX10_power 2 := ⟨⟨wd_177, ax_in8 (List.mem_of_getElem? (i := 230) rfl), by decide +kernel, by decide +kernel, by decide⟩, ax_in8 (List.mem_of_getElem? (i := 229) rfl)⟩
abbrev kX10_loaded : ax_K := (yX10_loaded, cX10_loaded, 15, (some .long))
theorem mX10_loaded : ax_mv kX10_loaded 4 := ⟨⟨wd_177, ax_in8 (List.mem_of_getElem? (i := 226) rfl), by decide +kernel, by decide +kernel, by decide⟩, ax_in8 (List.mem_of_getElem? (i := 224) rfl), ax_in8 (List.mem_of_getElem? (i := 225) rfl)⟩
abbrev kX10_blinds : ax_K := (yX10_blinds, cX10_blinds, 2, (some .int))
theorem mX10_blinds : ax_mv kX10_blinds 1 := ⟨⟨wd_177, ax_in8 (List.mem_of_getElem? (i := 237) rfl), by decide +kernel, by decide +kernel, by decide⟩, ax_in8 (List.mem_of_getElem? (i := 235) rfl), ax_in8 (List.mem_of_getElem? (i := 236) rfl)⟩
abbrev kX10_old : ax_K := (yX10_old, cX10_old, 3, (some .int))
theorem mX10_old : ax_mv kX10_old 1 := ⟨⟨wd_177, ax_in9 (List.mem_of_getElem? (i := 1) rfl), by decide +kernel, by decide +kernel, by decide⟩, ax_in8 (List.mem_of_getElem? (i := 239) rfl), ax_in9 (List.mem_of_getElem? (i := 0) rfl)⟩
abbrev kX10_between : ax_K := (yX10_between, cX10_between, 3, (some .boolean))
theorem mX10_between : ax_mv kX10_between 2 := ⟨⟨wd_177, ax_in9 (List.mem_of_getElem? (i := 5) rfl), by decide +kernel, by decide +kernel, by decide⟩, ax_in9 (List.mem_of_getElem? (i := 3) rfl), ax_in9 (List.mem_of_getElem? (i := 4) rfl)⟩
abbrev kX10_getsBy : ax_K := (yX10_getsBy, cX10_getsBy, 3, (some .int))
theorem mX10_getsBy : ax_ms kX10_getsBy 2 := ⟨⟨wd_177, ax_in9 (List.mem_of_getElem? (i := 12) rfl), by decide +kernel, by decide +kernel, by decide⟩, ax_in9 (List.mem_of_getElem? (i := 11) rfl)⟩
abbrev kX10_gets : ax_K := (yX10_gets, cX10_gets, 3, (some .int))
theorem mX10_gets : ax_mv kX10_gets 2 := ⟨⟨wd_177, ax_in9 (List.mem_of_getElem? (i := 9) rfl), by decide +kernel, by decide +kernel, by decide⟩, ax_in9 (List.mem_of_getElem? (i := 7) rfl), ax_in9 (List.mem_of_getElem? (i := 8) rfl)⟩
abbrev kX10_isBright : ax_K := (yX10_isBright, cX10_isBright, 4, (some .boolean))
theorem mX10_isBright : ax_ms kX10_isBright 3 := ⟨⟨wd_177, ax_in9 (List.mem_of_getElem? (i := 19) rfl), by decide +kernel, by decide +kernel, by decide⟩, ax_in9 (List.mem_of_getElem? (i := 18) rfl)⟩
abbrev kX10_bulbs : ax_K := (yX10_bulbs, cX10_bulbs, 7, (some .int))
theorem mX10_bulbs : ax_mv kX10_bulbs 2 := ⟨⟨wd_177, ax_in9 (List.mem_of_getElem? (i := 16) rfl), by decide +kernel, by decide +kernel, by decide⟩, ax_in9 (List.mem_of_getElem? (i := 14) rfl), ax_in9 (List.mem_of_getElem? (i := 15) rfl)⟩
abbrev kX10_isLine : ax_K := (yX10_isLine, cX10_isLine, 3, (some .boolean))
theorem mX10_isLine : ax_mv kX10_isLine 1 := ⟨⟨wd_177, ax_in9 (List.mem_of_getElem? (i := 35) rfl), by decide +kernel, by decide +kernel, by decide⟩, ax_in9 (List.mem_of_getElem? (i := 34) rfl), ax_ps10 (List.mem_of_getElem? (i := 14) rfl)⟩
abbrev kX10_rightLines : ax_K := (yX10_rightLines, cX10_rightLines, 2, (some .int))
theorem mX10_rightLines : ax_mv kX10_rightLines 0 := ⟨⟨wd_177, ax_in9 (List.mem_of_getElem? (i := 31) rfl), by decide +kernel, by decide +kernel, by decide⟩, ax_in9 (List.mem_of_getElem? (i := 30) rfl), ax_ps10 (List.mem_of_getElem? (i := 13) rfl)⟩
abbrev kX10_distancesNow : ax_K := (yX10_distancesNow, cX10_distancesNow, 4, (some .long))
theorem mX10_distancesNow : ax_mv kX10_distancesNow 0 := ⟨⟨wd_177, ax_in9 (List.mem_of_getElem? (i := 27) rfl), by decide +kernel, by decide +kernel, by decide⟩, ax_in9 (List.mem_of_getElem? (i := 26) rfl), ax_ps10 (List.mem_of_getElem? (i := 12) rfl)⟩
abbrev kX10_distances : ax_K := (yX10_distances, cX10_distances, 1, (some .long))
theorem mX10_distances : ax_mv kX10_distances 0 := ⟨⟨wd_177, ax_in9 (List.mem_of_getElem? (i := 23) rfl), by decide +kernel, by decide +kernel, by decide⟩, ax_in9 (List.mem_of_getElem? (i := 21) rfl), ax_in9 (List.mem_of_getElem? (i := 22) rfl)⟩
abbrev kX10_isInBook : ax_K := (yX10_isInBook, cX10_isInBook, 3, (some .boolean))
theorem mX10_isInBook : ax_mv kX10_isInBook 1 := ⟨⟨wd_177, ax_in9 (List.mem_of_getElem? (i := 43) rfl), by decide +kernel, by decide +kernel, by decide⟩, ax_in9 (List.mem_of_getElem? (i := 42) rfl), ax_ps10 (List.mem_of_getElem? (i := 15) rfl)⟩
abbrev kX10_look : ax_K := (yX10_look, cX10_look, 9, (some .int))
theorem mX10_look : ax_mv kX10_look 1 := ⟨⟨wd_177, ax_in9 (List.mem_of_getElem? (i := 39) rfl), by decide +kernel, by decide +kernel, by decide⟩, ax_in9 (List.mem_of_getElem? (i := 37) rfl), ax_in9 (List.mem_of_getElem? (i := 38) rfl)⟩
abbrev kX10_right : ax_K := (yX10_right, cX10_right, 1, (some .int))
theorem mX10_right : ax_mv kX10_right 0 := ⟨⟨wd_177, ax_in9 (List.mem_of_getElem? (i := 47) rfl), by decide +kernel, by decide +kernel, by decide⟩, ax_in9 (List.mem_of_getElem? (i := 45) rfl), ax_in9 (List.mem_of_getElem? (i := 46) rfl)⟩
abbrev kX10_puts : ax_K := (yX10_puts, cX10_puts, 1, none)
theorem mX10_puts : ax_mv kX10_puts 0 := ⟨⟨wd_177, ax_in9 (List.mem_of_getElem? (i := 55) rfl), by decide +kernel, by decide +kernel, by decide⟩, ax_in9 (List.mem_of_getElem? (i := 54) rfl), ax_ps11 (List.mem_of_getElem? (i := 0) rfl)⟩
abbrev kX10_putsBack : ax_K := (yX10_putsBack, cX10_putsBack, 1, none)
theorem mX10_putsBack : ax_mv kX10_putsBack 0 := ⟨⟨wd_177, ax_in9 (List.mem_of_getElem? (i := 60) rfl), by decide +kernel, by decide +kernel, by decide⟩, ax_in9 (List.mem_of_getElem? (i := 59) rfl), ax_ps11 (List.mem_of_getElem? (i := 1) rfl)⟩
abbrev kX10_nights : ax_K := (yX10_nights, cX10_nights, 11, (some .int))
theorem mX10_nights : ax_mv kX10_nights 3 := ⟨⟨wd_177, ax_in9 (List.mem_of_getElem? (i := 51) rfl), by decide +kernel, by decide +kernel, by decide⟩, ax_in9 (List.mem_of_getElem? (i := 49) rfl), ax_in9 (List.mem_of_getElem? (i := 50) rfl)⟩
abbrev kX10_hitAlone : ax_K := (yX10_hitAlone, cX10_hitAlone, 3, (some .int))
theorem mX10_hitAlone : ax_mv kX10_hitAlone 2 := ⟨⟨wd_177, ax_in9 (List.mem_of_getElem? (i := 68) rfl), by decide +kernel, by decide +kernel, by decide⟩, ax_in9 (List.mem_of_getElem? (i := 67) rfl), ax_ps11 (List.mem_of_getElem? (i := 2) rfl)⟩
abbrev kX10_darkest : ax_K := (yX10_darkest, cX10_darkest, 6, (some .int))
theorem mX10_darkest : ax_mv kX10_darkest 1 := ⟨⟨wd_177, ax_in9 (List.mem_of_getElem? (i := 64) rfl), by decide +kernel, by decide +kernel, by decide⟩, ax_in9 (List.mem_of_getElem? (i := 62) rfl), ax_in9 (List.mem_of_getElem? (i := 63) rfl)⟩
abbrev kX10_dark : ax_K := (yX10_dark, cX10_dark, 5, (some .int))
theorem mX10_dark : ax_mv kX10_dark 2 := ⟨⟨wd_177, ax_in9 (List.mem_of_getElem? (i := 72) rfl), by decide +kernel, by decide +kernel, by decide⟩, ax_in9 (List.mem_of_getElem? (i := 70) rfl), ax_in9 (List.mem_of_getElem? (i := 71) rfl)⟩
abbrev kX10_needs : ax_K := (yX10_needs, cX10_needs, 3, (some .int))
theorem mX10_needs : ax_mv kX10_needs 1 := ⟨⟨wd_177, ax_in9 (List.mem_of_getElem? (i := 76) rfl), by decide +kernel, by decide +kernel, by decide⟩, ax_in9 (List.mem_of_getElem? (i := 74) rfl), ax_in9 (List.mem_of_getElem? (i := 75) rfl)⟩
abbrev kX10_dips : ax_K := (yX10_dips, cX10_dips, 6, (some .int))
theorem mX10_dips : ax_mv kX10_dips 2 := ⟨⟨wd_177, ax_in9 (List.mem_of_getElem? (i := 80) rfl), by decide +kernel, by decide +kernel, by decide⟩, ax_in9 (List.mem_of_getElem? (i := 78) rfl), ax_in9 (List.mem_of_getElem? (i := 79) rfl)⟩
abbrev kX10_gap : ax_K := (yX10_gap, cX10_gap, 7, (some .int))
theorem mX10_gap : ax_mv kX10_gap 2 := ⟨⟨wd_177, ax_in9 (List.mem_of_getElem? (i := 84) rfl), by decide +kernel, by decide +kernel, by decide⟩, ax_in9 (List.mem_of_getElem? (i := 82) rfl), ax_in9 (List.mem_of_getElem? (i := 83) rfl)⟩
abbrev kX10_clear : ax_K := (yX10_clear, cX10_clear, 5, (some .int))
theorem mX10_clear : ax_mv kX10_clear 1 := ⟨⟨wd_177, ax_in9 (List.mem_of_getElem? (i := 88) rfl), by decide +kernel, by decide +kernel, by decide⟩, ax_in9 (List.mem_of_getElem? (i := 86) rfl), ax_in9 (List.mem_of_getElem? (i := 87) rfl)⟩
abbrev kX10_paces : ax_K := (yX10_paces, cX10_paces, 10, (some .int))
theorem mX10_paces : ax_mv kX10_paces 1 := ⟨⟨wd_177, ax_in9 (List.mem_of_getElem? (i := 92) rfl), by decide +kernel, by decide +kernel, by decide⟩, ax_in9 (List.mem_of_getElem? (i := 90) rfl), ax_in9 (List.mem_of_getElem? (i := 91) rfl)⟩
abbrev kX10_finds : ax_K := (yX10_finds, cX10_finds, 5, (some .int))
theorem mX10_finds : ax_mv kX10_finds 2 := ⟨⟨wd_177, ax_in9 (List.mem_of_getElem? (i := 96) rfl), by decide +kernel, by decide +kernel, by decide⟩, ax_in9 (List.mem_of_getElem? (i := 94) rfl), ax_in9 (List.mem_of_getElem? (i := 95) rfl)⟩
abbrev kX10_changed : ax_K := (yX10_changed, cX10_changed, 1, (some .boolean))
theorem mX10_changed : ax_mv kX10_changed 0 := ⟨⟨wd_177, ax_in9 (List.mem_of_getElem? (i := 104) rfl), by decide +kernel, by decide +kernel, by decide⟩, ax_in9 (List.mem_of_getElem? (i := 103) rfl), ax_ps11 (List.mem_of_getElem? (i := 3) rfl)⟩
abbrev kX10_drives : ax_K := (yX10_drives, cX10_drives, 4, (some .int))
theorem mX10_drives : ax_mv kX10_drives 3 := ⟨⟨wd_177, ax_in9 (List.mem_of_getElem? (i := 100) rfl), by decide +kernel, by decide +kernel, by decide⟩, ax_in9 (List.mem_of_getElem? (i := 98) rfl), ax_in9 (List.mem_of_getElem? (i := 99) rfl)⟩
abbrev kX10_stands : ax_K := (yX10_stands, cX10_stands, 4, (some .int))
theorem mX10_stands : ax_mv kX10_stands 3 := ⟨⟨wd_177, ax_in9 (List.mem_of_getElem? (i := 108) rfl), by decide +kernel, by decide +kernel, by decide⟩, ax_in9 (List.mem_of_getElem? (i := 106) rfl), ax_in9 (List.mem_of_getElem? (i := 107) rfl)⟩
abbrev kX10_weather : ax_K := (yX10_weather, cX10_weather, 3, (some .int))
theorem mX10_weather : ax_mv kX10_weather 2 := ⟨⟨wd_177, ax_in9 (List.mem_of_getElem? (i := 112) rfl), by decide +kernel, by decide +kernel, by decide⟩, ax_in9 (List.mem_of_getElem? (i := 110) rfl), ax_in9 (List.mem_of_getElem? (i := 111) rfl)⟩
abbrev kX10_undo : ax_K := (yX10_undo, cX10_undo, 1, (some .int))
theorem mX10_undo : ax_mv kX10_undo 0 := ⟨⟨wd_177, ax_in9 (List.mem_of_getElem? (i := 116) rfl), by decide +kernel, by decide +kernel, by decide⟩, ax_in9 (List.mem_of_getElem? (i := 114) rfl), ax_in9 (List.mem_of_getElem? (i := 115) rfl)⟩
abbrev kX10_spots : ax_K := (yX10_spots, cX10_spots, 4, (some .int))
theorem mX10_spots : ax_mv kX10_spots 3 := ⟨⟨wd_177, ax_in9 (List.mem_of_getElem? (i := 128) rfl), by decide +kernel, by decide +kernel, by decide⟩, ax_in9 (List.mem_of_getElem? (i := 127) rfl), ax_ps11 (List.mem_of_getElem? (i := 5) rfl)⟩
abbrev kX10_spotsAll : ax_K := (yX10_spotsAll, cX10_spotsAll, 5, none)
theorem mX10_spotsAll : ax_mv kX10_spotsAll 2 := ⟨⟨wd_177, ax_in9 (List.mem_of_getElem? (i := 124) rfl), by decide +kernel, by decide +kernel, by decide⟩, ax_in9 (List.mem_of_getElem? (i := 123) rfl), ax_ps11 (List.mem_of_getElem? (i := 4) rfl)⟩
abbrev kX10_image : ax_K := (yX10_image, cX10_image, 1, (some .int))
theorem mX10_image : ax_mv kX10_image 0 := ⟨⟨wd_177, ax_in9 (List.mem_of_getElem? (i := 120) rfl), by decide +kernel, by decide +kernel, by decide⟩, ax_in9 (List.mem_of_getElem? (i := 118) rfl), ax_in9 (List.mem_of_getElem? (i := 119) rfl)⟩
abbrev kX10_restore : ax_K := (yX10_restore, cX10_restore, 1, (some .int))
theorem mX10_restore : ax_mv kX10_restore 0 := ⟨⟨wd_177, ax_in9 (List.mem_of_getElem? (i := 132) rfl), by decide +kernel, by decide +kernel, by decide⟩, ax_in9 (List.mem_of_getElem? (i := 130) rfl), ax_in9 (List.mem_of_getElem? (i := 131) rfl)⟩
abbrev kX10_status : ax_K := (yX10_status, cX10_status, 2, (some .int))
theorem mX10_status : ax_mv kX10_status 1 := ⟨⟨wd_177, ax_in9 (List.mem_of_getElem? (i := 136) rfl), by decide +kernel, by decide +kernel, by decide⟩, ax_in9 (List.mem_of_getElem? (i := 134) rfl), ax_in9 (List.mem_of_getElem? (i := 135) rfl)⟩
abbrev kX10_count : ax_K := (yX10_count, cX10_count, 2, (some .int))
theorem mX10_count : ax_mv kX10_count 1 := ⟨⟨wd_177, ax_in9 (List.mem_of_getElem? (i := 140) rfl), by decide +kernel, by decide +kernel, by decide⟩, ax_in9 (List.mem_of_getElem? (i := 138) rfl), ax_in9 (List.mem_of_getElem? (i := 139) rfl)⟩
abbrev kJ6_bitCount_0f7a4 : ax_K := (yJ6_bitCount_0f7a4, cJ6_bitCount_0f7a4, 1, (some .int))
theorem mJ6_bitCount_0f7a4 : ax_ms kJ6_bitCount_0f7a4 1 := ⟨⟨wd_189, ax_in5 (List.mem_of_getElem? (i := 163) rfl), by decide +kernel, by decide +kernel, by decide⟩, ax_in5 (List.mem_of_getElem? (i := 162) rfl)⟩
abbrev kL_road : ax_K := (yL_road, cL_road, 4, (some .int))
abbrev kL_law : ax_K := (yL_law, cL_law, 4, (some .int))
abbrev kL_rule : ax_K := (yL_rule, cL_rule, 5, (some .int))
abbrev kL_book : ax_K := (yL_book, cL_book, 4, (some .int))
abbrev kL_told : ax_K := (yL_told, cL_told, 4, (some .int))
abbrev kL_car : ax_K := (yL_car, cL_car, 5, (some .int))
abbrev kL_coat : ax_K := (yL_coat, cL_coat, 5, (some .int))
abbrev kL_at : ax_K := (yL_at, cL_at, 6, (some .int))
abbrev kL_hits : ax_K := (yL_hits, cL_hits, 4, (some .int))
abbrev kL_sees : ax_K := (yL_sees, cL_sees, 5, (some .int))
abbrev kL_sums : ax_K := (yL_sums, cL_sums, 5, (some .int))
abbrev kL_would : ax_K := (yL_would, cL_would, 7, (some .int))
abbrev kL_cost : ax_K := (yL_cost, cL_cost, 6, (some .int))
abbrev kL_duel : ax_K := (yL_duel, cL_duel, 5, (some .int))
abbrev kL_answer : ax_K := (yL_answer, cL_answer, 5, (some .int))
abbrev kL_habit : ax_K := (yL_habit, cL_habit, 5, (some .int))
abbrev kL_safe : ax_K := (yL_safe, cL_safe, 5, (some .int))
abbrev kL_loaded : ax_K := (yL_loaded, cL_loaded, 7, (some .int))
abbrev kL_blinds : ax_K := (yL_blinds, cL_blinds, 4, (some .int))
abbrev kL_old : ax_K := (yL_old, cL_old, 4, (some .int))
abbrev kL_between : ax_K := (yL_between, cL_between, 5, (some .int))
abbrev kL_gets : ax_K := (yL_gets, cL_gets, 5, (some .int))
abbrev kL_bulbs : ax_K := (yL_bulbs, cL_bulbs, 5, (some .int))
abbrev kL_distances : ax_K := (yL_distances, cL_distances, 3, (some .int))
abbrev kL_look : ax_K := (yL_look, cL_look, 4, (some .int))
abbrev kL_right : ax_K := (yL_right, cL_right, 3, (some .int))
abbrev kL_nights : ax_K := (yL_nights, cL_nights, 6, (some .int))
abbrev kL_darkest : ax_K := (yL_darkest, cL_darkest, 4, (some .int))
abbrev kL_dark : ax_K := (yL_dark, cL_dark, 5, (some .int))
abbrev kL_dips : ax_K := (yL_dips, cL_dips, 5, (some .int))
abbrev kL_gap : ax_K := (yL_gap, cL_gap, 5, (some .int))
abbrev kL_needs : ax_K := (yL_needs, cL_needs, 4, (some .int))
abbrev kL_clear : ax_K := (yL_clear, cL_clear, 4, (some .int))
abbrev kL_paces : ax_K := (yL_paces, cL_paces, 4, (some .int))
abbrev kL_finds : ax_K := (yL_finds, cL_finds, 5, (some .int))
abbrev kL_drives : ax_K := (yL_drives, cL_drives, 6, (some .int))
abbrev kL_stands : ax_K := (yL_stands, cL_stands, 6, (some .int))
abbrev kL_weather : ax_K := (yL_weather, cL_weather, 5, (some .int))
end
