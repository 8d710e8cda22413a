-- ===== PART A: goes FIRST, ahead of the names: the tables' words, and 'selects' of the private methods out of them =====
/-- a private method of a class that the tables say can be made, by its rows of tables_1 -/
def lw_okq (q : MethodName × Nat) : Prop := (q.1.cls ≠ "java/lang/invoke/MethodHandle" ∧ q.1.cls ≠ "java/lang/invoke/VarHandle") ∧ Cond.instantiable q.1.cls q.2 ∈ tables_1 ∧ Cond.privateMethod q.1 ∈ tables_1 ∧ Cond.instanceMethod q.1 ∈ tables_1
theorem lw_p0 : lw_okq (⟨"WebTensionLine$Line", "begin", "(I)V"⟩, 13) := ⟨⟨by decide +kernel, by decide +kernel⟩, List.mem_of_getElem? (i := 25) (by decide +kernel), List.mem_of_getElem? (i := 272) (by decide +kernel), List.mem_of_getElem? (i := 273) (by decide +kernel)⟩
theorem lw_p1 : lw_okq (⟨"WebTensionLine$Web", "begin", "()V"⟩, 4) := ⟨⟨by decide +kernel, by decide +kernel⟩, List.mem_of_getElem? (i := 31) (by decide +kernel), List.mem_of_getElem? (i := 276) (by decide +kernel), List.mem_of_getElem? (i := 277) (by decide +kernel)⟩
theorem lw_p2 : lw_okq (⟨"WebTensionLine$Drive", "begin", "()V"⟩, 5) := ⟨⟨by decide +kernel, by decide +kernel⟩, List.mem_of_getElem? (i := 53) (by decide +kernel), List.mem_of_getElem? (i := 281) (by decide +kernel), List.mem_of_getElem? (i := 282) (by decide +kernel)⟩
theorem lw_p3 : lw_okq (⟨"WebTensionLine$Unwinder", "begin", "()V"⟩, 3) := ⟨⟨by decide +kernel, by decide +kernel⟩, List.mem_of_getElem? (i := 80) (by decide +kernel), List.mem_of_getElem? (i := 285) (by decide +kernel), List.mem_of_getElem? (i := 286) (by decide +kernel)⟩
theorem lw_p4 : lw_okq (⟨"WebTensionLine$Rewinder", "begin", "()V"⟩, 3) := ⟨⟨by decide +kernel, by decide +kernel⟩, List.mem_of_getElem? (i := 101) (by decide +kernel), List.mem_of_getElem? (i := 289) (by decide +kernel), List.mem_of_getElem? (i := 290) (by decide +kernel)⟩
theorem lw_p5 : lw_okq (⟨"WebTensionLine$Marks", "clearAll", "()V"⟩, 2) := ⟨⟨by decide +kernel, by decide +kernel⟩, List.mem_of_getElem? (i := 121) (by decide +kernel), List.mem_of_getElem? (i := 294) (by decide +kernel), List.mem_of_getElem? (i := 295) (by decide +kernel)⟩
theorem lw_p6 : lw_okq (⟨"WebTensionLine$EventLog", "begin", "()V"⟩, 5) := ⟨⟨by decide +kernel, by decide +kernel⟩, List.mem_of_getElem? (i := 137) (by decide +kernel), List.mem_of_getElem? (i := 298) (by decide +kernel), List.mem_of_getElem? (i := 299) (by decide +kernel)⟩
theorem lw_p7 : lw_okq (⟨"WebTensionLine$Roller", "begin", "()V"⟩, 3) := ⟨⟨by decide +kernel, by decide +kernel⟩, List.mem_of_getElem? (i := 249) (by decide +kernel), List.mem_of_getElem? (i := 302) (by decide +kernel), List.mem_of_getElem? (i := 303) (by decide +kernel)⟩
theorem lw_p8 : lw_okq (⟨"WebTensionLine$Line", "append", "(I)I"⟩, 13) := ⟨⟨by decide +kernel, by decide +kernel⟩, List.mem_of_getElem? (i := 25) (by decide +kernel), List.mem_of_getElem? (i := 306) (by decide +kernel), List.mem_of_getElem? (i := 307) (by decide +kernel)⟩
theorem lw_p9 : lw_okq (⟨"WebTensionLine$Span", "begin", "(I)V"⟩, 7) := ⟨⟨by decide +kernel, by decide +kernel⟩, List.mem_of_getElem? (i := 166) (by decide +kernel), List.mem_of_getElem? (i := 311) (by decide +kernel), List.mem_of_getElem? (i := 312) (by decide +kernel)⟩
theorem lw_p10 : lw_okq (⟨"WebTensionLine$Line", "hasSpan", "(I)Z"⟩, 13) := ⟨⟨by decide +kernel, by decide +kernel⟩, List.mem_of_getElem? (i := 25) (by decide +kernel), List.mem_of_getElem? (i := 396) (by decide +kernel), List.mem_of_getElem? (i := 397) (by decide +kernel)⟩
theorem lw_p11 : lw_okq (⟨"WebTensionLine$Dancer", "begin", "(IIIII)V"⟩, 7) := ⟨⟨by decide +kernel, by decide +kernel⟩, List.mem_of_getElem? (i := 172) (by decide +kernel), List.mem_of_getElem? (i := 402) (by decide +kernel), List.mem_of_getElem? (i := 403) (by decide +kernel)⟩
theorem lw_p12 : lw_okq (⟨"WebTensionLine$Dancer", "centre", "()V"⟩, 7) := ⟨⟨by decide +kernel, by decide +kernel⟩, List.mem_of_getElem? (i := 172) (by decide +kernel), List.mem_of_getElem? (i := 406) (by decide +kernel), List.mem_of_getElem? (i := 407) (by decide +kernel)⟩
theorem lw_p13 : lw_okq (⟨"WebTensionLine$Span", "equip", "(I)I"⟩, 7) := ⟨⟨by decide +kernel, by decide +kernel⟩, List.mem_of_getElem? (i := 166) (by decide +kernel), List.mem_of_getElem? (i := 410) (by decide +kernel), List.mem_of_getElem? (i := 411) (by decide +kernel)⟩
theorem lw_p14 : lw_okq (⟨"WebTensionLine$Span", "length", "()J"⟩, 7) := ⟨⟨by decide +kernel, by decide +kernel⟩, List.mem_of_getElem? (i := 166) (by decide +kernel), List.mem_of_getElem? (i := 414) (by decide +kernel), List.mem_of_getElem? (i := 415) (by decide +kernel)⟩
theorem lw_p15 : lw_okq (⟨"WebTensionLine$LoadCell", "begin", "(II)V"⟩, 2) := ⟨⟨by decide +kernel, by decide +kernel⟩, List.mem_of_getElem? (i := 203) (by decide +kernel), List.mem_of_getElem? (i := 423) (by decide +kernel), List.mem_of_getElem? (i := 424) (by decide +kernel)⟩
def lw_privs_1 : List (MethodName × Nat) := [(⟨"WebTensionLine$Line", "begin", "(I)V"⟩, 13), (⟨"WebTensionLine$Web", "begin", "()V"⟩, 4), (⟨"WebTensionLine$Drive", "begin", "()V"⟩, 5), (⟨"WebTensionLine$Unwinder", "begin", "()V"⟩, 3), (⟨"WebTensionLine$Rewinder", "begin", "()V"⟩, 3), (⟨"WebTensionLine$Marks", "clearAll", "()V"⟩, 2), (⟨"WebTensionLine$EventLog", "begin", "()V"⟩, 5), (⟨"WebTensionLine$Roller", "begin", "()V"⟩, 3), (⟨"WebTensionLine$Line", "append", "(I)I"⟩, 13), (⟨"WebTensionLine$Span", "begin", "(I)V"⟩, 7), (⟨"WebTensionLine$Line", "hasSpan", "(I)Z"⟩, 13), (⟨"WebTensionLine$Dancer", "begin", "(IIIII)V"⟩, 7), (⟨"WebTensionLine$Dancer", "centre", "()V"⟩, 7), (⟨"WebTensionLine$Span", "equip", "(I)I"⟩, 7), (⟨"WebTensionLine$Span", "length", "()J"⟩, 7), (⟨"WebTensionLine$LoadCell", "begin", "(II)V"⟩, 2)]
theorem lw_r1 : ∀ q ∈ lw_privs_1, lw_okq q := List.forall_mem_cons.mpr ⟨lw_p0, List.forall_mem_cons.mpr ⟨lw_p1, List.forall_mem_cons.mpr ⟨lw_p2, List.forall_mem_cons.mpr ⟨lw_p3, List.forall_mem_cons.mpr ⟨lw_p4, List.forall_mem_cons.mpr ⟨lw_p5, List.forall_mem_cons.mpr ⟨lw_p6, List.forall_mem_cons.mpr ⟨lw_p7, List.forall_mem_cons.mpr ⟨lw_p8, List.forall_mem_cons.mpr ⟨lw_p9, List.forall_mem_cons.mpr ⟨lw_p10, List.forall_mem_cons.mpr ⟨lw_p11, List.forall_mem_cons.mpr ⟨lw_p12, List.forall_mem_cons.mpr ⟨lw_p13, List.forall_mem_cons.mpr ⟨lw_p14, List.forall_mem_cons.mpr ⟨lw_p15, fun _ h => absurd h List.not_mem_nil⟩⟩⟩⟩⟩⟩⟩⟩⟩⟩⟩⟩⟩⟩⟩⟩
theorem lw_p16 : lw_okq (⟨"WebTensionLine$Web", "changeStiffness", "(II)I"⟩, 4) := ⟨⟨by decide +kernel, by decide +kernel⟩, List.mem_of_getElem? (i := 31) (by decide +kernel), List.mem_of_getElem? (i := 431) (by decide +kernel), List.mem_of_getElem? (i := 432) (by decide +kernel)⟩
theorem lw_p17 : lw_okq (⟨"WebTensionLine$Web", "changeStrength", "(II)I"⟩, 4) := ⟨⟨by decide +kernel, by decide +kernel⟩, List.mem_of_getElem? (i := 31) (by decide +kernel), List.mem_of_getElem? (i := 439) (by decide +kernel), List.mem_of_getElem? (i := 440) (by decide +kernel)⟩
theorem lw_p18 : lw_okq (⟨"WebTensionLine$Line", "hasRoller", "(I)Z"⟩, 13) := ⟨⟨by decide +kernel, by decide +kernel⟩, List.mem_of_getElem? (i := 25) (by decide +kernel), List.mem_of_getElem? (i := 447) (by decide +kernel), List.mem_of_getElem? (i := 448) (by decide +kernel)⟩
theorem lw_p19 : lw_okq (⟨"WebTensionLine$Drive", "changeTarget", "(II)I"⟩, 5) := ⟨⟨by decide +kernel, by decide +kernel⟩, List.mem_of_getElem? (i := 53) (by decide +kernel), List.mem_of_getElem? (i := 455) (by decide +kernel), List.mem_of_getElem? (i := 456) (by decide +kernel)⟩
theorem lw_p20 : lw_okq (⟨"WebTensionLine$Drive", "changeSplicing", "(II)I"⟩, 5) := ⟨⟨by decide +kernel, by decide +kernel⟩, List.mem_of_getElem? (i := 53) (by decide +kernel), List.mem_of_getElem? (i := 464) (by decide +kernel), List.mem_of_getElem? (i := 465) (by decide +kernel)⟩
theorem lw_p21 : lw_okq (⟨"WebTensionLine$Unwinder", "put", "(I)I"⟩, 3) := ⟨⟨by decide +kernel, by decide +kernel⟩, List.mem_of_getElem? (i := 80) (by decide +kernel), List.mem_of_getElem? (i := 473) (by decide +kernel), List.mem_of_getElem? (i := 474) (by decide +kernel)⟩
theorem lw_p22 : lw_okq (⟨"WebTensionLine$Line", "tick", "()V"⟩, 13) := ⟨⟨by decide +kernel, by decide +kernel⟩, List.mem_of_getElem? (i := 25) (by decide +kernel), List.mem_of_getElem? (i := 486) (by decide +kernel), List.mem_of_getElem? (i := 487) (by decide +kernel)⟩
theorem lw_p23 : lw_okq (⟨"WebTensionLine$Unwinder", "isSplicePending", "(I)Z"⟩, 3) := ⟨⟨by decide +kernel, by decide +kernel⟩, List.mem_of_getElem? (i := 80) (by decide +kernel), List.mem_of_getElem? (i := 490) (by decide +kernel), List.mem_of_getElem? (i := 491) (by decide +kernel)⟩
theorem lw_p24 : lw_okq (⟨"WebTensionLine$Drive", "approachWanted", "(Z)V"⟩, 5) := ⟨⟨by decide +kernel, by decide +kernel⟩, List.mem_of_getElem? (i := 53) (by decide +kernel), List.mem_of_getElem? (i := 494) (by decide +kernel), List.mem_of_getElem? (i := 495) (by decide +kernel)⟩
theorem lw_p25 : lw_okq (⟨"WebTensionLine$Line", "passWeb", "()V"⟩, 13) := ⟨⟨by decide +kernel, by decide +kernel⟩, List.mem_of_getElem? (i := 25) (by decide +kernel), List.mem_of_getElem? (i := 510) (by decide +kernel), List.mem_of_getElem? (i := 511) (by decide +kernel)⟩
theorem lw_p26 : lw_okq (⟨"WebTensionLine$Line", "speedOf", "(I)J"⟩, 13) := ⟨⟨by decide +kernel, by decide +kernel⟩, List.mem_of_getElem? (i := 25) (by decide +kernel), List.mem_of_getElem? (i := 514) (by decide +kernel), List.mem_of_getElem? (i := 515) (by decide +kernel)⟩
theorem lw_p27 : lw_okq (⟨"WebTensionLine$Line", "nominalSpeed", "(II)J"⟩, 13) := ⟨⟨by decide +kernel, by decide +kernel⟩, List.mem_of_getElem? (i := 25) (by decide +kernel), List.mem_of_getElem? (i := 519) (by decide +kernel), List.mem_of_getElem? (i := 520) (by decide +kernel)⟩
theorem lw_p28 : lw_okq (⟨"WebTensionLine$Line", "unwind", "()V"⟩, 13) := ⟨⟨by decide +kernel, by decide +kernel⟩, List.mem_of_getElem? (i := 25) (by decide +kernel), List.mem_of_getElem? (i := 535) (by decide +kernel), List.mem_of_getElem? (i := 536) (by decide +kernel)⟩
theorem lw_p29 : lw_okq (⟨"WebTensionLine$EventLog", "add", "(III)V"⟩, 5) := ⟨⟨by decide +kernel, by decide +kernel⟩, List.mem_of_getElem? (i := 137) (by decide +kernel), List.mem_of_getElem? (i := 539) (by decide +kernel), List.mem_of_getElem? (i := 540) (by decide +kernel)⟩
theorem lw_p30 : lw_okq (⟨"WebTensionLine$EventLog", "slotOf", "(I)I"⟩, 5) := ⟨⟨by decide +kernel, by decide +kernel⟩, List.mem_of_getElem? (i := 137) (by decide +kernel), List.mem_of_getElem? (i := 543) (by decide +kernel), List.mem_of_getElem? (i := 544) (by decide +kernel)⟩
theorem lw_p31 : lw_okq (⟨"WebTensionLine$Line", "breakWeb", "(I)V"⟩, 13) := ⟨⟨by decide +kernel, by decide +kernel⟩, List.mem_of_getElem? (i := 25) (by decide +kernel), List.mem_of_getElem? (i := 550) (by decide +kernel), List.mem_of_getElem? (i := 551) (by decide +kernel)⟩
def lw_privs_2 : List (MethodName × Nat) := [(⟨"WebTensionLine$Web", "changeStiffness", "(II)I"⟩, 4), (⟨"WebTensionLine$Web", "changeStrength", "(II)I"⟩, 4), (⟨"WebTensionLine$Line", "hasRoller", "(I)Z"⟩, 13), (⟨"WebTensionLine$Drive", "changeTarget", "(II)I"⟩, 5), (⟨"WebTensionLine$Drive", "changeSplicing", "(II)I"⟩, 5), (⟨"WebTensionLine$Unwinder", "put", "(I)I"⟩, 3), (⟨"WebTensionLine$Line", "tick", "()V"⟩, 13), (⟨"WebTensionLine$Unwinder", "isSplicePending", "(I)Z"⟩, 3), (⟨"WebTensionLine$Drive", "approachWanted", "(Z)V"⟩, 5), (⟨"WebTensionLine$Line", "passWeb", "()V"⟩, 13), (⟨"WebTensionLine$Line", "speedOf", "(I)J"⟩, 13), (⟨"WebTensionLine$Line", "nominalSpeed", "(II)J"⟩, 13), (⟨"WebTensionLine$Line", "unwind", "()V"⟩, 13), (⟨"WebTensionLine$EventLog", "add", "(III)V"⟩, 5), (⟨"WebTensionLine$EventLog", "slotOf", "(I)I"⟩, 5), (⟨"WebTensionLine$Line", "breakWeb", "(I)V"⟩, 13)]
theorem lw_r2 : ∀ q ∈ lw_privs_2, lw_okq q := List.forall_mem_cons.mpr ⟨lw_p16, List.forall_mem_cons.mpr ⟨lw_p17, List.forall_mem_cons.mpr ⟨lw_p18, List.forall_mem_cons.mpr ⟨lw_p19, List.forall_mem_cons.mpr ⟨lw_p20, List.forall_mem_cons.mpr ⟨lw_p21, List.forall_mem_cons.mpr ⟨lw_p22, List.forall_mem_cons.mpr ⟨lw_p23, List.forall_mem_cons.mpr ⟨lw_p24, List.forall_mem_cons.mpr ⟨lw_p25, List.forall_mem_cons.mpr ⟨lw_p26, List.forall_mem_cons.mpr ⟨lw_p27, List.forall_mem_cons.mpr ⟨lw_p28, List.forall_mem_cons.mpr ⟨lw_p29, List.forall_mem_cons.mpr ⟨lw_p30, List.forall_mem_cons.mpr ⟨lw_p31, fun _ h => absurd h List.not_mem_nil⟩⟩⟩⟩⟩⟩⟩⟩⟩⟩⟩⟩⟩⟩⟩⟩
theorem lw_p32 : lw_okq (⟨"WebTensionLine$Marks", "add", "(J)V"⟩, 2) := ⟨⟨by decide +kernel, by decide +kernel⟩, List.mem_of_getElem? (i := 121) (by decide +kernel), List.mem_of_getElem? (i := 554) (by decide +kernel), List.mem_of_getElem? (i := 555) (by decide +kernel)⟩
theorem lw_p33 : lw_okq (⟨"WebTensionLine$Unwinder", "takeNext", "()V"⟩, 3) := ⟨⟨by decide +kernel, by decide +kernel⟩, List.mem_of_getElem? (i := 80) (by decide +kernel), List.mem_of_getElem? (i := 558) (by decide +kernel), List.mem_of_getElem? (i := 559) (by decide +kernel)⟩
theorem lw_p34 : lw_okq (⟨"WebTensionLine$Line", "wind", "()V"⟩, 13) := ⟨⟨by decide +kernel, by decide +kernel⟩, List.mem_of_getElem? (i := 25) (by decide +kernel), List.mem_of_getElem? (i := 565) (by decide +kernel), List.mem_of_getElem? (i := 566) (by decide +kernel)⟩
theorem lw_p35 : lw_okq (⟨"WebTensionLine$Rewinder", "takes", "(J)Z"⟩, 3) := ⟨⟨by decide +kernel, by decide +kernel⟩, List.mem_of_getElem? (i := 101) (by decide +kernel), List.mem_of_getElem? (i := 569) (by decide +kernel), List.mem_of_getElem? (i := 570) (by decide +kernel)⟩
theorem lw_p36 : lw_okq (⟨"WebTensionLine$Line", "control", "()V"⟩, 13) := ⟨⟨by decide +kernel, by decide +kernel⟩, List.mem_of_getElem? (i := 25) (by decide +kernel), List.mem_of_getElem? (i := 573) (by decide +kernel), List.mem_of_getElem? (i := 574) (by decide +kernel)⟩
theorem lw_p37 : lw_okq (⟨"WebTensionLine$Span", "tensionAt", "(I)J"⟩, 7) := ⟨⟨by decide +kernel, by decide +kernel⟩, List.mem_of_getElem? (i := 166) (by decide +kernel), List.mem_of_getElem? (i := 577) (by decide +kernel), List.mem_of_getElem? (i := 578) (by decide +kernel)⟩
theorem lw_p38 : lw_okq (⟨"WebTensionLine$Dancer", "move", "(J)V"⟩, 7) := ⟨⟨by decide +kernel, by decide +kernel⟩, List.mem_of_getElem? (i := 172) (by decide +kernel), List.mem_of_getElem? (i := 582) (by decide +kernel), List.mem_of_getElem? (i := 583) (by decide +kernel)⟩
theorem lw_p39 : lw_okq (⟨"WebTensionLine$Dancer", "error", "()I"⟩, 7) := ⟨⟨by decide +kernel, by decide +kernel⟩, List.mem_of_getElem? (i := 172) (by decide +kernel), List.mem_of_getElem? (i := 591) (by decide +kernel), List.mem_of_getElem? (i := 592) (by decide +kernel)⟩
theorem lw_p40 : lw_okq (⟨"WebTensionLine$Dancer", "trim", "()I"⟩, 7) := ⟨⟨by decide +kernel, by decide +kernel⟩, List.mem_of_getElem? (i := 172) (by decide +kernel), List.mem_of_getElem? (i := 597) (by decide +kernel), List.mem_of_getElem? (i := 598) (by decide +kernel)⟩
theorem lw_p41 : lw_okq (⟨"WebTensionLine$LoadCell", "trimAfter", "(IJ)I"⟩, 2) := ⟨⟨by decide +kernel, by decide +kernel⟩, List.mem_of_getElem? (i := 203) (by decide +kernel), List.mem_of_getElem? (i := 605) (by decide +kernel), List.mem_of_getElem? (i := 606) (by decide +kernel)⟩
theorem lw_p42 : lw_okq (⟨"WebTensionLine$Line", "inspect", "()V"⟩, 13) := ⟨⟨by decide +kernel, by decide +kernel⟩, List.mem_of_getElem? (i := 25) (by decide +kernel), List.mem_of_getElem? (i := 614) (by decide +kernel), List.mem_of_getElem? (i := 615) (by decide +kernel)⟩
theorem lw_p43 : lw_okq (⟨"WebTensionLine$Line", "placeAtRoller", "(I)J"⟩, 13) := ⟨⟨by decide +kernel, by decide +kernel⟩, List.mem_of_getElem? (i := 25) (by decide +kernel), List.mem_of_getElem? (i := 618) (by decide +kernel), List.mem_of_getElem? (i := 619) (by decide +kernel)⟩
theorem lw_p44 : lw_okq (⟨"WebTensionLine$Marks", "dropUpTo", "(J)V"⟩, 2) := ⟨⟨by decide +kernel, by decide +kernel⟩, List.mem_of_getElem? (i := 121) (by decide +kernel), List.mem_of_getElem? (i := 622) (by decide +kernel), List.mem_of_getElem? (i := 623) (by decide +kernel)⟩
theorem lw_p45 : lw_okq (⟨"WebTensionLine$Line", "countSlack", "(IJ)V"⟩, 13) := ⟨⟨by decide +kernel, by decide +kernel⟩, List.mem_of_getElem? (i := 25) (by decide +kernel), List.mem_of_getElem? (i := 627) (by decide +kernel), List.mem_of_getElem? (i := 628) (by decide +kernel)⟩
theorem lw_p46 : lw_okq (⟨"WebTensionLine$Line", "marksIn", "(I)I"⟩, 13) := ⟨⟨by decide +kernel, by decide +kernel⟩, List.mem_of_getElem? (i := 25) (by decide +kernel), List.mem_of_getElem? (i := 631) (by decide +kernel), List.mem_of_getElem? (i := 632) (by decide +kernel)⟩
theorem lw_p47 : lw_okq (⟨"WebTensionLine$Marks", "countBetween", "(JJ)I"⟩, 2) := ⟨⟨by decide +kernel, by decide +kernel⟩, List.mem_of_getElem? (i := 121) (by decide +kernel), List.mem_of_getElem? (i := 635) (by decide +kernel), List.mem_of_getElem? (i := 636) (by decide +kernel)⟩
def lw_privs_3 : List (MethodName × Nat) := [(⟨"WebTensionLine$Marks", "add", "(J)V"⟩, 2), (⟨"WebTensionLine$Unwinder", "takeNext", "()V"⟩, 3), (⟨"WebTensionLine$Line", "wind", "()V"⟩, 13), (⟨"WebTensionLine$Rewinder", "takes", "(J)Z"⟩, 3), (⟨"WebTensionLine$Line", "control", "()V"⟩, 13), (⟨"WebTensionLine$Span", "tensionAt", "(I)J"⟩, 7), (⟨"WebTensionLine$Dancer", "move", "(J)V"⟩, 7), (⟨"WebTensionLine$Dancer", "error", "()I"⟩, 7), (⟨"WebTensionLine$Dancer", "trim", "()I"⟩, 7), (⟨"WebTensionLine$LoadCell", "trimAfter", "(IJ)I"⟩, 2), (⟨"WebTensionLine$Line", "inspect", "()V"⟩, 13), (⟨"WebTensionLine$Line", "placeAtRoller", "(I)J"⟩, 13), (⟨"WebTensionLine$Marks", "dropUpTo", "(J)V"⟩, 2), (⟨"WebTensionLine$Line", "countSlack", "(IJ)V"⟩, 13), (⟨"WebTensionLine$Line", "marksIn", "(I)I"⟩, 13), (⟨"WebTensionLine$Marks", "countBetween", "(JJ)I"⟩, 2)]
theorem lw_r3 : ∀ q ∈ lw_privs_3, lw_okq q := List.forall_mem_cons.mpr ⟨lw_p32, List.forall_mem_cons.mpr ⟨lw_p33, List.forall_mem_cons.mpr ⟨lw_p34, List.forall_mem_cons.mpr ⟨lw_p35, List.forall_mem_cons.mpr ⟨lw_p36, List.forall_mem_cons.mpr ⟨lw_p37, List.forall_mem_cons.mpr ⟨lw_p38, List.forall_mem_cons.mpr ⟨lw_p39, List.forall_mem_cons.mpr ⟨lw_p40, List.forall_mem_cons.mpr ⟨lw_p41, List.forall_mem_cons.mpr ⟨lw_p42, List.forall_mem_cons.mpr ⟨lw_p43, List.forall_mem_cons.mpr ⟨lw_p44, List.forall_mem_cons.mpr ⟨lw_p45, List.forall_mem_cons.mpr ⟨lw_p46, List.forall_mem_cons.mpr ⟨lw_p47, fun _ h => absurd h List.not_mem_nil⟩⟩⟩⟩⟩⟩⟩⟩⟩⟩⟩⟩⟩⟩⟩⟩
theorem lw_p48 : lw_okq (⟨"WebTensionLine$Web", "strengthWith", "(I)J"⟩, 4) := ⟨⟨by decide +kernel, by decide +kernel⟩, List.mem_of_getElem? (i := 31) (by decide +kernel), List.mem_of_getElem? (i := 639) (by decide +kernel), List.mem_of_getElem? (i := 640) (by decide +kernel)⟩
theorem lw_p49 : lw_okq (⟨"WebTensionLine$Line", "threadAnew", "()V"⟩, 13) := ⟨⟨by decide +kernel, by decide +kernel⟩, List.mem_of_getElem? (i := 25) (by decide +kernel), List.mem_of_getElem? (i := 649) (by decide +kernel), List.mem_of_getElem? (i := 650) (by decide +kernel)⟩
theorem lw_p50 : lw_okq (⟨"WebTensionLine$Span", "threadAnew", "()V"⟩, 7) := ⟨⟨by decide +kernel, by decide +kernel⟩, List.mem_of_getElem? (i := 166) (by decide +kernel), List.mem_of_getElem? (i := 653) (by decide +kernel), List.mem_of_getElem? (i := 654) (by decide +kernel)⟩
theorem lw_p51 : lw_okq (⟨"WebTensionLine$Unwinder", "queuedLength", "()J"⟩, 3) := ⟨⟨by decide +kernel, by decide +kernel⟩, List.mem_of_getElem? (i := 80) (by decide +kernel), List.mem_of_getElem? (i := 683) (by decide +kernel), List.mem_of_getElem? (i := 684) (by decide +kernel)⟩
theorem lw_p52 : lw_okq (⟨"WebTensionLine$Web", "steadyTensionAt", "(JJ)J"⟩, 4) := ⟨⟨by decide +kernel, by decide +kernel⟩, List.mem_of_getElem? (i := 31) (by decide +kernel), List.mem_of_getElem? (i := 707) (by decide +kernel), List.mem_of_getElem? (i := 708) (by decide +kernel)⟩
theorem lw_p53 : lw_okq (⟨"WebTensionLine$Web", "steadyGap", "(IJJ)J"⟩, 4) := ⟨⟨by decide +kernel, by decide +kernel⟩, List.mem_of_getElem? (i := 31) (by decide +kernel), List.mem_of_getElem? (i := 718) (by decide +kernel), List.mem_of_getElem? (i := 719) (by decide +kernel)⟩
theorem lw_p54 : lw_okq (⟨"WebTensionLine$Line", "copyFrom", "(LWebTensionLine$Line;)V"⟩, 13) := ⟨⟨by decide +kernel, by decide +kernel⟩, List.mem_of_getElem? (i := 25) (by decide +kernel), List.mem_of_getElem? (i := 730) (by decide +kernel), List.mem_of_getElem? (i := 731) (by decide +kernel)⟩
theorem lw_p55 : lw_okq (⟨"WebTensionLine$Web", "copyFrom", "(LWebTensionLine$Web;)V"⟩, 4) := ⟨⟨by decide +kernel, by decide +kernel⟩, List.mem_of_getElem? (i := 31) (by decide +kernel), List.mem_of_getElem? (i := 734) (by decide +kernel), List.mem_of_getElem? (i := 735) (by decide +kernel)⟩
theorem lw_p56 : lw_okq (⟨"WebTensionLine$Drive", "copyFrom", "(LWebTensionLine$Drive;)V"⟩, 5) := ⟨⟨by decide +kernel, by decide +kernel⟩, List.mem_of_getElem? (i := 53) (by decide +kernel), List.mem_of_getElem? (i := 738) (by decide +kernel), List.mem_of_getElem? (i := 739) (by decide +kernel)⟩
theorem lw_p57 : lw_okq (⟨"WebTensionLine$Unwinder", "copyFrom", "(LWebTensionLine$Unwinder;)V"⟩, 3) := ⟨⟨by decide +kernel, by decide +kernel⟩, List.mem_of_getElem? (i := 80) (by decide +kernel), List.mem_of_getElem? (i := 742) (by decide +kernel), List.mem_of_getElem? (i := 743) (by decide +kernel)⟩
theorem lw_p58 : lw_okq (⟨"WebTensionLine$Rewinder", "copyFrom", "(LWebTensionLine$Rewinder;)V"⟩, 3) := ⟨⟨by decide +kernel, by decide +kernel⟩, List.mem_of_getElem? (i := 101) (by decide +kernel), List.mem_of_getElem? (i := 746) (by decide +kernel), List.mem_of_getElem? (i := 747) (by decide +kernel)⟩
theorem lw_p59 : lw_okq (⟨"WebTensionLine$Marks", "copyFrom", "(LWebTensionLine$Marks;)V"⟩, 2) := ⟨⟨by decide +kernel, by decide +kernel⟩, List.mem_of_getElem? (i := 121) (by decide +kernel), List.mem_of_getElem? (i := 750) (by decide +kernel), List.mem_of_getElem? (i := 751) (by decide +kernel)⟩
theorem lw_p60 : lw_okq (⟨"WebTensionLine$Roller", "copyFrom", "(LWebTensionLine$Roller;)V"⟩, 3) := ⟨⟨by decide +kernel, by decide +kernel⟩, List.mem_of_getElem? (i := 249) (by decide +kernel), List.mem_of_getElem? (i := 754) (by decide +kernel), List.mem_of_getElem? (i := 755) (by decide +kernel)⟩
theorem lw_p61 : lw_okq (⟨"WebTensionLine$Span", "copyFrom", "(LWebTensionLine$Span;)V"⟩, 7) := ⟨⟨by decide +kernel, by decide +kernel⟩, List.mem_of_getElem? (i := 166) (by decide +kernel), List.mem_of_getElem? (i := 758) (by decide +kernel), List.mem_of_getElem? (i := 759) (by decide +kernel)⟩
theorem lw_p62 : lw_okq (⟨"WebTensionLine$Dancer", "copyFrom", "(LWebTensionLine$Dancer;)V"⟩, 7) := ⟨⟨by decide +kernel, by decide +kernel⟩, List.mem_of_getElem? (i := 172) (by decide +kernel), List.mem_of_getElem? (i := 762) (by decide +kernel), List.mem_of_getElem? (i := 763) (by decide +kernel)⟩
theorem lw_p63 : lw_okq (⟨"WebTensionLine$LoadCell", "copyFrom", "(LWebTensionLine$LoadCell;)V"⟩, 2) := ⟨⟨by decide +kernel, by decide +kernel⟩, List.mem_of_getElem? (i := 203) (by decide +kernel), List.mem_of_getElem? (i := 766) (by decide +kernel), List.mem_of_getElem? (i := 767) (by decide +kernel)⟩
def lw_privs_4 : List (MethodName × Nat) := [(⟨"WebTensionLine$Web", "strengthWith", "(I)J"⟩, 4), (⟨"WebTensionLine$Line", "threadAnew", "()V"⟩, 13), (⟨"WebTensionLine$Span", "threadAnew", "()V"⟩, 7), (⟨"WebTensionLine$Unwinder", "queuedLength", "()J"⟩, 3), (⟨"WebTensionLine$Web", "steadyTensionAt", "(JJ)J"⟩, 4), (⟨"WebTensionLine$Web", "steadyGap", "(IJJ)J"⟩, 4), (⟨"WebTensionLine$Line", "copyFrom", "(LWebTensionLine$Line;)V"⟩, 13), (⟨"WebTensionLine$Web", "copyFrom", "(LWebTensionLine$Web;)V"⟩, 4), (⟨"WebTensionLine$Drive", "copyFrom", "(LWebTensionLine$Drive;)V"⟩, 5), (⟨"WebTensionLine$Unwinder", "copyFrom", "(LWebTensionLine$Unwinder;)V"⟩, 3), (⟨"WebTensionLine$Rewinder", "copyFrom", "(LWebTensionLine$Rewinder;)V"⟩, 3), (⟨"WebTensionLine$Marks", "copyFrom", "(LWebTensionLine$Marks;)V"⟩, 2), (⟨"WebTensionLine$Roller", "copyFrom", "(LWebTensionLine$Roller;)V"⟩, 3), (⟨"WebTensionLine$Span", "copyFrom", "(LWebTensionLine$Span;)V"⟩, 7), (⟨"WebTensionLine$Dancer", "copyFrom", "(LWebTensionLine$Dancer;)V"⟩, 7), (⟨"WebTensionLine$LoadCell", "copyFrom", "(LWebTensionLine$LoadCell;)V"⟩, 2)]
theorem lw_r4 : ∀ q ∈ lw_privs_4, lw_okq q := List.forall_mem_cons.mpr ⟨lw_p48, List.forall_mem_cons.mpr ⟨lw_p49, List.forall_mem_cons.mpr ⟨lw_p50, List.forall_mem_cons.mpr ⟨lw_p51, List.forall_mem_cons.mpr ⟨lw_p52, List.forall_mem_cons.mpr ⟨lw_p53, List.forall_mem_cons.mpr ⟨lw_p54, List.forall_mem_cons.mpr ⟨lw_p55, List.forall_mem_cons.mpr ⟨lw_p56, List.forall_mem_cons.mpr ⟨lw_p57, List.forall_mem_cons.mpr ⟨lw_p58, List.forall_mem_cons.mpr ⟨lw_p59, List.forall_mem_cons.mpr ⟨lw_p60, List.forall_mem_cons.mpr ⟨lw_p61, List.forall_mem_cons.mpr ⟨lw_p62, List.forall_mem_cons.mpr ⟨lw_p63, fun _ h => absurd h List.not_mem_nil⟩⟩⟩⟩⟩⟩⟩⟩⟩⟩⟩⟩⟩⟩⟩⟩
theorem lw_p64 : lw_okq (⟨"WebTensionLineModel", "begin", "(I)V"⟩, 27) := ⟨⟨by decide +kernel, by decide +kernel⟩, List.mem_of_getElem? (i := 774) (by decide +kernel), List.mem_of_getElem? (i := 781) (by decide +kernel), List.mem_of_getElem? (i := 782) (by decide +kernel)⟩
theorem lw_p65 : lw_okq (⟨"WebTensionLineModel", "append", "(I)V"⟩, 27) := ⟨⟨by decide +kernel, by decide +kernel⟩, List.mem_of_getElem? (i := 774) (by decide +kernel), List.mem_of_getElem? (i := 790) (by decide +kernel), List.mem_of_getElem? (i := 791) (by decide +kernel)⟩
theorem lw_p66 : lw_okq (⟨"WebTensionLineModel", "noSpan", "(I)Z"⟩, 27) := ⟨⟨by decide +kernel, by decide +kernel⟩, List.mem_of_getElem? (i := 774) (by decide +kernel), List.mem_of_getElem? (i := 899) (by decide +kernel), List.mem_of_getElem? (i := 900) (by decide +kernel)⟩
theorem lw_p67 : lw_okq (⟨"WebTensionLineModel", "equip", "(II)I"⟩, 27) := ⟨⟨by decide +kernel, by decide +kernel⟩, List.mem_of_getElem? (i := 774) (by decide +kernel), List.mem_of_getElem? (i := 906) (by decide +kernel), List.mem_of_getElem? (i := 907) (by decide +kernel)⟩
theorem lw_p68 : lw_okq (⟨"WebTensionLineModel", "length", "(I)J"⟩, 27) := ⟨⟨by decide +kernel, by decide +kernel⟩, List.mem_of_getElem? (i := 774) (by decide +kernel), List.mem_of_getElem? (i := 910) (by decide +kernel), List.mem_of_getElem? (i := 911) (by decide +kernel)⟩
theorem lw_p69 : lw_okq (⟨"WebTensionLineModel", "tick", "()V"⟩, 27) := ⟨⟨by decide +kernel, by decide +kernel⟩, List.mem_of_getElem? (i := 774) (by decide +kernel), List.mem_of_getElem? (i := 957) (by decide +kernel), List.mem_of_getElem? (i := 958) (by decide +kernel)⟩
theorem lw_p70 : lw_okq (⟨"WebTensionLineModel", "hurry", "()V"⟩, 27) := ⟨⟨by decide +kernel, by decide +kernel⟩, List.mem_of_getElem? (i := 774) (by decide +kernel), List.mem_of_getElem? (i := 961) (by decide +kernel), List.mem_of_getElem? (i := 962) (by decide +kernel)⟩
theorem lw_p71 : lw_okq (⟨"WebTensionLineModel", "feed", "()V"⟩, 27) := ⟨⟨by decide +kernel, by decide +kernel⟩, List.mem_of_getElem? (i := 774) (by decide +kernel), List.mem_of_getElem? (i := 968) (by decide +kernel), List.mem_of_getElem? (i := 969) (by decide +kernel)⟩
theorem lw_p72 : lw_okq (⟨"WebTensionLineModel", "speed", "(I)J"⟩, 27) := ⟨⟨by decide +kernel, by decide +kernel⟩, List.mem_of_getElem? (i := 774) (by decide +kernel), List.mem_of_getElem? (i := 972) (by decide +kernel), List.mem_of_getElem? (i := 973) (by decide +kernel)⟩
theorem lw_p73 : lw_okq (⟨"WebTensionLineModel", "nominalSpeed", "(IJ)J"⟩, 27) := ⟨⟨by decide +kernel, by decide +kernel⟩, List.mem_of_getElem? (i := 774) (by decide +kernel), List.mem_of_getElem? (i := 976) (by decide +kernel), List.mem_of_getElem? (i := 977) (by decide +kernel)⟩
theorem lw_p74 : lw_okq (⟨"WebTensionLineModel", "unwind", "()V"⟩, 27) := ⟨⟨by decide +kernel, by decide +kernel⟩, List.mem_of_getElem? (i := 774) (by decide +kernel), List.mem_of_getElem? (i := 983) (by decide +kernel), List.mem_of_getElem? (i := 984) (by decide +kernel)⟩
theorem lw_p75 : lw_okq (⟨"WebTensionLineModel", "happens", "(IJ)V"⟩, 27) := ⟨⟨by decide +kernel, by decide +kernel⟩, List.mem_of_getElem? (i := 774) (by decide +kernel), List.mem_of_getElem? (i := 987) (by decide +kernel), List.mem_of_getElem? (i := 988) (by decide +kernel)⟩
theorem lw_p76 : lw_okq (⟨"WebTensionLineModel", "breaks", "(I)V"⟩, 27) := ⟨⟨by decide +kernel, by decide +kernel⟩, List.mem_of_getElem? (i := 774) (by decide +kernel), List.mem_of_getElem? (i := 991) (by decide +kernel), List.mem_of_getElem? (i := 992) (by decide +kernel)⟩
theorem lw_p77 : lw_okq (⟨"WebTensionLineModel", "rewind", "()V"⟩, 27) := ⟨⟨by decide +kernel, by decide +kernel⟩, List.mem_of_getElem? (i := 774) (by decide +kernel), List.mem_of_getElem? (i := 995) (by decide +kernel), List.mem_of_getElem? (i := 996) (by decide +kernel)⟩
theorem lw_p78 : lw_okq (⟨"WebTensionLineModel", "controls", "(I)V"⟩, 27) := ⟨⟨by decide +kernel, by decide +kernel⟩, List.mem_of_getElem? (i := 774) (by decide +kernel), List.mem_of_getElem? (i := 999) (by decide +kernel), List.mem_of_getElem? (i := 1000) (by decide +kernel)⟩
theorem lw_p79 : lw_okq (⟨"WebTensionLineModel", "tension", "(I)J"⟩, 27) := ⟨⟨by decide +kernel, by decide +kernel⟩, List.mem_of_getElem? (i := 774) (by decide +kernel), List.mem_of_getElem? (i := 1003) (by decide +kernel), List.mem_of_getElem? (i := 1004) (by decide +kernel)⟩
def lw_privs_5 : List (MethodName × Nat) := [(⟨"WebTensionLineModel", "begin", "(I)V"⟩, 27), (⟨"WebTensionLineModel", "append", "(I)V"⟩, 27), (⟨"WebTensionLineModel", "noSpan", "(I)Z"⟩, 27), (⟨"WebTensionLineModel", "equip", "(II)I"⟩, 27), (⟨"WebTensionLineModel", "length", "(I)J"⟩, 27), (⟨"WebTensionLineModel", "tick", "()V"⟩, 27), (⟨"WebTensionLineModel", "hurry", "()V"⟩, 27), (⟨"WebTensionLineModel", "feed", "()V"⟩, 27), (⟨"WebTensionLineModel", "speed", "(I)J"⟩, 27), (⟨"WebTensionLineModel", "nominalSpeed", "(IJ)J"⟩, 27), (⟨"WebTensionLineModel", "unwind", "()V"⟩, 27), (⟨"WebTensionLineModel", "happens", "(IJ)V"⟩, 27), (⟨"WebTensionLineModel", "breaks", "(I)V"⟩, 27), (⟨"WebTensionLineModel", "rewind", "()V"⟩, 27), (⟨"WebTensionLineModel", "controls", "(I)V"⟩, 27), (⟨"WebTensionLineModel", "tension", "(I)J"⟩, 27)]
theorem lw_r5 : ∀ q ∈ lw_privs_5, lw_okq q := List.forall_mem_cons.mpr ⟨lw_p64, List.forall_mem_cons.mpr ⟨lw_p65, List.forall_mem_cons.mpr ⟨lw_p66, List.forall_mem_cons.mpr ⟨lw_p67, List.forall_mem_cons.mpr ⟨lw_p68, List.forall_mem_cons.mpr ⟨lw_p69, List.forall_mem_cons.mpr ⟨lw_p70, List.forall_mem_cons.mpr ⟨lw_p71, List.forall_mem_cons.mpr ⟨lw_p72, List.forall_mem_cons.mpr ⟨lw_p73, List.forall_mem_cons.mpr ⟨lw_p74, List.forall_mem_cons.mpr ⟨lw_p75, List.forall_mem_cons.mpr ⟨lw_p76, List.forall_mem_cons.mpr ⟨lw_p77, List.forall_mem_cons.mpr ⟨lw_p78, List.forall_mem_cons.mpr ⟨lw_p79, fun _ h => absurd h List.not_mem_nil⟩⟩⟩⟩⟩⟩⟩⟩⟩⟩⟩⟩⟩⟩⟩⟩
theorem lw_p80 : lw_okq (⟨"WebTensionLineModel", "removeMarks", "()V"⟩, 27) := ⟨⟨by decide +kernel, by decide +kernel⟩, List.mem_of_getElem? (i := 774) (by decide +kernel), List.mem_of_getElem? (i := 1011) (by decide +kernel), List.mem_of_getElem? (i := 1012) (by decide +kernel)⟩
theorem lw_p81 : lw_okq (⟨"WebTensionLineModel", "materialTo", "(I)J"⟩, 27) := ⟨⟨by decide +kernel, by decide +kernel⟩, List.mem_of_getElem? (i := 774) (by decide +kernel), List.mem_of_getElem? (i := 1015) (by decide +kernel), List.mem_of_getElem? (i := 1016) (by decide +kernel)⟩
theorem lw_p82 : lw_okq (⟨"WebTensionLineModel", "watch", "(I)V"⟩, 27) := ⟨⟨by decide +kernel, by decide +kernel⟩, List.mem_of_getElem? (i := 774) (by decide +kernel), List.mem_of_getElem? (i := 1019) (by decide +kernel), List.mem_of_getElem? (i := 1020) (by decide +kernel)⟩
theorem lw_p83 : lw_okq (⟨"WebTensionLineModel", "marksIn", "(I)I"⟩, 27) := ⟨⟨by decide +kernel, by decide +kernel⟩, List.mem_of_getElem? (i := 774) (by decide +kernel), List.mem_of_getElem? (i := 1024) (by decide +kernel), List.mem_of_getElem? (i := 1025) (by decide +kernel)⟩
theorem lw_p84 : lw_okq (⟨"WebTensionLineModel", "isMarkIn", "(II)Z"⟩, 27) := ⟨⟨by decide +kernel, by decide +kernel⟩, List.mem_of_getElem? (i := 774) (by decide +kernel), List.mem_of_getElem? (i := 1028) (by decide +kernel), List.mem_of_getElem? (i := 1029) (by decide +kernel)⟩
theorem lw_p85 : lw_okq (⟨"WebTensionLineModel", "steady", "(I)J"⟩, 27) := ⟨⟨by decide +kernel, by decide +kernel⟩, List.mem_of_getElem? (i := 774) (by decide +kernel), List.mem_of_getElem? (i := 1079) (by decide +kernel), List.mem_of_getElem? (i := 1080) (by decide +kernel)⟩
theorem lw_p86 : lw_okq (⟨"WebTensionLineModel", "putAside", "()V"⟩, 27) := ⟨⟨by decide +kernel, by decide +kernel⟩, List.mem_of_getElem? (i := 774) (by decide +kernel), List.mem_of_getElem? (i := 1092) (by decide +kernel), List.mem_of_getElem? (i := 1093) (by decide +kernel)⟩
theorem lw_p87 : lw_okq (⟨"WebTensionLineModel", "takeBack", "()V"⟩, 27) := ⟨⟨by decide +kernel, by decide +kernel⟩, List.mem_of_getElem? (i := 774) (by decide +kernel), List.mem_of_getElem? (i := 1096) (by decide +kernel), List.mem_of_getElem? (i := 1097) (by decide +kernel)⟩
def lw_privs_6 : List (MethodName × Nat) := [(⟨"WebTensionLineModel", "removeMarks", "()V"⟩, 27), (⟨"WebTensionLineModel", "materialTo", "(I)J"⟩, 27), (⟨"WebTensionLineModel", "watch", "(I)V"⟩, 27), (⟨"WebTensionLineModel", "marksIn", "(I)I"⟩, 27), (⟨"WebTensionLineModel", "isMarkIn", "(II)Z"⟩, 27), (⟨"WebTensionLineModel", "steady", "(I)J"⟩, 27), (⟨"WebTensionLineModel", "putAside", "()V"⟩, 27), (⟨"WebTensionLineModel", "takeBack", "()V"⟩, 27)]
theorem lw_r6 : ∀ q ∈ lw_privs_6, lw_okq q := List.forall_mem_cons.mpr ⟨lw_p80, List.forall_mem_cons.mpr ⟨lw_p81, List.forall_mem_cons.mpr ⟨lw_p82, List.forall_mem_cons.mpr ⟨lw_p83, List.forall_mem_cons.mpr ⟨lw_p84, List.forall_mem_cons.mpr ⟨lw_p85, List.forall_mem_cons.mpr ⟨lw_p86, List.forall_mem_cons.mpr ⟨lw_p87, fun _ h => absurd h List.not_mem_nil⟩⟩⟩⟩⟩⟩⟩⟩
def lw_privs : List (MethodName × Nat) := lw_privs_1 ++ (lw_privs_2 ++ (lw_privs_3 ++ (lw_privs_4 ++ (lw_privs_5 ++ (lw_privs_6)))))
def lw_tbl : List Cond := k2_sels lw_privs ++ tables_1
theorem lw_privs_ok : ∀ q ∈ lw_privs, lw_okq q := by
  show ∀ q ∈ lw_privs_1 ++ (lw_privs_2 ++ (lw_privs_3 ++ (lw_privs_4 ++ (lw_privs_5 ++ (lw_privs_6))))), lw_okq q
  exact List.forall_mem_append.mpr ⟨lw_r1, List.forall_mem_append.mpr ⟨lw_r2, List.forall_mem_append.mpr ⟨lw_r3, List.forall_mem_append.mpr ⟨lw_r4, List.forall_mem_append.mpr ⟨lw_r5, lw_r6⟩⟩⟩⟩⟩

theorem goodIn_r {big : List Cond} (ws : List Cond) (ps : List Nat) (hp : ws = ps.filterMap (fun i => big[i]?)) (h : ws.all goodWord = true) : GoodIn big ws := by
  intro w hw
  have h1 := List.all_eq_true.mp h w hw
  rw [hp] at hw
  obtain ⟨i, -, hi⟩ := List.mem_filterMap.mp hw
  have hm : w ∈ big := by first | exact List.mem_of_getElem? hi | exact List.getElem?_mem hi
  exact ⟨hm, good_of_word h1⟩
theorem goodIn_app {big a b : List Cond} (ha : GoodIn big a) (hb : GoodIn big b) : GoodIn big (a ++ b) := fun w h => (List.mem_append.mp h).elim (ha w) (hb w)
theorem goodIn_ca {big a b : List Cond} {c : Cond} (ha : GoodIn big (c :: a)) (hb : GoodIn big b) : GoodIn big (c :: (a ++ b)) := fun w h => (List.mem_cons.mp h).elim (fun e => ha w (List.mem_cons.mpr (Or.inl e))) (fun h => (List.mem_append.mp h).elim (fun h => ha w (List.mem_cons.mpr (Or.inr h))) (hb w))
theorem goodIn_sub {big ws : List Cond} (hm : ∀ w ∈ ws, w ∈ big) (h : ws.all goodWord = true) : GoodIn big ws := fun w hw => ⟨hm w hw, good_of_word (List.all_eq_true.mp h w hw)⟩
def RX0 : String := "WebTensionLine$Dancer"
def TX0 : u_T := fun k => match k with
  | 0 => ("WebTensionLine$Dancer", "travel", "I", false)
  | 1 => ("WebTensionLine$Dancer", "force", "I", false)
  | 2 => ("WebTensionLine$Dancer", "mobility", "I", false)
  | 3 => ("WebTensionLine$Dancer", "kp", "I", false)
  | 4 => ("WebTensionLine$Dancer", "ki", "I", false)
  | 5 => ("WebTensionLine$Dancer", "position", "I", false)
  | _ => ("WebTensionLine$Dancer", "sum", "I", false)
def tyX0 : Nat → FieldType := fun k => match k with
  | 0 => .int
  | 1 => .int
  | 2 => .int
  | 3 => .int
  | 4 => .int
  | 5 => .int
  | _ => .int
abbrev wsX00 : List Cond := u_ws RX0 TX0 7
theorem nmX0 : ∀ a, a < 7 → ∀ b, b < 7 → a ≠ b → (TX0 a).2.1 ≠ (TX0 b).2.1 := by decide +kernel
theorem tyX0_ok : ∀ k, k < 7 → parseFieldDescriptor (TX0 k).2.2.1 = some (tyX0 k) := by decide +kernel
abbrev cX0_init : ByteArray := prog_2_method_1_code
def yX0_init : MethodName := ⟨RX0, "<init>", "()V"⟩
abbrev cX0_begin : ByteArray := prog_2_method_2_code
def yX0_begin : MethodName := ⟨RX0, "begin", "(IIIII)V"⟩
abbrev cX0_copyFrom : ByteArray := prog_2_method_3_code
def yX0_copyFrom : MethodName := ⟨RX0, "copyFrom", "(LWebTensionLine$Dancer;)V"⟩
abbrev cX0_centre : ByteArray := prog_2_method_4_code
def yX0_centre : MethodName := ⟨RX0, "centre", "()V"⟩
abbrev cX0_error : ByteArray := prog_2_method_5_code
def yX0_error : MethodName := ⟨RX0, "error", "()I"⟩
abbrev cX0_move : ByteArray := prog_2_method_6_code
def yX0_move : MethodName := ⟨RX0, "move", "(J)V"⟩
abbrev cX0_trim : ByteArray := prog_2_method_7_code
def yX0_trim : MethodName := ⟨RX0, "trim", "()I"⟩
def RX1 : String := "WebTensionLine$Drive"
def TX1 : u_T := fun k => match k with
  | 0 => ("WebTensionLine$Drive", "base", "I", false)
  | 1 => ("WebTensionLine$Drive", "target", "I", false)
  | 2 => ("WebTensionLine$Drive", "ramp", "I", false)
  | 3 => ("WebTensionLine$Drive", "spliceSpeed", "I", false)
  | _ => ("WebTensionLine$Drive", "trigger", "I", false)
def tyX1 : Nat → FieldType := fun k => match k with
  | 0 => .int
  | 1 => .int
  | 2 => .int
  | 3 => .int
  | _ => .int
abbrev wsX10 : List Cond := u_ws RX1 TX1 5
theorem nmX1 : ∀ a, a < 5 → ∀ b, b < 5 → a ≠ b → (TX1 a).2.1 ≠ (TX1 b).2.1 := by decide +kernel
theorem tyX1_ok : ∀ k, k < 5 → parseFieldDescriptor (TX1 k).2.2.1 = some (tyX1 k) := by decide +kernel
abbrev cX1_init : ByteArray := prog_3_method_1_code
def yX1_init : MethodName := ⟨RX1, "<init>", "()V"⟩
abbrev cX1_begin : ByteArray := prog_3_method_2_code
def yX1_begin : MethodName := ⟨RX1, "begin", "()V"⟩
abbrev cX1_copyFrom : ByteArray := prog_3_method_3_code
def yX1_copyFrom : MethodName := ⟨RX1, "copyFrom", "(LWebTensionLine$Drive;)V"⟩
abbrev cX1_changeTarget : ByteArray := prog_3_method_4_code
def yX1_changeTarget : MethodName := ⟨RX1, "changeTarget", "(II)I"⟩
abbrev cX1_changeSplicing : ByteArray := prog_3_method_5_code
def yX1_changeSplicing : MethodName := ⟨RX1, "changeSplicing", "(II)I"⟩
abbrev cX1_approachWanted : ByteArray := prog_3_method_6_code
def yX1_approachWanted : MethodName := ⟨RX1, "approachWanted", "(Z)V"⟩
def RX2 : String := "WebTensionLine$EventLog"
def TX2 : u_T := fun k => match k with
  | 0 => ("WebTensionLine$EventLog", "times", "[I", true)
  | 1 => ("WebTensionLine$EventLog", "kinds", "[I", true)
  | 2 => ("WebTensionLine$EventLog", "places", "[I", true)
  | 3 => ("WebTensionLine$EventLog", "oldest", "I", false)
  | _ => ("WebTensionLine$EventLog", "count", "I", false)
def tyX2 : Nat → FieldType := fun k => match k with
  | 0 => .array .int
  | 1 => .array .int
  | 2 => .array .int
  | 3 => .int
  | _ => .int
abbrev wsX20 : List Cond := u_ws RX2 TX2 5
theorem nmX2 : ∀ a, a < 5 → ∀ b, b < 5 → a ≠ b → (TX2 a).2.1 ≠ (TX2 b).2.1 := by decide +kernel
theorem tyX2_ok : ∀ k, k < 5 → parseFieldDescriptor (TX2 k).2.2.1 = some (tyX2 k) := by decide +kernel
abbrev cX2_init : ByteArray := prog_4_method_1_code
def yX2_init : MethodName := ⟨RX2, "<init>", "()V"⟩
abbrev cX2_begin : ByteArray := prog_4_method_2_code
def yX2_begin : MethodName := ⟨RX2, "begin", "()V"⟩
abbrev cX2_slotOf : ByteArray := prog_4_method_3_code
def yX2_slotOf : MethodName := ⟨RX2, "slotOf", "(I)I"⟩
abbrev cX2_add : ByteArray := prog_4_method_4_code
def yX2_add : MethodName := ⟨RX2, "add", "(III)V"⟩
def RX3 : String := "WebTensionLine$Line"
def TX3 : u_T := fun k => match k with
  | 0 => ("WebTensionLine$Line", "web", "LWebTensionLine$Web;", true)
  | 1 => ("WebTensionLine$Line", "drive", "LWebTensionLine$Drive;", true)
  | 2 => ("WebTensionLine$Line", "unwinder", "LWebTensionLine$Unwinder;", true)
  | 3 => ("WebTensionLine$Line", "rewinder", "LWebTensionLine$Rewinder;", true)
  | 4 => ("WebTensionLine$Line", "marks", "LWebTensionLine$Marks;", true)
  | 5 => ("WebTensionLine$Line", "log", "LWebTensionLine$EventLog;", true)
  | 6 => ("WebTensionLine$Line", "spans", "[LWebTensionLine$Span;", true)
  | 7 => ("WebTensionLine$Line", "rollers", "[LWebTensionLine$Roller;", true)
  | 8 => ("WebTensionLine$Line", "amounts", "[J", true)
  | 9 => ("WebTensionLine$Line", "spanCount", "I", false)
  | 10 => ("WebTensionLine$Line", "time", "I", false)
  | 11 => ("WebTensionLine$Line", "state", "I", false)
  | _ => ("WebTensionLine$Line", "breakPlace", "I", false)
def tyX3 : Nat → FieldType := fun k => match k with
  | 0 => .object "WebTensionLine$Web"
  | 1 => .object "WebTensionLine$Drive"
  | 2 => .object "WebTensionLine$Unwinder"
  | 3 => .object "WebTensionLine$Rewinder"
  | 4 => .object "WebTensionLine$Marks"
  | 5 => .object "WebTensionLine$EventLog"
  | 6 => .array (.object "WebTensionLine$Span")
  | 7 => .array (.object "WebTensionLine$Roller")
  | 8 => .array .long
  | 9 => .int
  | 10 => .int
  | 11 => .int
  | _ => .int
abbrev wsX30 : List Cond := u_ws RX3 TX3 13
theorem nmX3 : ∀ a, a < 13 → ∀ b, b < 13 → a ≠ b → (TX3 a).2.1 ≠ (TX3 b).2.1 := by decide +kernel
theorem tyX3_ok : ∀ k, k < 13 → parseFieldDescriptor (TX3 k).2.2.1 = some (tyX3 k) := by decide +kernel
abbrev cX3_init : ByteArray := prog_5_method_1_code
def yX3_init : MethodName := ⟨RX3, "<init>", "()V"⟩
abbrev cX3_begin : ByteArray := prog_5_method_2_code
def yX3_begin : MethodName := ⟨RX3, "begin", "(I)V"⟩
abbrev cX3_append : ByteArray := prog_5_method_3_code
def yX3_append : MethodName := ⟨RX3, "append", "(I)I"⟩
abbrev cX3_copyFrom : ByteArray := prog_5_method_4_code
def yX3_copyFrom : MethodName := ⟨RX3, "copyFrom", "(LWebTensionLine$Line;)V"⟩
abbrev cX3_hasSpan : ByteArray := prog_5_method_5_code
def yX3_hasSpan : MethodName := ⟨RX3, "hasSpan", "(I)Z"⟩
abbrev cX3_hasRoller : ByteArray := prog_5_method_6_code
def yX3_hasRoller : MethodName := ⟨RX3, "hasRoller", "(I)Z"⟩
abbrev cX3_nominalSpeed : ByteArray := prog_5_method_7_code
def yX3_nominalSpeed : MethodName := ⟨RX3, "nominalSpeed", "(II)J"⟩
abbrev cX3_speedOf : ByteArray := prog_5_method_8_code
def yX3_speedOf : MethodName := ⟨RX3, "speedOf", "(I)J"⟩
abbrev cX3_placeAtRoller : ByteArray := prog_5_method_9_code
def yX3_placeAtRoller : MethodName := ⟨RX3, "placeAtRoller", "(I)J"⟩
abbrev cX3_marksIn : ByteArray := prog_5_method_10_code
def yX3_marksIn : MethodName := ⟨RX3, "marksIn", "(I)I"⟩
abbrev cX3_threadAnew : ByteArray := prog_5_method_11_code
def yX3_threadAnew : MethodName := ⟨RX3, "threadAnew", "()V"⟩
abbrev cX3_tick : ByteArray := prog_5_method_12_code
def yX3_tick : MethodName := ⟨RX3, "tick", "()V"⟩
abbrev cX3_passWeb : ByteArray := prog_5_method_13_code
def yX3_passWeb : MethodName := ⟨RX3, "passWeb", "()V"⟩
abbrev cX3_unwind : ByteArray := prog_5_method_14_code
def yX3_unwind : MethodName := ⟨RX3, "unwind", "()V"⟩
abbrev cX3_breakWeb : ByteArray := prog_5_method_15_code
def yX3_breakWeb : MethodName := ⟨RX3, "breakWeb", "(I)V"⟩
abbrev cX3_wind : ByteArray := prog_5_method_16_code
def yX3_wind : MethodName := ⟨RX3, "wind", "()V"⟩
abbrev cX3_control : ByteArray := prog_5_method_17_code
def yX3_control : MethodName := ⟨RX3, "control", "()V"⟩
abbrev cX3_inspect : ByteArray := prog_5_method_18_code
def yX3_inspect : MethodName := ⟨RX3, "inspect", "()V"⟩
abbrev cX3_countSlack : ByteArray := prog_5_method_19_code
def yX3_countSlack : MethodName := ⟨RX3, "countSlack", "(IJ)V"⟩
def RX4 : String := "WebTensionLine$LoadCell"
def TX4 : u_T := fun k => match k with
  | 0 => ("WebTensionLine$LoadCell", "wanted", "I", false)
  | _ => ("WebTensionLine$LoadCell", "gain", "I", false)
def tyX4 : Nat → FieldType := fun k => match k with
  | 0 => .int
  | _ => .int
abbrev wsX40 : List Cond := u_ws RX4 TX4 2
theorem nmX4 : ∀ a, a < 2 → ∀ b, b < 2 → a ≠ b → (TX4 a).2.1 ≠ (TX4 b).2.1 := by decide +kernel
theorem tyX4_ok : ∀ k, k < 2 → parseFieldDescriptor (TX4 k).2.2.1 = some (tyX4 k) := by decide +kernel
abbrev cX4_init : ByteArray := prog_6_method_1_code
def yX4_init : MethodName := ⟨RX4, "<init>", "()V"⟩
abbrev cX4_begin : ByteArray := prog_6_method_2_code
def yX4_begin : MethodName := ⟨RX4, "begin", "(II)V"⟩
abbrev cX4_copyFrom : ByteArray := prog_6_method_3_code
def yX4_copyFrom : MethodName := ⟨RX4, "copyFrom", "(LWebTensionLine$LoadCell;)V"⟩
abbrev cX4_trimAfter : ByteArray := prog_6_method_4_code
def yX4_trimAfter : MethodName := ⟨RX4, "trimAfter", "(IJ)I"⟩
def RX5 : String := "WebTensionLine$Marks"
def TX5 : u_T := fun k => match k with
  | 0 => ("WebTensionLine$Marks", "places", "[J", true)
  | _ => ("WebTensionLine$Marks", "count", "I", false)
def tyX5 : Nat → FieldType := fun k => match k with
  | 0 => .array .long
  | _ => .int
abbrev wsX50 : List Cond := u_ws RX5 TX5 2
theorem nmX5 : ∀ a, a < 2 → ∀ b, b < 2 → a ≠ b → (TX5 a).2.1 ≠ (TX5 b).2.1 := by decide +kernel
theorem tyX5_ok : ∀ k, k < 2 → parseFieldDescriptor (TX5 k).2.2.1 = some (tyX5 k) := by decide +kernel
abbrev cX5_init : ByteArray := prog_7_method_1_code
def yX5_init : MethodName := ⟨RX5, "<init>", "()V"⟩
abbrev cX5_clearAll : ByteArray := prog_7_method_2_code
def yX5_clearAll : MethodName := ⟨RX5, "clearAll", "()V"⟩
abbrev cX5_copyFrom : ByteArray := prog_7_method_3_code
def yX5_copyFrom : MethodName := ⟨RX5, "copyFrom", "(LWebTensionLine$Marks;)V"⟩
abbrev cX5_add : ByteArray := prog_7_method_4_code
def yX5_add : MethodName := ⟨RX5, "add", "(J)V"⟩
abbrev cX5_dropUpTo : ByteArray := prog_7_method_5_code
def yX5_dropUpTo : MethodName := ⟨RX5, "dropUpTo", "(J)V"⟩
abbrev cX5_countBetween : ByteArray := prog_7_method_6_code
def yX5_countBetween : MethodName := ⟨RX5, "countBetween", "(JJ)I"⟩
def RX6 : String := "WebTensionLine$Rewinder"
def TX6 : u_T := fun k => match k with
  | 0 => ("WebTensionLine$Rewinder", "length", "J", false)
  | 1 => ("WebTensionLine$Rewinder", "rollLength", "I", false)
  | _ => ("WebTensionLine$Rewinder", "finished", "I", false)
def tyX6 : Nat → FieldType := fun k => match k with
  | 0 => .long
  | 1 => .int
  | _ => .int
abbrev wsX60 : List Cond := u_ws RX6 TX6 3
theorem nmX6 : ∀ a, a < 3 → ∀ b, b < 3 → a ≠ b → (TX6 a).2.1 ≠ (TX6 b).2.1 := by decide +kernel
theorem tyX6_ok : ∀ k, k < 3 → parseFieldDescriptor (TX6 k).2.2.1 = some (tyX6 k) := by decide +kernel
abbrev cX6_init : ByteArray := prog_8_method_1_code
def yX6_init : MethodName := ⟨RX6, "<init>", "()V"⟩
abbrev cX6_begin : ByteArray := prog_8_method_2_code
def yX6_begin : MethodName := ⟨RX6, "begin", "()V"⟩
abbrev cX6_copyFrom : ByteArray := prog_8_method_3_code
def yX6_copyFrom : MethodName := ⟨RX6, "copyFrom", "(LWebTensionLine$Rewinder;)V"⟩
abbrev cX6_takes : ByteArray := prog_8_method_4_code
def yX6_takes : MethodName := ⟨RX6, "takes", "(J)Z"⟩
def RX7 : String := "WebTensionLine$Roller"
def TX7 : u_T := fun k => match k with
  | 0 => ("WebTensionLine$Roller", "passage", "J", false)
  | 1 => ("WebTensionLine$Roller", "draw", "I", false)
  | _ => ("WebTensionLine$Roller", "trim", "I", false)
def tyX7 : Nat → FieldType := fun k => match k with
  | 0 => .long
  | 1 => .int
  | _ => .int
abbrev wsX70 : List Cond := u_ws RX7 TX7 3
theorem nmX7 : ∀ a, a < 3 → ∀ b, b < 3 → a ≠ b → (TX7 a).2.1 ≠ (TX7 b).2.1 := by decide +kernel
theorem tyX7_ok : ∀ k, k < 3 → parseFieldDescriptor (TX7 k).2.2.1 = some (tyX7 k) := by decide +kernel
abbrev cX7_init : ByteArray := prog_9_method_1_code
def yX7_init : MethodName := ⟨RX7, "<init>", "()V"⟩
abbrev cX7_begin : ByteArray := prog_9_method_2_code
def yX7_begin : MethodName := ⟨RX7, "begin", "()V"⟩
abbrev cX7_copyFrom : ByteArray := prog_9_method_3_code
def yX7_copyFrom : MethodName := ⟨RX7, "copyFrom", "(LWebTensionLine$Roller;)V"⟩
def RX8 : String := "WebTensionLine$Span"
def TX8 : u_T := fun k => match k with
  | 0 => ("WebTensionLine$Span", "dancer", "LWebTensionLine$Dancer;", true)
  | 1 => ("WebTensionLine$Span", "cell", "LWebTensionLine$LoadCell;", true)
  | 2 => ("WebTensionLine$Span", "nominal", "I", false)
  | 3 => ("WebTensionLine$Span", "controller", "I", false)
  | 4 => ("WebTensionLine$Span", "material", "J", false)
  | 5 => ("WebTensionLine$Span", "greatestTension", "J", false)
  | _ => ("WebTensionLine$Span", "slackCount", "I", false)
def tyX8 : Nat → FieldType := fun k => match k with
  | 0 => .object "WebTensionLine$Dancer"
  | 1 => .object "WebTensionLine$LoadCell"
  | 2 => .int
  | 3 => .int
  | 4 => .long
  | 5 => .long
  | _ => .int
abbrev wsX80 : List Cond := u_ws RX8 TX8 7
theorem nmX8 : ∀ a, a < 7 → ∀ b, b < 7 → a ≠ b → (TX8 a).2.1 ≠ (TX8 b).2.1 := by decide +kernel
theorem tyX8_ok : ∀ k, k < 7 → parseFieldDescriptor (TX8 k).2.2.1 = some (tyX8 k) := by decide +kernel
abbrev cX8_init : ByteArray := prog_10_method_1_code
def yX8_init : MethodName := ⟨RX8, "<init>", "()V"⟩
abbrev cX8_begin : ByteArray := prog_10_method_2_code
def yX8_begin : MethodName := ⟨RX8, "begin", "(I)V"⟩
abbrev cX8_copyFrom : ByteArray := prog_10_method_3_code
def yX8_copyFrom : MethodName := ⟨RX8, "copyFrom", "(LWebTensionLine$Span;)V"⟩
abbrev cX8_equip : ByteArray := prog_10_method_4_code
def yX8_equip : MethodName := ⟨RX8, "equip", "(I)I"⟩
abbrev cX8_threadAnew : ByteArray := prog_10_method_5_code
def yX8_threadAnew : MethodName := ⟨RX8, "threadAnew", "()V"⟩
abbrev cX8_length : ByteArray := prog_10_method_6_code
def yX8_length : MethodName := ⟨RX8, "length", "()J"⟩
abbrev cX8_tensionAt : ByteArray := prog_10_method_7_code
def yX8_tensionAt : MethodName := ⟨RX8, "tensionAt", "(I)J"⟩
def RX9 : String := "WebTensionLine$Unwinder"
def TX9 : u_T := fun k => match k with
  | 0 => ("WebTensionLine$Unwinder", "queue", "[I", true)
  | 1 => ("WebTensionLine$Unwinder", "queued", "I", false)
  | _ => ("WebTensionLine$Unwinder", "remaining", "J", false)
def tyX9 : Nat → FieldType := fun k => match k with
  | 0 => .array .int
  | 1 => .int
  | _ => .long
abbrev wsX90 : List Cond := u_ws RX9 TX9 3
theorem nmX9 : ∀ a, a < 3 → ∀ b, b < 3 → a ≠ b → (TX9 a).2.1 ≠ (TX9 b).2.1 := by decide +kernel
theorem tyX9_ok : ∀ k, k < 3 → parseFieldDescriptor (TX9 k).2.2.1 = some (tyX9 k) := by decide +kernel
abbrev cX9_init : ByteArray := prog_11_method_1_code
def yX9_init : MethodName := ⟨RX9, "<init>", "()V"⟩
abbrev cX9_begin : ByteArray := prog_11_method_2_code
def yX9_begin : MethodName := ⟨RX9, "begin", "()V"⟩
abbrev cX9_copyFrom : ByteArray := prog_11_method_3_code
def yX9_copyFrom : MethodName := ⟨RX9, "copyFrom", "(LWebTensionLine$Unwinder;)V"⟩
abbrev cX9_put : ByteArray := prog_11_method_4_code
def yX9_put : MethodName := ⟨RX9, "put", "(I)I"⟩
abbrev cX9_takeNext : ByteArray := prog_11_method_5_code
def yX9_takeNext : MethodName := ⟨RX9, "takeNext", "()V"⟩
abbrev cX9_isSplicePending : ByteArray := prog_11_method_6_code
def yX9_isSplicePending : MethodName := ⟨RX9, "isSplicePending", "(I)Z"⟩
abbrev cX9_queuedLength : ByteArray := prog_11_method_7_code
def yX9_queuedLength : MethodName := ⟨RX9, "queuedLength", "()J"⟩
def RX10 : String := "WebTensionLine$Web"
def TX10 : u_T := fun k => match k with
  | 0 => ("WebTensionLine$Web", "stiffness", "I", false)
  | 1 => ("WebTensionLine$Web", "wound", "I", false)
  | 2 => ("WebTensionLine$Web", "strength", "I", false)
  | _ => ("WebTensionLine$Web", "spliceStrength", "I", false)
def tyX10 : Nat → FieldType := fun k => match k with
  | 0 => .int
  | 1 => .int
  | 2 => .int
  | _ => .int
abbrev wsX100 : List Cond := u_ws RX10 TX10 4
theorem nmX10 : ∀ a, a < 4 → ∀ b, b < 4 → a ≠ b → (TX10 a).2.1 ≠ (TX10 b).2.1 := by decide +kernel
theorem tyX10_ok : ∀ k, k < 4 → parseFieldDescriptor (TX10 k).2.2.1 = some (tyX10 k) := by decide +kernel
abbrev cX10_init : ByteArray := prog_12_method_1_code
def yX10_init : MethodName := ⟨RX10, "<init>", "()V"⟩
abbrev cX10_begin : ByteArray := prog_12_method_2_code
def yX10_begin : MethodName := ⟨RX10, "begin", "()V"⟩
abbrev cX10_copyFrom : ByteArray := prog_12_method_3_code
def yX10_copyFrom : MethodName := ⟨RX10, "copyFrom", "(LWebTensionLine$Web;)V"⟩
abbrev cX10_changeStiffness : ByteArray := prog_12_method_4_code
def yX10_changeStiffness : MethodName := ⟨RX10, "changeStiffness", "(II)I"⟩
abbrev cX10_changeStrength : ByteArray := prog_12_method_5_code
def yX10_changeStrength : MethodName := ⟨RX10, "changeStrength", "(II)I"⟩
abbrev cX10_strengthWith : ByteArray := prog_12_method_6_code
def yX10_strengthWith : MethodName := ⟨RX10, "strengthWith", "(I)J"⟩
abbrev cX10_steadyTensionAt : ByteArray := prog_12_method_7_code
def yX10_steadyTensionAt : MethodName := ⟨RX10, "steadyTensionAt", "(JJ)J"⟩
abbrev cX10_steadyGap : ByteArray := prog_12_method_8_code
def yX10_steadyGap : MethodName := ⟨RX10, "steadyGap", "(IJJ)J"⟩
def RX11 : String := "WebTensionLine"
def TX11 : u_T := fun k => match k with
  | 0 => ("WebTensionLine", "line", "LWebTensionLine$Line;", true)
  | _ => ("WebTensionLine", "trial", "LWebTensionLine$Line;", true)
def tyX11 : Nat → FieldType := fun k => match k with
  | 0 => .object "WebTensionLine$Line"
  | _ => .object "WebTensionLine$Line"
abbrev wsX110 : List Cond := u_ws RX11 TX11 2
theorem nmX11 : ∀ a, a < 2 → ∀ b, b < 2 → a ≠ b → (TX11 a).2.1 ≠ (TX11 b).2.1 := by decide +kernel
theorem tyX11_ok : ∀ k, k < 2 → parseFieldDescriptor (TX11 k).2.2.1 = some (tyX11 k) := by decide +kernel
abbrev cX11_init : ByteArray := prog_1_method_1_code
def yX11_init : MethodName := ⟨RX11, "<init>", "()V"⟩
abbrev cX11_reset : ByteArray := prog_1_method_2_code
def yX11_reset : MethodName := ⟨RX11, "reset", "(I)I"⟩
abbrev cX11_addSpan : ByteArray := prog_1_method_3_code
def yX11_addSpan : MethodName := ⟨RX11, "addSpan", "(I)I"⟩
abbrev cX11_setDancer : ByteArray := prog_1_method_4_code
def yX11_setDancer : MethodName := ⟨RX11, "setDancer", "(IIIIII)I"⟩
abbrev cX11_setLoadCell : ByteArray := prog_1_method_5_code
def yX11_setLoadCell : MethodName := ⟨RX11, "setLoadCell", "(III)I"⟩
abbrev cX11_setWeb : ByteArray := prog_1_method_6_code
def yX11_setWeb : MethodName := ⟨RX11, "setWeb", "(II)I"⟩
abbrev cX11_setStrength : ByteArray := prog_1_method_7_code
def yX11_setStrength : MethodName := ⟨RX11, "setStrength", "(II)I"⟩
abbrev cX11_setDraw : ByteArray := prog_1_method_8_code
def yX11_setDraw : MethodName := ⟨RX11, "setDraw", "(II)I"⟩
abbrev cX11_setSpeed : ByteArray := prog_1_method_9_code
def yX11_setSpeed : MethodName := ⟨RX11, "setSpeed", "(II)I"⟩
abbrev cX11_setSplicing : ByteArray := prog_1_method_10_code
def yX11_setSplicing : MethodName := ⟨RX11, "setSplicing", "(II)I"⟩
abbrev cX11_loadRoll : ByteArray := prog_1_method_11_code
def yX11_loadRoll : MethodName := ⟨RX11, "loadRoll", "(I)I"⟩
abbrev cX11_setRollLength : ByteArray := prog_1_method_12_code
def yX11_setRollLength : MethodName := ⟨RX11, "setRollLength", "(I)I"⟩
abbrev cX11_run : ByteArray := prog_1_method_13_code
def yX11_run : MethodName := ⟨RX11, "run", "(I)I"⟩
abbrev cX11_thread : ByteArray := prog_1_method_14_code
def yX11_thread : MethodName := ⟨RX11, "thread", "()I"⟩
abbrev cX11_value : ByteArray := prog_1_method_15_code
def yX11_value : MethodName := ⟨RX11, "value", "(I)I"⟩
abbrev cX11_breakAt : ByteArray := prog_1_method_16_code
def yX11_breakAt : MethodName := ⟨RX11, "breakAt", "()I"⟩
abbrev cX11_measure : ByteArray := prog_1_method_17_code
def yX11_measure : MethodName := ⟨RX11, "measure", "(II)J"⟩
abbrev cX11_roller : ByteArray := prog_1_method_18_code
def yX11_roller : MethodName := ⟨RX11, "roller", "(II)J"⟩
abbrev cX11_web : ByteArray := prog_1_method_19_code
def yX11_web : MethodName := ⟨RX11, "web", "(I)J"⟩
abbrev cX11_markDistance : ByteArray := prog_1_method_20_code
def yX11_markDistance : MethodName := ⟨RX11, "markDistance", "(I)J"⟩
abbrev cX11_slackSpans : ByteArray := prog_1_method_21_code
def yX11_slackSpans : MethodName := ⟨RX11, "slackSpans", "()I"⟩
abbrev cX11_event : ByteArray := prog_1_method_22_code
def yX11_event : MethodName := ⟨RX11, "event", "(II)I"⟩
abbrev cX11_steadyTension : ByteArray := prog_1_method_23_code
def yX11_steadyTension : MethodName := ⟨RX11, "steadyTension", "(I)I"⟩
abbrev cX11_bestDraw : ByteArray := prog_1_method_24_code
def yX11_bestDraw : MethodName := ⟨RX11, "bestDraw", "(II)I"⟩
abbrev cX11_forecast : ByteArray := prog_1_method_25_code
def yX11_forecast : MethodName := ⟨RX11, "forecast", "(II)J"⟩
abbrev cX11_outlook : ByteArray := prog_1_method_26_code
def yX11_outlook : MethodName := ⟨RX11, "outlook", "(I)I"⟩
abbrev cX11_isWithin : ByteArray := prog_1_method_27_code
def yX11_isWithin : MethodName := ⟨RX11, "isWithin", "(III)Z"⟩
abbrev cX11_limit : ByteArray := prog_1_method_28_code
def yX11_limit : MethodName := ⟨RX11, "limit", "(JJJ)J"⟩
abbrev cX11_quotient : ByteArray := prog_1_method_29_code
def yX11_quotient : MethodName := ⟨RX11, "quotient", "(JJ)J"⟩
abbrev cX11_drawn : ByteArray := prog_1_method_30_code
def yX11_drawn : MethodName := ⟨RX11, "drawn", "(JI)J"⟩
def RX12 : String := "WebTensionLineModel"
def TX12 : u_T := fun k => match k with
  | 0 => ("WebTensionLineModel", "spans", "I", false)
  | 1 => ("WebTensionLineModel", "nominal", "[J", true)
  | 2 => ("WebTensionLineModel", "control", "[I", true)
  | 3 => ("WebTensionLineModel", "travel", "[J", true)
  | 4 => ("WebTensionLineModel", "force", "[J", true)
  | 5 => ("WebTensionLineModel", "mobility", "[J", true)
  | 6 => ("WebTensionLineModel", "byPlace", "[J", true)
  | 7 => ("WebTensionLineModel", "bySum", "[J", true)
  | 8 => ("WebTensionLineModel", "wanted", "[J", true)
  | 9 => ("WebTensionLineModel", "gain", "[J", true)
  | 10 => ("WebTensionLineModel", "draw", "[J", true)
  | 11 => ("WebTensionLineModel", "stiffness", "J", false)
  | 12 => ("WebTensionLineModel", "wound", "J", false)
  | 13 => ("WebTensionLineModel", "strength", "J", false)
  | 14 => ("WebTensionLineModel", "spliceStrength", "J", false)
  | 15 => ("WebTensionLineModel", "target", "J", false)
  | 16 => ("WebTensionLineModel", "ramp", "J", false)
  | 17 => ("WebTensionLineModel", "spliceSpeed", "J", false)
  | 18 => ("WebTensionLineModel", "trigger", "J", false)
  | 19 => ("WebTensionLineModel", "rollLength", "J", false)
  | 20 => ("WebTensionLineModel", "now", "[J", true)
  | 21 => ("WebTensionLineModel", "aside", "[J", true)
  | 22 => ("WebTensionLineModel", "list", "[J", true)
  | 23 => ("WebTensionLineModel", "listAside", "[J", true)
  | 24 => ("WebTensionLineModel", "mark", "[J", true)
  | 25 => ("WebTensionLineModel", "markAside", "[J", true)
  | _ => ("WebTensionLineModel", "amount", "[J", true)
def tyX12 : Nat → FieldType := fun k => match k with
  | 0 => .int
  | 1 => .array .long
  | 2 => .array .int
  | 3 => .array .long
  | 4 => .array .long
  | 5 => .array .long
  | 6 => .array .long
  | 7 => .array .long
  | 8 => .array .long
  | 9 => .array .long
  | 10 => .array .long
  | 11 => .long
  | 12 => .long
  | 13 => .long
  | 14 => .long
  | 15 => .long
  | 16 => .long
  | 17 => .long
  | 18 => .long
  | 19 => .long
  | 20 => .array .long
  | 21 => .array .long
  | 22 => .array .long
  | 23 => .array .long
  | 24 => .array .long
  | 25 => .array .long
  | _ => .array .long
abbrev wsX120 : List Cond := u_ws RX12 TX12 27
theorem nmX12 : ∀ a, a < 27 → ∀ b, b < 27 → a ≠ b → (TX12 a).2.1 ≠ (TX12 b).2.1 := by decide +kernel
theorem tyX12_ok : ∀ k, k < 27 → parseFieldDescriptor (TX12 k).2.2.1 = some (tyX12 k) := by decide +kernel
abbrev cX12_init : ByteArray := prog_14_method_1_code
def yX12_init : MethodName := ⟨RX12, "<init>", "()V"⟩
abbrev cX12_in : ByteArray := prog_14_method_2_code
def yX12_in : MethodName := ⟨RX12, "in", "(JJJ)Z"⟩
abbrev cX12_lost : ByteArray := prog_14_method_3_code
def yX12_lost : MethodName := ⟨RX12, "lost", "()J"⟩
abbrev cX12_down : ByteArray := prog_14_method_4_code
def yX12_down : MethodName := ⟨RX12, "down", "(JJ)J"⟩
abbrev cX12_kept : ByteArray := prog_14_method_5_code
def yX12_kept : MethodName := ⟨RX12, "kept", "(JJJ)J"⟩
abbrev cX12_begin : ByteArray := prog_14_method_6_code
def yX12_begin : MethodName := ⟨RX12, "begin", "(I)V"⟩
abbrev cX12_append : ByteArray := prog_14_method_7_code
def yX12_append : MethodName := ⟨RX12, "append", "(I)V"⟩
abbrev cX12_isLength : ByteArray := prog_14_method_8_code
def yX12_isLength : MethodName := ⟨RX12, "isLength", "(I)Z"⟩
abbrev cX12_reset : ByteArray := prog_14_method_9_code
def yX12_reset : MethodName := ⟨RX12, "reset", "(I)I"⟩
abbrev cX12_addSpan : ByteArray := prog_14_method_10_code
def yX12_addSpan : MethodName := ⟨RX12, "addSpan", "(I)I"⟩
abbrev cX12_noSpan : ByteArray := prog_14_method_11_code
def yX12_noSpan : MethodName := ⟨RX12, "noSpan", "(I)Z"⟩
abbrev cX12_length : ByteArray := prog_14_method_12_code
def yX12_length : MethodName := ⟨RX12, "length", "(I)J"⟩
abbrev cX12_equip : ByteArray := prog_14_method_13_code
def yX12_equip : MethodName := ⟨RX12, "equip", "(II)I"⟩
abbrev cX12_setDancer : ByteArray := prog_14_method_14_code
def yX12_setDancer : MethodName := ⟨RX12, "setDancer", "(IIIIII)I"⟩
abbrev cX12_setLoadCell : ByteArray := prog_14_method_15_code
def yX12_setLoadCell : MethodName := ⟨RX12, "setLoadCell", "(III)I"⟩
abbrev cX12_setWeb : ByteArray := prog_14_method_16_code
def yX12_setWeb : MethodName := ⟨RX12, "setWeb", "(II)I"⟩
abbrev cX12_setStrength : ByteArray := prog_14_method_17_code
def yX12_setStrength : MethodName := ⟨RX12, "setStrength", "(II)I"⟩
abbrev cX12_setDraw : ByteArray := prog_14_method_18_code
def yX12_setDraw : MethodName := ⟨RX12, "setDraw", "(II)I"⟩
abbrev cX12_setSpeed : ByteArray := prog_14_method_19_code
def yX12_setSpeed : MethodName := ⟨RX12, "setSpeed", "(II)I"⟩
abbrev cX12_setSplicing : ByteArray := prog_14_method_20_code
def yX12_setSplicing : MethodName := ⟨RX12, "setSplicing", "(II)I"⟩
abbrev cX12_loadRoll : ByteArray := prog_14_method_21_code
def yX12_loadRoll : MethodName := ⟨RX12, "loadRoll", "(I)I"⟩
abbrev cX12_setRollLength : ByteArray := prog_14_method_22_code
def yX12_setRollLength : MethodName := ⟨RX12, "setRollLength", "(I)I"⟩
abbrev cX12_tension : ByteArray := prog_14_method_23_code
def yX12_tension : MethodName := ⟨RX12, "tension", "(I)J"⟩
abbrev cX12_nominalSpeed : ByteArray := prog_14_method_24_code
def yX12_nominalSpeed : MethodName := ⟨RX12, "nominalSpeed", "(IJ)J"⟩
abbrev cX12_speed : ByteArray := prog_14_method_25_code
def yX12_speed : MethodName := ⟨RX12, "speed", "(I)J"⟩
abbrev cX12_materialTo : ByteArray := prog_14_method_26_code
def yX12_materialTo : MethodName := ⟨RX12, "materialTo", "(I)J"⟩
abbrev cX12_isMarkIn : ByteArray := prog_14_method_27_code
def yX12_isMarkIn : MethodName := ⟨RX12, "isMarkIn", "(II)Z"⟩
abbrev cX12_marksIn : ByteArray := prog_14_method_28_code
def yX12_marksIn : MethodName := ⟨RX12, "marksIn", "(I)I"⟩
abbrev cX12_removeMarks : ByteArray := prog_14_method_29_code
def yX12_removeMarks : MethodName := ⟨RX12, "removeMarks", "()V"⟩
abbrev cX12_happens : ByteArray := prog_14_method_30_code
def yX12_happens : MethodName := ⟨RX12, "happens", "(IJ)V"⟩
abbrev cX12_breaks : ByteArray := prog_14_method_31_code
def yX12_breaks : MethodName := ⟨RX12, "breaks", "(I)V"⟩
abbrev cX12_hurry : ByteArray := prog_14_method_32_code
def yX12_hurry : MethodName := ⟨RX12, "hurry", "()V"⟩
abbrev cX12_feed : ByteArray := prog_14_method_33_code
def yX12_feed : MethodName := ⟨RX12, "feed", "()V"⟩
abbrev cX12_unwind : ByteArray := prog_14_method_34_code
def yX12_unwind : MethodName := ⟨RX12, "unwind", "()V"⟩
abbrev cX12_rewind : ByteArray := prog_14_method_35_code
def yX12_rewind : MethodName := ⟨RX12, "rewind", "()V"⟩
abbrev cX12_controls : ByteArray := prog_14_method_36_code
def yX12_controls : MethodName := ⟨RX12, "controls", "(I)V"⟩
abbrev cX12_watch : ByteArray := prog_14_method_37_code
def yX12_watch : MethodName := ⟨RX12, "watch", "(I)V"⟩
abbrev cX12_tick : ByteArray := prog_14_method_38_code
def yX12_tick : MethodName := ⟨RX12, "tick", "()V"⟩
abbrev cX12_run : ByteArray := prog_14_method_39_code
def yX12_run : MethodName := ⟨RX12, "run", "(I)I"⟩
abbrev cX12_thread : ByteArray := prog_14_method_40_code
def yX12_thread : MethodName := ⟨RX12, "thread", "()I"⟩
abbrev cX12_value : ByteArray := prog_14_method_41_code
def yX12_value : MethodName := ⟨RX12, "value", "(I)I"⟩
abbrev cX12_breakAt : ByteArray := prog_14_method_42_code
def yX12_breakAt : MethodName := ⟨RX12, "breakAt", "()I"⟩
abbrev cX12_measure : ByteArray := prog_14_method_43_code
def yX12_measure : MethodName := ⟨RX12, "measure", "(II)J"⟩
abbrev cX12_roller : ByteArray := prog_14_method_44_code
def yX12_roller : MethodName := ⟨RX12, "roller", "(II)J"⟩
abbrev cX12_web : ByteArray := prog_14_method_45_code
def yX12_web : MethodName := ⟨RX12, "web", "(I)J"⟩
abbrev cX12_markDistance : ByteArray := prog_14_method_46_code
def yX12_markDistance : MethodName := ⟨RX12, "markDistance", "(I)J"⟩
abbrev cX12_slackSpans : ByteArray := prog_14_method_47_code
def yX12_slackSpans : MethodName := ⟨RX12, "slackSpans", "()I"⟩
abbrev cX12_event : ByteArray := prog_14_method_48_code
def yX12_event : MethodName := ⟨RX12, "event", "(II)I"⟩
abbrev cX12_steady : ByteArray := prog_14_method_49_code
def yX12_steady : MethodName := ⟨RX12, "steady", "(I)J"⟩
abbrev cX12_steadyTension : ByteArray := prog_14_method_50_code
def yX12_steadyTension : MethodName := ⟨RX12, "steadyTension", "(I)I"⟩
abbrev cX12_bestDraw : ByteArray := prog_14_method_51_code
def yX12_bestDraw : MethodName := ⟨RX12, "bestDraw", "(II)I"⟩
abbrev cX12_putAside : ByteArray := prog_14_method_52_code
def yX12_putAside : MethodName := ⟨RX12, "putAside", "()V"⟩
abbrev cX12_takeBack : ByteArray := prog_14_method_53_code
def yX12_takeBack : MethodName := ⟨RX12, "takeBack", "()V"⟩
abbrev cX12_forecast : ByteArray := prog_14_method_54_code
def yX12_forecast : MethodName := ⟨RX12, "forecast", "(II)J"⟩
abbrev cX12_outlook : ByteArray := prog_14_method_55_code
def yX12_outlook : MethodName := ⟨RX12, "outlook", "(I)I"⟩
def RJ9 : String := "java/lang/Math"
def TJ9 : u_T := fun k => match k with
  | _ => ("", "", "", false)
def tyJ9 : Nat → FieldType := fun k => match k with
  | _ => .int
abbrev wsJ90 : List Cond := u_ws RJ9 TJ9 0
theorem nmJ9 : ∀ a, a < 0 → ∀ b, b < 0 → a ≠ b → (TJ9 a).2.1 ≠ (TJ9 b).2.1 := by decide +kernel
theorem tyJ9_ok : ∀ k, k < 0 → parseFieldDescriptor (TJ9 k).2.2.1 = some (tyJ9 k) := by decide +kernel
abbrev cJ9_floorDiv_f86c9 : ByteArray := prog_15_method_49_code
def yJ9_floorDiv_f86c9 : MethodName := ⟨RJ9, "floorDiv", "(JJ)J"⟩
abbrev cJ9_floorMod_7cf53 : ByteArray := prog_15_method_50_code
def yJ9_floorMod_7cf53 : MethodName := ⟨RJ9, "floorMod", "(II)I"⟩
abbrev cJ9_abs_067f4 : ByteArray := prog_15_method_61_code
def yJ9_abs_067f4 : MethodName := ⟨RJ9, "abs", "(J)J"⟩
abbrev cJ9_max_f86c9 : ByteArray := prog_15_method_66_code
def yJ9_max_f86c9 : MethodName := ⟨RJ9, "max", "(JJ)J"⟩
abbrev cJ9_min_7cf53 : ByteArray := prog_15_method_69_code
def yJ9_min_7cf53 : MethodName := ⟨RJ9, "min", "(II)I"⟩
abbrev cJ9_min_f86c9 : ByteArray := prog_15_method_70_code
def yJ9_min_f86c9 : MethodName := ⟨RJ9, "min", "(JJ)J"⟩
def RJ10 : String := "java/lang/System"
def TJ10 : u_T := fun k => match k with
  | _ => ("", "", "", false)
def tyJ10 : Nat → FieldType := fun k => match k with
  | _ => .int
abbrev wsJ100 : List Cond := u_ws RJ10 TJ10 0
theorem nmJ10 : ∀ a, a < 0 → ∀ b, b < 0 → a ≠ b → (TJ10 a).2.1 ≠ (TJ10 b).2.1 := by decide +kernel
theorem tyJ10_ok : ∀ k, k < 0 → parseFieldDescriptor (TJ10 k).2.2.1 = some (tyJ10 k) := by decide +kernel
def RL : String := "WebTensionLineLaw"
abbrev cL_law : ByteArray := code
def yL_law : MethodName := ⟨RL, "law", "([I)Z"⟩
theorem inJ9 : ∀ w ∈ wsJ90, w ∈ lw_tbl := by decide +kernel
theorem inJ10 : ∀ w ∈ wsJ100, w ∈ lw_tbl := by decide +kernel
abbrev vwCl : List vw_C := [(RX0, TX0, 7), (RX1, TX1, 5), (RX2, TX2, 5), (RX3, TX3, 13), (RX4, TX4, 2), (RX5, TX5, 2), (RX6, TX6, 3), (RX7, TX7, 3), (RX8, TX8, 7), (RX9, TX9, 3), (RX10, TX10, 4), (RX11, TX11, 2), (RX12, TX12, 27)]
