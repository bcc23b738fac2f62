section
-- ===== PART A: goes FIRST, ahead of the names: the tables' words, and 'selects' of the private methods out of them =====
/-- a private method of a class that the tables say can be made, by its rows of tables_1 -/
def lw_okq (q : MethodName × Nat) : Prop := (q.1.cls ≠ "java/lang/invoke/MethodHandle" ∧ q.1.cls ≠ "java/lang/invoke/VarHandle") ∧ Cond.instantiable q.1.cls q.2 ∈ tables_1 ∧ Cond.privateMethod q.1 ∈ tables_1 ∧ Cond.instanceMethod q.1 ∈ tables_1
theorem lw_p0 : lw_okq (⟨"BoundPorts$Page", "fits", "(I)Z"⟩, 2) := ⟨⟨by decide +kernel, by decide +kernel⟩, List.mem_of_getElem? (i := 17) (by decide +kernel), List.mem_of_getElem? (i := 193) (by decide +kernel), List.mem_of_getElem? (i := 194) (by decide +kernel)⟩
theorem lw_p1 : lw_okq (⟨"BoundPorts", "changeWidth", "(I)I"⟩, 10) := ⟨⟨by decide +kernel, by decide +kernel⟩, List.mem_of_getElem? (i := 9) (by decide +kernel), List.mem_of_getElem? (i := 234) (by decide +kernel), List.mem_of_getElem? (i := 235) (by decide +kernel)⟩
theorem lw_p2 : lw_okq (⟨"BoundPorts", "chooseAll", "()V"⟩, 10) := ⟨⟨by decide +kernel, by decide +kernel⟩, List.mem_of_getElem? (i := 9) (by decide +kernel), List.mem_of_getElem? (i := 238) (by decide +kernel), List.mem_of_getElem? (i := 239) (by decide +kernel)⟩
theorem lw_p3 : lw_okq (⟨"BoundPorts", "chooseOfKey", "(I)V"⟩, 10) := ⟨⟨by decide +kernel, by decide +kernel⟩, List.mem_of_getElem? (i := 9) (by decide +kernel), List.mem_of_getElem? (i := 242) (by decide +kernel), List.mem_of_getElem? (i := 243) (by decide +kernel)⟩
theorem lw_p4 : lw_okq (⟨"BoundPorts", "leadOf", "(I)I"⟩, 10) := ⟨⟨by decide +kernel, by decide +kernel⟩, List.mem_of_getElem? (i := 9) (by decide +kernel), List.mem_of_getElem? (i := 246) (by decide +kernel), List.mem_of_getElem? (i := 247) (by decide +kernel)⟩
theorem lw_p5 : lw_okq (⟨"BoundPorts", "isAhead", "(II)Z"⟩, 10) := ⟨⟨by decide +kernel, by decide +kernel⟩, List.mem_of_getElem? (i := 9) (by decide +kernel), List.mem_of_getElem? (i := 250) (by decide +kernel), List.mem_of_getElem? (i := 251) (by decide +kernel)⟩
theorem lw_p6 : lw_okq (⟨"BoundPorts", "choiceOf", "(II)I"⟩, 10) := ⟨⟨by decide +kernel, by decide +kernel⟩, List.mem_of_getElem? (i := 9) (by decide +kernel), List.mem_of_getElem? (i := 254) (by decide +kernel), List.mem_of_getElem? (i := 255) (by decide +kernel)⟩
theorem lw_p7 : lw_okq (⟨"BoundPorts", "isPort", "(I)Z"⟩, 10) := ⟨⟨by decide +kernel, by decide +kernel⟩, List.mem_of_getElem? (i := 9) (by decide +kernel), List.mem_of_getElem? (i := 258) (by decide +kernel), List.mem_of_getElem? (i := 259) (by decide +kernel)⟩
theorem lw_p8 : lw_okq (⟨"BoundPorts", "changeWait", "(I)I"⟩, 10) := ⟨⟨by decide +kernel, by decide +kernel⟩, List.mem_of_getElem? (i := 9) (by decide +kernel), List.mem_of_getElem? (i := 266) (by decide +kernel), List.mem_of_getElem? (i := 267) (by decide +kernel)⟩
theorem lw_p9 : lw_okq (⟨"BoundPorts", "changeShift", "(I)I"⟩, 10) := ⟨⟨by decide +kernel, by decide +kernel⟩, List.mem_of_getElem? (i := 9) (by decide +kernel), List.mem_of_getElem? (i := 270) (by decide +kernel), List.mem_of_getElem? (i := 271) (by decide +kernel)⟩
theorem lw_p10 : lw_okq (⟨"BoundPorts", "dropQueue", "(LBoundPorts$Queue;)V"⟩, 10) := ⟨⟨by decide +kernel, by decide +kernel⟩, List.mem_of_getElem? (i := 9) (by decide +kernel), List.mem_of_getElem? (i := 285) (by decide +kernel), List.mem_of_getElem? (i := 286) (by decide +kernel)⟩
theorem lw_p11 : lw_okq (⟨"BoundPorts", "answerMarker", "(I)V"⟩, 10) := ⟨⟨by decide +kernel, by decide +kernel⟩, List.mem_of_getElem? (i := 9) (by decide +kernel), List.mem_of_getElem? (i := 301) (by decide +kernel), List.mem_of_getElem? (i := 302) (by decide +kernel)⟩
theorem lw_p12 : lw_okq (⟨"BoundPorts", "wayOf", "(I)I"⟩, 10) := ⟨⟨by decide +kernel, by decide +kernel⟩, List.mem_of_getElem? (i := 9) (by decide +kernel), List.mem_of_getElem? (i := 305) (by decide +kernel), List.mem_of_getElem? (i := 306) (by decide +kernel)⟩
theorem lw_p13 : lw_okq (⟨"BoundPorts", "bitsOf", "(III)I"⟩, 10) := ⟨⟨by decide +kernel, by decide +kernel⟩, List.mem_of_getElem? (i := 9) (by decide +kernel), List.mem_of_getElem? (i := 309) (by decide +kernel), List.mem_of_getElem? (i := 310) (by decide +kernel)⟩
theorem lw_p14 : lw_okq (⟨"BoundPorts", "howItIs", "(LBoundPorts$Port;)I"⟩, 10) := ⟨⟨by decide +kernel, by decide +kernel⟩, List.mem_of_getElem? (i := 9) (by decide +kernel), List.mem_of_getElem? (i := 313) (by decide +kernel), List.mem_of_getElem? (i := 314) (by decide +kernel)⟩
theorem lw_p15 : lw_okq (⟨"BoundPorts", "putLetter", "(III)Z"⟩, 10) := ⟨⟨by decide +kernel, by decide +kernel⟩, List.mem_of_getElem? (i := 9) (by decide +kernel), List.mem_of_getElem? (i := 323) (by decide +kernel), List.mem_of_getElem? (i := 324) (by decide +kernel)⟩
def lw_privs_1 : List (MethodName × Nat) := [(⟨"BoundPorts$Page", "fits", "(I)Z"⟩, 2), (⟨"BoundPorts", "changeWidth", "(I)I"⟩, 10), (⟨"BoundPorts", "chooseAll", "()V"⟩, 10), (⟨"BoundPorts", "chooseOfKey", "(I)V"⟩, 10), (⟨"BoundPorts", "leadOf", "(I)I"⟩, 10), (⟨"BoundPorts", "isAhead", "(II)Z"⟩, 10), (⟨"BoundPorts", "choiceOf", "(II)I"⟩, 10), (⟨"BoundPorts", "isPort", "(I)Z"⟩, 10), (⟨"BoundPorts", "changeWait", "(I)I"⟩, 10), (⟨"BoundPorts", "changeShift", "(I)I"⟩, 10), (⟨"BoundPorts", "dropQueue", "(LBoundPorts$Queue;)V"⟩, 10), (⟨"BoundPorts", "answerMarker", "(I)V"⟩, 10), (⟨"BoundPorts", "wayOf", "(I)I"⟩, 10), (⟨"BoundPorts", "bitsOf", "(III)I"⟩, 10), (⟨"BoundPorts", "howItIs", "(LBoundPorts$Port;)I"⟩, 10), (⟨"BoundPorts", "putLetter", "(III)Z"⟩, 10)]
theorem lw_r1 : ∀ q ∈ lw_privs_1, lw_okq q := List.forall_mem_cons.mpr ⟨lw_p0, List.forall_mem_cons.mpr ⟨lw_p1, List.forall_mem_cons.mpr ⟨lw_p2, List.forall_mem_cons.mpr ⟨lw_p3, List.forall_mem_cons.mpr ⟨lw_p4, List.forall_mem_cons.mpr ⟨lw_p5, List.forall_mem_cons.mpr ⟨lw_p6, List.forall_mem_cons.mpr ⟨lw_p7, List.forall_mem_cons.mpr ⟨lw_p8, List.forall_mem_cons.mpr ⟨lw_p9, List.forall_mem_cons.mpr ⟨lw_p10, List.forall_mem_cons.mpr ⟨lw_p11, List.forall_mem_cons.mpr ⟨lw_p12, List.forall_mem_cons.mpr ⟨lw_p13, List.forall_mem_cons.mpr ⟨lw_p14, List.forall_mem_cons.mpr ⟨lw_p15, fun _ h => absurd h List.not_mem_nil⟩⟩⟩⟩⟩⟩⟩⟩⟩⟩⟩⟩⟩⟩⟩⟩
theorem lw_p16 : lw_okq (⟨"BoundPorts", "carries", "(LBoundPorts$Port;)Z"⟩, 10) := ⟨⟨by decide +kernel, by decide +kernel⟩, List.mem_of_getElem? (i := 9) (by decide +kernel), List.mem_of_getElem? (i := 342) (by decide +kernel), List.mem_of_getElem? (i := 343) (by decide +kernel)⟩
theorem lw_p17 : lw_okq (⟨"BoundPorts", "hasLettersBehind", "(I)Z"⟩, 10) := ⟨⟨by decide +kernel, by decide +kernel⟩, List.mem_of_getElem? (i := 9) (by decide +kernel), List.mem_of_getElem? (i := 378) (by decide +kernel), List.mem_of_getElem? (i := 379) (by decide +kernel)⟩
theorem lw_p18 : lw_okq (⟨"BoundPorts", "startMoving", "(I)V"⟩, 10) := ⟨⟨by decide +kernel, by decide +kernel⟩, List.mem_of_getElem? (i := 9) (by decide +kernel), List.mem_of_getElem? (i := 386) (by decide +kernel), List.mem_of_getElem? (i := 387) (by decide +kernel)⟩
theorem lw_p19 : lw_okq (⟨"BoundPorts", "sumOverFlows", "(I)I"⟩, 10) := ⟨⟨by decide +kernel, by decide +kernel⟩, List.mem_of_getElem? (i := 9) (by decide +kernel), List.mem_of_getElem? (i := 403) (by decide +kernel), List.mem_of_getElem? (i := 404) (by decide +kernel)⟩
theorem lw_p20 : lw_okq (⟨"BoundPorts", "passTick", "()V"⟩, 10) := ⟨⟨by decide +kernel, by decide +kernel⟩, List.mem_of_getElem? (i := 9) (by decide +kernel), List.mem_of_getElem? (i := 408) (by decide +kernel), List.mem_of_getElem? (i := 409) (by decide +kernel)⟩
theorem lw_p21 : lw_okq (⟨"BoundPorts", "letFirstOut", "(LBoundPorts$Queue;)V"⟩, 10) := ⟨⟨by decide +kernel, by decide +kernel⟩, List.mem_of_getElem? (i := 9) (by decide +kernel), List.mem_of_getElem? (i := 416) (by decide +kernel), List.mem_of_getElem? (i := 417) (by decide +kernel)⟩
theorem lw_p22 : lw_okq (⟨"BoundPorts", "digestPort", "(JI)J"⟩, 10) := ⟨⟨by decide +kernel, by decide +kernel⟩, List.mem_of_getElem? (i := 9) (by decide +kernel), List.mem_of_getElem? (i := 433) (by decide +kernel), List.mem_of_getElem? (i := 434) (by decide +kernel)⟩
theorem lw_p23 : lw_okq (⟨"BoundPortsModel", "clearFlows", "()V"⟩, 30) := ⟨⟨by decide +kernel, by decide +kernel⟩, List.mem_of_getElem? (i := 447) (by decide +kernel), List.mem_of_getElem? (i := 453) (by decide +kernel), List.mem_of_getElem? (i := 454) (by decide +kernel)⟩
theorem lw_p24 : lw_okq (⟨"BoundPortsModel", "rightLetters", "()I"⟩, 30) := ⟨⟨by decide +kernel, by decide +kernel⟩, List.mem_of_getElem? (i := 447) (by decide +kernel), List.mem_of_getElem? (i := 564) (by decide +kernel), List.mem_of_getElem? (i := 565) (by decide +kernel)⟩
theorem lw_p25 : lw_okq (⟨"BoundPortsModel", "isRight", "(I)Z"⟩, 30) := ⟨⟨by decide +kernel, by decide +kernel⟩, List.mem_of_getElem? (i := 447) (by decide +kernel), List.mem_of_getElem? (i := 568) (by decide +kernel), List.mem_of_getElem? (i := 569) (by decide +kernel)⟩
theorem lw_p26 : lw_okq (⟨"BoundPortsModel", "forget", "(I)V"⟩, 30) := ⟨⟨by decide +kernel, by decide +kernel⟩, List.mem_of_getElem? (i := 447) (by decide +kernel), List.mem_of_getElem? (i := 576) (by decide +kernel), List.mem_of_getElem? (i := 577) (by decide +kernel)⟩
theorem lw_p27 : lw_okq (⟨"BoundPortsModel", "toldNow", "(I)I"⟩, 30) := ⟨⟨by decide +kernel, by decide +kernel⟩, List.mem_of_getElem? (i := 447) (by decide +kernel), List.mem_of_getElem? (i := 584) (by decide +kernel), List.mem_of_getElem? (i := 585) (by decide +kernel)⟩
theorem lw_p28 : lw_okq (⟨"BoundPortsModel", "settle", "()V"⟩, 30) := ⟨⟨by decide +kernel, by decide +kernel⟩, List.mem_of_getElem? (i := 447) (by decide +kernel), List.mem_of_getElem? (i := 588) (by decide +kernel), List.mem_of_getElem? (i := 589) (by decide +kernel)⟩
theorem lw_p29 : lw_okq (⟨"BoundPortsModel", "stateOf", "(I)I"⟩, 30) := ⟨⟨by decide +kernel, by decide +kernel⟩, List.mem_of_getElem? (i := 447) (by decide +kernel), List.mem_of_getElem? (i := 592) (by decide +kernel), List.mem_of_getElem? (i := 593) (by decide +kernel)⟩
theorem lw_p30 : lw_okq (⟨"BoundPortsModel", "placeOf", "(I)I"⟩, 30) := ⟨⟨by decide +kernel, by decide +kernel⟩, List.mem_of_getElem? (i := 447) (by decide +kernel), List.mem_of_getElem? (i := 596) (by decide +kernel), List.mem_of_getElem? (i := 597) (by decide +kernel)⟩
theorem lw_p31 : lw_okq (⟨"BoundPortsModel", "leadOf", "(I)I"⟩, 30) := ⟨⟨by decide +kernel, by decide +kernel⟩, List.mem_of_getElem? (i := 447) (by decide +kernel), List.mem_of_getElem? (i := 600) (by decide +kernel), List.mem_of_getElem? (i := 601) (by decide +kernel)⟩
def lw_privs_2 : List (MethodName × Nat) := [(⟨"BoundPorts", "carries", "(LBoundPorts$Port;)Z"⟩, 10), (⟨"BoundPorts", "hasLettersBehind", "(I)Z"⟩, 10), (⟨"BoundPorts", "startMoving", "(I)V"⟩, 10), (⟨"BoundPorts", "sumOverFlows", "(I)I"⟩, 10), (⟨"BoundPorts", "passTick", "()V"⟩, 10), (⟨"BoundPorts", "letFirstOut", "(LBoundPorts$Queue;)V"⟩, 10), (⟨"BoundPorts", "digestPort", "(JI)J"⟩, 10), (⟨"BoundPortsModel", "clearFlows", "()V"⟩, 30), (⟨"BoundPortsModel", "rightLetters", "()I"⟩, 30), (⟨"BoundPortsModel", "isRight", "(I)Z"⟩, 30), (⟨"BoundPortsModel", "forget", "(I)V"⟩, 30), (⟨"BoundPortsModel", "toldNow", "(I)I"⟩, 30), (⟨"BoundPortsModel", "settle", "()V"⟩, 30), (⟨"BoundPortsModel", "stateOf", "(I)I"⟩, 30), (⟨"BoundPortsModel", "placeOf", "(I)I"⟩, 30), (⟨"BoundPortsModel", "leadOf", "(I)I"⟩, 30)]
theorem lw_r2 : ∀ q ∈ lw_privs_2, lw_okq q := List.forall_mem_cons.mpr ⟨lw_p16, List.forall_mem_cons.mpr ⟨lw_p17, List.forall_mem_cons.mpr ⟨lw_p18, List.forall_mem_cons.mpr ⟨lw_p19, List.forall_mem_cons.mpr ⟨lw_p20, List.forall_mem_cons.mpr ⟨lw_p21, List.forall_mem_cons.mpr ⟨lw_p22, List.forall_mem_cons.mpr ⟨lw_p23, List.forall_mem_cons.mpr ⟨lw_p24, List.forall_mem_cons.mpr ⟨lw_p25, List.forall_mem_cons.mpr ⟨lw_p26, List.forall_mem_cons.mpr ⟨lw_p27, List.forall_mem_cons.mpr ⟨lw_p28, List.forall_mem_cons.mpr ⟨lw_p29, List.forall_mem_cons.mpr ⟨lw_p30, List.forall_mem_cons.mpr ⟨lw_p31, fun _ h => absurd h List.not_mem_nil⟩⟩⟩⟩⟩⟩⟩⟩⟩⟩⟩⟩⟩⟩⟩⟩
theorem lw_p32 : lw_okq (⟨"BoundPortsModel", "isAhead", "(II)Z"⟩, 30) := ⟨⟨by decide +kernel, by decide +kernel⟩, List.mem_of_getElem? (i := 447) (by decide +kernel), List.mem_of_getElem? (i := 604) (by decide +kernel), List.mem_of_getElem? (i := 605) (by decide +kernel)⟩
theorem lw_p33 : lw_okq (⟨"BoundPortsModel", "areAlike", "(II)Z"⟩, 30) := ⟨⟨by decide +kernel, by decide +kernel⟩, List.mem_of_getElem? (i := 447) (by decide +kernel), List.mem_of_getElem? (i := 608) (by decide +kernel), List.mem_of_getElem? (i := 609) (by decide +kernel)⟩
theorem lw_p34 : lw_okq (⟨"BoundPortsModel", "isPort", "(I)Z"⟩, 30) := ⟨⟨by decide +kernel, by decide +kernel⟩, List.mem_of_getElem? (i := 447) (by decide +kernel), List.mem_of_getElem? (i := 616) (by decide +kernel), List.mem_of_getElem? (i := 617) (by decide +kernel)⟩
theorem lw_p35 : lw_okq (⟨"BoundPortsModel", "empty", "(I)V"⟩, 30) := ⟨⟨by decide +kernel, by decide +kernel⟩, List.mem_of_getElem? (i := 447) (by decide +kernel), List.mem_of_getElem? (i := 624) (by decide +kernel), List.mem_of_getElem? (i := 625) (by decide +kernel)⟩
theorem lw_p36 : lw_okq (⟨"BoundPortsModel", "answer", "(I)V"⟩, 30) := ⟨⟨by decide +kernel, by decide +kernel⟩, List.mem_of_getElem? (i := 447) (by decide +kernel), List.mem_of_getElem? (i := 628) (by decide +kernel), List.mem_of_getElem? (i := 629) (by decide +kernel)⟩
theorem lw_p37 : lw_okq (⟨"BoundPortsModel", "wayOf", "(I)I"⟩, 30) := ⟨⟨by decide +kernel, by decide +kernel⟩, List.mem_of_getElem? (i := 447) (by decide +kernel), List.mem_of_getElem? (i := 632) (by decide +kernel), List.mem_of_getElem? (i := 633) (by decide +kernel)⟩
theorem lw_p38 : lw_okq (⟨"BoundPortsModel", "bitsOf", "(III)I"⟩, 30) := ⟨⟨by decide +kernel, by decide +kernel⟩, List.mem_of_getElem? (i := 447) (by decide +kernel), List.mem_of_getElem? (i := 636) (by decide +kernel), List.mem_of_getElem? (i := 637) (by decide +kernel)⟩
theorem lw_p39 : lw_okq (⟨"BoundPortsModel", "comes", "(III)I"⟩, 30) := ⟨⟨by decide +kernel, by decide +kernel⟩, List.mem_of_getElem? (i := 447) (by decide +kernel), List.mem_of_getElem? (i := 640) (by decide +kernel), List.mem_of_getElem? (i := 641) (by decide +kernel)⟩
theorem lw_p40 : lw_okq (⟨"BoundPortsModel", "lay", "(III)V"⟩, 30) := ⟨⟨by decide +kernel, by decide +kernel⟩, List.mem_of_getElem? (i := 447) (by decide +kernel), List.mem_of_getElem? (i := 644) (by decide +kernel), List.mem_of_getElem? (i := 645) (by decide +kernel)⟩
theorem lw_p41 : lw_okq (⟨"BoundPortsModel", "portNow", "(II)I"⟩, 30) := ⟨⟨by decide +kernel, by decide +kernel⟩, List.mem_of_getElem? (i := 447) (by decide +kernel), List.mem_of_getElem? (i := 656) (by decide +kernel), List.mem_of_getElem? (i := 657) (by decide +kernel)⟩
theorem lw_p42 : lw_okq (⟨"BoundPortsModel", "queueNow", "(II)I"⟩, 30) := ⟨⟨by decide +kernel, by decide +kernel⟩, List.mem_of_getElem? (i := 447) (by decide +kernel), List.mem_of_getElem? (i := 664) (by decide +kernel), List.mem_of_getElem? (i := 665) (by decide +kernel)⟩
theorem lw_p43 : lw_okq (⟨"BoundPortsModel", "keyNow", "(II)I"⟩, 30) := ⟨⟨by decide +kernel, by decide +kernel⟩, List.mem_of_getElem? (i := 447) (by decide +kernel), List.mem_of_getElem? (i := 672) (by decide +kernel), List.mem_of_getElem? (i := 673) (by decide +kernel)⟩
theorem lw_p44 : lw_okq (⟨"BoundPortsModel", "sendNow", "(I)I"⟩, 30) := ⟨⟨by decide +kernel, by decide +kernel⟩, List.mem_of_getElem? (i := 447) (by decide +kernel), List.mem_of_getElem? (i := 687) (by decide +kernel), List.mem_of_getElem? (i := 688) (by decide +kernel)⟩
theorem lw_p45 : lw_okq (⟨"BoundPortsModel", "holds", "(II)I"⟩, 30) := ⟨⟨by decide +kernel, by decide +kernel⟩, List.mem_of_getElem? (i := 447) (by decide +kernel), List.mem_of_getElem? (i := 691) (by decide +kernel), List.mem_of_getElem? (i := 692) (by decide +kernel)⟩
theorem lw_p46 : lw_okq (⟨"BoundPortsModel", "hasLetter", "(II)Z"⟩, 30) := ⟨⟨by decide +kernel, by decide +kernel⟩, List.mem_of_getElem? (i := 447) (by decide +kernel), List.mem_of_getElem? (i := 695) (by decide +kernel), List.mem_of_getElem? (i := 696) (by decide +kernel)⟩
theorem lw_p47 : lw_okq (⟨"BoundPortsModel", "flowNow", "(II)I"⟩, 30) := ⟨⟨by decide +kernel, by decide +kernel⟩, List.mem_of_getElem? (i := 447) (by decide +kernel), List.mem_of_getElem? (i := 703) (by decide +kernel), List.mem_of_getElem? (i := 704) (by decide +kernel)⟩
def lw_privs_3 : List (MethodName × Nat) := [(⟨"BoundPortsModel", "isAhead", "(II)Z"⟩, 30), (⟨"BoundPortsModel", "areAlike", "(II)Z"⟩, 30), (⟨"BoundPortsModel", "isPort", "(I)Z"⟩, 30), (⟨"BoundPortsModel", "empty", "(I)V"⟩, 30), (⟨"BoundPortsModel", "answer", "(I)V"⟩, 30), (⟨"BoundPortsModel", "wayOf", "(I)I"⟩, 30), (⟨"BoundPortsModel", "bitsOf", "(III)I"⟩, 30), (⟨"BoundPortsModel", "comes", "(III)I"⟩, 30), (⟨"BoundPortsModel", "lay", "(III)V"⟩, 30), (⟨"BoundPortsModel", "portNow", "(II)I"⟩, 30), (⟨"BoundPortsModel", "queueNow", "(II)I"⟩, 30), (⟨"BoundPortsModel", "keyNow", "(II)I"⟩, 30), (⟨"BoundPortsModel", "sendNow", "(I)I"⟩, 30), (⟨"BoundPortsModel", "holds", "(II)I"⟩, 30), (⟨"BoundPortsModel", "hasLetter", "(II)Z"⟩, 30), (⟨"BoundPortsModel", "flowNow", "(II)I"⟩, 30)]
theorem lw_r3 : ∀ q ∈ lw_privs_3, lw_okq q := List.forall_mem_cons.mpr ⟨lw_p32, List.forall_mem_cons.mpr ⟨lw_p33, List.forall_mem_cons.mpr ⟨lw_p34, List.forall_mem_cons.mpr ⟨lw_p35, List.forall_mem_cons.mpr ⟨lw_p36, List.forall_mem_cons.mpr ⟨lw_p37, List.forall_mem_cons.mpr ⟨lw_p38, List.forall_mem_cons.mpr ⟨lw_p39, List.forall_mem_cons.mpr ⟨lw_p40, List.forall_mem_cons.mpr ⟨lw_p41, List.forall_mem_cons.mpr ⟨lw_p42, List.forall_mem_cons.mpr ⟨lw_p43, List.forall_mem_cons.mpr ⟨lw_p44, List.forall_mem_cons.mpr ⟨lw_p45, List.forall_mem_cons.mpr ⟨lw_p46, List.forall_mem_cons.mpr ⟨lw_p47, fun _ h => absurd h List.not_mem_nil⟩⟩⟩⟩⟩⟩⟩⟩⟩⟩⟩⟩⟩⟩⟩⟩
theorem lw_p48 : lw_okq (⟨"BoundPortsModel", "tickNow", "()I"⟩, 30) := ⟨⟨by decide +kernel, by decide +kernel⟩, List.mem_of_getElem? (i := 447) (by decide +kernel), List.mem_of_getElem? (i := 711) (by decide +kernel), List.mem_of_getElem? (i := 712) (by decide +kernel)⟩
theorem lw_p49 : lw_okq (⟨"BoundPortsModel", "hearLess", "()V"⟩, 30) := ⟨⟨by decide +kernel, by decide +kernel⟩, List.mem_of_getElem? (i := 447) (by decide +kernel), List.mem_of_getElem? (i := 715) (by decide +kernel), List.mem_of_getElem? (i := 716) (by decide +kernel)⟩
theorem lw_p50 : lw_okq (⟨"BoundPortsModel", "waitMore", "()V"⟩, 30) := ⟨⟨by decide +kernel, by decide +kernel⟩, List.mem_of_getElem? (i := 447) (by decide +kernel), List.mem_of_getElem? (i := 719) (by decide +kernel), List.mem_of_getElem? (i := 720) (by decide +kernel)⟩
theorem lw_p51 : lw_okq (⟨"BoundPortsModel", "goesOut", "(I)I"⟩, 30) := ⟨⟨by decide +kernel, by decide +kernel⟩, List.mem_of_getElem? (i := 447) (by decide +kernel), List.mem_of_getElem? (i := 723) (by decide +kernel), List.mem_of_getElem? (i := 724) (by decide +kernel)⟩
theorem lw_p52 : lw_okq (⟨"BoundPortsModel", "howMany", "(I)I"⟩, 30) := ⟨⟨by decide +kernel, by decide +kernel⟩, List.mem_of_getElem? (i := 447) (by decide +kernel), List.mem_of_getElem? (i := 731) (by decide +kernel), List.mem_of_getElem? (i := 732) (by decide +kernel)⟩
theorem lw_p53 : lw_okq (⟨"BoundPortsModel", "sumOf", "([I)I"⟩, 30) := ⟨⟨by decide +kernel, by decide +kernel⟩, List.mem_of_getElem? (i := 447) (by decide +kernel), List.mem_of_getElem? (i := 735) (by decide +kernel), List.mem_of_getElem? (i := 736) (by decide +kernel)⟩
theorem lw_p54 : lw_okq (⟨"BoundPortsModel", "mixPorts", "()V"⟩, 30) := ⟨⟨by decide +kernel, by decide +kernel⟩, List.mem_of_getElem? (i := 447) (by decide +kernel), List.mem_of_getElem? (i := 744) (by decide +kernel), List.mem_of_getElem? (i := 745) (by decide +kernel)⟩
theorem lw_p55 : lw_okq (⟨"BoundPortsModel", "mix", "(J)V"⟩, 30) := ⟨⟨by decide +kernel, by decide +kernel⟩, List.mem_of_getElem? (i := 447) (by decide +kernel), List.mem_of_getElem? (i := 748) (by decide +kernel), List.mem_of_getElem? (i := 749) (by decide +kernel)⟩
theorem lw_p56 : lw_okq (⟨"BoundPortsModel", "mixFlows", "()V"⟩, 30) := ⟨⟨by decide +kernel, by decide +kernel⟩, List.mem_of_getElem? (i := 447) (by decide +kernel), List.mem_of_getElem? (i := 753) (by decide +kernel), List.mem_of_getElem? (i := 754) (by decide +kernel)⟩
def lw_privs_4 : List (MethodName × Nat) := [(⟨"BoundPortsModel", "tickNow", "()I"⟩, 30), (⟨"BoundPortsModel", "hearLess", "()V"⟩, 30), (⟨"BoundPortsModel", "waitMore", "()V"⟩, 30), (⟨"BoundPortsModel", "goesOut", "(I)I"⟩, 30), (⟨"BoundPortsModel", "howMany", "(I)I"⟩, 30), (⟨"BoundPortsModel", "sumOf", "([I)I"⟩, 30), (⟨"BoundPortsModel", "mixPorts", "()V"⟩, 30), (⟨"BoundPortsModel", "mix", "(J)V"⟩, 30), (⟨"BoundPortsModel", "mixFlows", "()V"⟩, 30)]
theorem lw_r4 : ∀ q ∈ lw_privs_4, lw_okq q := List.forall_mem_cons.mpr ⟨lw_p48, List.forall_mem_cons.mpr ⟨lw_p49, List.forall_mem_cons.mpr ⟨lw_p50, List.forall_mem_cons.mpr ⟨lw_p51, List.forall_mem_cons.mpr ⟨lw_p52, List.forall_mem_cons.mpr ⟨lw_p53, List.forall_mem_cons.mpr ⟨lw_p54, List.forall_mem_cons.mpr ⟨lw_p55, List.forall_mem_cons.mpr ⟨lw_p56, fun _ h => absurd h List.not_mem_nil⟩⟩⟩⟩⟩⟩⟩⟩⟩
def lw_privs : List (MethodName × Nat) := lw_privs_1 ++ (lw_privs_2 ++ (lw_privs_3 ++ (lw_privs_4)))
def lw_tbl : List Cond := k2_sels lw_privs ++ tables_1
theorem lw_privs_ok : ∀ q ∈ lw_privs, lw_okq q := by
  show ∀ q ∈ lw_privs_1 ++ (lw_privs_2 ++ (lw_privs_3 ++ (lw_privs_4))), lw_okq q
  exact List.forall_mem_append.mpr ⟨lw_r1, List.forall_mem_append.mpr ⟨lw_r2, List.forall_mem_append.mpr ⟨lw_r3, lw_r4⟩⟩⟩
end
section
def RX0 : String := "BoundPorts$Flow"
def TX0 : u_T := fun k => match k with
  | 0 => ("BoundPorts$Flow", "held", "[I", true)
  | 1 => ("BoundPorts$Flow", "heldCount", "I", false)
  | 2 => ("BoundPorts$Flow", "on", "I", false)
  | 3 => ("BoundPorts$Flow", "moving", "Z", false)
  | 4 => ("BoundPorts$Flow", "sent", "I", false)
  | 5 => ("BoundPorts$Flow", "delivered", "I", false)
  | 6 => ("BoundPorts$Flow", "lost", "I", false)
  | _ => ("BoundPorts$Flow", "latest", "I", false)
def tyX0 : Nat → FieldType := fun k => match k with
  | 0 => .array .int
  | 1 => .int
  | 2 => .int
  | 3 => .boolean
  | 4 => .int
  | 5 => .int
  | 6 => .int
  | _ => .int
theorem nmX0 : ∀ a, a < 8 → ∀ b, b < 8 → a ≠ b → (TX0 a).2.1 ≠ (TX0 b).2.1 := by decide +kernel
theorem tyX0_ok : ∀ k, k < 8 → parseFieldDescriptor (TX0 k).2.2.1 = some (tyX0 k) := by decide +kernel
abbrev cX0_init : ByteArray := prog_2_method_1_code
def yX0_init : MethodName := ⟨RX0, "<init>", "()V"⟩
abbrev cX0_restart : ByteArray := prog_2_method_2_code
def yX0_restart : MethodName := ⟨RX0, "restart", "()V"⟩
abbrev cX0_hold : ByteArray := prog_2_method_3_code
def yX0_hold : MethodName := ⟨RX0, "hold", "(I)Z"⟩
def RX1 : String := "BoundPorts$Page"
def TX1 : u_T := fun k => match k with
  | 0 => ("BoundPorts$Page", "codes", "[I", true)
  | _ => ("BoundPorts$Page", "size", "I", false)
def tyX1 : Nat → FieldType := fun k => match k with
  | 0 => .array .int
  | _ => .int
theorem nmX1 : ∀ a, a < 2 → ∀ b, b < 2 → a ≠ b → (TX1 a).2.1 ≠ (TX1 b).2.1 := by decide +kernel
theorem tyX1_ok : ∀ k, k < 2 → parseFieldDescriptor (TX1 k).2.2.1 = some (tyX1 k) := by decide +kernel
abbrev cX1_init : ByteArray := prog_3_method_1_code
def yX1_init : MethodName := ⟨RX1, "<init>", "()V"⟩
abbrev cX1_append : ByteArray := prog_3_method_2_code
def yX1_append : MethodName := ⟨RX1, "append", "(I)Z"⟩
abbrev cX1_codeAt : ByteArray := prog_3_method_3_code
def yX1_codeAt : MethodName := ⟨RX1, "codeAt", "(I)I"⟩
abbrev cX1_firstWrong : ByteArray := prog_3_method_4_code
def yX1_firstWrong : MethodName := ⟨RX1, "firstWrong", "()I"⟩
abbrev cX1_fits : ByteArray := prog_3_method_5_code
def yX1_fits : MethodName := ⟨RX1, "fits", "(I)Z"⟩
abbrev cX1_isBoard : ByteArray := prog_3_method_6_code
def yX1_isBoard : MethodName := ⟨RX1, "isBoard", "()Z"⟩
abbrev cX1_portsWritten : ByteArray := prog_3_method_7_code
def yX1_portsWritten : MethodName := ⟨RX1, "portsWritten", "()I"⟩
abbrev cX1_keyOfPort : ByteArray := prog_3_method_8_code
def yX1_keyOfPort : MethodName := ⟨RX1, "keyOfPort", "(I)I"⟩
abbrev cX1_rankOfPort : ByteArray := prog_3_method_9_code
def yX1_rankOfPort : MethodName := ⟨RX1, "rankOfPort", "(I)I"⟩
def RX2 : String := "BoundPorts$Port"
def TX2 : u_T := fun k => match k with
  | 0 => ("BoundPorts$Port", "queue", "LBoundPorts$Queue;", true)
  | 1 => ("BoundPorts$Port", "key", "I", false)
  | 2 => ("BoundPorts$Port", "rank", "I", false)
  | 3 => ("BoundPorts$Port", "up", "Z", false)
  | 4 => ("BoundPorts$Port", "heard", "Z", false)
  | 5 => ("BoundPorts$Port", "partner", "I", false)
  | 6 => ("BoundPorts$Port", "partnerKey", "I", false)
  | 7 => ("BoundPorts$Port", "ready", "Z", false)
  | 8 => ("BoundPorts$Port", "age", "I", false)
  | 9 => ("BoundPorts$Port", "choice", "I", false)
  | _ => ("BoundPorts$Port", "waited", "I", false)
def tyX2 : Nat → FieldType := fun k => match k with
  | 0 => .object "BoundPorts$Queue"
  | 1 => .int
  | 2 => .int
  | 3 => .boolean
  | 4 => .boolean
  | 5 => .int
  | 6 => .int
  | 7 => .boolean
  | 8 => .int
  | 9 => .int
  | _ => .int
theorem nmX2 : ∀ a, a < 11 → ∀ b, b < 11 → a ≠ b → (TX2 a).2.1 ≠ (TX2 b).2.1 := by decide +kernel
theorem tyX2_ok : ∀ k, k < 11 → parseFieldDescriptor (TX2 k).2.2.1 = some (tyX2 k) := by decide +kernel
abbrev cX2_init : ByteArray := prog_4_method_1_code
def yX2_init : MethodName := ⟨RX2, "<init>", "()V"⟩
abbrev cX2_restart : ByteArray := prog_4_method_2_code
def yX2_restart : MethodName := ⟨RX2, "restart", "(II)V"⟩
abbrev cX2_keepHeard : ByteArray := prog_4_method_3_code
def yX2_keepHeard : MethodName := ⟨RX2, "keepHeard", "(IIZ)V"⟩
abbrev cX2_growOlder : ByteArray := prog_4_method_4_code
def yX2_growOlder : MethodName := ⟨RX2, "growOlder", "()V"⟩
abbrev cX2_isAlike : ByteArray := prog_4_method_5_code
def yX2_isAlike : MethodName := ⟨RX2, "isAlike", "(LBoundPorts$Port;)Z"⟩
def RX3 : String := "BoundPorts$Queue"
def TX3 : u_T := fun k => match k with
  | 0 => ("BoundPorts$Queue", "flowRow", "[I", true)
  | 1 => ("BoundPorts$Queue", "numberRow", "[I", true)
  | _ => ("BoundPorts$Queue", "size", "I", false)
def tyX3 : Nat → FieldType := fun k => match k with
  | 0 => .array .int
  | 1 => .array .int
  | _ => .int
theorem nmX3 : ∀ a, a < 3 → ∀ b, b < 3 → a ≠ b → (TX3 a).2.1 ≠ (TX3 b).2.1 := by decide +kernel
theorem tyX3_ok : ∀ k, k < 3 → parseFieldDescriptor (TX3 k).2.2.1 = some (tyX3 k) := by decide +kernel
abbrev cX3_init : ByteArray := prog_5_method_1_code
def yX3_init : MethodName := ⟨RX3, "<init>", "()V"⟩
abbrev cX3_has : ByteArray := prog_5_method_2_code
def yX3_has : MethodName := ⟨RX3, "has", "(I)Z"⟩
abbrev cX3_append : ByteArray := prog_5_method_3_code
def yX3_append : MethodName := ⟨RX3, "append", "(II)V"⟩
abbrev cX3_appendMarker : ByteArray := prog_5_method_4_code
def yX3_appendMarker : MethodName := ⟨RX3, "appendMarker", "(I)V"⟩
abbrev cX3_removeFirst : ByteArray := prog_5_method_5_code
def yX3_removeFirst : MethodName := ⟨RX3, "removeFirst", "()V"⟩
abbrev cX3_flowAt : ByteArray := prog_5_method_6_code
def yX3_flowAt : MethodName := ⟨RX3, "flowAt", "(I)I"⟩
abbrev cX3_numberAt : ByteArray := prog_5_method_7_code
def yX3_numberAt : MethodName := ⟨RX3, "numberAt", "(I)I"⟩
abbrev cX3_isMarker : ByteArray := prog_5_method_8_code
def yX3_isMarker : MethodName := ⟨RX3, "isMarker", "(I)Z"⟩
abbrev cX3_hasLetterOf : ByteArray := prog_5_method_9_code
def yX3_hasLetterOf : MethodName := ⟨RX3, "hasLetterOf", "(I)Z"⟩
def RX4 : String := "BoundPorts"
def TX4 : u_T := fun k => match k with
  | 0 => ("BoundPorts", "page", "LBoundPorts$Page;", true)
  | 1 => ("BoundPorts", "ports", "[LBoundPorts$Port;", true)
  | 2 => ("BoundPorts", "flows", "[LBoundPorts$Flow;", true)
  | 3 => ("BoundPorts", "portCount", "I", false)
  | 4 => ("BoundPorts", "width", "I", false)
  | 5 => ("BoundPorts", "waitTicks", "I", false)
  | 6 => ("BoundPorts", "shift", "I", false)
  | 7 => ("BoundPorts", "ticks", "I", false)
  | 8 => ("BoundPorts", "answered", "I", false)
  | _ => ("BoundPorts", "boardsRead", "I", false)
def tyX4 : Nat → FieldType := fun k => match k with
  | 0 => .object "BoundPorts$Page"
  | 1 => .array (.object "BoundPorts$Port")
  | 2 => .array (.object "BoundPorts$Flow")
  | 3 => .int
  | 4 => .int
  | 5 => .int
  | 6 => .int
  | 7 => .int
  | 8 => .int
  | _ => .int
theorem nmX4 : ∀ a, a < 10 → ∀ b, b < 10 → a ≠ b → (TX4 a).2.1 ≠ (TX4 b).2.1 := by decide +kernel
theorem tyX4_ok : ∀ k, k < 10 → parseFieldDescriptor (TX4 k).2.2.1 = some (tyX4 k) := by decide +kernel
abbrev cX4_init : ByteArray := prog_1_method_1_code
def yX4_init : MethodName := ⟨RX4, "<init>", "()V"⟩
abbrev cX4_letter : ByteArray := prog_1_method_2_code
def yX4_letter : MethodName := ⟨RX4, "letter", "(I)I"⟩
abbrev cX4_blank : ByteArray := prog_1_method_3_code
def yX4_blank : MethodName := ⟨RX4, "blank", "()I"⟩
abbrev cX4_fault : ByteArray := prog_1_method_4_code
def yX4_fault : MethodName := ⟨RX4, "fault", "()I"⟩
abbrev cX4_board : ByteArray := prog_1_method_5_code
def yX4_board : MethodName := ⟨RX4, "board", "()I"⟩
abbrev cX4_set : ByteArray := prog_1_method_6_code
def yX4_set : MethodName := ⟨RX4, "set", "(II)I"⟩
abbrev cX4_rank : ByteArray := prog_1_method_7_code
def yX4_rank : MethodName := ⟨RX4, "rank", "(II)I"⟩
abbrev cX4_up : ByteArray := prog_1_method_8_code
def yX4_up : MethodName := ⟨RX4, "up", "(IZ)I"⟩
abbrev cX4_hear : ByteArray := prog_1_method_9_code
def yX4_hear : MethodName := ⟨RX4, "hear", "(IIIZ)I"⟩
abbrev cX4_of : ByteArray := prog_1_method_10_code
def yX4_of : MethodName := ⟨RX4, "of", "(II)I"⟩
abbrev cX4_queue : ByteArray := prog_1_method_11_code
def yX4_queue : MethodName := ⟨RX4, "queue", "(II)I"⟩
abbrev cX4_key : ByteArray := prog_1_method_12_code
def yX4_key : MethodName := ⟨RX4, "key", "(II)I"⟩
abbrev cX4_way : ByteArray := prog_1_method_13_code
def yX4_way : MethodName := ⟨RX4, "way", "(I)I"⟩
abbrev cX4_send : ByteArray := prog_1_method_14_code
def yX4_send : MethodName := ⟨RX4, "send", "(I)I"⟩
abbrev cX4_flow : ByteArray := prog_1_method_15_code
def yX4_flow : MethodName := ⟨RX4, "flow", "(II)I"⟩
abbrev cX4_tick : ByteArray := prog_1_method_16_code
def yX4_tick : MethodName := ⟨RX4, "tick", "(I)I"⟩
abbrev cX4_count : ByteArray := prog_1_method_17_code
def yX4_count : MethodName := ⟨RX4, "count", "(I)I"⟩
abbrev cX4_digest : ByteArray := prog_1_method_18_code
def yX4_digest : MethodName := ⟨RX4, "digest", "()J"⟩
abbrev cX4_digestPort : ByteArray := prog_1_method_19_code
def yX4_digestPort : MethodName := ⟨RX4, "digestPort", "(JI)J"⟩
abbrev cX4_mix : ByteArray := prog_1_method_20_code
def yX4_mix : MethodName := ⟨RX4, "mix", "(JJ)J"⟩
abbrev cX4_asNumber : ByteArray := prog_1_method_21_code
def yX4_asNumber : MethodName := ⟨RX4, "asNumber", "(Z)I"⟩
abbrev cX4_isPort : ByteArray := prog_1_method_22_code
def yX4_isPort : MethodName := ⟨RX4, "isPort", "(I)Z"⟩
abbrev cX4_isKey : ByteArray := prog_1_method_23_code
def yX4_isKey : MethodName := ⟨RX4, "isKey", "(I)Z"⟩
abbrev cX4_isFlow : ByteArray := prog_1_method_24_code
def yX4_isFlow : MethodName := ⟨RX4, "isFlow", "(I)Z"⟩
abbrev cX4_changeWidth : ByteArray := prog_1_method_25_code
def yX4_changeWidth : MethodName := ⟨RX4, "changeWidth", "(I)I"⟩
abbrev cX4_changeWait : ByteArray := prog_1_method_26_code
def yX4_changeWait : MethodName := ⟨RX4, "changeWait", "(I)I"⟩
abbrev cX4_changeShift : ByteArray := prog_1_method_27_code
def yX4_changeShift : MethodName := ⟨RX4, "changeShift", "(I)I"⟩
abbrev cX4_chooseAll : ByteArray := prog_1_method_28_code
def yX4_chooseAll : MethodName := ⟨RX4, "chooseAll", "()V"⟩
abbrev cX4_chooseOfKey : ByteArray := prog_1_method_29_code
def yX4_chooseOfKey : MethodName := ⟨RX4, "chooseOfKey", "(I)V"⟩
abbrev cX4_choiceOf : ByteArray := prog_1_method_30_code
def yX4_choiceOf : MethodName := ⟨RX4, "choiceOf", "(II)I"⟩
abbrev cX4_leadOf : ByteArray := prog_1_method_31_code
def yX4_leadOf : MethodName := ⟨RX4, "leadOf", "(I)I"⟩
abbrev cX4_isAhead : ByteArray := prog_1_method_32_code
def yX4_isAhead : MethodName := ⟨RX4, "isAhead", "(II)Z"⟩
abbrev cX4_howItIs : ByteArray := prog_1_method_33_code
def yX4_howItIs : MethodName := ⟨RX4, "howItIs", "(LBoundPorts$Port;)I"⟩
abbrev cX4_carries : ByteArray := prog_1_method_34_code
def yX4_carries : MethodName := ⟨RX4, "carries", "(LBoundPorts$Port;)Z"⟩
abbrev cX4_bitsOf : ByteArray := prog_1_method_35_code
def yX4_bitsOf : MethodName := ⟨RX4, "bitsOf", "(III)I"⟩
abbrev cX4_wayOf : ByteArray := prog_1_method_36_code
def yX4_wayOf : MethodName := ⟨RX4, "wayOf", "(I)I"⟩
abbrev cX4_hasLettersBehind : ByteArray := prog_1_method_37_code
def yX4_hasLettersBehind : MethodName := ⟨RX4, "hasLettersBehind", "(I)Z"⟩
abbrev cX4_startMoving : ByteArray := prog_1_method_38_code
def yX4_startMoving : MethodName := ⟨RX4, "startMoving", "(I)V"⟩
abbrev cX4_putLetter : ByteArray := prog_1_method_39_code
def yX4_putLetter : MethodName := ⟨RX4, "putLetter", "(III)Z"⟩
abbrev cX4_answerMarker : ByteArray := prog_1_method_40_code
def yX4_answerMarker : MethodName := ⟨RX4, "answerMarker", "(I)V"⟩
abbrev cX4_dropQueue : ByteArray := prog_1_method_41_code
def yX4_dropQueue : MethodName := ⟨RX4, "dropQueue", "(LBoundPorts$Queue;)V"⟩
abbrev cX4_passTick : ByteArray := prog_1_method_42_code
def yX4_passTick : MethodName := ⟨RX4, "passTick", "()V"⟩
abbrev cX4_letFirstOut : ByteArray := prog_1_method_43_code
def yX4_letFirstOut : MethodName := ⟨RX4, "letFirstOut", "(LBoundPorts$Queue;)V"⟩
abbrev cX4_sumOverFlows : ByteArray := prog_1_method_44_code
def yX4_sumOverFlows : MethodName := ⟨RX4, "sumOverFlows", "(I)I"⟩
def RX5 : String := "BoundPortsModel"
def TX5 : u_T := fun k => match k with
  | 0 => ("BoundPortsModel", "pageLength", "I", false)
  | 1 => ("BoundPortsModel", "page", "[I", true)
  | 2 => ("BoundPortsModel", "ports", "I", false)
  | 3 => ("BoundPortsModel", "keyOf", "[I", true)
  | 4 => ("BoundPortsModel", "rankOf", "[I", true)
  | 5 => ("BoundPortsModel", "isUp", "[Z", true)
  | 6 => ("BoundPortsModel", "partnerOf", "[I", true)
  | 7 => ("BoundPortsModel", "partnerKey", "[I", true)
  | 8 => ("BoundPortsModel", "isReady", "[Z", true)
  | 9 => ("BoundPortsModel", "age", "[I", true)
  | 10 => ("BoundPortsModel", "waited", "[I", true)
  | 11 => ("BoundPortsModel", "width", "I", false)
  | 12 => ("BoundPortsModel", "wait", "I", false)
  | 13 => ("BoundPortsModel", "shift", "I", false)
  | 14 => ("BoundPortsModel", "boardsRead", "I", false)
  | 15 => ("BoundPortsModel", "queueFlow", "[I", true)
  | 16 => ("BoundPortsModel", "queueNumber", "[I", true)
  | 17 => ("BoundPortsModel", "queueMany", "[I", true)
  | 18 => ("BoundPortsModel", "onPort", "[I", true)
  | 19 => ("BoundPortsModel", "isMoving", "[Z", true)
  | 20 => ("BoundPortsModel", "heldMany", "[I", true)
  | 21 => ("BoundPortsModel", "heldAt", "[I", true)
  | 22 => ("BoundPortsModel", "sent", "[I", true)
  | 23 => ("BoundPortsModel", "delivered", "[I", true)
  | 24 => ("BoundPortsModel", "lost", "[I", true)
  | 25 => ("BoundPortsModel", "latest", "[I", true)
  | 26 => ("BoundPortsModel", "ticks", "I", false)
  | 27 => ("BoundPortsModel", "answered", "I", false)
  | 28 => ("BoundPortsModel", "markers", "[I", true)
  | _ => ("BoundPortsModel", "h", "J", false)
def tyX5 : Nat → FieldType := fun k => match k with
  | 0 => .int
  | 1 => .array .int
  | 2 => .int
  | 3 => .array .int
  | 4 => .array .int
  | 5 => .array .boolean
  | 6 => .array .int
  | 7 => .array .int
  | 8 => .array .boolean
  | 9 => .array .int
  | 10 => .array .int
  | 11 => .int
  | 12 => .int
  | 13 => .int
  | 14 => .int
  | 15 => .array .int
  | 16 => .array .int
  | 17 => .array .int
  | 18 => .array .int
  | 19 => .array .boolean
  | 20 => .array .int
  | 21 => .array .int
  | 22 => .array .int
  | 23 => .array .int
  | 24 => .array .int
  | 25 => .array .int
  | 26 => .int
  | 27 => .int
  | 28 => .array .int
  | _ => .long
theorem nmX5 : ∀ a, a < 30 → ∀ b, b < 30 → a ≠ b → (TX5 a).2.1 ≠ (TX5 b).2.1 := by decide +kernel
theorem tyX5_ok : ∀ k, k < 30 → parseFieldDescriptor (TX5 k).2.2.1 = some (tyX5 k) := by decide +kernel
abbrev cX5_init : ByteArray := prog_7_method_1_code
def yX5_init : MethodName := ⟨RX5, "<init>", "()V"⟩
abbrev cX5_within : ByteArray := prog_7_method_3_code
def yX5_within : MethodName := ⟨RX5, "within", "(III)Z"⟩
abbrev cX5_letter : ByteArray := prog_7_method_4_code
def yX5_letter : MethodName := ⟨RX5, "letter", "(I)I"⟩
abbrev cX5_blank : ByteArray := prog_7_method_5_code
def yX5_blank : MethodName := ⟨RX5, "blank", "()I"⟩
abbrev cX5_isRight : ByteArray := prog_7_method_6_code
def yX5_isRight : MethodName := ⟨RX5, "isRight", "(I)Z"⟩
abbrev cX5_rightLetters : ByteArray := prog_7_method_7_code
def yX5_rightLetters : MethodName := ⟨RX5, "rightLetters", "()I"⟩
abbrev cX5_fault : ByteArray := prog_7_method_8_code
def yX5_fault : MethodName := ⟨RX5, "fault", "()I"⟩
abbrev cX5_clearFlows : ByteArray := prog_7_method_9_code
def yX5_clearFlows : MethodName := ⟨RX5, "clearFlows", "()V"⟩
abbrev cX5_board : ByteArray := prog_7_method_10_code
def yX5_board : MethodName := ⟨RX5, "board", "()I"⟩
abbrev cX5_isPort : ByteArray := prog_7_method_11_code
def yX5_isPort : MethodName := ⟨RX5, "isPort", "(I)Z"⟩
abbrev cX5_forget : ByteArray := prog_7_method_12_code
def yX5_forget : MethodName := ⟨RX5, "forget", "(I)V"⟩
abbrev cX5_isAhead : ByteArray := prog_7_method_13_code
def yX5_isAhead : MethodName := ⟨RX5, "isAhead", "(II)Z"⟩
abbrev cX5_leadOf : ByteArray := prog_7_method_14_code
def yX5_leadOf : MethodName := ⟨RX5, "leadOf", "(I)I"⟩
abbrev cX5_areAlike : ByteArray := prog_7_method_15_code
def yX5_areAlike : MethodName := ⟨RX5, "areAlike", "(II)Z"⟩
abbrev cX5_placeOf : ByteArray := prog_7_method_16_code
def yX5_placeOf : MethodName := ⟨RX5, "placeOf", "(I)I"⟩
abbrev cX5_stateOf : ByteArray := prog_7_method_17_code
def yX5_stateOf : MethodName := ⟨RX5, "stateOf", "(I)I"⟩
abbrev cX5_settle : ByteArray := prog_7_method_18_code
def yX5_settle : MethodName := ⟨RX5, "settle", "()V"⟩
abbrev cX5_toldNow : ByteArray := prog_7_method_19_code
def yX5_toldNow : MethodName := ⟨RX5, "toldNow", "(I)I"⟩
abbrev cX5_set : ByteArray := prog_7_method_20_code
def yX5_set : MethodName := ⟨RX5, "set", "(II)I"⟩
abbrev cX5_rank : ByteArray := prog_7_method_21_code
def yX5_rank : MethodName := ⟨RX5, "rank", "(II)I"⟩
abbrev cX5_up : ByteArray := prog_7_method_22_code
def yX5_up : MethodName := ⟨RX5, "up", "(IZ)I"⟩
abbrev cX5_hear : ByteArray := prog_7_method_23_code
def yX5_hear : MethodName := ⟨RX5, "hear", "(IIIZ)I"⟩
abbrev cX5_portNow : ByteArray := prog_7_method_24_code
def yX5_portNow : MethodName := ⟨RX5, "portNow", "(II)I"⟩
abbrev cX5_of : ByteArray := prog_7_method_25_code
def yX5_of : MethodName := ⟨RX5, "of", "(II)I"⟩
abbrev cX5_queueNow : ByteArray := prog_7_method_26_code
def yX5_queueNow : MethodName := ⟨RX5, "queueNow", "(II)I"⟩
abbrev cX5_queue : ByteArray := prog_7_method_27_code
def yX5_queue : MethodName := ⟨RX5, "queue", "(II)I"⟩
abbrev cX5_bitsOf : ByteArray := prog_7_method_28_code
def yX5_bitsOf : MethodName := ⟨RX5, "bitsOf", "(III)I"⟩
abbrev cX5_keyNow : ByteArray := prog_7_method_29_code
def yX5_keyNow : MethodName := ⟨RX5, "keyNow", "(II)I"⟩
abbrev cX5_key : ByteArray := prog_7_method_30_code
def yX5_key : MethodName := ⟨RX5, "key", "(II)I"⟩
abbrev cX5_isFlow : ByteArray := prog_7_method_31_code
def yX5_isFlow : MethodName := ⟨RX5, "isFlow", "(I)Z"⟩
abbrev cX5_wayOf : ByteArray := prog_7_method_32_code
def yX5_wayOf : MethodName := ⟨RX5, "wayOf", "(I)I"⟩
abbrev cX5_way : ByteArray := prog_7_method_33_code
def yX5_way : MethodName := ⟨RX5, "way", "(I)I"⟩
abbrev cX5_lay : ByteArray := prog_7_method_34_code
def yX5_lay : MethodName := ⟨RX5, "lay", "(III)V"⟩
abbrev cX5_comes : ByteArray := prog_7_method_35_code
def yX5_comes : MethodName := ⟨RX5, "comes", "(III)I"⟩
abbrev cX5_holds : ByteArray := prog_7_method_36_code
def yX5_holds : MethodName := ⟨RX5, "holds", "(II)I"⟩
abbrev cX5_hasLetter : ByteArray := prog_7_method_37_code
def yX5_hasLetter : MethodName := ⟨RX5, "hasLetter", "(II)Z"⟩
abbrev cX5_sendNow : ByteArray := prog_7_method_38_code
def yX5_sendNow : MethodName := ⟨RX5, "sendNow", "(I)I"⟩
abbrev cX5_send : ByteArray := prog_7_method_39_code
def yX5_send : MethodName := ⟨RX5, "send", "(I)I"⟩
abbrev cX5_answer : ByteArray := prog_7_method_40_code
def yX5_answer : MethodName := ⟨RX5, "answer", "(I)V"⟩
abbrev cX5_empty : ByteArray := prog_7_method_41_code
def yX5_empty : MethodName := ⟨RX5, "empty", "(I)V"⟩
abbrev cX5_flowNow : ByteArray := prog_7_method_42_code
def yX5_flowNow : MethodName := ⟨RX5, "flowNow", "(II)I"⟩
abbrev cX5_flow : ByteArray := prog_7_method_43_code
def yX5_flow : MethodName := ⟨RX5, "flow", "(II)I"⟩
abbrev cX5_hearLess : ByteArray := prog_7_method_44_code
def yX5_hearLess : MethodName := ⟨RX5, "hearLess", "()V"⟩
abbrev cX5_waitMore : ByteArray := prog_7_method_45_code
def yX5_waitMore : MethodName := ⟨RX5, "waitMore", "()V"⟩
abbrev cX5_goesOut : ByteArray := prog_7_method_46_code
def yX5_goesOut : MethodName := ⟨RX5, "goesOut", "(I)I"⟩
abbrev cX5_tickNow : ByteArray := prog_7_method_47_code
def yX5_tickNow : MethodName := ⟨RX5, "tickNow", "()I"⟩
abbrev cX5_tick : ByteArray := prog_7_method_48_code
def yX5_tick : MethodName := ⟨RX5, "tick", "(I)I"⟩
abbrev cX5_sumOf : ByteArray := prog_7_method_49_code
def yX5_sumOf : MethodName := ⟨RX5, "sumOf", "([I)I"⟩
abbrev cX5_howMany : ByteArray := prog_7_method_50_code
def yX5_howMany : MethodName := ⟨RX5, "howMany", "(I)I"⟩
abbrev cX5_count : ByteArray := prog_7_method_51_code
def yX5_count : MethodName := ⟨RX5, "count", "(I)I"⟩
abbrev cX5_mix : ByteArray := prog_7_method_52_code
def yX5_mix : MethodName := ⟨RX5, "mix", "(J)V"⟩
abbrev cX5_mixPorts : ByteArray := prog_7_method_53_code
def yX5_mixPorts : MethodName := ⟨RX5, "mixPorts", "()V"⟩
abbrev cX5_mixFlows : ByteArray := prog_7_method_54_code
def yX5_mixFlows : MethodName := ⟨RX5, "mixFlows", "()V"⟩
abbrev cX5_digest : ByteArray := prog_7_method_55_code
def yX5_digest : MethodName := ⟨RX5, "digest", "()J"⟩
def RJ6 : String := "java/lang/Integer"
def TJ6 : u_T := fun k => match k with
  | _ => ("", "", "", false)
def tyJ6 : Nat → FieldType := fun k => match k with
  | _ => .int
theorem nmJ6 : ∀ a, a < 0 → ∀ b, b < 0 → a ≠ b → (TJ6 a).2.1 ≠ (TJ6 b).2.1 := by decide +kernel
theorem tyJ6_ok : ∀ k, k < 0 → parseFieldDescriptor (TJ6 k).2.2.1 = some (tyJ6 k) := by decide +kernel
abbrev cJ6_bitCount_0f7a4 : ByteArray := prog_8_method_49_code
def yJ6_bitCount_0f7a4 : MethodName := ⟨RJ6, "bitCount", "(I)I"⟩
def RL : String := "BoundPortsLaw"
abbrev cL_law : ByteArray := code
def yL_law : MethodName := ⟨RL, "law", "([I)Z"⟩
end
section
theorem dX0_init_0 : decode cX0_init 0 = .ok (.aload_n 0, 1) := by decide +kernel
theorem dX0_init_1 : decode cX0_init 1 = .ok (.invokespecial 3, 3) := by decide +kernel
theorem dX0_init_4 : decode cX0_init 4 = .ok (.aload_n 0, 1) := by decide +kernel
theorem dX0_init_5 : decode cX0_init 5 = .ok (.bipush 8, 2) := by decide +kernel
theorem dX0_init_7 : decode cX0_init 7 = .ok (.newarray .int, 2) := by decide +kernel
theorem dX0_init_9 : decode cX0_init 9 = .ok (.putfield 9, 3) := by decide +kernel
theorem dX0_init_12 : decode cX0_init 12 = .ok (.aload_n 0, 1) := by decide +kernel
theorem dX0_init_13 : decode cX0_init 13 = .ok (.iconst 0, 1) := by decide +kernel
theorem dX0_init_14 : decode cX0_init 14 = .ok (.putfield 15, 3) := by decide +kernel
theorem dX0_init_17 : decode cX0_init 17 = .ok (.aload_n 0, 1) := by decide +kernel
theorem dX0_init_18 : decode cX0_init 18 = .ok (.iconst (-1), 1) := by decide +kernel
theorem dX0_init_19 : decode cX0_init 19 = .ok (.putfield 19, 3) := by decide +kernel
theorem dX0_init_22 : decode cX0_init 22 = .ok (.aload_n 0, 1) := by decide +kernel
theorem dX0_init_23 : decode cX0_init 23 = .ok (.iconst 0, 1) := by decide +kernel
theorem dX0_init_24 : decode cX0_init 24 = .ok (.putfield 22, 3) := by decide +kernel
theorem dX0_init_27 : decode cX0_init 27 = .ok (.aload_n 0, 1) := by decide +kernel
theorem dX0_init_28 : decode cX0_init 28 = .ok (.iconst 0, 1) := by decide +kernel
theorem dX0_init_29 : decode cX0_init 29 = .ok (.putfield 26, 3) := by decide +kernel
theorem dX0_init_32 : decode cX0_init 32 = .ok (.aload_n 0, 1) := by decide +kernel
theorem dX0_init_33 : decode cX0_init 33 = .ok (.iconst 0, 1) := by decide +kernel
theorem dX0_init_34 : decode cX0_init 34 = .ok (.putfield 29, 3) := by decide +kernel
theorem dX0_init_37 : decode cX0_init 37 = .ok (.aload_n 0, 1) := by decide +kernel
theorem dX0_init_38 : decode cX0_init 38 = .ok (.iconst 0, 1) := by decide +kernel
theorem dX0_init_39 : decode cX0_init 39 = .ok (.putfield 32, 3) := by decide +kernel
theorem dX0_init_42 : decode cX0_init 42 = .ok (.aload_n 0, 1) := by decide +kernel
theorem dX0_init_43 : decode cX0_init 43 = .ok (.iconst 0, 1) := by decide +kernel
theorem dX0_init_44 : decode cX0_init 44 = .ok (.putfield 35, 3) := by decide +kernel
theorem dX0_init_47 : decode cX0_init 47 = .ok (.return_, 1) := by decide +kernel
theorem dX0_restart_0 : decode cX0_restart 0 = .ok (.aload_n 0, 1) := by decide +kernel
theorem dX0_restart_1 : decode cX0_restart 1 = .ok (.iconst 0, 1) := by decide +kernel
theorem dX0_restart_2 : decode cX0_restart 2 = .ok (.putfield 15, 3) := by decide +kernel
theorem dX0_restart_5 : decode cX0_restart 5 = .ok (.aload_n 0, 1) := by decide +kernel
theorem dX0_restart_6 : decode cX0_restart 6 = .ok (.iconst (-1), 1) := by decide +kernel
theorem dX0_restart_7 : decode cX0_restart 7 = .ok (.putfield 19, 3) := by decide +kernel
theorem dX0_restart_10 : decode cX0_restart 10 = .ok (.aload_n 0, 1) := by decide +kernel
theorem dX0_restart_11 : decode cX0_restart 11 = .ok (.iconst 0, 1) := by decide +kernel
theorem dX0_restart_12 : decode cX0_restart 12 = .ok (.putfield 22, 3) := by decide +kernel
theorem dX0_restart_15 : decode cX0_restart 15 = .ok (.aload_n 0, 1) := by decide +kernel
theorem dX0_restart_16 : decode cX0_restart 16 = .ok (.iconst 0, 1) := by decide +kernel
theorem dX0_restart_17 : decode cX0_restart 17 = .ok (.putfield 26, 3) := by decide +kernel
theorem dX0_restart_20 : decode cX0_restart 20 = .ok (.aload_n 0, 1) := by decide +kernel
theorem dX0_restart_21 : decode cX0_restart 21 = .ok (.iconst 0, 1) := by decide +kernel
theorem dX0_restart_22 : decode cX0_restart 22 = .ok (.putfield 29, 3) := by decide +kernel
theorem dX0_restart_25 : decode cX0_restart 25 = .ok (.aload_n 0, 1) := by decide +kernel
theorem dX0_restart_26 : decode cX0_restart 26 = .ok (.iconst 0, 1) := by decide +kernel
theorem dX0_restart_27 : decode cX0_restart 27 = .ok (.putfield 32, 3) := by decide +kernel
theorem dX0_restart_30 : decode cX0_restart 30 = .ok (.aload_n 0, 1) := by decide +kernel
theorem dX0_restart_31 : decode cX0_restart 31 = .ok (.iconst 0, 1) := by decide +kernel
theorem dX0_restart_32 : decode cX0_restart 32 = .ok (.putfield 35, 3) := by decide +kernel
theorem dX0_restart_35 : decode cX0_restart 35 = .ok (.return_, 1) := by decide +kernel
theorem dX0_hold_0 : decode cX0_hold 0 = .ok (.aload_n 0, 1) := by decide +kernel
theorem dX0_hold_1 : decode cX0_hold 1 = .ok (.getfield 15, 3) := by decide +kernel
theorem dX0_hold_4 : decode cX0_hold 4 = .ok (.bipush 8, 2) := by decide +kernel
theorem dX0_hold_6 : decode cX0_hold 6 = .ok (.if_icmp .lt 15, 3) := by decide +kernel
theorem dX0_hold_9 : decode cX0_hold 9 = .ok (.aload_n 0, 1) := by decide +kernel
theorem dX0_hold_10 : decode cX0_hold 10 = .ok (.dup, 1) := by decide +kernel
theorem dX0_hold_11 : decode cX0_hold 11 = .ok (.getfield 32, 3) := by decide +kernel
theorem dX0_hold_14 : decode cX0_hold 14 = .ok (.iconst 1, 1) := by decide +kernel
theorem dX0_hold_15 : decode cX0_hold 15 = .ok (.iadd, 1) := by decide +kernel
theorem dX0_hold_16 : decode cX0_hold 16 = .ok (.putfield 32, 3) := by decide +kernel
theorem dX0_hold_19 : decode cX0_hold 19 = .ok (.iconst 0, 1) := by decide +kernel
theorem dX0_hold_20 : decode cX0_hold 20 = .ok (.ireturn, 1) := by decide +kernel
theorem dX0_hold_21 : decode cX0_hold 21 = .ok (.aload_n 0, 1) := by decide +kernel
theorem dX0_hold_22 : decode cX0_hold 22 = .ok (.getfield 9, 3) := by decide +kernel
theorem dX0_hold_25 : decode cX0_hold 25 = .ok (.aload_n 0, 1) := by decide +kernel
theorem dX0_hold_26 : decode cX0_hold 26 = .ok (.getfield 15, 3) := by decide +kernel
theorem dX0_hold_29 : decode cX0_hold 29 = .ok (.iload_n 1, 1) := by decide +kernel
theorem dX0_hold_30 : decode cX0_hold 30 = .ok (.iastore, 1) := by decide +kernel
theorem dX0_hold_31 : decode cX0_hold 31 = .ok (.aload_n 0, 1) := by decide +kernel
theorem dX0_hold_32 : decode cX0_hold 32 = .ok (.dup, 1) := by decide +kernel
theorem dX0_hold_33 : decode cX0_hold 33 = .ok (.getfield 15, 3) := by decide +kernel
theorem dX0_hold_36 : decode cX0_hold 36 = .ok (.iconst 1, 1) := by decide +kernel
theorem dX0_hold_37 : decode cX0_hold 37 = .ok (.iadd, 1) := by decide +kernel
theorem dX0_hold_38 : decode cX0_hold 38 = .ok (.putfield 15, 3) := by decide +kernel
theorem dX0_hold_41 : decode cX0_hold 41 = .ok (.iconst 1, 1) := by decide +kernel
theorem dX0_hold_42 : decode cX0_hold 42 = .ok (.ireturn, 1) := by decide +kernel
theorem dX1_init_0 : decode cX1_init 0 = .ok (.aload_n 0, 1) := by decide +kernel
theorem dX1_init_1 : decode cX1_init 1 = .ok (.invokespecial 3, 3) := by decide +kernel
theorem dX1_init_4 : decode cX1_init 4 = .ok (.aload_n 0, 1) := by decide +kernel
theorem dX1_init_5 : decode cX1_init 5 = .ok (.bipush 17, 2) := by decide +kernel
theorem dX1_init_7 : decode cX1_init 7 = .ok (.newarray .int, 2) := by decide +kernel
theorem dX1_init_9 : decode cX1_init 9 = .ok (.putfield 9, 3) := by decide +kernel
theorem dX1_init_12 : decode cX1_init 12 = .ok (.aload_n 0, 1) := by decide +kernel
theorem dX1_init_13 : decode cX1_init 13 = .ok (.iconst 0, 1) := by decide +kernel
theorem dX1_init_14 : decode cX1_init 14 = .ok (.putfield 15, 3) := by decide +kernel
theorem dX1_init_17 : decode cX1_init 17 = .ok (.return_, 1) := by decide +kernel
theorem dX1_append_0 : decode cX1_append 0 = .ok (.aload_n 0, 1) := by decide +kernel
theorem dX1_append_1 : decode cX1_append 1 = .ok (.getfield 15, 3) := by decide +kernel
theorem dX1_append_4 : decode cX1_append 4 = .ok (.bipush 17, 2) := by decide +kernel
theorem dX1_append_6 : decode cX1_append 6 = .ok (.if_icmp .lt 5, 3) := by decide +kernel
theorem dX1_append_9 : decode cX1_append 9 = .ok (.iconst 0, 1) := by decide +kernel
theorem dX1_append_10 : decode cX1_append 10 = .ok (.ireturn, 1) := by decide +kernel
theorem dX1_append_11 : decode cX1_append 11 = .ok (.aload_n 0, 1) := by decide +kernel
theorem dX1_append_12 : decode cX1_append 12 = .ok (.getfield 9, 3) := by decide +kernel
theorem dX1_append_15 : decode cX1_append 15 = .ok (.aload_n 0, 1) := by decide +kernel
theorem dX1_append_16 : decode cX1_append 16 = .ok (.getfield 15, 3) := by decide +kernel
theorem dX1_append_19 : decode cX1_append 19 = .ok (.iload_n 1, 1) := by decide +kernel
theorem dX1_append_20 : decode cX1_append 20 = .ok (.iastore, 1) := by decide +kernel
theorem dX1_append_21 : decode cX1_append 21 = .ok (.aload_n 0, 1) := by decide +kernel
theorem dX1_append_22 : decode cX1_append 22 = .ok (.dup, 1) := by decide +kernel
theorem dX1_append_23 : decode cX1_append 23 = .ok (.getfield 15, 3) := by decide +kernel
theorem dX1_append_26 : decode cX1_append 26 = .ok (.iconst 1, 1) := by decide +kernel
theorem dX1_append_27 : decode cX1_append 27 = .ok (.iadd, 1) := by decide +kernel
theorem dX1_append_28 : decode cX1_append 28 = .ok (.putfield 15, 3) := by decide +kernel
theorem dX1_append_31 : decode cX1_append 31 = .ok (.iconst 1, 1) := by decide +kernel
theorem dX1_append_32 : decode cX1_append 32 = .ok (.ireturn, 1) := by decide +kernel
theorem dX1_codeAt_0 : decode cX1_codeAt 0 = .ok (.iload_n 1, 1) := by decide +kernel
theorem dX1_codeAt_1 : decode cX1_codeAt 1 = .ok (.ifCond .lt 20, 3) := by decide +kernel
theorem dX1_codeAt_4 : decode cX1_codeAt 4 = .ok (.iload_n 1, 1) := by decide +kernel
theorem dX1_codeAt_5 : decode cX1_codeAt 5 = .ok (.aload_n 0, 1) := by decide +kernel
theorem dX1_codeAt_6 : decode cX1_codeAt 6 = .ok (.getfield 15, 3) := by decide +kernel
theorem dX1_codeAt_9 : decode cX1_codeAt 9 = .ok (.if_icmp .ge 12, 3) := by decide +kernel
theorem dX1_codeAt_12 : decode cX1_codeAt 12 = .ok (.aload_n 0, 1) := by decide +kernel
theorem dX1_codeAt_13 : decode cX1_codeAt 13 = .ok (.getfield 9, 3) := by decide +kernel
theorem dX1_codeAt_16 : decode cX1_codeAt 16 = .ok (.iload_n 1, 1) := by decide +kernel
theorem dX1_codeAt_17 : decode cX1_codeAt 17 = .ok (.iaload, 1) := by decide +kernel
theorem dX1_codeAt_18 : decode cX1_codeAt 18 = .ok (.goto 4, 3) := by decide +kernel
theorem dX1_codeAt_21 : decode cX1_codeAt 21 = .ok (.iconst (-1), 1) := by decide +kernel
theorem dX1_codeAt_22 : decode cX1_codeAt 22 = .ok (.ireturn, 1) := by decide +kernel
theorem dX1_firstWrong_0 : decode cX1_firstWrong 0 = .ok (.iconst 0, 1) := by decide +kernel
theorem dX1_firstWrong_1 : decode cX1_firstWrong 1 = .ok (.istore_n 1, 1) := by decide +kernel
theorem dX1_firstWrong_2 : decode cX1_firstWrong 2 = .ok (.iload_n 1, 1) := by decide +kernel
theorem dX1_firstWrong_3 : decode cX1_firstWrong 3 = .ok (.aload_n 0, 1) := by decide +kernel
theorem dX1_firstWrong_4 : decode cX1_firstWrong 4 = .ok (.getfield 15, 3) := by decide +kernel
theorem dX1_firstWrong_7 : decode cX1_firstWrong 7 = .ok (.if_icmp .ge 19, 3) := by decide +kernel
theorem dX1_firstWrong_10 : decode cX1_firstWrong 10 = .ok (.aload_n 0, 1) := by decide +kernel
theorem dX1_firstWrong_11 : decode cX1_firstWrong 11 = .ok (.iload_n 1, 1) := by decide +kernel
theorem dX1_firstWrong_12 : decode cX1_firstWrong 12 = .ok (.invokevirtual 19, 3) := by decide +kernel
theorem dX1_firstWrong_15 : decode cX1_firstWrong 15 = .ok (.ifCond .ne 5, 3) := by decide +kernel
theorem dX1_firstWrong_18 : decode cX1_firstWrong 18 = .ok (.iload_n 1, 1) := by decide +kernel
theorem dX1_firstWrong_19 : decode cX1_firstWrong 19 = .ok (.ireturn, 1) := by decide +kernel
theorem dX1_firstWrong_20 : decode cX1_firstWrong 20 = .ok (.iinc 1 1, 3) := by decide +kernel
theorem dX1_firstWrong_23 : decode cX1_firstWrong 23 = .ok (.goto (-21), 3) := by decide +kernel
theorem dX1_firstWrong_26 : decode cX1_firstWrong 26 = .ok (.aload_n 0, 1) := by decide +kernel
theorem dX1_firstWrong_27 : decode cX1_firstWrong 27 = .ok (.getfield 15, 3) := by decide +kernel
theorem dX1_firstWrong_30 : decode cX1_firstWrong 30 = .ok (.ireturn, 1) := by decide +kernel
theorem dX1_fits_0 : decode cX1_fits 0 = .ok (.aload_n 0, 1) := by decide +kernel
theorem dX1_fits_1 : decode cX1_fits 1 = .ok (.iload_n 1, 1) := by decide +kernel
theorem dX1_fits_2 : decode cX1_fits 2 = .ok (.invokevirtual 23, 3) := by decide +kernel
theorem dX1_fits_5 : decode cX1_fits 5 = .ok (.istore_n 2, 1) := by decide +kernel
theorem dX1_fits_6 : decode cX1_fits 6 = .ok (.iload_n 1, 1) := by decide +kernel
theorem dX1_fits_7 : decode cX1_fits 7 = .ok (.iconst 3, 1) := by decide +kernel
theorem dX1_fits_8 : decode cX1_fits 8 = .ok (.irem, 1) := by decide +kernel
theorem dX1_fits_9 : decode cX1_fits 9 = .ok (.lookupswitch 63 #[(0, 27), (1, 45)], 27) := by decide +kernel
theorem dX1_fits_36 : decode cX1_fits 36 = .ok (.iload_n 2, 1) := by decide +kernel
theorem dX1_fits_37 : decode cX1_fits 37 = .ok (.bipush 48, 2) := by decide +kernel
theorem dX1_fits_39 : decode cX1_fits 39 = .ok (.if_icmp .lt 13, 3) := by decide +kernel
theorem dX1_fits_42 : decode cX1_fits 42 = .ok (.iload_n 2, 1) := by decide +kernel
theorem dX1_fits_43 : decode cX1_fits 43 = .ok (.bipush 52, 2) := by decide +kernel
theorem dX1_fits_45 : decode cX1_fits 45 = .ok (.if_icmp .ge 7, 3) := by decide +kernel
theorem dX1_fits_48 : decode cX1_fits 48 = .ok (.iconst 1, 1) := by decide +kernel
theorem dX1_fits_49 : decode cX1_fits 49 = .ok (.goto 4, 3) := by decide +kernel
theorem dX1_fits_52 : decode cX1_fits 52 = .ok (.iconst 0, 1) := by decide +kernel
theorem dX1_fits_53 : decode cX1_fits 53 = .ok (.ireturn, 1) := by decide +kernel
theorem dX1_fits_54 : decode cX1_fits 54 = .ok (.iload_n 2, 1) := by decide +kernel
theorem dX1_fits_55 : decode cX1_fits 55 = .ok (.bipush 48, 2) := by decide +kernel
theorem dX1_fits_57 : decode cX1_fits 57 = .ok (.if_icmp .lt 13, 3) := by decide +kernel
theorem dX1_fits_60 : decode cX1_fits 60 = .ok (.iload_n 2, 1) := by decide +kernel
theorem dX1_fits_61 : decode cX1_fits 61 = .ok (.bipush 57, 2) := by decide +kernel
theorem dX1_fits_63 : decode cX1_fits 63 = .ok (.if_icmp .gt 7, 3) := by decide +kernel
theorem dX1_fits_66 : decode cX1_fits 66 = .ok (.iconst 1, 1) := by decide +kernel
theorem dX1_fits_67 : decode cX1_fits 67 = .ok (.goto 4, 3) := by decide +kernel
theorem dX1_fits_70 : decode cX1_fits 70 = .ok (.iconst 0, 1) := by decide +kernel
theorem dX1_fits_71 : decode cX1_fits 71 = .ok (.ireturn, 1) := by decide +kernel
theorem dX1_fits_72 : decode cX1_fits 72 = .ok (.iload_n 2, 1) := by decide +kernel
theorem dX1_fits_73 : decode cX1_fits 73 = .ok (.bipush 44, 2) := by decide +kernel
theorem dX1_fits_75 : decode cX1_fits 75 = .ok (.if_icmp .ne 7, 3) := by decide +kernel
theorem dX1_fits_78 : decode cX1_fits 78 = .ok (.iconst 1, 1) := by decide +kernel
theorem dX1_fits_79 : decode cX1_fits 79 = .ok (.goto 4, 3) := by decide +kernel
theorem dX1_fits_82 : decode cX1_fits 82 = .ok (.iconst 0, 1) := by decide +kernel
theorem dX1_fits_83 : decode cX1_fits 83 = .ok (.ireturn, 1) := by decide +kernel
theorem dX1_isBoard_0 : decode cX1_isBoard 0 = .ok (.aload_n 0, 1) := by decide +kernel
theorem dX1_isBoard_1 : decode cX1_isBoard 1 = .ok (.getfield 15, 3) := by decide +kernel
theorem dX1_isBoard_4 : decode cX1_isBoard 4 = .ok (.iconst 3, 1) := by decide +kernel
theorem dX1_isBoard_5 : decode cX1_isBoard 5 = .ok (.irem, 1) := by decide +kernel
theorem dX1_isBoard_6 : decode cX1_isBoard 6 = .ok (.iconst 2, 1) := by decide +kernel
theorem dX1_isBoard_7 : decode cX1_isBoard 7 = .ok (.if_icmp .ne 18, 3) := by decide +kernel
theorem dX1_isBoard_10 : decode cX1_isBoard 10 = .ok (.aload_n 0, 1) := by decide +kernel
theorem dX1_isBoard_11 : decode cX1_isBoard 11 = .ok (.invokevirtual 27, 3) := by decide +kernel
theorem dX1_isBoard_14 : decode cX1_isBoard 14 = .ok (.aload_n 0, 1) := by decide +kernel
theorem dX1_isBoard_15 : decode cX1_isBoard 15 = .ok (.getfield 15, 3) := by decide +kernel
theorem dX1_isBoard_18 : decode cX1_isBoard 18 = .ok (.if_icmp .ne 7, 3) := by decide +kernel
theorem dX1_isBoard_21 : decode cX1_isBoard 21 = .ok (.iconst 1, 1) := by decide +kernel
theorem dX1_isBoard_22 : decode cX1_isBoard 22 = .ok (.goto 4, 3) := by decide +kernel
theorem dX1_isBoard_25 : decode cX1_isBoard 25 = .ok (.iconst 0, 1) := by decide +kernel
theorem dX1_isBoard_26 : decode cX1_isBoard 26 = .ok (.ireturn, 1) := by decide +kernel
theorem dX1_portsWritten_0 : decode cX1_portsWritten 0 = .ok (.aload_n 0, 1) := by decide +kernel
theorem dX1_portsWritten_1 : decode cX1_portsWritten 1 = .ok (.getfield 15, 3) := by decide +kernel
theorem dX1_portsWritten_4 : decode cX1_portsWritten 4 = .ok (.iconst 1, 1) := by decide +kernel
theorem dX1_portsWritten_5 : decode cX1_portsWritten 5 = .ok (.iadd, 1) := by decide +kernel
theorem dX1_portsWritten_6 : decode cX1_portsWritten 6 = .ok (.iconst 3, 1) := by decide +kernel
theorem dX1_portsWritten_7 : decode cX1_portsWritten 7 = .ok (.idiv, 1) := by decide +kernel
theorem dX1_portsWritten_8 : decode cX1_portsWritten 8 = .ok (.ireturn, 1) := by decide +kernel
theorem dX1_keyOfPort_0 : decode cX1_keyOfPort 0 = .ok (.aload_n 0, 1) := by decide +kernel
theorem dX1_keyOfPort_1 : decode cX1_keyOfPort 1 = .ok (.iconst 3, 1) := by decide +kernel
theorem dX1_keyOfPort_2 : decode cX1_keyOfPort 2 = .ok (.iload_n 1, 1) := by decide +kernel
theorem dX1_keyOfPort_3 : decode cX1_keyOfPort 3 = .ok (.imul, 1) := by decide +kernel
theorem dX1_keyOfPort_4 : decode cX1_keyOfPort 4 = .ok (.invokevirtual 23, 3) := by decide +kernel
theorem dX1_keyOfPort_7 : decode cX1_keyOfPort 7 = .ok (.bipush 48, 2) := by decide +kernel
theorem dX1_keyOfPort_9 : decode cX1_keyOfPort 9 = .ok (.isub, 1) := by decide +kernel
theorem dX1_keyOfPort_10 : decode cX1_keyOfPort 10 = .ok (.ireturn, 1) := by decide +kernel
theorem dX1_rankOfPort_0 : decode cX1_rankOfPort 0 = .ok (.aload_n 0, 1) := by decide +kernel
theorem dX1_rankOfPort_1 : decode cX1_rankOfPort 1 = .ok (.iconst 3, 1) := by decide +kernel
theorem dX1_rankOfPort_2 : decode cX1_rankOfPort 2 = .ok (.iload_n 1, 1) := by decide +kernel
theorem dX1_rankOfPort_3 : decode cX1_rankOfPort 3 = .ok (.imul, 1) := by decide +kernel
theorem dX1_rankOfPort_4 : decode cX1_rankOfPort 4 = .ok (.iconst 1, 1) := by decide +kernel
theorem dX1_rankOfPort_5 : decode cX1_rankOfPort 5 = .ok (.iadd, 1) := by decide +kernel
theorem dX1_rankOfPort_6 : decode cX1_rankOfPort 6 = .ok (.invokevirtual 23, 3) := by decide +kernel
theorem dX1_rankOfPort_9 : decode cX1_rankOfPort 9 = .ok (.bipush 48, 2) := by decide +kernel
theorem dX1_rankOfPort_11 : decode cX1_rankOfPort 11 = .ok (.isub, 1) := by decide +kernel
theorem dX1_rankOfPort_12 : decode cX1_rankOfPort 12 = .ok (.ireturn, 1) := by decide +kernel
theorem dX2_init_0 : decode cX2_init 0 = .ok (.aload_n 0, 1) := by decide +kernel
theorem dX2_init_1 : decode cX2_init 1 = .ok (.invokespecial 3, 3) := by decide +kernel
theorem dX2_init_4 : decode cX2_init 4 = .ok (.aload_n 0, 1) := by decide +kernel
theorem dX2_init_5 : decode cX2_init 5 = .ok (.new 9, 3) := by decide +kernel
theorem dX2_init_8 : decode cX2_init 8 = .ok (.dup, 1) := by decide +kernel
theorem dX2_init_9 : decode cX2_init 9 = .ok (.invokespecial 11, 3) := by decide +kernel
theorem dX2_init_12 : decode cX2_init 12 = .ok (.putfield 12, 3) := by decide +kernel
theorem dX2_init_15 : decode cX2_init 15 = .ok (.aload_n 0, 1) := by decide +kernel
theorem dX2_init_16 : decode cX2_init 16 = .ok (.iconst 0, 1) := by decide +kernel
theorem dX2_init_17 : decode cX2_init 17 = .ok (.putfield 18, 3) := by decide +kernel
theorem dX2_init_20 : decode cX2_init 20 = .ok (.aload_n 0, 1) := by decide +kernel
theorem dX2_init_21 : decode cX2_init 21 = .ok (.iconst 0, 1) := by decide +kernel
theorem dX2_init_22 : decode cX2_init 22 = .ok (.putfield 22, 3) := by decide +kernel
theorem dX2_init_25 : decode cX2_init 25 = .ok (.aload_n 0, 1) := by decide +kernel
theorem dX2_init_26 : decode cX2_init 26 = .ok (.iconst 0, 1) := by decide +kernel
theorem dX2_init_27 : decode cX2_init 27 = .ok (.putfield 25, 3) := by decide +kernel
theorem dX2_init_30 : decode cX2_init 30 = .ok (.aload_n 0, 1) := by decide +kernel
theorem dX2_init_31 : decode cX2_init 31 = .ok (.iconst 0, 1) := by decide +kernel
theorem dX2_init_32 : decode cX2_init 32 = .ok (.putfield 29, 3) := by decide +kernel
theorem dX2_init_35 : decode cX2_init 35 = .ok (.aload_n 0, 1) := by decide +kernel
theorem dX2_init_36 : decode cX2_init 36 = .ok (.iconst 0, 1) := by decide +kernel
theorem dX2_init_37 : decode cX2_init 37 = .ok (.putfield 32, 3) := by decide +kernel
theorem dX2_init_40 : decode cX2_init 40 = .ok (.aload_n 0, 1) := by decide +kernel
theorem dX2_init_41 : decode cX2_init 41 = .ok (.iconst 0, 1) := by decide +kernel
theorem dX2_init_42 : decode cX2_init 42 = .ok (.putfield 35, 3) := by decide +kernel
theorem dX2_init_45 : decode cX2_init 45 = .ok (.aload_n 0, 1) := by decide +kernel
theorem dX2_init_46 : decode cX2_init 46 = .ok (.iconst 0, 1) := by decide +kernel
theorem dX2_init_47 : decode cX2_init 47 = .ok (.putfield 38, 3) := by decide +kernel
theorem dX2_init_50 : decode cX2_init 50 = .ok (.aload_n 0, 1) := by decide +kernel
theorem dX2_init_51 : decode cX2_init 51 = .ok (.iconst 0, 1) := by decide +kernel
theorem dX2_init_52 : decode cX2_init 52 = .ok (.putfield 41, 3) := by decide +kernel
theorem dX2_init_55 : decode cX2_init 55 = .ok (.aload_n 0, 1) := by decide +kernel
theorem dX2_init_56 : decode cX2_init 56 = .ok (.iconst 0, 1) := by decide +kernel
theorem dX2_init_57 : decode cX2_init 57 = .ok (.putfield 44, 3) := by decide +kernel
theorem dX2_init_60 : decode cX2_init 60 = .ok (.aload_n 0, 1) := by decide +kernel
theorem dX2_init_61 : decode cX2_init 61 = .ok (.iconst 0, 1) := by decide +kernel
theorem dX2_init_62 : decode cX2_init 62 = .ok (.putfield 47, 3) := by decide +kernel
theorem dX2_init_65 : decode cX2_init 65 = .ok (.return_, 1) := by decide +kernel
theorem dX2_restart_0 : decode cX2_restart 0 = .ok (.aload_n 0, 1) := by decide +kernel
theorem dX2_restart_1 : decode cX2_restart 1 = .ok (.iload_n 1, 1) := by decide +kernel
theorem dX2_restart_2 : decode cX2_restart 2 = .ok (.putfield 18, 3) := by decide +kernel
theorem dX2_restart_5 : decode cX2_restart 5 = .ok (.aload_n 0, 1) := by decide +kernel
theorem dX2_restart_6 : decode cX2_restart 6 = .ok (.iload_n 2, 1) := by decide +kernel
theorem dX2_restart_7 : decode cX2_restart 7 = .ok (.putfield 22, 3) := by decide +kernel
theorem dX2_restart_10 : decode cX2_restart 10 = .ok (.aload_n 0, 1) := by decide +kernel
theorem dX2_restart_11 : decode cX2_restart 11 = .ok (.iconst 0, 1) := by decide +kernel
theorem dX2_restart_12 : decode cX2_restart 12 = .ok (.putfield 25, 3) := by decide +kernel
theorem dX2_restart_15 : decode cX2_restart 15 = .ok (.aload_n 0, 1) := by decide +kernel
theorem dX2_restart_16 : decode cX2_restart 16 = .ok (.iconst 0, 1) := by decide +kernel
theorem dX2_restart_17 : decode cX2_restart 17 = .ok (.putfield 29, 3) := by decide +kernel
theorem dX2_restart_20 : decode cX2_restart 20 = .ok (.aload_n 0, 1) := by decide +kernel
theorem dX2_restart_21 : decode cX2_restart 21 = .ok (.iconst 0, 1) := by decide +kernel
theorem dX2_restart_22 : decode cX2_restart 22 = .ok (.putfield 44, 3) := by decide +kernel
theorem dX2_restart_25 : decode cX2_restart 25 = .ok (.aload_n 0, 1) := by decide +kernel
theorem dX2_restart_26 : decode cX2_restart 26 = .ok (.iconst 0, 1) := by decide +kernel
theorem dX2_restart_27 : decode cX2_restart 27 = .ok (.putfield 47, 3) := by decide +kernel
theorem dX2_restart_30 : decode cX2_restart 30 = .ok (.aload_n 0, 1) := by decide +kernel
theorem dX2_restart_31 : decode cX2_restart 31 = .ok (.getfield 12, 3) := by decide +kernel
theorem dX2_restart_34 : decode cX2_restart 34 = .ok (.iconst 0, 1) := by decide +kernel
theorem dX2_restart_35 : decode cX2_restart 35 = .ok (.putfield 50, 3) := by decide +kernel
theorem dX2_restart_38 : decode cX2_restart 38 = .ok (.return_, 1) := by decide +kernel
theorem dX2_keepHeard_0 : decode cX2_keepHeard 0 = .ok (.aload_n 0, 1) := by decide +kernel
theorem dX2_keepHeard_1 : decode cX2_keepHeard 1 = .ok (.iconst 1, 1) := by decide +kernel
theorem dX2_keepHeard_2 : decode cX2_keepHeard 2 = .ok (.putfield 29, 3) := by decide +kernel
theorem dX2_keepHeard_5 : decode cX2_keepHeard 5 = .ok (.aload_n 0, 1) := by decide +kernel
theorem dX2_keepHeard_6 : decode cX2_keepHeard 6 = .ok (.iload_n 1, 1) := by decide +kernel
theorem dX2_keepHeard_7 : decode cX2_keepHeard 7 = .ok (.putfield 32, 3) := by decide +kernel
theorem dX2_keepHeard_10 : decode cX2_keepHeard 10 = .ok (.aload_n 0, 1) := by decide +kernel
theorem dX2_keepHeard_11 : decode cX2_keepHeard 11 = .ok (.iload_n 2, 1) := by decide +kernel
theorem dX2_keepHeard_12 : decode cX2_keepHeard 12 = .ok (.putfield 35, 3) := by decide +kernel
theorem dX2_keepHeard_15 : decode cX2_keepHeard 15 = .ok (.aload_n 0, 1) := by decide +kernel
theorem dX2_keepHeard_16 : decode cX2_keepHeard 16 = .ok (.iload_n 3, 1) := by decide +kernel
theorem dX2_keepHeard_17 : decode cX2_keepHeard 17 = .ok (.putfield 38, 3) := by decide +kernel
theorem dX2_keepHeard_20 : decode cX2_keepHeard 20 = .ok (.aload_n 0, 1) := by decide +kernel
theorem dX2_keepHeard_21 : decode cX2_keepHeard 21 = .ok (.iconst 0, 1) := by decide +kernel
theorem dX2_keepHeard_22 : decode cX2_keepHeard 22 = .ok (.putfield 41, 3) := by decide +kernel
theorem dX2_keepHeard_25 : decode cX2_keepHeard 25 = .ok (.return_, 1) := by decide +kernel
theorem dX2_growOlder_0 : decode cX2_growOlder 0 = .ok (.aload_n 0, 1) := by decide +kernel
theorem dX2_growOlder_1 : decode cX2_growOlder 1 = .ok (.getfield 29, 3) := by decide +kernel
theorem dX2_growOlder_4 : decode cX2_growOlder 4 = .ok (.ifCond .eq 30, 3) := by decide +kernel
theorem dX2_growOlder_7 : decode cX2_growOlder 7 = .ok (.aload_n 0, 1) := by decide +kernel
theorem dX2_growOlder_8 : decode cX2_growOlder 8 = .ok (.dup, 1) := by decide +kernel
theorem dX2_growOlder_9 : decode cX2_growOlder 9 = .ok (.getfield 41, 3) := by decide +kernel
theorem dX2_growOlder_12 : decode cX2_growOlder 12 = .ok (.iconst 1, 1) := by decide +kernel
theorem dX2_growOlder_13 : decode cX2_growOlder 13 = .ok (.iadd, 1) := by decide +kernel
theorem dX2_growOlder_14 : decode cX2_growOlder 14 = .ok (.putfield 41, 3) := by decide +kernel
theorem dX2_growOlder_17 : decode cX2_growOlder 17 = .ok (.aload_n 0, 1) := by decide +kernel
theorem dX2_growOlder_18 : decode cX2_growOlder 18 = .ok (.aload_n 0, 1) := by decide +kernel
theorem dX2_growOlder_19 : decode cX2_growOlder 19 = .ok (.getfield 41, 3) := by decide +kernel
theorem dX2_growOlder_22 : decode cX2_growOlder 22 = .ok (.iconst 4, 1) := by decide +kernel
theorem dX2_growOlder_23 : decode cX2_growOlder 23 = .ok (.if_icmp .ge 7, 3) := by decide +kernel
theorem dX2_growOlder_26 : decode cX2_growOlder 26 = .ok (.iconst 1, 1) := by decide +kernel
theorem dX2_growOlder_27 : decode cX2_growOlder 27 = .ok (.goto 4, 3) := by decide +kernel
theorem dX2_growOlder_30 : decode cX2_growOlder 30 = .ok (.iconst 0, 1) := by decide +kernel
theorem dX2_growOlder_31 : decode cX2_growOlder 31 = .ok (.putfield 29, 3) := by decide +kernel
theorem dX2_growOlder_34 : decode cX2_growOlder 34 = .ok (.return_, 1) := by decide +kernel
theorem dX2_isAlike_0 : decode cX2_isAlike 0 = .ok (.aload_n 0, 1) := by decide +kernel
theorem dX2_isAlike_1 : decode cX2_isAlike 1 = .ok (.getfield 29, 3) := by decide +kernel
theorem dX2_isAlike_4 : decode cX2_isAlike 4 = .ok (.ifCond .eq 47, 3) := by decide +kernel
theorem dX2_isAlike_7 : decode cX2_isAlike 7 = .ok (.aload_n 1, 1) := by decide +kernel
theorem dX2_isAlike_8 : decode cX2_isAlike 8 = .ok (.getfield 29, 3) := by decide +kernel
theorem dX2_isAlike_11 : decode cX2_isAlike 11 = .ok (.ifCond .eq 40, 3) := by decide +kernel
theorem dX2_isAlike_14 : decode cX2_isAlike 14 = .ok (.aload_n 0, 1) := by decide +kernel
theorem dX2_isAlike_15 : decode cX2_isAlike 15 = .ok (.getfield 18, 3) := by decide +kernel
theorem dX2_isAlike_18 : decode cX2_isAlike 18 = .ok (.aload_n 1, 1) := by decide +kernel
theorem dX2_isAlike_19 : decode cX2_isAlike 19 = .ok (.getfield 18, 3) := by decide +kernel
theorem dX2_isAlike_22 : decode cX2_isAlike 22 = .ok (.if_icmp .ne 29, 3) := by decide +kernel
theorem dX2_isAlike_25 : decode cX2_isAlike 25 = .ok (.aload_n 0, 1) := by decide +kernel
theorem dX2_isAlike_26 : decode cX2_isAlike 26 = .ok (.getfield 32, 3) := by decide +kernel
theorem dX2_isAlike_29 : decode cX2_isAlike 29 = .ok (.aload_n 1, 1) := by decide +kernel
theorem dX2_isAlike_30 : decode cX2_isAlike 30 = .ok (.getfield 32, 3) := by decide +kernel
theorem dX2_isAlike_33 : decode cX2_isAlike 33 = .ok (.if_icmp .ne 18, 3) := by decide +kernel
theorem dX2_isAlike_36 : decode cX2_isAlike 36 = .ok (.aload_n 0, 1) := by decide +kernel
theorem dX2_isAlike_37 : decode cX2_isAlike 37 = .ok (.getfield 35, 3) := by decide +kernel
theorem dX2_isAlike_40 : decode cX2_isAlike 40 = .ok (.aload_n 1, 1) := by decide +kernel
theorem dX2_isAlike_41 : decode cX2_isAlike 41 = .ok (.getfield 35, 3) := by decide +kernel
theorem dX2_isAlike_44 : decode cX2_isAlike 44 = .ok (.if_icmp .ne 7, 3) := by decide +kernel
theorem dX2_isAlike_47 : decode cX2_isAlike 47 = .ok (.iconst 1, 1) := by decide +kernel
theorem dX2_isAlike_48 : decode cX2_isAlike 48 = .ok (.goto 4, 3) := by decide +kernel
theorem dX2_isAlike_51 : decode cX2_isAlike 51 = .ok (.iconst 0, 1) := by decide +kernel
theorem dX2_isAlike_52 : decode cX2_isAlike 52 = .ok (.ireturn, 1) := by decide +kernel
theorem dX3_init_0 : decode cX3_init 0 = .ok (.aload_n 0, 1) := by decide +kernel
theorem dX3_init_1 : decode cX3_init 1 = .ok (.invokespecial 3, 3) := by decide +kernel
theorem dX3_init_4 : decode cX3_init 4 = .ok (.aload_n 0, 1) := by decide +kernel
theorem dX3_init_5 : decode cX3_init 5 = .ok (.bipush 20, 2) := by decide +kernel
theorem dX3_init_7 : decode cX3_init 7 = .ok (.newarray .int, 2) := by decide +kernel
theorem dX3_init_9 : decode cX3_init 9 = .ok (.putfield 11, 3) := by decide +kernel
theorem dX3_init_12 : decode cX3_init 12 = .ok (.aload_n 0, 1) := by decide +kernel
theorem dX3_init_13 : decode cX3_init 13 = .ok (.bipush 20, 2) := by decide +kernel
theorem dX3_init_15 : decode cX3_init 15 = .ok (.newarray .int, 2) := by decide +kernel
theorem dX3_init_17 : decode cX3_init 17 = .ok (.putfield 15, 3) := by decide +kernel
theorem dX3_init_20 : decode cX3_init 20 = .ok (.aload_n 0, 1) := by decide +kernel
theorem dX3_init_21 : decode cX3_init 21 = .ok (.iconst 0, 1) := by decide +kernel
theorem dX3_init_22 : decode cX3_init 22 = .ok (.putfield 18, 3) := by decide +kernel
theorem dX3_init_25 : decode cX3_init 25 = .ok (.return_, 1) := by decide +kernel
theorem dX3_has_0 : decode cX3_has 0 = .ok (.iload_n 1, 1) := by decide +kernel
theorem dX3_has_1 : decode cX3_has 1 = .ok (.ifCond .lt 15, 3) := by decide +kernel
theorem dX3_has_4 : decode cX3_has 4 = .ok (.iload_n 1, 1) := by decide +kernel
theorem dX3_has_5 : decode cX3_has 5 = .ok (.aload_n 0, 1) := by decide +kernel
theorem dX3_has_6 : decode cX3_has 6 = .ok (.getfield 18, 3) := by decide +kernel
theorem dX3_has_9 : decode cX3_has 9 = .ok (.if_icmp .ge 7, 3) := by decide +kernel
theorem dX3_has_12 : decode cX3_has 12 = .ok (.iconst 1, 1) := by decide +kernel
theorem dX3_has_13 : decode cX3_has 13 = .ok (.goto 4, 3) := by decide +kernel
theorem dX3_has_16 : decode cX3_has 16 = .ok (.iconst 0, 1) := by decide +kernel
theorem dX3_has_17 : decode cX3_has 17 = .ok (.ireturn, 1) := by decide +kernel
theorem dX3_append_0 : decode cX3_append 0 = .ok (.aload_n 0, 1) := by decide +kernel
theorem dX3_append_1 : decode cX3_append 1 = .ok (.getfield 18, 3) := by decide +kernel
theorem dX3_append_4 : decode cX3_append 4 = .ok (.bipush 20, 2) := by decide +kernel
theorem dX3_append_6 : decode cX3_append 6 = .ok (.if_icmp .ge 33, 3) := by decide +kernel
theorem dX3_append_9 : decode cX3_append 9 = .ok (.aload_n 0, 1) := by decide +kernel
theorem dX3_append_10 : decode cX3_append 10 = .ok (.getfield 11, 3) := by decide +kernel
theorem dX3_append_13 : decode cX3_append 13 = .ok (.aload_n 0, 1) := by decide +kernel
theorem dX3_append_14 : decode cX3_append 14 = .ok (.getfield 18, 3) := by decide +kernel
theorem dX3_append_17 : decode cX3_append 17 = .ok (.iload_n 1, 1) := by decide +kernel
theorem dX3_append_18 : decode cX3_append 18 = .ok (.iastore, 1) := by decide +kernel
theorem dX3_append_19 : decode cX3_append 19 = .ok (.aload_n 0, 1) := by decide +kernel
theorem dX3_append_20 : decode cX3_append 20 = .ok (.getfield 15, 3) := by decide +kernel
theorem dX3_append_23 : decode cX3_append 23 = .ok (.aload_n 0, 1) := by decide +kernel
theorem dX3_append_24 : decode cX3_append 24 = .ok (.getfield 18, 3) := by decide +kernel
theorem dX3_append_27 : decode cX3_append 27 = .ok (.iload_n 2, 1) := by decide +kernel
theorem dX3_append_28 : decode cX3_append 28 = .ok (.iastore, 1) := by decide +kernel
theorem dX3_append_29 : decode cX3_append 29 = .ok (.aload_n 0, 1) := by decide +kernel
theorem dX3_append_30 : decode cX3_append 30 = .ok (.dup, 1) := by decide +kernel
theorem dX3_append_31 : decode cX3_append 31 = .ok (.getfield 18, 3) := by decide +kernel
theorem dX3_append_34 : decode cX3_append 34 = .ok (.iconst 1, 1) := by decide +kernel
theorem dX3_append_35 : decode cX3_append 35 = .ok (.iadd, 1) := by decide +kernel
theorem dX3_append_36 : decode cX3_append 36 = .ok (.putfield 18, 3) := by decide +kernel
theorem dX3_append_39 : decode cX3_append 39 = .ok (.return_, 1) := by decide +kernel
theorem dX3_appendMarker_0 : decode cX3_appendMarker 0 = .ok (.aload_n 0, 1) := by decide +kernel
theorem dX3_appendMarker_1 : decode cX3_appendMarker 1 = .ok (.iload_n 1, 1) := by decide +kernel
theorem dX3_appendMarker_2 : decode cX3_appendMarker 2 = .ok (.iconst 0, 1) := by decide +kernel
theorem dX3_appendMarker_3 : decode cX3_appendMarker 3 = .ok (.invokevirtual 22, 3) := by decide +kernel
theorem dX3_appendMarker_6 : decode cX3_appendMarker 6 = .ok (.return_, 1) := by decide +kernel
theorem dX3_removeFirst_0 : decode cX3_removeFirst 0 = .ok (.iconst 1, 1) := by decide +kernel
theorem dX3_removeFirst_1 : decode cX3_removeFirst 1 = .ok (.istore_n 1, 1) := by decide +kernel
theorem dX3_removeFirst_2 : decode cX3_removeFirst 2 = .ok (.iload_n 1, 1) := by decide +kernel
theorem dX3_removeFirst_3 : decode cX3_removeFirst 3 = .ok (.aload_n 0, 1) := by decide +kernel
theorem dX3_removeFirst_4 : decode cX3_removeFirst 4 = .ok (.getfield 18, 3) := by decide +kernel
theorem dX3_removeFirst_7 : decode cX3_removeFirst 7 = .ok (.if_icmp .ge 37, 3) := by decide +kernel
theorem dX3_removeFirst_10 : decode cX3_removeFirst 10 = .ok (.aload_n 0, 1) := by decide +kernel
theorem dX3_removeFirst_11 : decode cX3_removeFirst 11 = .ok (.getfield 11, 3) := by decide +kernel
theorem dX3_removeFirst_14 : decode cX3_removeFirst 14 = .ok (.iload_n 1, 1) := by decide +kernel
theorem dX3_removeFirst_15 : decode cX3_removeFirst 15 = .ok (.iconst 1, 1) := by decide +kernel
theorem dX3_removeFirst_16 : decode cX3_removeFirst 16 = .ok (.isub, 1) := by decide +kernel
theorem dX3_removeFirst_17 : decode cX3_removeFirst 17 = .ok (.aload_n 0, 1) := by decide +kernel
theorem dX3_removeFirst_18 : decode cX3_removeFirst 18 = .ok (.getfield 11, 3) := by decide +kernel
theorem dX3_removeFirst_21 : decode cX3_removeFirst 21 = .ok (.iload_n 1, 1) := by decide +kernel
theorem dX3_removeFirst_22 : decode cX3_removeFirst 22 = .ok (.iaload, 1) := by decide +kernel
theorem dX3_removeFirst_23 : decode cX3_removeFirst 23 = .ok (.iastore, 1) := by decide +kernel
theorem dX3_removeFirst_24 : decode cX3_removeFirst 24 = .ok (.aload_n 0, 1) := by decide +kernel
theorem dX3_removeFirst_25 : decode cX3_removeFirst 25 = .ok (.getfield 15, 3) := by decide +kernel
theorem dX3_removeFirst_28 : decode cX3_removeFirst 28 = .ok (.iload_n 1, 1) := by decide +kernel
theorem dX3_removeFirst_29 : decode cX3_removeFirst 29 = .ok (.iconst 1, 1) := by decide +kernel
theorem dX3_removeFirst_30 : decode cX3_removeFirst 30 = .ok (.isub, 1) := by decide +kernel
theorem dX3_removeFirst_31 : decode cX3_removeFirst 31 = .ok (.aload_n 0, 1) := by decide +kernel
theorem dX3_removeFirst_32 : decode cX3_removeFirst 32 = .ok (.getfield 15, 3) := by decide +kernel
theorem dX3_removeFirst_35 : decode cX3_removeFirst 35 = .ok (.iload_n 1, 1) := by decide +kernel
theorem dX3_removeFirst_36 : decode cX3_removeFirst 36 = .ok (.iaload, 1) := by decide +kernel
theorem dX3_removeFirst_37 : decode cX3_removeFirst 37 = .ok (.iastore, 1) := by decide +kernel
theorem dX3_removeFirst_38 : decode cX3_removeFirst 38 = .ok (.iinc 1 1, 3) := by decide +kernel
theorem dX3_removeFirst_41 : decode cX3_removeFirst 41 = .ok (.goto (-39), 3) := by decide +kernel
theorem dX3_removeFirst_44 : decode cX3_removeFirst 44 = .ok (.aload_n 0, 1) := by decide +kernel
theorem dX3_removeFirst_45 : decode cX3_removeFirst 45 = .ok (.getfield 18, 3) := by decide +kernel
theorem dX3_removeFirst_48 : decode cX3_removeFirst 48 = .ok (.ifCond .le 13, 3) := by decide +kernel
theorem dX3_removeFirst_51 : decode cX3_removeFirst 51 = .ok (.aload_n 0, 1) := by decide +kernel
theorem dX3_removeFirst_52 : decode cX3_removeFirst 52 = .ok (.dup, 1) := by decide +kernel
theorem dX3_removeFirst_53 : decode cX3_removeFirst 53 = .ok (.getfield 18, 3) := by decide +kernel
theorem dX3_removeFirst_56 : decode cX3_removeFirst 56 = .ok (.iconst 1, 1) := by decide +kernel
theorem dX3_removeFirst_57 : decode cX3_removeFirst 57 = .ok (.isub, 1) := by decide +kernel
theorem dX3_removeFirst_58 : decode cX3_removeFirst 58 = .ok (.putfield 18, 3) := by decide +kernel
theorem dX3_removeFirst_61 : decode cX3_removeFirst 61 = .ok (.return_, 1) := by decide +kernel
theorem dX3_flowAt_0 : decode cX3_flowAt 0 = .ok (.aload_n 0, 1) := by decide +kernel
theorem dX3_flowAt_1 : decode cX3_flowAt 1 = .ok (.iload_n 1, 1) := by decide +kernel
theorem dX3_flowAt_2 : decode cX3_flowAt 2 = .ok (.invokevirtual 26, 3) := by decide +kernel
theorem dX3_flowAt_5 : decode cX3_flowAt 5 = .ok (.ifCond .eq 12, 3) := by decide +kernel
theorem dX3_flowAt_8 : decode cX3_flowAt 8 = .ok (.aload_n 0, 1) := by decide +kernel
theorem dX3_flowAt_9 : decode cX3_flowAt 9 = .ok (.getfield 11, 3) := by decide +kernel
theorem dX3_flowAt_12 : decode cX3_flowAt 12 = .ok (.iload_n 1, 1) := by decide +kernel
theorem dX3_flowAt_13 : decode cX3_flowAt 13 = .ok (.iaload, 1) := by decide +kernel
theorem dX3_flowAt_14 : decode cX3_flowAt 14 = .ok (.goto 4, 3) := by decide +kernel
theorem dX3_flowAt_17 : decode cX3_flowAt 17 = .ok (.iconst 0, 1) := by decide +kernel
theorem dX3_flowAt_18 : decode cX3_flowAt 18 = .ok (.ireturn, 1) := by decide +kernel
theorem dX3_numberAt_0 : decode cX3_numberAt 0 = .ok (.aload_n 0, 1) := by decide +kernel
theorem dX3_numberAt_1 : decode cX3_numberAt 1 = .ok (.iload_n 1, 1) := by decide +kernel
theorem dX3_numberAt_2 : decode cX3_numberAt 2 = .ok (.invokevirtual 26, 3) := by decide +kernel
theorem dX3_numberAt_5 : decode cX3_numberAt 5 = .ok (.ifCond .eq 12, 3) := by decide +kernel
theorem dX3_numberAt_8 : decode cX3_numberAt 8 = .ok (.aload_n 0, 1) := by decide +kernel
theorem dX3_numberAt_9 : decode cX3_numberAt 9 = .ok (.getfield 15, 3) := by decide +kernel
theorem dX3_numberAt_12 : decode cX3_numberAt 12 = .ok (.iload_n 1, 1) := by decide +kernel
theorem dX3_numberAt_13 : decode cX3_numberAt 13 = .ok (.iaload, 1) := by decide +kernel
theorem dX3_numberAt_14 : decode cX3_numberAt 14 = .ok (.goto 4, 3) := by decide +kernel
theorem dX3_numberAt_17 : decode cX3_numberAt 17 = .ok (.iconst 0, 1) := by decide +kernel
theorem dX3_numberAt_18 : decode cX3_numberAt 18 = .ok (.ireturn, 1) := by decide +kernel
theorem dX3_isMarker_0 : decode cX3_isMarker 0 = .ok (.aload_n 0, 1) := by decide +kernel
theorem dX3_isMarker_1 : decode cX3_isMarker 1 = .ok (.iload_n 1, 1) := by decide +kernel
theorem dX3_isMarker_2 : decode cX3_isMarker 2 = .ok (.invokevirtual 26, 3) := by decide +kernel
theorem dX3_isMarker_5 : decode cX3_isMarker 5 = .ok (.ifCond .eq 16, 3) := by decide +kernel
theorem dX3_isMarker_8 : decode cX3_isMarker 8 = .ok (.aload_n 0, 1) := by decide +kernel
theorem dX3_isMarker_9 : decode cX3_isMarker 9 = .ok (.getfield 15, 3) := by decide +kernel
theorem dX3_isMarker_12 : decode cX3_isMarker 12 = .ok (.iload_n 1, 1) := by decide +kernel
theorem dX3_isMarker_13 : decode cX3_isMarker 13 = .ok (.iaload, 1) := by decide +kernel
theorem dX3_isMarker_14 : decode cX3_isMarker 14 = .ok (.ifCond .ne 7, 3) := by decide +kernel
theorem dX3_isMarker_17 : decode cX3_isMarker 17 = .ok (.iconst 1, 1) := by decide +kernel
theorem dX3_isMarker_18 : decode cX3_isMarker 18 = .ok (.goto 4, 3) := by decide +kernel
theorem dX3_isMarker_21 : decode cX3_isMarker 21 = .ok (.iconst 0, 1) := by decide +kernel
theorem dX3_isMarker_22 : decode cX3_isMarker 22 = .ok (.ireturn, 1) := by decide +kernel
theorem dX3_hasLetterOf_0 : decode cX3_hasLetterOf 0 = .ok (.iconst 0, 1) := by decide +kernel
theorem dX3_hasLetterOf_1 : decode cX3_hasLetterOf 1 = .ok (.istore_n 2, 1) := by decide +kernel
theorem dX3_hasLetterOf_2 : decode cX3_hasLetterOf 2 = .ok (.iload_n 2, 1) := by decide +kernel
theorem dX3_hasLetterOf_3 : decode cX3_hasLetterOf 3 = .ok (.aload_n 0, 1) := by decide +kernel
theorem dX3_hasLetterOf_4 : decode cX3_hasLetterOf 4 = .ok (.getfield 18, 3) := by decide +kernel
theorem dX3_hasLetterOf_7 : decode cX3_hasLetterOf 7 = .ok (.if_icmp .ge 30, 3) := by decide +kernel
theorem dX3_hasLetterOf_10 : decode cX3_hasLetterOf 10 = .ok (.aload_n 0, 1) := by decide +kernel
theorem dX3_hasLetterOf_11 : decode cX3_hasLetterOf 11 = .ok (.getfield 11, 3) := by decide +kernel
theorem dX3_hasLetterOf_14 : decode cX3_hasLetterOf 14 = .ok (.iload_n 2, 1) := by decide +kernel
theorem dX3_hasLetterOf_15 : decode cX3_hasLetterOf 15 = .ok (.iaload, 1) := by decide +kernel
theorem dX3_hasLetterOf_16 : decode cX3_hasLetterOf 16 = .ok (.iload_n 1, 1) := by decide +kernel
theorem dX3_hasLetterOf_17 : decode cX3_hasLetterOf 17 = .ok (.if_icmp .ne 14, 3) := by decide +kernel
theorem dX3_hasLetterOf_20 : decode cX3_hasLetterOf 20 = .ok (.aload_n 0, 1) := by decide +kernel
theorem dX3_hasLetterOf_21 : decode cX3_hasLetterOf 21 = .ok (.getfield 15, 3) := by decide +kernel
theorem dX3_hasLetterOf_24 : decode cX3_hasLetterOf 24 = .ok (.iload_n 2, 1) := by decide +kernel
theorem dX3_hasLetterOf_25 : decode cX3_hasLetterOf 25 = .ok (.iaload, 1) := by decide +kernel
theorem dX3_hasLetterOf_26 : decode cX3_hasLetterOf 26 = .ok (.ifCond .eq 5, 3) := by decide +kernel
theorem dX3_hasLetterOf_29 : decode cX3_hasLetterOf 29 = .ok (.iconst 1, 1) := by decide +kernel
theorem dX3_hasLetterOf_30 : decode cX3_hasLetterOf 30 = .ok (.ireturn, 1) := by decide +kernel
theorem dX3_hasLetterOf_31 : decode cX3_hasLetterOf 31 = .ok (.iinc 2 1, 3) := by decide +kernel
theorem dX3_hasLetterOf_34 : decode cX3_hasLetterOf 34 = .ok (.goto (-32), 3) := by decide +kernel
theorem dX3_hasLetterOf_37 : decode cX3_hasLetterOf 37 = .ok (.iconst 0, 1) := by decide +kernel
theorem dX3_hasLetterOf_38 : decode cX3_hasLetterOf 38 = .ok (.ireturn, 1) := by decide +kernel
theorem dX4_init_0 : decode cX4_init 0 = .ok (.aload_n 0, 1) := by decide +kernel
theorem dX4_init_1 : decode cX4_init 1 = .ok (.invokespecial 1, 3) := by decide +kernel
theorem dX4_init_4 : decode cX4_init 4 = .ok (.aload_n 0, 1) := by decide +kernel
theorem dX4_init_5 : decode cX4_init 5 = .ok (.new 7, 3) := by decide +kernel
theorem dX4_init_8 : decode cX4_init 8 = .ok (.dup, 1) := by decide +kernel
theorem dX4_init_9 : decode cX4_init 9 = .ok (.invokespecial 9, 3) := by decide +kernel
theorem dX4_init_12 : decode cX4_init 12 = .ok (.putfield 10, 3) := by decide +kernel
theorem dX4_init_15 : decode cX4_init 15 = .ok (.aload_n 0, 1) := by decide +kernel
theorem dX4_init_16 : decode cX4_init 16 = .ok (.bipush 6, 2) := by decide +kernel
theorem dX4_init_18 : decode cX4_init 18 = .ok (.anewarray 16, 3) := by decide +kernel
theorem dX4_init_21 : decode cX4_init 21 = .ok (.putfield 18, 3) := by decide +kernel
theorem dX4_init_24 : decode cX4_init 24 = .ok (.aload_n 0, 1) := by decide +kernel
theorem dX4_init_25 : decode cX4_init 25 = .ok (.bipush 12, 2) := by decide +kernel
theorem dX4_init_27 : decode cX4_init 27 = .ok (.anewarray 22, 3) := by decide +kernel
theorem dX4_init_30 : decode cX4_init 30 = .ok (.putfield 24, 3) := by decide +kernel
theorem dX4_init_33 : decode cX4_init 33 = .ok (.aload_n 0, 1) := by decide +kernel
theorem dX4_init_34 : decode cX4_init 34 = .ok (.iconst 0, 1) := by decide +kernel
theorem dX4_init_35 : decode cX4_init 35 = .ok (.putfield 28, 3) := by decide +kernel
theorem dX4_init_38 : decode cX4_init 38 = .ok (.aload_n 0, 1) := by decide +kernel
theorem dX4_init_39 : decode cX4_init 39 = .ok (.iconst 2, 1) := by decide +kernel
theorem dX4_init_40 : decode cX4_init 40 = .ok (.putfield 32, 3) := by decide +kernel
theorem dX4_init_43 : decode cX4_init 43 = .ok (.aload_n 0, 1) := by decide +kernel
theorem dX4_init_44 : decode cX4_init 44 = .ok (.iconst 2, 1) := by decide +kernel
theorem dX4_init_45 : decode cX4_init 45 = .ok (.putfield 35, 3) := by decide +kernel
theorem dX4_init_48 : decode cX4_init 48 = .ok (.aload_n 0, 1) := by decide +kernel
theorem dX4_init_49 : decode cX4_init 49 = .ok (.iconst 0, 1) := by decide +kernel
theorem dX4_init_50 : decode cX4_init 50 = .ok (.putfield 38, 3) := by decide +kernel
theorem dX4_init_53 : decode cX4_init 53 = .ok (.aload_n 0, 1) := by decide +kernel
theorem dX4_init_54 : decode cX4_init 54 = .ok (.iconst 0, 1) := by decide +kernel
theorem dX4_init_55 : decode cX4_init 55 = .ok (.putfield 41, 3) := by decide +kernel
theorem dX4_init_58 : decode cX4_init 58 = .ok (.aload_n 0, 1) := by decide +kernel
theorem dX4_init_59 : decode cX4_init 59 = .ok (.iconst 0, 1) := by decide +kernel
theorem dX4_init_60 : decode cX4_init 60 = .ok (.putfield 44, 3) := by decide +kernel
theorem dX4_init_63 : decode cX4_init 63 = .ok (.aload_n 0, 1) := by decide +kernel
theorem dX4_init_64 : decode cX4_init 64 = .ok (.iconst 0, 1) := by decide +kernel
theorem dX4_init_65 : decode cX4_init 65 = .ok (.putfield 47, 3) := by decide +kernel
theorem dX4_init_68 : decode cX4_init 68 = .ok (.iconst 0, 1) := by decide +kernel
theorem dX4_init_69 : decode cX4_init 69 = .ok (.istore_n 1, 1) := by decide +kernel
theorem dX4_init_70 : decode cX4_init 70 = .ok (.iload_n 1, 1) := by decide +kernel
theorem dX4_init_71 : decode cX4_init 71 = .ok (.bipush 6, 2) := by decide +kernel
theorem dX4_init_73 : decode cX4_init 73 = .ok (.if_icmp .ge 22, 3) := by decide +kernel
theorem dX4_init_76 : decode cX4_init 76 = .ok (.aload_n 0, 1) := by decide +kernel
theorem dX4_init_77 : decode cX4_init 77 = .ok (.getfield 18, 3) := by decide +kernel
theorem dX4_init_80 : decode cX4_init 80 = .ok (.iload_n 1, 1) := by decide +kernel
theorem dX4_init_81 : decode cX4_init 81 = .ok (.new 16, 3) := by decide +kernel
theorem dX4_init_84 : decode cX4_init 84 = .ok (.dup, 1) := by decide +kernel
theorem dX4_init_85 : decode cX4_init 85 = .ok (.invokespecial 50, 3) := by decide +kernel
theorem dX4_init_88 : decode cX4_init 88 = .ok (.aastore, 1) := by decide +kernel
theorem dX4_init_89 : decode cX4_init 89 = .ok (.iinc 1 1, 3) := by decide +kernel
theorem dX4_init_92 : decode cX4_init 92 = .ok (.goto (-22), 3) := by decide +kernel
theorem dX4_init_95 : decode cX4_init 95 = .ok (.iconst 0, 1) := by decide +kernel
theorem dX4_init_96 : decode cX4_init 96 = .ok (.istore_n 1, 1) := by decide +kernel
theorem dX4_init_97 : decode cX4_init 97 = .ok (.iload_n 1, 1) := by decide +kernel
theorem dX4_init_98 : decode cX4_init 98 = .ok (.bipush 12, 2) := by decide +kernel
theorem dX4_init_100 : decode cX4_init 100 = .ok (.if_icmp .ge 22, 3) := by decide +kernel
theorem dX4_init_103 : decode cX4_init 103 = .ok (.aload_n 0, 1) := by decide +kernel
theorem dX4_init_104 : decode cX4_init 104 = .ok (.getfield 24, 3) := by decide +kernel
theorem dX4_init_107 : decode cX4_init 107 = .ok (.iload_n 1, 1) := by decide +kernel
theorem dX4_init_108 : decode cX4_init 108 = .ok (.new 22, 3) := by decide +kernel
theorem dX4_init_111 : decode cX4_init 111 = .ok (.dup, 1) := by decide +kernel
theorem dX4_init_112 : decode cX4_init 112 = .ok (.invokespecial 51, 3) := by decide +kernel
theorem dX4_init_115 : decode cX4_init 115 = .ok (.aastore, 1) := by decide +kernel
theorem dX4_init_116 : decode cX4_init 116 = .ok (.iinc 1 1, 3) := by decide +kernel
theorem dX4_init_119 : decode cX4_init 119 = .ok (.goto (-22), 3) := by decide +kernel
theorem dX4_init_122 : decode cX4_init 122 = .ok (.return_, 1) := by decide +kernel
theorem dX4_letter_0 : decode cX4_letter 0 = .ok (.iload_n 1, 1) := by decide +kernel
theorem dX4_letter_1 : decode cX4_letter 1 = .ok (.bipush 32, 2) := by decide +kernel
theorem dX4_letter_3 : decode cX4_letter 3 = .ok (.if_icmp .lt 9, 3) := by decide +kernel
theorem dX4_letter_6 : decode cX4_letter 6 = .ok (.iload_n 1, 1) := by decide +kernel
theorem dX4_letter_7 : decode cX4_letter 7 = .ok (.bipush 126, 2) := by decide +kernel
theorem dX4_letter_9 : decode cX4_letter 9 = .ok (.if_icmp .le 7, 3) := by decide +kernel
theorem dX4_letter_12 : decode cX4_letter 12 = .ok (.sipush (-1002), 3) := by decide +kernel
theorem dX4_letter_15 : decode cX4_letter 15 = .ok (.ireturn, 1) := by decide +kernel
theorem dX4_letter_16 : decode cX4_letter 16 = .ok (.aload_n 0, 1) := by decide +kernel
theorem dX4_letter_17 : decode cX4_letter 17 = .ok (.getfield 10, 3) := by decide +kernel
theorem dX4_letter_20 : decode cX4_letter 20 = .ok (.iload_n 1, 1) := by decide +kernel
theorem dX4_letter_21 : decode cX4_letter 21 = .ok (.invokevirtual 52, 3) := by decide +kernel
theorem dX4_letter_24 : decode cX4_letter 24 = .ok (.ifCond .eq 13, 3) := by decide +kernel
theorem dX4_letter_27 : decode cX4_letter 27 = .ok (.aload_n 0, 1) := by decide +kernel
theorem dX4_letter_28 : decode cX4_letter 28 = .ok (.getfield 10, 3) := by decide +kernel
theorem dX4_letter_31 : decode cX4_letter 31 = .ok (.getfield 56, 3) := by decide +kernel
theorem dX4_letter_34 : decode cX4_letter 34 = .ok (.goto 6, 3) := by decide +kernel
theorem dX4_letter_37 : decode cX4_letter 37 = .ok (.sipush (-1004), 3) := by decide +kernel
theorem dX4_letter_40 : decode cX4_letter 40 = .ok (.ireturn, 1) := by decide +kernel
theorem dX4_blank_0 : decode cX4_blank 0 = .ok (.aload_n 0, 1) := by decide +kernel
theorem dX4_blank_1 : decode cX4_blank 1 = .ok (.getfield 10, 3) := by decide +kernel
theorem dX4_blank_4 : decode cX4_blank 4 = .ok (.getfield 56, 3) := by decide +kernel
theorem dX4_blank_7 : decode cX4_blank 7 = .ok (.istore_n 1, 1) := by decide +kernel
theorem dX4_blank_8 : decode cX4_blank 8 = .ok (.aload_n 0, 1) := by decide +kernel
theorem dX4_blank_9 : decode cX4_blank 9 = .ok (.getfield 10, 3) := by decide +kernel
theorem dX4_blank_12 : decode cX4_blank 12 = .ok (.iconst 0, 1) := by decide +kernel
theorem dX4_blank_13 : decode cX4_blank 13 = .ok (.putfield 56, 3) := by decide +kernel
theorem dX4_blank_16 : decode cX4_blank 16 = .ok (.iload_n 1, 1) := by decide +kernel
theorem dX4_blank_17 : decode cX4_blank 17 = .ok (.ireturn, 1) := by decide +kernel
theorem dX4_fault_0 : decode cX4_fault 0 = .ok (.aload_n 0, 1) := by decide +kernel
theorem dX4_fault_1 : decode cX4_fault 1 = .ok (.getfield 10, 3) := by decide +kernel
theorem dX4_fault_4 : decode cX4_fault 4 = .ok (.invokevirtual 59, 3) := by decide +kernel
theorem dX4_fault_7 : decode cX4_fault 7 = .ok (.ireturn, 1) := by decide +kernel
theorem dX4_board_0 : decode cX4_board 0 = .ok (.aload_n 0, 1) := by decide +kernel
theorem dX4_board_1 : decode cX4_board 1 = .ok (.getfield 10, 3) := by decide +kernel
theorem dX4_board_4 : decode cX4_board 4 = .ok (.invokevirtual 63, 3) := by decide +kernel
theorem dX4_board_7 : decode cX4_board 7 = .ok (.ifCond .ne 7, 3) := by decide +kernel
theorem dX4_board_10 : decode cX4_board 10 = .ok (.sipush (-1003), 3) := by decide +kernel
theorem dX4_board_13 : decode cX4_board 13 = .ok (.ireturn, 1) := by decide +kernel
theorem dX4_board_14 : decode cX4_board 14 = .ok (.aload_n 0, 1) := by decide +kernel
theorem dX4_board_15 : decode cX4_board 15 = .ok (.aload_n 0, 1) := by decide +kernel
theorem dX4_board_16 : decode cX4_board 16 = .ok (.getfield 10, 3) := by decide +kernel
theorem dX4_board_19 : decode cX4_board 19 = .ok (.invokevirtual 67, 3) := by decide +kernel
theorem dX4_board_22 : decode cX4_board 22 = .ok (.putfield 28, 3) := by decide +kernel
theorem dX4_board_25 : decode cX4_board 25 = .ok (.iconst 0, 1) := by decide +kernel
theorem dX4_board_26 : decode cX4_board 26 = .ok (.istore_n 1, 1) := by decide +kernel
theorem dX4_board_27 : decode cX4_board 27 = .ok (.iload_n 1, 1) := by decide +kernel
theorem dX4_board_28 : decode cX4_board 28 = .ok (.aload_n 0, 1) := by decide +kernel
theorem dX4_board_29 : decode cX4_board 29 = .ok (.getfield 28, 3) := by decide +kernel
theorem dX4_board_32 : decode cX4_board 32 = .ok (.if_icmp .ge 34, 3) := by decide +kernel
theorem dX4_board_35 : decode cX4_board 35 = .ok (.aload_n 0, 1) := by decide +kernel
theorem dX4_board_36 : decode cX4_board 36 = .ok (.getfield 18, 3) := by decide +kernel
theorem dX4_board_39 : decode cX4_board 39 = .ok (.iload_n 1, 1) := by decide +kernel
theorem dX4_board_40 : decode cX4_board 40 = .ok (.aaload, 1) := by decide +kernel
theorem dX4_board_41 : decode cX4_board 41 = .ok (.aload_n 0, 1) := by decide +kernel
theorem dX4_board_42 : decode cX4_board 42 = .ok (.getfield 10, 3) := by decide +kernel
theorem dX4_board_45 : decode cX4_board 45 = .ok (.iload_n 1, 1) := by decide +kernel
theorem dX4_board_46 : decode cX4_board 46 = .ok (.invokevirtual 70, 3) := by decide +kernel
theorem dX4_board_49 : decode cX4_board 49 = .ok (.aload_n 0, 1) := by decide +kernel
theorem dX4_board_50 : decode cX4_board 50 = .ok (.getfield 10, 3) := by decide +kernel
theorem dX4_board_53 : decode cX4_board 53 = .ok (.iload_n 1, 1) := by decide +kernel
theorem dX4_board_54 : decode cX4_board 54 = .ok (.invokevirtual 74, 3) := by decide +kernel
theorem dX4_board_57 : decode cX4_board 57 = .ok (.invokevirtual 77, 3) := by decide +kernel
theorem dX4_board_60 : decode cX4_board 60 = .ok (.iinc 1 1, 3) := by decide +kernel
theorem dX4_board_63 : decode cX4_board 63 = .ok (.goto (-36), 3) := by decide +kernel
theorem dX4_board_66 : decode cX4_board 66 = .ok (.iconst 0, 1) := by decide +kernel
theorem dX4_board_67 : decode cX4_board 67 = .ok (.istore_n 1, 1) := by decide +kernel
theorem dX4_board_68 : decode cX4_board 68 = .ok (.iload_n 1, 1) := by decide +kernel
theorem dX4_board_69 : decode cX4_board 69 = .ok (.bipush 12, 2) := by decide +kernel
theorem dX4_board_71 : decode cX4_board 71 = .ok (.if_icmp .ge 18, 3) := by decide +kernel
theorem dX4_board_74 : decode cX4_board 74 = .ok (.aload_n 0, 1) := by decide +kernel
theorem dX4_board_75 : decode cX4_board 75 = .ok (.getfield 24, 3) := by decide +kernel
theorem dX4_board_78 : decode cX4_board 78 = .ok (.iload_n 1, 1) := by decide +kernel
theorem dX4_board_79 : decode cX4_board 79 = .ok (.aaload, 1) := by decide +kernel
theorem dX4_board_80 : decode cX4_board 80 = .ok (.invokevirtual 81, 3) := by decide +kernel
theorem dX4_board_83 : decode cX4_board 83 = .ok (.iinc 1 1, 3) := by decide +kernel
theorem dX4_board_86 : decode cX4_board 86 = .ok (.goto (-18), 3) := by decide +kernel
theorem dX4_board_89 : decode cX4_board 89 = .ok (.aload_n 0, 1) := by decide +kernel
theorem dX4_board_90 : decode cX4_board 90 = .ok (.getfield 10, 3) := by decide +kernel
theorem dX4_board_93 : decode cX4_board 93 = .ok (.iconst 0, 1) := by decide +kernel
theorem dX4_board_94 : decode cX4_board 94 = .ok (.putfield 56, 3) := by decide +kernel
theorem dX4_board_97 : decode cX4_board 97 = .ok (.aload_n 0, 1) := by decide +kernel
theorem dX4_board_98 : decode cX4_board 98 = .ok (.iconst 0, 1) := by decide +kernel
theorem dX4_board_99 : decode cX4_board 99 = .ok (.putfield 41, 3) := by decide +kernel
theorem dX4_board_102 : decode cX4_board 102 = .ok (.aload_n 0, 1) := by decide +kernel
theorem dX4_board_103 : decode cX4_board 103 = .ok (.iconst 0, 1) := by decide +kernel
theorem dX4_board_104 : decode cX4_board 104 = .ok (.putfield 44, 3) := by decide +kernel
theorem dX4_board_107 : decode cX4_board 107 = .ok (.aload_n 0, 1) := by decide +kernel
theorem dX4_board_108 : decode cX4_board 108 = .ok (.dup, 1) := by decide +kernel
theorem dX4_board_109 : decode cX4_board 109 = .ok (.getfield 47, 3) := by decide +kernel
theorem dX4_board_112 : decode cX4_board 112 = .ok (.iconst 1, 1) := by decide +kernel
theorem dX4_board_113 : decode cX4_board 113 = .ok (.iadd, 1) := by decide +kernel
theorem dX4_board_114 : decode cX4_board 114 = .ok (.putfield 47, 3) := by decide +kernel
theorem dX4_board_117 : decode cX4_board 117 = .ok (.aload_n 0, 1) := by decide +kernel
theorem dX4_board_118 : decode cX4_board 118 = .ok (.getfield 28, 3) := by decide +kernel
theorem dX4_board_121 : decode cX4_board 121 = .ok (.ireturn, 1) := by decide +kernel
theorem dX4_set_0 : decode cX4_set 0 = .ok (.iload_n 1, 1) := by decide +kernel
theorem dX4_set_1 : decode cX4_set 1 = .ok (.tableswitch 45 0 2 #[27, 33, 39], 27) := by decide +kernel
theorem dX4_set_28 : decode cX4_set 28 = .ok (.aload_n 0, 1) := by decide +kernel
theorem dX4_set_29 : decode cX4_set 29 = .ok (.iload_n 2, 1) := by decide +kernel
theorem dX4_set_30 : decode cX4_set 30 = .ok (.invokevirtual 83, 3) := by decide +kernel
theorem dX4_set_33 : decode cX4_set 33 = .ok (.ireturn, 1) := by decide +kernel
theorem dX4_set_34 : decode cX4_set 34 = .ok (.aload_n 0, 1) := by decide +kernel
theorem dX4_set_35 : decode cX4_set 35 = .ok (.iload_n 2, 1) := by decide +kernel
theorem dX4_set_36 : decode cX4_set 36 = .ok (.invokevirtual 86, 3) := by decide +kernel
theorem dX4_set_39 : decode cX4_set 39 = .ok (.ireturn, 1) := by decide +kernel
theorem dX4_set_40 : decode cX4_set 40 = .ok (.aload_n 0, 1) := by decide +kernel
theorem dX4_set_41 : decode cX4_set 41 = .ok (.iload_n 2, 1) := by decide +kernel
theorem dX4_set_42 : decode cX4_set 42 = .ok (.invokevirtual 89, 3) := by decide +kernel
theorem dX4_set_45 : decode cX4_set 45 = .ok (.ireturn, 1) := by decide +kernel
theorem dX4_set_46 : decode cX4_set 46 = .ok (.sipush (-1002), 3) := by decide +kernel
theorem dX4_set_49 : decode cX4_set 49 = .ok (.ireturn, 1) := by decide +kernel
theorem dX4_rank_0 : decode cX4_rank 0 = .ok (.aload_n 0, 1) := by decide +kernel
theorem dX4_rank_1 : decode cX4_rank 1 = .ok (.iload_n 1, 1) := by decide +kernel
theorem dX4_rank_2 : decode cX4_rank 2 = .ok (.invokevirtual 92, 3) := by decide +kernel
theorem dX4_rank_5 : decode cX4_rank 5 = .ok (.ifCond .ne 7, 3) := by decide +kernel
theorem dX4_rank_8 : decode cX4_rank 8 = .ok (.sipush (-1001), 3) := by decide +kernel
theorem dX4_rank_11 : decode cX4_rank 11 = .ok (.ireturn, 1) := by decide +kernel
theorem dX4_rank_12 : decode cX4_rank 12 = .ok (.iload_n 2, 1) := by decide +kernel
theorem dX4_rank_13 : decode cX4_rank 13 = .ok (.ifCond .lt 9, 3) := by decide +kernel
theorem dX4_rank_16 : decode cX4_rank 16 = .ok (.iload_n 2, 1) := by decide +kernel
theorem dX4_rank_17 : decode cX4_rank 17 = .ok (.bipush 9, 2) := by decide +kernel
theorem dX4_rank_19 : decode cX4_rank 19 = .ok (.if_icmp .le 7, 3) := by decide +kernel
theorem dX4_rank_22 : decode cX4_rank 22 = .ok (.sipush (-1002), 3) := by decide +kernel
theorem dX4_rank_25 : decode cX4_rank 25 = .ok (.ireturn, 1) := by decide +kernel
theorem dX4_rank_26 : decode cX4_rank 26 = .ok (.aload_n 0, 1) := by decide +kernel
theorem dX4_rank_27 : decode cX4_rank 27 = .ok (.getfield 18, 3) := by decide +kernel
theorem dX4_rank_30 : decode cX4_rank 30 = .ok (.iload_n 1, 1) := by decide +kernel
theorem dX4_rank_31 : decode cX4_rank 31 = .ok (.aaload, 1) := by decide +kernel
theorem dX4_rank_32 : decode cX4_rank 32 = .ok (.getfield 95, 3) := by decide +kernel
theorem dX4_rank_35 : decode cX4_rank 35 = .ok (.istore_n 3, 1) := by decide +kernel
theorem dX4_rank_36 : decode cX4_rank 36 = .ok (.aload_n 0, 1) := by decide +kernel
theorem dX4_rank_37 : decode cX4_rank 37 = .ok (.getfield 18, 3) := by decide +kernel
theorem dX4_rank_40 : decode cX4_rank 40 = .ok (.iload_n 1, 1) := by decide +kernel
theorem dX4_rank_41 : decode cX4_rank 41 = .ok (.aaload, 1) := by decide +kernel
theorem dX4_rank_42 : decode cX4_rank 42 = .ok (.iload_n 2, 1) := by decide +kernel
theorem dX4_rank_43 : decode cX4_rank 43 = .ok (.putfield 95, 3) := by decide +kernel
theorem dX4_rank_46 : decode cX4_rank 46 = .ok (.aload_n 0, 1) := by decide +kernel
theorem dX4_rank_47 : decode cX4_rank 47 = .ok (.invokevirtual 98, 3) := by decide +kernel
theorem dX4_rank_50 : decode cX4_rank 50 = .ok (.iload_n 3, 1) := by decide +kernel
theorem dX4_rank_51 : decode cX4_rank 51 = .ok (.ireturn, 1) := by decide +kernel
theorem dX4_up_0 : decode cX4_up 0 = .ok (.aload_n 0, 1) := by decide +kernel
theorem dX4_up_1 : decode cX4_up 1 = .ok (.iload_n 1, 1) := by decide +kernel
theorem dX4_up_2 : decode cX4_up 2 = .ok (.invokevirtual 92, 3) := by decide +kernel
theorem dX4_up_5 : decode cX4_up 5 = .ok (.ifCond .ne 7, 3) := by decide +kernel
theorem dX4_up_8 : decode cX4_up 8 = .ok (.sipush (-1001), 3) := by decide +kernel
theorem dX4_up_11 : decode cX4_up 11 = .ok (.ireturn, 1) := by decide +kernel
theorem dX4_up_12 : decode cX4_up 12 = .ok (.aload_n 0, 1) := by decide +kernel
theorem dX4_up_13 : decode cX4_up 13 = .ok (.getfield 18, 3) := by decide +kernel
theorem dX4_up_16 : decode cX4_up 16 = .ok (.iload_n 1, 1) := by decide +kernel
theorem dX4_up_17 : decode cX4_up 17 = .ok (.aaload, 1) := by decide +kernel
theorem dX4_up_18 : decode cX4_up 18 = .ok (.getfield 101, 3) := by decide +kernel
theorem dX4_up_21 : decode cX4_up 21 = .ok (.invokestatic 105, 3) := by decide +kernel
theorem dX4_up_24 : decode cX4_up 24 = .ok (.istore_n 3, 1) := by decide +kernel
theorem dX4_up_25 : decode cX4_up 25 = .ok (.aload_n 0, 1) := by decide +kernel
theorem dX4_up_26 : decode cX4_up 26 = .ok (.getfield 18, 3) := by decide +kernel
theorem dX4_up_29 : decode cX4_up 29 = .ok (.iload_n 1, 1) := by decide +kernel
theorem dX4_up_30 : decode cX4_up 30 = .ok (.aaload, 1) := by decide +kernel
theorem dX4_up_31 : decode cX4_up 31 = .ok (.iload_n 2, 1) := by decide +kernel
theorem dX4_up_32 : decode cX4_up 32 = .ok (.putfield 101, 3) := by decide +kernel
theorem dX4_up_35 : decode cX4_up 35 = .ok (.iload_n 2, 1) := by decide +kernel
theorem dX4_up_36 : decode cX4_up 36 = .ok (.ifCond .ne 30, 3) := by decide +kernel
theorem dX4_up_39 : decode cX4_up 39 = .ok (.aload_n 0, 1) := by decide +kernel
theorem dX4_up_40 : decode cX4_up 40 = .ok (.getfield 18, 3) := by decide +kernel
theorem dX4_up_43 : decode cX4_up 43 = .ok (.iload_n 1, 1) := by decide +kernel
theorem dX4_up_44 : decode cX4_up 44 = .ok (.aaload, 1) := by decide +kernel
theorem dX4_up_45 : decode cX4_up 45 = .ok (.iconst 0, 1) := by decide +kernel
theorem dX4_up_46 : decode cX4_up 46 = .ok (.putfield 109, 3) := by decide +kernel
theorem dX4_up_49 : decode cX4_up 49 = .ok (.aload_n 0, 1) := by decide +kernel
theorem dX4_up_50 : decode cX4_up 50 = .ok (.invokevirtual 98, 3) := by decide +kernel
theorem dX4_up_53 : decode cX4_up 53 = .ok (.aload_n 0, 1) := by decide +kernel
theorem dX4_up_54 : decode cX4_up 54 = .ok (.aload_n 0, 1) := by decide +kernel
theorem dX4_up_55 : decode cX4_up 55 = .ok (.getfield 18, 3) := by decide +kernel
theorem dX4_up_58 : decode cX4_up 58 = .ok (.iload_n 1, 1) := by decide +kernel
theorem dX4_up_59 : decode cX4_up 59 = .ok (.aaload, 1) := by decide +kernel
theorem dX4_up_60 : decode cX4_up 60 = .ok (.getfield 112, 3) := by decide +kernel
theorem dX4_up_63 : decode cX4_up 63 = .ok (.invokevirtual 116, 3) := by decide +kernel
theorem dX4_up_66 : decode cX4_up 66 = .ok (.iload_n 3, 1) := by decide +kernel
theorem dX4_up_67 : decode cX4_up 67 = .ok (.ireturn, 1) := by decide +kernel
theorem dX4_hear_0 : decode cX4_hear 0 = .ok (.aload_n 0, 1) := by decide +kernel
theorem dX4_hear_1 : decode cX4_hear 1 = .ok (.iload_n 1, 1) := by decide +kernel
theorem dX4_hear_2 : decode cX4_hear 2 = .ok (.invokevirtual 92, 3) := by decide +kernel
theorem dX4_hear_5 : decode cX4_hear 5 = .ok (.ifCond .ne 7, 3) := by decide +kernel
theorem dX4_hear_8 : decode cX4_hear 8 = .ok (.sipush (-1001), 3) := by decide +kernel
theorem dX4_hear_11 : decode cX4_hear 11 = .ok (.ireturn, 1) := by decide +kernel
theorem dX4_hear_12 : decode cX4_hear 12 = .ok (.iload_n 2, 1) := by decide +kernel
theorem dX4_hear_13 : decode cX4_hear 13 = .ok (.iconst 1, 1) := by decide +kernel
theorem dX4_hear_14 : decode cX4_hear 14 = .ok (.if_icmp .lt 16, 3) := by decide +kernel
theorem dX4_hear_17 : decode cX4_hear 17 = .ok (.iload_n 2, 1) := by decide +kernel
theorem dX4_hear_18 : decode cX4_hear 18 = .ok (.bipush 9, 2) := by decide +kernel
theorem dX4_hear_20 : decode cX4_hear 20 = .ok (.if_icmp .gt 10, 3) := by decide +kernel
theorem dX4_hear_23 : decode cX4_hear 23 = .ok (.iload_n 3, 1) := by decide +kernel
theorem dX4_hear_24 : decode cX4_hear 24 = .ok (.invokestatic 120, 3) := by decide +kernel
theorem dX4_hear_27 : decode cX4_hear 27 = .ok (.ifCond .ne 7, 3) := by decide +kernel
theorem dX4_hear_30 : decode cX4_hear 30 = .ok (.sipush (-1002), 3) := by decide +kernel
theorem dX4_hear_33 : decode cX4_hear 33 = .ok (.ireturn, 1) := by decide +kernel
theorem dX4_hear_34 : decode cX4_hear 34 = .ok (.aload_n 0, 1) := by decide +kernel
theorem dX4_hear_35 : decode cX4_hear 35 = .ok (.getfield 18, 3) := by decide +kernel
theorem dX4_hear_38 : decode cX4_hear 38 = .ok (.iload_n 1, 1) := by decide +kernel
theorem dX4_hear_39 : decode cX4_hear 39 = .ok (.aaload, 1) := by decide +kernel
theorem dX4_hear_40 : decode cX4_hear 40 = .ok (.getfield 101, 3) := by decide +kernel
theorem dX4_hear_43 : decode cX4_hear 43 = .ok (.ifCond .ne 7, 3) := by decide +kernel
theorem dX4_hear_46 : decode cX4_hear 46 = .ok (.sipush (-1003), 3) := by decide +kernel
theorem dX4_hear_49 : decode cX4_hear 49 = .ok (.ireturn, 1) := by decide +kernel
theorem dX4_hear_50 : decode cX4_hear 50 = .ok (.aload_n 0, 1) := by decide +kernel
theorem dX4_hear_51 : decode cX4_hear 51 = .ok (.getfield 18, 3) := by decide +kernel
theorem dX4_hear_54 : decode cX4_hear 54 = .ok (.iload_n 1, 1) := by decide +kernel
theorem dX4_hear_55 : decode cX4_hear 55 = .ok (.aaload, 1) := by decide +kernel
theorem dX4_hear_56 : decode cX4_hear 56 = .ok (.iload_n 2, 1) := by decide +kernel
theorem dX4_hear_57 : decode cX4_hear 57 = .ok (.iload_n 3, 1) := by decide +kernel
theorem dX4_hear_58 : decode cX4_hear 58 = .ok (.iload 4, 2) := by decide +kernel
theorem dX4_hear_60 : decode cX4_hear 60 = .ok (.invokevirtual 123, 3) := by decide +kernel
theorem dX4_hear_63 : decode cX4_hear 63 = .ok (.aload_n 0, 1) := by decide +kernel
theorem dX4_hear_64 : decode cX4_hear 64 = .ok (.invokevirtual 98, 3) := by decide +kernel
theorem dX4_hear_67 : decode cX4_hear 67 = .ok (.aload_n 0, 1) := by decide +kernel
theorem dX4_hear_68 : decode cX4_hear 68 = .ok (.aload_n 0, 1) := by decide +kernel
theorem dX4_hear_69 : decode cX4_hear 69 = .ok (.getfield 18, 3) := by decide +kernel
theorem dX4_hear_72 : decode cX4_hear 72 = .ok (.iload_n 1, 1) := by decide +kernel
theorem dX4_hear_73 : decode cX4_hear 73 = .ok (.aaload, 1) := by decide +kernel
theorem dX4_hear_74 : decode cX4_hear 74 = .ok (.invokevirtual 127, 3) := by decide +kernel
theorem dX4_hear_77 : decode cX4_hear 77 = .ok (.invokestatic 105, 3) := by decide +kernel
theorem dX4_hear_80 : decode cX4_hear 80 = .ok (.ireturn, 1) := by decide +kernel
theorem dX4_of_0 : decode cX4_of 0 = .ok (.aload_n 0, 1) := by decide +kernel
theorem dX4_of_1 : decode cX4_of 1 = .ok (.iload_n 1, 1) := by decide +kernel
theorem dX4_of_2 : decode cX4_of 2 = .ok (.invokevirtual 92, 3) := by decide +kernel
theorem dX4_of_5 : decode cX4_of 5 = .ok (.ifCond .ne 7, 3) := by decide +kernel
theorem dX4_of_8 : decode cX4_of 8 = .ok (.sipush (-1001), 3) := by decide +kernel
theorem dX4_of_11 : decode cX4_of 11 = .ok (.ireturn, 1) := by decide +kernel
theorem dX4_of_12 : decode cX4_of 12 = .ok (.aload_n 0, 1) := by decide +kernel
theorem dX4_of_13 : decode cX4_of 13 = .ok (.getfield 18, 3) := by decide +kernel
theorem dX4_of_16 : decode cX4_of 16 = .ok (.iload_n 1, 1) := by decide +kernel
theorem dX4_of_17 : decode cX4_of 17 = .ok (.aaload, 1) := by decide +kernel
theorem dX4_of_18 : decode cX4_of 18 = .ok (.astore_n 3, 1) := by decide +kernel
theorem dX4_of_19 : decode cX4_of 19 = .ok (.iload_n 2, 1) := by decide +kernel
theorem dX4_of_20 : decode cX4_of 20 = .ok (.tableswitch 160 0 9 #[56, 61, 66, 74, 90, 106, 125, 141, 147, 152], 56) := by decide +kernel
theorem dX4_of_76 : decode cX4_of 76 = .ok (.aload_n 3, 1) := by decide +kernel
theorem dX4_of_77 : decode cX4_of 77 = .ok (.getfield 131, 3) := by decide +kernel
theorem dX4_of_80 : decode cX4_of 80 = .ok (.ireturn, 1) := by decide +kernel
theorem dX4_of_81 : decode cX4_of 81 = .ok (.aload_n 3, 1) := by decide +kernel
theorem dX4_of_82 : decode cX4_of 82 = .ok (.getfield 95, 3) := by decide +kernel
theorem dX4_of_85 : decode cX4_of 85 = .ok (.ireturn, 1) := by decide +kernel
theorem dX4_of_86 : decode cX4_of 86 = .ok (.aload_n 3, 1) := by decide +kernel
theorem dX4_of_87 : decode cX4_of 87 = .ok (.getfield 101, 3) := by decide +kernel
theorem dX4_of_90 : decode cX4_of 90 = .ok (.invokestatic 105, 3) := by decide +kernel
theorem dX4_of_93 : decode cX4_of 93 = .ok (.ireturn, 1) := by decide +kernel
theorem dX4_of_94 : decode cX4_of 94 = .ok (.aload_n 3, 1) := by decide +kernel
theorem dX4_of_95 : decode cX4_of 95 = .ok (.getfield 109, 3) := by decide +kernel
theorem dX4_of_98 : decode cX4_of 98 = .ok (.ifCond .eq 10, 3) := by decide +kernel
theorem dX4_of_101 : decode cX4_of 101 = .ok (.aload_n 3, 1) := by decide +kernel
theorem dX4_of_102 : decode cX4_of 102 = .ok (.getfield 134, 3) := by decide +kernel
theorem dX4_of_105 : decode cX4_of 105 = .ok (.goto 4, 3) := by decide +kernel
theorem dX4_of_108 : decode cX4_of 108 = .ok (.iconst (-1), 1) := by decide +kernel
theorem dX4_of_109 : decode cX4_of 109 = .ok (.ireturn, 1) := by decide +kernel
theorem dX4_of_110 : decode cX4_of 110 = .ok (.aload_n 3, 1) := by decide +kernel
theorem dX4_of_111 : decode cX4_of 111 = .ok (.getfield 109, 3) := by decide +kernel
theorem dX4_of_114 : decode cX4_of 114 = .ok (.ifCond .eq 10, 3) := by decide +kernel
theorem dX4_of_117 : decode cX4_of 117 = .ok (.aload_n 3, 1) := by decide +kernel
theorem dX4_of_118 : decode cX4_of 118 = .ok (.getfield 137, 3) := by decide +kernel
theorem dX4_of_121 : decode cX4_of 121 = .ok (.goto 4, 3) := by decide +kernel
theorem dX4_of_124 : decode cX4_of 124 = .ok (.iconst (-1), 1) := by decide +kernel
theorem dX4_of_125 : decode cX4_of 125 = .ok (.ireturn, 1) := by decide +kernel
theorem dX4_of_126 : decode cX4_of 126 = .ok (.aload_n 3, 1) := by decide +kernel
theorem dX4_of_127 : decode cX4_of 127 = .ok (.getfield 109, 3) := by decide +kernel
theorem dX4_of_130 : decode cX4_of 130 = .ok (.ifCond .eq 13, 3) := by decide +kernel
theorem dX4_of_133 : decode cX4_of 133 = .ok (.aload_n 3, 1) := by decide +kernel
theorem dX4_of_134 : decode cX4_of 134 = .ok (.getfield 140, 3) := by decide +kernel
theorem dX4_of_137 : decode cX4_of 137 = .ok (.invokestatic 105, 3) := by decide +kernel
theorem dX4_of_140 : decode cX4_of 140 = .ok (.goto 4, 3) := by decide +kernel
theorem dX4_of_143 : decode cX4_of 143 = .ok (.iconst (-1), 1) := by decide +kernel
theorem dX4_of_144 : decode cX4_of 144 = .ok (.ireturn, 1) := by decide +kernel
theorem dX4_of_145 : decode cX4_of 145 = .ok (.aload_n 3, 1) := by decide +kernel
theorem dX4_of_146 : decode cX4_of 146 = .ok (.getfield 109, 3) := by decide +kernel
theorem dX4_of_149 : decode cX4_of 149 = .ok (.ifCond .eq 10, 3) := by decide +kernel
theorem dX4_of_152 : decode cX4_of 152 = .ok (.aload_n 3, 1) := by decide +kernel
theorem dX4_of_153 : decode cX4_of 153 = .ok (.getfield 143, 3) := by decide +kernel
theorem dX4_of_156 : decode cX4_of 156 = .ok (.goto 4, 3) := by decide +kernel
theorem dX4_of_159 : decode cX4_of 159 = .ok (.iconst (-1), 1) := by decide +kernel
theorem dX4_of_160 : decode cX4_of 160 = .ok (.ireturn, 1) := by decide +kernel
theorem dX4_of_161 : decode cX4_of 161 = .ok (.aload_n 0, 1) := by decide +kernel
theorem dX4_of_162 : decode cX4_of 162 = .ok (.aload_n 3, 1) := by decide +kernel
theorem dX4_of_163 : decode cX4_of 163 = .ok (.invokevirtual 146, 3) := by decide +kernel
theorem dX4_of_166 : decode cX4_of 166 = .ok (.ireturn, 1) := by decide +kernel
theorem dX4_of_167 : decode cX4_of 167 = .ok (.aload_n 3, 1) := by decide +kernel
theorem dX4_of_168 : decode cX4_of 168 = .ok (.getfield 150, 3) := by decide +kernel
theorem dX4_of_171 : decode cX4_of 171 = .ok (.ireturn, 1) := by decide +kernel
theorem dX4_of_172 : decode cX4_of 172 = .ok (.aload_n 3, 1) := by decide +kernel
theorem dX4_of_173 : decode cX4_of 173 = .ok (.getfield 112, 3) := by decide +kernel
theorem dX4_of_176 : decode cX4_of 176 = .ok (.getfield 153, 3) := by decide +kernel
theorem dX4_of_179 : decode cX4_of 179 = .ok (.ireturn, 1) := by decide +kernel
theorem dX4_of_180 : decode cX4_of 180 = .ok (.sipush (-1002), 3) := by decide +kernel
theorem dX4_of_183 : decode cX4_of 183 = .ok (.ireturn, 1) := by decide +kernel
theorem dX4_queue_0 : decode cX4_queue 0 = .ok (.aload_n 0, 1) := by decide +kernel
theorem dX4_queue_1 : decode cX4_queue 1 = .ok (.iload_n 1, 1) := by decide +kernel
theorem dX4_queue_2 : decode cX4_queue 2 = .ok (.invokevirtual 92, 3) := by decide +kernel
theorem dX4_queue_5 : decode cX4_queue 5 = .ok (.ifCond .ne 7, 3) := by decide +kernel
theorem dX4_queue_8 : decode cX4_queue 8 = .ok (.sipush (-1001), 3) := by decide +kernel
theorem dX4_queue_11 : decode cX4_queue 11 = .ok (.ireturn, 1) := by decide +kernel
theorem dX4_queue_12 : decode cX4_queue 12 = .ok (.aload_n 0, 1) := by decide +kernel
theorem dX4_queue_13 : decode cX4_queue 13 = .ok (.getfield 18, 3) := by decide +kernel
theorem dX4_queue_16 : decode cX4_queue 16 = .ok (.iload_n 1, 1) := by decide +kernel
theorem dX4_queue_17 : decode cX4_queue 17 = .ok (.aaload, 1) := by decide +kernel
theorem dX4_queue_18 : decode cX4_queue 18 = .ok (.getfield 112, 3) := by decide +kernel
theorem dX4_queue_21 : decode cX4_queue 21 = .ok (.astore_n 3, 1) := by decide +kernel
theorem dX4_queue_22 : decode cX4_queue 22 = .ok (.aload_n 3, 1) := by decide +kernel
theorem dX4_queue_23 : decode cX4_queue 23 = .ok (.iload_n 2, 1) := by decide +kernel
theorem dX4_queue_24 : decode cX4_queue 24 = .ok (.invokevirtual 156, 3) := by decide +kernel
theorem dX4_queue_27 : decode cX4_queue 27 = .ok (.ifCond .ne 7, 3) := by decide +kernel
theorem dX4_queue_30 : decode cX4_queue 30 = .ok (.sipush (-1001), 3) := by decide +kernel
theorem dX4_queue_33 : decode cX4_queue 33 = .ok (.ireturn, 1) := by decide +kernel
theorem dX4_queue_34 : decode cX4_queue 34 = .ok (.aload_n 3, 1) := by decide +kernel
theorem dX4_queue_35 : decode cX4_queue 35 = .ok (.iload_n 2, 1) := by decide +kernel
theorem dX4_queue_36 : decode cX4_queue 36 = .ok (.invokevirtual 159, 3) := by decide +kernel
theorem dX4_queue_39 : decode cX4_queue 39 = .ok (.ifCond .eq 11, 3) := by decide +kernel
theorem dX4_queue_42 : decode cX4_queue 42 = .ok (.iconst (-1), 1) := by decide +kernel
theorem dX4_queue_43 : decode cX4_queue 43 = .ok (.aload_n 3, 1) := by decide +kernel
theorem dX4_queue_44 : decode cX4_queue 44 = .ok (.iload_n 2, 1) := by decide +kernel
theorem dX4_queue_45 : decode cX4_queue 45 = .ok (.invokevirtual 162, 3) := by decide +kernel
theorem dX4_queue_48 : decode cX4_queue 48 = .ok (.isub, 1) := by decide +kernel
theorem dX4_queue_49 : decode cX4_queue 49 = .ok (.ireturn, 1) := by decide +kernel
theorem dX4_queue_50 : decode cX4_queue 50 = .ok (.bipush 100, 2) := by decide +kernel
theorem dX4_queue_52 : decode cX4_queue 52 = .ok (.aload_n 3, 1) := by decide +kernel
theorem dX4_queue_53 : decode cX4_queue 53 = .ok (.iload_n 2, 1) := by decide +kernel
theorem dX4_queue_54 : decode cX4_queue 54 = .ok (.invokevirtual 162, 3) := by decide +kernel
theorem dX4_queue_57 : decode cX4_queue 57 = .ok (.imul, 1) := by decide +kernel
theorem dX4_queue_58 : decode cX4_queue 58 = .ok (.aload_n 3, 1) := by decide +kernel
theorem dX4_queue_59 : decode cX4_queue 59 = .ok (.iload_n 2, 1) := by decide +kernel
theorem dX4_queue_60 : decode cX4_queue 60 = .ok (.invokevirtual 165, 3) := by decide +kernel
theorem dX4_queue_63 : decode cX4_queue 63 = .ok (.bipush 100, 2) := by decide +kernel
theorem dX4_queue_65 : decode cX4_queue 65 = .ok (.irem, 1) := by decide +kernel
theorem dX4_queue_66 : decode cX4_queue 66 = .ok (.iadd, 1) := by decide +kernel
theorem dX4_queue_67 : decode cX4_queue 67 = .ok (.ireturn, 1) := by decide +kernel
theorem dX4_key_0 : decode cX4_key 0 = .ok (.iload_n 1, 1) := by decide +kernel
theorem dX4_key_1 : decode cX4_key 1 = .ok (.invokestatic 120, 3) := by decide +kernel
theorem dX4_key_4 : decode cX4_key 4 = .ok (.ifCond .ne 7, 3) := by decide +kernel
theorem dX4_key_7 : decode cX4_key 7 = .ok (.sipush (-1001), 3) := by decide +kernel
theorem dX4_key_10 : decode cX4_key 10 = .ok (.ireturn, 1) := by decide +kernel
theorem dX4_key_11 : decode cX4_key 11 = .ok (.iload_n 2, 1) := by decide +kernel
theorem dX4_key_12 : decode cX4_key 12 = .ok (.tableswitch 62 0 3 #[32, 38, 46, 54], 32) := by decide +kernel
theorem dX4_key_44 : decode cX4_key 44 = .ok (.aload_n 0, 1) := by decide +kernel
theorem dX4_key_45 : decode cX4_key 45 = .ok (.iload_n 1, 1) := by decide +kernel
theorem dX4_key_46 : decode cX4_key 46 = .ok (.invokevirtual 168, 3) := by decide +kernel
theorem dX4_key_49 : decode cX4_key 49 = .ok (.ireturn, 1) := by decide +kernel
theorem dX4_key_50 : decode cX4_key 50 = .ok (.aload_n 0, 1) := by decide +kernel
theorem dX4_key_51 : decode cX4_key 51 = .ok (.iload_n 1, 1) := by decide +kernel
theorem dX4_key_52 : decode cX4_key 52 = .ok (.iconst 2, 1) := by decide +kernel
theorem dX4_key_53 : decode cX4_key 53 = .ok (.iconst 4, 1) := by decide +kernel
theorem dX4_key_54 : decode cX4_key 54 = .ok (.invokevirtual 171, 3) := by decide +kernel
theorem dX4_key_57 : decode cX4_key 57 = .ok (.ireturn, 1) := by decide +kernel
theorem dX4_key_58 : decode cX4_key 58 = .ok (.aload_n 0, 1) := by decide +kernel
theorem dX4_key_59 : decode cX4_key 59 = .ok (.iload_n 1, 1) := by decide +kernel
theorem dX4_key_60 : decode cX4_key 60 = .ok (.iconst 1, 1) := by decide +kernel
theorem dX4_key_61 : decode cX4_key 61 = .ok (.iconst 1, 1) := by decide +kernel
theorem dX4_key_62 : decode cX4_key 62 = .ok (.invokevirtual 171, 3) := by decide +kernel
theorem dX4_key_65 : decode cX4_key 65 = .ok (.ireturn, 1) := by decide +kernel
theorem dX4_key_66 : decode cX4_key 66 = .ok (.aload_n 0, 1) := by decide +kernel
theorem dX4_key_67 : decode cX4_key 67 = .ok (.iload_n 1, 1) := by decide +kernel
theorem dX4_key_68 : decode cX4_key 68 = .ok (.iconst 4, 1) := by decide +kernel
theorem dX4_key_69 : decode cX4_key 69 = .ok (.iconst 4, 1) := by decide +kernel
theorem dX4_key_70 : decode cX4_key 70 = .ok (.invokevirtual 171, 3) := by decide +kernel
theorem dX4_key_73 : decode cX4_key 73 = .ok (.ireturn, 1) := by decide +kernel
theorem dX4_key_74 : decode cX4_key 74 = .ok (.sipush (-1002), 3) := by decide +kernel
theorem dX4_key_77 : decode cX4_key 77 = .ok (.ireturn, 1) := by decide +kernel
theorem dX4_way_0 : decode cX4_way 0 = .ok (.iload_n 1, 1) := by decide +kernel
theorem dX4_way_1 : decode cX4_way 1 = .ok (.invokestatic 175, 3) := by decide +kernel
theorem dX4_way_4 : decode cX4_way 4 = .ok (.ifCond .eq 11, 3) := by decide +kernel
theorem dX4_way_7 : decode cX4_way 7 = .ok (.aload_n 0, 1) := by decide +kernel
theorem dX4_way_8 : decode cX4_way 8 = .ok (.iload_n 1, 1) := by decide +kernel
theorem dX4_way_9 : decode cX4_way 9 = .ok (.invokevirtual 178, 3) := by decide +kernel
theorem dX4_way_12 : decode cX4_way 12 = .ok (.goto 6, 3) := by decide +kernel
theorem dX4_way_15 : decode cX4_way 15 = .ok (.sipush (-1001), 3) := by decide +kernel
theorem dX4_way_18 : decode cX4_way 18 = .ok (.ireturn, 1) := by decide +kernel
theorem dX4_send_0 : decode cX4_send 0 = .ok (.iload_n 1, 1) := by decide +kernel
theorem dX4_send_1 : decode cX4_send 1 = .ok (.invokestatic 175, 3) := by decide +kernel
theorem dX4_send_4 : decode cX4_send 4 = .ok (.ifCond .ne 7, 3) := by decide +kernel
theorem dX4_send_7 : decode cX4_send 7 = .ok (.sipush (-1001), 3) := by decide +kernel
theorem dX4_send_10 : decode cX4_send 10 = .ok (.ireturn, 1) := by decide +kernel
theorem dX4_send_11 : decode cX4_send 11 = .ok (.aload_n 0, 1) := by decide +kernel
theorem dX4_send_12 : decode cX4_send 12 = .ok (.getfield 28, 3) := by decide +kernel
theorem dX4_send_15 : decode cX4_send 15 = .ok (.ifCond .ne 7, 3) := by decide +kernel
theorem dX4_send_18 : decode cX4_send 18 = .ok (.sipush (-1003), 3) := by decide +kernel
theorem dX4_send_21 : decode cX4_send 21 = .ok (.ireturn, 1) := by decide +kernel
theorem dX4_send_22 : decode cX4_send 22 = .ok (.aload_n 0, 1) := by decide +kernel
theorem dX4_send_23 : decode cX4_send 23 = .ok (.getfield 24, 3) := by decide +kernel
theorem dX4_send_26 : decode cX4_send 26 = .ok (.iload_n 1, 1) := by decide +kernel
theorem dX4_send_27 : decode cX4_send 27 = .ok (.aaload, 1) := by decide +kernel
theorem dX4_send_28 : decode cX4_send 28 = .ok (.astore_n 2, 1) := by decide +kernel
theorem dX4_send_29 : decode cX4_send 29 = .ok (.aload_n 2, 1) := by decide +kernel
theorem dX4_send_30 : decode cX4_send 30 = .ok (.dup, 1) := by decide +kernel
theorem dX4_send_31 : decode cX4_send 31 = .ok (.getfield 181, 3) := by decide +kernel
theorem dX4_send_34 : decode cX4_send 34 = .ok (.iconst 1, 1) := by decide +kernel
theorem dX4_send_35 : decode cX4_send 35 = .ok (.iadd, 1) := by decide +kernel
theorem dX4_send_36 : decode cX4_send 36 = .ok (.putfield 181, 3) := by decide +kernel
theorem dX4_send_39 : decode cX4_send 39 = .ok (.aload_n 2, 1) := by decide +kernel
theorem dX4_send_40 : decode cX4_send 40 = .ok (.getfield 184, 3) := by decide +kernel
theorem dX4_send_43 : decode cX4_send 43 = .ok (.ifCond .eq 20, 3) := by decide +kernel
theorem dX4_send_46 : decode cX4_send 46 = .ok (.aload_n 2, 1) := by decide +kernel
theorem dX4_send_47 : decode cX4_send 47 = .ok (.aload_n 2, 1) := by decide +kernel
theorem dX4_send_48 : decode cX4_send 48 = .ok (.getfield 181, 3) := by decide +kernel
theorem dX4_send_51 : decode cX4_send 51 = .ok (.invokevirtual 187, 3) := by decide +kernel
theorem dX4_send_54 : decode cX4_send 54 = .ok (.ifCond .eq 7, 3) := by decide +kernel
theorem dX4_send_57 : decode cX4_send 57 = .ok (.iconst 1, 1) := by decide +kernel
theorem dX4_send_58 : decode cX4_send 58 = .ok (.goto 4, 3) := by decide +kernel
theorem dX4_send_61 : decode cX4_send 61 = .ok (.iconst 2, 1) := by decide +kernel
theorem dX4_send_62 : decode cX4_send 62 = .ok (.ireturn, 1) := by decide +kernel
theorem dX4_send_63 : decode cX4_send 63 = .ok (.aload_n 0, 1) := by decide +kernel
theorem dX4_send_64 : decode cX4_send 64 = .ok (.iload_n 1, 1) := by decide +kernel
theorem dX4_send_65 : decode cX4_send 65 = .ok (.invokevirtual 178, 3) := by decide +kernel
theorem dX4_send_68 : decode cX4_send 68 = .ok (.istore_n 3, 1) := by decide +kernel
theorem dX4_send_69 : decode cX4_send 69 = .ok (.iload_n 3, 1) := by decide +kernel
theorem dX4_send_70 : decode cX4_send 70 = .ok (.iconst (-1), 1) := by decide +kernel
theorem dX4_send_71 : decode cX4_send 71 = .ok (.if_icmp .ne 15, 3) := by decide +kernel
theorem dX4_send_74 : decode cX4_send 74 = .ok (.aload_n 2, 1) := by decide +kernel
theorem dX4_send_75 : decode cX4_send 75 = .ok (.dup, 1) := by decide +kernel
theorem dX4_send_76 : decode cX4_send 76 = .ok (.getfield 190, 3) := by decide +kernel
theorem dX4_send_79 : decode cX4_send 79 = .ok (.iconst 1, 1) := by decide +kernel
theorem dX4_send_80 : decode cX4_send 80 = .ok (.iadd, 1) := by decide +kernel
theorem dX4_send_81 : decode cX4_send 81 = .ok (.putfield 190, 3) := by decide +kernel
theorem dX4_send_84 : decode cX4_send 84 = .ok (.iconst 2, 1) := by decide +kernel
theorem dX4_send_85 : decode cX4_send 85 = .ok (.ireturn, 1) := by decide +kernel
theorem dX4_send_86 : decode cX4_send 86 = .ok (.aload_n 2, 1) := by decide +kernel
theorem dX4_send_87 : decode cX4_send 87 = .ok (.getfield 193, 3) := by decide +kernel
theorem dX4_send_90 : decode cX4_send 90 = .ok (.iload_n 3, 1) := by decide +kernel
theorem dX4_send_91 : decode cX4_send 91 = .ok (.if_icmp .eq 33, 3) := by decide +kernel
theorem dX4_send_94 : decode cX4_send 94 = .ok (.aload_n 0, 1) := by decide +kernel
theorem dX4_send_95 : decode cX4_send 95 = .ok (.iload_n 1, 1) := by decide +kernel
theorem dX4_send_96 : decode cX4_send 96 = .ok (.invokevirtual 196, 3) := by decide +kernel
theorem dX4_send_99 : decode cX4_send 99 = .ok (.ifCond .eq 25, 3) := by decide +kernel
theorem dX4_send_102 : decode cX4_send 102 = .ok (.aload_n 0, 1) := by decide +kernel
theorem dX4_send_103 : decode cX4_send 103 = .ok (.iload_n 1, 1) := by decide +kernel
theorem dX4_send_104 : decode cX4_send 104 = .ok (.invokevirtual 199, 3) := by decide +kernel
theorem dX4_send_107 : decode cX4_send 107 = .ok (.aload_n 2, 1) := by decide +kernel
theorem dX4_send_108 : decode cX4_send 108 = .ok (.aload_n 2, 1) := by decide +kernel
theorem dX4_send_109 : decode cX4_send 109 = .ok (.getfield 181, 3) := by decide +kernel
theorem dX4_send_112 : decode cX4_send 112 = .ok (.invokevirtual 187, 3) := by decide +kernel
theorem dX4_send_115 : decode cX4_send 115 = .ok (.ifCond .eq 7, 3) := by decide +kernel
theorem dX4_send_118 : decode cX4_send 118 = .ok (.iconst 1, 1) := by decide +kernel
theorem dX4_send_119 : decode cX4_send 119 = .ok (.goto 4, 3) := by decide +kernel
theorem dX4_send_122 : decode cX4_send 122 = .ok (.iconst 2, 1) := by decide +kernel
theorem dX4_send_123 : decode cX4_send 123 = .ok (.ireturn, 1) := by decide +kernel
theorem dX4_send_124 : decode cX4_send 124 = .ok (.aload_n 2, 1) := by decide +kernel
theorem dX4_send_125 : decode cX4_send 125 = .ok (.iload_n 3, 1) := by decide +kernel
theorem dX4_send_126 : decode cX4_send 126 = .ok (.putfield 193, 3) := by decide +kernel
theorem dX4_send_129 : decode cX4_send 129 = .ok (.aload_n 0, 1) := by decide +kernel
theorem dX4_send_130 : decode cX4_send 130 = .ok (.iload_n 1, 1) := by decide +kernel
theorem dX4_send_131 : decode cX4_send 131 = .ok (.aload_n 2, 1) := by decide +kernel
theorem dX4_send_132 : decode cX4_send 132 = .ok (.getfield 181, 3) := by decide +kernel
theorem dX4_send_135 : decode cX4_send 135 = .ok (.iload_n 3, 1) := by decide +kernel
theorem dX4_send_136 : decode cX4_send 136 = .ok (.invokevirtual 203, 3) := by decide +kernel
theorem dX4_send_139 : decode cX4_send 139 = .ok (.ifCond .eq 7, 3) := by decide +kernel
theorem dX4_send_142 : decode cX4_send 142 = .ok (.iconst 0, 1) := by decide +kernel
theorem dX4_send_143 : decode cX4_send 143 = .ok (.goto 4, 3) := by decide +kernel
theorem dX4_send_146 : decode cX4_send 146 = .ok (.iconst 2, 1) := by decide +kernel
theorem dX4_send_147 : decode cX4_send 147 = .ok (.ireturn, 1) := by decide +kernel
theorem dX4_flow_0 : decode cX4_flow 0 = .ok (.iload_n 1, 1) := by decide +kernel
theorem dX4_flow_1 : decode cX4_flow 1 = .ok (.invokestatic 175, 3) := by decide +kernel
theorem dX4_flow_4 : decode cX4_flow 4 = .ok (.ifCond .ne 7, 3) := by decide +kernel
theorem dX4_flow_7 : decode cX4_flow 7 = .ok (.sipush (-1001), 3) := by decide +kernel
theorem dX4_flow_10 : decode cX4_flow 10 = .ok (.ireturn, 1) := by decide +kernel
theorem dX4_flow_11 : decode cX4_flow 11 = .ok (.aload_n 0, 1) := by decide +kernel
theorem dX4_flow_12 : decode cX4_flow 12 = .ok (.getfield 24, 3) := by decide +kernel
theorem dX4_flow_15 : decode cX4_flow 15 = .ok (.iload_n 1, 1) := by decide +kernel
theorem dX4_flow_16 : decode cX4_flow 16 = .ok (.aaload, 1) := by decide +kernel
theorem dX4_flow_17 : decode cX4_flow 17 = .ok (.astore_n 3, 1) := by decide +kernel
theorem dX4_flow_18 : decode cX4_flow 18 = .ok (.iload_n 2, 1) := by decide +kernel
theorem dX4_flow_19 : decode cX4_flow 19 = .ok (.tableswitch 79 0 6 #[41, 46, 54, 59, 64, 69, 74], 41) := by decide +kernel
theorem dX4_flow_60 : decode cX4_flow 60 = .ok (.aload_n 3, 1) := by decide +kernel
theorem dX4_flow_61 : decode cX4_flow 61 = .ok (.getfield 193, 3) := by decide +kernel
theorem dX4_flow_64 : decode cX4_flow 64 = .ok (.ireturn, 1) := by decide +kernel
theorem dX4_flow_65 : decode cX4_flow 65 = .ok (.aload_n 3, 1) := by decide +kernel
theorem dX4_flow_66 : decode cX4_flow 66 = .ok (.getfield 184, 3) := by decide +kernel
theorem dX4_flow_69 : decode cX4_flow 69 = .ok (.invokestatic 105, 3) := by decide +kernel
theorem dX4_flow_72 : decode cX4_flow 72 = .ok (.ireturn, 1) := by decide +kernel
theorem dX4_flow_73 : decode cX4_flow 73 = .ok (.aload_n 3, 1) := by decide +kernel
theorem dX4_flow_74 : decode cX4_flow 74 = .ok (.getfield 207, 3) := by decide +kernel
theorem dX4_flow_77 : decode cX4_flow 77 = .ok (.ireturn, 1) := by decide +kernel
theorem dX4_flow_78 : decode cX4_flow 78 = .ok (.aload_n 3, 1) := by decide +kernel
theorem dX4_flow_79 : decode cX4_flow 79 = .ok (.getfield 181, 3) := by decide +kernel
theorem dX4_flow_82 : decode cX4_flow 82 = .ok (.ireturn, 1) := by decide +kernel
theorem dX4_flow_83 : decode cX4_flow 83 = .ok (.aload_n 3, 1) := by decide +kernel
theorem dX4_flow_84 : decode cX4_flow 84 = .ok (.getfield 210, 3) := by decide +kernel
theorem dX4_flow_87 : decode cX4_flow 87 = .ok (.ireturn, 1) := by decide +kernel
theorem dX4_flow_88 : decode cX4_flow 88 = .ok (.aload_n 3, 1) := by decide +kernel
theorem dX4_flow_89 : decode cX4_flow 89 = .ok (.getfield 190, 3) := by decide +kernel
theorem dX4_flow_92 : decode cX4_flow 92 = .ok (.ireturn, 1) := by decide +kernel
theorem dX4_flow_93 : decode cX4_flow 93 = .ok (.aload_n 3, 1) := by decide +kernel
theorem dX4_flow_94 : decode cX4_flow 94 = .ok (.getfield 213, 3) := by decide +kernel
theorem dX4_flow_97 : decode cX4_flow 97 = .ok (.ireturn, 1) := by decide +kernel
theorem dX4_flow_98 : decode cX4_flow 98 = .ok (.sipush (-1002), 3) := by decide +kernel
theorem dX4_flow_101 : decode cX4_flow 101 = .ok (.ireturn, 1) := by decide +kernel
theorem dX4_tick_0 : decode cX4_tick 0 = .ok (.iload_n 1, 1) := by decide +kernel
theorem dX4_tick_1 : decode cX4_tick 1 = .ok (.iconst 1, 1) := by decide +kernel
theorem dX4_tick_2 : decode cX4_tick 2 = .ok (.if_icmp .lt 9, 3) := by decide +kernel
theorem dX4_tick_5 : decode cX4_tick 5 = .ok (.iload_n 1, 1) := by decide +kernel
theorem dX4_tick_6 : decode cX4_tick 6 = .ok (.bipush 50, 2) := by decide +kernel
theorem dX4_tick_8 : decode cX4_tick 8 = .ok (.if_icmp .le 7, 3) := by decide +kernel
theorem dX4_tick_11 : decode cX4_tick 11 = .ok (.sipush (-1002), 3) := by decide +kernel
theorem dX4_tick_14 : decode cX4_tick 14 = .ok (.ireturn, 1) := by decide +kernel
theorem dX4_tick_15 : decode cX4_tick 15 = .ok (.aload_n 0, 1) := by decide +kernel
theorem dX4_tick_16 : decode cX4_tick 16 = .ok (.getfield 28, 3) := by decide +kernel
theorem dX4_tick_19 : decode cX4_tick 19 = .ok (.ifCond .ne 7, 3) := by decide +kernel
theorem dX4_tick_22 : decode cX4_tick 22 = .ok (.sipush (-1003), 3) := by decide +kernel
theorem dX4_tick_25 : decode cX4_tick 25 = .ok (.ireturn, 1) := by decide +kernel
theorem dX4_tick_26 : decode cX4_tick 26 = .ok (.aload_n 0, 1) := by decide +kernel
theorem dX4_tick_27 : decode cX4_tick 27 = .ok (.iconst 4, 1) := by decide +kernel
theorem dX4_tick_28 : decode cX4_tick 28 = .ok (.invokevirtual 216, 3) := by decide +kernel
theorem dX4_tick_31 : decode cX4_tick 31 = .ok (.istore_n 2, 1) := by decide +kernel
theorem dX4_tick_32 : decode cX4_tick 32 = .ok (.iconst 0, 1) := by decide +kernel
theorem dX4_tick_33 : decode cX4_tick 33 = .ok (.istore_n 3, 1) := by decide +kernel
theorem dX4_tick_34 : decode cX4_tick 34 = .ok (.iload_n 3, 1) := by decide +kernel
theorem dX4_tick_35 : decode cX4_tick 35 = .ok (.iload_n 1, 1) := by decide +kernel
theorem dX4_tick_36 : decode cX4_tick 36 = .ok (.if_icmp .ge 13, 3) := by decide +kernel
theorem dX4_tick_39 : decode cX4_tick 39 = .ok (.aload_n 0, 1) := by decide +kernel
theorem dX4_tick_40 : decode cX4_tick 40 = .ok (.invokevirtual 219, 3) := by decide +kernel
theorem dX4_tick_43 : decode cX4_tick 43 = .ok (.iinc 3 1, 3) := by decide +kernel
theorem dX4_tick_46 : decode cX4_tick 46 = .ok (.goto (-12), 3) := by decide +kernel
theorem dX4_tick_49 : decode cX4_tick 49 = .ok (.aload_n 0, 1) := by decide +kernel
theorem dX4_tick_50 : decode cX4_tick 50 = .ok (.iconst 4, 1) := by decide +kernel
theorem dX4_tick_51 : decode cX4_tick 51 = .ok (.invokevirtual 216, 3) := by decide +kernel
theorem dX4_tick_54 : decode cX4_tick 54 = .ok (.iload_n 2, 1) := by decide +kernel
theorem dX4_tick_55 : decode cX4_tick 55 = .ok (.isub, 1) := by decide +kernel
theorem dX4_tick_56 : decode cX4_tick 56 = .ok (.ireturn, 1) := by decide +kernel
theorem dX4_count_0 : decode cX4_count 0 = .ok (.iload_n 1, 1) := by decide +kernel
theorem dX4_count_1 : decode cX4_count 1 = .ok (.tableswitch 130 0 11 #[63, 68, 76, 81, 86, 91, 96, 102, 108, 114, 120, 125], 63) := by decide +kernel
theorem dX4_count_64 : decode cX4_count 64 = .ok (.aload_n 0, 1) := by decide +kernel
theorem dX4_count_65 : decode cX4_count 65 = .ok (.getfield 28, 3) := by decide +kernel
theorem dX4_count_68 : decode cX4_count 68 = .ok (.ireturn, 1) := by decide +kernel
theorem dX4_count_69 : decode cX4_count 69 = .ok (.aload_n 0, 1) := by decide +kernel
theorem dX4_count_70 : decode cX4_count 70 = .ok (.getfield 10, 3) := by decide +kernel
theorem dX4_count_73 : decode cX4_count 73 = .ok (.getfield 56, 3) := by decide +kernel
theorem dX4_count_76 : decode cX4_count 76 = .ok (.ireturn, 1) := by decide +kernel
theorem dX4_count_77 : decode cX4_count 77 = .ok (.aload_n 0, 1) := by decide +kernel
theorem dX4_count_78 : decode cX4_count 78 = .ok (.getfield 32, 3) := by decide +kernel
theorem dX4_count_81 : decode cX4_count 81 = .ok (.ireturn, 1) := by decide +kernel
theorem dX4_count_82 : decode cX4_count 82 = .ok (.aload_n 0, 1) := by decide +kernel
theorem dX4_count_83 : decode cX4_count 83 = .ok (.getfield 35, 3) := by decide +kernel
theorem dX4_count_86 : decode cX4_count 86 = .ok (.ireturn, 1) := by decide +kernel
theorem dX4_count_87 : decode cX4_count 87 = .ok (.aload_n 0, 1) := by decide +kernel
theorem dX4_count_88 : decode cX4_count 88 = .ok (.getfield 38, 3) := by decide +kernel
theorem dX4_count_91 : decode cX4_count 91 = .ok (.ireturn, 1) := by decide +kernel
theorem dX4_count_92 : decode cX4_count 92 = .ok (.aload_n 0, 1) := by decide +kernel
theorem dX4_count_93 : decode cX4_count 93 = .ok (.getfield 41, 3) := by decide +kernel
theorem dX4_count_96 : decode cX4_count 96 = .ok (.ireturn, 1) := by decide +kernel
theorem dX4_count_97 : decode cX4_count 97 = .ok (.aload_n 0, 1) := by decide +kernel
theorem dX4_count_98 : decode cX4_count 98 = .ok (.iconst 3, 1) := by decide +kernel
theorem dX4_count_99 : decode cX4_count 99 = .ok (.invokevirtual 216, 3) := by decide +kernel
theorem dX4_count_102 : decode cX4_count 102 = .ok (.ireturn, 1) := by decide +kernel
theorem dX4_count_103 : decode cX4_count 103 = .ok (.aload_n 0, 1) := by decide +kernel
theorem dX4_count_104 : decode cX4_count 104 = .ok (.iconst 4, 1) := by decide +kernel
theorem dX4_count_105 : decode cX4_count 105 = .ok (.invokevirtual 216, 3) := by decide +kernel
theorem dX4_count_108 : decode cX4_count 108 = .ok (.ireturn, 1) := by decide +kernel
theorem dX4_count_109 : decode cX4_count 109 = .ok (.aload_n 0, 1) := by decide +kernel
theorem dX4_count_110 : decode cX4_count 110 = .ok (.iconst 5, 1) := by decide +kernel
theorem dX4_count_111 : decode cX4_count 111 = .ok (.invokevirtual 216, 3) := by decide +kernel
theorem dX4_count_114 : decode cX4_count 114 = .ok (.ireturn, 1) := by decide +kernel
theorem dX4_count_115 : decode cX4_count 115 = .ok (.aload_n 0, 1) := by decide +kernel
theorem dX4_count_116 : decode cX4_count 116 = .ok (.iconst 2, 1) := by decide +kernel
theorem dX4_count_117 : decode cX4_count 117 = .ok (.invokevirtual 216, 3) := by decide +kernel
theorem dX4_count_120 : decode cX4_count 120 = .ok (.ireturn, 1) := by decide +kernel
theorem dX4_count_121 : decode cX4_count 121 = .ok (.aload_n 0, 1) := by decide +kernel
theorem dX4_count_122 : decode cX4_count 122 = .ok (.getfield 44, 3) := by decide +kernel
theorem dX4_count_125 : decode cX4_count 125 = .ok (.ireturn, 1) := by decide +kernel
theorem dX4_count_126 : decode cX4_count 126 = .ok (.aload_n 0, 1) := by decide +kernel
theorem dX4_count_127 : decode cX4_count 127 = .ok (.getfield 47, 3) := by decide +kernel
theorem dX4_count_130 : decode cX4_count 130 = .ok (.ireturn, 1) := by decide +kernel
theorem dX4_count_131 : decode cX4_count 131 = .ok (.sipush (-1002), 3) := by decide +kernel
theorem dX4_count_134 : decode cX4_count 134 = .ok (.ireturn, 1) := by decide +kernel
theorem dX4_digest_0 : decode cX4_digest 0 = .ok (.ldc2_w 222, 3) := by decide +kernel
theorem dX4_digest_3 : decode cX4_digest 3 = .ok (.lstore_n 1, 1) := by decide +kernel
theorem dX4_digest_4 : decode cX4_digest 4 = .ok (.iconst 0, 1) := by decide +kernel
theorem dX4_digest_5 : decode cX4_digest 5 = .ok (.istore_n 3, 1) := by decide +kernel
theorem dX4_digest_6 : decode cX4_digest 6 = .ok (.iload_n 3, 1) := by decide +kernel
theorem dX4_digest_7 : decode cX4_digest 7 = .ok (.aload_n 0, 1) := by decide +kernel
theorem dX4_digest_8 : decode cX4_digest 8 = .ok (.getfield 28, 3) := by decide +kernel
theorem dX4_digest_11 : decode cX4_digest 11 = .ok (.if_icmp .ge 16, 3) := by decide +kernel
theorem dX4_digest_14 : decode cX4_digest 14 = .ok (.aload_n 0, 1) := by decide +kernel
theorem dX4_digest_15 : decode cX4_digest 15 = .ok (.lload_n 1, 1) := by decide +kernel
theorem dX4_digest_16 : decode cX4_digest 16 = .ok (.iload_n 3, 1) := by decide +kernel
theorem dX4_digest_17 : decode cX4_digest 17 = .ok (.invokevirtual 224, 3) := by decide +kernel
theorem dX4_digest_20 : decode cX4_digest 20 = .ok (.lstore_n 1, 1) := by decide +kernel
theorem dX4_digest_21 : decode cX4_digest 21 = .ok (.iinc 3 1, 3) := by decide +kernel
theorem dX4_digest_24 : decode cX4_digest 24 = .ok (.goto (-18), 3) := by decide +kernel
theorem dX4_digest_27 : decode cX4_digest 27 = .ok (.iconst 0, 1) := by decide +kernel
theorem dX4_digest_28 : decode cX4_digest 28 = .ok (.istore_n 3, 1) := by decide +kernel
theorem dX4_digest_29 : decode cX4_digest 29 = .ok (.iload_n 3, 1) := by decide +kernel
theorem dX4_digest_30 : decode cX4_digest 30 = .ok (.iconst 4, 1) := by decide +kernel
theorem dX4_digest_31 : decode cX4_digest 31 = .ok (.if_icmp .ge 37, 3) := by decide +kernel
theorem dX4_digest_34 : decode cX4_digest 34 = .ok (.iconst 0, 1) := by decide +kernel
theorem dX4_digest_35 : decode cX4_digest 35 = .ok (.istore 4, 2) := by decide +kernel
theorem dX4_digest_37 : decode cX4_digest 37 = .ok (.iload 4, 2) := by decide +kernel
theorem dX4_digest_39 : decode cX4_digest 39 = .ok (.iconst 3, 1) := by decide +kernel
theorem dX4_digest_40 : decode cX4_digest 40 = .ok (.if_icmp .gt 22, 3) := by decide +kernel
theorem dX4_digest_43 : decode cX4_digest 43 = .ok (.lload_n 1, 1) := by decide +kernel
theorem dX4_digest_44 : decode cX4_digest 44 = .ok (.aload_n 0, 1) := by decide +kernel
theorem dX4_digest_45 : decode cX4_digest 45 = .ok (.iload_n 3, 1) := by decide +kernel
theorem dX4_digest_46 : decode cX4_digest 46 = .ok (.iload 4, 2) := by decide +kernel
theorem dX4_digest_48 : decode cX4_digest 48 = .ok (.invokevirtual 228, 3) := by decide +kernel
theorem dX4_digest_51 : decode cX4_digest 51 = .ok (.i2l, 1) := by decide +kernel
theorem dX4_digest_52 : decode cX4_digest 52 = .ok (.invokestatic 231, 3) := by decide +kernel
theorem dX4_digest_55 : decode cX4_digest 55 = .ok (.lstore_n 1, 1) := by decide +kernel
theorem dX4_digest_56 : decode cX4_digest 56 = .ok (.iinc 4 1, 3) := by decide +kernel
theorem dX4_digest_59 : decode cX4_digest 59 = .ok (.goto (-22), 3) := by decide +kernel
theorem dX4_digest_62 : decode cX4_digest 62 = .ok (.iinc 3 1, 3) := by decide +kernel
theorem dX4_digest_65 : decode cX4_digest 65 = .ok (.goto (-36), 3) := by decide +kernel
theorem dX4_digest_68 : decode cX4_digest 68 = .ok (.iconst 0, 1) := by decide +kernel
theorem dX4_digest_69 : decode cX4_digest 69 = .ok (.istore_n 3, 1) := by decide +kernel
theorem dX4_digest_70 : decode cX4_digest 70 = .ok (.iload_n 3, 1) := by decide +kernel
theorem dX4_digest_71 : decode cX4_digest 71 = .ok (.bipush 12, 2) := by decide +kernel
theorem dX4_digest_73 : decode cX4_digest 73 = .ok (.if_icmp .ge 49, 3) := by decide +kernel
theorem dX4_digest_76 : decode cX4_digest 76 = .ok (.lload_n 1, 1) := by decide +kernel
theorem dX4_digest_77 : decode cX4_digest 77 = .ok (.aload_n 0, 1) := by decide +kernel
theorem dX4_digest_78 : decode cX4_digest 78 = .ok (.iload_n 3, 1) := by decide +kernel
theorem dX4_digest_79 : decode cX4_digest 79 = .ok (.invokevirtual 235, 3) := by decide +kernel
theorem dX4_digest_82 : decode cX4_digest 82 = .ok (.i2l, 1) := by decide +kernel
theorem dX4_digest_83 : decode cX4_digest 83 = .ok (.invokestatic 231, 3) := by decide +kernel
theorem dX4_digest_86 : decode cX4_digest 86 = .ok (.lstore_n 1, 1) := by decide +kernel
theorem dX4_digest_87 : decode cX4_digest 87 = .ok (.iconst 0, 1) := by decide +kernel
theorem dX4_digest_88 : decode cX4_digest 88 = .ok (.istore 4, 2) := by decide +kernel
theorem dX4_digest_90 : decode cX4_digest 90 = .ok (.iload 4, 2) := by decide +kernel
theorem dX4_digest_92 : decode cX4_digest 92 = .ok (.bipush 6, 2) := by decide +kernel
theorem dX4_digest_94 : decode cX4_digest 94 = .ok (.if_icmp .gt 22, 3) := by decide +kernel
theorem dX4_digest_97 : decode cX4_digest 97 = .ok (.lload_n 1, 1) := by decide +kernel
theorem dX4_digest_98 : decode cX4_digest 98 = .ok (.aload_n 0, 1) := by decide +kernel
theorem dX4_digest_99 : decode cX4_digest 99 = .ok (.iload_n 3, 1) := by decide +kernel
theorem dX4_digest_100 : decode cX4_digest 100 = .ok (.iload 4, 2) := by decide +kernel
theorem dX4_digest_102 : decode cX4_digest 102 = .ok (.invokevirtual 238, 3) := by decide +kernel
theorem dX4_digest_105 : decode cX4_digest 105 = .ok (.i2l, 1) := by decide +kernel
theorem dX4_digest_106 : decode cX4_digest 106 = .ok (.invokestatic 231, 3) := by decide +kernel
theorem dX4_digest_109 : decode cX4_digest 109 = .ok (.lstore_n 1, 1) := by decide +kernel
theorem dX4_digest_110 : decode cX4_digest 110 = .ok (.iinc 4 1, 3) := by decide +kernel
theorem dX4_digest_113 : decode cX4_digest 113 = .ok (.goto (-23), 3) := by decide +kernel
theorem dX4_digest_116 : decode cX4_digest 116 = .ok (.iinc 3 1, 3) := by decide +kernel
theorem dX4_digest_119 : decode cX4_digest 119 = .ok (.goto (-49), 3) := by decide +kernel
theorem dX4_digest_122 : decode cX4_digest 122 = .ok (.iconst 0, 1) := by decide +kernel
theorem dX4_digest_123 : decode cX4_digest 123 = .ok (.istore_n 3, 1) := by decide +kernel
theorem dX4_digest_124 : decode cX4_digest 124 = .ok (.iload_n 3, 1) := by decide +kernel
theorem dX4_digest_125 : decode cX4_digest 125 = .ok (.aload_n 0, 1) := by decide +kernel
theorem dX4_digest_126 : decode cX4_digest 126 = .ok (.getfield 10, 3) := by decide +kernel
theorem dX4_digest_129 : decode cX4_digest 129 = .ok (.getfield 56, 3) := by decide +kernel
theorem dX4_digest_132 : decode cX4_digest 132 = .ok (.if_icmp .ge 23, 3) := by decide +kernel
theorem dX4_digest_135 : decode cX4_digest 135 = .ok (.lload_n 1, 1) := by decide +kernel
theorem dX4_digest_136 : decode cX4_digest 136 = .ok (.aload_n 0, 1) := by decide +kernel
theorem dX4_digest_137 : decode cX4_digest 137 = .ok (.getfield 10, 3) := by decide +kernel
theorem dX4_digest_140 : decode cX4_digest 140 = .ok (.iload_n 3, 1) := by decide +kernel
theorem dX4_digest_141 : decode cX4_digest 141 = .ok (.invokevirtual 241, 3) := by decide +kernel
theorem dX4_digest_144 : decode cX4_digest 144 = .ok (.i2l, 1) := by decide +kernel
theorem dX4_digest_145 : decode cX4_digest 145 = .ok (.invokestatic 231, 3) := by decide +kernel
theorem dX4_digest_148 : decode cX4_digest 148 = .ok (.lstore_n 1, 1) := by decide +kernel
theorem dX4_digest_149 : decode cX4_digest 149 = .ok (.iinc 3 1, 3) := by decide +kernel
theorem dX4_digest_152 : decode cX4_digest 152 = .ok (.goto (-28), 3) := by decide +kernel
theorem dX4_digest_155 : decode cX4_digest 155 = .ok (.iconst 0, 1) := by decide +kernel
theorem dX4_digest_156 : decode cX4_digest 156 = .ok (.istore_n 3, 1) := by decide +kernel
theorem dX4_digest_157 : decode cX4_digest 157 = .ok (.iload_n 3, 1) := by decide +kernel
theorem dX4_digest_158 : decode cX4_digest 158 = .ok (.bipush 11, 2) := by decide +kernel
theorem dX4_digest_160 : decode cX4_digest 160 = .ok (.if_icmp .gt 20, 3) := by decide +kernel
theorem dX4_digest_163 : decode cX4_digest 163 = .ok (.lload_n 1, 1) := by decide +kernel
theorem dX4_digest_164 : decode cX4_digest 164 = .ok (.aload_n 0, 1) := by decide +kernel
theorem dX4_digest_165 : decode cX4_digest 165 = .ok (.iload_n 3, 1) := by decide +kernel
theorem dX4_digest_166 : decode cX4_digest 166 = .ok (.invokevirtual 244, 3) := by decide +kernel
theorem dX4_digest_169 : decode cX4_digest 169 = .ok (.i2l, 1) := by decide +kernel
theorem dX4_digest_170 : decode cX4_digest 170 = .ok (.invokestatic 231, 3) := by decide +kernel
theorem dX4_digest_173 : decode cX4_digest 173 = .ok (.lstore_n 1, 1) := by decide +kernel
theorem dX4_digest_174 : decode cX4_digest 174 = .ok (.iinc 3 1, 3) := by decide +kernel
theorem dX4_digest_177 : decode cX4_digest 177 = .ok (.goto (-20), 3) := by decide +kernel
theorem dX4_digest_180 : decode cX4_digest 180 = .ok (.lload_n 1, 1) := by decide +kernel
theorem dX4_digest_181 : decode cX4_digest 181 = .ok (.lreturn, 1) := by decide +kernel
theorem dX4_digestPort_0 : decode cX4_digestPort 0 = .ok (.lload_n 1, 1) := by decide +kernel
theorem dX4_digestPort_1 : decode cX4_digestPort 1 = .ok (.lstore 4, 2) := by decide +kernel
theorem dX4_digestPort_3 : decode cX4_digestPort 3 = .ok (.iconst 0, 1) := by decide +kernel
theorem dX4_digestPort_4 : decode cX4_digestPort 4 = .ok (.istore 6, 2) := by decide +kernel
theorem dX4_digestPort_6 : decode cX4_digestPort 6 = .ok (.iload 6, 2) := by decide +kernel
theorem dX4_digestPort_8 : decode cX4_digestPort 8 = .ok (.bipush 9, 2) := by decide +kernel
theorem dX4_digestPort_10 : decode cX4_digestPort 10 = .ok (.if_icmp .gt 24, 3) := by decide +kernel
theorem dX4_digestPort_13 : decode cX4_digestPort 13 = .ok (.lload 4, 2) := by decide +kernel
theorem dX4_digestPort_15 : decode cX4_digestPort 15 = .ok (.aload_n 0, 1) := by decide +kernel
theorem dX4_digestPort_16 : decode cX4_digestPort 16 = .ok (.iload_n 3, 1) := by decide +kernel
theorem dX4_digestPort_17 : decode cX4_digestPort 17 = .ok (.iload 6, 2) := by decide +kernel
theorem dX4_digestPort_19 : decode cX4_digestPort 19 = .ok (.invokevirtual 247, 3) := by decide +kernel
theorem dX4_digestPort_22 : decode cX4_digestPort 22 = .ok (.i2l, 1) := by decide +kernel
theorem dX4_digestPort_23 : decode cX4_digestPort 23 = .ok (.invokestatic 231, 3) := by decide +kernel
theorem dX4_digestPort_26 : decode cX4_digestPort 26 = .ok (.lstore 4, 2) := by decide +kernel
theorem dX4_digestPort_28 : decode cX4_digestPort 28 = .ok (.iinc 6 1, 3) := by decide +kernel
theorem dX4_digestPort_31 : decode cX4_digestPort 31 = .ok (.goto (-25), 3) := by decide +kernel
theorem dX4_digestPort_34 : decode cX4_digestPort 34 = .ok (.aload_n 0, 1) := by decide +kernel
theorem dX4_digestPort_35 : decode cX4_digestPort 35 = .ok (.iload_n 3, 1) := by decide +kernel
theorem dX4_digestPort_36 : decode cX4_digestPort 36 = .ok (.bipush 9, 2) := by decide +kernel
theorem dX4_digestPort_38 : decode cX4_digestPort 38 = .ok (.invokevirtual 247, 3) := by decide +kernel
theorem dX4_digestPort_41 : decode cX4_digestPort 41 = .ok (.istore 6, 2) := by decide +kernel
theorem dX4_digestPort_43 : decode cX4_digestPort 43 = .ok (.iconst 0, 1) := by decide +kernel
theorem dX4_digestPort_44 : decode cX4_digestPort 44 = .ok (.istore 7, 2) := by decide +kernel
theorem dX4_digestPort_46 : decode cX4_digestPort 46 = .ok (.iload 7, 2) := by decide +kernel
theorem dX4_digestPort_48 : decode cX4_digestPort 48 = .ok (.iload 6, 2) := by decide +kernel
theorem dX4_digestPort_50 : decode cX4_digestPort 50 = .ok (.if_icmp .ge 24, 3) := by decide +kernel
theorem dX4_digestPort_53 : decode cX4_digestPort 53 = .ok (.lload 4, 2) := by decide +kernel
theorem dX4_digestPort_55 : decode cX4_digestPort 55 = .ok (.aload_n 0, 1) := by decide +kernel
theorem dX4_digestPort_56 : decode cX4_digestPort 56 = .ok (.iload_n 3, 1) := by decide +kernel
theorem dX4_digestPort_57 : decode cX4_digestPort 57 = .ok (.iload 7, 2) := by decide +kernel
theorem dX4_digestPort_59 : decode cX4_digestPort 59 = .ok (.invokevirtual 250, 3) := by decide +kernel
theorem dX4_digestPort_62 : decode cX4_digestPort 62 = .ok (.i2l, 1) := by decide +kernel
theorem dX4_digestPort_63 : decode cX4_digestPort 63 = .ok (.invokestatic 231, 3) := by decide +kernel
theorem dX4_digestPort_66 : decode cX4_digestPort 66 = .ok (.lstore 4, 2) := by decide +kernel
theorem dX4_digestPort_68 : decode cX4_digestPort 68 = .ok (.iinc 7 1, 3) := by decide +kernel
theorem dX4_digestPort_71 : decode cX4_digestPort 71 = .ok (.goto (-25), 3) := by decide +kernel
theorem dX4_digestPort_74 : decode cX4_digestPort 74 = .ok (.lload 4, 2) := by decide +kernel
theorem dX4_digestPort_76 : decode cX4_digestPort 76 = .ok (.lreturn, 1) := by decide +kernel
theorem dX4_mix_0 : decode cX4_mix 0 = .ok (.ldc2_w 252, 3) := by decide +kernel
theorem dX4_mix_3 : decode cX4_mix 3 = .ok (.lload_n 0, 1) := by decide +kernel
theorem dX4_mix_4 : decode cX4_mix 4 = .ok (.lmul, 1) := by decide +kernel
theorem dX4_mix_5 : decode cX4_mix 5 = .ok (.lload_n 2, 1) := by decide +kernel
theorem dX4_mix_6 : decode cX4_mix 6 = .ok (.ladd, 1) := by decide +kernel
theorem dX4_mix_7 : decode cX4_mix 7 = .ok (.lreturn, 1) := by decide +kernel
theorem dX4_asNumber_0 : decode cX4_asNumber 0 = .ok (.iload_n 0, 1) := by decide +kernel
theorem dX4_asNumber_1 : decode cX4_asNumber 1 = .ok (.ifCond .eq 7, 3) := by decide +kernel
theorem dX4_asNumber_4 : decode cX4_asNumber 4 = .ok (.iconst 1, 1) := by decide +kernel
theorem dX4_asNumber_5 : decode cX4_asNumber 5 = .ok (.goto 4, 3) := by decide +kernel
theorem dX4_asNumber_8 : decode cX4_asNumber 8 = .ok (.iconst 0, 1) := by decide +kernel
theorem dX4_asNumber_9 : decode cX4_asNumber 9 = .ok (.ireturn, 1) := by decide +kernel
theorem dX4_isPort_0 : decode cX4_isPort 0 = .ok (.iload_n 1, 1) := by decide +kernel
theorem dX4_isPort_1 : decode cX4_isPort 1 = .ok (.ifCond .lt 21, 3) := by decide +kernel
theorem dX4_isPort_4 : decode cX4_isPort 4 = .ok (.iload_n 1, 1) := by decide +kernel
theorem dX4_isPort_5 : decode cX4_isPort 5 = .ok (.aload_n 0, 1) := by decide +kernel
theorem dX4_isPort_6 : decode cX4_isPort 6 = .ok (.getfield 28, 3) := by decide +kernel
theorem dX4_isPort_9 : decode cX4_isPort 9 = .ok (.if_icmp .ge 13, 3) := by decide +kernel
theorem dX4_isPort_12 : decode cX4_isPort 12 = .ok (.iload_n 1, 1) := by decide +kernel
theorem dX4_isPort_13 : decode cX4_isPort 13 = .ok (.bipush 6, 2) := by decide +kernel
theorem dX4_isPort_15 : decode cX4_isPort 15 = .ok (.if_icmp .ge 7, 3) := by decide +kernel
theorem dX4_isPort_18 : decode cX4_isPort 18 = .ok (.iconst 1, 1) := by decide +kernel
theorem dX4_isPort_19 : decode cX4_isPort 19 = .ok (.goto 4, 3) := by decide +kernel
theorem dX4_isPort_22 : decode cX4_isPort 22 = .ok (.iconst 0, 1) := by decide +kernel
theorem dX4_isPort_23 : decode cX4_isPort 23 = .ok (.ireturn, 1) := by decide +kernel
theorem dX4_isKey_0 : decode cX4_isKey 0 = .ok (.iload_n 0, 1) := by decide +kernel
theorem dX4_isKey_1 : decode cX4_isKey 1 = .ok (.ifCond .lt 12, 3) := by decide +kernel
theorem dX4_isKey_4 : decode cX4_isKey 4 = .ok (.iload_n 0, 1) := by decide +kernel
theorem dX4_isKey_5 : decode cX4_isKey 5 = .ok (.iconst 4, 1) := by decide +kernel
theorem dX4_isKey_6 : decode cX4_isKey 6 = .ok (.if_icmp .ge 7, 3) := by decide +kernel
theorem dX4_isKey_9 : decode cX4_isKey 9 = .ok (.iconst 1, 1) := by decide +kernel
theorem dX4_isKey_10 : decode cX4_isKey 10 = .ok (.goto 4, 3) := by decide +kernel
theorem dX4_isKey_13 : decode cX4_isKey 13 = .ok (.iconst 0, 1) := by decide +kernel
theorem dX4_isKey_14 : decode cX4_isKey 14 = .ok (.ireturn, 1) := by decide +kernel
theorem dX4_isFlow_0 : decode cX4_isFlow 0 = .ok (.iload_n 0, 1) := by decide +kernel
theorem dX4_isFlow_1 : decode cX4_isFlow 1 = .ok (.ifCond .lt 13, 3) := by decide +kernel
theorem dX4_isFlow_4 : decode cX4_isFlow 4 = .ok (.iload_n 0, 1) := by decide +kernel
theorem dX4_isFlow_5 : decode cX4_isFlow 5 = .ok (.bipush 12, 2) := by decide +kernel
theorem dX4_isFlow_7 : decode cX4_isFlow 7 = .ok (.if_icmp .ge 7, 3) := by decide +kernel
theorem dX4_isFlow_10 : decode cX4_isFlow 10 = .ok (.iconst 1, 1) := by decide +kernel
theorem dX4_isFlow_11 : decode cX4_isFlow 11 = .ok (.goto 4, 3) := by decide +kernel
theorem dX4_isFlow_14 : decode cX4_isFlow 14 = .ok (.iconst 0, 1) := by decide +kernel
theorem dX4_isFlow_15 : decode cX4_isFlow 15 = .ok (.ireturn, 1) := by decide +kernel
theorem dX4_changeWidth_0 : decode cX4_changeWidth 0 = .ok (.iload_n 1, 1) := by decide +kernel
theorem dX4_changeWidth_1 : decode cX4_changeWidth 1 = .ok (.iconst 1, 1) := by decide +kernel
theorem dX4_changeWidth_2 : decode cX4_changeWidth 2 = .ok (.if_icmp .lt 9, 3) := by decide +kernel
theorem dX4_changeWidth_5 : decode cX4_changeWidth 5 = .ok (.iload_n 1, 1) := by decide +kernel
theorem dX4_changeWidth_6 : decode cX4_changeWidth 6 = .ok (.bipush 6, 2) := by decide +kernel
theorem dX4_changeWidth_8 : decode cX4_changeWidth 8 = .ok (.if_icmp .le 7, 3) := by decide +kernel
theorem dX4_changeWidth_11 : decode cX4_changeWidth 11 = .ok (.sipush (-1002), 3) := by decide +kernel
theorem dX4_changeWidth_14 : decode cX4_changeWidth 14 = .ok (.ireturn, 1) := by decide +kernel
theorem dX4_changeWidth_15 : decode cX4_changeWidth 15 = .ok (.aload_n 0, 1) := by decide +kernel
theorem dX4_changeWidth_16 : decode cX4_changeWidth 16 = .ok (.getfield 32, 3) := by decide +kernel
theorem dX4_changeWidth_19 : decode cX4_changeWidth 19 = .ok (.istore_n 2, 1) := by decide +kernel
theorem dX4_changeWidth_20 : decode cX4_changeWidth 20 = .ok (.aload_n 0, 1) := by decide +kernel
theorem dX4_changeWidth_21 : decode cX4_changeWidth 21 = .ok (.iload_n 1, 1) := by decide +kernel
theorem dX4_changeWidth_22 : decode cX4_changeWidth 22 = .ok (.putfield 32, 3) := by decide +kernel
theorem dX4_changeWidth_25 : decode cX4_changeWidth 25 = .ok (.aload_n 0, 1) := by decide +kernel
theorem dX4_changeWidth_26 : decode cX4_changeWidth 26 = .ok (.invokevirtual 98, 3) := by decide +kernel
theorem dX4_changeWidth_29 : decode cX4_changeWidth 29 = .ok (.iload_n 2, 1) := by decide +kernel
theorem dX4_changeWidth_30 : decode cX4_changeWidth 30 = .ok (.ireturn, 1) := by decide +kernel
theorem dX4_changeWait_0 : decode cX4_changeWait 0 = .ok (.iload_n 1, 1) := by decide +kernel
theorem dX4_changeWait_1 : decode cX4_changeWait 1 = .ok (.ifCond .lt 9, 3) := by decide +kernel
theorem dX4_changeWait_4 : decode cX4_changeWait 4 = .ok (.iload_n 1, 1) := by decide +kernel
theorem dX4_changeWait_5 : decode cX4_changeWait 5 = .ok (.bipush 9, 2) := by decide +kernel
theorem dX4_changeWait_7 : decode cX4_changeWait 7 = .ok (.if_icmp .le 7, 3) := by decide +kernel
theorem dX4_changeWait_10 : decode cX4_changeWait 10 = .ok (.sipush (-1002), 3) := by decide +kernel
theorem dX4_changeWait_13 : decode cX4_changeWait 13 = .ok (.ireturn, 1) := by decide +kernel
theorem dX4_changeWait_14 : decode cX4_changeWait 14 = .ok (.aload_n 0, 1) := by decide +kernel
theorem dX4_changeWait_15 : decode cX4_changeWait 15 = .ok (.getfield 35, 3) := by decide +kernel
theorem dX4_changeWait_18 : decode cX4_changeWait 18 = .ok (.istore_n 2, 1) := by decide +kernel
theorem dX4_changeWait_19 : decode cX4_changeWait 19 = .ok (.aload_n 0, 1) := by decide +kernel
theorem dX4_changeWait_20 : decode cX4_changeWait 20 = .ok (.iload_n 1, 1) := by decide +kernel
theorem dX4_changeWait_21 : decode cX4_changeWait 21 = .ok (.putfield 35, 3) := by decide +kernel
theorem dX4_changeWait_24 : decode cX4_changeWait 24 = .ok (.iload_n 2, 1) := by decide +kernel
theorem dX4_changeWait_25 : decode cX4_changeWait 25 = .ok (.ireturn, 1) := by decide +kernel
theorem dX4_changeShift_0 : decode cX4_changeShift 0 = .ok (.iload_n 1, 1) := by decide +kernel
theorem dX4_changeShift_1 : decode cX4_changeShift 1 = .ok (.ifCond .lt 9, 3) := by decide +kernel
theorem dX4_changeShift_4 : decode cX4_changeShift 4 = .ok (.iload_n 1, 1) := by decide +kernel
theorem dX4_changeShift_5 : decode cX4_changeShift 5 = .ok (.bipush 9, 2) := by decide +kernel
theorem dX4_changeShift_7 : decode cX4_changeShift 7 = .ok (.if_icmp .le 7, 3) := by decide +kernel
theorem dX4_changeShift_10 : decode cX4_changeShift 10 = .ok (.sipush (-1002), 3) := by decide +kernel
theorem dX4_changeShift_13 : decode cX4_changeShift 13 = .ok (.ireturn, 1) := by decide +kernel
theorem dX4_changeShift_14 : decode cX4_changeShift 14 = .ok (.aload_n 0, 1) := by decide +kernel
theorem dX4_changeShift_15 : decode cX4_changeShift 15 = .ok (.getfield 38, 3) := by decide +kernel
theorem dX4_changeShift_18 : decode cX4_changeShift 18 = .ok (.istore_n 2, 1) := by decide +kernel
theorem dX4_changeShift_19 : decode cX4_changeShift 19 = .ok (.aload_n 0, 1) := by decide +kernel
theorem dX4_changeShift_20 : decode cX4_changeShift 20 = .ok (.iload_n 1, 1) := by decide +kernel
theorem dX4_changeShift_21 : decode cX4_changeShift 21 = .ok (.putfield 38, 3) := by decide +kernel
theorem dX4_changeShift_24 : decode cX4_changeShift 24 = .ok (.iload_n 2, 1) := by decide +kernel
theorem dX4_changeShift_25 : decode cX4_changeShift 25 = .ok (.ireturn, 1) := by decide +kernel
theorem dX4_chooseAll_0 : decode cX4_chooseAll 0 = .ok (.iconst 0, 1) := by decide +kernel
theorem dX4_chooseAll_1 : decode cX4_chooseAll 1 = .ok (.istore_n 1, 1) := by decide +kernel
theorem dX4_chooseAll_2 : decode cX4_chooseAll 2 = .ok (.iload_n 1, 1) := by decide +kernel
theorem dX4_chooseAll_3 : decode cX4_chooseAll 3 = .ok (.iconst 4, 1) := by decide +kernel
theorem dX4_chooseAll_4 : decode cX4_chooseAll 4 = .ok (.if_icmp .ge 14, 3) := by decide +kernel
theorem dX4_chooseAll_7 : decode cX4_chooseAll 7 = .ok (.aload_n 0, 1) := by decide +kernel
theorem dX4_chooseAll_8 : decode cX4_chooseAll 8 = .ok (.iload_n 1, 1) := by decide +kernel
theorem dX4_chooseAll_9 : decode cX4_chooseAll 9 = .ok (.invokevirtual 254, 3) := by decide +kernel
theorem dX4_chooseAll_12 : decode cX4_chooseAll 12 = .ok (.iinc 1 1, 3) := by decide +kernel
theorem dX4_chooseAll_15 : decode cX4_chooseAll 15 = .ok (.goto (-13), 3) := by decide +kernel
theorem dX4_chooseAll_18 : decode cX4_chooseAll 18 = .ok (.return_, 1) := by decide +kernel
theorem dX4_chooseOfKey_0 : decode cX4_chooseOfKey 0 = .ok (.aload_n 0, 1) := by decide +kernel
theorem dX4_chooseOfKey_1 : decode cX4_chooseOfKey 1 = .ok (.iload_n 1, 1) := by decide +kernel
theorem dX4_chooseOfKey_2 : decode cX4_chooseOfKey 2 = .ok (.invokevirtual 168, 3) := by decide +kernel
theorem dX4_chooseOfKey_5 : decode cX4_chooseOfKey 5 = .ok (.istore_n 2, 1) := by decide +kernel
theorem dX4_chooseOfKey_6 : decode cX4_chooseOfKey 6 = .ok (.iconst 0, 1) := by decide +kernel
theorem dX4_chooseOfKey_7 : decode cX4_chooseOfKey 7 = .ok (.istore_n 3, 1) := by decide +kernel
theorem dX4_chooseOfKey_8 : decode cX4_chooseOfKey 8 = .ok (.iload_n 3, 1) := by decide +kernel
theorem dX4_chooseOfKey_9 : decode cX4_chooseOfKey 9 = .ok (.aload_n 0, 1) := by decide +kernel
theorem dX4_chooseOfKey_10 : decode cX4_chooseOfKey 10 = .ok (.getfield 28, 3) := by decide +kernel
theorem dX4_chooseOfKey_13 : decode cX4_chooseOfKey 13 = .ok (.if_icmp .ge 60, 3) := by decide +kernel
theorem dX4_chooseOfKey_16 : decode cX4_chooseOfKey 16 = .ok (.aload_n 0, 1) := by decide +kernel
theorem dX4_chooseOfKey_17 : decode cX4_chooseOfKey 17 = .ok (.getfield 18, 3) := by decide +kernel
theorem dX4_chooseOfKey_20 : decode cX4_chooseOfKey 20 = .ok (.iload_n 3, 1) := by decide +kernel
theorem dX4_chooseOfKey_21 : decode cX4_chooseOfKey 21 = .ok (.aaload, 1) := by decide +kernel
theorem dX4_chooseOfKey_22 : decode cX4_chooseOfKey 22 = .ok (.getfield 131, 3) := by decide +kernel
theorem dX4_chooseOfKey_25 : decode cX4_chooseOfKey 25 = .ok (.iload_n 1, 1) := by decide +kernel
theorem dX4_chooseOfKey_26 : decode cX4_chooseOfKey 26 = .ok (.if_icmp .ne 41, 3) := by decide +kernel
theorem dX4_chooseOfKey_29 : decode cX4_chooseOfKey 29 = .ok (.aload_n 0, 1) := by decide +kernel
theorem dX4_chooseOfKey_30 : decode cX4_chooseOfKey 30 = .ok (.getfield 18, 3) := by decide +kernel
theorem dX4_chooseOfKey_33 : decode cX4_chooseOfKey 33 = .ok (.iload_n 3, 1) := by decide +kernel
theorem dX4_chooseOfKey_34 : decode cX4_chooseOfKey 34 = .ok (.aaload, 1) := by decide +kernel
theorem dX4_chooseOfKey_35 : decode cX4_chooseOfKey 35 = .ok (.aload_n 0, 1) := by decide +kernel
theorem dX4_chooseOfKey_36 : decode cX4_chooseOfKey 36 = .ok (.iload_n 3, 1) := by decide +kernel
theorem dX4_chooseOfKey_37 : decode cX4_chooseOfKey 37 = .ok (.iload_n 2, 1) := by decide +kernel
theorem dX4_chooseOfKey_38 : decode cX4_chooseOfKey 38 = .ok (.invokevirtual 257, 3) := by decide +kernel
theorem dX4_chooseOfKey_41 : decode cX4_chooseOfKey 41 = .ok (.putfield 260, 3) := by decide +kernel
theorem dX4_chooseOfKey_44 : decode cX4_chooseOfKey 44 = .ok (.aload_n 0, 1) := by decide +kernel
theorem dX4_chooseOfKey_45 : decode cX4_chooseOfKey 45 = .ok (.getfield 18, 3) := by decide +kernel
theorem dX4_chooseOfKey_48 : decode cX4_chooseOfKey 48 = .ok (.iload_n 3, 1) := by decide +kernel
theorem dX4_chooseOfKey_49 : decode cX4_chooseOfKey 49 = .ok (.aaload, 1) := by decide +kernel
theorem dX4_chooseOfKey_50 : decode cX4_chooseOfKey 50 = .ok (.getfield 260, 3) := by decide +kernel
theorem dX4_chooseOfKey_53 : decode cX4_chooseOfKey 53 = .ok (.iconst 2, 1) := by decide +kernel
theorem dX4_chooseOfKey_54 : decode cX4_chooseOfKey 54 = .ok (.if_icmp .eq 13, 3) := by decide +kernel
theorem dX4_chooseOfKey_57 : decode cX4_chooseOfKey 57 = .ok (.aload_n 0, 1) := by decide +kernel
theorem dX4_chooseOfKey_58 : decode cX4_chooseOfKey 58 = .ok (.getfield 18, 3) := by decide +kernel
theorem dX4_chooseOfKey_61 : decode cX4_chooseOfKey 61 = .ok (.iload_n 3, 1) := by decide +kernel
theorem dX4_chooseOfKey_62 : decode cX4_chooseOfKey 62 = .ok (.aaload, 1) := by decide +kernel
theorem dX4_chooseOfKey_63 : decode cX4_chooseOfKey 63 = .ok (.iconst 0, 1) := by decide +kernel
theorem dX4_chooseOfKey_64 : decode cX4_chooseOfKey 64 = .ok (.putfield 150, 3) := by decide +kernel
theorem dX4_chooseOfKey_67 : decode cX4_chooseOfKey 67 = .ok (.iinc 3 1, 3) := by decide +kernel
theorem dX4_chooseOfKey_70 : decode cX4_chooseOfKey 70 = .ok (.goto (-62), 3) := by decide +kernel
theorem dX4_chooseOfKey_73 : decode cX4_chooseOfKey 73 = .ok (.return_, 1) := by decide +kernel
theorem dX4_choiceOf_0 : decode cX4_choiceOf 0 = .ok (.aload_n 0, 1) := by decide +kernel
theorem dX4_choiceOf_1 : decode cX4_choiceOf 1 = .ok (.iload_n 2, 1) := by decide +kernel
theorem dX4_choiceOf_2 : decode cX4_choiceOf 2 = .ok (.invokevirtual 92, 3) := by decide +kernel
theorem dX4_choiceOf_5 : decode cX4_choiceOf 5 = .ok (.ifCond .eq 21, 3) := by decide +kernel
theorem dX4_choiceOf_8 : decode cX4_choiceOf 8 = .ok (.aload_n 0, 1) := by decide +kernel
theorem dX4_choiceOf_9 : decode cX4_choiceOf 9 = .ok (.getfield 18, 3) := by decide +kernel
theorem dX4_choiceOf_12 : decode cX4_choiceOf 12 = .ok (.iload_n 1, 1) := by decide +kernel
theorem dX4_choiceOf_13 : decode cX4_choiceOf 13 = .ok (.aaload, 1) := by decide +kernel
theorem dX4_choiceOf_14 : decode cX4_choiceOf 14 = .ok (.aload_n 0, 1) := by decide +kernel
theorem dX4_choiceOf_15 : decode cX4_choiceOf 15 = .ok (.getfield 18, 3) := by decide +kernel
theorem dX4_choiceOf_18 : decode cX4_choiceOf 18 = .ok (.iload_n 2, 1) := by decide +kernel
theorem dX4_choiceOf_19 : decode cX4_choiceOf 19 = .ok (.aaload, 1) := by decide +kernel
theorem dX4_choiceOf_20 : decode cX4_choiceOf 20 = .ok (.invokevirtual 263, 3) := by decide +kernel
theorem dX4_choiceOf_23 : decode cX4_choiceOf 23 = .ok (.ifCond .ne 5, 3) := by decide +kernel
theorem dX4_choiceOf_26 : decode cX4_choiceOf 26 = .ok (.iconst 0, 1) := by decide +kernel
theorem dX4_choiceOf_27 : decode cX4_choiceOf 27 = .ok (.ireturn, 1) := by decide +kernel
theorem dX4_choiceOf_28 : decode cX4_choiceOf 28 = .ok (.iconst 0, 1) := by decide +kernel
theorem dX4_choiceOf_29 : decode cX4_choiceOf 29 = .ok (.istore_n 3, 1) := by decide +kernel
theorem dX4_choiceOf_30 : decode cX4_choiceOf 30 = .ok (.iconst 0, 1) := by decide +kernel
theorem dX4_choiceOf_31 : decode cX4_choiceOf 31 = .ok (.istore 4, 2) := by decide +kernel
theorem dX4_choiceOf_33 : decode cX4_choiceOf 33 = .ok (.iload 4, 2) := by decide +kernel
theorem dX4_choiceOf_35 : decode cX4_choiceOf 35 = .ok (.aload_n 0, 1) := by decide +kernel
theorem dX4_choiceOf_36 : decode cX4_choiceOf 36 = .ok (.getfield 28, 3) := by decide +kernel
theorem dX4_choiceOf_39 : decode cX4_choiceOf 39 = .ok (.if_icmp .ge 41, 3) := by decide +kernel
theorem dX4_choiceOf_42 : decode cX4_choiceOf 42 = .ok (.aload_n 0, 1) := by decide +kernel
theorem dX4_choiceOf_43 : decode cX4_choiceOf 43 = .ok (.getfield 18, 3) := by decide +kernel
theorem dX4_choiceOf_46 : decode cX4_choiceOf 46 = .ok (.iload 4, 2) := by decide +kernel
theorem dX4_choiceOf_48 : decode cX4_choiceOf 48 = .ok (.aaload, 1) := by decide +kernel
theorem dX4_choiceOf_49 : decode cX4_choiceOf 49 = .ok (.aload_n 0, 1) := by decide +kernel
theorem dX4_choiceOf_50 : decode cX4_choiceOf 50 = .ok (.getfield 18, 3) := by decide +kernel
theorem dX4_choiceOf_53 : decode cX4_choiceOf 53 = .ok (.iload_n 2, 1) := by decide +kernel
theorem dX4_choiceOf_54 : decode cX4_choiceOf 54 = .ok (.aaload, 1) := by decide +kernel
theorem dX4_choiceOf_55 : decode cX4_choiceOf 55 = .ok (.invokevirtual 263, 3) := by decide +kernel
theorem dX4_choiceOf_58 : decode cX4_choiceOf 58 = .ok (.ifCond .eq 16, 3) := by decide +kernel
theorem dX4_choiceOf_61 : decode cX4_choiceOf 61 = .ok (.aload_n 0, 1) := by decide +kernel
theorem dX4_choiceOf_62 : decode cX4_choiceOf 62 = .ok (.iload 4, 2) := by decide +kernel
theorem dX4_choiceOf_64 : decode cX4_choiceOf 64 = .ok (.iload_n 1, 1) := by decide +kernel
theorem dX4_choiceOf_65 : decode cX4_choiceOf 65 = .ok (.invokevirtual 266, 3) := by decide +kernel
theorem dX4_choiceOf_68 : decode cX4_choiceOf 68 = .ok (.ifCond .eq 6, 3) := by decide +kernel
theorem dX4_choiceOf_71 : decode cX4_choiceOf 71 = .ok (.iinc 3 1, 3) := by decide +kernel
theorem dX4_choiceOf_74 : decode cX4_choiceOf 74 = .ok (.iinc 4 1, 3) := by decide +kernel
theorem dX4_choiceOf_77 : decode cX4_choiceOf 77 = .ok (.goto (-44), 3) := by decide +kernel
theorem dX4_choiceOf_80 : decode cX4_choiceOf 80 = .ok (.iload_n 3, 1) := by decide +kernel
theorem dX4_choiceOf_81 : decode cX4_choiceOf 81 = .ok (.aload_n 0, 1) := by decide +kernel
theorem dX4_choiceOf_82 : decode cX4_choiceOf 82 = .ok (.getfield 32, 3) := by decide +kernel
theorem dX4_choiceOf_85 : decode cX4_choiceOf 85 = .ok (.if_icmp .ge 7, 3) := by decide +kernel
theorem dX4_choiceOf_88 : decode cX4_choiceOf 88 = .ok (.iconst 2, 1) := by decide +kernel
theorem dX4_choiceOf_89 : decode cX4_choiceOf 89 = .ok (.goto 4, 3) := by decide +kernel
theorem dX4_choiceOf_92 : decode cX4_choiceOf 92 = .ok (.iconst 1, 1) := by decide +kernel
theorem dX4_choiceOf_93 : decode cX4_choiceOf 93 = .ok (.ireturn, 1) := by decide +kernel
theorem dX4_leadOf_0 : decode cX4_leadOf 0 = .ok (.iconst (-1), 1) := by decide +kernel
theorem dX4_leadOf_1 : decode cX4_leadOf 1 = .ok (.istore_n 2, 1) := by decide +kernel
theorem dX4_leadOf_2 : decode cX4_leadOf 2 = .ok (.iconst 0, 1) := by decide +kernel
theorem dX4_leadOf_3 : decode cX4_leadOf 3 = .ok (.istore_n 3, 1) := by decide +kernel
theorem dX4_leadOf_4 : decode cX4_leadOf 4 = .ok (.iload_n 3, 1) := by decide +kernel
theorem dX4_leadOf_5 : decode cX4_leadOf 5 = .ok (.aload_n 0, 1) := by decide +kernel
theorem dX4_leadOf_6 : decode cX4_leadOf 6 = .ok (.getfield 28, 3) := by decide +kernel
theorem dX4_leadOf_9 : decode cX4_leadOf 9 = .ok (.if_icmp .ge 50, 3) := by decide +kernel
theorem dX4_leadOf_12 : decode cX4_leadOf 12 = .ok (.aload_n 0, 1) := by decide +kernel
theorem dX4_leadOf_13 : decode cX4_leadOf 13 = .ok (.getfield 18, 3) := by decide +kernel
theorem dX4_leadOf_16 : decode cX4_leadOf 16 = .ok (.iload_n 3, 1) := by decide +kernel
theorem dX4_leadOf_17 : decode cX4_leadOf 17 = .ok (.aaload, 1) := by decide +kernel
theorem dX4_leadOf_18 : decode cX4_leadOf 18 = .ok (.getfield 131, 3) := by decide +kernel
theorem dX4_leadOf_21 : decode cX4_leadOf 21 = .ok (.iload_n 1, 1) := by decide +kernel
theorem dX4_leadOf_22 : decode cX4_leadOf 22 = .ok (.if_icmp .ne 31, 3) := by decide +kernel
theorem dX4_leadOf_25 : decode cX4_leadOf 25 = .ok (.aload_n 0, 1) := by decide +kernel
theorem dX4_leadOf_26 : decode cX4_leadOf 26 = .ok (.getfield 18, 3) := by decide +kernel
theorem dX4_leadOf_29 : decode cX4_leadOf 29 = .ok (.iload_n 3, 1) := by decide +kernel
theorem dX4_leadOf_30 : decode cX4_leadOf 30 = .ok (.aaload, 1) := by decide +kernel
theorem dX4_leadOf_31 : decode cX4_leadOf 31 = .ok (.getfield 109, 3) := by decide +kernel
theorem dX4_leadOf_34 : decode cX4_leadOf 34 = .ok (.ifCond .eq 19, 3) := by decide +kernel
theorem dX4_leadOf_37 : decode cX4_leadOf 37 = .ok (.iload_n 2, 1) := by decide +kernel
theorem dX4_leadOf_38 : decode cX4_leadOf 38 = .ok (.iconst (-1), 1) := by decide +kernel
theorem dX4_leadOf_39 : decode cX4_leadOf 39 = .ok (.if_icmp .eq 12, 3) := by decide +kernel
theorem dX4_leadOf_42 : decode cX4_leadOf 42 = .ok (.aload_n 0, 1) := by decide +kernel
theorem dX4_leadOf_43 : decode cX4_leadOf 43 = .ok (.iload_n 3, 1) := by decide +kernel
theorem dX4_leadOf_44 : decode cX4_leadOf 44 = .ok (.iload_n 2, 1) := by decide +kernel
theorem dX4_leadOf_45 : decode cX4_leadOf 45 = .ok (.invokevirtual 266, 3) := by decide +kernel
theorem dX4_leadOf_48 : decode cX4_leadOf 48 = .ok (.ifCond .eq 5, 3) := by decide +kernel
theorem dX4_leadOf_51 : decode cX4_leadOf 51 = .ok (.iload_n 3, 1) := by decide +kernel
theorem dX4_leadOf_52 : decode cX4_leadOf 52 = .ok (.istore_n 2, 1) := by decide +kernel
theorem dX4_leadOf_53 : decode cX4_leadOf 53 = .ok (.iinc 3 1, 3) := by decide +kernel
theorem dX4_leadOf_56 : decode cX4_leadOf 56 = .ok (.goto (-52), 3) := by decide +kernel
theorem dX4_leadOf_59 : decode cX4_leadOf 59 = .ok (.iload_n 2, 1) := by decide +kernel
theorem dX4_leadOf_60 : decode cX4_leadOf 60 = .ok (.ireturn, 1) := by decide +kernel
theorem dX4_isAhead_0 : decode cX4_isAhead 0 = .ok (.aload_n 0, 1) := by decide +kernel
theorem dX4_isAhead_1 : decode cX4_isAhead 1 = .ok (.getfield 18, 3) := by decide +kernel
theorem dX4_isAhead_4 : decode cX4_isAhead 4 = .ok (.iload_n 1, 1) := by decide +kernel
theorem dX4_isAhead_5 : decode cX4_isAhead 5 = .ok (.aaload, 1) := by decide +kernel
theorem dX4_isAhead_6 : decode cX4_isAhead 6 = .ok (.getfield 95, 3) := by decide +kernel
theorem dX4_isAhead_9 : decode cX4_isAhead 9 = .ok (.aload_n 0, 1) := by decide +kernel
theorem dX4_isAhead_10 : decode cX4_isAhead 10 = .ok (.getfield 18, 3) := by decide +kernel
theorem dX4_isAhead_13 : decode cX4_isAhead 13 = .ok (.iload_n 2, 1) := by decide +kernel
theorem dX4_isAhead_14 : decode cX4_isAhead 14 = .ok (.aaload, 1) := by decide +kernel
theorem dX4_isAhead_15 : decode cX4_isAhead 15 = .ok (.getfield 95, 3) := by decide +kernel
theorem dX4_isAhead_18 : decode cX4_isAhead 18 = .ok (.if_icmp .eq 30, 3) := by decide +kernel
theorem dX4_isAhead_21 : decode cX4_isAhead 21 = .ok (.aload_n 0, 1) := by decide +kernel
theorem dX4_isAhead_22 : decode cX4_isAhead 22 = .ok (.getfield 18, 3) := by decide +kernel
theorem dX4_isAhead_25 : decode cX4_isAhead 25 = .ok (.iload_n 1, 1) := by decide +kernel
theorem dX4_isAhead_26 : decode cX4_isAhead 26 = .ok (.aaload, 1) := by decide +kernel
theorem dX4_isAhead_27 : decode cX4_isAhead 27 = .ok (.getfield 95, 3) := by decide +kernel
theorem dX4_isAhead_30 : decode cX4_isAhead 30 = .ok (.aload_n 0, 1) := by decide +kernel
theorem dX4_isAhead_31 : decode cX4_isAhead 31 = .ok (.getfield 18, 3) := by decide +kernel
theorem dX4_isAhead_34 : decode cX4_isAhead 34 = .ok (.iload_n 2, 1) := by decide +kernel
theorem dX4_isAhead_35 : decode cX4_isAhead 35 = .ok (.aaload, 1) := by decide +kernel
theorem dX4_isAhead_36 : decode cX4_isAhead 36 = .ok (.getfield 95, 3) := by decide +kernel
theorem dX4_isAhead_39 : decode cX4_isAhead 39 = .ok (.if_icmp .ge 7, 3) := by decide +kernel
theorem dX4_isAhead_42 : decode cX4_isAhead 42 = .ok (.iconst 1, 1) := by decide +kernel
theorem dX4_isAhead_43 : decode cX4_isAhead 43 = .ok (.goto 4, 3) := by decide +kernel
theorem dX4_isAhead_46 : decode cX4_isAhead 46 = .ok (.iconst 0, 1) := by decide +kernel
theorem dX4_isAhead_47 : decode cX4_isAhead 47 = .ok (.ireturn, 1) := by decide +kernel
theorem dX4_isAhead_48 : decode cX4_isAhead 48 = .ok (.iload_n 1, 1) := by decide +kernel
theorem dX4_isAhead_49 : decode cX4_isAhead 49 = .ok (.iload_n 2, 1) := by decide +kernel
theorem dX4_isAhead_50 : decode cX4_isAhead 50 = .ok (.if_icmp .ge 7, 3) := by decide +kernel
theorem dX4_isAhead_53 : decode cX4_isAhead 53 = .ok (.iconst 1, 1) := by decide +kernel
theorem dX4_isAhead_54 : decode cX4_isAhead 54 = .ok (.goto 4, 3) := by decide +kernel
theorem dX4_isAhead_57 : decode cX4_isAhead 57 = .ok (.iconst 0, 1) := by decide +kernel
theorem dX4_isAhead_58 : decode cX4_isAhead 58 = .ok (.ireturn, 1) := by decide +kernel
theorem dX4_howItIs_0 : decode cX4_howItIs 0 = .ok (.aload_n 1, 1) := by decide +kernel
theorem dX4_howItIs_1 : decode cX4_howItIs 1 = .ok (.getfield 260, 3) := by decide +kernel
theorem dX4_howItIs_4 : decode cX4_howItIs 4 = .ok (.iconst 2, 1) := by decide +kernel
theorem dX4_howItIs_5 : decode cX4_howItIs 5 = .ok (.if_icmp .ne 14, 3) := by decide +kernel
theorem dX4_howItIs_8 : decode cX4_howItIs 8 = .ok (.aload_n 1, 1) := by decide +kernel
theorem dX4_howItIs_9 : decode cX4_howItIs 9 = .ok (.getfield 150, 3) := by decide +kernel
theorem dX4_howItIs_12 : decode cX4_howItIs 12 = .ok (.aload_n 0, 1) := by decide +kernel
theorem dX4_howItIs_13 : decode cX4_howItIs 13 = .ok (.getfield 35, 3) := by decide +kernel
theorem dX4_howItIs_16 : decode cX4_howItIs 16 = .ok (.if_icmp .ge 8, 3) := by decide +kernel
theorem dX4_howItIs_19 : decode cX4_howItIs 19 = .ok (.aload_n 1, 1) := by decide +kernel
theorem dX4_howItIs_20 : decode cX4_howItIs 20 = .ok (.getfield 260, 3) := by decide +kernel
theorem dX4_howItIs_23 : decode cX4_howItIs 23 = .ok (.ireturn, 1) := by decide +kernel
theorem dX4_howItIs_24 : decode cX4_howItIs 24 = .ok (.aload_n 1, 1) := by decide +kernel
theorem dX4_howItIs_25 : decode cX4_howItIs 25 = .ok (.getfield 140, 3) := by decide +kernel
theorem dX4_howItIs_28 : decode cX4_howItIs 28 = .ok (.ifCond .eq 7, 3) := by decide +kernel
theorem dX4_howItIs_31 : decode cX4_howItIs 31 = .ok (.iconst 4, 1) := by decide +kernel
theorem dX4_howItIs_32 : decode cX4_howItIs 32 = .ok (.goto 4, 3) := by decide +kernel
theorem dX4_howItIs_35 : decode cX4_howItIs 35 = .ok (.iconst 3, 1) := by decide +kernel
theorem dX4_howItIs_36 : decode cX4_howItIs 36 = .ok (.ireturn, 1) := by decide +kernel
theorem dX4_carries_0 : decode cX4_carries 0 = .ok (.aload_n 0, 1) := by decide +kernel
theorem dX4_carries_1 : decode cX4_carries 1 = .ok (.aload_n 1, 1) := by decide +kernel
theorem dX4_carries_2 : decode cX4_carries 2 = .ok (.invokevirtual 146, 3) := by decide +kernel
theorem dX4_carries_5 : decode cX4_carries 5 = .ok (.iconst 4, 1) := by decide +kernel
theorem dX4_carries_6 : decode cX4_carries 6 = .ok (.if_icmp .ne 7, 3) := by decide +kernel
theorem dX4_carries_9 : decode cX4_carries 9 = .ok (.iconst 1, 1) := by decide +kernel
theorem dX4_carries_10 : decode cX4_carries 10 = .ok (.goto 4, 3) := by decide +kernel
theorem dX4_carries_13 : decode cX4_carries 13 = .ok (.iconst 0, 1) := by decide +kernel
theorem dX4_carries_14 : decode cX4_carries 14 = .ok (.ireturn, 1) := by decide +kernel
theorem dX4_bitsOf_0 : decode cX4_bitsOf 0 = .ok (.iconst 0, 1) := by decide +kernel
theorem dX4_bitsOf_1 : decode cX4_bitsOf 1 = .ok (.istore 4, 2) := by decide +kernel
theorem dX4_bitsOf_3 : decode cX4_bitsOf 3 = .ok (.iconst 0, 1) := by decide +kernel
theorem dX4_bitsOf_4 : decode cX4_bitsOf 4 = .ok (.istore 5, 2) := by decide +kernel
theorem dX4_bitsOf_6 : decode cX4_bitsOf 6 = .ok (.iload 5, 2) := by decide +kernel
theorem dX4_bitsOf_8 : decode cX4_bitsOf 8 = .ok (.aload_n 0, 1) := by decide +kernel
theorem dX4_bitsOf_9 : decode cX4_bitsOf 9 = .ok (.getfield 28, 3) := by decide +kernel
theorem dX4_bitsOf_12 : decode cX4_bitsOf 12 = .ok (.if_icmp .ge 57, 3) := by decide +kernel
theorem dX4_bitsOf_15 : decode cX4_bitsOf 15 = .ok (.aload_n 0, 1) := by decide +kernel
theorem dX4_bitsOf_16 : decode cX4_bitsOf 16 = .ok (.aload_n 0, 1) := by decide +kernel
theorem dX4_bitsOf_17 : decode cX4_bitsOf 17 = .ok (.getfield 18, 3) := by decide +kernel
theorem dX4_bitsOf_20 : decode cX4_bitsOf 20 = .ok (.iload 5, 2) := by decide +kernel
theorem dX4_bitsOf_22 : decode cX4_bitsOf 22 = .ok (.aaload, 1) := by decide +kernel
theorem dX4_bitsOf_23 : decode cX4_bitsOf 23 = .ok (.invokevirtual 146, 3) := by decide +kernel
theorem dX4_bitsOf_26 : decode cX4_bitsOf 26 = .ok (.istore 6, 2) := by decide +kernel
theorem dX4_bitsOf_28 : decode cX4_bitsOf 28 = .ok (.aload_n 0, 1) := by decide +kernel
theorem dX4_bitsOf_29 : decode cX4_bitsOf 29 = .ok (.getfield 18, 3) := by decide +kernel
theorem dX4_bitsOf_32 : decode cX4_bitsOf 32 = .ok (.iload 5, 2) := by decide +kernel
theorem dX4_bitsOf_34 : decode cX4_bitsOf 34 = .ok (.aaload, 1) := by decide +kernel
theorem dX4_bitsOf_35 : decode cX4_bitsOf 35 = .ok (.getfield 131, 3) := by decide +kernel
theorem dX4_bitsOf_38 : decode cX4_bitsOf 38 = .ok (.iload_n 1, 1) := by decide +kernel
theorem dX4_bitsOf_39 : decode cX4_bitsOf 39 = .ok (.if_icmp .ne 24, 3) := by decide +kernel
theorem dX4_bitsOf_42 : decode cX4_bitsOf 42 = .ok (.iload 6, 2) := by decide +kernel
theorem dX4_bitsOf_44 : decode cX4_bitsOf 44 = .ok (.iload_n 2, 1) := by decide +kernel
theorem dX4_bitsOf_45 : decode cX4_bitsOf 45 = .ok (.if_icmp .lt 18, 3) := by decide +kernel
theorem dX4_bitsOf_48 : decode cX4_bitsOf 48 = .ok (.iload 6, 2) := by decide +kernel
theorem dX4_bitsOf_50 : decode cX4_bitsOf 50 = .ok (.iload_n 3, 1) := by decide +kernel
theorem dX4_bitsOf_51 : decode cX4_bitsOf 51 = .ok (.if_icmp .gt 12, 3) := by decide +kernel
theorem dX4_bitsOf_54 : decode cX4_bitsOf 54 = .ok (.iload 4, 2) := by decide +kernel
theorem dX4_bitsOf_56 : decode cX4_bitsOf 56 = .ok (.iconst 1, 1) := by decide +kernel
theorem dX4_bitsOf_57 : decode cX4_bitsOf 57 = .ok (.iload 5, 2) := by decide +kernel
theorem dX4_bitsOf_59 : decode cX4_bitsOf 59 = .ok (.ishl, 1) := by decide +kernel
theorem dX4_bitsOf_60 : decode cX4_bitsOf 60 = .ok (.ior, 1) := by decide +kernel
theorem dX4_bitsOf_61 : decode cX4_bitsOf 61 = .ok (.istore 4, 2) := by decide +kernel
theorem dX4_bitsOf_63 : decode cX4_bitsOf 63 = .ok (.iinc 5 1, 3) := by decide +kernel
theorem dX4_bitsOf_66 : decode cX4_bitsOf 66 = .ok (.goto (-60), 3) := by decide +kernel
theorem dX4_bitsOf_69 : decode cX4_bitsOf 69 = .ok (.iload 4, 2) := by decide +kernel
theorem dX4_bitsOf_71 : decode cX4_bitsOf 71 = .ok (.ireturn, 1) := by decide +kernel
theorem dX4_wayOf_0 : decode cX4_wayOf 0 = .ok (.aload_n 0, 1) := by decide +kernel
theorem dX4_wayOf_1 : decode cX4_wayOf 1 = .ok (.iload_n 1, 1) := by decide +kernel
theorem dX4_wayOf_2 : decode cX4_wayOf 2 = .ok (.iconst 4, 1) := by decide +kernel
theorem dX4_wayOf_3 : decode cX4_wayOf 3 = .ok (.irem, 1) := by decide +kernel
theorem dX4_wayOf_4 : decode cX4_wayOf 4 = .ok (.iconst 4, 1) := by decide +kernel
theorem dX4_wayOf_5 : decode cX4_wayOf 5 = .ok (.iconst 4, 1) := by decide +kernel
theorem dX4_wayOf_6 : decode cX4_wayOf 6 = .ok (.invokevirtual 171, 3) := by decide +kernel
theorem dX4_wayOf_9 : decode cX4_wayOf 9 = .ok (.istore_n 2, 1) := by decide +kernel
theorem dX4_wayOf_10 : decode cX4_wayOf 10 = .ok (.iload_n 2, 1) := by decide +kernel
theorem dX4_wayOf_11 : decode cX4_wayOf 11 = .ok (.invokestatic 270, 3) := by decide +kernel
theorem dX4_wayOf_14 : decode cX4_wayOf 14 = .ok (.istore_n 3, 1) := by decide +kernel
theorem dX4_wayOf_15 : decode cX4_wayOf 15 = .ok (.iload_n 3, 1) := by decide +kernel
theorem dX4_wayOf_16 : decode cX4_wayOf 16 = .ok (.ifCond .ne 5, 3) := by decide +kernel
theorem dX4_wayOf_19 : decode cX4_wayOf 19 = .ok (.iconst (-1), 1) := by decide +kernel
theorem dX4_wayOf_20 : decode cX4_wayOf 20 = .ok (.ireturn, 1) := by decide +kernel
theorem dX4_wayOf_21 : decode cX4_wayOf 21 = .ok (.iload_n 1, 1) := by decide +kernel
theorem dX4_wayOf_22 : decode cX4_wayOf 22 = .ok (.iconst 4, 1) := by decide +kernel
theorem dX4_wayOf_23 : decode cX4_wayOf 23 = .ok (.idiv, 1) := by decide +kernel
theorem dX4_wayOf_24 : decode cX4_wayOf 24 = .ok (.aload_n 0, 1) := by decide +kernel
theorem dX4_wayOf_25 : decode cX4_wayOf 25 = .ok (.getfield 38, 3) := by decide +kernel
theorem dX4_wayOf_28 : decode cX4_wayOf 28 = .ok (.iadd, 1) := by decide +kernel
theorem dX4_wayOf_29 : decode cX4_wayOf 29 = .ok (.iload_n 3, 1) := by decide +kernel
theorem dX4_wayOf_30 : decode cX4_wayOf 30 = .ok (.irem, 1) := by decide +kernel
theorem dX4_wayOf_31 : decode cX4_wayOf 31 = .ok (.istore 4, 2) := by decide +kernel
theorem dX4_wayOf_33 : decode cX4_wayOf 33 = .ok (.iconst 0, 1) := by decide +kernel
theorem dX4_wayOf_34 : decode cX4_wayOf 34 = .ok (.istore 5, 2) := by decide +kernel
theorem dX4_wayOf_36 : decode cX4_wayOf 36 = .ok (.iload 5, 2) := by decide +kernel
theorem dX4_wayOf_38 : decode cX4_wayOf 38 = .ok (.aload_n 0, 1) := by decide +kernel
theorem dX4_wayOf_39 : decode cX4_wayOf 39 = .ok (.getfield 28, 3) := by decide +kernel
theorem dX4_wayOf_42 : decode cX4_wayOf 42 = .ok (.if_icmp .ge 29, 3) := by decide +kernel
theorem dX4_wayOf_45 : decode cX4_wayOf 45 = .ok (.iload_n 2, 1) := by decide +kernel
theorem dX4_wayOf_46 : decode cX4_wayOf 46 = .ok (.iconst 1, 1) := by decide +kernel
theorem dX4_wayOf_47 : decode cX4_wayOf 47 = .ok (.iload 5, 2) := by decide +kernel
theorem dX4_wayOf_49 : decode cX4_wayOf 49 = .ok (.ishl, 1) := by decide +kernel
theorem dX4_wayOf_50 : decode cX4_wayOf 50 = .ok (.iand, 1) := by decide +kernel
theorem dX4_wayOf_51 : decode cX4_wayOf 51 = .ok (.ifCond .eq 14, 3) := by decide +kernel
theorem dX4_wayOf_54 : decode cX4_wayOf 54 = .ok (.iload 4, 2) := by decide +kernel
theorem dX4_wayOf_56 : decode cX4_wayOf 56 = .ok (.ifCond .ne 6, 3) := by decide +kernel
theorem dX4_wayOf_59 : decode cX4_wayOf 59 = .ok (.iload 5, 2) := by decide +kernel
theorem dX4_wayOf_61 : decode cX4_wayOf 61 = .ok (.ireturn, 1) := by decide +kernel
theorem dX4_wayOf_62 : decode cX4_wayOf 62 = .ok (.iinc 4 (-1), 3) := by decide +kernel
theorem dX4_wayOf_65 : decode cX4_wayOf 65 = .ok (.iinc 5 1, 3) := by decide +kernel
theorem dX4_wayOf_68 : decode cX4_wayOf 68 = .ok (.goto (-32), 3) := by decide +kernel
theorem dX4_wayOf_71 : decode cX4_wayOf 71 = .ok (.iconst (-1), 1) := by decide +kernel
theorem dX4_wayOf_72 : decode cX4_wayOf 72 = .ok (.ireturn, 1) := by decide +kernel
theorem dX4_hasLettersBehind_0 : decode cX4_hasLettersBehind 0 = .ok (.aload_n 0, 1) := by decide +kernel
theorem dX4_hasLettersBehind_1 : decode cX4_hasLettersBehind 1 = .ok (.getfield 24, 3) := by decide +kernel
theorem dX4_hasLettersBehind_4 : decode cX4_hasLettersBehind 4 = .ok (.iload_n 1, 1) := by decide +kernel
theorem dX4_hasLettersBehind_5 : decode cX4_hasLettersBehind 5 = .ok (.aaload, 1) := by decide +kernel
theorem dX4_hasLettersBehind_6 : decode cX4_hasLettersBehind 6 = .ok (.getfield 193, 3) := by decide +kernel
theorem dX4_hasLettersBehind_9 : decode cX4_hasLettersBehind 9 = .ok (.istore_n 2, 1) := by decide +kernel
theorem dX4_hasLettersBehind_10 : decode cX4_hasLettersBehind 10 = .ok (.aload_n 0, 1) := by decide +kernel
theorem dX4_hasLettersBehind_11 : decode cX4_hasLettersBehind 11 = .ok (.iload_n 2, 1) := by decide +kernel
theorem dX4_hasLettersBehind_12 : decode cX4_hasLettersBehind 12 = .ok (.invokevirtual 92, 3) := by decide +kernel
theorem dX4_hasLettersBehind_15 : decode cX4_hasLettersBehind 15 = .ok (.ifCond .eq 23, 3) := by decide +kernel
theorem dX4_hasLettersBehind_18 : decode cX4_hasLettersBehind 18 = .ok (.aload_n 0, 1) := by decide +kernel
theorem dX4_hasLettersBehind_19 : decode cX4_hasLettersBehind 19 = .ok (.getfield 18, 3) := by decide +kernel
theorem dX4_hasLettersBehind_22 : decode cX4_hasLettersBehind 22 = .ok (.iload_n 2, 1) := by decide +kernel
theorem dX4_hasLettersBehind_23 : decode cX4_hasLettersBehind 23 = .ok (.aaload, 1) := by decide +kernel
theorem dX4_hasLettersBehind_24 : decode cX4_hasLettersBehind 24 = .ok (.getfield 112, 3) := by decide +kernel
theorem dX4_hasLettersBehind_27 : decode cX4_hasLettersBehind 27 = .ok (.iload_n 1, 1) := by decide +kernel
theorem dX4_hasLettersBehind_28 : decode cX4_hasLettersBehind 28 = .ok (.invokevirtual 275, 3) := by decide +kernel
theorem dX4_hasLettersBehind_31 : decode cX4_hasLettersBehind 31 = .ok (.ifCond .eq 7, 3) := by decide +kernel
theorem dX4_hasLettersBehind_34 : decode cX4_hasLettersBehind 34 = .ok (.iconst 1, 1) := by decide +kernel
theorem dX4_hasLettersBehind_35 : decode cX4_hasLettersBehind 35 = .ok (.goto 4, 3) := by decide +kernel
theorem dX4_hasLettersBehind_38 : decode cX4_hasLettersBehind 38 = .ok (.iconst 0, 1) := by decide +kernel
theorem dX4_hasLettersBehind_39 : decode cX4_hasLettersBehind 39 = .ok (.ireturn, 1) := by decide +kernel
theorem dX4_startMoving_0 : decode cX4_startMoving 0 = .ok (.aload_n 0, 1) := by decide +kernel
theorem dX4_startMoving_1 : decode cX4_startMoving 1 = .ok (.getfield 24, 3) := by decide +kernel
theorem dX4_startMoving_4 : decode cX4_startMoving 4 = .ok (.iload_n 1, 1) := by decide +kernel
theorem dX4_startMoving_5 : decode cX4_startMoving 5 = .ok (.aaload, 1) := by decide +kernel
theorem dX4_startMoving_6 : decode cX4_startMoving 6 = .ok (.getfield 193, 3) := by decide +kernel
theorem dX4_startMoving_9 : decode cX4_startMoving 9 = .ok (.istore_n 2, 1) := by decide +kernel
theorem dX4_startMoving_10 : decode cX4_startMoving 10 = .ok (.aload_n 0, 1) := by decide +kernel
theorem dX4_startMoving_11 : decode cX4_startMoving 11 = .ok (.iload_n 2, 1) := by decide +kernel
theorem dX4_startMoving_12 : decode cX4_startMoving 12 = .ok (.invokevirtual 92, 3) := by decide +kernel
theorem dX4_startMoving_15 : decode cX4_startMoving 15 = .ok (.ifCond .eq 26, 3) := by decide +kernel
theorem dX4_startMoving_18 : decode cX4_startMoving 18 = .ok (.aload_n 0, 1) := by decide +kernel
theorem dX4_startMoving_19 : decode cX4_startMoving 19 = .ok (.getfield 18, 3) := by decide +kernel
theorem dX4_startMoving_22 : decode cX4_startMoving 22 = .ok (.iload_n 2, 1) := by decide +kernel
theorem dX4_startMoving_23 : decode cX4_startMoving 23 = .ok (.aaload, 1) := by decide +kernel
theorem dX4_startMoving_24 : decode cX4_startMoving 24 = .ok (.getfield 112, 3) := by decide +kernel
theorem dX4_startMoving_27 : decode cX4_startMoving 27 = .ok (.iload_n 1, 1) := by decide +kernel
theorem dX4_startMoving_28 : decode cX4_startMoving 28 = .ok (.invokevirtual 278, 3) := by decide +kernel
theorem dX4_startMoving_31 : decode cX4_startMoving 31 = .ok (.aload_n 0, 1) := by decide +kernel
theorem dX4_startMoving_32 : decode cX4_startMoving 32 = .ok (.getfield 24, 3) := by decide +kernel
theorem dX4_startMoving_35 : decode cX4_startMoving 35 = .ok (.iload_n 1, 1) := by decide +kernel
theorem dX4_startMoving_36 : decode cX4_startMoving 36 = .ok (.aaload, 1) := by decide +kernel
theorem dX4_startMoving_37 : decode cX4_startMoving 37 = .ok (.iconst 1, 1) := by decide +kernel
theorem dX4_startMoving_38 : decode cX4_startMoving 38 = .ok (.putfield 184, 3) := by decide +kernel
theorem dX4_startMoving_41 : decode cX4_startMoving 41 = .ok (.return_, 1) := by decide +kernel
theorem dX4_putLetter_0 : decode cX4_putLetter 0 = .ok (.aload_n 0, 1) := by decide +kernel
theorem dX4_putLetter_1 : decode cX4_putLetter 1 = .ok (.iload_n 3, 1) := by decide +kernel
theorem dX4_putLetter_2 : decode cX4_putLetter 2 = .ok (.invokevirtual 92, 3) := by decide +kernel
theorem dX4_putLetter_5 : decode cX4_putLetter 5 = .ok (.ifCond .eq 36, 3) := by decide +kernel
theorem dX4_putLetter_8 : decode cX4_putLetter 8 = .ok (.aload_n 0, 1) := by decide +kernel
theorem dX4_putLetter_9 : decode cX4_putLetter 9 = .ok (.getfield 18, 3) := by decide +kernel
theorem dX4_putLetter_12 : decode cX4_putLetter 12 = .ok (.iload_n 3, 1) := by decide +kernel
theorem dX4_putLetter_13 : decode cX4_putLetter 13 = .ok (.aaload, 1) := by decide +kernel
theorem dX4_putLetter_14 : decode cX4_putLetter 14 = .ok (.getfield 112, 3) := by decide +kernel
theorem dX4_putLetter_17 : decode cX4_putLetter 17 = .ok (.getfield 153, 3) := by decide +kernel
theorem dX4_putLetter_20 : decode cX4_putLetter 20 = .ok (.bipush 8, 2) := by decide +kernel
theorem dX4_putLetter_22 : decode cX4_putLetter 22 = .ok (.if_icmp .ge 19, 3) := by decide +kernel
theorem dX4_putLetter_25 : decode cX4_putLetter 25 = .ok (.aload_n 0, 1) := by decide +kernel
theorem dX4_putLetter_26 : decode cX4_putLetter 26 = .ok (.getfield 18, 3) := by decide +kernel
theorem dX4_putLetter_29 : decode cX4_putLetter 29 = .ok (.iload_n 3, 1) := by decide +kernel
theorem dX4_putLetter_30 : decode cX4_putLetter 30 = .ok (.aaload, 1) := by decide +kernel
theorem dX4_putLetter_31 : decode cX4_putLetter 31 = .ok (.getfield 112, 3) := by decide +kernel
theorem dX4_putLetter_34 : decode cX4_putLetter 34 = .ok (.iload_n 1, 1) := by decide +kernel
theorem dX4_putLetter_35 : decode cX4_putLetter 35 = .ok (.iload_n 2, 1) := by decide +kernel
theorem dX4_putLetter_36 : decode cX4_putLetter 36 = .ok (.invokevirtual 281, 3) := by decide +kernel
theorem dX4_putLetter_39 : decode cX4_putLetter 39 = .ok (.iconst 1, 1) := by decide +kernel
theorem dX4_putLetter_40 : decode cX4_putLetter 40 = .ok (.ireturn, 1) := by decide +kernel
theorem dX4_putLetter_41 : decode cX4_putLetter 41 = .ok (.aload_n 0, 1) := by decide +kernel
theorem dX4_putLetter_42 : decode cX4_putLetter 42 = .ok (.getfield 24, 3) := by decide +kernel
theorem dX4_putLetter_45 : decode cX4_putLetter 45 = .ok (.iload_n 1, 1) := by decide +kernel
theorem dX4_putLetter_46 : decode cX4_putLetter 46 = .ok (.aaload, 1) := by decide +kernel
theorem dX4_putLetter_47 : decode cX4_putLetter 47 = .ok (.dup, 1) := by decide +kernel
theorem dX4_putLetter_48 : decode cX4_putLetter 48 = .ok (.getfield 190, 3) := by decide +kernel
theorem dX4_putLetter_51 : decode cX4_putLetter 51 = .ok (.iconst 1, 1) := by decide +kernel
theorem dX4_putLetter_52 : decode cX4_putLetter 52 = .ok (.iadd, 1) := by decide +kernel
theorem dX4_putLetter_53 : decode cX4_putLetter 53 = .ok (.putfield 190, 3) := by decide +kernel
theorem dX4_putLetter_56 : decode cX4_putLetter 56 = .ok (.iconst 0, 1) := by decide +kernel
theorem dX4_putLetter_57 : decode cX4_putLetter 57 = .ok (.ireturn, 1) := by decide +kernel
theorem dX4_answerMarker_0 : decode cX4_answerMarker 0 = .ok (.aload_n 0, 1) := by decide +kernel
theorem dX4_answerMarker_1 : decode cX4_answerMarker 1 = .ok (.getfield 24, 3) := by decide +kernel
theorem dX4_answerMarker_4 : decode cX4_answerMarker 4 = .ok (.iload_n 1, 1) := by decide +kernel
theorem dX4_answerMarker_5 : decode cX4_answerMarker 5 = .ok (.aaload, 1) := by decide +kernel
theorem dX4_answerMarker_6 : decode cX4_answerMarker 6 = .ok (.astore_n 2, 1) := by decide +kernel
theorem dX4_answerMarker_7 : decode cX4_answerMarker 7 = .ok (.aload_n 0, 1) := by decide +kernel
theorem dX4_answerMarker_8 : decode cX4_answerMarker 8 = .ok (.dup, 1) := by decide +kernel
theorem dX4_answerMarker_9 : decode cX4_answerMarker 9 = .ok (.getfield 44, 3) := by decide +kernel
theorem dX4_answerMarker_12 : decode cX4_answerMarker 12 = .ok (.iconst 1, 1) := by decide +kernel
theorem dX4_answerMarker_13 : decode cX4_answerMarker 13 = .ok (.iadd, 1) := by decide +kernel
theorem dX4_answerMarker_14 : decode cX4_answerMarker 14 = .ok (.putfield 44, 3) := by decide +kernel
theorem dX4_answerMarker_17 : decode cX4_answerMarker 17 = .ok (.aload_n 2, 1) := by decide +kernel
theorem dX4_answerMarker_18 : decode cX4_answerMarker 18 = .ok (.iconst 0, 1) := by decide +kernel
theorem dX4_answerMarker_19 : decode cX4_answerMarker 19 = .ok (.putfield 184, 3) := by decide +kernel
theorem dX4_answerMarker_22 : decode cX4_answerMarker 22 = .ok (.aload_n 2, 1) := by decide +kernel
theorem dX4_answerMarker_23 : decode cX4_answerMarker 23 = .ok (.aload_n 0, 1) := by decide +kernel
theorem dX4_answerMarker_24 : decode cX4_answerMarker 24 = .ok (.iload_n 1, 1) := by decide +kernel
theorem dX4_answerMarker_25 : decode cX4_answerMarker 25 = .ok (.invokevirtual 178, 3) := by decide +kernel
theorem dX4_answerMarker_28 : decode cX4_answerMarker 28 = .ok (.putfield 193, 3) := by decide +kernel
theorem dX4_answerMarker_31 : decode cX4_answerMarker 31 = .ok (.iconst 0, 1) := by decide +kernel
theorem dX4_answerMarker_32 : decode cX4_answerMarker 32 = .ok (.istore_n 3, 1) := by decide +kernel
theorem dX4_answerMarker_33 : decode cX4_answerMarker 33 = .ok (.iload_n 3, 1) := by decide +kernel
theorem dX4_answerMarker_34 : decode cX4_answerMarker 34 = .ok (.aload_n 2, 1) := by decide +kernel
theorem dX4_answerMarker_35 : decode cX4_answerMarker 35 = .ok (.getfield 207, 3) := by decide +kernel
theorem dX4_answerMarker_38 : decode cX4_answerMarker 38 = .ok (.if_icmp .ge 25, 3) := by decide +kernel
theorem dX4_answerMarker_41 : decode cX4_answerMarker 41 = .ok (.aload_n 0, 1) := by decide +kernel
theorem dX4_answerMarker_42 : decode cX4_answerMarker 42 = .ok (.iload_n 1, 1) := by decide +kernel
theorem dX4_answerMarker_43 : decode cX4_answerMarker 43 = .ok (.aload_n 2, 1) := by decide +kernel
theorem dX4_answerMarker_44 : decode cX4_answerMarker 44 = .ok (.getfield 283, 3) := by decide +kernel
theorem dX4_answerMarker_47 : decode cX4_answerMarker 47 = .ok (.iload_n 3, 1) := by decide +kernel
theorem dX4_answerMarker_48 : decode cX4_answerMarker 48 = .ok (.iaload, 1) := by decide +kernel
theorem dX4_answerMarker_49 : decode cX4_answerMarker 49 = .ok (.aload_n 2, 1) := by decide +kernel
theorem dX4_answerMarker_50 : decode cX4_answerMarker 50 = .ok (.getfield 193, 3) := by decide +kernel
theorem dX4_answerMarker_53 : decode cX4_answerMarker 53 = .ok (.invokevirtual 203, 3) := by decide +kernel
theorem dX4_answerMarker_56 : decode cX4_answerMarker 56 = .ok (.pop, 1) := by decide +kernel
theorem dX4_answerMarker_57 : decode cX4_answerMarker 57 = .ok (.iinc 3 1, 3) := by decide +kernel
theorem dX4_answerMarker_60 : decode cX4_answerMarker 60 = .ok (.goto (-27), 3) := by decide +kernel
theorem dX4_answerMarker_63 : decode cX4_answerMarker 63 = .ok (.aload_n 2, 1) := by decide +kernel
theorem dX4_answerMarker_64 : decode cX4_answerMarker 64 = .ok (.iconst 0, 1) := by decide +kernel
theorem dX4_answerMarker_65 : decode cX4_answerMarker 65 = .ok (.putfield 207, 3) := by decide +kernel
theorem dX4_answerMarker_68 : decode cX4_answerMarker 68 = .ok (.return_, 1) := by decide +kernel
theorem dX4_dropQueue_0 : decode cX4_dropQueue 0 = .ok (.iconst 0, 1) := by decide +kernel
theorem dX4_dropQueue_1 : decode cX4_dropQueue 1 = .ok (.istore_n 2, 1) := by decide +kernel
theorem dX4_dropQueue_2 : decode cX4_dropQueue 2 = .ok (.iload_n 2, 1) := by decide +kernel
theorem dX4_dropQueue_3 : decode cX4_dropQueue 3 = .ok (.aload_n 1, 1) := by decide +kernel
theorem dX4_dropQueue_4 : decode cX4_dropQueue 4 = .ok (.getfield 153, 3) := by decide +kernel
theorem dX4_dropQueue_7 : decode cX4_dropQueue 7 = .ok (.if_icmp .ge 36, 3) := by decide +kernel
theorem dX4_dropQueue_10 : decode cX4_dropQueue 10 = .ok (.aload_n 1, 1) := by decide +kernel
theorem dX4_dropQueue_11 : decode cX4_dropQueue 11 = .ok (.iload_n 2, 1) := by decide +kernel
theorem dX4_dropQueue_12 : decode cX4_dropQueue 12 = .ok (.invokevirtual 159, 3) := by decide +kernel
theorem dX4_dropQueue_15 : decode cX4_dropQueue 15 = .ok (.ifCond .ne 22, 3) := by decide +kernel
theorem dX4_dropQueue_18 : decode cX4_dropQueue 18 = .ok (.aload_n 0, 1) := by decide +kernel
theorem dX4_dropQueue_19 : decode cX4_dropQueue 19 = .ok (.getfield 24, 3) := by decide +kernel
theorem dX4_dropQueue_22 : decode cX4_dropQueue 22 = .ok (.aload_n 1, 1) := by decide +kernel
theorem dX4_dropQueue_23 : decode cX4_dropQueue 23 = .ok (.iload_n 2, 1) := by decide +kernel
theorem dX4_dropQueue_24 : decode cX4_dropQueue 24 = .ok (.invokevirtual 162, 3) := by decide +kernel
theorem dX4_dropQueue_27 : decode cX4_dropQueue 27 = .ok (.aaload, 1) := by decide +kernel
theorem dX4_dropQueue_28 : decode cX4_dropQueue 28 = .ok (.dup, 1) := by decide +kernel
theorem dX4_dropQueue_29 : decode cX4_dropQueue 29 = .ok (.getfield 190, 3) := by decide +kernel
theorem dX4_dropQueue_32 : decode cX4_dropQueue 32 = .ok (.iconst 1, 1) := by decide +kernel
theorem dX4_dropQueue_33 : decode cX4_dropQueue 33 = .ok (.iadd, 1) := by decide +kernel
theorem dX4_dropQueue_34 : decode cX4_dropQueue 34 = .ok (.putfield 190, 3) := by decide +kernel
theorem dX4_dropQueue_37 : decode cX4_dropQueue 37 = .ok (.iinc 2 1, 3) := by decide +kernel
theorem dX4_dropQueue_40 : decode cX4_dropQueue 40 = .ok (.goto (-38), 3) := by decide +kernel
theorem dX4_dropQueue_43 : decode cX4_dropQueue 43 = .ok (.iconst 0, 1) := by decide +kernel
theorem dX4_dropQueue_44 : decode cX4_dropQueue 44 = .ok (.istore_n 2, 1) := by decide +kernel
theorem dX4_dropQueue_45 : decode cX4_dropQueue 45 = .ok (.iload_n 2, 1) := by decide +kernel
theorem dX4_dropQueue_46 : decode cX4_dropQueue 46 = .ok (.aload_n 1, 1) := by decide +kernel
theorem dX4_dropQueue_47 : decode cX4_dropQueue 47 = .ok (.getfield 153, 3) := by decide +kernel
theorem dX4_dropQueue_50 : decode cX4_dropQueue 50 = .ok (.if_icmp .ge 26, 3) := by decide +kernel
theorem dX4_dropQueue_53 : decode cX4_dropQueue 53 = .ok (.aload_n 1, 1) := by decide +kernel
theorem dX4_dropQueue_54 : decode cX4_dropQueue 54 = .ok (.iload_n 2, 1) := by decide +kernel
theorem dX4_dropQueue_55 : decode cX4_dropQueue 55 = .ok (.invokevirtual 159, 3) := by decide +kernel
theorem dX4_dropQueue_58 : decode cX4_dropQueue 58 = .ok (.ifCond .eq 12, 3) := by decide +kernel
theorem dX4_dropQueue_61 : decode cX4_dropQueue 61 = .ok (.aload_n 0, 1) := by decide +kernel
theorem dX4_dropQueue_62 : decode cX4_dropQueue 62 = .ok (.aload_n 1, 1) := by decide +kernel
theorem dX4_dropQueue_63 : decode cX4_dropQueue 63 = .ok (.iload_n 2, 1) := by decide +kernel
theorem dX4_dropQueue_64 : decode cX4_dropQueue 64 = .ok (.invokevirtual 162, 3) := by decide +kernel
theorem dX4_dropQueue_67 : decode cX4_dropQueue 67 = .ok (.invokevirtual 287, 3) := by decide +kernel
theorem dX4_dropQueue_70 : decode cX4_dropQueue 70 = .ok (.iinc 2 1, 3) := by decide +kernel
theorem dX4_dropQueue_73 : decode cX4_dropQueue 73 = .ok (.goto (-28), 3) := by decide +kernel
theorem dX4_dropQueue_76 : decode cX4_dropQueue 76 = .ok (.aload_n 1, 1) := by decide +kernel
theorem dX4_dropQueue_77 : decode cX4_dropQueue 77 = .ok (.iconst 0, 1) := by decide +kernel
theorem dX4_dropQueue_78 : decode cX4_dropQueue 78 = .ok (.putfield 153, 3) := by decide +kernel
theorem dX4_dropQueue_81 : decode cX4_dropQueue 81 = .ok (.return_, 1) := by decide +kernel
theorem dX4_passTick_0 : decode cX4_passTick 0 = .ok (.aload_n 0, 1) := by decide +kernel
theorem dX4_passTick_1 : decode cX4_passTick 1 = .ok (.dup, 1) := by decide +kernel
theorem dX4_passTick_2 : decode cX4_passTick 2 = .ok (.getfield 41, 3) := by decide +kernel
theorem dX4_passTick_5 : decode cX4_passTick 5 = .ok (.iconst 1, 1) := by decide +kernel
theorem dX4_passTick_6 : decode cX4_passTick 6 = .ok (.iadd, 1) := by decide +kernel
theorem dX4_passTick_7 : decode cX4_passTick 7 = .ok (.putfield 41, 3) := by decide +kernel
theorem dX4_passTick_10 : decode cX4_passTick 10 = .ok (.iconst 0, 1) := by decide +kernel
theorem dX4_passTick_11 : decode cX4_passTick 11 = .ok (.istore_n 1, 1) := by decide +kernel
theorem dX4_passTick_12 : decode cX4_passTick 12 = .ok (.iload_n 1, 1) := by decide +kernel
theorem dX4_passTick_13 : decode cX4_passTick 13 = .ok (.aload_n 0, 1) := by decide +kernel
theorem dX4_passTick_14 : decode cX4_passTick 14 = .ok (.getfield 28, 3) := by decide +kernel
theorem dX4_passTick_17 : decode cX4_passTick 17 = .ok (.if_icmp .ge 18, 3) := by decide +kernel
theorem dX4_passTick_20 : decode cX4_passTick 20 = .ok (.aload_n 0, 1) := by decide +kernel
theorem dX4_passTick_21 : decode cX4_passTick 21 = .ok (.getfield 18, 3) := by decide +kernel
theorem dX4_passTick_24 : decode cX4_passTick 24 = .ok (.iload_n 1, 1) := by decide +kernel
theorem dX4_passTick_25 : decode cX4_passTick 25 = .ok (.aaload, 1) := by decide +kernel
theorem dX4_passTick_26 : decode cX4_passTick 26 = .ok (.invokevirtual 290, 3) := by decide +kernel
theorem dX4_passTick_29 : decode cX4_passTick 29 = .ok (.iinc 1 1, 3) := by decide +kernel
theorem dX4_passTick_32 : decode cX4_passTick 32 = .ok (.goto (-20), 3) := by decide +kernel
theorem dX4_passTick_35 : decode cX4_passTick 35 = .ok (.aload_n 0, 1) := by decide +kernel
theorem dX4_passTick_36 : decode cX4_passTick 36 = .ok (.invokevirtual 98, 3) := by decide +kernel
theorem dX4_passTick_39 : decode cX4_passTick 39 = .ok (.iconst 0, 1) := by decide +kernel
theorem dX4_passTick_40 : decode cX4_passTick 40 = .ok (.istore_n 1, 1) := by decide +kernel
theorem dX4_passTick_41 : decode cX4_passTick 41 = .ok (.iload_n 1, 1) := by decide +kernel
theorem dX4_passTick_42 : decode cX4_passTick 42 = .ok (.aload_n 0, 1) := by decide +kernel
theorem dX4_passTick_43 : decode cX4_passTick 43 = .ok (.getfield 28, 3) := by decide +kernel
theorem dX4_passTick_46 : decode cX4_passTick 46 = .ok (.if_icmp .ge 51, 3) := by decide +kernel
theorem dX4_passTick_49 : decode cX4_passTick 49 = .ok (.aload_n 0, 1) := by decide +kernel
theorem dX4_passTick_50 : decode cX4_passTick 50 = .ok (.getfield 18, 3) := by decide +kernel
theorem dX4_passTick_53 : decode cX4_passTick 53 = .ok (.iload_n 1, 1) := by decide +kernel
theorem dX4_passTick_54 : decode cX4_passTick 54 = .ok (.aaload, 1) := by decide +kernel
theorem dX4_passTick_55 : decode cX4_passTick 55 = .ok (.getfield 260, 3) := by decide +kernel
theorem dX4_passTick_58 : decode cX4_passTick 58 = .ok (.iconst 2, 1) := by decide +kernel
theorem dX4_passTick_59 : decode cX4_passTick 59 = .ok (.if_icmp .ne 32, 3) := by decide +kernel
theorem dX4_passTick_62 : decode cX4_passTick 62 = .ok (.aload_n 0, 1) := by decide +kernel
theorem dX4_passTick_63 : decode cX4_passTick 63 = .ok (.getfield 18, 3) := by decide +kernel
theorem dX4_passTick_66 : decode cX4_passTick 66 = .ok (.iload_n 1, 1) := by decide +kernel
theorem dX4_passTick_67 : decode cX4_passTick 67 = .ok (.aaload, 1) := by decide +kernel
theorem dX4_passTick_68 : decode cX4_passTick 68 = .ok (.getfield 150, 3) := by decide +kernel
theorem dX4_passTick_71 : decode cX4_passTick 71 = .ok (.bipush 9, 2) := by decide +kernel
theorem dX4_passTick_73 : decode cX4_passTick 73 = .ok (.if_icmp .ge 18, 3) := by decide +kernel
theorem dX4_passTick_76 : decode cX4_passTick 76 = .ok (.aload_n 0, 1) := by decide +kernel
theorem dX4_passTick_77 : decode cX4_passTick 77 = .ok (.getfield 18, 3) := by decide +kernel
theorem dX4_passTick_80 : decode cX4_passTick 80 = .ok (.iload_n 1, 1) := by decide +kernel
theorem dX4_passTick_81 : decode cX4_passTick 81 = .ok (.aaload, 1) := by decide +kernel
theorem dX4_passTick_82 : decode cX4_passTick 82 = .ok (.dup, 1) := by decide +kernel
theorem dX4_passTick_83 : decode cX4_passTick 83 = .ok (.getfield 150, 3) := by decide +kernel
theorem dX4_passTick_86 : decode cX4_passTick 86 = .ok (.iconst 1, 1) := by decide +kernel
theorem dX4_passTick_87 : decode cX4_passTick 87 = .ok (.iadd, 1) := by decide +kernel
theorem dX4_passTick_88 : decode cX4_passTick 88 = .ok (.putfield 150, 3) := by decide +kernel
theorem dX4_passTick_91 : decode cX4_passTick 91 = .ok (.iinc 1 1, 3) := by decide +kernel
theorem dX4_passTick_94 : decode cX4_passTick 94 = .ok (.goto (-53), 3) := by decide +kernel
theorem dX4_passTick_97 : decode cX4_passTick 97 = .ok (.iconst 0, 1) := by decide +kernel
theorem dX4_passTick_98 : decode cX4_passTick 98 = .ok (.istore_n 1, 1) := by decide +kernel
theorem dX4_passTick_99 : decode cX4_passTick 99 = .ok (.iload_n 1, 1) := by decide +kernel
theorem dX4_passTick_100 : decode cX4_passTick 100 = .ok (.aload_n 0, 1) := by decide +kernel
theorem dX4_passTick_101 : decode cX4_passTick 101 = .ok (.getfield 28, 3) := by decide +kernel
theorem dX4_passTick_104 : decode cX4_passTick 104 = .ok (.if_icmp .ge 34, 3) := by decide +kernel
theorem dX4_passTick_107 : decode cX4_passTick 107 = .ok (.aload_n 0, 1) := by decide +kernel
theorem dX4_passTick_108 : decode cX4_passTick 108 = .ok (.getfield 18, 3) := by decide +kernel
theorem dX4_passTick_111 : decode cX4_passTick 111 = .ok (.iload_n 1, 1) := by decide +kernel
theorem dX4_passTick_112 : decode cX4_passTick 112 = .ok (.aaload, 1) := by decide +kernel
theorem dX4_passTick_113 : decode cX4_passTick 113 = .ok (.getfield 101, 3) := by decide +kernel
theorem dX4_passTick_116 : decode cX4_passTick 116 = .ok (.ifCond .eq 16, 3) := by decide +kernel
theorem dX4_passTick_119 : decode cX4_passTick 119 = .ok (.aload_n 0, 1) := by decide +kernel
theorem dX4_passTick_120 : decode cX4_passTick 120 = .ok (.aload_n 0, 1) := by decide +kernel
theorem dX4_passTick_121 : decode cX4_passTick 121 = .ok (.getfield 18, 3) := by decide +kernel
theorem dX4_passTick_124 : decode cX4_passTick 124 = .ok (.iload_n 1, 1) := by decide +kernel
theorem dX4_passTick_125 : decode cX4_passTick 125 = .ok (.aaload, 1) := by decide +kernel
theorem dX4_passTick_126 : decode cX4_passTick 126 = .ok (.getfield 112, 3) := by decide +kernel
theorem dX4_passTick_129 : decode cX4_passTick 129 = .ok (.invokevirtual 293, 3) := by decide +kernel
theorem dX4_passTick_132 : decode cX4_passTick 132 = .ok (.iinc 1 1, 3) := by decide +kernel
theorem dX4_passTick_135 : decode cX4_passTick 135 = .ok (.goto (-36), 3) := by decide +kernel
theorem dX4_passTick_138 : decode cX4_passTick 138 = .ok (.return_, 1) := by decide +kernel
theorem dX4_letFirstOut_0 : decode cX4_letFirstOut 0 = .ok (.aload_n 1, 1) := by decide +kernel
theorem dX4_letFirstOut_1 : decode cX4_letFirstOut 1 = .ok (.getfield 153, 3) := by decide +kernel
theorem dX4_letFirstOut_4 : decode cX4_letFirstOut 4 = .ok (.ifCond .ne 4, 3) := by decide +kernel
theorem dX4_letFirstOut_7 : decode cX4_letFirstOut 7 = .ok (.return_, 1) := by decide +kernel
theorem dX4_letFirstOut_8 : decode cX4_letFirstOut 8 = .ok (.aload_n 1, 1) := by decide +kernel
theorem dX4_letFirstOut_9 : decode cX4_letFirstOut 9 = .ok (.iconst 0, 1) := by decide +kernel
theorem dX4_letFirstOut_10 : decode cX4_letFirstOut 10 = .ok (.invokevirtual 162, 3) := by decide +kernel
theorem dX4_letFirstOut_13 : decode cX4_letFirstOut 13 = .ok (.istore_n 2, 1) := by decide +kernel
theorem dX4_letFirstOut_14 : decode cX4_letFirstOut 14 = .ok (.aload_n 1, 1) := by decide +kernel
theorem dX4_letFirstOut_15 : decode cX4_letFirstOut 15 = .ok (.iconst 0, 1) := by decide +kernel
theorem dX4_letFirstOut_16 : decode cX4_letFirstOut 16 = .ok (.invokevirtual 165, 3) := by decide +kernel
theorem dX4_letFirstOut_19 : decode cX4_letFirstOut 19 = .ok (.istore_n 3, 1) := by decide +kernel
theorem dX4_letFirstOut_20 : decode cX4_letFirstOut 20 = .ok (.aload_n 1, 1) := by decide +kernel
theorem dX4_letFirstOut_21 : decode cX4_letFirstOut 21 = .ok (.iconst 0, 1) := by decide +kernel
theorem dX4_letFirstOut_22 : decode cX4_letFirstOut 22 = .ok (.invokevirtual 159, 3) := by decide +kernel
theorem dX4_letFirstOut_25 : decode cX4_letFirstOut 25 = .ok (.istore 4, 2) := by decide +kernel
theorem dX4_letFirstOut_27 : decode cX4_letFirstOut 27 = .ok (.aload_n 1, 1) := by decide +kernel
theorem dX4_letFirstOut_28 : decode cX4_letFirstOut 28 = .ok (.invokevirtual 296, 3) := by decide +kernel
theorem dX4_letFirstOut_31 : decode cX4_letFirstOut 31 = .ok (.iload 4, 2) := by decide +kernel
theorem dX4_letFirstOut_33 : decode cX4_letFirstOut 33 = .ok (.ifCond .eq 11, 3) := by decide +kernel
theorem dX4_letFirstOut_36 : decode cX4_letFirstOut 36 = .ok (.aload_n 0, 1) := by decide +kernel
theorem dX4_letFirstOut_37 : decode cX4_letFirstOut 37 = .ok (.iload_n 2, 1) := by decide +kernel
theorem dX4_letFirstOut_38 : decode cX4_letFirstOut 38 = .ok (.invokevirtual 287, 3) := by decide +kernel
theorem dX4_letFirstOut_41 : decode cX4_letFirstOut 41 = .ok (.goto 28, 3) := by decide +kernel
theorem dX4_letFirstOut_44 : decode cX4_letFirstOut 44 = .ok (.aload_n 0, 1) := by decide +kernel
theorem dX4_letFirstOut_45 : decode cX4_letFirstOut 45 = .ok (.getfield 24, 3) := by decide +kernel
theorem dX4_letFirstOut_48 : decode cX4_letFirstOut 48 = .ok (.iload_n 2, 1) := by decide +kernel
theorem dX4_letFirstOut_49 : decode cX4_letFirstOut 49 = .ok (.aaload, 1) := by decide +kernel
theorem dX4_letFirstOut_50 : decode cX4_letFirstOut 50 = .ok (.dup, 1) := by decide +kernel
theorem dX4_letFirstOut_51 : decode cX4_letFirstOut 51 = .ok (.getfield 210, 3) := by decide +kernel
theorem dX4_letFirstOut_54 : decode cX4_letFirstOut 54 = .ok (.iconst 1, 1) := by decide +kernel
theorem dX4_letFirstOut_55 : decode cX4_letFirstOut 55 = .ok (.iadd, 1) := by decide +kernel
theorem dX4_letFirstOut_56 : decode cX4_letFirstOut 56 = .ok (.putfield 210, 3) := by decide +kernel
theorem dX4_letFirstOut_59 : decode cX4_letFirstOut 59 = .ok (.aload_n 0, 1) := by decide +kernel
theorem dX4_letFirstOut_60 : decode cX4_letFirstOut 60 = .ok (.getfield 24, 3) := by decide +kernel
theorem dX4_letFirstOut_63 : decode cX4_letFirstOut 63 = .ok (.iload_n 2, 1) := by decide +kernel
theorem dX4_letFirstOut_64 : decode cX4_letFirstOut 64 = .ok (.aaload, 1) := by decide +kernel
theorem dX4_letFirstOut_65 : decode cX4_letFirstOut 65 = .ok (.iload_n 3, 1) := by decide +kernel
theorem dX4_letFirstOut_66 : decode cX4_letFirstOut 66 = .ok (.putfield 213, 3) := by decide +kernel
theorem dX4_letFirstOut_69 : decode cX4_letFirstOut 69 = .ok (.return_, 1) := by decide +kernel
theorem dX4_sumOverFlows_0 : decode cX4_sumOverFlows 0 = .ok (.iconst 0, 1) := by decide +kernel
theorem dX4_sumOverFlows_1 : decode cX4_sumOverFlows 1 = .ok (.istore_n 2, 1) := by decide +kernel
theorem dX4_sumOverFlows_2 : decode cX4_sumOverFlows 2 = .ok (.iconst 0, 1) := by decide +kernel
theorem dX4_sumOverFlows_3 : decode cX4_sumOverFlows 3 = .ok (.istore_n 3, 1) := by decide +kernel
theorem dX4_sumOverFlows_4 : decode cX4_sumOverFlows 4 = .ok (.iload_n 3, 1) := by decide +kernel
theorem dX4_sumOverFlows_5 : decode cX4_sumOverFlows 5 = .ok (.bipush 12, 2) := by decide +kernel
theorem dX4_sumOverFlows_7 : decode cX4_sumOverFlows 7 = .ok (.if_icmp .ge 18, 3) := by decide +kernel
theorem dX4_sumOverFlows_10 : decode cX4_sumOverFlows 10 = .ok (.iload_n 2, 1) := by decide +kernel
theorem dX4_sumOverFlows_11 : decode cX4_sumOverFlows 11 = .ok (.aload_n 0, 1) := by decide +kernel
theorem dX4_sumOverFlows_12 : decode cX4_sumOverFlows 12 = .ok (.iload_n 3, 1) := by decide +kernel
theorem dX4_sumOverFlows_13 : decode cX4_sumOverFlows 13 = .ok (.iload_n 1, 1) := by decide +kernel
theorem dX4_sumOverFlows_14 : decode cX4_sumOverFlows 14 = .ok (.invokevirtual 238, 3) := by decide +kernel
theorem dX4_sumOverFlows_17 : decode cX4_sumOverFlows 17 = .ok (.iadd, 1) := by decide +kernel
theorem dX4_sumOverFlows_18 : decode cX4_sumOverFlows 18 = .ok (.istore_n 2, 1) := by decide +kernel
theorem dX4_sumOverFlows_19 : decode cX4_sumOverFlows 19 = .ok (.iinc 3 1, 3) := by decide +kernel
theorem dX4_sumOverFlows_22 : decode cX4_sumOverFlows 22 = .ok (.goto (-18), 3) := by decide +kernel
theorem dX4_sumOverFlows_25 : decode cX4_sumOverFlows 25 = .ok (.iload_n 2, 1) := by decide +kernel
theorem dX4_sumOverFlows_26 : decode cX4_sumOverFlows 26 = .ok (.ireturn, 1) := by decide +kernel
theorem dJ6_bitCount_0f7a4_0 : decode cJ6_bitCount_0f7a4 0 = .ok (.iload_n 0, 1) := by decide +kernel
theorem dJ6_bitCount_0f7a4_1 : decode cJ6_bitCount_0f7a4 1 = .ok (.iload_n 0, 1) := by decide +kernel
theorem dJ6_bitCount_0f7a4_2 : decode cJ6_bitCount_0f7a4 2 = .ok (.iconst 1, 1) := by decide +kernel
theorem dJ6_bitCount_0f7a4_3 : decode cJ6_bitCount_0f7a4 3 = .ok (.iushr, 1) := by decide +kernel
theorem dJ6_bitCount_0f7a4_4 : decode cJ6_bitCount_0f7a4 4 = .ok (.ldc_w 265, 3) := by decide +kernel
theorem dJ6_bitCount_0f7a4_7 : decode cJ6_bitCount_0f7a4 7 = .ok (.iand, 1) := by decide +kernel
theorem dJ6_bitCount_0f7a4_8 : decode cJ6_bitCount_0f7a4 8 = .ok (.isub, 1) := by decide +kernel
theorem dJ6_bitCount_0f7a4_9 : decode cJ6_bitCount_0f7a4 9 = .ok (.istore_n 0, 1) := by decide +kernel
theorem dJ6_bitCount_0f7a4_10 : decode cJ6_bitCount_0f7a4 10 = .ok (.iload_n 0, 1) := by decide +kernel
theorem dJ6_bitCount_0f7a4_11 : decode cJ6_bitCount_0f7a4 11 = .ok (.ldc_w 266, 3) := by decide +kernel
theorem dJ6_bitCount_0f7a4_14 : decode cJ6_bitCount_0f7a4 14 = .ok (.iand, 1) := by decide +kernel
theorem dJ6_bitCount_0f7a4_15 : decode cJ6_bitCount_0f7a4 15 = .ok (.iload_n 0, 1) := by decide +kernel
theorem dJ6_bitCount_0f7a4_16 : decode cJ6_bitCount_0f7a4 16 = .ok (.iconst 2, 1) := by decide +kernel
theorem dJ6_bitCount_0f7a4_17 : decode cJ6_bitCount_0f7a4 17 = .ok (.iushr, 1) := by decide +kernel
theorem dJ6_bitCount_0f7a4_18 : decode cJ6_bitCount_0f7a4 18 = .ok (.ldc_w 266, 3) := by decide +kernel
theorem dJ6_bitCount_0f7a4_21 : decode cJ6_bitCount_0f7a4 21 = .ok (.iand, 1) := by decide +kernel
theorem dJ6_bitCount_0f7a4_22 : decode cJ6_bitCount_0f7a4 22 = .ok (.iadd, 1) := by decide +kernel
theorem dJ6_bitCount_0f7a4_23 : decode cJ6_bitCount_0f7a4 23 = .ok (.istore_n 0, 1) := by decide +kernel
theorem dJ6_bitCount_0f7a4_24 : decode cJ6_bitCount_0f7a4 24 = .ok (.iload_n 0, 1) := by decide +kernel
theorem dJ6_bitCount_0f7a4_25 : decode cJ6_bitCount_0f7a4 25 = .ok (.iload_n 0, 1) := by decide +kernel
theorem dJ6_bitCount_0f7a4_26 : decode cJ6_bitCount_0f7a4 26 = .ok (.iconst 4, 1) := by decide +kernel
theorem dJ6_bitCount_0f7a4_27 : decode cJ6_bitCount_0f7a4 27 = .ok (.iushr, 1) := by decide +kernel
theorem dJ6_bitCount_0f7a4_28 : decode cJ6_bitCount_0f7a4 28 = .ok (.iadd, 1) := by decide +kernel
theorem dJ6_bitCount_0f7a4_29 : decode cJ6_bitCount_0f7a4 29 = .ok (.ldc_w 267, 3) := by decide +kernel
theorem dJ6_bitCount_0f7a4_32 : decode cJ6_bitCount_0f7a4 32 = .ok (.iand, 1) := by decide +kernel
theorem dJ6_bitCount_0f7a4_33 : decode cJ6_bitCount_0f7a4 33 = .ok (.istore_n 0, 1) := by decide +kernel
theorem dJ6_bitCount_0f7a4_34 : decode cJ6_bitCount_0f7a4 34 = .ok (.iload_n 0, 1) := by decide +kernel
theorem dJ6_bitCount_0f7a4_35 : decode cJ6_bitCount_0f7a4 35 = .ok (.iload_n 0, 1) := by decide +kernel
theorem dJ6_bitCount_0f7a4_36 : decode cJ6_bitCount_0f7a4 36 = .ok (.bipush 8, 2) := by decide +kernel
theorem dJ6_bitCount_0f7a4_38 : decode cJ6_bitCount_0f7a4 38 = .ok (.iushr, 1) := by decide +kernel
theorem dJ6_bitCount_0f7a4_39 : decode cJ6_bitCount_0f7a4 39 = .ok (.iadd, 1) := by decide +kernel
theorem dJ6_bitCount_0f7a4_40 : decode cJ6_bitCount_0f7a4 40 = .ok (.istore_n 0, 1) := by decide +kernel
theorem dJ6_bitCount_0f7a4_41 : decode cJ6_bitCount_0f7a4 41 = .ok (.iload_n 0, 1) := by decide +kernel
theorem dJ6_bitCount_0f7a4_42 : decode cJ6_bitCount_0f7a4 42 = .ok (.iload_n 0, 1) := by decide +kernel
theorem dJ6_bitCount_0f7a4_43 : decode cJ6_bitCount_0f7a4 43 = .ok (.bipush 16, 2) := by decide +kernel
theorem dJ6_bitCount_0f7a4_45 : decode cJ6_bitCount_0f7a4 45 = .ok (.iushr, 1) := by decide +kernel
theorem dJ6_bitCount_0f7a4_46 : decode cJ6_bitCount_0f7a4 46 = .ok (.iadd, 1) := by decide +kernel
theorem dJ6_bitCount_0f7a4_47 : decode cJ6_bitCount_0f7a4 47 = .ok (.istore_n 0, 1) := by decide +kernel
theorem dJ6_bitCount_0f7a4_48 : decode cJ6_bitCount_0f7a4 48 = .ok (.iload_n 0, 1) := by decide +kernel
theorem dJ6_bitCount_0f7a4_49 : decode cJ6_bitCount_0f7a4 49 = .ok (.bipush 63, 2) := by decide +kernel
theorem dJ6_bitCount_0f7a4_51 : decode cJ6_bitCount_0f7a4 51 = .ok (.iand, 1) := by decide +kernel
theorem dJ6_bitCount_0f7a4_52 : decode cJ6_bitCount_0f7a4 52 = .ok (.ireturn, 1) := by decide +kernel
end
section
theorem dX5_init_0 : decode cX5_init 0 = .ok (.aload_n 0, 1) := by decide +kernel
theorem dX5_init_1 : decode cX5_init 1 = .ok (.invokespecial 1, 3) := by decide +kernel
theorem dX5_init_4 : decode cX5_init 4 = .ok (.aload_n 0, 1) := by decide +kernel
theorem dX5_init_5 : decode cX5_init 5 = .ok (.bipush 17, 2) := by decide +kernel
theorem dX5_init_7 : decode cX5_init 7 = .ok (.newarray .int, 2) := by decide +kernel
theorem dX5_init_9 : decode cX5_init 9 = .ok (.putfield 7, 3) := by decide +kernel
theorem dX5_init_12 : decode cX5_init 12 = .ok (.aload_n 0, 1) := by decide +kernel
theorem dX5_init_13 : decode cX5_init 13 = .ok (.bipush 6, 2) := by decide +kernel
theorem dX5_init_15 : decode cX5_init 15 = .ok (.newarray .int, 2) := by decide +kernel
theorem dX5_init_17 : decode cX5_init 17 = .ok (.putfield 13, 3) := by decide +kernel
theorem dX5_init_20 : decode cX5_init 20 = .ok (.aload_n 0, 1) := by decide +kernel
theorem dX5_init_21 : decode cX5_init 21 = .ok (.bipush 6, 2) := by decide +kernel
theorem dX5_init_23 : decode cX5_init 23 = .ok (.newarray .int, 2) := by decide +kernel
theorem dX5_init_25 : decode cX5_init 25 = .ok (.putfield 16, 3) := by decide +kernel
theorem dX5_init_28 : decode cX5_init 28 = .ok (.aload_n 0, 1) := by decide +kernel
theorem dX5_init_29 : decode cX5_init 29 = .ok (.bipush 6, 2) := by decide +kernel
theorem dX5_init_31 : decode cX5_init 31 = .ok (.newarray .boolean, 2) := by decide +kernel
theorem dX5_init_33 : decode cX5_init 33 = .ok (.putfield 19, 3) := by decide +kernel
theorem dX5_init_36 : decode cX5_init 36 = .ok (.aload_n 0, 1) := by decide +kernel
theorem dX5_init_37 : decode cX5_init 37 = .ok (.bipush 6, 2) := by decide +kernel
theorem dX5_init_39 : decode cX5_init 39 = .ok (.newarray .int, 2) := by decide +kernel
theorem dX5_init_41 : decode cX5_init 41 = .ok (.putfield 23, 3) := by decide +kernel
theorem dX5_init_44 : decode cX5_init 44 = .ok (.aload_n 0, 1) := by decide +kernel
theorem dX5_init_45 : decode cX5_init 45 = .ok (.bipush 6, 2) := by decide +kernel
theorem dX5_init_47 : decode cX5_init 47 = .ok (.newarray .int, 2) := by decide +kernel
theorem dX5_init_49 : decode cX5_init 49 = .ok (.putfield 26, 3) := by decide +kernel
theorem dX5_init_52 : decode cX5_init 52 = .ok (.aload_n 0, 1) := by decide +kernel
theorem dX5_init_53 : decode cX5_init 53 = .ok (.bipush 6, 2) := by decide +kernel
theorem dX5_init_55 : decode cX5_init 55 = .ok (.newarray .boolean, 2) := by decide +kernel
theorem dX5_init_57 : decode cX5_init 57 = .ok (.putfield 29, 3) := by decide +kernel
theorem dX5_init_60 : decode cX5_init 60 = .ok (.aload_n 0, 1) := by decide +kernel
theorem dX5_init_61 : decode cX5_init 61 = .ok (.bipush 6, 2) := by decide +kernel
theorem dX5_init_63 : decode cX5_init 63 = .ok (.newarray .int, 2) := by decide +kernel
theorem dX5_init_65 : decode cX5_init 65 = .ok (.putfield 32, 3) := by decide +kernel
theorem dX5_init_68 : decode cX5_init 68 = .ok (.aload_n 0, 1) := by decide +kernel
theorem dX5_init_69 : decode cX5_init 69 = .ok (.bipush 6, 2) := by decide +kernel
theorem dX5_init_71 : decode cX5_init 71 = .ok (.newarray .int, 2) := by decide +kernel
theorem dX5_init_73 : decode cX5_init 73 = .ok (.putfield 35, 3) := by decide +kernel
theorem dX5_init_76 : decode cX5_init 76 = .ok (.aload_n 0, 1) := by decide +kernel
theorem dX5_init_77 : decode cX5_init 77 = .ok (.iconst 2, 1) := by decide +kernel
theorem dX5_init_78 : decode cX5_init 78 = .ok (.putfield 38, 3) := by decide +kernel
theorem dX5_init_81 : decode cX5_init 81 = .ok (.aload_n 0, 1) := by decide +kernel
theorem dX5_init_82 : decode cX5_init 82 = .ok (.iconst 2, 1) := by decide +kernel
theorem dX5_init_83 : decode cX5_init 83 = .ok (.putfield 42, 3) := by decide +kernel
theorem dX5_init_86 : decode cX5_init 86 = .ok (.aload_n 0, 1) := by decide +kernel
theorem dX5_init_87 : decode cX5_init 87 = .ok (.sipush 144, 3) := by decide +kernel
theorem dX5_init_90 : decode cX5_init 90 = .ok (.newarray .int, 2) := by decide +kernel
theorem dX5_init_92 : decode cX5_init 92 = .ok (.putfield 45, 3) := by decide +kernel
theorem dX5_init_95 : decode cX5_init 95 = .ok (.aload_n 0, 1) := by decide +kernel
theorem dX5_init_96 : decode cX5_init 96 = .ok (.sipush 144, 3) := by decide +kernel
theorem dX5_init_99 : decode cX5_init 99 = .ok (.newarray .int, 2) := by decide +kernel
theorem dX5_init_101 : decode cX5_init 101 = .ok (.putfield 48, 3) := by decide +kernel
theorem dX5_init_104 : decode cX5_init 104 = .ok (.aload_n 0, 1) := by decide +kernel
theorem dX5_init_105 : decode cX5_init 105 = .ok (.bipush 6, 2) := by decide +kernel
theorem dX5_init_107 : decode cX5_init 107 = .ok (.newarray .int, 2) := by decide +kernel
theorem dX5_init_109 : decode cX5_init 109 = .ok (.putfield 51, 3) := by decide +kernel
theorem dX5_init_112 : decode cX5_init 112 = .ok (.aload_n 0, 1) := by decide +kernel
theorem dX5_init_113 : decode cX5_init 113 = .ok (.bipush 12, 2) := by decide +kernel
theorem dX5_init_115 : decode cX5_init 115 = .ok (.newarray .int, 2) := by decide +kernel
theorem dX5_init_117 : decode cX5_init 117 = .ok (.putfield 54, 3) := by decide +kernel
theorem dX5_init_120 : decode cX5_init 120 = .ok (.aload_n 0, 1) := by decide +kernel
theorem dX5_init_121 : decode cX5_init 121 = .ok (.bipush 12, 2) := by decide +kernel
theorem dX5_init_123 : decode cX5_init 123 = .ok (.newarray .boolean, 2) := by decide +kernel
theorem dX5_init_125 : decode cX5_init 125 = .ok (.putfield 57, 3) := by decide +kernel
theorem dX5_init_128 : decode cX5_init 128 = .ok (.aload_n 0, 1) := by decide +kernel
theorem dX5_init_129 : decode cX5_init 129 = .ok (.bipush 12, 2) := by decide +kernel
theorem dX5_init_131 : decode cX5_init 131 = .ok (.newarray .int, 2) := by decide +kernel
theorem dX5_init_133 : decode cX5_init 133 = .ok (.putfield 60, 3) := by decide +kernel
theorem dX5_init_136 : decode cX5_init 136 = .ok (.aload_n 0, 1) := by decide +kernel
theorem dX5_init_137 : decode cX5_init 137 = .ok (.bipush 96, 2) := by decide +kernel
theorem dX5_init_139 : decode cX5_init 139 = .ok (.newarray .int, 2) := by decide +kernel
theorem dX5_init_141 : decode cX5_init 141 = .ok (.putfield 63, 3) := by decide +kernel
theorem dX5_init_144 : decode cX5_init 144 = .ok (.aload_n 0, 1) := by decide +kernel
theorem dX5_init_145 : decode cX5_init 145 = .ok (.bipush 12, 2) := by decide +kernel
theorem dX5_init_147 : decode cX5_init 147 = .ok (.newarray .int, 2) := by decide +kernel
theorem dX5_init_149 : decode cX5_init 149 = .ok (.putfield 66, 3) := by decide +kernel
theorem dX5_init_152 : decode cX5_init 152 = .ok (.aload_n 0, 1) := by decide +kernel
theorem dX5_init_153 : decode cX5_init 153 = .ok (.bipush 12, 2) := by decide +kernel
theorem dX5_init_155 : decode cX5_init 155 = .ok (.newarray .int, 2) := by decide +kernel
theorem dX5_init_157 : decode cX5_init 157 = .ok (.putfield 69, 3) := by decide +kernel
theorem dX5_init_160 : decode cX5_init 160 = .ok (.aload_n 0, 1) := by decide +kernel
theorem dX5_init_161 : decode cX5_init 161 = .ok (.bipush 12, 2) := by decide +kernel
theorem dX5_init_163 : decode cX5_init 163 = .ok (.newarray .int, 2) := by decide +kernel
theorem dX5_init_165 : decode cX5_init 165 = .ok (.putfield 72, 3) := by decide +kernel
theorem dX5_init_168 : decode cX5_init 168 = .ok (.aload_n 0, 1) := by decide +kernel
theorem dX5_init_169 : decode cX5_init 169 = .ok (.bipush 12, 2) := by decide +kernel
theorem dX5_init_171 : decode cX5_init 171 = .ok (.newarray .int, 2) := by decide +kernel
theorem dX5_init_173 : decode cX5_init 173 = .ok (.putfield 75, 3) := by decide +kernel
theorem dX5_init_176 : decode cX5_init 176 = .ok (.aload_n 0, 1) := by decide +kernel
theorem dX5_init_177 : decode cX5_init 177 = .ok (.bipush 24, 2) := by decide +kernel
theorem dX5_init_179 : decode cX5_init 179 = .ok (.newarray .int, 2) := by decide +kernel
theorem dX5_init_181 : decode cX5_init 181 = .ok (.putfield 78, 3) := by decide +kernel
theorem dX5_init_184 : decode cX5_init 184 = .ok (.aload_n 0, 1) := by decide +kernel
theorem dX5_init_185 : decode cX5_init 185 = .ok (.invokevirtual 81, 3) := by decide +kernel
theorem dX5_init_188 : decode cX5_init 188 = .ok (.return_, 1) := by decide +kernel
theorem dX5_within_0 : decode cX5_within 0 = .ok (.iload_n 0, 1) := by decide +kernel
theorem dX5_within_1 : decode cX5_within 1 = .ok (.iload_n 1, 1) := by decide +kernel
theorem dX5_within_2 : decode cX5_within 2 = .ok (.if_icmp .lt 12, 3) := by decide +kernel
theorem dX5_within_5 : decode cX5_within 5 = .ok (.iload_n 0, 1) := by decide +kernel
theorem dX5_within_6 : decode cX5_within 6 = .ok (.iload_n 2, 1) := by decide +kernel
theorem dX5_within_7 : decode cX5_within 7 = .ok (.if_icmp .gt 7, 3) := by decide +kernel
theorem dX5_within_10 : decode cX5_within 10 = .ok (.iconst 1, 1) := by decide +kernel
theorem dX5_within_11 : decode cX5_within 11 = .ok (.goto 4, 3) := by decide +kernel
theorem dX5_within_14 : decode cX5_within 14 = .ok (.iconst 0, 1) := by decide +kernel
theorem dX5_within_15 : decode cX5_within 15 = .ok (.ireturn, 1) := by decide +kernel
theorem dX5_letter_0 : decode cX5_letter 0 = .ok (.iload_n 1, 1) := by decide +kernel
theorem dX5_letter_1 : decode cX5_letter 1 = .ok (.bipush 32, 2) := by decide +kernel
theorem dX5_letter_3 : decode cX5_letter 3 = .ok (.bipush 126, 2) := by decide +kernel
theorem dX5_letter_5 : decode cX5_letter 5 = .ok (.invokestatic 84, 3) := by decide +kernel
theorem dX5_letter_8 : decode cX5_letter 8 = .ok (.ifCond .ne 7, 3) := by decide +kernel
theorem dX5_letter_11 : decode cX5_letter 11 = .ok (.sipush (-1002), 3) := by decide +kernel
theorem dX5_letter_14 : decode cX5_letter 14 = .ok (.ireturn, 1) := by decide +kernel
theorem dX5_letter_15 : decode cX5_letter 15 = .ok (.aload_n 0, 1) := by decide +kernel
theorem dX5_letter_16 : decode cX5_letter 16 = .ok (.getfield 88, 3) := by decide +kernel
theorem dX5_letter_19 : decode cX5_letter 19 = .ok (.bipush 17, 2) := by decide +kernel
theorem dX5_letter_21 : decode cX5_letter 21 = .ok (.if_icmp .ne 7, 3) := by decide +kernel
theorem dX5_letter_24 : decode cX5_letter 24 = .ok (.sipush (-1004), 3) := by decide +kernel
theorem dX5_letter_27 : decode cX5_letter 27 = .ok (.ireturn, 1) := by decide +kernel
theorem dX5_letter_28 : decode cX5_letter 28 = .ok (.aload_n 0, 1) := by decide +kernel
theorem dX5_letter_29 : decode cX5_letter 29 = .ok (.getfield 7, 3) := by decide +kernel
theorem dX5_letter_32 : decode cX5_letter 32 = .ok (.aload_n 0, 1) := by decide +kernel
theorem dX5_letter_33 : decode cX5_letter 33 = .ok (.getfield 88, 3) := by decide +kernel
theorem dX5_letter_36 : decode cX5_letter 36 = .ok (.iload_n 1, 1) := by decide +kernel
theorem dX5_letter_37 : decode cX5_letter 37 = .ok (.iastore, 1) := by decide +kernel
theorem dX5_letter_38 : decode cX5_letter 38 = .ok (.aload_n 0, 1) := by decide +kernel
theorem dX5_letter_39 : decode cX5_letter 39 = .ok (.dup, 1) := by decide +kernel
theorem dX5_letter_40 : decode cX5_letter 40 = .ok (.getfield 88, 3) := by decide +kernel
theorem dX5_letter_43 : decode cX5_letter 43 = .ok (.iconst 1, 1) := by decide +kernel
theorem dX5_letter_44 : decode cX5_letter 44 = .ok (.iadd, 1) := by decide +kernel
theorem dX5_letter_45 : decode cX5_letter 45 = .ok (.putfield 88, 3) := by decide +kernel
theorem dX5_letter_48 : decode cX5_letter 48 = .ok (.aload_n 0, 1) := by decide +kernel
theorem dX5_letter_49 : decode cX5_letter 49 = .ok (.getfield 88, 3) := by decide +kernel
theorem dX5_letter_52 : decode cX5_letter 52 = .ok (.ireturn, 1) := by decide +kernel
theorem dX5_blank_0 : decode cX5_blank 0 = .ok (.aload_n 0, 1) := by decide +kernel
theorem dX5_blank_1 : decode cX5_blank 1 = .ok (.getfield 88, 3) := by decide +kernel
theorem dX5_blank_4 : decode cX5_blank 4 = .ok (.istore_n 1, 1) := by decide +kernel
theorem dX5_blank_5 : decode cX5_blank 5 = .ok (.aload_n 0, 1) := by decide +kernel
theorem dX5_blank_6 : decode cX5_blank 6 = .ok (.iconst 0, 1) := by decide +kernel
theorem dX5_blank_7 : decode cX5_blank 7 = .ok (.putfield 88, 3) := by decide +kernel
theorem dX5_blank_10 : decode cX5_blank 10 = .ok (.iload_n 1, 1) := by decide +kernel
theorem dX5_blank_11 : decode cX5_blank 11 = .ok (.ireturn, 1) := by decide +kernel
theorem dX5_isRight_0 : decode cX5_isRight 0 = .ok (.aload_n 0, 1) := by decide +kernel
theorem dX5_isRight_1 : decode cX5_isRight 1 = .ok (.getfield 7, 3) := by decide +kernel
theorem dX5_isRight_4 : decode cX5_isRight 4 = .ok (.iload_n 1, 1) := by decide +kernel
theorem dX5_isRight_5 : decode cX5_isRight 5 = .ok (.iaload, 1) := by decide +kernel
theorem dX5_isRight_6 : decode cX5_isRight 6 = .ok (.istore_n 2, 1) := by decide +kernel
theorem dX5_isRight_7 : decode cX5_isRight 7 = .ok (.iload_n 1, 1) := by decide +kernel
theorem dX5_isRight_8 : decode cX5_isRight 8 = .ok (.iconst 3, 1) := by decide +kernel
theorem dX5_isRight_9 : decode cX5_isRight 9 = .ok (.irem, 1) := by decide +kernel
theorem dX5_isRight_10 : decode cX5_isRight 10 = .ok (.ifCond .ne 14, 3) := by decide +kernel
theorem dX5_isRight_13 : decode cX5_isRight 13 = .ok (.iload_n 2, 1) := by decide +kernel
theorem dX5_isRight_14 : decode cX5_isRight 14 = .ok (.bipush 48, 2) := by decide +kernel
theorem dX5_isRight_16 : decode cX5_isRight 16 = .ok (.bipush 51, 2) := by decide +kernel
theorem dX5_isRight_18 : decode cX5_isRight 18 = .ok (.invokestatic 84, 3) := by decide +kernel
theorem dX5_isRight_21 : decode cX5_isRight 21 = .ok (.goto 32, 3) := by decide +kernel
theorem dX5_isRight_24 : decode cX5_isRight 24 = .ok (.iload_n 1, 1) := by decide +kernel
theorem dX5_isRight_25 : decode cX5_isRight 25 = .ok (.iconst 3, 1) := by decide +kernel
theorem dX5_isRight_26 : decode cX5_isRight 26 = .ok (.irem, 1) := by decide +kernel
theorem dX5_isRight_27 : decode cX5_isRight 27 = .ok (.iconst 1, 1) := by decide +kernel
theorem dX5_isRight_28 : decode cX5_isRight 28 = .ok (.if_icmp .ne 14, 3) := by decide +kernel
theorem dX5_isRight_31 : decode cX5_isRight 31 = .ok (.iload_n 2, 1) := by decide +kernel
theorem dX5_isRight_32 : decode cX5_isRight 32 = .ok (.bipush 48, 2) := by decide +kernel
theorem dX5_isRight_34 : decode cX5_isRight 34 = .ok (.bipush 57, 2) := by decide +kernel
theorem dX5_isRight_36 : decode cX5_isRight 36 = .ok (.invokestatic 84, 3) := by decide +kernel
theorem dX5_isRight_39 : decode cX5_isRight 39 = .ok (.goto 14, 3) := by decide +kernel
theorem dX5_isRight_42 : decode cX5_isRight 42 = .ok (.iload_n 2, 1) := by decide +kernel
theorem dX5_isRight_43 : decode cX5_isRight 43 = .ok (.bipush 44, 2) := by decide +kernel
theorem dX5_isRight_45 : decode cX5_isRight 45 = .ok (.if_icmp .ne 7, 3) := by decide +kernel
theorem dX5_isRight_48 : decode cX5_isRight 48 = .ok (.iconst 1, 1) := by decide +kernel
theorem dX5_isRight_49 : decode cX5_isRight 49 = .ok (.goto 4, 3) := by decide +kernel
theorem dX5_isRight_52 : decode cX5_isRight 52 = .ok (.iconst 0, 1) := by decide +kernel
theorem dX5_isRight_53 : decode cX5_isRight 53 = .ok (.ireturn, 1) := by decide +kernel
theorem dX5_rightLetters_0 : decode cX5_rightLetters 0 = .ok (.iconst 0, 1) := by decide +kernel
theorem dX5_rightLetters_1 : decode cX5_rightLetters 1 = .ok (.istore_n 1, 1) := by decide +kernel
theorem dX5_rightLetters_2 : decode cX5_rightLetters 2 = .ok (.iload_n 1, 1) := by decide +kernel
theorem dX5_rightLetters_3 : decode cX5_rightLetters 3 = .ok (.aload_n 0, 1) := by decide +kernel
theorem dX5_rightLetters_4 : decode cX5_rightLetters 4 = .ok (.getfield 88, 3) := by decide +kernel
theorem dX5_rightLetters_7 : decode cX5_rightLetters 7 = .ok (.if_icmp .ge 17, 3) := by decide +kernel
theorem dX5_rightLetters_10 : decode cX5_rightLetters 10 = .ok (.aload_n 0, 1) := by decide +kernel
theorem dX5_rightLetters_11 : decode cX5_rightLetters 11 = .ok (.iload_n 1, 1) := by decide +kernel
theorem dX5_rightLetters_12 : decode cX5_rightLetters 12 = .ok (.invokevirtual 91, 3) := by decide +kernel
theorem dX5_rightLetters_15 : decode cX5_rightLetters 15 = .ok (.ifCond .eq 9, 3) := by decide +kernel
theorem dX5_rightLetters_18 : decode cX5_rightLetters 18 = .ok (.iinc 1 1, 3) := by decide +kernel
theorem dX5_rightLetters_21 : decode cX5_rightLetters 21 = .ok (.goto (-19), 3) := by decide +kernel
theorem dX5_rightLetters_24 : decode cX5_rightLetters 24 = .ok (.iload_n 1, 1) := by decide +kernel
theorem dX5_rightLetters_25 : decode cX5_rightLetters 25 = .ok (.ireturn, 1) := by decide +kernel
theorem dX5_fault_0 : decode cX5_fault 0 = .ok (.aload_n 0, 1) := by decide +kernel
theorem dX5_fault_1 : decode cX5_fault 1 = .ok (.invokevirtual 95, 3) := by decide +kernel
theorem dX5_fault_4 : decode cX5_fault 4 = .ok (.ireturn, 1) := by decide +kernel
theorem dX5_clearFlows_0 : decode cX5_clearFlows 0 = .ok (.iconst 0, 1) := by decide +kernel
theorem dX5_clearFlows_1 : decode cX5_clearFlows 1 = .ok (.istore_n 1, 1) := by decide +kernel
theorem dX5_clearFlows_2 : decode cX5_clearFlows 2 = .ok (.iload_n 1, 1) := by decide +kernel
theorem dX5_clearFlows_3 : decode cX5_clearFlows 3 = .ok (.bipush 12, 2) := by decide +kernel
theorem dX5_clearFlows_5 : decode cX5_clearFlows 5 = .ok (.if_icmp .ge 58, 3) := by decide +kernel
theorem dX5_clearFlows_8 : decode cX5_clearFlows 8 = .ok (.aload_n 0, 1) := by decide +kernel
theorem dX5_clearFlows_9 : decode cX5_clearFlows 9 = .ok (.getfield 54, 3) := by decide +kernel
theorem dX5_clearFlows_12 : decode cX5_clearFlows 12 = .ok (.iload_n 1, 1) := by decide +kernel
theorem dX5_clearFlows_13 : decode cX5_clearFlows 13 = .ok (.iconst (-1), 1) := by decide +kernel
theorem dX5_clearFlows_14 : decode cX5_clearFlows 14 = .ok (.iastore, 1) := by decide +kernel
theorem dX5_clearFlows_15 : decode cX5_clearFlows 15 = .ok (.aload_n 0, 1) := by decide +kernel
theorem dX5_clearFlows_16 : decode cX5_clearFlows 16 = .ok (.getfield 57, 3) := by decide +kernel
theorem dX5_clearFlows_19 : decode cX5_clearFlows 19 = .ok (.iload_n 1, 1) := by decide +kernel
theorem dX5_clearFlows_20 : decode cX5_clearFlows 20 = .ok (.iconst 0, 1) := by decide +kernel
theorem dX5_clearFlows_21 : decode cX5_clearFlows 21 = .ok (.bastore, 1) := by decide +kernel
theorem dX5_clearFlows_22 : decode cX5_clearFlows 22 = .ok (.aload_n 0, 1) := by decide +kernel
theorem dX5_clearFlows_23 : decode cX5_clearFlows 23 = .ok (.getfield 60, 3) := by decide +kernel
theorem dX5_clearFlows_26 : decode cX5_clearFlows 26 = .ok (.iload_n 1, 1) := by decide +kernel
theorem dX5_clearFlows_27 : decode cX5_clearFlows 27 = .ok (.iconst 0, 1) := by decide +kernel
theorem dX5_clearFlows_28 : decode cX5_clearFlows 28 = .ok (.iastore, 1) := by decide +kernel
theorem dX5_clearFlows_29 : decode cX5_clearFlows 29 = .ok (.aload_n 0, 1) := by decide +kernel
theorem dX5_clearFlows_30 : decode cX5_clearFlows 30 = .ok (.getfield 66, 3) := by decide +kernel
theorem dX5_clearFlows_33 : decode cX5_clearFlows 33 = .ok (.iload_n 1, 1) := by decide +kernel
theorem dX5_clearFlows_34 : decode cX5_clearFlows 34 = .ok (.iconst 0, 1) := by decide +kernel
theorem dX5_clearFlows_35 : decode cX5_clearFlows 35 = .ok (.iastore, 1) := by decide +kernel
theorem dX5_clearFlows_36 : decode cX5_clearFlows 36 = .ok (.aload_n 0, 1) := by decide +kernel
theorem dX5_clearFlows_37 : decode cX5_clearFlows 37 = .ok (.getfield 69, 3) := by decide +kernel
theorem dX5_clearFlows_40 : decode cX5_clearFlows 40 = .ok (.iload_n 1, 1) := by decide +kernel
theorem dX5_clearFlows_41 : decode cX5_clearFlows 41 = .ok (.iconst 0, 1) := by decide +kernel
theorem dX5_clearFlows_42 : decode cX5_clearFlows 42 = .ok (.iastore, 1) := by decide +kernel
theorem dX5_clearFlows_43 : decode cX5_clearFlows 43 = .ok (.aload_n 0, 1) := by decide +kernel
theorem dX5_clearFlows_44 : decode cX5_clearFlows 44 = .ok (.getfield 72, 3) := by decide +kernel
theorem dX5_clearFlows_47 : decode cX5_clearFlows 47 = .ok (.iload_n 1, 1) := by decide +kernel
theorem dX5_clearFlows_48 : decode cX5_clearFlows 48 = .ok (.iconst 0, 1) := by decide +kernel
theorem dX5_clearFlows_49 : decode cX5_clearFlows 49 = .ok (.iastore, 1) := by decide +kernel
theorem dX5_clearFlows_50 : decode cX5_clearFlows 50 = .ok (.aload_n 0, 1) := by decide +kernel
theorem dX5_clearFlows_51 : decode cX5_clearFlows 51 = .ok (.getfield 75, 3) := by decide +kernel
theorem dX5_clearFlows_54 : decode cX5_clearFlows 54 = .ok (.iload_n 1, 1) := by decide +kernel
theorem dX5_clearFlows_55 : decode cX5_clearFlows 55 = .ok (.iconst 0, 1) := by decide +kernel
theorem dX5_clearFlows_56 : decode cX5_clearFlows 56 = .ok (.iastore, 1) := by decide +kernel
theorem dX5_clearFlows_57 : decode cX5_clearFlows 57 = .ok (.iinc 1 1, 3) := by decide +kernel
theorem dX5_clearFlows_60 : decode cX5_clearFlows 60 = .ok (.goto (-58), 3) := by decide +kernel
theorem dX5_clearFlows_63 : decode cX5_clearFlows 63 = .ok (.aload_n 0, 1) := by decide +kernel
theorem dX5_clearFlows_64 : decode cX5_clearFlows 64 = .ok (.iconst 0, 1) := by decide +kernel
theorem dX5_clearFlows_65 : decode cX5_clearFlows 65 = .ok (.putfield 99, 3) := by decide +kernel
theorem dX5_clearFlows_68 : decode cX5_clearFlows 68 = .ok (.aload_n 0, 1) := by decide +kernel
theorem dX5_clearFlows_69 : decode cX5_clearFlows 69 = .ok (.iconst 0, 1) := by decide +kernel
theorem dX5_clearFlows_70 : decode cX5_clearFlows 70 = .ok (.putfield 102, 3) := by decide +kernel
theorem dX5_clearFlows_73 : decode cX5_clearFlows 73 = .ok (.return_, 1) := by decide +kernel
theorem dX5_board_0 : decode cX5_board 0 = .ok (.aload_n 0, 1) := by decide +kernel
theorem dX5_board_1 : decode cX5_board 1 = .ok (.getfield 88, 3) := by decide +kernel
theorem dX5_board_4 : decode cX5_board 4 = .ok (.iconst 3, 1) := by decide +kernel
theorem dX5_board_5 : decode cX5_board 5 = .ok (.irem, 1) := by decide +kernel
theorem dX5_board_6 : decode cX5_board 6 = .ok (.iconst 2, 1) := by decide +kernel
theorem dX5_board_7 : decode cX5_board 7 = .ok (.if_icmp .ne 14, 3) := by decide +kernel
theorem dX5_board_10 : decode cX5_board 10 = .ok (.aload_n 0, 1) := by decide +kernel
theorem dX5_board_11 : decode cX5_board 11 = .ok (.invokevirtual 95, 3) := by decide +kernel
theorem dX5_board_14 : decode cX5_board 14 = .ok (.aload_n 0, 1) := by decide +kernel
theorem dX5_board_15 : decode cX5_board 15 = .ok (.getfield 88, 3) := by decide +kernel
theorem dX5_board_18 : decode cX5_board 18 = .ok (.if_icmp .ge 7, 3) := by decide +kernel
theorem dX5_board_21 : decode cX5_board 21 = .ok (.sipush (-1003), 3) := by decide +kernel
theorem dX5_board_24 : decode cX5_board 24 = .ok (.ireturn, 1) := by decide +kernel
theorem dX5_board_25 : decode cX5_board 25 = .ok (.aload_n 0, 1) := by decide +kernel
theorem dX5_board_26 : decode cX5_board 26 = .ok (.aload_n 0, 1) := by decide +kernel
theorem dX5_board_27 : decode cX5_board 27 = .ok (.getfield 88, 3) := by decide +kernel
theorem dX5_board_30 : decode cX5_board 30 = .ok (.iconst 1, 1) := by decide +kernel
theorem dX5_board_31 : decode cX5_board 31 = .ok (.iadd, 1) := by decide +kernel
theorem dX5_board_32 : decode cX5_board 32 = .ok (.iconst 3, 1) := by decide +kernel
theorem dX5_board_33 : decode cX5_board 33 = .ok (.idiv, 1) := by decide +kernel
theorem dX5_board_34 : decode cX5_board 34 = .ok (.putfield 105, 3) := by decide +kernel
theorem dX5_board_37 : decode cX5_board 37 = .ok (.iconst 0, 1) := by decide +kernel
theorem dX5_board_38 : decode cX5_board 38 = .ok (.istore_n 1, 1) := by decide +kernel
theorem dX5_board_39 : decode cX5_board 39 = .ok (.iload_n 1, 1) := by decide +kernel
theorem dX5_board_40 : decode cX5_board 40 = .ok (.bipush 6, 2) := by decide +kernel
theorem dX5_board_42 : decode cX5_board 42 = .ok (.if_icmp .ge 95, 3) := by decide +kernel
theorem dX5_board_45 : decode cX5_board 45 = .ok (.aload_n 0, 1) := by decide +kernel
theorem dX5_board_46 : decode cX5_board 46 = .ok (.getfield 13, 3) := by decide +kernel
theorem dX5_board_49 : decode cX5_board 49 = .ok (.iload_n 1, 1) := by decide +kernel
theorem dX5_board_50 : decode cX5_board 50 = .ok (.iload_n 1, 1) := by decide +kernel
theorem dX5_board_51 : decode cX5_board 51 = .ok (.aload_n 0, 1) := by decide +kernel
theorem dX5_board_52 : decode cX5_board 52 = .ok (.getfield 105, 3) := by decide +kernel
theorem dX5_board_55 : decode cX5_board 55 = .ok (.if_icmp .ge 17, 3) := by decide +kernel
theorem dX5_board_58 : decode cX5_board 58 = .ok (.aload_n 0, 1) := by decide +kernel
theorem dX5_board_59 : decode cX5_board 59 = .ok (.getfield 7, 3) := by decide +kernel
theorem dX5_board_62 : decode cX5_board 62 = .ok (.iconst 3, 1) := by decide +kernel
theorem dX5_board_63 : decode cX5_board 63 = .ok (.iload_n 1, 1) := by decide +kernel
theorem dX5_board_64 : decode cX5_board 64 = .ok (.imul, 1) := by decide +kernel
theorem dX5_board_65 : decode cX5_board 65 = .ok (.iaload, 1) := by decide +kernel
theorem dX5_board_66 : decode cX5_board 66 = .ok (.bipush 48, 2) := by decide +kernel
theorem dX5_board_68 : decode cX5_board 68 = .ok (.isub, 1) := by decide +kernel
theorem dX5_board_69 : decode cX5_board 69 = .ok (.goto 4, 3) := by decide +kernel
theorem dX5_board_72 : decode cX5_board 72 = .ok (.iconst 0, 1) := by decide +kernel
theorem dX5_board_73 : decode cX5_board 73 = .ok (.iastore, 1) := by decide +kernel
theorem dX5_board_74 : decode cX5_board 74 = .ok (.aload_n 0, 1) := by decide +kernel
theorem dX5_board_75 : decode cX5_board 75 = .ok (.getfield 16, 3) := by decide +kernel
theorem dX5_board_78 : decode cX5_board 78 = .ok (.iload_n 1, 1) := by decide +kernel
theorem dX5_board_79 : decode cX5_board 79 = .ok (.iload_n 1, 1) := by decide +kernel
theorem dX5_board_80 : decode cX5_board 80 = .ok (.aload_n 0, 1) := by decide +kernel
theorem dX5_board_81 : decode cX5_board 81 = .ok (.getfield 105, 3) := by decide +kernel
theorem dX5_board_84 : decode cX5_board 84 = .ok (.if_icmp .ge 19, 3) := by decide +kernel
theorem dX5_board_87 : decode cX5_board 87 = .ok (.aload_n 0, 1) := by decide +kernel
theorem dX5_board_88 : decode cX5_board 88 = .ok (.getfield 7, 3) := by decide +kernel
theorem dX5_board_91 : decode cX5_board 91 = .ok (.iconst 3, 1) := by decide +kernel
theorem dX5_board_92 : decode cX5_board 92 = .ok (.iload_n 1, 1) := by decide +kernel
theorem dX5_board_93 : decode cX5_board 93 = .ok (.imul, 1) := by decide +kernel
theorem dX5_board_94 : decode cX5_board 94 = .ok (.iconst 1, 1) := by decide +kernel
theorem dX5_board_95 : decode cX5_board 95 = .ok (.iadd, 1) := by decide +kernel
theorem dX5_board_96 : decode cX5_board 96 = .ok (.iaload, 1) := by decide +kernel
theorem dX5_board_97 : decode cX5_board 97 = .ok (.bipush 48, 2) := by decide +kernel
theorem dX5_board_99 : decode cX5_board 99 = .ok (.isub, 1) := by decide +kernel
theorem dX5_board_100 : decode cX5_board 100 = .ok (.goto 4, 3) := by decide +kernel
theorem dX5_board_103 : decode cX5_board 103 = .ok (.iconst 0, 1) := by decide +kernel
theorem dX5_board_104 : decode cX5_board 104 = .ok (.iastore, 1) := by decide +kernel
theorem dX5_board_105 : decode cX5_board 105 = .ok (.aload_n 0, 1) := by decide +kernel
theorem dX5_board_106 : decode cX5_board 106 = .ok (.getfield 19, 3) := by decide +kernel
theorem dX5_board_109 : decode cX5_board 109 = .ok (.iload_n 1, 1) := by decide +kernel
theorem dX5_board_110 : decode cX5_board 110 = .ok (.iconst 0, 1) := by decide +kernel
theorem dX5_board_111 : decode cX5_board 111 = .ok (.bastore, 1) := by decide +kernel
theorem dX5_board_112 : decode cX5_board 112 = .ok (.aload_n 0, 1) := by decide +kernel
theorem dX5_board_113 : decode cX5_board 113 = .ok (.getfield 51, 3) := by decide +kernel
theorem dX5_board_116 : decode cX5_board 116 = .ok (.iload_n 1, 1) := by decide +kernel
theorem dX5_board_117 : decode cX5_board 117 = .ok (.iconst 0, 1) := by decide +kernel
theorem dX5_board_118 : decode cX5_board 118 = .ok (.iastore, 1) := by decide +kernel
theorem dX5_board_119 : decode cX5_board 119 = .ok (.aload_n 0, 1) := by decide +kernel
theorem dX5_board_120 : decode cX5_board 120 = .ok (.iload_n 1, 1) := by decide +kernel
theorem dX5_board_121 : decode cX5_board 121 = .ok (.invokevirtual 108, 3) := by decide +kernel
theorem dX5_board_124 : decode cX5_board 124 = .ok (.aload_n 0, 1) := by decide +kernel
theorem dX5_board_125 : decode cX5_board 125 = .ok (.getfield 35, 3) := by decide +kernel
theorem dX5_board_128 : decode cX5_board 128 = .ok (.iload_n 1, 1) := by decide +kernel
theorem dX5_board_129 : decode cX5_board 129 = .ok (.iconst 0, 1) := by decide +kernel
theorem dX5_board_130 : decode cX5_board 130 = .ok (.iastore, 1) := by decide +kernel
theorem dX5_board_131 : decode cX5_board 131 = .ok (.iinc 1 1, 3) := by decide +kernel
theorem dX5_board_134 : decode cX5_board 134 = .ok (.goto (-95), 3) := by decide +kernel
theorem dX5_board_137 : decode cX5_board 137 = .ok (.aload_n 0, 1) := by decide +kernel
theorem dX5_board_138 : decode cX5_board 138 = .ok (.invokevirtual 81, 3) := by decide +kernel
theorem dX5_board_141 : decode cX5_board 141 = .ok (.aload_n 0, 1) := by decide +kernel
theorem dX5_board_142 : decode cX5_board 142 = .ok (.dup, 1) := by decide +kernel
theorem dX5_board_143 : decode cX5_board 143 = .ok (.getfield 112, 3) := by decide +kernel
theorem dX5_board_146 : decode cX5_board 146 = .ok (.iconst 1, 1) := by decide +kernel
theorem dX5_board_147 : decode cX5_board 147 = .ok (.iadd, 1) := by decide +kernel
theorem dX5_board_148 : decode cX5_board 148 = .ok (.putfield 112, 3) := by decide +kernel
theorem dX5_board_151 : decode cX5_board 151 = .ok (.aload_n 0, 1) := by decide +kernel
theorem dX5_board_152 : decode cX5_board 152 = .ok (.iconst 0, 1) := by decide +kernel
theorem dX5_board_153 : decode cX5_board 153 = .ok (.putfield 88, 3) := by decide +kernel
theorem dX5_board_156 : decode cX5_board 156 = .ok (.aload_n 0, 1) := by decide +kernel
theorem dX5_board_157 : decode cX5_board 157 = .ok (.getfield 105, 3) := by decide +kernel
theorem dX5_board_160 : decode cX5_board 160 = .ok (.ireturn, 1) := by decide +kernel
theorem dX5_isPort_0 : decode cX5_isPort 0 = .ok (.iload_n 1, 1) := by decide +kernel
theorem dX5_isPort_1 : decode cX5_isPort 1 = .ok (.iconst 0, 1) := by decide +kernel
theorem dX5_isPort_2 : decode cX5_isPort 2 = .ok (.aload_n 0, 1) := by decide +kernel
theorem dX5_isPort_3 : decode cX5_isPort 3 = .ok (.getfield 105, 3) := by decide +kernel
theorem dX5_isPort_6 : decode cX5_isPort 6 = .ok (.iconst 1, 1) := by decide +kernel
theorem dX5_isPort_7 : decode cX5_isPort 7 = .ok (.isub, 1) := by decide +kernel
theorem dX5_isPort_8 : decode cX5_isPort 8 = .ok (.invokestatic 84, 3) := by decide +kernel
theorem dX5_isPort_11 : decode cX5_isPort 11 = .ok (.ireturn, 1) := by decide +kernel
theorem dX5_forget_0 : decode cX5_forget 0 = .ok (.aload_n 0, 1) := by decide +kernel
theorem dX5_forget_1 : decode cX5_forget 1 = .ok (.getfield 23, 3) := by decide +kernel
theorem dX5_forget_4 : decode cX5_forget 4 = .ok (.iload_n 1, 1) := by decide +kernel
theorem dX5_forget_5 : decode cX5_forget 5 = .ok (.iconst 0, 1) := by decide +kernel
theorem dX5_forget_6 : decode cX5_forget 6 = .ok (.iastore, 1) := by decide +kernel
theorem dX5_forget_7 : decode cX5_forget 7 = .ok (.aload_n 0, 1) := by decide +kernel
theorem dX5_forget_8 : decode cX5_forget 8 = .ok (.getfield 26, 3) := by decide +kernel
theorem dX5_forget_11 : decode cX5_forget 11 = .ok (.iload_n 1, 1) := by decide +kernel
theorem dX5_forget_12 : decode cX5_forget 12 = .ok (.iconst 0, 1) := by decide +kernel
theorem dX5_forget_13 : decode cX5_forget 13 = .ok (.iastore, 1) := by decide +kernel
theorem dX5_forget_14 : decode cX5_forget 14 = .ok (.aload_n 0, 1) := by decide +kernel
theorem dX5_forget_15 : decode cX5_forget 15 = .ok (.getfield 29, 3) := by decide +kernel
theorem dX5_forget_18 : decode cX5_forget 18 = .ok (.iload_n 1, 1) := by decide +kernel
theorem dX5_forget_19 : decode cX5_forget 19 = .ok (.iconst 0, 1) := by decide +kernel
theorem dX5_forget_20 : decode cX5_forget 20 = .ok (.bastore, 1) := by decide +kernel
theorem dX5_forget_21 : decode cX5_forget 21 = .ok (.aload_n 0, 1) := by decide +kernel
theorem dX5_forget_22 : decode cX5_forget 22 = .ok (.getfield 32, 3) := by decide +kernel
theorem dX5_forget_25 : decode cX5_forget 25 = .ok (.iload_n 1, 1) := by decide +kernel
theorem dX5_forget_26 : decode cX5_forget 26 = .ok (.iconst 0, 1) := by decide +kernel
theorem dX5_forget_27 : decode cX5_forget 27 = .ok (.iastore, 1) := by decide +kernel
theorem dX5_forget_28 : decode cX5_forget 28 = .ok (.return_, 1) := by decide +kernel
theorem dX5_isAhead_0 : decode cX5_isAhead 0 = .ok (.aload_n 0, 1) := by decide +kernel
theorem dX5_isAhead_1 : decode cX5_isAhead 1 = .ok (.getfield 16, 3) := by decide +kernel
theorem dX5_isAhead_4 : decode cX5_isAhead 4 = .ok (.iload_n 1, 1) := by decide +kernel
theorem dX5_isAhead_5 : decode cX5_isAhead 5 = .ok (.iaload, 1) := by decide +kernel
theorem dX5_isAhead_6 : decode cX5_isAhead 6 = .ok (.aload_n 0, 1) := by decide +kernel
theorem dX5_isAhead_7 : decode cX5_isAhead 7 = .ok (.getfield 16, 3) := by decide +kernel
theorem dX5_isAhead_10 : decode cX5_isAhead 10 = .ok (.iload_n 2, 1) := by decide +kernel
theorem dX5_isAhead_11 : decode cX5_isAhead 11 = .ok (.iaload, 1) := by decide +kernel
theorem dX5_isAhead_12 : decode cX5_isAhead 12 = .ok (.if_icmp .lt 23, 3) := by decide +kernel
theorem dX5_isAhead_15 : decode cX5_isAhead 15 = .ok (.aload_n 0, 1) := by decide +kernel
theorem dX5_isAhead_16 : decode cX5_isAhead 16 = .ok (.getfield 16, 3) := by decide +kernel
theorem dX5_isAhead_19 : decode cX5_isAhead 19 = .ok (.iload_n 1, 1) := by decide +kernel
theorem dX5_isAhead_20 : decode cX5_isAhead 20 = .ok (.iaload, 1) := by decide +kernel
theorem dX5_isAhead_21 : decode cX5_isAhead 21 = .ok (.aload_n 0, 1) := by decide +kernel
theorem dX5_isAhead_22 : decode cX5_isAhead 22 = .ok (.getfield 16, 3) := by decide +kernel
theorem dX5_isAhead_25 : decode cX5_isAhead 25 = .ok (.iload_n 2, 1) := by decide +kernel
theorem dX5_isAhead_26 : decode cX5_isAhead 26 = .ok (.iaload, 1) := by decide +kernel
theorem dX5_isAhead_27 : decode cX5_isAhead 27 = .ok (.if_icmp .ne 12, 3) := by decide +kernel
theorem dX5_isAhead_30 : decode cX5_isAhead 30 = .ok (.iload_n 1, 1) := by decide +kernel
theorem dX5_isAhead_31 : decode cX5_isAhead 31 = .ok (.iload_n 2, 1) := by decide +kernel
theorem dX5_isAhead_32 : decode cX5_isAhead 32 = .ok (.if_icmp .ge 7, 3) := by decide +kernel
theorem dX5_isAhead_35 : decode cX5_isAhead 35 = .ok (.iconst 1, 1) := by decide +kernel
theorem dX5_isAhead_36 : decode cX5_isAhead 36 = .ok (.goto 4, 3) := by decide +kernel
theorem dX5_isAhead_39 : decode cX5_isAhead 39 = .ok (.iconst 0, 1) := by decide +kernel
theorem dX5_isAhead_40 : decode cX5_isAhead 40 = .ok (.ireturn, 1) := by decide +kernel
theorem dX5_leadOf_0 : decode cX5_leadOf 0 = .ok (.iconst (-1), 1) := by decide +kernel
theorem dX5_leadOf_1 : decode cX5_leadOf 1 = .ok (.istore_n 2, 1) := by decide +kernel
theorem dX5_leadOf_2 : decode cX5_leadOf 2 = .ok (.iconst 0, 1) := by decide +kernel
theorem dX5_leadOf_3 : decode cX5_leadOf 3 = .ok (.istore_n 3, 1) := by decide +kernel
theorem dX5_leadOf_4 : decode cX5_leadOf 4 = .ok (.iload_n 3, 1) := by decide +kernel
theorem dX5_leadOf_5 : decode cX5_leadOf 5 = .ok (.aload_n 0, 1) := by decide +kernel
theorem dX5_leadOf_6 : decode cX5_leadOf 6 = .ok (.getfield 105, 3) := by decide +kernel
theorem dX5_leadOf_9 : decode cX5_leadOf 9 = .ok (.if_icmp .ge 60, 3) := by decide +kernel
theorem dX5_leadOf_12 : decode cX5_leadOf 12 = .ok (.aload_n 0, 1) := by decide +kernel
theorem dX5_leadOf_13 : decode cX5_leadOf 13 = .ok (.getfield 13, 3) := by decide +kernel
theorem dX5_leadOf_16 : decode cX5_leadOf 16 = .ok (.iload_n 3, 1) := by decide +kernel
theorem dX5_leadOf_17 : decode cX5_leadOf 17 = .ok (.iaload, 1) := by decide +kernel
theorem dX5_leadOf_18 : decode cX5_leadOf 18 = .ok (.iload_n 1, 1) := by decide +kernel
theorem dX5_leadOf_19 : decode cX5_leadOf 19 = .ok (.if_icmp .ne 16, 3) := by decide +kernel
theorem dX5_leadOf_22 : decode cX5_leadOf 22 = .ok (.aload_n 0, 1) := by decide +kernel
theorem dX5_leadOf_23 : decode cX5_leadOf 23 = .ok (.getfield 23, 3) := by decide +kernel
theorem dX5_leadOf_26 : decode cX5_leadOf 26 = .ok (.iload_n 3, 1) := by decide +kernel
theorem dX5_leadOf_27 : decode cX5_leadOf 27 = .ok (.iaload, 1) := by decide +kernel
theorem dX5_leadOf_28 : decode cX5_leadOf 28 = .ok (.ifCond .le 7, 3) := by decide +kernel
theorem dX5_leadOf_31 : decode cX5_leadOf 31 = .ok (.iconst 1, 1) := by decide +kernel
theorem dX5_leadOf_32 : decode cX5_leadOf 32 = .ok (.goto 4, 3) := by decide +kernel
theorem dX5_leadOf_35 : decode cX5_leadOf 35 = .ok (.iconst 0, 1) := by decide +kernel
theorem dX5_leadOf_36 : decode cX5_leadOf 36 = .ok (.istore 4, 2) := by decide +kernel
theorem dX5_leadOf_38 : decode cX5_leadOf 38 = .ok (.iload 4, 2) := by decide +kernel
theorem dX5_leadOf_40 : decode cX5_leadOf 40 = .ok (.ifCond .eq 21, 3) := by decide +kernel
theorem dX5_leadOf_43 : decode cX5_leadOf 43 = .ok (.iload_n 2, 1) := by decide +kernel
theorem dX5_leadOf_44 : decode cX5_leadOf 44 = .ok (.iconst (-1), 1) := by decide +kernel
theorem dX5_leadOf_45 : decode cX5_leadOf 45 = .ok (.if_icmp .eq 12, 3) := by decide +kernel
theorem dX5_leadOf_48 : decode cX5_leadOf 48 = .ok (.aload_n 0, 1) := by decide +kernel
theorem dX5_leadOf_49 : decode cX5_leadOf 49 = .ok (.iload_n 3, 1) := by decide +kernel
theorem dX5_leadOf_50 : decode cX5_leadOf 50 = .ok (.iload_n 2, 1) := by decide +kernel
theorem dX5_leadOf_51 : decode cX5_leadOf 51 = .ok (.invokevirtual 115, 3) := by decide +kernel
theorem dX5_leadOf_54 : decode cX5_leadOf 54 = .ok (.ifCond .eq 7, 3) := by decide +kernel
theorem dX5_leadOf_57 : decode cX5_leadOf 57 = .ok (.iload_n 3, 1) := by decide +kernel
theorem dX5_leadOf_58 : decode cX5_leadOf 58 = .ok (.goto 4, 3) := by decide +kernel
theorem dX5_leadOf_61 : decode cX5_leadOf 61 = .ok (.iload_n 2, 1) := by decide +kernel
theorem dX5_leadOf_62 : decode cX5_leadOf 62 = .ok (.istore_n 2, 1) := by decide +kernel
theorem dX5_leadOf_63 : decode cX5_leadOf 63 = .ok (.iinc 3 1, 3) := by decide +kernel
theorem dX5_leadOf_66 : decode cX5_leadOf 66 = .ok (.goto (-62), 3) := by decide +kernel
theorem dX5_leadOf_69 : decode cX5_leadOf 69 = .ok (.iload_n 2, 1) := by decide +kernel
theorem dX5_leadOf_70 : decode cX5_leadOf 70 = .ok (.ireturn, 1) := by decide +kernel
theorem dX5_areAlike_0 : decode cX5_areAlike 0 = .ok (.aload_n 0, 1) := by decide +kernel
theorem dX5_areAlike_1 : decode cX5_areAlike 1 = .ok (.getfield 23, 3) := by decide +kernel
theorem dX5_areAlike_4 : decode cX5_areAlike 4 = .ok (.iload_n 1, 1) := by decide +kernel
theorem dX5_areAlike_5 : decode cX5_areAlike 5 = .ok (.iaload, 1) := by decide +kernel
theorem dX5_areAlike_6 : decode cX5_areAlike 6 = .ok (.ifCond .le 52, 3) := by decide +kernel
theorem dX5_areAlike_9 : decode cX5_areAlike 9 = .ok (.aload_n 0, 1) := by decide +kernel
theorem dX5_areAlike_10 : decode cX5_areAlike 10 = .ok (.getfield 13, 3) := by decide +kernel
theorem dX5_areAlike_13 : decode cX5_areAlike 13 = .ok (.iload_n 1, 1) := by decide +kernel
theorem dX5_areAlike_14 : decode cX5_areAlike 14 = .ok (.iaload, 1) := by decide +kernel
theorem dX5_areAlike_15 : decode cX5_areAlike 15 = .ok (.aload_n 0, 1) := by decide +kernel
theorem dX5_areAlike_16 : decode cX5_areAlike 16 = .ok (.getfield 13, 3) := by decide +kernel
theorem dX5_areAlike_19 : decode cX5_areAlike 19 = .ok (.iload_n 2, 1) := by decide +kernel
theorem dX5_areAlike_20 : decode cX5_areAlike 20 = .ok (.iaload, 1) := by decide +kernel
theorem dX5_areAlike_21 : decode cX5_areAlike 21 = .ok (.if_icmp .ne 37, 3) := by decide +kernel
theorem dX5_areAlike_24 : decode cX5_areAlike 24 = .ok (.aload_n 0, 1) := by decide +kernel
theorem dX5_areAlike_25 : decode cX5_areAlike 25 = .ok (.getfield 23, 3) := by decide +kernel
theorem dX5_areAlike_28 : decode cX5_areAlike 28 = .ok (.iload_n 1, 1) := by decide +kernel
theorem dX5_areAlike_29 : decode cX5_areAlike 29 = .ok (.iaload, 1) := by decide +kernel
theorem dX5_areAlike_30 : decode cX5_areAlike 30 = .ok (.aload_n 0, 1) := by decide +kernel
theorem dX5_areAlike_31 : decode cX5_areAlike 31 = .ok (.getfield 23, 3) := by decide +kernel
theorem dX5_areAlike_34 : decode cX5_areAlike 34 = .ok (.iload_n 2, 1) := by decide +kernel
theorem dX5_areAlike_35 : decode cX5_areAlike 35 = .ok (.iaload, 1) := by decide +kernel
theorem dX5_areAlike_36 : decode cX5_areAlike 36 = .ok (.if_icmp .ne 22, 3) := by decide +kernel
theorem dX5_areAlike_39 : decode cX5_areAlike 39 = .ok (.aload_n 0, 1) := by decide +kernel
theorem dX5_areAlike_40 : decode cX5_areAlike 40 = .ok (.getfield 26, 3) := by decide +kernel
theorem dX5_areAlike_43 : decode cX5_areAlike 43 = .ok (.iload_n 1, 1) := by decide +kernel
theorem dX5_areAlike_44 : decode cX5_areAlike 44 = .ok (.iaload, 1) := by decide +kernel
theorem dX5_areAlike_45 : decode cX5_areAlike 45 = .ok (.aload_n 0, 1) := by decide +kernel
theorem dX5_areAlike_46 : decode cX5_areAlike 46 = .ok (.getfield 26, 3) := by decide +kernel
theorem dX5_areAlike_49 : decode cX5_areAlike 49 = .ok (.iload_n 2, 1) := by decide +kernel
theorem dX5_areAlike_50 : decode cX5_areAlike 50 = .ok (.iaload, 1) := by decide +kernel
theorem dX5_areAlike_51 : decode cX5_areAlike 51 = .ok (.if_icmp .ne 7, 3) := by decide +kernel
theorem dX5_areAlike_54 : decode cX5_areAlike 54 = .ok (.iconst 1, 1) := by decide +kernel
theorem dX5_areAlike_55 : decode cX5_areAlike 55 = .ok (.goto 4, 3) := by decide +kernel
theorem dX5_areAlike_58 : decode cX5_areAlike 58 = .ok (.iconst 0, 1) := by decide +kernel
theorem dX5_areAlike_59 : decode cX5_areAlike 59 = .ok (.ireturn, 1) := by decide +kernel
theorem dX5_placeOf_0 : decode cX5_placeOf 0 = .ok (.aload_n 0, 1) := by decide +kernel
theorem dX5_placeOf_1 : decode cX5_placeOf 1 = .ok (.aload_n 0, 1) := by decide +kernel
theorem dX5_placeOf_2 : decode cX5_placeOf 2 = .ok (.getfield 13, 3) := by decide +kernel
theorem dX5_placeOf_5 : decode cX5_placeOf 5 = .ok (.iload_n 1, 1) := by decide +kernel
theorem dX5_placeOf_6 : decode cX5_placeOf 6 = .ok (.iaload, 1) := by decide +kernel
theorem dX5_placeOf_7 : decode cX5_placeOf 7 = .ok (.invokevirtual 119, 3) := by decide +kernel
theorem dX5_placeOf_10 : decode cX5_placeOf 10 = .ok (.istore_n 2, 1) := by decide +kernel
theorem dX5_placeOf_11 : decode cX5_placeOf 11 = .ok (.iload_n 2, 1) := by decide +kernel
theorem dX5_placeOf_12 : decode cX5_placeOf 12 = .ok (.iconst (-1), 1) := by decide +kernel
theorem dX5_placeOf_13 : decode cX5_placeOf 13 = .ok (.if_icmp .eq 12, 3) := by decide +kernel
theorem dX5_placeOf_16 : decode cX5_placeOf 16 = .ok (.aload_n 0, 1) := by decide +kernel
theorem dX5_placeOf_17 : decode cX5_placeOf 17 = .ok (.iload_n 1, 1) := by decide +kernel
theorem dX5_placeOf_18 : decode cX5_placeOf 18 = .ok (.iload_n 2, 1) := by decide +kernel
theorem dX5_placeOf_19 : decode cX5_placeOf 19 = .ok (.invokevirtual 123, 3) := by decide +kernel
theorem dX5_placeOf_22 : decode cX5_placeOf 22 = .ok (.ifCond .ne 5, 3) := by decide +kernel
theorem dX5_placeOf_25 : decode cX5_placeOf 25 = .ok (.iconst (-1), 1) := by decide +kernel
theorem dX5_placeOf_26 : decode cX5_placeOf 26 = .ok (.ireturn, 1) := by decide +kernel
theorem dX5_placeOf_27 : decode cX5_placeOf 27 = .ok (.iconst 0, 1) := by decide +kernel
theorem dX5_placeOf_28 : decode cX5_placeOf 28 = .ok (.istore_n 3, 1) := by decide +kernel
theorem dX5_placeOf_29 : decode cX5_placeOf 29 = .ok (.iconst 0, 1) := by decide +kernel
theorem dX5_placeOf_30 : decode cX5_placeOf 30 = .ok (.istore 4, 2) := by decide +kernel
theorem dX5_placeOf_32 : decode cX5_placeOf 32 = .ok (.iload 4, 2) := by decide +kernel
theorem dX5_placeOf_34 : decode cX5_placeOf 34 = .ok (.aload_n 0, 1) := by decide +kernel
theorem dX5_placeOf_35 : decode cX5_placeOf 35 = .ok (.getfield 105, 3) := by decide +kernel
theorem dX5_placeOf_38 : decode cX5_placeOf 38 = .ok (.if_icmp .ge 37, 3) := by decide +kernel
theorem dX5_placeOf_41 : decode cX5_placeOf 41 = .ok (.iload_n 3, 1) := by decide +kernel
theorem dX5_placeOf_42 : decode cX5_placeOf 42 = .ok (.aload_n 0, 1) := by decide +kernel
theorem dX5_placeOf_43 : decode cX5_placeOf 43 = .ok (.iload 4, 2) := by decide +kernel
theorem dX5_placeOf_45 : decode cX5_placeOf 45 = .ok (.iload_n 2, 1) := by decide +kernel
theorem dX5_placeOf_46 : decode cX5_placeOf 46 = .ok (.invokevirtual 123, 3) := by decide +kernel
theorem dX5_placeOf_49 : decode cX5_placeOf 49 = .ok (.ifCond .eq 17, 3) := by decide +kernel
theorem dX5_placeOf_52 : decode cX5_placeOf 52 = .ok (.aload_n 0, 1) := by decide +kernel
theorem dX5_placeOf_53 : decode cX5_placeOf 53 = .ok (.iload 4, 2) := by decide +kernel
theorem dX5_placeOf_55 : decode cX5_placeOf 55 = .ok (.iload_n 1, 1) := by decide +kernel
theorem dX5_placeOf_56 : decode cX5_placeOf 56 = .ok (.invokevirtual 115, 3) := by decide +kernel
theorem dX5_placeOf_59 : decode cX5_placeOf 59 = .ok (.ifCond .eq 7, 3) := by decide +kernel
theorem dX5_placeOf_62 : decode cX5_placeOf 62 = .ok (.iconst 1, 1) := by decide +kernel
theorem dX5_placeOf_63 : decode cX5_placeOf 63 = .ok (.goto 4, 3) := by decide +kernel
theorem dX5_placeOf_66 : decode cX5_placeOf 66 = .ok (.iconst 0, 1) := by decide +kernel
theorem dX5_placeOf_67 : decode cX5_placeOf 67 = .ok (.iadd, 1) := by decide +kernel
theorem dX5_placeOf_68 : decode cX5_placeOf 68 = .ok (.istore_n 3, 1) := by decide +kernel
theorem dX5_placeOf_69 : decode cX5_placeOf 69 = .ok (.iinc 4 1, 3) := by decide +kernel
theorem dX5_placeOf_72 : decode cX5_placeOf 72 = .ok (.goto (-40), 3) := by decide +kernel
theorem dX5_placeOf_75 : decode cX5_placeOf 75 = .ok (.iload_n 3, 1) := by decide +kernel
theorem dX5_placeOf_76 : decode cX5_placeOf 76 = .ok (.ireturn, 1) := by decide +kernel
theorem dX5_stateOf_0 : decode cX5_stateOf 0 = .ok (.aload_n 0, 1) := by decide +kernel
theorem dX5_stateOf_1 : decode cX5_stateOf 1 = .ok (.iload_n 1, 1) := by decide +kernel
theorem dX5_stateOf_2 : decode cX5_stateOf 2 = .ok (.invokevirtual 126, 3) := by decide +kernel
theorem dX5_stateOf_5 : decode cX5_stateOf 5 = .ok (.istore_n 2, 1) := by decide +kernel
theorem dX5_stateOf_6 : decode cX5_stateOf 6 = .ok (.iload_n 2, 1) := by decide +kernel
theorem dX5_stateOf_7 : decode cX5_stateOf 7 = .ok (.iconst (-1), 1) := by decide +kernel
theorem dX5_stateOf_8 : decode cX5_stateOf 8 = .ok (.if_icmp .ne 5, 3) := by decide +kernel
theorem dX5_stateOf_11 : decode cX5_stateOf 11 = .ok (.iconst 0, 1) := by decide +kernel
theorem dX5_stateOf_12 : decode cX5_stateOf 12 = .ok (.ireturn, 1) := by decide +kernel
theorem dX5_stateOf_13 : decode cX5_stateOf 13 = .ok (.iload_n 2, 1) := by decide +kernel
theorem dX5_stateOf_14 : decode cX5_stateOf 14 = .ok (.aload_n 0, 1) := by decide +kernel
theorem dX5_stateOf_15 : decode cX5_stateOf 15 = .ok (.getfield 38, 3) := by decide +kernel
theorem dX5_stateOf_18 : decode cX5_stateOf 18 = .ok (.if_icmp .lt 5, 3) := by decide +kernel
theorem dX5_stateOf_21 : decode cX5_stateOf 21 = .ok (.iconst 1, 1) := by decide +kernel
theorem dX5_stateOf_22 : decode cX5_stateOf 22 = .ok (.ireturn, 1) := by decide +kernel
theorem dX5_stateOf_23 : decode cX5_stateOf 23 = .ok (.aload_n 0, 1) := by decide +kernel
theorem dX5_stateOf_24 : decode cX5_stateOf 24 = .ok (.getfield 35, 3) := by decide +kernel
theorem dX5_stateOf_27 : decode cX5_stateOf 27 = .ok (.iload_n 1, 1) := by decide +kernel
theorem dX5_stateOf_28 : decode cX5_stateOf 28 = .ok (.iaload, 1) := by decide +kernel
theorem dX5_stateOf_29 : decode cX5_stateOf 29 = .ok (.aload_n 0, 1) := by decide +kernel
theorem dX5_stateOf_30 : decode cX5_stateOf 30 = .ok (.getfield 42, 3) := by decide +kernel
theorem dX5_stateOf_33 : decode cX5_stateOf 33 = .ok (.if_icmp .ge 7, 3) := by decide +kernel
theorem dX5_stateOf_36 : decode cX5_stateOf 36 = .ok (.iconst 2, 1) := by decide +kernel
theorem dX5_stateOf_37 : decode cX5_stateOf 37 = .ok (.goto 17, 3) := by decide +kernel
theorem dX5_stateOf_40 : decode cX5_stateOf 40 = .ok (.aload_n 0, 1) := by decide +kernel
theorem dX5_stateOf_41 : decode cX5_stateOf 41 = .ok (.getfield 29, 3) := by decide +kernel
theorem dX5_stateOf_44 : decode cX5_stateOf 44 = .ok (.iload_n 1, 1) := by decide +kernel
theorem dX5_stateOf_45 : decode cX5_stateOf 45 = .ok (.baload, 1) := by decide +kernel
theorem dX5_stateOf_46 : decode cX5_stateOf 46 = .ok (.ifCond .eq 7, 3) := by decide +kernel
theorem dX5_stateOf_49 : decode cX5_stateOf 49 = .ok (.iconst 4, 1) := by decide +kernel
theorem dX5_stateOf_50 : decode cX5_stateOf 50 = .ok (.goto 4, 3) := by decide +kernel
theorem dX5_stateOf_53 : decode cX5_stateOf 53 = .ok (.iconst 3, 1) := by decide +kernel
theorem dX5_stateOf_54 : decode cX5_stateOf 54 = .ok (.ireturn, 1) := by decide +kernel
theorem dX5_settle_0 : decode cX5_settle 0 = .ok (.iconst 0, 1) := by decide +kernel
theorem dX5_settle_1 : decode cX5_settle 1 = .ok (.istore_n 1, 1) := by decide +kernel
theorem dX5_settle_2 : decode cX5_settle 2 = .ok (.iload_n 1, 1) := by decide +kernel
theorem dX5_settle_3 : decode cX5_settle 3 = .ok (.aload_n 0, 1) := by decide +kernel
theorem dX5_settle_4 : decode cX5_settle 4 = .ok (.getfield 105, 3) := by decide +kernel
theorem dX5_settle_7 : decode cX5_settle 7 = .ok (.if_icmp .ge 34, 3) := by decide +kernel
theorem dX5_settle_10 : decode cX5_settle 10 = .ok (.aload_n 0, 1) := by decide +kernel
theorem dX5_settle_11 : decode cX5_settle 11 = .ok (.getfield 35, 3) := by decide +kernel
theorem dX5_settle_14 : decode cX5_settle 14 = .ok (.iload_n 1, 1) := by decide +kernel
theorem dX5_settle_15 : decode cX5_settle 15 = .ok (.aload_n 0, 1) := by decide +kernel
theorem dX5_settle_16 : decode cX5_settle 16 = .ok (.iload_n 1, 1) := by decide +kernel
theorem dX5_settle_17 : decode cX5_settle 17 = .ok (.invokevirtual 129, 3) := by decide +kernel
theorem dX5_settle_20 : decode cX5_settle 20 = .ok (.iconst 2, 1) := by decide +kernel
theorem dX5_settle_21 : decode cX5_settle 21 = .ok (.if_icmp .ge 7, 3) := by decide +kernel
theorem dX5_settle_24 : decode cX5_settle 24 = .ok (.iconst 0, 1) := by decide +kernel
theorem dX5_settle_25 : decode cX5_settle 25 = .ok (.goto 9, 3) := by decide +kernel
theorem dX5_settle_28 : decode cX5_settle 28 = .ok (.aload_n 0, 1) := by decide +kernel
theorem dX5_settle_29 : decode cX5_settle 29 = .ok (.getfield 35, 3) := by decide +kernel
theorem dX5_settle_32 : decode cX5_settle 32 = .ok (.iload_n 1, 1) := by decide +kernel
theorem dX5_settle_33 : decode cX5_settle 33 = .ok (.iaload, 1) := by decide +kernel
theorem dX5_settle_34 : decode cX5_settle 34 = .ok (.iastore, 1) := by decide +kernel
theorem dX5_settle_35 : decode cX5_settle 35 = .ok (.iinc 1 1, 3) := by decide +kernel
theorem dX5_settle_38 : decode cX5_settle 38 = .ok (.goto (-36), 3) := by decide +kernel
theorem dX5_settle_41 : decode cX5_settle 41 = .ok (.return_, 1) := by decide +kernel
theorem dX5_toldNow_0 : decode cX5_toldNow 0 = .ok (.iload_n 1, 1) := by decide +kernel
theorem dX5_toldNow_1 : decode cX5_toldNow 1 = .ok (.ifCond .ne 10, 3) := by decide +kernel
theorem dX5_toldNow_4 : decode cX5_toldNow 4 = .ok (.aload_n 0, 1) := by decide +kernel
theorem dX5_toldNow_5 : decode cX5_toldNow 5 = .ok (.getfield 38, 3) := by decide +kernel
theorem dX5_toldNow_8 : decode cX5_toldNow 8 = .ok (.goto 19, 3) := by decide +kernel
theorem dX5_toldNow_11 : decode cX5_toldNow 11 = .ok (.iload_n 1, 1) := by decide +kernel
theorem dX5_toldNow_12 : decode cX5_toldNow 12 = .ok (.iconst 1, 1) := by decide +kernel
theorem dX5_toldNow_13 : decode cX5_toldNow 13 = .ok (.if_icmp .ne 10, 3) := by decide +kernel
theorem dX5_toldNow_16 : decode cX5_toldNow 16 = .ok (.aload_n 0, 1) := by decide +kernel
theorem dX5_toldNow_17 : decode cX5_toldNow 17 = .ok (.getfield 42, 3) := by decide +kernel
theorem dX5_toldNow_20 : decode cX5_toldNow 20 = .ok (.goto 7, 3) := by decide +kernel
theorem dX5_toldNow_23 : decode cX5_toldNow 23 = .ok (.aload_n 0, 1) := by decide +kernel
theorem dX5_toldNow_24 : decode cX5_toldNow 24 = .ok (.getfield 132, 3) := by decide +kernel
theorem dX5_toldNow_27 : decode cX5_toldNow 27 = .ok (.ireturn, 1) := by decide +kernel
theorem dX5_set_0 : decode cX5_set 0 = .ok (.iload_n 1, 1) := by decide +kernel
theorem dX5_set_1 : decode cX5_set 1 = .ok (.iconst 0, 1) := by decide +kernel
theorem dX5_set_2 : decode cX5_set 2 = .ok (.iconst 2, 1) := by decide +kernel
theorem dX5_set_3 : decode cX5_set 3 = .ok (.invokestatic 84, 3) := by decide +kernel
theorem dX5_set_6 : decode cX5_set 6 = .ok (.ifCond .eq 30, 3) := by decide +kernel
theorem dX5_set_9 : decode cX5_set 9 = .ok (.iload_n 2, 1) := by decide +kernel
theorem dX5_set_10 : decode cX5_set 10 = .ok (.iload_n 1, 1) := by decide +kernel
theorem dX5_set_11 : decode cX5_set 11 = .ok (.ifCond .ne 7, 3) := by decide +kernel
theorem dX5_set_14 : decode cX5_set 14 = .ok (.iconst 1, 1) := by decide +kernel
theorem dX5_set_15 : decode cX5_set 15 = .ok (.goto 4, 3) := by decide +kernel
theorem dX5_set_18 : decode cX5_set 18 = .ok (.iconst 0, 1) := by decide +kernel
theorem dX5_set_19 : decode cX5_set 19 = .ok (.iload_n 1, 1) := by decide +kernel
theorem dX5_set_20 : decode cX5_set 20 = .ok (.ifCond .ne 8, 3) := by decide +kernel
theorem dX5_set_23 : decode cX5_set 23 = .ok (.bipush 6, 2) := by decide +kernel
theorem dX5_set_25 : decode cX5_set 25 = .ok (.goto 5, 3) := by decide +kernel
theorem dX5_set_28 : decode cX5_set 28 = .ok (.bipush 9, 2) := by decide +kernel
theorem dX5_set_30 : decode cX5_set 30 = .ok (.invokestatic 84, 3) := by decide +kernel
theorem dX5_set_33 : decode cX5_set 33 = .ok (.ifCond .ne 7, 3) := by decide +kernel
theorem dX5_set_36 : decode cX5_set 36 = .ok (.sipush (-1002), 3) := by decide +kernel
theorem dX5_set_39 : decode cX5_set 39 = .ok (.ireturn, 1) := by decide +kernel
theorem dX5_set_40 : decode cX5_set 40 = .ok (.aload_n 0, 1) := by decide +kernel
theorem dX5_set_41 : decode cX5_set 41 = .ok (.iload_n 1, 1) := by decide +kernel
theorem dX5_set_42 : decode cX5_set 42 = .ok (.invokevirtual 135, 3) := by decide +kernel
theorem dX5_set_45 : decode cX5_set 45 = .ok (.istore_n 3, 1) := by decide +kernel
theorem dX5_set_46 : decode cX5_set 46 = .ok (.aload_n 0, 1) := by decide +kernel
theorem dX5_set_47 : decode cX5_set 47 = .ok (.iload_n 1, 1) := by decide +kernel
theorem dX5_set_48 : decode cX5_set 48 = .ok (.ifCond .ne 7, 3) := by decide +kernel
theorem dX5_set_51 : decode cX5_set 51 = .ok (.iload_n 2, 1) := by decide +kernel
theorem dX5_set_52 : decode cX5_set 52 = .ok (.goto 7, 3) := by decide +kernel
theorem dX5_set_55 : decode cX5_set 55 = .ok (.aload_n 0, 1) := by decide +kernel
theorem dX5_set_56 : decode cX5_set 56 = .ok (.getfield 38, 3) := by decide +kernel
theorem dX5_set_59 : decode cX5_set 59 = .ok (.putfield 38, 3) := by decide +kernel
theorem dX5_set_62 : decode cX5_set 62 = .ok (.aload_n 0, 1) := by decide +kernel
theorem dX5_set_63 : decode cX5_set 63 = .ok (.iload_n 1, 1) := by decide +kernel
theorem dX5_set_64 : decode cX5_set 64 = .ok (.iconst 1, 1) := by decide +kernel
theorem dX5_set_65 : decode cX5_set 65 = .ok (.if_icmp .ne 7, 3) := by decide +kernel
theorem dX5_set_68 : decode cX5_set 68 = .ok (.iload_n 2, 1) := by decide +kernel
theorem dX5_set_69 : decode cX5_set 69 = .ok (.goto 7, 3) := by decide +kernel
theorem dX5_set_72 : decode cX5_set 72 = .ok (.aload_n 0, 1) := by decide +kernel
theorem dX5_set_73 : decode cX5_set 73 = .ok (.getfield 42, 3) := by decide +kernel
theorem dX5_set_76 : decode cX5_set 76 = .ok (.putfield 42, 3) := by decide +kernel
theorem dX5_set_79 : decode cX5_set 79 = .ok (.aload_n 0, 1) := by decide +kernel
theorem dX5_set_80 : decode cX5_set 80 = .ok (.iload_n 1, 1) := by decide +kernel
theorem dX5_set_81 : decode cX5_set 81 = .ok (.iconst 2, 1) := by decide +kernel
theorem dX5_set_82 : decode cX5_set 82 = .ok (.if_icmp .ne 7, 3) := by decide +kernel
theorem dX5_set_85 : decode cX5_set 85 = .ok (.iload_n 2, 1) := by decide +kernel
theorem dX5_set_86 : decode cX5_set 86 = .ok (.goto 7, 3) := by decide +kernel
theorem dX5_set_89 : decode cX5_set 89 = .ok (.aload_n 0, 1) := by decide +kernel
theorem dX5_set_90 : decode cX5_set 90 = .ok (.getfield 132, 3) := by decide +kernel
theorem dX5_set_93 : decode cX5_set 93 = .ok (.putfield 132, 3) := by decide +kernel
theorem dX5_set_96 : decode cX5_set 96 = .ok (.aload_n 0, 1) := by decide +kernel
theorem dX5_set_97 : decode cX5_set 97 = .ok (.invokevirtual 138, 3) := by decide +kernel
theorem dX5_set_100 : decode cX5_set 100 = .ok (.iload_n 3, 1) := by decide +kernel
theorem dX5_set_101 : decode cX5_set 101 = .ok (.ireturn, 1) := by decide +kernel
theorem dX5_rank_0 : decode cX5_rank 0 = .ok (.aload_n 0, 1) := by decide +kernel
theorem dX5_rank_1 : decode cX5_rank 1 = .ok (.iload_n 1, 1) := by decide +kernel
theorem dX5_rank_2 : decode cX5_rank 2 = .ok (.invokevirtual 141, 3) := by decide +kernel
theorem dX5_rank_5 : decode cX5_rank 5 = .ok (.ifCond .ne 7, 3) := by decide +kernel
theorem dX5_rank_8 : decode cX5_rank 8 = .ok (.sipush (-1001), 3) := by decide +kernel
theorem dX5_rank_11 : decode cX5_rank 11 = .ok (.ireturn, 1) := by decide +kernel
theorem dX5_rank_12 : decode cX5_rank 12 = .ok (.iload_n 2, 1) := by decide +kernel
theorem dX5_rank_13 : decode cX5_rank 13 = .ok (.iconst 0, 1) := by decide +kernel
theorem dX5_rank_14 : decode cX5_rank 14 = .ok (.bipush 9, 2) := by decide +kernel
theorem dX5_rank_16 : decode cX5_rank 16 = .ok (.invokestatic 84, 3) := by decide +kernel
theorem dX5_rank_19 : decode cX5_rank 19 = .ok (.ifCond .ne 7, 3) := by decide +kernel
theorem dX5_rank_22 : decode cX5_rank 22 = .ok (.sipush (-1002), 3) := by decide +kernel
theorem dX5_rank_25 : decode cX5_rank 25 = .ok (.ireturn, 1) := by decide +kernel
theorem dX5_rank_26 : decode cX5_rank 26 = .ok (.aload_n 0, 1) := by decide +kernel
theorem dX5_rank_27 : decode cX5_rank 27 = .ok (.getfield 16, 3) := by decide +kernel
theorem dX5_rank_30 : decode cX5_rank 30 = .ok (.iload_n 1, 1) := by decide +kernel
theorem dX5_rank_31 : decode cX5_rank 31 = .ok (.iaload, 1) := by decide +kernel
theorem dX5_rank_32 : decode cX5_rank 32 = .ok (.istore_n 3, 1) := by decide +kernel
theorem dX5_rank_33 : decode cX5_rank 33 = .ok (.aload_n 0, 1) := by decide +kernel
theorem dX5_rank_34 : decode cX5_rank 34 = .ok (.getfield 16, 3) := by decide +kernel
theorem dX5_rank_37 : decode cX5_rank 37 = .ok (.iload_n 1, 1) := by decide +kernel
theorem dX5_rank_38 : decode cX5_rank 38 = .ok (.iload_n 2, 1) := by decide +kernel
theorem dX5_rank_39 : decode cX5_rank 39 = .ok (.iastore, 1) := by decide +kernel
theorem dX5_rank_40 : decode cX5_rank 40 = .ok (.aload_n 0, 1) := by decide +kernel
theorem dX5_rank_41 : decode cX5_rank 41 = .ok (.invokevirtual 138, 3) := by decide +kernel
theorem dX5_rank_44 : decode cX5_rank 44 = .ok (.iload_n 3, 1) := by decide +kernel
theorem dX5_rank_45 : decode cX5_rank 45 = .ok (.ireturn, 1) := by decide +kernel
theorem dX5_up_0 : decode cX5_up 0 = .ok (.aload_n 0, 1) := by decide +kernel
theorem dX5_up_1 : decode cX5_up 1 = .ok (.iload_n 1, 1) := by decide +kernel
theorem dX5_up_2 : decode cX5_up 2 = .ok (.invokevirtual 141, 3) := by decide +kernel
theorem dX5_up_5 : decode cX5_up 5 = .ok (.ifCond .ne 7, 3) := by decide +kernel
theorem dX5_up_8 : decode cX5_up 8 = .ok (.sipush (-1001), 3) := by decide +kernel
theorem dX5_up_11 : decode cX5_up 11 = .ok (.ireturn, 1) := by decide +kernel
theorem dX5_up_12 : decode cX5_up 12 = .ok (.aload_n 0, 1) := by decide +kernel
theorem dX5_up_13 : decode cX5_up 13 = .ok (.getfield 19, 3) := by decide +kernel
theorem dX5_up_16 : decode cX5_up 16 = .ok (.iload_n 1, 1) := by decide +kernel
theorem dX5_up_17 : decode cX5_up 17 = .ok (.baload, 1) := by decide +kernel
theorem dX5_up_18 : decode cX5_up 18 = .ok (.ifCond .eq 7, 3) := by decide +kernel
theorem dX5_up_21 : decode cX5_up 21 = .ok (.iconst 1, 1) := by decide +kernel
theorem dX5_up_22 : decode cX5_up 22 = .ok (.goto 4, 3) := by decide +kernel
theorem dX5_up_25 : decode cX5_up 25 = .ok (.iconst 0, 1) := by decide +kernel
theorem dX5_up_26 : decode cX5_up 26 = .ok (.istore_n 3, 1) := by decide +kernel
theorem dX5_up_27 : decode cX5_up 27 = .ok (.aload_n 0, 1) := by decide +kernel
theorem dX5_up_28 : decode cX5_up 28 = .ok (.getfield 19, 3) := by decide +kernel
theorem dX5_up_31 : decode cX5_up 31 = .ok (.iload_n 1, 1) := by decide +kernel
theorem dX5_up_32 : decode cX5_up 32 = .ok (.iload_n 2, 1) := by decide +kernel
theorem dX5_up_33 : decode cX5_up 33 = .ok (.bastore, 1) := by decide +kernel
theorem dX5_up_34 : decode cX5_up 34 = .ok (.iload_n 3, 1) := by decide +kernel
theorem dX5_up_35 : decode cX5_up 35 = .ok (.iconst 1, 1) := by decide +kernel
theorem dX5_up_36 : decode cX5_up 36 = .ok (.if_icmp .ne 21, 3) := by decide +kernel
theorem dX5_up_39 : decode cX5_up 39 = .ok (.iload_n 2, 1) := by decide +kernel
theorem dX5_up_40 : decode cX5_up 40 = .ok (.ifCond .ne 17, 3) := by decide +kernel
theorem dX5_up_43 : decode cX5_up 43 = .ok (.aload_n 0, 1) := by decide +kernel
theorem dX5_up_44 : decode cX5_up 44 = .ok (.iload_n 1, 1) := by decide +kernel
theorem dX5_up_45 : decode cX5_up 45 = .ok (.invokevirtual 108, 3) := by decide +kernel
theorem dX5_up_48 : decode cX5_up 48 = .ok (.aload_n 0, 1) := by decide +kernel
theorem dX5_up_49 : decode cX5_up 49 = .ok (.invokevirtual 138, 3) := by decide +kernel
theorem dX5_up_52 : decode cX5_up 52 = .ok (.aload_n 0, 1) := by decide +kernel
theorem dX5_up_53 : decode cX5_up 53 = .ok (.iload_n 1, 1) := by decide +kernel
theorem dX5_up_54 : decode cX5_up 54 = .ok (.invokevirtual 144, 3) := by decide +kernel
theorem dX5_up_57 : decode cX5_up 57 = .ok (.iload_n 3, 1) := by decide +kernel
theorem dX5_up_58 : decode cX5_up 58 = .ok (.ireturn, 1) := by decide +kernel
theorem dX5_hear_0 : decode cX5_hear 0 = .ok (.aload_n 0, 1) := by decide +kernel
theorem dX5_hear_1 : decode cX5_hear 1 = .ok (.iload_n 1, 1) := by decide +kernel
theorem dX5_hear_2 : decode cX5_hear 2 = .ok (.invokevirtual 141, 3) := by decide +kernel
theorem dX5_hear_5 : decode cX5_hear 5 = .ok (.ifCond .ne 7, 3) := by decide +kernel
theorem dX5_hear_8 : decode cX5_hear 8 = .ok (.sipush (-1001), 3) := by decide +kernel
theorem dX5_hear_11 : decode cX5_hear 11 = .ok (.ireturn, 1) := by decide +kernel
theorem dX5_hear_12 : decode cX5_hear 12 = .ok (.iload_n 2, 1) := by decide +kernel
theorem dX5_hear_13 : decode cX5_hear 13 = .ok (.iconst 1, 1) := by decide +kernel
theorem dX5_hear_14 : decode cX5_hear 14 = .ok (.bipush 9, 2) := by decide +kernel
theorem dX5_hear_16 : decode cX5_hear 16 = .ok (.invokestatic 84, 3) := by decide +kernel
theorem dX5_hear_19 : decode cX5_hear 19 = .ok (.ifCond .eq 12, 3) := by decide +kernel
theorem dX5_hear_22 : decode cX5_hear 22 = .ok (.iload_n 3, 1) := by decide +kernel
theorem dX5_hear_23 : decode cX5_hear 23 = .ok (.iconst 0, 1) := by decide +kernel
theorem dX5_hear_24 : decode cX5_hear 24 = .ok (.iconst 3, 1) := by decide +kernel
theorem dX5_hear_25 : decode cX5_hear 25 = .ok (.invokestatic 84, 3) := by decide +kernel
theorem dX5_hear_28 : decode cX5_hear 28 = .ok (.ifCond .ne 7, 3) := by decide +kernel
theorem dX5_hear_31 : decode cX5_hear 31 = .ok (.sipush (-1002), 3) := by decide +kernel
theorem dX5_hear_34 : decode cX5_hear 34 = .ok (.ireturn, 1) := by decide +kernel
theorem dX5_hear_35 : decode cX5_hear 35 = .ok (.aload_n 0, 1) := by decide +kernel
theorem dX5_hear_36 : decode cX5_hear 36 = .ok (.getfield 19, 3) := by decide +kernel
theorem dX5_hear_39 : decode cX5_hear 39 = .ok (.iload_n 1, 1) := by decide +kernel
theorem dX5_hear_40 : decode cX5_hear 40 = .ok (.baload, 1) := by decide +kernel
theorem dX5_hear_41 : decode cX5_hear 41 = .ok (.ifCond .ne 7, 3) := by decide +kernel
theorem dX5_hear_44 : decode cX5_hear 44 = .ok (.sipush (-1003), 3) := by decide +kernel
theorem dX5_hear_47 : decode cX5_hear 47 = .ok (.ireturn, 1) := by decide +kernel
theorem dX5_hear_48 : decode cX5_hear 48 = .ok (.aload_n 0, 1) := by decide +kernel
theorem dX5_hear_49 : decode cX5_hear 49 = .ok (.getfield 23, 3) := by decide +kernel
theorem dX5_hear_52 : decode cX5_hear 52 = .ok (.iload_n 1, 1) := by decide +kernel
theorem dX5_hear_53 : decode cX5_hear 53 = .ok (.iload_n 2, 1) := by decide +kernel
theorem dX5_hear_54 : decode cX5_hear 54 = .ok (.iastore, 1) := by decide +kernel
theorem dX5_hear_55 : decode cX5_hear 55 = .ok (.aload_n 0, 1) := by decide +kernel
theorem dX5_hear_56 : decode cX5_hear 56 = .ok (.getfield 26, 3) := by decide +kernel
theorem dX5_hear_59 : decode cX5_hear 59 = .ok (.iload_n 1, 1) := by decide +kernel
theorem dX5_hear_60 : decode cX5_hear 60 = .ok (.iload_n 3, 1) := by decide +kernel
theorem dX5_hear_61 : decode cX5_hear 61 = .ok (.iastore, 1) := by decide +kernel
theorem dX5_hear_62 : decode cX5_hear 62 = .ok (.aload_n 0, 1) := by decide +kernel
theorem dX5_hear_63 : decode cX5_hear 63 = .ok (.getfield 29, 3) := by decide +kernel
theorem dX5_hear_66 : decode cX5_hear 66 = .ok (.iload_n 1, 1) := by decide +kernel
theorem dX5_hear_67 : decode cX5_hear 67 = .ok (.iload 4, 2) := by decide +kernel
theorem dX5_hear_69 : decode cX5_hear 69 = .ok (.bastore, 1) := by decide +kernel
theorem dX5_hear_70 : decode cX5_hear 70 = .ok (.aload_n 0, 1) := by decide +kernel
theorem dX5_hear_71 : decode cX5_hear 71 = .ok (.getfield 32, 3) := by decide +kernel
theorem dX5_hear_74 : decode cX5_hear 74 = .ok (.iload_n 1, 1) := by decide +kernel
theorem dX5_hear_75 : decode cX5_hear 75 = .ok (.iconst 0, 1) := by decide +kernel
theorem dX5_hear_76 : decode cX5_hear 76 = .ok (.iastore, 1) := by decide +kernel
theorem dX5_hear_77 : decode cX5_hear 77 = .ok (.aload_n 0, 1) := by decide +kernel
theorem dX5_hear_78 : decode cX5_hear 78 = .ok (.invokevirtual 138, 3) := by decide +kernel
theorem dX5_hear_81 : decode cX5_hear 81 = .ok (.aload_n 0, 1) := by decide +kernel
theorem dX5_hear_82 : decode cX5_hear 82 = .ok (.iload_n 1, 1) := by decide +kernel
theorem dX5_hear_83 : decode cX5_hear 83 = .ok (.invokevirtual 129, 3) := by decide +kernel
theorem dX5_hear_86 : decode cX5_hear 86 = .ok (.iconst 4, 1) := by decide +kernel
theorem dX5_hear_87 : decode cX5_hear 87 = .ok (.if_icmp .ne 7, 3) := by decide +kernel
theorem dX5_hear_90 : decode cX5_hear 90 = .ok (.iconst 1, 1) := by decide +kernel
theorem dX5_hear_91 : decode cX5_hear 91 = .ok (.goto 4, 3) := by decide +kernel
theorem dX5_hear_94 : decode cX5_hear 94 = .ok (.iconst 0, 1) := by decide +kernel
theorem dX5_hear_95 : decode cX5_hear 95 = .ok (.ireturn, 1) := by decide +kernel
theorem dX5_portNow_0 : decode cX5_portNow 0 = .ok (.aload_n 0, 1) := by decide +kernel
theorem dX5_portNow_1 : decode cX5_portNow 1 = .ok (.getfield 23, 3) := by decide +kernel
theorem dX5_portNow_4 : decode cX5_portNow 4 = .ok (.iload_n 1, 1) := by decide +kernel
theorem dX5_portNow_5 : decode cX5_portNow 5 = .ok (.iaload, 1) := by decide +kernel
theorem dX5_portNow_6 : decode cX5_portNow 6 = .ok (.ifCond .le 7, 3) := by decide +kernel
theorem dX5_portNow_9 : decode cX5_portNow 9 = .ok (.iconst 1, 1) := by decide +kernel
theorem dX5_portNow_10 : decode cX5_portNow 10 = .ok (.goto 4, 3) := by decide +kernel
theorem dX5_portNow_13 : decode cX5_portNow 13 = .ok (.iconst 0, 1) := by decide +kernel
theorem dX5_portNow_14 : decode cX5_portNow 14 = .ok (.istore_n 3, 1) := by decide +kernel
theorem dX5_portNow_15 : decode cX5_portNow 15 = .ok (.iload_n 2, 1) := by decide +kernel
theorem dX5_portNow_16 : decode cX5_portNow 16 = .ok (.tableswitch 162 0 8 #[52, 59, 66, 81, 96, 111, 134, 149, 155], 52) := by decide +kernel
theorem dX5_portNow_68 : decode cX5_portNow 68 = .ok (.aload_n 0, 1) := by decide +kernel
theorem dX5_portNow_69 : decode cX5_portNow 69 = .ok (.getfield 13, 3) := by decide +kernel
theorem dX5_portNow_72 : decode cX5_portNow 72 = .ok (.iload_n 1, 1) := by decide +kernel
theorem dX5_portNow_73 : decode cX5_portNow 73 = .ok (.iaload, 1) := by decide +kernel
theorem dX5_portNow_74 : decode cX5_portNow 74 = .ok (.ireturn, 1) := by decide +kernel
theorem dX5_portNow_75 : decode cX5_portNow 75 = .ok (.aload_n 0, 1) := by decide +kernel
theorem dX5_portNow_76 : decode cX5_portNow 76 = .ok (.getfield 16, 3) := by decide +kernel
theorem dX5_portNow_79 : decode cX5_portNow 79 = .ok (.iload_n 1, 1) := by decide +kernel
theorem dX5_portNow_80 : decode cX5_portNow 80 = .ok (.iaload, 1) := by decide +kernel
theorem dX5_portNow_81 : decode cX5_portNow 81 = .ok (.ireturn, 1) := by decide +kernel
theorem dX5_portNow_82 : decode cX5_portNow 82 = .ok (.aload_n 0, 1) := by decide +kernel
theorem dX5_portNow_83 : decode cX5_portNow 83 = .ok (.getfield 19, 3) := by decide +kernel
theorem dX5_portNow_86 : decode cX5_portNow 86 = .ok (.iload_n 1, 1) := by decide +kernel
theorem dX5_portNow_87 : decode cX5_portNow 87 = .ok (.baload, 1) := by decide +kernel
theorem dX5_portNow_88 : decode cX5_portNow 88 = .ok (.ifCond .eq 7, 3) := by decide +kernel
theorem dX5_portNow_91 : decode cX5_portNow 91 = .ok (.iconst 1, 1) := by decide +kernel
theorem dX5_portNow_92 : decode cX5_portNow 92 = .ok (.goto 4, 3) := by decide +kernel
theorem dX5_portNow_95 : decode cX5_portNow 95 = .ok (.iconst 0, 1) := by decide +kernel
theorem dX5_portNow_96 : decode cX5_portNow 96 = .ok (.ireturn, 1) := by decide +kernel
theorem dX5_portNow_97 : decode cX5_portNow 97 = .ok (.iload_n 3, 1) := by decide +kernel
theorem dX5_portNow_98 : decode cX5_portNow 98 = .ok (.ifCond .eq 12, 3) := by decide +kernel
theorem dX5_portNow_101 : decode cX5_portNow 101 = .ok (.aload_n 0, 1) := by decide +kernel
theorem dX5_portNow_102 : decode cX5_portNow 102 = .ok (.getfield 23, 3) := by decide +kernel
theorem dX5_portNow_105 : decode cX5_portNow 105 = .ok (.iload_n 1, 1) := by decide +kernel
theorem dX5_portNow_106 : decode cX5_portNow 106 = .ok (.iaload, 1) := by decide +kernel
theorem dX5_portNow_107 : decode cX5_portNow 107 = .ok (.goto 4, 3) := by decide +kernel
theorem dX5_portNow_110 : decode cX5_portNow 110 = .ok (.iconst (-1), 1) := by decide +kernel
theorem dX5_portNow_111 : decode cX5_portNow 111 = .ok (.ireturn, 1) := by decide +kernel
theorem dX5_portNow_112 : decode cX5_portNow 112 = .ok (.iload_n 3, 1) := by decide +kernel
theorem dX5_portNow_113 : decode cX5_portNow 113 = .ok (.ifCond .eq 12, 3) := by decide +kernel
theorem dX5_portNow_116 : decode cX5_portNow 116 = .ok (.aload_n 0, 1) := by decide +kernel
theorem dX5_portNow_117 : decode cX5_portNow 117 = .ok (.getfield 26, 3) := by decide +kernel
theorem dX5_portNow_120 : decode cX5_portNow 120 = .ok (.iload_n 1, 1) := by decide +kernel
theorem dX5_portNow_121 : decode cX5_portNow 121 = .ok (.iaload, 1) := by decide +kernel
theorem dX5_portNow_122 : decode cX5_portNow 122 = .ok (.goto 4, 3) := by decide +kernel
theorem dX5_portNow_125 : decode cX5_portNow 125 = .ok (.iconst (-1), 1) := by decide +kernel
theorem dX5_portNow_126 : decode cX5_portNow 126 = .ok (.ireturn, 1) := by decide +kernel
theorem dX5_portNow_127 : decode cX5_portNow 127 = .ok (.iload_n 3, 1) := by decide +kernel
theorem dX5_portNow_128 : decode cX5_portNow 128 = .ok (.ifCond .ne 7, 3) := by decide +kernel
theorem dX5_portNow_131 : decode cX5_portNow 131 = .ok (.iconst (-1), 1) := by decide +kernel
theorem dX5_portNow_132 : decode cX5_portNow 132 = .ok (.goto 17, 3) := by decide +kernel
theorem dX5_portNow_135 : decode cX5_portNow 135 = .ok (.aload_n 0, 1) := by decide +kernel
theorem dX5_portNow_136 : decode cX5_portNow 136 = .ok (.getfield 29, 3) := by decide +kernel
theorem dX5_portNow_139 : decode cX5_portNow 139 = .ok (.iload_n 1, 1) := by decide +kernel
theorem dX5_portNow_140 : decode cX5_portNow 140 = .ok (.baload, 1) := by decide +kernel
theorem dX5_portNow_141 : decode cX5_portNow 141 = .ok (.ifCond .eq 7, 3) := by decide +kernel
theorem dX5_portNow_144 : decode cX5_portNow 144 = .ok (.iconst 1, 1) := by decide +kernel
theorem dX5_portNow_145 : decode cX5_portNow 145 = .ok (.goto 4, 3) := by decide +kernel
theorem dX5_portNow_148 : decode cX5_portNow 148 = .ok (.iconst 0, 1) := by decide +kernel
theorem dX5_portNow_149 : decode cX5_portNow 149 = .ok (.ireturn, 1) := by decide +kernel
theorem dX5_portNow_150 : decode cX5_portNow 150 = .ok (.iload_n 3, 1) := by decide +kernel
theorem dX5_portNow_151 : decode cX5_portNow 151 = .ok (.ifCond .eq 12, 3) := by decide +kernel
theorem dX5_portNow_154 : decode cX5_portNow 154 = .ok (.aload_n 0, 1) := by decide +kernel
theorem dX5_portNow_155 : decode cX5_portNow 155 = .ok (.getfield 32, 3) := by decide +kernel
theorem dX5_portNow_158 : decode cX5_portNow 158 = .ok (.iload_n 1, 1) := by decide +kernel
theorem dX5_portNow_159 : decode cX5_portNow 159 = .ok (.iaload, 1) := by decide +kernel
theorem dX5_portNow_160 : decode cX5_portNow 160 = .ok (.goto 4, 3) := by decide +kernel
theorem dX5_portNow_163 : decode cX5_portNow 163 = .ok (.iconst (-1), 1) := by decide +kernel
theorem dX5_portNow_164 : decode cX5_portNow 164 = .ok (.ireturn, 1) := by decide +kernel
theorem dX5_portNow_165 : decode cX5_portNow 165 = .ok (.aload_n 0, 1) := by decide +kernel
theorem dX5_portNow_166 : decode cX5_portNow 166 = .ok (.iload_n 1, 1) := by decide +kernel
theorem dX5_portNow_167 : decode cX5_portNow 167 = .ok (.invokevirtual 129, 3) := by decide +kernel
theorem dX5_portNow_170 : decode cX5_portNow 170 = .ok (.ireturn, 1) := by decide +kernel
theorem dX5_portNow_171 : decode cX5_portNow 171 = .ok (.aload_n 0, 1) := by decide +kernel
theorem dX5_portNow_172 : decode cX5_portNow 172 = .ok (.getfield 35, 3) := by decide +kernel
theorem dX5_portNow_175 : decode cX5_portNow 175 = .ok (.iload_n 1, 1) := by decide +kernel
theorem dX5_portNow_176 : decode cX5_portNow 176 = .ok (.iaload, 1) := by decide +kernel
theorem dX5_portNow_177 : decode cX5_portNow 177 = .ok (.ireturn, 1) := by decide +kernel
theorem dX5_portNow_178 : decode cX5_portNow 178 = .ok (.aload_n 0, 1) := by decide +kernel
theorem dX5_portNow_179 : decode cX5_portNow 179 = .ok (.getfield 51, 3) := by decide +kernel
theorem dX5_portNow_182 : decode cX5_portNow 182 = .ok (.iload_n 1, 1) := by decide +kernel
theorem dX5_portNow_183 : decode cX5_portNow 183 = .ok (.iaload, 1) := by decide +kernel
theorem dX5_portNow_184 : decode cX5_portNow 184 = .ok (.ireturn, 1) := by decide +kernel
theorem dX5_of_0 : decode cX5_of 0 = .ok (.aload_n 0, 1) := by decide +kernel
theorem dX5_of_1 : decode cX5_of 1 = .ok (.iload_n 1, 1) := by decide +kernel
theorem dX5_of_2 : decode cX5_of 2 = .ok (.invokevirtual 141, 3) := by decide +kernel
theorem dX5_of_5 : decode cX5_of 5 = .ok (.ifCond .ne 7, 3) := by decide +kernel
theorem dX5_of_8 : decode cX5_of 8 = .ok (.sipush (-1001), 3) := by decide +kernel
theorem dX5_of_11 : decode cX5_of 11 = .ok (.ireturn, 1) := by decide +kernel
theorem dX5_of_12 : decode cX5_of 12 = .ok (.iload_n 2, 1) := by decide +kernel
theorem dX5_of_13 : decode cX5_of 13 = .ok (.iconst 0, 1) := by decide +kernel
theorem dX5_of_14 : decode cX5_of 14 = .ok (.bipush 9, 2) := by decide +kernel
theorem dX5_of_16 : decode cX5_of 16 = .ok (.invokestatic 84, 3) := by decide +kernel
theorem dX5_of_19 : decode cX5_of 19 = .ok (.ifCond .eq 12, 3) := by decide +kernel
theorem dX5_of_22 : decode cX5_of 22 = .ok (.aload_n 0, 1) := by decide +kernel
theorem dX5_of_23 : decode cX5_of 23 = .ok (.iload_n 1, 1) := by decide +kernel
theorem dX5_of_24 : decode cX5_of 24 = .ok (.iload_n 2, 1) := by decide +kernel
theorem dX5_of_25 : decode cX5_of 25 = .ok (.invokevirtual 147, 3) := by decide +kernel
theorem dX5_of_28 : decode cX5_of 28 = .ok (.goto 6, 3) := by decide +kernel
theorem dX5_of_31 : decode cX5_of 31 = .ok (.sipush (-1002), 3) := by decide +kernel
theorem dX5_of_34 : decode cX5_of 34 = .ok (.ireturn, 1) := by decide +kernel
theorem dX5_queueNow_0 : decode cX5_queueNow 0 = .ok (.aload_n 0, 1) := by decide +kernel
theorem dX5_queueNow_1 : decode cX5_queueNow 1 = .ok (.getfield 45, 3) := by decide +kernel
theorem dX5_queueNow_4 : decode cX5_queueNow 4 = .ok (.bipush 24, 2) := by decide +kernel
theorem dX5_queueNow_6 : decode cX5_queueNow 6 = .ok (.iload_n 1, 1) := by decide +kernel
theorem dX5_queueNow_7 : decode cX5_queueNow 7 = .ok (.imul, 1) := by decide +kernel
theorem dX5_queueNow_8 : decode cX5_queueNow 8 = .ok (.iload_n 2, 1) := by decide +kernel
theorem dX5_queueNow_9 : decode cX5_queueNow 9 = .ok (.iadd, 1) := by decide +kernel
theorem dX5_queueNow_10 : decode cX5_queueNow 10 = .ok (.iaload, 1) := by decide +kernel
theorem dX5_queueNow_11 : decode cX5_queueNow 11 = .ok (.istore_n 3, 1) := by decide +kernel
theorem dX5_queueNow_12 : decode cX5_queueNow 12 = .ok (.aload_n 0, 1) := by decide +kernel
theorem dX5_queueNow_13 : decode cX5_queueNow 13 = .ok (.getfield 48, 3) := by decide +kernel
theorem dX5_queueNow_16 : decode cX5_queueNow 16 = .ok (.bipush 24, 2) := by decide +kernel
theorem dX5_queueNow_18 : decode cX5_queueNow 18 = .ok (.iload_n 1, 1) := by decide +kernel
theorem dX5_queueNow_19 : decode cX5_queueNow 19 = .ok (.imul, 1) := by decide +kernel
theorem dX5_queueNow_20 : decode cX5_queueNow 20 = .ok (.iload_n 2, 1) := by decide +kernel
theorem dX5_queueNow_21 : decode cX5_queueNow 21 = .ok (.iadd, 1) := by decide +kernel
theorem dX5_queueNow_22 : decode cX5_queueNow 22 = .ok (.iaload, 1) := by decide +kernel
theorem dX5_queueNow_23 : decode cX5_queueNow 23 = .ok (.istore 4, 2) := by decide +kernel
theorem dX5_queueNow_25 : decode cX5_queueNow 25 = .ok (.iload 4, 2) := by decide +kernel
theorem dX5_queueNow_27 : decode cX5_queueNow 27 = .ok (.ifCond .ne 9, 3) := by decide +kernel
theorem dX5_queueNow_30 : decode cX5_queueNow 30 = .ok (.iconst (-1), 1) := by decide +kernel
theorem dX5_queueNow_31 : decode cX5_queueNow 31 = .ok (.iload_n 3, 1) := by decide +kernel
theorem dX5_queueNow_32 : decode cX5_queueNow 32 = .ok (.isub, 1) := by decide +kernel
theorem dX5_queueNow_33 : decode cX5_queueNow 33 = .ok (.goto 13, 3) := by decide +kernel
theorem dX5_queueNow_36 : decode cX5_queueNow 36 = .ok (.bipush 100, 2) := by decide +kernel
theorem dX5_queueNow_38 : decode cX5_queueNow 38 = .ok (.iload_n 3, 1) := by decide +kernel
theorem dX5_queueNow_39 : decode cX5_queueNow 39 = .ok (.imul, 1) := by decide +kernel
theorem dX5_queueNow_40 : decode cX5_queueNow 40 = .ok (.iload 4, 2) := by decide +kernel
theorem dX5_queueNow_42 : decode cX5_queueNow 42 = .ok (.bipush 100, 2) := by decide +kernel
theorem dX5_queueNow_44 : decode cX5_queueNow 44 = .ok (.irem, 1) := by decide +kernel
theorem dX5_queueNow_45 : decode cX5_queueNow 45 = .ok (.iadd, 1) := by decide +kernel
theorem dX5_queueNow_46 : decode cX5_queueNow 46 = .ok (.ireturn, 1) := by decide +kernel
theorem dX5_queue_0 : decode cX5_queue 0 = .ok (.aload_n 0, 1) := by decide +kernel
theorem dX5_queue_1 : decode cX5_queue 1 = .ok (.iload_n 1, 1) := by decide +kernel
theorem dX5_queue_2 : decode cX5_queue 2 = .ok (.invokevirtual 141, 3) := by decide +kernel
theorem dX5_queue_5 : decode cX5_queue 5 = .ok (.ifCond .eq 28, 3) := by decide +kernel
theorem dX5_queue_8 : decode cX5_queue 8 = .ok (.iload_n 2, 1) := by decide +kernel
theorem dX5_queue_9 : decode cX5_queue 9 = .ok (.iconst 0, 1) := by decide +kernel
theorem dX5_queue_10 : decode cX5_queue 10 = .ok (.aload_n 0, 1) := by decide +kernel
theorem dX5_queue_11 : decode cX5_queue 11 = .ok (.getfield 51, 3) := by decide +kernel
theorem dX5_queue_14 : decode cX5_queue 14 = .ok (.iload_n 1, 1) := by decide +kernel
theorem dX5_queue_15 : decode cX5_queue 15 = .ok (.iaload, 1) := by decide +kernel
theorem dX5_queue_16 : decode cX5_queue 16 = .ok (.iconst 1, 1) := by decide +kernel
theorem dX5_queue_17 : decode cX5_queue 17 = .ok (.isub, 1) := by decide +kernel
theorem dX5_queue_18 : decode cX5_queue 18 = .ok (.invokestatic 84, 3) := by decide +kernel
theorem dX5_queue_21 : decode cX5_queue 21 = .ok (.ifCond .eq 12, 3) := by decide +kernel
theorem dX5_queue_24 : decode cX5_queue 24 = .ok (.aload_n 0, 1) := by decide +kernel
theorem dX5_queue_25 : decode cX5_queue 25 = .ok (.iload_n 1, 1) := by decide +kernel
theorem dX5_queue_26 : decode cX5_queue 26 = .ok (.iload_n 2, 1) := by decide +kernel
theorem dX5_queue_27 : decode cX5_queue 27 = .ok (.invokevirtual 151, 3) := by decide +kernel
theorem dX5_queue_30 : decode cX5_queue 30 = .ok (.goto 6, 3) := by decide +kernel
theorem dX5_queue_33 : decode cX5_queue 33 = .ok (.sipush (-1001), 3) := by decide +kernel
theorem dX5_queue_36 : decode cX5_queue 36 = .ok (.ireturn, 1) := by decide +kernel
theorem dX5_bitsOf_0 : decode cX5_bitsOf 0 = .ok (.iconst 0, 1) := by decide +kernel
theorem dX5_bitsOf_1 : decode cX5_bitsOf 1 = .ok (.istore 4, 2) := by decide +kernel
theorem dX5_bitsOf_3 : decode cX5_bitsOf 3 = .ok (.iconst 0, 1) := by decide +kernel
theorem dX5_bitsOf_4 : decode cX5_bitsOf 4 = .ok (.istore 5, 2) := by decide +kernel
theorem dX5_bitsOf_6 : decode cX5_bitsOf 6 = .ok (.iload 5, 2) := by decide +kernel
theorem dX5_bitsOf_8 : decode cX5_bitsOf 8 = .ok (.aload_n 0, 1) := by decide +kernel
theorem dX5_bitsOf_9 : decode cX5_bitsOf 9 = .ok (.getfield 105, 3) := by decide +kernel
theorem dX5_bitsOf_12 : decode cX5_bitsOf 12 = .ok (.if_icmp .ge 47, 3) := by decide +kernel
theorem dX5_bitsOf_15 : decode cX5_bitsOf 15 = .ok (.iload 4, 2) := by decide +kernel
theorem dX5_bitsOf_17 : decode cX5_bitsOf 17 = .ok (.aload_n 0, 1) := by decide +kernel
theorem dX5_bitsOf_18 : decode cX5_bitsOf 18 = .ok (.getfield 13, 3) := by decide +kernel
theorem dX5_bitsOf_21 : decode cX5_bitsOf 21 = .ok (.iload 5, 2) := by decide +kernel
theorem dX5_bitsOf_23 : decode cX5_bitsOf 23 = .ok (.iaload, 1) := by decide +kernel
theorem dX5_bitsOf_24 : decode cX5_bitsOf 24 = .ok (.iload_n 1, 1) := by decide +kernel
theorem dX5_bitsOf_25 : decode cX5_bitsOf 25 = .ok (.if_icmp .ne 24, 3) := by decide +kernel
theorem dX5_bitsOf_28 : decode cX5_bitsOf 28 = .ok (.aload_n 0, 1) := by decide +kernel
theorem dX5_bitsOf_29 : decode cX5_bitsOf 29 = .ok (.iload 5, 2) := by decide +kernel
theorem dX5_bitsOf_31 : decode cX5_bitsOf 31 = .ok (.invokevirtual 129, 3) := by decide +kernel
theorem dX5_bitsOf_34 : decode cX5_bitsOf 34 = .ok (.iload_n 2, 1) := by decide +kernel
theorem dX5_bitsOf_35 : decode cX5_bitsOf 35 = .ok (.iload_n 3, 1) := by decide +kernel
theorem dX5_bitsOf_36 : decode cX5_bitsOf 36 = .ok (.invokestatic 84, 3) := by decide +kernel
theorem dX5_bitsOf_39 : decode cX5_bitsOf 39 = .ok (.ifCond .eq 10, 3) := by decide +kernel
theorem dX5_bitsOf_42 : decode cX5_bitsOf 42 = .ok (.iconst 1, 1) := by decide +kernel
theorem dX5_bitsOf_43 : decode cX5_bitsOf 43 = .ok (.iload 5, 2) := by decide +kernel
theorem dX5_bitsOf_45 : decode cX5_bitsOf 45 = .ok (.ishl, 1) := by decide +kernel
theorem dX5_bitsOf_46 : decode cX5_bitsOf 46 = .ok (.goto 4, 3) := by decide +kernel
theorem dX5_bitsOf_49 : decode cX5_bitsOf 49 = .ok (.iconst 0, 1) := by decide +kernel
theorem dX5_bitsOf_50 : decode cX5_bitsOf 50 = .ok (.ior, 1) := by decide +kernel
theorem dX5_bitsOf_51 : decode cX5_bitsOf 51 = .ok (.istore 4, 2) := by decide +kernel
theorem dX5_bitsOf_53 : decode cX5_bitsOf 53 = .ok (.iinc 5 1, 3) := by decide +kernel
theorem dX5_bitsOf_56 : decode cX5_bitsOf 56 = .ok (.goto (-50), 3) := by decide +kernel
theorem dX5_bitsOf_59 : decode cX5_bitsOf 59 = .ok (.iload 4, 2) := by decide +kernel
theorem dX5_bitsOf_61 : decode cX5_bitsOf 61 = .ok (.ireturn, 1) := by decide +kernel
theorem dX5_keyNow_0 : decode cX5_keyNow 0 = .ok (.iload_n 2, 1) := by decide +kernel
theorem dX5_keyNow_1 : decode cX5_keyNow 1 = .ok (.ifCond .ne 11, 3) := by decide +kernel
theorem dX5_keyNow_4 : decode cX5_keyNow 4 = .ok (.aload_n 0, 1) := by decide +kernel
theorem dX5_keyNow_5 : decode cX5_keyNow 5 = .ok (.iload_n 1, 1) := by decide +kernel
theorem dX5_keyNow_6 : decode cX5_keyNow 6 = .ok (.invokevirtual 119, 3) := by decide +kernel
theorem dX5_keyNow_9 : decode cX5_keyNow 9 = .ok (.goto 40, 3) := by decide +kernel
theorem dX5_keyNow_12 : decode cX5_keyNow 12 = .ok (.iload_n 2, 1) := by decide +kernel
theorem dX5_keyNow_13 : decode cX5_keyNow 13 = .ok (.iconst 1, 1) := by decide +kernel
theorem dX5_keyNow_14 : decode cX5_keyNow 14 = .ok (.if_icmp .ne 13, 3) := by decide +kernel
theorem dX5_keyNow_17 : decode cX5_keyNow 17 = .ok (.aload_n 0, 1) := by decide +kernel
theorem dX5_keyNow_18 : decode cX5_keyNow 18 = .ok (.iload_n 1, 1) := by decide +kernel
theorem dX5_keyNow_19 : decode cX5_keyNow 19 = .ok (.iconst 2, 1) := by decide +kernel
theorem dX5_keyNow_20 : decode cX5_keyNow 20 = .ok (.iconst 4, 1) := by decide +kernel
theorem dX5_keyNow_21 : decode cX5_keyNow 21 = .ok (.invokevirtual 154, 3) := by decide +kernel
theorem dX5_keyNow_24 : decode cX5_keyNow 24 = .ok (.goto 25, 3) := by decide +kernel
theorem dX5_keyNow_27 : decode cX5_keyNow 27 = .ok (.iload_n 2, 1) := by decide +kernel
theorem dX5_keyNow_28 : decode cX5_keyNow 28 = .ok (.iconst 2, 1) := by decide +kernel
theorem dX5_keyNow_29 : decode cX5_keyNow 29 = .ok (.if_icmp .ne 13, 3) := by decide +kernel
theorem dX5_keyNow_32 : decode cX5_keyNow 32 = .ok (.aload_n 0, 1) := by decide +kernel
theorem dX5_keyNow_33 : decode cX5_keyNow 33 = .ok (.iload_n 1, 1) := by decide +kernel
theorem dX5_keyNow_34 : decode cX5_keyNow 34 = .ok (.iconst 1, 1) := by decide +kernel
theorem dX5_keyNow_35 : decode cX5_keyNow 35 = .ok (.iconst 1, 1) := by decide +kernel
theorem dX5_keyNow_36 : decode cX5_keyNow 36 = .ok (.invokevirtual 154, 3) := by decide +kernel
theorem dX5_keyNow_39 : decode cX5_keyNow 39 = .ok (.goto 10, 3) := by decide +kernel
theorem dX5_keyNow_42 : decode cX5_keyNow 42 = .ok (.aload_n 0, 1) := by decide +kernel
theorem dX5_keyNow_43 : decode cX5_keyNow 43 = .ok (.iload_n 1, 1) := by decide +kernel
theorem dX5_keyNow_44 : decode cX5_keyNow 44 = .ok (.iconst 4, 1) := by decide +kernel
theorem dX5_keyNow_45 : decode cX5_keyNow 45 = .ok (.iconst 4, 1) := by decide +kernel
theorem dX5_keyNow_46 : decode cX5_keyNow 46 = .ok (.invokevirtual 154, 3) := by decide +kernel
theorem dX5_keyNow_49 : decode cX5_keyNow 49 = .ok (.ireturn, 1) := by decide +kernel
theorem dX5_key_0 : decode cX5_key 0 = .ok (.iload_n 1, 1) := by decide +kernel
theorem dX5_key_1 : decode cX5_key 1 = .ok (.iconst 0, 1) := by decide +kernel
theorem dX5_key_2 : decode cX5_key 2 = .ok (.iconst 3, 1) := by decide +kernel
theorem dX5_key_3 : decode cX5_key 3 = .ok (.invokestatic 84, 3) := by decide +kernel
theorem dX5_key_6 : decode cX5_key 6 = .ok (.ifCond .ne 7, 3) := by decide +kernel
theorem dX5_key_9 : decode cX5_key 9 = .ok (.sipush (-1001), 3) := by decide +kernel
theorem dX5_key_12 : decode cX5_key 12 = .ok (.ireturn, 1) := by decide +kernel
theorem dX5_key_13 : decode cX5_key 13 = .ok (.iload_n 2, 1) := by decide +kernel
theorem dX5_key_14 : decode cX5_key 14 = .ok (.iconst 0, 1) := by decide +kernel
theorem dX5_key_15 : decode cX5_key 15 = .ok (.iconst 3, 1) := by decide +kernel
theorem dX5_key_16 : decode cX5_key 16 = .ok (.invokestatic 84, 3) := by decide +kernel
theorem dX5_key_19 : decode cX5_key 19 = .ok (.ifCond .eq 12, 3) := by decide +kernel
theorem dX5_key_22 : decode cX5_key 22 = .ok (.aload_n 0, 1) := by decide +kernel
theorem dX5_key_23 : decode cX5_key 23 = .ok (.iload_n 1, 1) := by decide +kernel
theorem dX5_key_24 : decode cX5_key 24 = .ok (.iload_n 2, 1) := by decide +kernel
theorem dX5_key_25 : decode cX5_key 25 = .ok (.invokevirtual 158, 3) := by decide +kernel
theorem dX5_key_28 : decode cX5_key 28 = .ok (.goto 6, 3) := by decide +kernel
theorem dX5_key_31 : decode cX5_key 31 = .ok (.sipush (-1002), 3) := by decide +kernel
theorem dX5_key_34 : decode cX5_key 34 = .ok (.ireturn, 1) := by decide +kernel
theorem dX5_isFlow_0 : decode cX5_isFlow 0 = .ok (.iload_n 0, 1) := by decide +kernel
theorem dX5_isFlow_1 : decode cX5_isFlow 1 = .ok (.iconst 0, 1) := by decide +kernel
theorem dX5_isFlow_2 : decode cX5_isFlow 2 = .ok (.bipush 11, 2) := by decide +kernel
theorem dX5_isFlow_4 : decode cX5_isFlow 4 = .ok (.invokestatic 84, 3) := by decide +kernel
theorem dX5_isFlow_7 : decode cX5_isFlow 7 = .ok (.ireturn, 1) := by decide +kernel
theorem dX5_wayOf_0 : decode cX5_wayOf 0 = .ok (.aload_n 0, 1) := by decide +kernel
theorem dX5_wayOf_1 : decode cX5_wayOf 1 = .ok (.iload_n 1, 1) := by decide +kernel
theorem dX5_wayOf_2 : decode cX5_wayOf 2 = .ok (.iconst 4, 1) := by decide +kernel
theorem dX5_wayOf_3 : decode cX5_wayOf 3 = .ok (.irem, 1) := by decide +kernel
theorem dX5_wayOf_4 : decode cX5_wayOf 4 = .ok (.iconst 4, 1) := by decide +kernel
theorem dX5_wayOf_5 : decode cX5_wayOf 5 = .ok (.iconst 4, 1) := by decide +kernel
theorem dX5_wayOf_6 : decode cX5_wayOf 6 = .ok (.invokevirtual 154, 3) := by decide +kernel
theorem dX5_wayOf_9 : decode cX5_wayOf 9 = .ok (.istore_n 2, 1) := by decide +kernel
theorem dX5_wayOf_10 : decode cX5_wayOf 10 = .ok (.iconst 0, 1) := by decide +kernel
theorem dX5_wayOf_11 : decode cX5_wayOf 11 = .ok (.istore_n 3, 1) := by decide +kernel
theorem dX5_wayOf_12 : decode cX5_wayOf 12 = .ok (.iconst 0, 1) := by decide +kernel
theorem dX5_wayOf_13 : decode cX5_wayOf 13 = .ok (.istore 4, 2) := by decide +kernel
theorem dX5_wayOf_15 : decode cX5_wayOf 15 = .ok (.iload 4, 2) := by decide +kernel
theorem dX5_wayOf_17 : decode cX5_wayOf 17 = .ok (.bipush 6, 2) := by decide +kernel
theorem dX5_wayOf_19 : decode cX5_wayOf 19 = .ok (.if_icmp .ge 18, 3) := by decide +kernel
theorem dX5_wayOf_22 : decode cX5_wayOf 22 = .ok (.iload_n 3, 1) := by decide +kernel
theorem dX5_wayOf_23 : decode cX5_wayOf 23 = .ok (.iload_n 2, 1) := by decide +kernel
theorem dX5_wayOf_24 : decode cX5_wayOf 24 = .ok (.iload 4, 2) := by decide +kernel
theorem dX5_wayOf_26 : decode cX5_wayOf 26 = .ok (.ishr, 1) := by decide +kernel
theorem dX5_wayOf_27 : decode cX5_wayOf 27 = .ok (.iconst 1, 1) := by decide +kernel
theorem dX5_wayOf_28 : decode cX5_wayOf 28 = .ok (.iand, 1) := by decide +kernel
theorem dX5_wayOf_29 : decode cX5_wayOf 29 = .ok (.iadd, 1) := by decide +kernel
theorem dX5_wayOf_30 : decode cX5_wayOf 30 = .ok (.istore_n 3, 1) := by decide +kernel
theorem dX5_wayOf_31 : decode cX5_wayOf 31 = .ok (.iinc 4 1, 3) := by decide +kernel
theorem dX5_wayOf_34 : decode cX5_wayOf 34 = .ok (.goto (-19), 3) := by decide +kernel
theorem dX5_wayOf_37 : decode cX5_wayOf 37 = .ok (.iload_n 3, 1) := by decide +kernel
theorem dX5_wayOf_38 : decode cX5_wayOf 38 = .ok (.ifCond .ne 5, 3) := by decide +kernel
theorem dX5_wayOf_41 : decode cX5_wayOf 41 = .ok (.iconst (-1), 1) := by decide +kernel
theorem dX5_wayOf_42 : decode cX5_wayOf 42 = .ok (.ireturn, 1) := by decide +kernel
theorem dX5_wayOf_43 : decode cX5_wayOf 43 = .ok (.iload_n 1, 1) := by decide +kernel
theorem dX5_wayOf_44 : decode cX5_wayOf 44 = .ok (.iconst 4, 1) := by decide +kernel
theorem dX5_wayOf_45 : decode cX5_wayOf 45 = .ok (.idiv, 1) := by decide +kernel
theorem dX5_wayOf_46 : decode cX5_wayOf 46 = .ok (.aload_n 0, 1) := by decide +kernel
theorem dX5_wayOf_47 : decode cX5_wayOf 47 = .ok (.getfield 132, 3) := by decide +kernel
theorem dX5_wayOf_50 : decode cX5_wayOf 50 = .ok (.iadd, 1) := by decide +kernel
theorem dX5_wayOf_51 : decode cX5_wayOf 51 = .ok (.iload_n 3, 1) := by decide +kernel
theorem dX5_wayOf_52 : decode cX5_wayOf 52 = .ok (.irem, 1) := by decide +kernel
theorem dX5_wayOf_53 : decode cX5_wayOf 53 = .ok (.istore 4, 2) := by decide +kernel
theorem dX5_wayOf_55 : decode cX5_wayOf 55 = .ok (.iconst 0, 1) := by decide +kernel
theorem dX5_wayOf_56 : decode cX5_wayOf 56 = .ok (.istore 5, 2) := by decide +kernel
theorem dX5_wayOf_58 : decode cX5_wayOf 58 = .ok (.iload_n 2, 1) := by decide +kernel
theorem dX5_wayOf_59 : decode cX5_wayOf 59 = .ok (.iload 5, 2) := by decide +kernel
theorem dX5_wayOf_61 : decode cX5_wayOf 61 = .ok (.ishr, 1) := by decide +kernel
theorem dX5_wayOf_62 : decode cX5_wayOf 62 = .ok (.iconst 1, 1) := by decide +kernel
theorem dX5_wayOf_63 : decode cX5_wayOf 63 = .ok (.iand, 1) := by decide +kernel
theorem dX5_wayOf_64 : decode cX5_wayOf 64 = .ok (.ifCond .eq 8, 3) := by decide +kernel
theorem dX5_wayOf_67 : decode cX5_wayOf 67 = .ok (.iload 4, 2) := by decide +kernel
theorem dX5_wayOf_69 : decode cX5_wayOf 69 = .ok (.ifCond .le 20, 3) := by decide +kernel
theorem dX5_wayOf_72 : decode cX5_wayOf 72 = .ok (.iload 4, 2) := by decide +kernel
theorem dX5_wayOf_74 : decode cX5_wayOf 74 = .ok (.iload_n 2, 1) := by decide +kernel
theorem dX5_wayOf_75 : decode cX5_wayOf 75 = .ok (.iload 5, 2) := by decide +kernel
theorem dX5_wayOf_77 : decode cX5_wayOf 77 = .ok (.ishr, 1) := by decide +kernel
theorem dX5_wayOf_78 : decode cX5_wayOf 78 = .ok (.iconst 1, 1) := by decide +kernel
theorem dX5_wayOf_79 : decode cX5_wayOf 79 = .ok (.iand, 1) := by decide +kernel
theorem dX5_wayOf_80 : decode cX5_wayOf 80 = .ok (.isub, 1) := by decide +kernel
theorem dX5_wayOf_81 : decode cX5_wayOf 81 = .ok (.istore 4, 2) := by decide +kernel
theorem dX5_wayOf_83 : decode cX5_wayOf 83 = .ok (.iinc 5 1, 3) := by decide +kernel
theorem dX5_wayOf_86 : decode cX5_wayOf 86 = .ok (.goto (-28), 3) := by decide +kernel
theorem dX5_wayOf_89 : decode cX5_wayOf 89 = .ok (.iload 5, 2) := by decide +kernel
theorem dX5_wayOf_91 : decode cX5_wayOf 91 = .ok (.ireturn, 1) := by decide +kernel
theorem dX5_way_0 : decode cX5_way 0 = .ok (.iload_n 1, 1) := by decide +kernel
theorem dX5_way_1 : decode cX5_way 1 = .ok (.invokestatic 161, 3) := by decide +kernel
theorem dX5_way_4 : decode cX5_way 4 = .ok (.ifCond .eq 11, 3) := by decide +kernel
theorem dX5_way_7 : decode cX5_way 7 = .ok (.aload_n 0, 1) := by decide +kernel
theorem dX5_way_8 : decode cX5_way 8 = .ok (.iload_n 1, 1) := by decide +kernel
theorem dX5_way_9 : decode cX5_way 9 = .ok (.invokevirtual 164, 3) := by decide +kernel
theorem dX5_way_12 : decode cX5_way 12 = .ok (.goto 6, 3) := by decide +kernel
theorem dX5_way_15 : decode cX5_way 15 = .ok (.sipush (-1001), 3) := by decide +kernel
theorem dX5_way_18 : decode cX5_way 18 = .ok (.ireturn, 1) := by decide +kernel
theorem dX5_lay_0 : decode cX5_lay 0 = .ok (.aload_n 0, 1) := by decide +kernel
theorem dX5_lay_1 : decode cX5_lay 1 = .ok (.getfield 45, 3) := by decide +kernel
theorem dX5_lay_4 : decode cX5_lay 4 = .ok (.bipush 24, 2) := by decide +kernel
theorem dX5_lay_6 : decode cX5_lay 6 = .ok (.iload_n 1, 1) := by decide +kernel
theorem dX5_lay_7 : decode cX5_lay 7 = .ok (.imul, 1) := by decide +kernel
theorem dX5_lay_8 : decode cX5_lay 8 = .ok (.aload_n 0, 1) := by decide +kernel
theorem dX5_lay_9 : decode cX5_lay 9 = .ok (.getfield 51, 3) := by decide +kernel
theorem dX5_lay_12 : decode cX5_lay 12 = .ok (.iload_n 1, 1) := by decide +kernel
theorem dX5_lay_13 : decode cX5_lay 13 = .ok (.iaload, 1) := by decide +kernel
theorem dX5_lay_14 : decode cX5_lay 14 = .ok (.iadd, 1) := by decide +kernel
theorem dX5_lay_15 : decode cX5_lay 15 = .ok (.iload_n 2, 1) := by decide +kernel
theorem dX5_lay_16 : decode cX5_lay 16 = .ok (.iastore, 1) := by decide +kernel
theorem dX5_lay_17 : decode cX5_lay 17 = .ok (.aload_n 0, 1) := by decide +kernel
theorem dX5_lay_18 : decode cX5_lay 18 = .ok (.getfield 48, 3) := by decide +kernel
theorem dX5_lay_21 : decode cX5_lay 21 = .ok (.bipush 24, 2) := by decide +kernel
theorem dX5_lay_23 : decode cX5_lay 23 = .ok (.iload_n 1, 1) := by decide +kernel
theorem dX5_lay_24 : decode cX5_lay 24 = .ok (.imul, 1) := by decide +kernel
theorem dX5_lay_25 : decode cX5_lay 25 = .ok (.aload_n 0, 1) := by decide +kernel
theorem dX5_lay_26 : decode cX5_lay 26 = .ok (.getfield 51, 3) := by decide +kernel
theorem dX5_lay_29 : decode cX5_lay 29 = .ok (.iload_n 1, 1) := by decide +kernel
theorem dX5_lay_30 : decode cX5_lay 30 = .ok (.iaload, 1) := by decide +kernel
theorem dX5_lay_31 : decode cX5_lay 31 = .ok (.iadd, 1) := by decide +kernel
theorem dX5_lay_32 : decode cX5_lay 32 = .ok (.iload_n 3, 1) := by decide +kernel
theorem dX5_lay_33 : decode cX5_lay 33 = .ok (.iastore, 1) := by decide +kernel
theorem dX5_lay_34 : decode cX5_lay 34 = .ok (.aload_n 0, 1) := by decide +kernel
theorem dX5_lay_35 : decode cX5_lay 35 = .ok (.getfield 51, 3) := by decide +kernel
theorem dX5_lay_38 : decode cX5_lay 38 = .ok (.iload_n 1, 1) := by decide +kernel
theorem dX5_lay_39 : decode cX5_lay 39 = .ok (.dup2, 1) := by decide +kernel
theorem dX5_lay_40 : decode cX5_lay 40 = .ok (.iaload, 1) := by decide +kernel
theorem dX5_lay_41 : decode cX5_lay 41 = .ok (.iconst 1, 1) := by decide +kernel
theorem dX5_lay_42 : decode cX5_lay 42 = .ok (.iadd, 1) := by decide +kernel
theorem dX5_lay_43 : decode cX5_lay 43 = .ok (.iastore, 1) := by decide +kernel
theorem dX5_lay_44 : decode cX5_lay 44 = .ok (.return_, 1) := by decide +kernel
theorem dX5_comes_0 : decode cX5_comes 0 = .ok (.iload_n 1, 1) := by decide +kernel
theorem dX5_comes_1 : decode cX5_comes 1 = .ok (.iconst (-1), 1) := by decide +kernel
theorem dX5_comes_2 : decode cX5_comes 2 = .ok (.if_icmp .eq 14, 3) := by decide +kernel
theorem dX5_comes_5 : decode cX5_comes 5 = .ok (.aload_n 0, 1) := by decide +kernel
theorem dX5_comes_6 : decode cX5_comes 6 = .ok (.getfield 51, 3) := by decide +kernel
theorem dX5_comes_9 : decode cX5_comes 9 = .ok (.iload_n 1, 1) := by decide +kernel
theorem dX5_comes_10 : decode cX5_comes 10 = .ok (.iaload, 1) := by decide +kernel
theorem dX5_comes_11 : decode cX5_comes 11 = .ok (.bipush 8, 2) := by decide +kernel
theorem dX5_comes_13 : decode cX5_comes 13 = .ok (.if_icmp .lt 15, 3) := by decide +kernel
theorem dX5_comes_16 : decode cX5_comes 16 = .ok (.aload_n 0, 1) := by decide +kernel
theorem dX5_comes_17 : decode cX5_comes 17 = .ok (.getfield 72, 3) := by decide +kernel
theorem dX5_comes_20 : decode cX5_comes 20 = .ok (.iload_n 2, 1) := by decide +kernel
theorem dX5_comes_21 : decode cX5_comes 21 = .ok (.dup2, 1) := by decide +kernel
theorem dX5_comes_22 : decode cX5_comes 22 = .ok (.iaload, 1) := by decide +kernel
theorem dX5_comes_23 : decode cX5_comes 23 = .ok (.iconst 1, 1) := by decide +kernel
theorem dX5_comes_24 : decode cX5_comes 24 = .ok (.iadd, 1) := by decide +kernel
theorem dX5_comes_25 : decode cX5_comes 25 = .ok (.iastore, 1) := by decide +kernel
theorem dX5_comes_26 : decode cX5_comes 26 = .ok (.iconst 2, 1) := by decide +kernel
theorem dX5_comes_27 : decode cX5_comes 27 = .ok (.ireturn, 1) := by decide +kernel
theorem dX5_comes_28 : decode cX5_comes 28 = .ok (.aload_n 0, 1) := by decide +kernel
theorem dX5_comes_29 : decode cX5_comes 29 = .ok (.iload_n 1, 1) := by decide +kernel
theorem dX5_comes_30 : decode cX5_comes 30 = .ok (.iload_n 2, 1) := by decide +kernel
theorem dX5_comes_31 : decode cX5_comes 31 = .ok (.iload_n 3, 1) := by decide +kernel
theorem dX5_comes_32 : decode cX5_comes 32 = .ok (.invokevirtual 167, 3) := by decide +kernel
theorem dX5_comes_35 : decode cX5_comes 35 = .ok (.iconst 0, 1) := by decide +kernel
theorem dX5_comes_36 : decode cX5_comes 36 = .ok (.ireturn, 1) := by decide +kernel
theorem dX5_holds_0 : decode cX5_holds 0 = .ok (.aload_n 0, 1) := by decide +kernel
theorem dX5_holds_1 : decode cX5_holds 1 = .ok (.getfield 60, 3) := by decide +kernel
theorem dX5_holds_4 : decode cX5_holds 4 = .ok (.iload_n 1, 1) := by decide +kernel
theorem dX5_holds_5 : decode cX5_holds 5 = .ok (.iaload, 1) := by decide +kernel
theorem dX5_holds_6 : decode cX5_holds 6 = .ok (.bipush 8, 2) := by decide +kernel
theorem dX5_holds_8 : decode cX5_holds 8 = .ok (.if_icmp .ne 15, 3) := by decide +kernel
theorem dX5_holds_11 : decode cX5_holds 11 = .ok (.aload_n 0, 1) := by decide +kernel
theorem dX5_holds_12 : decode cX5_holds 12 = .ok (.getfield 72, 3) := by decide +kernel
theorem dX5_holds_15 : decode cX5_holds 15 = .ok (.iload_n 1, 1) := by decide +kernel
theorem dX5_holds_16 : decode cX5_holds 16 = .ok (.dup2, 1) := by decide +kernel
theorem dX5_holds_17 : decode cX5_holds 17 = .ok (.iaload, 1) := by decide +kernel
theorem dX5_holds_18 : decode cX5_holds 18 = .ok (.iconst 1, 1) := by decide +kernel
theorem dX5_holds_19 : decode cX5_holds 19 = .ok (.iadd, 1) := by decide +kernel
theorem dX5_holds_20 : decode cX5_holds 20 = .ok (.iastore, 1) := by decide +kernel
theorem dX5_holds_21 : decode cX5_holds 21 = .ok (.iconst 2, 1) := by decide +kernel
theorem dX5_holds_22 : decode cX5_holds 22 = .ok (.ireturn, 1) := by decide +kernel
theorem dX5_holds_23 : decode cX5_holds 23 = .ok (.aload_n 0, 1) := by decide +kernel
theorem dX5_holds_24 : decode cX5_holds 24 = .ok (.getfield 63, 3) := by decide +kernel
theorem dX5_holds_27 : decode cX5_holds 27 = .ok (.bipush 8, 2) := by decide +kernel
theorem dX5_holds_29 : decode cX5_holds 29 = .ok (.iload_n 1, 1) := by decide +kernel
theorem dX5_holds_30 : decode cX5_holds 30 = .ok (.imul, 1) := by decide +kernel
theorem dX5_holds_31 : decode cX5_holds 31 = .ok (.aload_n 0, 1) := by decide +kernel
theorem dX5_holds_32 : decode cX5_holds 32 = .ok (.getfield 60, 3) := by decide +kernel
theorem dX5_holds_35 : decode cX5_holds 35 = .ok (.iload_n 1, 1) := by decide +kernel
theorem dX5_holds_36 : decode cX5_holds 36 = .ok (.iaload, 1) := by decide +kernel
theorem dX5_holds_37 : decode cX5_holds 37 = .ok (.iadd, 1) := by decide +kernel
theorem dX5_holds_38 : decode cX5_holds 38 = .ok (.iload_n 2, 1) := by decide +kernel
theorem dX5_holds_39 : decode cX5_holds 39 = .ok (.iastore, 1) := by decide +kernel
theorem dX5_holds_40 : decode cX5_holds 40 = .ok (.aload_n 0, 1) := by decide +kernel
theorem dX5_holds_41 : decode cX5_holds 41 = .ok (.getfield 60, 3) := by decide +kernel
theorem dX5_holds_44 : decode cX5_holds 44 = .ok (.iload_n 1, 1) := by decide +kernel
theorem dX5_holds_45 : decode cX5_holds 45 = .ok (.dup2, 1) := by decide +kernel
theorem dX5_holds_46 : decode cX5_holds 46 = .ok (.iaload, 1) := by decide +kernel
theorem dX5_holds_47 : decode cX5_holds 47 = .ok (.iconst 1, 1) := by decide +kernel
theorem dX5_holds_48 : decode cX5_holds 48 = .ok (.iadd, 1) := by decide +kernel
theorem dX5_holds_49 : decode cX5_holds 49 = .ok (.iastore, 1) := by decide +kernel
theorem dX5_holds_50 : decode cX5_holds 50 = .ok (.iconst 1, 1) := by decide +kernel
theorem dX5_holds_51 : decode cX5_holds 51 = .ok (.ireturn, 1) := by decide +kernel
theorem dX5_hasLetter_0 : decode cX5_hasLetter 0 = .ok (.iconst 0, 1) := by decide +kernel
theorem dX5_hasLetter_1 : decode cX5_hasLetter 1 = .ok (.istore_n 3, 1) := by decide +kernel
theorem dX5_hasLetter_2 : decode cX5_hasLetter 2 = .ok (.bipush 24, 2) := by decide +kernel
theorem dX5_hasLetter_4 : decode cX5_hasLetter 4 = .ok (.iload_n 1, 1) := by decide +kernel
theorem dX5_hasLetter_5 : decode cX5_hasLetter 5 = .ok (.imul, 1) := by decide +kernel
theorem dX5_hasLetter_6 : decode cX5_hasLetter 6 = .ok (.istore 4, 2) := by decide +kernel
theorem dX5_hasLetter_8 : decode cX5_hasLetter 8 = .ok (.iload 4, 2) := by decide +kernel
theorem dX5_hasLetter_10 : decode cX5_hasLetter 10 = .ok (.bipush 24, 2) := by decide +kernel
theorem dX5_hasLetter_12 : decode cX5_hasLetter 12 = .ok (.iload_n 1, 1) := by decide +kernel
theorem dX5_hasLetter_13 : decode cX5_hasLetter 13 = .ok (.imul, 1) := by decide +kernel
theorem dX5_hasLetter_14 : decode cX5_hasLetter 14 = .ok (.aload_n 0, 1) := by decide +kernel
theorem dX5_hasLetter_15 : decode cX5_hasLetter 15 = .ok (.getfield 51, 3) := by decide +kernel
theorem dX5_hasLetter_18 : decode cX5_hasLetter 18 = .ok (.iload_n 1, 1) := by decide +kernel
theorem dX5_hasLetter_19 : decode cX5_hasLetter 19 = .ok (.iaload, 1) := by decide +kernel
theorem dX5_hasLetter_20 : decode cX5_hasLetter 20 = .ok (.iadd, 1) := by decide +kernel
theorem dX5_hasLetter_21 : decode cX5_hasLetter 21 = .ok (.if_icmp .ge 40, 3) := by decide +kernel
theorem dX5_hasLetter_24 : decode cX5_hasLetter 24 = .ok (.iload_n 3, 1) := by decide +kernel
theorem dX5_hasLetter_25 : decode cX5_hasLetter 25 = .ok (.ifCond .ne 24, 3) := by decide +kernel
theorem dX5_hasLetter_28 : decode cX5_hasLetter 28 = .ok (.aload_n 0, 1) := by decide +kernel
theorem dX5_hasLetter_29 : decode cX5_hasLetter 29 = .ok (.getfield 45, 3) := by decide +kernel
theorem dX5_hasLetter_32 : decode cX5_hasLetter 32 = .ok (.iload 4, 2) := by decide +kernel
theorem dX5_hasLetter_34 : decode cX5_hasLetter 34 = .ok (.iaload, 1) := by decide +kernel
theorem dX5_hasLetter_35 : decode cX5_hasLetter 35 = .ok (.iload_n 2, 1) := by decide +kernel
theorem dX5_hasLetter_36 : decode cX5_hasLetter 36 = .ok (.if_icmp .ne 17, 3) := by decide +kernel
theorem dX5_hasLetter_39 : decode cX5_hasLetter 39 = .ok (.aload_n 0, 1) := by decide +kernel
theorem dX5_hasLetter_40 : decode cX5_hasLetter 40 = .ok (.getfield 48, 3) := by decide +kernel
theorem dX5_hasLetter_43 : decode cX5_hasLetter 43 = .ok (.iload 4, 2) := by decide +kernel
theorem dX5_hasLetter_45 : decode cX5_hasLetter 45 = .ok (.iaload, 1) := by decide +kernel
theorem dX5_hasLetter_46 : decode cX5_hasLetter 46 = .ok (.ifCond .le 7, 3) := by decide +kernel
theorem dX5_hasLetter_49 : decode cX5_hasLetter 49 = .ok (.iconst 1, 1) := by decide +kernel
theorem dX5_hasLetter_50 : decode cX5_hasLetter 50 = .ok (.goto 4, 3) := by decide +kernel
theorem dX5_hasLetter_53 : decode cX5_hasLetter 53 = .ok (.iconst 0, 1) := by decide +kernel
theorem dX5_hasLetter_54 : decode cX5_hasLetter 54 = .ok (.istore_n 3, 1) := by decide +kernel
theorem dX5_hasLetter_55 : decode cX5_hasLetter 55 = .ok (.iinc 4 1, 3) := by decide +kernel
theorem dX5_hasLetter_58 : decode cX5_hasLetter 58 = .ok (.goto (-50), 3) := by decide +kernel
theorem dX5_hasLetter_61 : decode cX5_hasLetter 61 = .ok (.iload_n 3, 1) := by decide +kernel
theorem dX5_hasLetter_62 : decode cX5_hasLetter 62 = .ok (.ireturn, 1) := by decide +kernel
theorem dX5_sendNow_0 : decode cX5_sendNow 0 = .ok (.aload_n 0, 1) := by decide +kernel
theorem dX5_sendNow_1 : decode cX5_sendNow 1 = .ok (.getfield 66, 3) := by decide +kernel
theorem dX5_sendNow_4 : decode cX5_sendNow 4 = .ok (.iload_n 1, 1) := by decide +kernel
theorem dX5_sendNow_5 : decode cX5_sendNow 5 = .ok (.dup2, 1) := by decide +kernel
theorem dX5_sendNow_6 : decode cX5_sendNow 6 = .ok (.iaload, 1) := by decide +kernel
theorem dX5_sendNow_7 : decode cX5_sendNow 7 = .ok (.iconst 1, 1) := by decide +kernel
theorem dX5_sendNow_8 : decode cX5_sendNow 8 = .ok (.iadd, 1) := by decide +kernel
theorem dX5_sendNow_9 : decode cX5_sendNow 9 = .ok (.iastore, 1) := by decide +kernel
theorem dX5_sendNow_10 : decode cX5_sendNow 10 = .ok (.aload_n 0, 1) := by decide +kernel
theorem dX5_sendNow_11 : decode cX5_sendNow 11 = .ok (.getfield 57, 3) := by decide +kernel
theorem dX5_sendNow_14 : decode cX5_sendNow 14 = .ok (.iload_n 1, 1) := by decide +kernel
theorem dX5_sendNow_15 : decode cX5_sendNow 15 = .ok (.baload, 1) := by decide +kernel
theorem dX5_sendNow_16 : decode cX5_sendNow 16 = .ok (.ifCond .eq 15, 3) := by decide +kernel
theorem dX5_sendNow_19 : decode cX5_sendNow 19 = .ok (.aload_n 0, 1) := by decide +kernel
theorem dX5_sendNow_20 : decode cX5_sendNow 20 = .ok (.iload_n 1, 1) := by decide +kernel
theorem dX5_sendNow_21 : decode cX5_sendNow 21 = .ok (.aload_n 0, 1) := by decide +kernel
theorem dX5_sendNow_22 : decode cX5_sendNow 22 = .ok (.getfield 66, 3) := by decide +kernel
theorem dX5_sendNow_25 : decode cX5_sendNow 25 = .ok (.iload_n 1, 1) := by decide +kernel
theorem dX5_sendNow_26 : decode cX5_sendNow 26 = .ok (.iaload, 1) := by decide +kernel
theorem dX5_sendNow_27 : decode cX5_sendNow 27 = .ok (.invokevirtual 171, 3) := by decide +kernel
theorem dX5_sendNow_30 : decode cX5_sendNow 30 = .ok (.ireturn, 1) := by decide +kernel
theorem dX5_sendNow_31 : decode cX5_sendNow 31 = .ok (.aload_n 0, 1) := by decide +kernel
theorem dX5_sendNow_32 : decode cX5_sendNow 32 = .ok (.iload_n 1, 1) := by decide +kernel
theorem dX5_sendNow_33 : decode cX5_sendNow 33 = .ok (.invokevirtual 164, 3) := by decide +kernel
theorem dX5_sendNow_36 : decode cX5_sendNow 36 = .ok (.istore_n 2, 1) := by decide +kernel
theorem dX5_sendNow_37 : decode cX5_sendNow 37 = .ok (.iload_n 2, 1) := by decide +kernel
theorem dX5_sendNow_38 : decode cX5_sendNow 38 = .ok (.iconst (-1), 1) := by decide +kernel
theorem dX5_sendNow_39 : decode cX5_sendNow 39 = .ok (.if_icmp .ne 15, 3) := by decide +kernel
theorem dX5_sendNow_42 : decode cX5_sendNow 42 = .ok (.aload_n 0, 1) := by decide +kernel
theorem dX5_sendNow_43 : decode cX5_sendNow 43 = .ok (.getfield 72, 3) := by decide +kernel
theorem dX5_sendNow_46 : decode cX5_sendNow 46 = .ok (.iload_n 1, 1) := by decide +kernel
theorem dX5_sendNow_47 : decode cX5_sendNow 47 = .ok (.dup2, 1) := by decide +kernel
theorem dX5_sendNow_48 : decode cX5_sendNow 48 = .ok (.iaload, 1) := by decide +kernel
theorem dX5_sendNow_49 : decode cX5_sendNow 49 = .ok (.iconst 1, 1) := by decide +kernel
theorem dX5_sendNow_50 : decode cX5_sendNow 50 = .ok (.iadd, 1) := by decide +kernel
theorem dX5_sendNow_51 : decode cX5_sendNow 51 = .ok (.iastore, 1) := by decide +kernel
theorem dX5_sendNow_52 : decode cX5_sendNow 52 = .ok (.iconst 2, 1) := by decide +kernel
theorem dX5_sendNow_53 : decode cX5_sendNow 53 = .ok (.ireturn, 1) := by decide +kernel
theorem dX5_sendNow_54 : decode cX5_sendNow 54 = .ok (.aload_n 0, 1) := by decide +kernel
theorem dX5_sendNow_55 : decode cX5_sendNow 55 = .ok (.getfield 54, 3) := by decide +kernel
theorem dX5_sendNow_58 : decode cX5_sendNow 58 = .ok (.iload_n 1, 1) := by decide +kernel
theorem dX5_sendNow_59 : decode cX5_sendNow 59 = .ok (.iaload, 1) := by decide +kernel
theorem dX5_sendNow_60 : decode cX5_sendNow 60 = .ok (.iconst (-1), 1) := by decide +kernel
theorem dX5_sendNow_61 : decode cX5_sendNow 61 = .ok (.if_icmp .eq 58, 3) := by decide +kernel
theorem dX5_sendNow_64 : decode cX5_sendNow 64 = .ok (.aload_n 0, 1) := by decide +kernel
theorem dX5_sendNow_65 : decode cX5_sendNow 65 = .ok (.getfield 54, 3) := by decide +kernel
theorem dX5_sendNow_68 : decode cX5_sendNow 68 = .ok (.iload_n 1, 1) := by decide +kernel
theorem dX5_sendNow_69 : decode cX5_sendNow 69 = .ok (.iaload, 1) := by decide +kernel
theorem dX5_sendNow_70 : decode cX5_sendNow 70 = .ok (.iload_n 2, 1) := by decide +kernel
theorem dX5_sendNow_71 : decode cX5_sendNow 71 = .ok (.if_icmp .eq 48, 3) := by decide +kernel
theorem dX5_sendNow_74 : decode cX5_sendNow 74 = .ok (.aload_n 0, 1) := by decide +kernel
theorem dX5_sendNow_75 : decode cX5_sendNow 75 = .ok (.aload_n 0, 1) := by decide +kernel
theorem dX5_sendNow_76 : decode cX5_sendNow 76 = .ok (.getfield 54, 3) := by decide +kernel
theorem dX5_sendNow_79 : decode cX5_sendNow 79 = .ok (.iload_n 1, 1) := by decide +kernel
theorem dX5_sendNow_80 : decode cX5_sendNow 80 = .ok (.iaload, 1) := by decide +kernel
theorem dX5_sendNow_81 : decode cX5_sendNow 81 = .ok (.iload_n 1, 1) := by decide +kernel
theorem dX5_sendNow_82 : decode cX5_sendNow 82 = .ok (.invokevirtual 174, 3) := by decide +kernel
theorem dX5_sendNow_85 : decode cX5_sendNow 85 = .ok (.ifCond .eq 34, 3) := by decide +kernel
theorem dX5_sendNow_88 : decode cX5_sendNow 88 = .ok (.aload_n 0, 1) := by decide +kernel
theorem dX5_sendNow_89 : decode cX5_sendNow 89 = .ok (.getfield 57, 3) := by decide +kernel
theorem dX5_sendNow_92 : decode cX5_sendNow 92 = .ok (.iload_n 1, 1) := by decide +kernel
theorem dX5_sendNow_93 : decode cX5_sendNow 93 = .ok (.iconst 1, 1) := by decide +kernel
theorem dX5_sendNow_94 : decode cX5_sendNow 94 = .ok (.bastore, 1) := by decide +kernel
theorem dX5_sendNow_95 : decode cX5_sendNow 95 = .ok (.aload_n 0, 1) := by decide +kernel
theorem dX5_sendNow_96 : decode cX5_sendNow 96 = .ok (.aload_n 0, 1) := by decide +kernel
theorem dX5_sendNow_97 : decode cX5_sendNow 97 = .ok (.getfield 54, 3) := by decide +kernel
theorem dX5_sendNow_100 : decode cX5_sendNow 100 = .ok (.iload_n 1, 1) := by decide +kernel
theorem dX5_sendNow_101 : decode cX5_sendNow 101 = .ok (.iaload, 1) := by decide +kernel
theorem dX5_sendNow_102 : decode cX5_sendNow 102 = .ok (.iload_n 1, 1) := by decide +kernel
theorem dX5_sendNow_103 : decode cX5_sendNow 103 = .ok (.iconst 0, 1) := by decide +kernel
theorem dX5_sendNow_104 : decode cX5_sendNow 104 = .ok (.invokevirtual 167, 3) := by decide +kernel
theorem dX5_sendNow_107 : decode cX5_sendNow 107 = .ok (.aload_n 0, 1) := by decide +kernel
theorem dX5_sendNow_108 : decode cX5_sendNow 108 = .ok (.iload_n 1, 1) := by decide +kernel
theorem dX5_sendNow_109 : decode cX5_sendNow 109 = .ok (.aload_n 0, 1) := by decide +kernel
theorem dX5_sendNow_110 : decode cX5_sendNow 110 = .ok (.getfield 66, 3) := by decide +kernel
theorem dX5_sendNow_113 : decode cX5_sendNow 113 = .ok (.iload_n 1, 1) := by decide +kernel
theorem dX5_sendNow_114 : decode cX5_sendNow 114 = .ok (.iaload, 1) := by decide +kernel
theorem dX5_sendNow_115 : decode cX5_sendNow 115 = .ok (.invokevirtual 171, 3) := by decide +kernel
theorem dX5_sendNow_118 : decode cX5_sendNow 118 = .ok (.ireturn, 1) := by decide +kernel
theorem dX5_sendNow_119 : decode cX5_sendNow 119 = .ok (.aload_n 0, 1) := by decide +kernel
theorem dX5_sendNow_120 : decode cX5_sendNow 120 = .ok (.getfield 54, 3) := by decide +kernel
theorem dX5_sendNow_123 : decode cX5_sendNow 123 = .ok (.iload_n 1, 1) := by decide +kernel
theorem dX5_sendNow_124 : decode cX5_sendNow 124 = .ok (.iload_n 2, 1) := by decide +kernel
theorem dX5_sendNow_125 : decode cX5_sendNow 125 = .ok (.iastore, 1) := by decide +kernel
theorem dX5_sendNow_126 : decode cX5_sendNow 126 = .ok (.aload_n 0, 1) := by decide +kernel
theorem dX5_sendNow_127 : decode cX5_sendNow 127 = .ok (.iload_n 2, 1) := by decide +kernel
theorem dX5_sendNow_128 : decode cX5_sendNow 128 = .ok (.iload_n 1, 1) := by decide +kernel
theorem dX5_sendNow_129 : decode cX5_sendNow 129 = .ok (.aload_n 0, 1) := by decide +kernel
theorem dX5_sendNow_130 : decode cX5_sendNow 130 = .ok (.getfield 66, 3) := by decide +kernel
theorem dX5_sendNow_133 : decode cX5_sendNow 133 = .ok (.iload_n 1, 1) := by decide +kernel
theorem dX5_sendNow_134 : decode cX5_sendNow 134 = .ok (.iaload, 1) := by decide +kernel
theorem dX5_sendNow_135 : decode cX5_sendNow 135 = .ok (.invokevirtual 177, 3) := by decide +kernel
theorem dX5_sendNow_138 : decode cX5_sendNow 138 = .ok (.ireturn, 1) := by decide +kernel
theorem dX5_send_0 : decode cX5_send 0 = .ok (.iload_n 1, 1) := by decide +kernel
theorem dX5_send_1 : decode cX5_send 1 = .ok (.invokestatic 161, 3) := by decide +kernel
theorem dX5_send_4 : decode cX5_send 4 = .ok (.ifCond .ne 7, 3) := by decide +kernel
theorem dX5_send_7 : decode cX5_send 7 = .ok (.sipush (-1001), 3) := by decide +kernel
theorem dX5_send_10 : decode cX5_send 10 = .ok (.ireturn, 1) := by decide +kernel
theorem dX5_send_11 : decode cX5_send 11 = .ok (.aload_n 0, 1) := by decide +kernel
theorem dX5_send_12 : decode cX5_send 12 = .ok (.getfield 105, 3) := by decide +kernel
theorem dX5_send_15 : decode cX5_send 15 = .ok (.ifCond .ne 9, 3) := by decide +kernel
theorem dX5_send_18 : decode cX5_send 18 = .ok (.sipush (-1003), 3) := by decide +kernel
theorem dX5_send_21 : decode cX5_send 21 = .ok (.goto 8, 3) := by decide +kernel
theorem dX5_send_24 : decode cX5_send 24 = .ok (.aload_n 0, 1) := by decide +kernel
theorem dX5_send_25 : decode cX5_send 25 = .ok (.iload_n 1, 1) := by decide +kernel
theorem dX5_send_26 : decode cX5_send 26 = .ok (.invokevirtual 180, 3) := by decide +kernel
theorem dX5_send_29 : decode cX5_send 29 = .ok (.ireturn, 1) := by decide +kernel
theorem dX5_answer_0 : decode cX5_answer 0 = .ok (.aload_n 0, 1) := by decide +kernel
theorem dX5_answer_1 : decode cX5_answer 1 = .ok (.getfield 57, 3) := by decide +kernel
theorem dX5_answer_4 : decode cX5_answer 4 = .ok (.iload_n 1, 1) := by decide +kernel
theorem dX5_answer_5 : decode cX5_answer 5 = .ok (.iconst 0, 1) := by decide +kernel
theorem dX5_answer_6 : decode cX5_answer 6 = .ok (.bastore, 1) := by decide +kernel
theorem dX5_answer_7 : decode cX5_answer 7 = .ok (.aload_n 0, 1) := by decide +kernel
theorem dX5_answer_8 : decode cX5_answer 8 = .ok (.dup, 1) := by decide +kernel
theorem dX5_answer_9 : decode cX5_answer 9 = .ok (.getfield 102, 3) := by decide +kernel
theorem dX5_answer_12 : decode cX5_answer 12 = .ok (.iconst 1, 1) := by decide +kernel
theorem dX5_answer_13 : decode cX5_answer 13 = .ok (.iadd, 1) := by decide +kernel
theorem dX5_answer_14 : decode cX5_answer 14 = .ok (.putfield 102, 3) := by decide +kernel
theorem dX5_answer_17 : decode cX5_answer 17 = .ok (.aload_n 0, 1) := by decide +kernel
theorem dX5_answer_18 : decode cX5_answer 18 = .ok (.getfield 54, 3) := by decide +kernel
theorem dX5_answer_21 : decode cX5_answer 21 = .ok (.iload_n 1, 1) := by decide +kernel
theorem dX5_answer_22 : decode cX5_answer 22 = .ok (.aload_n 0, 1) := by decide +kernel
theorem dX5_answer_23 : decode cX5_answer 23 = .ok (.iload_n 1, 1) := by decide +kernel
theorem dX5_answer_24 : decode cX5_answer 24 = .ok (.invokevirtual 164, 3) := by decide +kernel
theorem dX5_answer_27 : decode cX5_answer 27 = .ok (.iastore, 1) := by decide +kernel
theorem dX5_answer_28 : decode cX5_answer 28 = .ok (.aload_n 0, 1) := by decide +kernel
theorem dX5_answer_29 : decode cX5_answer 29 = .ok (.getfield 60, 3) := by decide +kernel
theorem dX5_answer_32 : decode cX5_answer 32 = .ok (.iload_n 1, 1) := by decide +kernel
theorem dX5_answer_33 : decode cX5_answer 33 = .ok (.iaload, 1) := by decide +kernel
theorem dX5_answer_34 : decode cX5_answer 34 = .ok (.istore_n 2, 1) := by decide +kernel
theorem dX5_answer_35 : decode cX5_answer 35 = .ok (.aload_n 0, 1) := by decide +kernel
theorem dX5_answer_36 : decode cX5_answer 36 = .ok (.getfield 60, 3) := by decide +kernel
theorem dX5_answer_39 : decode cX5_answer 39 = .ok (.iload_n 1, 1) := by decide +kernel
theorem dX5_answer_40 : decode cX5_answer 40 = .ok (.iconst 0, 1) := by decide +kernel
theorem dX5_answer_41 : decode cX5_answer 41 = .ok (.iastore, 1) := by decide +kernel
theorem dX5_answer_42 : decode cX5_answer 42 = .ok (.iconst 0, 1) := by decide +kernel
theorem dX5_answer_43 : decode cX5_answer 43 = .ok (.istore_n 3, 1) := by decide +kernel
theorem dX5_answer_44 : decode cX5_answer 44 = .ok (.iload_n 3, 1) := by decide +kernel
theorem dX5_answer_45 : decode cX5_answer 45 = .ok (.iload_n 2, 1) := by decide +kernel
theorem dX5_answer_46 : decode cX5_answer 46 = .ok (.if_icmp .ge 33, 3) := by decide +kernel
theorem dX5_answer_49 : decode cX5_answer 49 = .ok (.aload_n 0, 1) := by decide +kernel
theorem dX5_answer_50 : decode cX5_answer 50 = .ok (.aload_n 0, 1) := by decide +kernel
theorem dX5_answer_51 : decode cX5_answer 51 = .ok (.getfield 54, 3) := by decide +kernel
theorem dX5_answer_54 : decode cX5_answer 54 = .ok (.iload_n 1, 1) := by decide +kernel
theorem dX5_answer_55 : decode cX5_answer 55 = .ok (.iaload, 1) := by decide +kernel
theorem dX5_answer_56 : decode cX5_answer 56 = .ok (.iload_n 1, 1) := by decide +kernel
theorem dX5_answer_57 : decode cX5_answer 57 = .ok (.aload_n 0, 1) := by decide +kernel
theorem dX5_answer_58 : decode cX5_answer 58 = .ok (.getfield 63, 3) := by decide +kernel
theorem dX5_answer_61 : decode cX5_answer 61 = .ok (.bipush 8, 2) := by decide +kernel
theorem dX5_answer_63 : decode cX5_answer 63 = .ok (.iload_n 1, 1) := by decide +kernel
theorem dX5_answer_64 : decode cX5_answer 64 = .ok (.imul, 1) := by decide +kernel
theorem dX5_answer_65 : decode cX5_answer 65 = .ok (.iload_n 3, 1) := by decide +kernel
theorem dX5_answer_66 : decode cX5_answer 66 = .ok (.iadd, 1) := by decide +kernel
theorem dX5_answer_67 : decode cX5_answer 67 = .ok (.iaload, 1) := by decide +kernel
theorem dX5_answer_68 : decode cX5_answer 68 = .ok (.invokevirtual 177, 3) := by decide +kernel
theorem dX5_answer_71 : decode cX5_answer 71 = .ok (.istore 4, 2) := by decide +kernel
theorem dX5_answer_73 : decode cX5_answer 73 = .ok (.iinc 3 1, 3) := by decide +kernel
theorem dX5_answer_76 : decode cX5_answer 76 = .ok (.goto (-32), 3) := by decide +kernel
theorem dX5_answer_79 : decode cX5_answer 79 = .ok (.return_, 1) := by decide +kernel
theorem dX5_empty_0 : decode cX5_empty 0 = .ok (.iconst 0, 1) := by decide +kernel
theorem dX5_empty_1 : decode cX5_empty 1 = .ok (.istore_n 2, 1) := by decide +kernel
theorem dX5_empty_2 : decode cX5_empty 2 = .ok (.bipush 24, 2) := by decide +kernel
theorem dX5_empty_4 : decode cX5_empty 4 = .ok (.iload_n 1, 1) := by decide +kernel
theorem dX5_empty_5 : decode cX5_empty 5 = .ok (.imul, 1) := by decide +kernel
theorem dX5_empty_6 : decode cX5_empty 6 = .ok (.istore_n 3, 1) := by decide +kernel
theorem dX5_empty_7 : decode cX5_empty 7 = .ok (.iload_n 3, 1) := by decide +kernel
theorem dX5_empty_8 : decode cX5_empty 8 = .ok (.bipush 24, 2) := by decide +kernel
theorem dX5_empty_10 : decode cX5_empty 10 = .ok (.iload_n 1, 1) := by decide +kernel
theorem dX5_empty_11 : decode cX5_empty 11 = .ok (.imul, 1) := by decide +kernel
theorem dX5_empty_12 : decode cX5_empty 12 = .ok (.aload_n 0, 1) := by decide +kernel
theorem dX5_empty_13 : decode cX5_empty 13 = .ok (.getfield 51, 3) := by decide +kernel
theorem dX5_empty_16 : decode cX5_empty 16 = .ok (.iload_n 1, 1) := by decide +kernel
theorem dX5_empty_17 : decode cX5_empty 17 = .ok (.iaload, 1) := by decide +kernel
theorem dX5_empty_18 : decode cX5_empty 18 = .ok (.iadd, 1) := by decide +kernel
theorem dX5_empty_19 : decode cX5_empty 19 = .ok (.if_icmp .ge 51, 3) := by decide +kernel
theorem dX5_empty_22 : decode cX5_empty 22 = .ok (.aload_n 0, 1) := by decide +kernel
theorem dX5_empty_23 : decode cX5_empty 23 = .ok (.getfield 48, 3) := by decide +kernel
theorem dX5_empty_26 : decode cX5_empty 26 = .ok (.iload_n 3, 1) := by decide +kernel
theorem dX5_empty_27 : decode cX5_empty 27 = .ok (.iaload, 1) := by decide +kernel
theorem dX5_empty_28 : decode cX5_empty 28 = .ok (.ifCond .le 21, 3) := by decide +kernel
theorem dX5_empty_31 : decode cX5_empty 31 = .ok (.aload_n 0, 1) := by decide +kernel
theorem dX5_empty_32 : decode cX5_empty 32 = .ok (.getfield 72, 3) := by decide +kernel
theorem dX5_empty_35 : decode cX5_empty 35 = .ok (.aload_n 0, 1) := by decide +kernel
theorem dX5_empty_36 : decode cX5_empty 36 = .ok (.getfield 45, 3) := by decide +kernel
theorem dX5_empty_39 : decode cX5_empty 39 = .ok (.iload_n 3, 1) := by decide +kernel
theorem dX5_empty_40 : decode cX5_empty 40 = .ok (.iaload, 1) := by decide +kernel
theorem dX5_empty_41 : decode cX5_empty 41 = .ok (.dup2, 1) := by decide +kernel
theorem dX5_empty_42 : decode cX5_empty 42 = .ok (.iaload, 1) := by decide +kernel
theorem dX5_empty_43 : decode cX5_empty 43 = .ok (.iconst 1, 1) := by decide +kernel
theorem dX5_empty_44 : decode cX5_empty 44 = .ok (.iadd, 1) := by decide +kernel
theorem dX5_empty_45 : decode cX5_empty 45 = .ok (.iastore, 1) := by decide +kernel
theorem dX5_empty_46 : decode cX5_empty 46 = .ok (.goto 18, 3) := by decide +kernel
theorem dX5_empty_49 : decode cX5_empty 49 = .ok (.aload_n 0, 1) := by decide +kernel
theorem dX5_empty_50 : decode cX5_empty 50 = .ok (.getfield 78, 3) := by decide +kernel
theorem dX5_empty_53 : decode cX5_empty 53 = .ok (.iload_n 2, 1) := by decide +kernel
theorem dX5_empty_54 : decode cX5_empty 54 = .ok (.aload_n 0, 1) := by decide +kernel
theorem dX5_empty_55 : decode cX5_empty 55 = .ok (.getfield 45, 3) := by decide +kernel
theorem dX5_empty_58 : decode cX5_empty 58 = .ok (.iload_n 3, 1) := by decide +kernel
theorem dX5_empty_59 : decode cX5_empty 59 = .ok (.iaload, 1) := by decide +kernel
theorem dX5_empty_60 : decode cX5_empty 60 = .ok (.iastore, 1) := by decide +kernel
theorem dX5_empty_61 : decode cX5_empty 61 = .ok (.iinc 2 1, 3) := by decide +kernel
theorem dX5_empty_64 : decode cX5_empty 64 = .ok (.iinc 3 1, 3) := by decide +kernel
theorem dX5_empty_67 : decode cX5_empty 67 = .ok (.goto (-60), 3) := by decide +kernel
theorem dX5_empty_70 : decode cX5_empty 70 = .ok (.aload_n 0, 1) := by decide +kernel
theorem dX5_empty_71 : decode cX5_empty 71 = .ok (.getfield 51, 3) := by decide +kernel
theorem dX5_empty_74 : decode cX5_empty 74 = .ok (.iload_n 1, 1) := by decide +kernel
theorem dX5_empty_75 : decode cX5_empty 75 = .ok (.iconst 0, 1) := by decide +kernel
theorem dX5_empty_76 : decode cX5_empty 76 = .ok (.iastore, 1) := by decide +kernel
theorem dX5_empty_77 : decode cX5_empty 77 = .ok (.iconst 0, 1) := by decide +kernel
theorem dX5_empty_78 : decode cX5_empty 78 = .ok (.istore_n 3, 1) := by decide +kernel
theorem dX5_empty_79 : decode cX5_empty 79 = .ok (.iload_n 3, 1) := by decide +kernel
theorem dX5_empty_80 : decode cX5_empty 80 = .ok (.iload_n 2, 1) := by decide +kernel
theorem dX5_empty_81 : decode cX5_empty 81 = .ok (.if_icmp .ge 19, 3) := by decide +kernel
theorem dX5_empty_84 : decode cX5_empty 84 = .ok (.aload_n 0, 1) := by decide +kernel
theorem dX5_empty_85 : decode cX5_empty 85 = .ok (.aload_n 0, 1) := by decide +kernel
theorem dX5_empty_86 : decode cX5_empty 86 = .ok (.getfield 78, 3) := by decide +kernel
theorem dX5_empty_89 : decode cX5_empty 89 = .ok (.iload_n 3, 1) := by decide +kernel
theorem dX5_empty_90 : decode cX5_empty 90 = .ok (.iaload, 1) := by decide +kernel
theorem dX5_empty_91 : decode cX5_empty 91 = .ok (.invokevirtual 183, 3) := by decide +kernel
theorem dX5_empty_94 : decode cX5_empty 94 = .ok (.iinc 3 1, 3) := by decide +kernel
theorem dX5_empty_97 : decode cX5_empty 97 = .ok (.goto (-18), 3) := by decide +kernel
theorem dX5_empty_100 : decode cX5_empty 100 = .ok (.return_, 1) := by decide +kernel
theorem dX5_flowNow_0 : decode cX5_flowNow 0 = .ok (.iload_n 2, 1) := by decide +kernel
theorem dX5_flowNow_1 : decode cX5_flowNow 1 = .ok (.tableswitch 89 0 5 #[39, 46, 61, 68, 75, 82], 39) := by decide +kernel
theorem dX5_flowNow_40 : decode cX5_flowNow 40 = .ok (.aload_n 0, 1) := by decide +kernel
theorem dX5_flowNow_41 : decode cX5_flowNow 41 = .ok (.getfield 54, 3) := by decide +kernel
theorem dX5_flowNow_44 : decode cX5_flowNow 44 = .ok (.iload_n 1, 1) := by decide +kernel
theorem dX5_flowNow_45 : decode cX5_flowNow 45 = .ok (.iaload, 1) := by decide +kernel
theorem dX5_flowNow_46 : decode cX5_flowNow 46 = .ok (.ireturn, 1) := by decide +kernel
theorem dX5_flowNow_47 : decode cX5_flowNow 47 = .ok (.aload_n 0, 1) := by decide +kernel
theorem dX5_flowNow_48 : decode cX5_flowNow 48 = .ok (.getfield 57, 3) := by decide +kernel
theorem dX5_flowNow_51 : decode cX5_flowNow 51 = .ok (.iload_n 1, 1) := by decide +kernel
theorem dX5_flowNow_52 : decode cX5_flowNow 52 = .ok (.baload, 1) := by decide +kernel
theorem dX5_flowNow_53 : decode cX5_flowNow 53 = .ok (.ifCond .eq 7, 3) := by decide +kernel
theorem dX5_flowNow_56 : decode cX5_flowNow 56 = .ok (.iconst 1, 1) := by decide +kernel
theorem dX5_flowNow_57 : decode cX5_flowNow 57 = .ok (.goto 4, 3) := by decide +kernel
theorem dX5_flowNow_60 : decode cX5_flowNow 60 = .ok (.iconst 0, 1) := by decide +kernel
theorem dX5_flowNow_61 : decode cX5_flowNow 61 = .ok (.ireturn, 1) := by decide +kernel
theorem dX5_flowNow_62 : decode cX5_flowNow 62 = .ok (.aload_n 0, 1) := by decide +kernel
theorem dX5_flowNow_63 : decode cX5_flowNow 63 = .ok (.getfield 60, 3) := by decide +kernel
theorem dX5_flowNow_66 : decode cX5_flowNow 66 = .ok (.iload_n 1, 1) := by decide +kernel
theorem dX5_flowNow_67 : decode cX5_flowNow 67 = .ok (.iaload, 1) := by decide +kernel
theorem dX5_flowNow_68 : decode cX5_flowNow 68 = .ok (.ireturn, 1) := by decide +kernel
theorem dX5_flowNow_69 : decode cX5_flowNow 69 = .ok (.aload_n 0, 1) := by decide +kernel
theorem dX5_flowNow_70 : decode cX5_flowNow 70 = .ok (.getfield 66, 3) := by decide +kernel
theorem dX5_flowNow_73 : decode cX5_flowNow 73 = .ok (.iload_n 1, 1) := by decide +kernel
theorem dX5_flowNow_74 : decode cX5_flowNow 74 = .ok (.iaload, 1) := by decide +kernel
theorem dX5_flowNow_75 : decode cX5_flowNow 75 = .ok (.ireturn, 1) := by decide +kernel
theorem dX5_flowNow_76 : decode cX5_flowNow 76 = .ok (.aload_n 0, 1) := by decide +kernel
theorem dX5_flowNow_77 : decode cX5_flowNow 77 = .ok (.getfield 69, 3) := by decide +kernel
theorem dX5_flowNow_80 : decode cX5_flowNow 80 = .ok (.iload_n 1, 1) := by decide +kernel
theorem dX5_flowNow_81 : decode cX5_flowNow 81 = .ok (.iaload, 1) := by decide +kernel
theorem dX5_flowNow_82 : decode cX5_flowNow 82 = .ok (.ireturn, 1) := by decide +kernel
theorem dX5_flowNow_83 : decode cX5_flowNow 83 = .ok (.aload_n 0, 1) := by decide +kernel
theorem dX5_flowNow_84 : decode cX5_flowNow 84 = .ok (.getfield 72, 3) := by decide +kernel
theorem dX5_flowNow_87 : decode cX5_flowNow 87 = .ok (.iload_n 1, 1) := by decide +kernel
theorem dX5_flowNow_88 : decode cX5_flowNow 88 = .ok (.iaload, 1) := by decide +kernel
theorem dX5_flowNow_89 : decode cX5_flowNow 89 = .ok (.ireturn, 1) := by decide +kernel
theorem dX5_flowNow_90 : decode cX5_flowNow 90 = .ok (.aload_n 0, 1) := by decide +kernel
theorem dX5_flowNow_91 : decode cX5_flowNow 91 = .ok (.getfield 75, 3) := by decide +kernel
theorem dX5_flowNow_94 : decode cX5_flowNow 94 = .ok (.iload_n 1, 1) := by decide +kernel
theorem dX5_flowNow_95 : decode cX5_flowNow 95 = .ok (.iaload, 1) := by decide +kernel
theorem dX5_flowNow_96 : decode cX5_flowNow 96 = .ok (.ireturn, 1) := by decide +kernel
theorem dX5_flow_0 : decode cX5_flow 0 = .ok (.iload_n 1, 1) := by decide +kernel
theorem dX5_flow_1 : decode cX5_flow 1 = .ok (.invokestatic 161, 3) := by decide +kernel
theorem dX5_flow_4 : decode cX5_flow 4 = .ok (.ifCond .ne 7, 3) := by decide +kernel
theorem dX5_flow_7 : decode cX5_flow 7 = .ok (.sipush (-1001), 3) := by decide +kernel
theorem dX5_flow_10 : decode cX5_flow 10 = .ok (.ireturn, 1) := by decide +kernel
theorem dX5_flow_11 : decode cX5_flow 11 = .ok (.iload_n 2, 1) := by decide +kernel
theorem dX5_flow_12 : decode cX5_flow 12 = .ok (.iconst 0, 1) := by decide +kernel
theorem dX5_flow_13 : decode cX5_flow 13 = .ok (.bipush 6, 2) := by decide +kernel
theorem dX5_flow_15 : decode cX5_flow 15 = .ok (.invokestatic 84, 3) := by decide +kernel
theorem dX5_flow_18 : decode cX5_flow 18 = .ok (.ifCond .eq 12, 3) := by decide +kernel
theorem dX5_flow_21 : decode cX5_flow 21 = .ok (.aload_n 0, 1) := by decide +kernel
theorem dX5_flow_22 : decode cX5_flow 22 = .ok (.iload_n 1, 1) := by decide +kernel
theorem dX5_flow_23 : decode cX5_flow 23 = .ok (.iload_n 2, 1) := by decide +kernel
theorem dX5_flow_24 : decode cX5_flow 24 = .ok (.invokevirtual 186, 3) := by decide +kernel
theorem dX5_flow_27 : decode cX5_flow 27 = .ok (.goto 6, 3) := by decide +kernel
theorem dX5_flow_30 : decode cX5_flow 30 = .ok (.sipush (-1002), 3) := by decide +kernel
theorem dX5_flow_33 : decode cX5_flow 33 = .ok (.ireturn, 1) := by decide +kernel
theorem dX5_hearLess_0 : decode cX5_hearLess 0 = .ok (.iconst 0, 1) := by decide +kernel
theorem dX5_hearLess_1 : decode cX5_hearLess 1 = .ok (.istore_n 1, 1) := by decide +kernel
theorem dX5_hearLess_2 : decode cX5_hearLess 2 = .ok (.iload_n 1, 1) := by decide +kernel
theorem dX5_hearLess_3 : decode cX5_hearLess 3 = .ok (.aload_n 0, 1) := by decide +kernel
theorem dX5_hearLess_4 : decode cX5_hearLess 4 = .ok (.getfield 105, 3) := by decide +kernel
theorem dX5_hearLess_7 : decode cX5_hearLess 7 = .ok (.if_icmp .ge 47, 3) := by decide +kernel
theorem dX5_hearLess_10 : decode cX5_hearLess 10 = .ok (.aload_n 0, 1) := by decide +kernel
theorem dX5_hearLess_11 : decode cX5_hearLess 11 = .ok (.getfield 32, 3) := by decide +kernel
theorem dX5_hearLess_14 : decode cX5_hearLess 14 = .ok (.iload_n 1, 1) := by decide +kernel
theorem dX5_hearLess_15 : decode cX5_hearLess 15 = .ok (.dup2, 1) := by decide +kernel
theorem dX5_hearLess_16 : decode cX5_hearLess 16 = .ok (.iaload, 1) := by decide +kernel
theorem dX5_hearLess_17 : decode cX5_hearLess 17 = .ok (.aload_n 0, 1) := by decide +kernel
theorem dX5_hearLess_18 : decode cX5_hearLess 18 = .ok (.getfield 23, 3) := by decide +kernel
theorem dX5_hearLess_21 : decode cX5_hearLess 21 = .ok (.iload_n 1, 1) := by decide +kernel
theorem dX5_hearLess_22 : decode cX5_hearLess 22 = .ok (.iaload, 1) := by decide +kernel
theorem dX5_hearLess_23 : decode cX5_hearLess 23 = .ok (.ifCond .le 7, 3) := by decide +kernel
theorem dX5_hearLess_26 : decode cX5_hearLess 26 = .ok (.iconst 1, 1) := by decide +kernel
theorem dX5_hearLess_27 : decode cX5_hearLess 27 = .ok (.goto 4, 3) := by decide +kernel
theorem dX5_hearLess_30 : decode cX5_hearLess 30 = .ok (.iconst 0, 1) := by decide +kernel
theorem dX5_hearLess_31 : decode cX5_hearLess 31 = .ok (.iadd, 1) := by decide +kernel
theorem dX5_hearLess_32 : decode cX5_hearLess 32 = .ok (.iastore, 1) := by decide +kernel
theorem dX5_hearLess_33 : decode cX5_hearLess 33 = .ok (.aload_n 0, 1) := by decide +kernel
theorem dX5_hearLess_34 : decode cX5_hearLess 34 = .ok (.getfield 32, 3) := by decide +kernel
theorem dX5_hearLess_37 : decode cX5_hearLess 37 = .ok (.iload_n 1, 1) := by decide +kernel
theorem dX5_hearLess_38 : decode cX5_hearLess 38 = .ok (.iaload, 1) := by decide +kernel
theorem dX5_hearLess_39 : decode cX5_hearLess 39 = .ok (.iconst 4, 1) := by decide +kernel
theorem dX5_hearLess_40 : decode cX5_hearLess 40 = .ok (.if_icmp .ne 8, 3) := by decide +kernel
theorem dX5_hearLess_43 : decode cX5_hearLess 43 = .ok (.aload_n 0, 1) := by decide +kernel
theorem dX5_hearLess_44 : decode cX5_hearLess 44 = .ok (.iload_n 1, 1) := by decide +kernel
theorem dX5_hearLess_45 : decode cX5_hearLess 45 = .ok (.invokevirtual 108, 3) := by decide +kernel
theorem dX5_hearLess_48 : decode cX5_hearLess 48 = .ok (.iinc 1 1, 3) := by decide +kernel
theorem dX5_hearLess_51 : decode cX5_hearLess 51 = .ok (.goto (-49), 3) := by decide +kernel
theorem dX5_hearLess_54 : decode cX5_hearLess 54 = .ok (.aload_n 0, 1) := by decide +kernel
theorem dX5_hearLess_55 : decode cX5_hearLess 55 = .ok (.invokevirtual 138, 3) := by decide +kernel
theorem dX5_hearLess_58 : decode cX5_hearLess 58 = .ok (.return_, 1) := by decide +kernel
theorem dX5_waitMore_0 : decode cX5_waitMore 0 = .ok (.iconst 0, 1) := by decide +kernel
theorem dX5_waitMore_1 : decode cX5_waitMore 1 = .ok (.istore_n 1, 1) := by decide +kernel
theorem dX5_waitMore_2 : decode cX5_waitMore 2 = .ok (.iload_n 1, 1) := by decide +kernel
theorem dX5_waitMore_3 : decode cX5_waitMore 3 = .ok (.aload_n 0, 1) := by decide +kernel
theorem dX5_waitMore_4 : decode cX5_waitMore 4 = .ok (.getfield 105, 3) := by decide +kernel
theorem dX5_waitMore_7 : decode cX5_waitMore 7 = .ok (.if_icmp .ge 43, 3) := by decide +kernel
theorem dX5_waitMore_10 : decode cX5_waitMore 10 = .ok (.aload_n 0, 1) := by decide +kernel
theorem dX5_waitMore_11 : decode cX5_waitMore 11 = .ok (.getfield 35, 3) := by decide +kernel
theorem dX5_waitMore_14 : decode cX5_waitMore 14 = .ok (.iload_n 1, 1) := by decide +kernel
theorem dX5_waitMore_15 : decode cX5_waitMore 15 = .ok (.dup2, 1) := by decide +kernel
theorem dX5_waitMore_16 : decode cX5_waitMore 16 = .ok (.iaload, 1) := by decide +kernel
theorem dX5_waitMore_17 : decode cX5_waitMore 17 = .ok (.aload_n 0, 1) := by decide +kernel
theorem dX5_waitMore_18 : decode cX5_waitMore 18 = .ok (.iload_n 1, 1) := by decide +kernel
theorem dX5_waitMore_19 : decode cX5_waitMore 19 = .ok (.invokevirtual 129, 3) := by decide +kernel
theorem dX5_waitMore_22 : decode cX5_waitMore 22 = .ok (.iconst 1, 1) := by decide +kernel
theorem dX5_waitMore_23 : decode cX5_waitMore 23 = .ok (.if_icmp .le 18, 3) := by decide +kernel
theorem dX5_waitMore_26 : decode cX5_waitMore 26 = .ok (.aload_n 0, 1) := by decide +kernel
theorem dX5_waitMore_27 : decode cX5_waitMore 27 = .ok (.getfield 35, 3) := by decide +kernel
theorem dX5_waitMore_30 : decode cX5_waitMore 30 = .ok (.iload_n 1, 1) := by decide +kernel
theorem dX5_waitMore_31 : decode cX5_waitMore 31 = .ok (.iaload, 1) := by decide +kernel
theorem dX5_waitMore_32 : decode cX5_waitMore 32 = .ok (.bipush 9, 2) := by decide +kernel
theorem dX5_waitMore_34 : decode cX5_waitMore 34 = .ok (.if_icmp .ge 7, 3) := by decide +kernel
theorem dX5_waitMore_37 : decode cX5_waitMore 37 = .ok (.iconst 1, 1) := by decide +kernel
theorem dX5_waitMore_38 : decode cX5_waitMore 38 = .ok (.goto 4, 3) := by decide +kernel
theorem dX5_waitMore_41 : decode cX5_waitMore 41 = .ok (.iconst 0, 1) := by decide +kernel
theorem dX5_waitMore_42 : decode cX5_waitMore 42 = .ok (.iadd, 1) := by decide +kernel
theorem dX5_waitMore_43 : decode cX5_waitMore 43 = .ok (.iastore, 1) := by decide +kernel
theorem dX5_waitMore_44 : decode cX5_waitMore 44 = .ok (.iinc 1 1, 3) := by decide +kernel
theorem dX5_waitMore_47 : decode cX5_waitMore 47 = .ok (.goto (-45), 3) := by decide +kernel
theorem dX5_waitMore_50 : decode cX5_waitMore 50 = .ok (.return_, 1) := by decide +kernel
theorem dX5_goesOut_0 : decode cX5_goesOut 0 = .ok (.aload_n 0, 1) := by decide +kernel
theorem dX5_goesOut_1 : decode cX5_goesOut 1 = .ok (.getfield 51, 3) := by decide +kernel
theorem dX5_goesOut_4 : decode cX5_goesOut 4 = .ok (.iload_n 1, 1) := by decide +kernel
theorem dX5_goesOut_5 : decode cX5_goesOut 5 = .ok (.iaload, 1) := by decide +kernel
theorem dX5_goesOut_6 : decode cX5_goesOut 6 = .ok (.ifCond .ne 5, 3) := by decide +kernel
theorem dX5_goesOut_9 : decode cX5_goesOut 9 = .ok (.iconst 0, 1) := by decide +kernel
theorem dX5_goesOut_10 : decode cX5_goesOut 10 = .ok (.ireturn, 1) := by decide +kernel
theorem dX5_goesOut_11 : decode cX5_goesOut 11 = .ok (.aload_n 0, 1) := by decide +kernel
theorem dX5_goesOut_12 : decode cX5_goesOut 12 = .ok (.getfield 45, 3) := by decide +kernel
theorem dX5_goesOut_15 : decode cX5_goesOut 15 = .ok (.bipush 24, 2) := by decide +kernel
theorem dX5_goesOut_17 : decode cX5_goesOut 17 = .ok (.iload_n 1, 1) := by decide +kernel
theorem dX5_goesOut_18 : decode cX5_goesOut 18 = .ok (.imul, 1) := by decide +kernel
theorem dX5_goesOut_19 : decode cX5_goesOut 19 = .ok (.iaload, 1) := by decide +kernel
theorem dX5_goesOut_20 : decode cX5_goesOut 20 = .ok (.istore_n 2, 1) := by decide +kernel
theorem dX5_goesOut_21 : decode cX5_goesOut 21 = .ok (.aload_n 0, 1) := by decide +kernel
theorem dX5_goesOut_22 : decode cX5_goesOut 22 = .ok (.getfield 48, 3) := by decide +kernel
theorem dX5_goesOut_25 : decode cX5_goesOut 25 = .ok (.bipush 24, 2) := by decide +kernel
theorem dX5_goesOut_27 : decode cX5_goesOut 27 = .ok (.iload_n 1, 1) := by decide +kernel
theorem dX5_goesOut_28 : decode cX5_goesOut 28 = .ok (.imul, 1) := by decide +kernel
theorem dX5_goesOut_29 : decode cX5_goesOut 29 = .ok (.iaload, 1) := by decide +kernel
theorem dX5_goesOut_30 : decode cX5_goesOut 30 = .ok (.istore_n 3, 1) := by decide +kernel
theorem dX5_goesOut_31 : decode cX5_goesOut 31 = .ok (.aload_n 0, 1) := by decide +kernel
theorem dX5_goesOut_32 : decode cX5_goesOut 32 = .ok (.getfield 51, 3) := by decide +kernel
theorem dX5_goesOut_35 : decode cX5_goesOut 35 = .ok (.iload_n 1, 1) := by decide +kernel
theorem dX5_goesOut_36 : decode cX5_goesOut 36 = .ok (.dup2, 1) := by decide +kernel
theorem dX5_goesOut_37 : decode cX5_goesOut 37 = .ok (.iaload, 1) := by decide +kernel
theorem dX5_goesOut_38 : decode cX5_goesOut 38 = .ok (.iconst 1, 1) := by decide +kernel
theorem dX5_goesOut_39 : decode cX5_goesOut 39 = .ok (.isub, 1) := by decide +kernel
theorem dX5_goesOut_40 : decode cX5_goesOut 40 = .ok (.iastore, 1) := by decide +kernel
theorem dX5_goesOut_41 : decode cX5_goesOut 41 = .ok (.bipush 24, 2) := by decide +kernel
theorem dX5_goesOut_43 : decode cX5_goesOut 43 = .ok (.iload_n 1, 1) := by decide +kernel
theorem dX5_goesOut_44 : decode cX5_goesOut 44 = .ok (.imul, 1) := by decide +kernel
theorem dX5_goesOut_45 : decode cX5_goesOut 45 = .ok (.istore 4, 2) := by decide +kernel
theorem dX5_goesOut_47 : decode cX5_goesOut 47 = .ok (.iload 4, 2) := by decide +kernel
theorem dX5_goesOut_49 : decode cX5_goesOut 49 = .ok (.bipush 24, 2) := by decide +kernel
theorem dX5_goesOut_51 : decode cX5_goesOut 51 = .ok (.iload_n 1, 1) := by decide +kernel
theorem dX5_goesOut_52 : decode cX5_goesOut 52 = .ok (.imul, 1) := by decide +kernel
theorem dX5_goesOut_53 : decode cX5_goesOut 53 = .ok (.aload_n 0, 1) := by decide +kernel
theorem dX5_goesOut_54 : decode cX5_goesOut 54 = .ok (.getfield 51, 3) := by decide +kernel
theorem dX5_goesOut_57 : decode cX5_goesOut 57 = .ok (.iload_n 1, 1) := by decide +kernel
theorem dX5_goesOut_58 : decode cX5_goesOut 58 = .ok (.iaload, 1) := by decide +kernel
theorem dX5_goesOut_59 : decode cX5_goesOut 59 = .ok (.iadd, 1) := by decide +kernel
theorem dX5_goesOut_60 : decode cX5_goesOut 60 = .ok (.if_icmp .ge 41, 3) := by decide +kernel
theorem dX5_goesOut_63 : decode cX5_goesOut 63 = .ok (.aload_n 0, 1) := by decide +kernel
theorem dX5_goesOut_64 : decode cX5_goesOut 64 = .ok (.getfield 45, 3) := by decide +kernel
theorem dX5_goesOut_67 : decode cX5_goesOut 67 = .ok (.iload 4, 2) := by decide +kernel
theorem dX5_goesOut_69 : decode cX5_goesOut 69 = .ok (.aload_n 0, 1) := by decide +kernel
theorem dX5_goesOut_70 : decode cX5_goesOut 70 = .ok (.getfield 45, 3) := by decide +kernel
theorem dX5_goesOut_73 : decode cX5_goesOut 73 = .ok (.iload 4, 2) := by decide +kernel
theorem dX5_goesOut_75 : decode cX5_goesOut 75 = .ok (.iconst 1, 1) := by decide +kernel
theorem dX5_goesOut_76 : decode cX5_goesOut 76 = .ok (.iadd, 1) := by decide +kernel
theorem dX5_goesOut_77 : decode cX5_goesOut 77 = .ok (.iaload, 1) := by decide +kernel
theorem dX5_goesOut_78 : decode cX5_goesOut 78 = .ok (.iastore, 1) := by decide +kernel
theorem dX5_goesOut_79 : decode cX5_goesOut 79 = .ok (.aload_n 0, 1) := by decide +kernel
theorem dX5_goesOut_80 : decode cX5_goesOut 80 = .ok (.getfield 48, 3) := by decide +kernel
theorem dX5_goesOut_83 : decode cX5_goesOut 83 = .ok (.iload 4, 2) := by decide +kernel
theorem dX5_goesOut_85 : decode cX5_goesOut 85 = .ok (.aload_n 0, 1) := by decide +kernel
theorem dX5_goesOut_86 : decode cX5_goesOut 86 = .ok (.getfield 48, 3) := by decide +kernel
theorem dX5_goesOut_89 : decode cX5_goesOut 89 = .ok (.iload 4, 2) := by decide +kernel
theorem dX5_goesOut_91 : decode cX5_goesOut 91 = .ok (.iconst 1, 1) := by decide +kernel
theorem dX5_goesOut_92 : decode cX5_goesOut 92 = .ok (.iadd, 1) := by decide +kernel
theorem dX5_goesOut_93 : decode cX5_goesOut 93 = .ok (.iaload, 1) := by decide +kernel
theorem dX5_goesOut_94 : decode cX5_goesOut 94 = .ok (.iastore, 1) := by decide +kernel
theorem dX5_goesOut_95 : decode cX5_goesOut 95 = .ok (.iinc 4 1, 3) := by decide +kernel
theorem dX5_goesOut_98 : decode cX5_goesOut 98 = .ok (.goto (-51), 3) := by decide +kernel
theorem dX5_goesOut_101 : decode cX5_goesOut 101 = .ok (.iload_n 3, 1) := by decide +kernel
theorem dX5_goesOut_102 : decode cX5_goesOut 102 = .ok (.ifCond .ne 10, 3) := by decide +kernel
theorem dX5_goesOut_105 : decode cX5_goesOut 105 = .ok (.aload_n 0, 1) := by decide +kernel
theorem dX5_goesOut_106 : decode cX5_goesOut 106 = .ok (.iload_n 2, 1) := by decide +kernel
theorem dX5_goesOut_107 : decode cX5_goesOut 107 = .ok (.invokevirtual 183, 3) := by decide +kernel
theorem dX5_goesOut_110 : decode cX5_goesOut 110 = .ok (.iconst 0, 1) := by decide +kernel
theorem dX5_goesOut_111 : decode cX5_goesOut 111 = .ok (.ireturn, 1) := by decide +kernel
theorem dX5_goesOut_112 : decode cX5_goesOut 112 = .ok (.aload_n 0, 1) := by decide +kernel
theorem dX5_goesOut_113 : decode cX5_goesOut 113 = .ok (.getfield 69, 3) := by decide +kernel
theorem dX5_goesOut_116 : decode cX5_goesOut 116 = .ok (.iload_n 2, 1) := by decide +kernel
theorem dX5_goesOut_117 : decode cX5_goesOut 117 = .ok (.dup2, 1) := by decide +kernel
theorem dX5_goesOut_118 : decode cX5_goesOut 118 = .ok (.iaload, 1) := by decide +kernel
theorem dX5_goesOut_119 : decode cX5_goesOut 119 = .ok (.iconst 1, 1) := by decide +kernel
theorem dX5_goesOut_120 : decode cX5_goesOut 120 = .ok (.iadd, 1) := by decide +kernel
theorem dX5_goesOut_121 : decode cX5_goesOut 121 = .ok (.iastore, 1) := by decide +kernel
theorem dX5_goesOut_122 : decode cX5_goesOut 122 = .ok (.aload_n 0, 1) := by decide +kernel
theorem dX5_goesOut_123 : decode cX5_goesOut 123 = .ok (.getfield 75, 3) := by decide +kernel
theorem dX5_goesOut_126 : decode cX5_goesOut 126 = .ok (.iload_n 2, 1) := by decide +kernel
theorem dX5_goesOut_127 : decode cX5_goesOut 127 = .ok (.iload_n 3, 1) := by decide +kernel
theorem dX5_goesOut_128 : decode cX5_goesOut 128 = .ok (.iastore, 1) := by decide +kernel
theorem dX5_goesOut_129 : decode cX5_goesOut 129 = .ok (.iconst 1, 1) := by decide +kernel
theorem dX5_goesOut_130 : decode cX5_goesOut 130 = .ok (.ireturn, 1) := by decide +kernel
theorem dX5_tickNow_0 : decode cX5_tickNow 0 = .ok (.aload_n 0, 1) := by decide +kernel
theorem dX5_tickNow_1 : decode cX5_tickNow 1 = .ok (.dup, 1) := by decide +kernel
theorem dX5_tickNow_2 : decode cX5_tickNow 2 = .ok (.getfield 99, 3) := by decide +kernel
theorem dX5_tickNow_5 : decode cX5_tickNow 5 = .ok (.iconst 1, 1) := by decide +kernel
theorem dX5_tickNow_6 : decode cX5_tickNow 6 = .ok (.iadd, 1) := by decide +kernel
theorem dX5_tickNow_7 : decode cX5_tickNow 7 = .ok (.putfield 99, 3) := by decide +kernel
theorem dX5_tickNow_10 : decode cX5_tickNow 10 = .ok (.aload_n 0, 1) := by decide +kernel
theorem dX5_tickNow_11 : decode cX5_tickNow 11 = .ok (.invokevirtual 189, 3) := by decide +kernel
theorem dX5_tickNow_14 : decode cX5_tickNow 14 = .ok (.aload_n 0, 1) := by decide +kernel
theorem dX5_tickNow_15 : decode cX5_tickNow 15 = .ok (.invokevirtual 192, 3) := by decide +kernel
theorem dX5_tickNow_18 : decode cX5_tickNow 18 = .ok (.iconst 0, 1) := by decide +kernel
theorem dX5_tickNow_19 : decode cX5_tickNow 19 = .ok (.istore_n 1, 1) := by decide +kernel
theorem dX5_tickNow_20 : decode cX5_tickNow 20 = .ok (.iconst 0, 1) := by decide +kernel
theorem dX5_tickNow_21 : decode cX5_tickNow 21 = .ok (.istore_n 2, 1) := by decide +kernel
theorem dX5_tickNow_22 : decode cX5_tickNow 22 = .ok (.iload_n 2, 1) := by decide +kernel
theorem dX5_tickNow_23 : decode cX5_tickNow 23 = .ok (.aload_n 0, 1) := by decide +kernel
theorem dX5_tickNow_24 : decode cX5_tickNow 24 = .ok (.getfield 105, 3) := by decide +kernel
theorem dX5_tickNow_27 : decode cX5_tickNow 27 = .ok (.if_icmp .ge 30, 3) := by decide +kernel
theorem dX5_tickNow_30 : decode cX5_tickNow 30 = .ok (.iload_n 1, 1) := by decide +kernel
theorem dX5_tickNow_31 : decode cX5_tickNow 31 = .ok (.aload_n 0, 1) := by decide +kernel
theorem dX5_tickNow_32 : decode cX5_tickNow 32 = .ok (.getfield 19, 3) := by decide +kernel
theorem dX5_tickNow_35 : decode cX5_tickNow 35 = .ok (.iload_n 2, 1) := by decide +kernel
theorem dX5_tickNow_36 : decode cX5_tickNow 36 = .ok (.baload, 1) := by decide +kernel
theorem dX5_tickNow_37 : decode cX5_tickNow 37 = .ok (.ifCond .eq 11, 3) := by decide +kernel
theorem dX5_tickNow_40 : decode cX5_tickNow 40 = .ok (.aload_n 0, 1) := by decide +kernel
theorem dX5_tickNow_41 : decode cX5_tickNow 41 = .ok (.iload_n 2, 1) := by decide +kernel
theorem dX5_tickNow_42 : decode cX5_tickNow 42 = .ok (.invokevirtual 195, 3) := by decide +kernel
theorem dX5_tickNow_45 : decode cX5_tickNow 45 = .ok (.goto 4, 3) := by decide +kernel
theorem dX5_tickNow_48 : decode cX5_tickNow 48 = .ok (.iconst 0, 1) := by decide +kernel
theorem dX5_tickNow_49 : decode cX5_tickNow 49 = .ok (.iadd, 1) := by decide +kernel
theorem dX5_tickNow_50 : decode cX5_tickNow 50 = .ok (.istore_n 1, 1) := by decide +kernel
theorem dX5_tickNow_51 : decode cX5_tickNow 51 = .ok (.iinc 2 1, 3) := by decide +kernel
theorem dX5_tickNow_54 : decode cX5_tickNow 54 = .ok (.goto (-32), 3) := by decide +kernel
theorem dX5_tickNow_57 : decode cX5_tickNow 57 = .ok (.iload_n 1, 1) := by decide +kernel
theorem dX5_tickNow_58 : decode cX5_tickNow 58 = .ok (.ireturn, 1) := by decide +kernel
theorem dX5_tick_0 : decode cX5_tick 0 = .ok (.iload_n 1, 1) := by decide +kernel
theorem dX5_tick_1 : decode cX5_tick 1 = .ok (.iconst 1, 1) := by decide +kernel
theorem dX5_tick_2 : decode cX5_tick 2 = .ok (.bipush 50, 2) := by decide +kernel
theorem dX5_tick_4 : decode cX5_tick 4 = .ok (.invokestatic 84, 3) := by decide +kernel
theorem dX5_tick_7 : decode cX5_tick 7 = .ok (.ifCond .ne 7, 3) := by decide +kernel
theorem dX5_tick_10 : decode cX5_tick 10 = .ok (.sipush (-1002), 3) := by decide +kernel
theorem dX5_tick_13 : decode cX5_tick 13 = .ok (.ireturn, 1) := by decide +kernel
theorem dX5_tick_14 : decode cX5_tick 14 = .ok (.aload_n 0, 1) := by decide +kernel
theorem dX5_tick_15 : decode cX5_tick 15 = .ok (.getfield 105, 3) := by decide +kernel
theorem dX5_tick_18 : decode cX5_tick 18 = .ok (.ifCond .ne 7, 3) := by decide +kernel
theorem dX5_tick_21 : decode cX5_tick 21 = .ok (.sipush (-1003), 3) := by decide +kernel
theorem dX5_tick_24 : decode cX5_tick 24 = .ok (.ireturn, 1) := by decide +kernel
theorem dX5_tick_25 : decode cX5_tick 25 = .ok (.iconst 0, 1) := by decide +kernel
theorem dX5_tick_26 : decode cX5_tick 26 = .ok (.istore_n 2, 1) := by decide +kernel
theorem dX5_tick_27 : decode cX5_tick 27 = .ok (.iconst 0, 1) := by decide +kernel
theorem dX5_tick_28 : decode cX5_tick 28 = .ok (.istore_n 3, 1) := by decide +kernel
theorem dX5_tick_29 : decode cX5_tick 29 = .ok (.iload_n 3, 1) := by decide +kernel
theorem dX5_tick_30 : decode cX5_tick 30 = .ok (.iload_n 1, 1) := by decide +kernel
theorem dX5_tick_31 : decode cX5_tick 31 = .ok (.if_icmp .ge 16, 3) := by decide +kernel
theorem dX5_tick_34 : decode cX5_tick 34 = .ok (.iload_n 2, 1) := by decide +kernel
theorem dX5_tick_35 : decode cX5_tick 35 = .ok (.aload_n 0, 1) := by decide +kernel
theorem dX5_tick_36 : decode cX5_tick 36 = .ok (.invokevirtual 198, 3) := by decide +kernel
theorem dX5_tick_39 : decode cX5_tick 39 = .ok (.iadd, 1) := by decide +kernel
theorem dX5_tick_40 : decode cX5_tick 40 = .ok (.istore_n 2, 1) := by decide +kernel
theorem dX5_tick_41 : decode cX5_tick 41 = .ok (.iinc 3 1, 3) := by decide +kernel
theorem dX5_tick_44 : decode cX5_tick 44 = .ok (.goto (-15), 3) := by decide +kernel
theorem dX5_tick_47 : decode cX5_tick 47 = .ok (.iload_n 2, 1) := by decide +kernel
theorem dX5_tick_48 : decode cX5_tick 48 = .ok (.ireturn, 1) := by decide +kernel
theorem dX5_sumOf_0 : decode cX5_sumOf 0 = .ok (.iconst 0, 1) := by decide +kernel
theorem dX5_sumOf_1 : decode cX5_sumOf 1 = .ok (.istore_n 2, 1) := by decide +kernel
theorem dX5_sumOf_2 : decode cX5_sumOf 2 = .ok (.iconst 0, 1) := by decide +kernel
theorem dX5_sumOf_3 : decode cX5_sumOf 3 = .ok (.istore_n 3, 1) := by decide +kernel
theorem dX5_sumOf_4 : decode cX5_sumOf 4 = .ok (.iload_n 3, 1) := by decide +kernel
theorem dX5_sumOf_5 : decode cX5_sumOf 5 = .ok (.bipush 12, 2) := by decide +kernel
theorem dX5_sumOf_7 : decode cX5_sumOf 7 = .ok (.if_icmp .ge 15, 3) := by decide +kernel
theorem dX5_sumOf_10 : decode cX5_sumOf 10 = .ok (.iload_n 2, 1) := by decide +kernel
theorem dX5_sumOf_11 : decode cX5_sumOf 11 = .ok (.aload_n 1, 1) := by decide +kernel
theorem dX5_sumOf_12 : decode cX5_sumOf 12 = .ok (.iload_n 3, 1) := by decide +kernel
theorem dX5_sumOf_13 : decode cX5_sumOf 13 = .ok (.iaload, 1) := by decide +kernel
theorem dX5_sumOf_14 : decode cX5_sumOf 14 = .ok (.iadd, 1) := by decide +kernel
theorem dX5_sumOf_15 : decode cX5_sumOf 15 = .ok (.istore_n 2, 1) := by decide +kernel
theorem dX5_sumOf_16 : decode cX5_sumOf 16 = .ok (.iinc 3 1, 3) := by decide +kernel
theorem dX5_sumOf_19 : decode cX5_sumOf 19 = .ok (.goto (-15), 3) := by decide +kernel
theorem dX5_sumOf_22 : decode cX5_sumOf 22 = .ok (.iload_n 2, 1) := by decide +kernel
theorem dX5_sumOf_23 : decode cX5_sumOf 23 = .ok (.ireturn, 1) := by decide +kernel
theorem dX5_howMany_0 : decode cX5_howMany 0 = .ok (.iload_n 1, 1) := by decide +kernel
theorem dX5_howMany_1 : decode cX5_howMany 1 = .ok (.tableswitch 132 0 11 #[63, 68, 73, 73, 73, 81, 86, 95, 104, 113, 122, 127], 63) := by decide +kernel
theorem dX5_howMany_64 : decode cX5_howMany 64 = .ok (.aload_n 0, 1) := by decide +kernel
theorem dX5_howMany_65 : decode cX5_howMany 65 = .ok (.getfield 105, 3) := by decide +kernel
theorem dX5_howMany_68 : decode cX5_howMany 68 = .ok (.ireturn, 1) := by decide +kernel
theorem dX5_howMany_69 : decode cX5_howMany 69 = .ok (.aload_n 0, 1) := by decide +kernel
theorem dX5_howMany_70 : decode cX5_howMany 70 = .ok (.getfield 88, 3) := by decide +kernel
theorem dX5_howMany_73 : decode cX5_howMany 73 = .ok (.ireturn, 1) := by decide +kernel
theorem dX5_howMany_74 : decode cX5_howMany 74 = .ok (.aload_n 0, 1) := by decide +kernel
theorem dX5_howMany_75 : decode cX5_howMany 75 = .ok (.iload_n 1, 1) := by decide +kernel
theorem dX5_howMany_76 : decode cX5_howMany 76 = .ok (.iconst 2, 1) := by decide +kernel
theorem dX5_howMany_77 : decode cX5_howMany 77 = .ok (.isub, 1) := by decide +kernel
theorem dX5_howMany_78 : decode cX5_howMany 78 = .ok (.invokevirtual 135, 3) := by decide +kernel
theorem dX5_howMany_81 : decode cX5_howMany 81 = .ok (.ireturn, 1) := by decide +kernel
theorem dX5_howMany_82 : decode cX5_howMany 82 = .ok (.aload_n 0, 1) := by decide +kernel
theorem dX5_howMany_83 : decode cX5_howMany 83 = .ok (.getfield 99, 3) := by decide +kernel
theorem dX5_howMany_86 : decode cX5_howMany 86 = .ok (.ireturn, 1) := by decide +kernel
theorem dX5_howMany_87 : decode cX5_howMany 87 = .ok (.aload_n 0, 1) := by decide +kernel
theorem dX5_howMany_88 : decode cX5_howMany 88 = .ok (.aload_n 0, 1) := by decide +kernel
theorem dX5_howMany_89 : decode cX5_howMany 89 = .ok (.getfield 66, 3) := by decide +kernel
theorem dX5_howMany_92 : decode cX5_howMany 92 = .ok (.invokevirtual 201, 3) := by decide +kernel
theorem dX5_howMany_95 : decode cX5_howMany 95 = .ok (.ireturn, 1) := by decide +kernel
theorem dX5_howMany_96 : decode cX5_howMany 96 = .ok (.aload_n 0, 1) := by decide +kernel
theorem dX5_howMany_97 : decode cX5_howMany 97 = .ok (.aload_n 0, 1) := by decide +kernel
theorem dX5_howMany_98 : decode cX5_howMany 98 = .ok (.getfield 69, 3) := by decide +kernel
theorem dX5_howMany_101 : decode cX5_howMany 101 = .ok (.invokevirtual 201, 3) := by decide +kernel
theorem dX5_howMany_104 : decode cX5_howMany 104 = .ok (.ireturn, 1) := by decide +kernel
theorem dX5_howMany_105 : decode cX5_howMany 105 = .ok (.aload_n 0, 1) := by decide +kernel
theorem dX5_howMany_106 : decode cX5_howMany 106 = .ok (.aload_n 0, 1) := by decide +kernel
theorem dX5_howMany_107 : decode cX5_howMany 107 = .ok (.getfield 72, 3) := by decide +kernel
theorem dX5_howMany_110 : decode cX5_howMany 110 = .ok (.invokevirtual 201, 3) := by decide +kernel
theorem dX5_howMany_113 : decode cX5_howMany 113 = .ok (.ireturn, 1) := by decide +kernel
theorem dX5_howMany_114 : decode cX5_howMany 114 = .ok (.aload_n 0, 1) := by decide +kernel
theorem dX5_howMany_115 : decode cX5_howMany 115 = .ok (.aload_n 0, 1) := by decide +kernel
theorem dX5_howMany_116 : decode cX5_howMany 116 = .ok (.getfield 60, 3) := by decide +kernel
theorem dX5_howMany_119 : decode cX5_howMany 119 = .ok (.invokevirtual 201, 3) := by decide +kernel
theorem dX5_howMany_122 : decode cX5_howMany 122 = .ok (.ireturn, 1) := by decide +kernel
theorem dX5_howMany_123 : decode cX5_howMany 123 = .ok (.aload_n 0, 1) := by decide +kernel
theorem dX5_howMany_124 : decode cX5_howMany 124 = .ok (.getfield 102, 3) := by decide +kernel
theorem dX5_howMany_127 : decode cX5_howMany 127 = .ok (.ireturn, 1) := by decide +kernel
theorem dX5_howMany_128 : decode cX5_howMany 128 = .ok (.aload_n 0, 1) := by decide +kernel
theorem dX5_howMany_129 : decode cX5_howMany 129 = .ok (.getfield 112, 3) := by decide +kernel
theorem dX5_howMany_132 : decode cX5_howMany 132 = .ok (.ireturn, 1) := by decide +kernel
theorem dX5_howMany_133 : decode cX5_howMany 133 = .ok (.sipush (-1002), 3) := by decide +kernel
theorem dX5_howMany_136 : decode cX5_howMany 136 = .ok (.ireturn, 1) := by decide +kernel
theorem dX5_count_0 : decode cX5_count 0 = .ok (.aload_n 0, 1) := by decide +kernel
theorem dX5_count_1 : decode cX5_count 1 = .ok (.iload_n 1, 1) := by decide +kernel
theorem dX5_count_2 : decode cX5_count 2 = .ok (.invokevirtual 205, 3) := by decide +kernel
theorem dX5_count_5 : decode cX5_count 5 = .ok (.ireturn, 1) := by decide +kernel
theorem dX5_mix_0 : decode cX5_mix 0 = .ok (.aload_n 0, 1) := by decide +kernel
theorem dX5_mix_1 : decode cX5_mix 1 = .ok (.ldc2_w 208, 3) := by decide +kernel
theorem dX5_mix_4 : decode cX5_mix 4 = .ok (.aload_n 0, 1) := by decide +kernel
theorem dX5_mix_5 : decode cX5_mix 5 = .ok (.getfield 210, 3) := by decide +kernel
theorem dX5_mix_8 : decode cX5_mix 8 = .ok (.lmul, 1) := by decide +kernel
theorem dX5_mix_9 : decode cX5_mix 9 = .ok (.lload_n 1, 1) := by decide +kernel
theorem dX5_mix_10 : decode cX5_mix 10 = .ok (.ladd, 1) := by decide +kernel
theorem dX5_mix_11 : decode cX5_mix 11 = .ok (.putfield 210, 3) := by decide +kernel
theorem dX5_mix_14 : decode cX5_mix 14 = .ok (.return_, 1) := by decide +kernel
theorem dX5_mixPorts_0 : decode cX5_mixPorts 0 = .ok (.iconst 0, 1) := by decide +kernel
theorem dX5_mixPorts_1 : decode cX5_mixPorts 1 = .ok (.istore_n 1, 1) := by decide +kernel
theorem dX5_mixPorts_2 : decode cX5_mixPorts 2 = .ok (.iload_n 1, 1) := by decide +kernel
theorem dX5_mixPorts_3 : decode cX5_mixPorts 3 = .ok (.aload_n 0, 1) := by decide +kernel
theorem dX5_mixPorts_4 : decode cX5_mixPorts 4 = .ok (.getfield 105, 3) := by decide +kernel
theorem dX5_mixPorts_7 : decode cX5_mixPorts 7 = .ok (.if_icmp .ge 63, 3) := by decide +kernel
theorem dX5_mixPorts_10 : decode cX5_mixPorts 10 = .ok (.iconst 0, 1) := by decide +kernel
theorem dX5_mixPorts_11 : decode cX5_mixPorts 11 = .ok (.istore_n 2, 1) := by decide +kernel
theorem dX5_mixPorts_12 : decode cX5_mixPorts 12 = .ok (.iload_n 2, 1) := by decide +kernel
theorem dX5_mixPorts_13 : decode cX5_mixPorts 13 = .ok (.bipush 10, 2) := by decide +kernel
theorem dX5_mixPorts_15 : decode cX5_mixPorts 15 = .ok (.if_icmp .ge 20, 3) := by decide +kernel
theorem dX5_mixPorts_18 : decode cX5_mixPorts 18 = .ok (.aload_n 0, 1) := by decide +kernel
theorem dX5_mixPorts_19 : decode cX5_mixPorts 19 = .ok (.aload_n 0, 1) := by decide +kernel
theorem dX5_mixPorts_20 : decode cX5_mixPorts 20 = .ok (.iload_n 1, 1) := by decide +kernel
theorem dX5_mixPorts_21 : decode cX5_mixPorts 21 = .ok (.iload_n 2, 1) := by decide +kernel
theorem dX5_mixPorts_22 : decode cX5_mixPorts 22 = .ok (.invokevirtual 147, 3) := by decide +kernel
theorem dX5_mixPorts_25 : decode cX5_mixPorts 25 = .ok (.i2l, 1) := by decide +kernel
theorem dX5_mixPorts_26 : decode cX5_mixPorts 26 = .ok (.invokevirtual 214, 3) := by decide +kernel
theorem dX5_mixPorts_29 : decode cX5_mixPorts 29 = .ok (.iinc 2 1, 3) := by decide +kernel
theorem dX5_mixPorts_32 : decode cX5_mixPorts 32 = .ok (.goto (-20), 3) := by decide +kernel
theorem dX5_mixPorts_35 : decode cX5_mixPorts 35 = .ok (.iconst 0, 1) := by decide +kernel
theorem dX5_mixPorts_36 : decode cX5_mixPorts 36 = .ok (.istore_n 2, 1) := by decide +kernel
theorem dX5_mixPorts_37 : decode cX5_mixPorts 37 = .ok (.iload_n 2, 1) := by decide +kernel
theorem dX5_mixPorts_38 : decode cX5_mixPorts 38 = .ok (.aload_n 0, 1) := by decide +kernel
theorem dX5_mixPorts_39 : decode cX5_mixPorts 39 = .ok (.getfield 51, 3) := by decide +kernel
theorem dX5_mixPorts_42 : decode cX5_mixPorts 42 = .ok (.iload_n 1, 1) := by decide +kernel
theorem dX5_mixPorts_43 : decode cX5_mixPorts 43 = .ok (.iaload, 1) := by decide +kernel
theorem dX5_mixPorts_44 : decode cX5_mixPorts 44 = .ok (.if_icmp .ge 20, 3) := by decide +kernel
theorem dX5_mixPorts_47 : decode cX5_mixPorts 47 = .ok (.aload_n 0, 1) := by decide +kernel
theorem dX5_mixPorts_48 : decode cX5_mixPorts 48 = .ok (.aload_n 0, 1) := by decide +kernel
theorem dX5_mixPorts_49 : decode cX5_mixPorts 49 = .ok (.iload_n 1, 1) := by decide +kernel
theorem dX5_mixPorts_50 : decode cX5_mixPorts 50 = .ok (.iload_n 2, 1) := by decide +kernel
theorem dX5_mixPorts_51 : decode cX5_mixPorts 51 = .ok (.invokevirtual 151, 3) := by decide +kernel
theorem dX5_mixPorts_54 : decode cX5_mixPorts 54 = .ok (.i2l, 1) := by decide +kernel
theorem dX5_mixPorts_55 : decode cX5_mixPorts 55 = .ok (.invokevirtual 214, 3) := by decide +kernel
theorem dX5_mixPorts_58 : decode cX5_mixPorts 58 = .ok (.iinc 2 1, 3) := by decide +kernel
theorem dX5_mixPorts_61 : decode cX5_mixPorts 61 = .ok (.goto (-24), 3) := by decide +kernel
theorem dX5_mixPorts_64 : decode cX5_mixPorts 64 = .ok (.iinc 1 1, 3) := by decide +kernel
theorem dX5_mixPorts_67 : decode cX5_mixPorts 67 = .ok (.goto (-65), 3) := by decide +kernel
theorem dX5_mixPorts_70 : decode cX5_mixPorts 70 = .ok (.return_, 1) := by decide +kernel
theorem dX5_mixFlows_0 : decode cX5_mixFlows 0 = .ok (.iconst 0, 1) := by decide +kernel
theorem dX5_mixFlows_1 : decode cX5_mixFlows 1 = .ok (.istore_n 1, 1) := by decide +kernel
theorem dX5_mixFlows_2 : decode cX5_mixFlows 2 = .ok (.iload_n 1, 1) := by decide +kernel
theorem dX5_mixFlows_3 : decode cX5_mixFlows 3 = .ok (.bipush 12, 2) := by decide +kernel
theorem dX5_mixFlows_5 : decode cX5_mixFlows 5 = .ok (.if_icmp .ge 44, 3) := by decide +kernel
theorem dX5_mixFlows_8 : decode cX5_mixFlows 8 = .ok (.aload_n 0, 1) := by decide +kernel
theorem dX5_mixFlows_9 : decode cX5_mixFlows 9 = .ok (.aload_n 0, 1) := by decide +kernel
theorem dX5_mixFlows_10 : decode cX5_mixFlows 10 = .ok (.iload_n 1, 1) := by decide +kernel
theorem dX5_mixFlows_11 : decode cX5_mixFlows 11 = .ok (.invokevirtual 164, 3) := by decide +kernel
theorem dX5_mixFlows_14 : decode cX5_mixFlows 14 = .ok (.i2l, 1) := by decide +kernel
theorem dX5_mixFlows_15 : decode cX5_mixFlows 15 = .ok (.invokevirtual 214, 3) := by decide +kernel
theorem dX5_mixFlows_18 : decode cX5_mixFlows 18 = .ok (.iconst 0, 1) := by decide +kernel
theorem dX5_mixFlows_19 : decode cX5_mixFlows 19 = .ok (.istore_n 2, 1) := by decide +kernel
theorem dX5_mixFlows_20 : decode cX5_mixFlows 20 = .ok (.iload_n 2, 1) := by decide +kernel
theorem dX5_mixFlows_21 : decode cX5_mixFlows 21 = .ok (.bipush 7, 2) := by decide +kernel
theorem dX5_mixFlows_23 : decode cX5_mixFlows 23 = .ok (.if_icmp .ge 20, 3) := by decide +kernel
theorem dX5_mixFlows_26 : decode cX5_mixFlows 26 = .ok (.aload_n 0, 1) := by decide +kernel
theorem dX5_mixFlows_27 : decode cX5_mixFlows 27 = .ok (.aload_n 0, 1) := by decide +kernel
theorem dX5_mixFlows_28 : decode cX5_mixFlows 28 = .ok (.iload_n 1, 1) := by decide +kernel
theorem dX5_mixFlows_29 : decode cX5_mixFlows 29 = .ok (.iload_n 2, 1) := by decide +kernel
theorem dX5_mixFlows_30 : decode cX5_mixFlows 30 = .ok (.invokevirtual 186, 3) := by decide +kernel
theorem dX5_mixFlows_33 : decode cX5_mixFlows 33 = .ok (.i2l, 1) := by decide +kernel
theorem dX5_mixFlows_34 : decode cX5_mixFlows 34 = .ok (.invokevirtual 214, 3) := by decide +kernel
theorem dX5_mixFlows_37 : decode cX5_mixFlows 37 = .ok (.iinc 2 1, 3) := by decide +kernel
theorem dX5_mixFlows_40 : decode cX5_mixFlows 40 = .ok (.goto (-20), 3) := by decide +kernel
theorem dX5_mixFlows_43 : decode cX5_mixFlows 43 = .ok (.iinc 1 1, 3) := by decide +kernel
theorem dX5_mixFlows_46 : decode cX5_mixFlows 46 = .ok (.goto (-44), 3) := by decide +kernel
theorem dX5_mixFlows_49 : decode cX5_mixFlows 49 = .ok (.return_, 1) := by decide +kernel
theorem dX5_digest_0 : decode cX5_digest 0 = .ok (.aload_n 0, 1) := by decide +kernel
theorem dX5_digest_1 : decode cX5_digest 1 = .ok (.ldc2_w 218, 3) := by decide +kernel
theorem dX5_digest_4 : decode cX5_digest 4 = .ok (.putfield 210, 3) := by decide +kernel
theorem dX5_digest_7 : decode cX5_digest 7 = .ok (.aload_n 0, 1) := by decide +kernel
theorem dX5_digest_8 : decode cX5_digest 8 = .ok (.invokevirtual 220, 3) := by decide +kernel
theorem dX5_digest_11 : decode cX5_digest 11 = .ok (.iconst 0, 1) := by decide +kernel
theorem dX5_digest_12 : decode cX5_digest 12 = .ok (.istore_n 1, 1) := by decide +kernel
theorem dX5_digest_13 : decode cX5_digest 13 = .ok (.iload_n 1, 1) := by decide +kernel
theorem dX5_digest_14 : decode cX5_digest 14 = .ok (.iconst 4, 1) := by decide +kernel
theorem dX5_digest_15 : decode cX5_digest 15 = .ok (.if_icmp .ge 33, 3) := by decide +kernel
theorem dX5_digest_18 : decode cX5_digest 18 = .ok (.iconst 0, 1) := by decide +kernel
theorem dX5_digest_19 : decode cX5_digest 19 = .ok (.istore_n 2, 1) := by decide +kernel
theorem dX5_digest_20 : decode cX5_digest 20 = .ok (.iload_n 2, 1) := by decide +kernel
theorem dX5_digest_21 : decode cX5_digest 21 = .ok (.iconst 4, 1) := by decide +kernel
theorem dX5_digest_22 : decode cX5_digest 22 = .ok (.if_icmp .ge 20, 3) := by decide +kernel
theorem dX5_digest_25 : decode cX5_digest 25 = .ok (.aload_n 0, 1) := by decide +kernel
theorem dX5_digest_26 : decode cX5_digest 26 = .ok (.aload_n 0, 1) := by decide +kernel
theorem dX5_digest_27 : decode cX5_digest 27 = .ok (.iload_n 1, 1) := by decide +kernel
theorem dX5_digest_28 : decode cX5_digest 28 = .ok (.iload_n 2, 1) := by decide +kernel
theorem dX5_digest_29 : decode cX5_digest 29 = .ok (.invokevirtual 158, 3) := by decide +kernel
theorem dX5_digest_32 : decode cX5_digest 32 = .ok (.i2l, 1) := by decide +kernel
theorem dX5_digest_33 : decode cX5_digest 33 = .ok (.invokevirtual 214, 3) := by decide +kernel
theorem dX5_digest_36 : decode cX5_digest 36 = .ok (.iinc 2 1, 3) := by decide +kernel
theorem dX5_digest_39 : decode cX5_digest 39 = .ok (.goto (-19), 3) := by decide +kernel
theorem dX5_digest_42 : decode cX5_digest 42 = .ok (.iinc 1 1, 3) := by decide +kernel
theorem dX5_digest_45 : decode cX5_digest 45 = .ok (.goto (-32), 3) := by decide +kernel
theorem dX5_digest_48 : decode cX5_digest 48 = .ok (.aload_n 0, 1) := by decide +kernel
theorem dX5_digest_49 : decode cX5_digest 49 = .ok (.invokevirtual 223, 3) := by decide +kernel
theorem dX5_digest_52 : decode cX5_digest 52 = .ok (.iconst 0, 1) := by decide +kernel
theorem dX5_digest_53 : decode cX5_digest 53 = .ok (.istore_n 1, 1) := by decide +kernel
theorem dX5_digest_54 : decode cX5_digest 54 = .ok (.iload_n 1, 1) := by decide +kernel
theorem dX5_digest_55 : decode cX5_digest 55 = .ok (.aload_n 0, 1) := by decide +kernel
theorem dX5_digest_56 : decode cX5_digest 56 = .ok (.getfield 88, 3) := by decide +kernel
theorem dX5_digest_59 : decode cX5_digest 59 = .ok (.if_icmp .ge 20, 3) := by decide +kernel
theorem dX5_digest_62 : decode cX5_digest 62 = .ok (.aload_n 0, 1) := by decide +kernel
theorem dX5_digest_63 : decode cX5_digest 63 = .ok (.aload_n 0, 1) := by decide +kernel
theorem dX5_digest_64 : decode cX5_digest 64 = .ok (.getfield 7, 3) := by decide +kernel
theorem dX5_digest_67 : decode cX5_digest 67 = .ok (.iload_n 1, 1) := by decide +kernel
theorem dX5_digest_68 : decode cX5_digest 68 = .ok (.iaload, 1) := by decide +kernel
theorem dX5_digest_69 : decode cX5_digest 69 = .ok (.i2l, 1) := by decide +kernel
theorem dX5_digest_70 : decode cX5_digest 70 = .ok (.invokevirtual 214, 3) := by decide +kernel
theorem dX5_digest_73 : decode cX5_digest 73 = .ok (.iinc 1 1, 3) := by decide +kernel
theorem dX5_digest_76 : decode cX5_digest 76 = .ok (.goto (-22), 3) := by decide +kernel
theorem dX5_digest_79 : decode cX5_digest 79 = .ok (.iconst 0, 1) := by decide +kernel
theorem dX5_digest_80 : decode cX5_digest 80 = .ok (.istore_n 1, 1) := by decide +kernel
theorem dX5_digest_81 : decode cX5_digest 81 = .ok (.iload_n 1, 1) := by decide +kernel
theorem dX5_digest_82 : decode cX5_digest 82 = .ok (.bipush 12, 2) := by decide +kernel
theorem dX5_digest_84 : decode cX5_digest 84 = .ok (.if_icmp .ge 19, 3) := by decide +kernel
theorem dX5_digest_87 : decode cX5_digest 87 = .ok (.aload_n 0, 1) := by decide +kernel
theorem dX5_digest_88 : decode cX5_digest 88 = .ok (.aload_n 0, 1) := by decide +kernel
theorem dX5_digest_89 : decode cX5_digest 89 = .ok (.iload_n 1, 1) := by decide +kernel
theorem dX5_digest_90 : decode cX5_digest 90 = .ok (.invokevirtual 205, 3) := by decide +kernel
theorem dX5_digest_93 : decode cX5_digest 93 = .ok (.i2l, 1) := by decide +kernel
theorem dX5_digest_94 : decode cX5_digest 94 = .ok (.invokevirtual 214, 3) := by decide +kernel
theorem dX5_digest_97 : decode cX5_digest 97 = .ok (.iinc 1 1, 3) := by decide +kernel
theorem dX5_digest_100 : decode cX5_digest 100 = .ok (.goto (-19), 3) := by decide +kernel
theorem dX5_digest_103 : decode cX5_digest 103 = .ok (.aload_n 0, 1) := by decide +kernel
theorem dX5_digest_104 : decode cX5_digest 104 = .ok (.getfield 210, 3) := by decide +kernel
theorem dX5_digest_107 : decode cX5_digest 107 = .ok (.lreturn, 1) := by decide +kernel
theorem dL_law_0 : decode cL_law 0 = .ok (.new 7, 3) := by decide +kernel
theorem dL_law_3 : decode cL_law 3 = .ok (.dup, 1) := by decide +kernel
theorem dL_law_4 : decode cL_law 4 = .ok (.invokespecial 9, 3) := by decide +kernel
theorem dL_law_7 : decode cL_law 7 = .ok (.astore_n 1, 1) := by decide +kernel
theorem dL_law_8 : decode cL_law 8 = .ok (.new 10, 3) := by decide +kernel
theorem dL_law_11 : decode cL_law 11 = .ok (.dup, 1) := by decide +kernel
theorem dL_law_12 : decode cL_law 12 = .ok (.invokespecial 12, 3) := by decide +kernel
theorem dL_law_15 : decode cL_law 15 = .ok (.astore_n 2, 1) := by decide +kernel
theorem dL_law_16 : decode cL_law 16 = .ok (.iconst 0, 1) := by decide +kernel
theorem dL_law_17 : decode cL_law 17 = .ok (.istore_n 3, 1) := by decide +kernel
theorem dL_law_18 : decode cL_law 18 = .ok (.iload_n 3, 1) := by decide +kernel
theorem dL_law_19 : decode cL_law 19 = .ok (.aload_n 0, 1) := by decide +kernel
theorem dL_law_20 : decode cL_law 20 = .ok (.arraylength, 1) := by decide +kernel
theorem dL_law_21 : decode cL_law 21 = .ok (.iconst 5, 1) := by decide +kernel
theorem dL_law_22 : decode cL_law 22 = .ok (.isub, 1) := by decide +kernel
theorem dL_law_23 : decode cL_law 23 = .ok (.if_icmp .gt 583, 3) := by decide +kernel
theorem dL_law_26 : decode cL_law 26 = .ok (.aload_n 0, 1) := by decide +kernel
theorem dL_law_27 : decode cL_law 27 = .ok (.iload_n 3, 1) := by decide +kernel
theorem dL_law_28 : decode cL_law 28 = .ok (.iaload, 1) := by decide +kernel
theorem dL_law_29 : decode cL_law 29 = .ok (.bipush 31, 2) := by decide +kernel
theorem dL_law_31 : decode cL_law 31 = .ok (.iand, 1) := by decide +kernel
theorem dL_law_32 : decode cL_law 32 = .ok (.tableswitch 568 0 16 #[84, 107, 120, 133, 146, 179, 212, 261, 330, 363, 396, 429, 452, 475, 508, 531, 554], 84) := by decide +kernel
theorem dL_law_116 : decode cL_law 116 = .ok (.aload_n 1, 1) := by decide +kernel
theorem dL_law_117 : decode cL_law 117 = .ok (.aload_n 0, 1) := by decide +kernel
theorem dL_law_118 : decode cL_law 118 = .ok (.iload_n 3, 1) := by decide +kernel
theorem dL_law_119 : decode cL_law 119 = .ok (.iconst 1, 1) := by decide +kernel
theorem dL_law_120 : decode cL_law 120 = .ok (.iadd, 1) := by decide +kernel
theorem dL_law_121 : decode cL_law 121 = .ok (.iaload, 1) := by decide +kernel
theorem dL_law_122 : decode cL_law 122 = .ok (.invokevirtual 13, 3) := by decide +kernel
theorem dL_law_125 : decode cL_law 125 = .ok (.aload_n 2, 1) := by decide +kernel
theorem dL_law_126 : decode cL_law 126 = .ok (.aload_n 0, 1) := by decide +kernel
theorem dL_law_127 : decode cL_law 127 = .ok (.iload_n 3, 1) := by decide +kernel
theorem dL_law_128 : decode cL_law 128 = .ok (.iconst 1, 1) := by decide +kernel
theorem dL_law_129 : decode cL_law 129 = .ok (.iadd, 1) := by decide +kernel
theorem dL_law_130 : decode cL_law 130 = .ok (.iaload, 1) := by decide +kernel
theorem dL_law_131 : decode cL_law 131 = .ok (.invokevirtual 17, 3) := by decide +kernel
theorem dL_law_134 : decode cL_law 134 = .ok (.if_icmp .eq 466, 3) := by decide +kernel
theorem dL_law_137 : decode cL_law 137 = .ok (.iconst 0, 1) := by decide +kernel
theorem dL_law_138 : decode cL_law 138 = .ok (.ireturn, 1) := by decide +kernel
theorem dL_law_139 : decode cL_law 139 = .ok (.aload_n 1, 1) := by decide +kernel
theorem dL_law_140 : decode cL_law 140 = .ok (.invokevirtual 18, 3) := by decide +kernel
theorem dL_law_143 : decode cL_law 143 = .ok (.aload_n 2, 1) := by decide +kernel
theorem dL_law_144 : decode cL_law 144 = .ok (.invokevirtual 22, 3) := by decide +kernel
theorem dL_law_147 : decode cL_law 147 = .ok (.if_icmp .eq 453, 3) := by decide +kernel
theorem dL_law_150 : decode cL_law 150 = .ok (.iconst 0, 1) := by decide +kernel
theorem dL_law_151 : decode cL_law 151 = .ok (.ireturn, 1) := by decide +kernel
theorem dL_law_152 : decode cL_law 152 = .ok (.aload_n 1, 1) := by decide +kernel
theorem dL_law_153 : decode cL_law 153 = .ok (.invokevirtual 23, 3) := by decide +kernel
theorem dL_law_156 : decode cL_law 156 = .ok (.aload_n 2, 1) := by decide +kernel
theorem dL_law_157 : decode cL_law 157 = .ok (.invokevirtual 26, 3) := by decide +kernel
theorem dL_law_160 : decode cL_law 160 = .ok (.if_icmp .eq 440, 3) := by decide +kernel
theorem dL_law_163 : decode cL_law 163 = .ok (.iconst 0, 1) := by decide +kernel
theorem dL_law_164 : decode cL_law 164 = .ok (.ireturn, 1) := by decide +kernel
theorem dL_law_165 : decode cL_law 165 = .ok (.aload_n 1, 1) := by decide +kernel
theorem dL_law_166 : decode cL_law 166 = .ok (.invokevirtual 27, 3) := by decide +kernel
theorem dL_law_169 : decode cL_law 169 = .ok (.aload_n 2, 1) := by decide +kernel
theorem dL_law_170 : decode cL_law 170 = .ok (.invokevirtual 30, 3) := by decide +kernel
theorem dL_law_173 : decode cL_law 173 = .ok (.if_icmp .eq 427, 3) := by decide +kernel
theorem dL_law_176 : decode cL_law 176 = .ok (.iconst 0, 1) := by decide +kernel
theorem dL_law_177 : decode cL_law 177 = .ok (.ireturn, 1) := by decide +kernel
theorem dL_law_178 : decode cL_law 178 = .ok (.aload_n 1, 1) := by decide +kernel
theorem dL_law_179 : decode cL_law 179 = .ok (.aload_n 0, 1) := by decide +kernel
theorem dL_law_180 : decode cL_law 180 = .ok (.iload_n 3, 1) := by decide +kernel
theorem dL_law_181 : decode cL_law 181 = .ok (.iconst 1, 1) := by decide +kernel
theorem dL_law_182 : decode cL_law 182 = .ok (.iadd, 1) := by decide +kernel
theorem dL_law_183 : decode cL_law 183 = .ok (.iaload, 1) := by decide +kernel
theorem dL_law_184 : decode cL_law 184 = .ok (.aload_n 0, 1) := by decide +kernel
theorem dL_law_185 : decode cL_law 185 = .ok (.iload_n 3, 1) := by decide +kernel
theorem dL_law_186 : decode cL_law 186 = .ok (.iconst 2, 1) := by decide +kernel
theorem dL_law_187 : decode cL_law 187 = .ok (.iadd, 1) := by decide +kernel
theorem dL_law_188 : decode cL_law 188 = .ok (.iaload, 1) := by decide +kernel
theorem dL_law_189 : decode cL_law 189 = .ok (.invokevirtual 31, 3) := by decide +kernel
theorem dL_law_192 : decode cL_law 192 = .ok (.aload_n 2, 1) := by decide +kernel
theorem dL_law_193 : decode cL_law 193 = .ok (.aload_n 0, 1) := by decide +kernel
theorem dL_law_194 : decode cL_law 194 = .ok (.iload_n 3, 1) := by decide +kernel
theorem dL_law_195 : decode cL_law 195 = .ok (.iconst 1, 1) := by decide +kernel
theorem dL_law_196 : decode cL_law 196 = .ok (.iadd, 1) := by decide +kernel
theorem dL_law_197 : decode cL_law 197 = .ok (.iaload, 1) := by decide +kernel
theorem dL_law_198 : decode cL_law 198 = .ok (.aload_n 0, 1) := by decide +kernel
theorem dL_law_199 : decode cL_law 199 = .ok (.iload_n 3, 1) := by decide +kernel
theorem dL_law_200 : decode cL_law 200 = .ok (.iconst 2, 1) := by decide +kernel
theorem dL_law_201 : decode cL_law 201 = .ok (.iadd, 1) := by decide +kernel
theorem dL_law_202 : decode cL_law 202 = .ok (.iaload, 1) := by decide +kernel
theorem dL_law_203 : decode cL_law 203 = .ok (.invokevirtual 35, 3) := by decide +kernel
theorem dL_law_206 : decode cL_law 206 = .ok (.if_icmp .eq 394, 3) := by decide +kernel
theorem dL_law_209 : decode cL_law 209 = .ok (.iconst 0, 1) := by decide +kernel
theorem dL_law_210 : decode cL_law 210 = .ok (.ireturn, 1) := by decide +kernel
theorem dL_law_211 : decode cL_law 211 = .ok (.aload_n 1, 1) := by decide +kernel
theorem dL_law_212 : decode cL_law 212 = .ok (.aload_n 0, 1) := by decide +kernel
theorem dL_law_213 : decode cL_law 213 = .ok (.iload_n 3, 1) := by decide +kernel
theorem dL_law_214 : decode cL_law 214 = .ok (.iconst 1, 1) := by decide +kernel
theorem dL_law_215 : decode cL_law 215 = .ok (.iadd, 1) := by decide +kernel
theorem dL_law_216 : decode cL_law 216 = .ok (.iaload, 1) := by decide +kernel
theorem dL_law_217 : decode cL_law 217 = .ok (.aload_n 0, 1) := by decide +kernel
theorem dL_law_218 : decode cL_law 218 = .ok (.iload_n 3, 1) := by decide +kernel
theorem dL_law_219 : decode cL_law 219 = .ok (.iconst 2, 1) := by decide +kernel
theorem dL_law_220 : decode cL_law 220 = .ok (.iadd, 1) := by decide +kernel
theorem dL_law_221 : decode cL_law 221 = .ok (.iaload, 1) := by decide +kernel
theorem dL_law_222 : decode cL_law 222 = .ok (.invokevirtual 36, 3) := by decide +kernel
theorem dL_law_225 : decode cL_law 225 = .ok (.aload_n 2, 1) := by decide +kernel
theorem dL_law_226 : decode cL_law 226 = .ok (.aload_n 0, 1) := by decide +kernel
theorem dL_law_227 : decode cL_law 227 = .ok (.iload_n 3, 1) := by decide +kernel
theorem dL_law_228 : decode cL_law 228 = .ok (.iconst 1, 1) := by decide +kernel
theorem dL_law_229 : decode cL_law 229 = .ok (.iadd, 1) := by decide +kernel
theorem dL_law_230 : decode cL_law 230 = .ok (.iaload, 1) := by decide +kernel
theorem dL_law_231 : decode cL_law 231 = .ok (.aload_n 0, 1) := by decide +kernel
theorem dL_law_232 : decode cL_law 232 = .ok (.iload_n 3, 1) := by decide +kernel
theorem dL_law_233 : decode cL_law 233 = .ok (.iconst 2, 1) := by decide +kernel
theorem dL_law_234 : decode cL_law 234 = .ok (.iadd, 1) := by decide +kernel
theorem dL_law_235 : decode cL_law 235 = .ok (.iaload, 1) := by decide +kernel
theorem dL_law_236 : decode cL_law 236 = .ok (.invokevirtual 39, 3) := by decide +kernel
theorem dL_law_239 : decode cL_law 239 = .ok (.if_icmp .eq 361, 3) := by decide +kernel
theorem dL_law_242 : decode cL_law 242 = .ok (.iconst 0, 1) := by decide +kernel
theorem dL_law_243 : decode cL_law 243 = .ok (.ireturn, 1) := by decide +kernel
theorem dL_law_244 : decode cL_law 244 = .ok (.aload_n 1, 1) := by decide +kernel
theorem dL_law_245 : decode cL_law 245 = .ok (.aload_n 0, 1) := by decide +kernel
theorem dL_law_246 : decode cL_law 246 = .ok (.iload_n 3, 1) := by decide +kernel
theorem dL_law_247 : decode cL_law 247 = .ok (.iconst 1, 1) := by decide +kernel
theorem dL_law_248 : decode cL_law 248 = .ok (.iadd, 1) := by decide +kernel
theorem dL_law_249 : decode cL_law 249 = .ok (.iaload, 1) := by decide +kernel
theorem dL_law_250 : decode cL_law 250 = .ok (.aload_n 0, 1) := by decide +kernel
theorem dL_law_251 : decode cL_law 251 = .ok (.iload_n 3, 1) := by decide +kernel
theorem dL_law_252 : decode cL_law 252 = .ok (.iconst 2, 1) := by decide +kernel
theorem dL_law_253 : decode cL_law 253 = .ok (.iadd, 1) := by decide +kernel
theorem dL_law_254 : decode cL_law 254 = .ok (.iaload, 1) := by decide +kernel
theorem dL_law_255 : decode cL_law 255 = .ok (.ifCond .eq 7, 3) := by decide +kernel
theorem dL_law_258 : decode cL_law 258 = .ok (.iconst 1, 1) := by decide +kernel
theorem dL_law_259 : decode cL_law 259 = .ok (.goto 4, 3) := by decide +kernel
theorem dL_law_262 : decode cL_law 262 = .ok (.iconst 0, 1) := by decide +kernel
theorem dL_law_263 : decode cL_law 263 = .ok (.invokevirtual 40, 3) := by decide +kernel
theorem dL_law_266 : decode cL_law 266 = .ok (.aload_n 2, 1) := by decide +kernel
theorem dL_law_267 : decode cL_law 267 = .ok (.aload_n 0, 1) := by decide +kernel
theorem dL_law_268 : decode cL_law 268 = .ok (.iload_n 3, 1) := by decide +kernel
theorem dL_law_269 : decode cL_law 269 = .ok (.iconst 1, 1) := by decide +kernel
theorem dL_law_270 : decode cL_law 270 = .ok (.iadd, 1) := by decide +kernel
theorem dL_law_271 : decode cL_law 271 = .ok (.iaload, 1) := by decide +kernel
theorem dL_law_272 : decode cL_law 272 = .ok (.aload_n 0, 1) := by decide +kernel
theorem dL_law_273 : decode cL_law 273 = .ok (.iload_n 3, 1) := by decide +kernel
theorem dL_law_274 : decode cL_law 274 = .ok (.iconst 2, 1) := by decide +kernel
theorem dL_law_275 : decode cL_law 275 = .ok (.iadd, 1) := by decide +kernel
theorem dL_law_276 : decode cL_law 276 = .ok (.iaload, 1) := by decide +kernel
theorem dL_law_277 : decode cL_law 277 = .ok (.ifCond .eq 7, 3) := by decide +kernel
theorem dL_law_280 : decode cL_law 280 = .ok (.iconst 1, 1) := by decide +kernel
theorem dL_law_281 : decode cL_law 281 = .ok (.goto 4, 3) := by decide +kernel
theorem dL_law_284 : decode cL_law 284 = .ok (.iconst 0, 1) := by decide +kernel
theorem dL_law_285 : decode cL_law 285 = .ok (.invokevirtual 44, 3) := by decide +kernel
theorem dL_law_288 : decode cL_law 288 = .ok (.if_icmp .eq 312, 3) := by decide +kernel
theorem dL_law_291 : decode cL_law 291 = .ok (.iconst 0, 1) := by decide +kernel
theorem dL_law_292 : decode cL_law 292 = .ok (.ireturn, 1) := by decide +kernel
theorem dL_law_293 : decode cL_law 293 = .ok (.aload_n 1, 1) := by decide +kernel
theorem dL_law_294 : decode cL_law 294 = .ok (.aload_n 0, 1) := by decide +kernel
theorem dL_law_295 : decode cL_law 295 = .ok (.iload_n 3, 1) := by decide +kernel
theorem dL_law_296 : decode cL_law 296 = .ok (.iconst 1, 1) := by decide +kernel
theorem dL_law_297 : decode cL_law 297 = .ok (.iadd, 1) := by decide +kernel
theorem dL_law_298 : decode cL_law 298 = .ok (.iaload, 1) := by decide +kernel
theorem dL_law_299 : decode cL_law 299 = .ok (.aload_n 0, 1) := by decide +kernel
theorem dL_law_300 : decode cL_law 300 = .ok (.iload_n 3, 1) := by decide +kernel
theorem dL_law_301 : decode cL_law 301 = .ok (.iconst 2, 1) := by decide +kernel
theorem dL_law_302 : decode cL_law 302 = .ok (.iadd, 1) := by decide +kernel
theorem dL_law_303 : decode cL_law 303 = .ok (.iaload, 1) := by decide +kernel
theorem dL_law_304 : decode cL_law 304 = .ok (.aload_n 0, 1) := by decide +kernel
theorem dL_law_305 : decode cL_law 305 = .ok (.iload_n 3, 1) := by decide +kernel
theorem dL_law_306 : decode cL_law 306 = .ok (.iconst 3, 1) := by decide +kernel
theorem dL_law_307 : decode cL_law 307 = .ok (.iadd, 1) := by decide +kernel
theorem dL_law_308 : decode cL_law 308 = .ok (.iaload, 1) := by decide +kernel
theorem dL_law_309 : decode cL_law 309 = .ok (.aload_n 0, 1) := by decide +kernel
theorem dL_law_310 : decode cL_law 310 = .ok (.iload_n 3, 1) := by decide +kernel
theorem dL_law_311 : decode cL_law 311 = .ok (.iconst 4, 1) := by decide +kernel
theorem dL_law_312 : decode cL_law 312 = .ok (.iadd, 1) := by decide +kernel
theorem dL_law_313 : decode cL_law 313 = .ok (.iaload, 1) := by decide +kernel
theorem dL_law_314 : decode cL_law 314 = .ok (.ifCond .eq 7, 3) := by decide +kernel
theorem dL_law_317 : decode cL_law 317 = .ok (.iconst 1, 1) := by decide +kernel
theorem dL_law_318 : decode cL_law 318 = .ok (.goto 4, 3) := by decide +kernel
theorem dL_law_321 : decode cL_law 321 = .ok (.iconst 0, 1) := by decide +kernel
theorem dL_law_322 : decode cL_law 322 = .ok (.invokevirtual 45, 3) := by decide +kernel
theorem dL_law_325 : decode cL_law 325 = .ok (.aload_n 2, 1) := by decide +kernel
theorem dL_law_326 : decode cL_law 326 = .ok (.aload_n 0, 1) := by decide +kernel
theorem dL_law_327 : decode cL_law 327 = .ok (.iload_n 3, 1) := by decide +kernel
theorem dL_law_328 : decode cL_law 328 = .ok (.iconst 1, 1) := by decide +kernel
theorem dL_law_329 : decode cL_law 329 = .ok (.iadd, 1) := by decide +kernel
theorem dL_law_330 : decode cL_law 330 = .ok (.iaload, 1) := by decide +kernel
theorem dL_law_331 : decode cL_law 331 = .ok (.aload_n 0, 1) := by decide +kernel
theorem dL_law_332 : decode cL_law 332 = .ok (.iload_n 3, 1) := by decide +kernel
theorem dL_law_333 : decode cL_law 333 = .ok (.iconst 2, 1) := by decide +kernel
theorem dL_law_334 : decode cL_law 334 = .ok (.iadd, 1) := by decide +kernel
theorem dL_law_335 : decode cL_law 335 = .ok (.iaload, 1) := by decide +kernel
theorem dL_law_336 : decode cL_law 336 = .ok (.aload_n 0, 1) := by decide +kernel
theorem dL_law_337 : decode cL_law 337 = .ok (.iload_n 3, 1) := by decide +kernel
theorem dL_law_338 : decode cL_law 338 = .ok (.iconst 3, 1) := by decide +kernel
theorem dL_law_339 : decode cL_law 339 = .ok (.iadd, 1) := by decide +kernel
theorem dL_law_340 : decode cL_law 340 = .ok (.iaload, 1) := by decide +kernel
theorem dL_law_341 : decode cL_law 341 = .ok (.aload_n 0, 1) := by decide +kernel
theorem dL_law_342 : decode cL_law 342 = .ok (.iload_n 3, 1) := by decide +kernel
theorem dL_law_343 : decode cL_law 343 = .ok (.iconst 4, 1) := by decide +kernel
theorem dL_law_344 : decode cL_law 344 = .ok (.iadd, 1) := by decide +kernel
theorem dL_law_345 : decode cL_law 345 = .ok (.iaload, 1) := by decide +kernel
theorem dL_law_346 : decode cL_law 346 = .ok (.ifCond .eq 7, 3) := by decide +kernel
theorem dL_law_349 : decode cL_law 349 = .ok (.iconst 1, 1) := by decide +kernel
theorem dL_law_350 : decode cL_law 350 = .ok (.goto 4, 3) := by decide +kernel
theorem dL_law_353 : decode cL_law 353 = .ok (.iconst 0, 1) := by decide +kernel
theorem dL_law_354 : decode cL_law 354 = .ok (.invokevirtual 49, 3) := by decide +kernel
theorem dL_law_357 : decode cL_law 357 = .ok (.if_icmp .eq 243, 3) := by decide +kernel
theorem dL_law_360 : decode cL_law 360 = .ok (.iconst 0, 1) := by decide +kernel
theorem dL_law_361 : decode cL_law 361 = .ok (.ireturn, 1) := by decide +kernel
theorem dL_law_362 : decode cL_law 362 = .ok (.aload_n 1, 1) := by decide +kernel
theorem dL_law_363 : decode cL_law 363 = .ok (.aload_n 0, 1) := by decide +kernel
theorem dL_law_364 : decode cL_law 364 = .ok (.iload_n 3, 1) := by decide +kernel
theorem dL_law_365 : decode cL_law 365 = .ok (.iconst 1, 1) := by decide +kernel
theorem dL_law_366 : decode cL_law 366 = .ok (.iadd, 1) := by decide +kernel
theorem dL_law_367 : decode cL_law 367 = .ok (.iaload, 1) := by decide +kernel
theorem dL_law_368 : decode cL_law 368 = .ok (.aload_n 0, 1) := by decide +kernel
theorem dL_law_369 : decode cL_law 369 = .ok (.iload_n 3, 1) := by decide +kernel
theorem dL_law_370 : decode cL_law 370 = .ok (.iconst 2, 1) := by decide +kernel
theorem dL_law_371 : decode cL_law 371 = .ok (.iadd, 1) := by decide +kernel
theorem dL_law_372 : decode cL_law 372 = .ok (.iaload, 1) := by decide +kernel
theorem dL_law_373 : decode cL_law 373 = .ok (.invokevirtual 50, 3) := by decide +kernel
theorem dL_law_376 : decode cL_law 376 = .ok (.aload_n 2, 1) := by decide +kernel
theorem dL_law_377 : decode cL_law 377 = .ok (.aload_n 0, 1) := by decide +kernel
theorem dL_law_378 : decode cL_law 378 = .ok (.iload_n 3, 1) := by decide +kernel
theorem dL_law_379 : decode cL_law 379 = .ok (.iconst 1, 1) := by decide +kernel
theorem dL_law_380 : decode cL_law 380 = .ok (.iadd, 1) := by decide +kernel
theorem dL_law_381 : decode cL_law 381 = .ok (.iaload, 1) := by decide +kernel
theorem dL_law_382 : decode cL_law 382 = .ok (.aload_n 0, 1) := by decide +kernel
theorem dL_law_383 : decode cL_law 383 = .ok (.iload_n 3, 1) := by decide +kernel
theorem dL_law_384 : decode cL_law 384 = .ok (.iconst 2, 1) := by decide +kernel
theorem dL_law_385 : decode cL_law 385 = .ok (.iadd, 1) := by decide +kernel
theorem dL_law_386 : decode cL_law 386 = .ok (.iaload, 1) := by decide +kernel
theorem dL_law_387 : decode cL_law 387 = .ok (.invokevirtual 53, 3) := by decide +kernel
theorem dL_law_390 : decode cL_law 390 = .ok (.if_icmp .eq 210, 3) := by decide +kernel
theorem dL_law_393 : decode cL_law 393 = .ok (.iconst 0, 1) := by decide +kernel
theorem dL_law_394 : decode cL_law 394 = .ok (.ireturn, 1) := by decide +kernel
theorem dL_law_395 : decode cL_law 395 = .ok (.aload_n 1, 1) := by decide +kernel
theorem dL_law_396 : decode cL_law 396 = .ok (.aload_n 0, 1) := by decide +kernel
theorem dL_law_397 : decode cL_law 397 = .ok (.iload_n 3, 1) := by decide +kernel
theorem dL_law_398 : decode cL_law 398 = .ok (.iconst 1, 1) := by decide +kernel
theorem dL_law_399 : decode cL_law 399 = .ok (.iadd, 1) := by decide +kernel
theorem dL_law_400 : decode cL_law 400 = .ok (.iaload, 1) := by decide +kernel
theorem dL_law_401 : decode cL_law 401 = .ok (.aload_n 0, 1) := by decide +kernel
theorem dL_law_402 : decode cL_law 402 = .ok (.iload_n 3, 1) := by decide +kernel
theorem dL_law_403 : decode cL_law 403 = .ok (.iconst 2, 1) := by decide +kernel
theorem dL_law_404 : decode cL_law 404 = .ok (.iadd, 1) := by decide +kernel
theorem dL_law_405 : decode cL_law 405 = .ok (.iaload, 1) := by decide +kernel
theorem dL_law_406 : decode cL_law 406 = .ok (.invokevirtual 54, 3) := by decide +kernel
theorem dL_law_409 : decode cL_law 409 = .ok (.aload_n 2, 1) := by decide +kernel
theorem dL_law_410 : decode cL_law 410 = .ok (.aload_n 0, 1) := by decide +kernel
theorem dL_law_411 : decode cL_law 411 = .ok (.iload_n 3, 1) := by decide +kernel
theorem dL_law_412 : decode cL_law 412 = .ok (.iconst 1, 1) := by decide +kernel
theorem dL_law_413 : decode cL_law 413 = .ok (.iadd, 1) := by decide +kernel
theorem dL_law_414 : decode cL_law 414 = .ok (.iaload, 1) := by decide +kernel
theorem dL_law_415 : decode cL_law 415 = .ok (.aload_n 0, 1) := by decide +kernel
theorem dL_law_416 : decode cL_law 416 = .ok (.iload_n 3, 1) := by decide +kernel
theorem dL_law_417 : decode cL_law 417 = .ok (.iconst 2, 1) := by decide +kernel
theorem dL_law_418 : decode cL_law 418 = .ok (.iadd, 1) := by decide +kernel
theorem dL_law_419 : decode cL_law 419 = .ok (.iaload, 1) := by decide +kernel
theorem dL_law_420 : decode cL_law 420 = .ok (.invokevirtual 57, 3) := by decide +kernel
theorem dL_law_423 : decode cL_law 423 = .ok (.if_icmp .eq 177, 3) := by decide +kernel
theorem dL_law_426 : decode cL_law 426 = .ok (.iconst 0, 1) := by decide +kernel
theorem dL_law_427 : decode cL_law 427 = .ok (.ireturn, 1) := by decide +kernel
theorem dL_law_428 : decode cL_law 428 = .ok (.aload_n 1, 1) := by decide +kernel
theorem dL_law_429 : decode cL_law 429 = .ok (.aload_n 0, 1) := by decide +kernel
theorem dL_law_430 : decode cL_law 430 = .ok (.iload_n 3, 1) := by decide +kernel
theorem dL_law_431 : decode cL_law 431 = .ok (.iconst 1, 1) := by decide +kernel
theorem dL_law_432 : decode cL_law 432 = .ok (.iadd, 1) := by decide +kernel
theorem dL_law_433 : decode cL_law 433 = .ok (.iaload, 1) := by decide +kernel
theorem dL_law_434 : decode cL_law 434 = .ok (.aload_n 0, 1) := by decide +kernel
theorem dL_law_435 : decode cL_law 435 = .ok (.iload_n 3, 1) := by decide +kernel
theorem dL_law_436 : decode cL_law 436 = .ok (.iconst 2, 1) := by decide +kernel
theorem dL_law_437 : decode cL_law 437 = .ok (.iadd, 1) := by decide +kernel
theorem dL_law_438 : decode cL_law 438 = .ok (.iaload, 1) := by decide +kernel
theorem dL_law_439 : decode cL_law 439 = .ok (.invokevirtual 58, 3) := by decide +kernel
theorem dL_law_442 : decode cL_law 442 = .ok (.aload_n 2, 1) := by decide +kernel
theorem dL_law_443 : decode cL_law 443 = .ok (.aload_n 0, 1) := by decide +kernel
theorem dL_law_444 : decode cL_law 444 = .ok (.iload_n 3, 1) := by decide +kernel
theorem dL_law_445 : decode cL_law 445 = .ok (.iconst 1, 1) := by decide +kernel
theorem dL_law_446 : decode cL_law 446 = .ok (.iadd, 1) := by decide +kernel
theorem dL_law_447 : decode cL_law 447 = .ok (.iaload, 1) := by decide +kernel
theorem dL_law_448 : decode cL_law 448 = .ok (.aload_n 0, 1) := by decide +kernel
theorem dL_law_449 : decode cL_law 449 = .ok (.iload_n 3, 1) := by decide +kernel
theorem dL_law_450 : decode cL_law 450 = .ok (.iconst 2, 1) := by decide +kernel
theorem dL_law_451 : decode cL_law 451 = .ok (.iadd, 1) := by decide +kernel
theorem dL_law_452 : decode cL_law 452 = .ok (.iaload, 1) := by decide +kernel
theorem dL_law_453 : decode cL_law 453 = .ok (.invokevirtual 61, 3) := by decide +kernel
theorem dL_law_456 : decode cL_law 456 = .ok (.if_icmp .eq 144, 3) := by decide +kernel
theorem dL_law_459 : decode cL_law 459 = .ok (.iconst 0, 1) := by decide +kernel
theorem dL_law_460 : decode cL_law 460 = .ok (.ireturn, 1) := by decide +kernel
theorem dL_law_461 : decode cL_law 461 = .ok (.aload_n 1, 1) := by decide +kernel
theorem dL_law_462 : decode cL_law 462 = .ok (.aload_n 0, 1) := by decide +kernel
theorem dL_law_463 : decode cL_law 463 = .ok (.iload_n 3, 1) := by decide +kernel
theorem dL_law_464 : decode cL_law 464 = .ok (.iconst 1, 1) := by decide +kernel
theorem dL_law_465 : decode cL_law 465 = .ok (.iadd, 1) := by decide +kernel
theorem dL_law_466 : decode cL_law 466 = .ok (.iaload, 1) := by decide +kernel
theorem dL_law_467 : decode cL_law 467 = .ok (.invokevirtual 62, 3) := by decide +kernel
theorem dL_law_470 : decode cL_law 470 = .ok (.aload_n 2, 1) := by decide +kernel
theorem dL_law_471 : decode cL_law 471 = .ok (.aload_n 0, 1) := by decide +kernel
theorem dL_law_472 : decode cL_law 472 = .ok (.iload_n 3, 1) := by decide +kernel
theorem dL_law_473 : decode cL_law 473 = .ok (.iconst 1, 1) := by decide +kernel
theorem dL_law_474 : decode cL_law 474 = .ok (.iadd, 1) := by decide +kernel
theorem dL_law_475 : decode cL_law 475 = .ok (.iaload, 1) := by decide +kernel
theorem dL_law_476 : decode cL_law 476 = .ok (.invokevirtual 65, 3) := by decide +kernel
theorem dL_law_479 : decode cL_law 479 = .ok (.if_icmp .eq 121, 3) := by decide +kernel
theorem dL_law_482 : decode cL_law 482 = .ok (.iconst 0, 1) := by decide +kernel
theorem dL_law_483 : decode cL_law 483 = .ok (.ireturn, 1) := by decide +kernel
theorem dL_law_484 : decode cL_law 484 = .ok (.aload_n 1, 1) := by decide +kernel
theorem dL_law_485 : decode cL_law 485 = .ok (.aload_n 0, 1) := by decide +kernel
theorem dL_law_486 : decode cL_law 486 = .ok (.iload_n 3, 1) := by decide +kernel
theorem dL_law_487 : decode cL_law 487 = .ok (.iconst 1, 1) := by decide +kernel
theorem dL_law_488 : decode cL_law 488 = .ok (.iadd, 1) := by decide +kernel
theorem dL_law_489 : decode cL_law 489 = .ok (.iaload, 1) := by decide +kernel
theorem dL_law_490 : decode cL_law 490 = .ok (.invokevirtual 66, 3) := by decide +kernel
theorem dL_law_493 : decode cL_law 493 = .ok (.aload_n 2, 1) := by decide +kernel
theorem dL_law_494 : decode cL_law 494 = .ok (.aload_n 0, 1) := by decide +kernel
theorem dL_law_495 : decode cL_law 495 = .ok (.iload_n 3, 1) := by decide +kernel
theorem dL_law_496 : decode cL_law 496 = .ok (.iconst 1, 1) := by decide +kernel
theorem dL_law_497 : decode cL_law 497 = .ok (.iadd, 1) := by decide +kernel
theorem dL_law_498 : decode cL_law 498 = .ok (.iaload, 1) := by decide +kernel
theorem dL_law_499 : decode cL_law 499 = .ok (.invokevirtual 69, 3) := by decide +kernel
theorem dL_law_502 : decode cL_law 502 = .ok (.if_icmp .eq 98, 3) := by decide +kernel
theorem dL_law_505 : decode cL_law 505 = .ok (.iconst 0, 1) := by decide +kernel
theorem dL_law_506 : decode cL_law 506 = .ok (.ireturn, 1) := by decide +kernel
theorem dL_law_507 : decode cL_law 507 = .ok (.aload_n 1, 1) := by decide +kernel
theorem dL_law_508 : decode cL_law 508 = .ok (.aload_n 0, 1) := by decide +kernel
theorem dL_law_509 : decode cL_law 509 = .ok (.iload_n 3, 1) := by decide +kernel
theorem dL_law_510 : decode cL_law 510 = .ok (.iconst 1, 1) := by decide +kernel
theorem dL_law_511 : decode cL_law 511 = .ok (.iadd, 1) := by decide +kernel
theorem dL_law_512 : decode cL_law 512 = .ok (.iaload, 1) := by decide +kernel
theorem dL_law_513 : decode cL_law 513 = .ok (.aload_n 0, 1) := by decide +kernel
theorem dL_law_514 : decode cL_law 514 = .ok (.iload_n 3, 1) := by decide +kernel
theorem dL_law_515 : decode cL_law 515 = .ok (.iconst 2, 1) := by decide +kernel
theorem dL_law_516 : decode cL_law 516 = .ok (.iadd, 1) := by decide +kernel
theorem dL_law_517 : decode cL_law 517 = .ok (.iaload, 1) := by decide +kernel
theorem dL_law_518 : decode cL_law 518 = .ok (.invokevirtual 70, 3) := by decide +kernel
theorem dL_law_521 : decode cL_law 521 = .ok (.aload_n 2, 1) := by decide +kernel
theorem dL_law_522 : decode cL_law 522 = .ok (.aload_n 0, 1) := by decide +kernel
theorem dL_law_523 : decode cL_law 523 = .ok (.iload_n 3, 1) := by decide +kernel
theorem dL_law_524 : decode cL_law 524 = .ok (.iconst 1, 1) := by decide +kernel
theorem dL_law_525 : decode cL_law 525 = .ok (.iadd, 1) := by decide +kernel
theorem dL_law_526 : decode cL_law 526 = .ok (.iaload, 1) := by decide +kernel
theorem dL_law_527 : decode cL_law 527 = .ok (.aload_n 0, 1) := by decide +kernel
theorem dL_law_528 : decode cL_law 528 = .ok (.iload_n 3, 1) := by decide +kernel
theorem dL_law_529 : decode cL_law 529 = .ok (.iconst 2, 1) := by decide +kernel
theorem dL_law_530 : decode cL_law 530 = .ok (.iadd, 1) := by decide +kernel
theorem dL_law_531 : decode cL_law 531 = .ok (.iaload, 1) := by decide +kernel
theorem dL_law_532 : decode cL_law 532 = .ok (.invokevirtual 73, 3) := by decide +kernel
theorem dL_law_535 : decode cL_law 535 = .ok (.if_icmp .eq 65, 3) := by decide +kernel
theorem dL_law_538 : decode cL_law 538 = .ok (.iconst 0, 1) := by decide +kernel
theorem dL_law_539 : decode cL_law 539 = .ok (.ireturn, 1) := by decide +kernel
theorem dL_law_540 : decode cL_law 540 = .ok (.aload_n 1, 1) := by decide +kernel
theorem dL_law_541 : decode cL_law 541 = .ok (.aload_n 0, 1) := by decide +kernel
theorem dL_law_542 : decode cL_law 542 = .ok (.iload_n 3, 1) := by decide +kernel
theorem dL_law_543 : decode cL_law 543 = .ok (.iconst 1, 1) := by decide +kernel
theorem dL_law_544 : decode cL_law 544 = .ok (.iadd, 1) := by decide +kernel
theorem dL_law_545 : decode cL_law 545 = .ok (.iaload, 1) := by decide +kernel
theorem dL_law_546 : decode cL_law 546 = .ok (.invokevirtual 74, 3) := by decide +kernel
theorem dL_law_549 : decode cL_law 549 = .ok (.aload_n 2, 1) := by decide +kernel
theorem dL_law_550 : decode cL_law 550 = .ok (.aload_n 0, 1) := by decide +kernel
theorem dL_law_551 : decode cL_law 551 = .ok (.iload_n 3, 1) := by decide +kernel
theorem dL_law_552 : decode cL_law 552 = .ok (.iconst 1, 1) := by decide +kernel
theorem dL_law_553 : decode cL_law 553 = .ok (.iadd, 1) := by decide +kernel
theorem dL_law_554 : decode cL_law 554 = .ok (.iaload, 1) := by decide +kernel
theorem dL_law_555 : decode cL_law 555 = .ok (.invokevirtual 77, 3) := by decide +kernel
theorem dL_law_558 : decode cL_law 558 = .ok (.if_icmp .eq 42, 3) := by decide +kernel
theorem dL_law_561 : decode cL_law 561 = .ok (.iconst 0, 1) := by decide +kernel
theorem dL_law_562 : decode cL_law 562 = .ok (.ireturn, 1) := by decide +kernel
theorem dL_law_563 : decode cL_law 563 = .ok (.aload_n 1, 1) := by decide +kernel
theorem dL_law_564 : decode cL_law 564 = .ok (.aload_n 0, 1) := by decide +kernel
theorem dL_law_565 : decode cL_law 565 = .ok (.iload_n 3, 1) := by decide +kernel
theorem dL_law_566 : decode cL_law 566 = .ok (.iconst 1, 1) := by decide +kernel
theorem dL_law_567 : decode cL_law 567 = .ok (.iadd, 1) := by decide +kernel
theorem dL_law_568 : decode cL_law 568 = .ok (.iaload, 1) := by decide +kernel
theorem dL_law_569 : decode cL_law 569 = .ok (.invokevirtual 78, 3) := by decide +kernel
theorem dL_law_572 : decode cL_law 572 = .ok (.aload_n 2, 1) := by decide +kernel
theorem dL_law_573 : decode cL_law 573 = .ok (.aload_n 0, 1) := by decide +kernel
theorem dL_law_574 : decode cL_law 574 = .ok (.iload_n 3, 1) := by decide +kernel
theorem dL_law_575 : decode cL_law 575 = .ok (.iconst 1, 1) := by decide +kernel
theorem dL_law_576 : decode cL_law 576 = .ok (.iadd, 1) := by decide +kernel
theorem dL_law_577 : decode cL_law 577 = .ok (.iaload, 1) := by decide +kernel
theorem dL_law_578 : decode cL_law 578 = .ok (.invokevirtual 81, 3) := by decide +kernel
theorem dL_law_581 : decode cL_law 581 = .ok (.if_icmp .eq 19, 3) := by decide +kernel
theorem dL_law_584 : decode cL_law 584 = .ok (.iconst 0, 1) := by decide +kernel
theorem dL_law_585 : decode cL_law 585 = .ok (.ireturn, 1) := by decide +kernel
theorem dL_law_586 : decode cL_law 586 = .ok (.aload_n 1, 1) := by decide +kernel
theorem dL_law_587 : decode cL_law 587 = .ok (.invokevirtual 82, 3) := by decide +kernel
theorem dL_law_590 : decode cL_law 590 = .ok (.aload_n 2, 1) := by decide +kernel
theorem dL_law_591 : decode cL_law 591 = .ok (.invokevirtual 86, 3) := by decide +kernel
theorem dL_law_594 : decode cL_law 594 = .ok (.lcmp, 1) := by decide +kernel
theorem dL_law_595 : decode cL_law 595 = .ok (.ifCond .eq 5, 3) := by decide +kernel
theorem dL_law_598 : decode cL_law 598 = .ok (.iconst 0, 1) := by decide +kernel
theorem dL_law_599 : decode cL_law 599 = .ok (.ireturn, 1) := by decide +kernel
theorem dL_law_600 : decode cL_law 600 = .ok (.iinc 3 5, 3) := by decide +kernel
theorem dL_law_603 : decode cL_law 603 = .ok (.goto (-585), 3) := by decide +kernel
theorem dL_law_606 : decode cL_law 606 = .ok (.iconst 1, 1) := by decide +kernel
theorem dL_law_607 : decode cL_law 607 = .ok (.ireturn, 1) := by decide +kernel
end
section
def bpW : List Cond := lw_tbl.filter goodWord
theorem wd_in {w : Cond} (h : w ∈ lw_tbl) (g : goodWord w = true) : w ∈ bpW := List.mem_filter.mpr ⟨h, g⟩
theorem wd_out {w : Cond} (h : w ∈ bpW) : w ∈ lw_tbl := (List.mem_filter.mp h).1
theorem wse_X1_fits : Cond.selects RX1 yX1_fits yX1_fits ∈ bpW := wd_in (List.mem_of_getElem? (i := 0) (by decide +kernel)) rfl
theorem wse_X4_changeWidth : Cond.selects RX4 yX4_changeWidth yX4_changeWidth ∈ bpW := wd_in (List.mem_of_getElem? (i := 1) (by decide +kernel)) rfl
theorem wse_X4_chooseAll : Cond.selects RX4 yX4_chooseAll yX4_chooseAll ∈ bpW := wd_in (List.mem_of_getElem? (i := 2) (by decide +kernel)) rfl
theorem wse_X4_chooseOfKey : Cond.selects RX4 yX4_chooseOfKey yX4_chooseOfKey ∈ bpW := wd_in (List.mem_of_getElem? (i := 3) (by decide +kernel)) rfl
theorem wse_X4_leadOf : Cond.selects RX4 yX4_leadOf yX4_leadOf ∈ bpW := wd_in (List.mem_of_getElem? (i := 4) (by decide +kernel)) rfl
theorem wse_X4_isAhead : Cond.selects RX4 yX4_isAhead yX4_isAhead ∈ bpW := wd_in (List.mem_of_getElem? (i := 5) (by decide +kernel)) rfl
theorem wse_X4_choiceOf : Cond.selects RX4 yX4_choiceOf yX4_choiceOf ∈ bpW := wd_in (List.mem_of_getElem? (i := 6) (by decide +kernel)) rfl
theorem wse_X4_isPort : Cond.selects RX4 yX4_isPort yX4_isPort ∈ bpW := wd_in (List.mem_of_getElem? (i := 7) (by decide +kernel)) rfl
theorem wse_X4_changeWait : Cond.selects RX4 yX4_changeWait yX4_changeWait ∈ bpW := wd_in (List.mem_of_getElem? (i := 8) (by decide +kernel)) rfl
theorem wse_X4_changeShift : Cond.selects RX4 yX4_changeShift yX4_changeShift ∈ bpW := wd_in (List.mem_of_getElem? (i := 9) (by decide +kernel)) rfl
theorem wse_X4_dropQueue : Cond.selects RX4 yX4_dropQueue yX4_dropQueue ∈ bpW := wd_in (List.mem_of_getElem? (i := 10) (by decide +kernel)) rfl
theorem wse_X4_answerMarker : Cond.selects RX4 yX4_answerMarker yX4_answerMarker ∈ bpW := wd_in (List.mem_of_getElem? (i := 11) (by decide +kernel)) rfl
theorem wse_X4_wayOf : Cond.selects RX4 yX4_wayOf yX4_wayOf ∈ bpW := wd_in (List.mem_of_getElem? (i := 12) (by decide +kernel)) rfl
theorem wse_X4_bitsOf : Cond.selects RX4 yX4_bitsOf yX4_bitsOf ∈ bpW := wd_in (List.mem_of_getElem? (i := 13) (by decide +kernel)) rfl
theorem wse_X4_howItIs : Cond.selects RX4 yX4_howItIs yX4_howItIs ∈ bpW := wd_in (List.mem_of_getElem? (i := 14) (by decide +kernel)) rfl
theorem wse_X4_putLetter : Cond.selects RX4 yX4_putLetter yX4_putLetter ∈ bpW := wd_in (List.mem_of_getElem? (i := 15) (by decide +kernel)) rfl
theorem wse_X4_carries : Cond.selects RX4 yX4_carries yX4_carries ∈ bpW := wd_in (List.mem_of_getElem? (i := 16) (by decide +kernel)) rfl
theorem wse_X4_hasLettersBehind : Cond.selects RX4 yX4_hasLettersBehind yX4_hasLettersBehind ∈ bpW := wd_in (List.mem_of_getElem? (i := 17) (by decide +kernel)) rfl
theorem wse_X4_startMoving : Cond.selects RX4 yX4_startMoving yX4_startMoving ∈ bpW := wd_in (List.mem_of_getElem? (i := 18) (by decide +kernel)) rfl
theorem wse_X4_sumOverFlows : Cond.selects RX4 yX4_sumOverFlows yX4_sumOverFlows ∈ bpW := wd_in (List.mem_of_getElem? (i := 19) (by decide +kernel)) rfl
theorem wse_X4_passTick : Cond.selects RX4 yX4_passTick yX4_passTick ∈ bpW := wd_in (List.mem_of_getElem? (i := 20) (by decide +kernel)) rfl
theorem wse_X4_letFirstOut : Cond.selects RX4 yX4_letFirstOut yX4_letFirstOut ∈ bpW := wd_in (List.mem_of_getElem? (i := 21) (by decide +kernel)) rfl
theorem wse_X4_digestPort : Cond.selects RX4 yX4_digestPort yX4_digestPort ∈ bpW := wd_in (List.mem_of_getElem? (i := 22) (by decide +kernel)) rfl
theorem wse_X5_clearFlows : Cond.selects RX5 yX5_clearFlows yX5_clearFlows ∈ bpW := wd_in (List.mem_of_getElem? (i := 23) (by decide +kernel)) rfl
theorem wse_X5_rightLetters : Cond.selects RX5 yX5_rightLetters yX5_rightLetters ∈ bpW := wd_in (List.mem_of_getElem? (i := 24) (by decide +kernel)) rfl
theorem wse_X5_isRight : Cond.selects RX5 yX5_isRight yX5_isRight ∈ bpW := wd_in (List.mem_of_getElem? (i := 25) (by decide +kernel)) rfl
theorem wse_X5_forget : Cond.selects RX5 yX5_forget yX5_forget ∈ bpW := wd_in (List.mem_of_getElem? (i := 26) (by decide +kernel)) rfl
theorem wse_X5_toldNow : Cond.selects RX5 yX5_toldNow yX5_toldNow ∈ bpW := wd_in (List.mem_of_getElem? (i := 27) (by decide +kernel)) rfl
theorem wse_X5_settle : Cond.selects RX5 yX5_settle yX5_settle ∈ bpW := wd_in (List.mem_of_getElem? (i := 28) (by decide +kernel)) rfl
theorem wse_X5_stateOf : Cond.selects RX5 yX5_stateOf yX5_stateOf ∈ bpW := wd_in (List.mem_of_getElem? (i := 29) (by decide +kernel)) rfl
theorem wse_X5_placeOf : Cond.selects RX5 yX5_placeOf yX5_placeOf ∈ bpW := wd_in (List.mem_of_getElem? (i := 30) (by decide +kernel)) rfl
theorem wse_X5_leadOf : Cond.selects RX5 yX5_leadOf yX5_leadOf ∈ bpW := wd_in (List.mem_of_getElem? (i := 31) (by decide +kernel)) rfl
theorem wse_X5_isAhead : Cond.selects RX5 yX5_isAhead yX5_isAhead ∈ bpW := wd_in (List.mem_of_getElem? (i := 32) (by decide +kernel)) rfl
theorem wse_X5_areAlike : Cond.selects RX5 yX5_areAlike yX5_areAlike ∈ bpW := wd_in (List.mem_of_getElem? (i := 33) (by decide +kernel)) rfl
theorem wse_X5_isPort : Cond.selects RX5 yX5_isPort yX5_isPort ∈ bpW := wd_in (List.mem_of_getElem? (i := 34) (by decide +kernel)) rfl
theorem wse_X5_empty : Cond.selects RX5 yX5_empty yX5_empty ∈ bpW := wd_in (List.mem_of_getElem? (i := 35) (by decide +kernel)) rfl
theorem wse_X5_answer : Cond.selects RX5 yX5_answer yX5_answer ∈ bpW := wd_in (List.mem_of_getElem? (i := 36) (by decide +kernel)) rfl
theorem wse_X5_wayOf : Cond.selects RX5 yX5_wayOf yX5_wayOf ∈ bpW := wd_in (List.mem_of_getElem? (i := 37) (by decide +kernel)) rfl
theorem wse_X5_bitsOf : Cond.selects RX5 yX5_bitsOf yX5_bitsOf ∈ bpW := wd_in (List.mem_of_getElem? (i := 38) (by decide +kernel)) rfl
theorem wse_X5_comes : Cond.selects RX5 yX5_comes yX5_comes ∈ bpW := wd_in (List.mem_of_getElem? (i := 39) (by decide +kernel)) rfl
theorem wse_X5_lay : Cond.selects RX5 yX5_lay yX5_lay ∈ bpW := wd_in (List.mem_of_getElem? (i := 40) (by decide +kernel)) rfl
theorem wse_X5_portNow : Cond.selects RX5 yX5_portNow yX5_portNow ∈ bpW := wd_in (List.mem_of_getElem? (i := 41) (by decide +kernel)) rfl
theorem wse_X5_queueNow : Cond.selects RX5 yX5_queueNow yX5_queueNow ∈ bpW := wd_in (List.mem_of_getElem? (i := 42) (by decide +kernel)) rfl
theorem wse_X5_keyNow : Cond.selects RX5 yX5_keyNow yX5_keyNow ∈ bpW := wd_in (List.mem_of_getElem? (i := 43) (by decide +kernel)) rfl
theorem wse_X5_sendNow : Cond.selects RX5 yX5_sendNow yX5_sendNow ∈ bpW := wd_in (List.mem_of_getElem? (i := 44) (by decide +kernel)) rfl
theorem wse_X5_holds : Cond.selects RX5 yX5_holds yX5_holds ∈ bpW := wd_in (List.mem_of_getElem? (i := 45) (by decide +kernel)) rfl
theorem wse_X5_hasLetter : Cond.selects RX5 yX5_hasLetter yX5_hasLetter ∈ bpW := wd_in (List.mem_of_getElem? (i := 46) (by decide +kernel)) rfl
theorem wse_X5_flowNow : Cond.selects RX5 yX5_flowNow yX5_flowNow ∈ bpW := wd_in (List.mem_of_getElem? (i := 47) (by decide +kernel)) rfl
theorem wse_X5_tickNow : Cond.selects RX5 yX5_tickNow yX5_tickNow ∈ bpW := wd_in (List.mem_of_getElem? (i := 48) (by decide +kernel)) rfl
theorem wse_X5_hearLess : Cond.selects RX5 yX5_hearLess yX5_hearLess ∈ bpW := wd_in (List.mem_of_getElem? (i := 49) (by decide +kernel)) rfl
theorem wse_X5_waitMore : Cond.selects RX5 yX5_waitMore yX5_waitMore ∈ bpW := wd_in (List.mem_of_getElem? (i := 50) (by decide +kernel)) rfl
theorem wse_X5_goesOut : Cond.selects RX5 yX5_goesOut yX5_goesOut ∈ bpW := wd_in (List.mem_of_getElem? (i := 51) (by decide +kernel)) rfl
theorem wse_X5_howMany : Cond.selects RX5 yX5_howMany yX5_howMany ∈ bpW := wd_in (List.mem_of_getElem? (i := 52) (by decide +kernel)) rfl
theorem wse_X5_sumOf : Cond.selects RX5 yX5_sumOf yX5_sumOf ∈ bpW := wd_in (List.mem_of_getElem? (i := 53) (by decide +kernel)) rfl
theorem wse_X5_mixPorts : Cond.selects RX5 yX5_mixPorts yX5_mixPorts ∈ bpW := wd_in (List.mem_of_getElem? (i := 54) (by decide +kernel)) rfl
theorem wse_X5_mix : Cond.selects RX5 yX5_mix yX5_mix ∈ bpW := wd_in (List.mem_of_getElem? (i := 55) (by decide +kernel)) rfl
theorem wse_X5_mixFlows : Cond.selects RX5 yX5_mixFlows yX5_mixFlows ∈ bpW := wd_in (List.mem_of_getElem? (i := 56) (by decide +kernel)) rfl
theorem win_L : Cond.initialized RL ∈ bpW := wd_in (List.mem_of_getElem? (i := 57) (by decide +kernel)) rfl
theorem win_X4 : Cond.initialized RX4 ∈ bpW := wd_in (List.mem_of_getElem? (i := 58) (by decide +kernel)) rfl
theorem win_X1 : Cond.initialized RX1 ∈ bpW := wd_in (List.mem_of_getElem? (i := 59) (by decide +kernel)) rfl
theorem win_X2 : Cond.initialized RX2 ∈ bpW := wd_in (List.mem_of_getElem? (i := 60) (by decide +kernel)) rfl
theorem win_X3 : Cond.initialized RX3 ∈ bpW := wd_in (List.mem_of_getElem? (i := 61) (by decide +kernel)) rfl
theorem win_X0 : Cond.initialized RX0 ∈ bpW := wd_in (List.mem_of_getElem? (i := 62) (by decide +kernel)) rfl
theorem win_X5 : Cond.initialized RX5 ∈ bpW := wd_in (List.mem_of_getElem? (i := 63) (by decide +kernel)) rfl
theorem win_J6 : Cond.initialized RJ6 ∈ bpW := wd_in (List.mem_of_getElem? (i := 64) (by decide +kernel)) rfl
theorem wcl_L_7 : Cond.classLink RL 7 RX4 ∈ bpW := wd_in (List.mem_of_getElem? (i := 65) (by decide +kernel)) rfl
theorem wis_X4 : Cond.instantiable RX4 10 ∈ bpW := wd_in (List.mem_of_getElem? (i := 66) (by decide +kernel)) rfl
theorem wml_L_9 : Cond.methodLink RL 9 yX4_init ∈ bpW := wd_in (List.mem_of_getElem? (i := 67) (by decide +kernel)) rfl
theorem wim_X4_init : Cond.instanceMethod yX4_init ∈ bpW := wd_in (List.mem_of_getElem? (i := 68) (by decide +kernel)) rfl
theorem wcd_X4_init : Cond.code yX4_init cX4_init 2 none ∈ bpW := wd_in (List.mem_of_getElem? (i := 69) (by decide +kernel)) rfl
theorem wml_X4_1 : Cond.methodLink RX4 1 objectInit ∈ bpW := wd_in (List.mem_of_getElem? (i := 70) (by decide +kernel)) rfl
theorem wim_obj : Cond.instanceMethod objectInit ∈ bpW := wd_in (List.mem_of_getElem? (i := 71) (by decide +kernel)) rfl
theorem wcd_obj : Cond.code objectInit ⟨#[0xb1]⟩ 1 none ∈ bpW := wd_in (List.mem_of_getElem? (i := 72) (by decide +kernel)) rfl
theorem wcl_X4_7 : Cond.classLink RX4 7 RX1 ∈ bpW := wd_in (List.mem_of_getElem? (i := 73) (by decide +kernel)) rfl
theorem wis_X1 : Cond.instantiable RX1 2 ∈ bpW := wd_in (List.mem_of_getElem? (i := 74) (by decide +kernel)) rfl
theorem wmn_X4_9 : Cond.methodLinkNest RX4 9 yX1_init RX4 ∈ lw_tbl := List.mem_of_getElem? (i := 75) (by decide +kernel)
theorem wim_X1_init : Cond.instanceMethod yX1_init ∈ bpW := wd_in (List.mem_of_getElem? (i := 76) (by decide +kernel)) rfl
theorem wcd_X1_init : Cond.code yX1_init cX1_init 1 none ∈ bpW := wd_in (List.mem_of_getElem? (i := 77) (by decide +kernel)) rfl
theorem wml_X1_3 : Cond.methodLink RX1 3 objectInit ∈ bpW := wd_in (List.mem_of_getElem? (i := 78) (by decide +kernel)) rfl
theorem wfl_X1_9 : Cond.fieldLink RX1 9 "BoundPorts$Page" "codes" "[I" ∈ bpW := wd_in (List.mem_of_getElem? (i := 79) (by decide +kernel)) rfl
theorem wfl_X1_15 : Cond.fieldLink RX1 15 "BoundPorts$Page" "size" "I" ∈ bpW := wd_in (List.mem_of_getElem? (i := 80) (by decide +kernel)) rfl
theorem wfl_X4_56 : Cond.fieldLink RX4 56 "BoundPorts$Page" "size" "I" ∈ bpW := wd_in (List.mem_of_getElem? (i := 81) (by decide +kernel)) rfl
theorem wac_int : Cond.arrayClass .int ∈ bpW := wd_in (List.mem_of_getElem? (i := 87) (by decide +kernel)) rfl
theorem wcl_X4_16 : Cond.classLink RX4 16 RX2 ∈ bpW := wd_in (List.mem_of_getElem? (i := 88) (by decide +kernel)) rfl
theorem wao_Port : Cond.arrayOver (.object "BoundPorts$Port") ∈ lw_tbl := List.mem_of_getElem? (i := 89) (by decide +kernel)
theorem wcl_X4_22 : Cond.classLink RX4 22 RX0 ∈ bpW := wd_in (List.mem_of_getElem? (i := 90) (by decide +kernel)) rfl
theorem wao_Flow : Cond.arrayOver (.object "BoundPorts$Flow") ∈ lw_tbl := List.mem_of_getElem? (i := 91) (by decide +kernel)
theorem wis_X2 : Cond.instantiable RX2 11 ∈ bpW := wd_in (List.mem_of_getElem? (i := 92) (by decide +kernel)) rfl
theorem wmn_X4_50 : Cond.methodLinkNest RX4 50 yX2_init RX4 ∈ lw_tbl := List.mem_of_getElem? (i := 93) (by decide +kernel)
theorem wim_X2_init : Cond.instanceMethod yX2_init ∈ bpW := wd_in (List.mem_of_getElem? (i := 94) (by decide +kernel)) rfl
theorem wcd_X2_init : Cond.code yX2_init cX2_init 1 none ∈ bpW := wd_in (List.mem_of_getElem? (i := 95) (by decide +kernel)) rfl
theorem wml_X2_3 : Cond.methodLink RX2 3 objectInit ∈ bpW := wd_in (List.mem_of_getElem? (i := 96) (by decide +kernel)) rfl
theorem wcl_X2_9 : Cond.classLink RX2 9 RX3 ∈ bpW := wd_in (List.mem_of_getElem? (i := 97) (by decide +kernel)) rfl
theorem wis_X3 : Cond.instantiable RX3 3 ∈ bpW := wd_in (List.mem_of_getElem? (i := 98) (by decide +kernel)) rfl
theorem wmn_X2_11 : Cond.methodLinkNest RX2 11 yX3_init RX4 ∈ lw_tbl := List.mem_of_getElem? (i := 99) (by decide +kernel)
theorem wim_X3_init : Cond.instanceMethod yX3_init ∈ bpW := wd_in (List.mem_of_getElem? (i := 100) (by decide +kernel)) rfl
theorem wcd_X3_init : Cond.code yX3_init cX3_init 1 none ∈ bpW := wd_in (List.mem_of_getElem? (i := 101) (by decide +kernel)) rfl
theorem wml_X3_3 : Cond.methodLink RX3 3 objectInit ∈ bpW := wd_in (List.mem_of_getElem? (i := 102) (by decide +kernel)) rfl
theorem wfl_X3_11 : Cond.fieldLink RX3 11 "BoundPorts$Queue" "flowRow" "[I" ∈ bpW := wd_in (List.mem_of_getElem? (i := 103) (by decide +kernel)) rfl
theorem wfl_X3_15 : Cond.fieldLink RX3 15 "BoundPorts$Queue" "numberRow" "[I" ∈ bpW := wd_in (List.mem_of_getElem? (i := 104) (by decide +kernel)) rfl
theorem wfl_X3_18 : Cond.fieldLink RX3 18 "BoundPorts$Queue" "size" "I" ∈ bpW := wd_in (List.mem_of_getElem? (i := 105) (by decide +kernel)) rfl
theorem wfl_X2_50 : Cond.fieldLink RX2 50 "BoundPorts$Queue" "size" "I" ∈ bpW := wd_in (List.mem_of_getElem? (i := 106) (by decide +kernel)) rfl
theorem wfl_X4_153 : Cond.fieldLink RX4 153 "BoundPorts$Queue" "size" "I" ∈ bpW := wd_in (List.mem_of_getElem? (i := 107) (by decide +kernel)) rfl
theorem wfl_X2_12 : Cond.fieldLink RX2 12 "BoundPorts$Port" "queue" "LBoundPorts$Queue;" ∈ bpW := wd_in (List.mem_of_getElem? (i := 115) (by decide +kernel)) rfl
theorem wfl_X4_112 : Cond.fieldLink RX4 112 "BoundPorts$Port" "queue" "LBoundPorts$Queue;" ∈ bpW := wd_in (List.mem_of_getElem? (i := 116) (by decide +kernel)) rfl
theorem wfl_X2_18 : Cond.fieldLink RX2 18 "BoundPorts$Port" "key" "I" ∈ bpW := wd_in (List.mem_of_getElem? (i := 117) (by decide +kernel)) rfl
theorem wfl_X4_131 : Cond.fieldLink RX4 131 "BoundPorts$Port" "key" "I" ∈ bpW := wd_in (List.mem_of_getElem? (i := 118) (by decide +kernel)) rfl
theorem wfl_X2_22 : Cond.fieldLink RX2 22 "BoundPorts$Port" "rank" "I" ∈ bpW := wd_in (List.mem_of_getElem? (i := 119) (by decide +kernel)) rfl
theorem wfl_X4_95 : Cond.fieldLink RX4 95 "BoundPorts$Port" "rank" "I" ∈ bpW := wd_in (List.mem_of_getElem? (i := 120) (by decide +kernel)) rfl
theorem wfl_X2_25 : Cond.fieldLink RX2 25 "BoundPorts$Port" "up" "Z" ∈ bpW := wd_in (List.mem_of_getElem? (i := 121) (by decide +kernel)) rfl
theorem wfl_X4_101 : Cond.fieldLink RX4 101 "BoundPorts$Port" "up" "Z" ∈ bpW := wd_in (List.mem_of_getElem? (i := 122) (by decide +kernel)) rfl
theorem wfl_X2_29 : Cond.fieldLink RX2 29 "BoundPorts$Port" "heard" "Z" ∈ bpW := wd_in (List.mem_of_getElem? (i := 123) (by decide +kernel)) rfl
theorem wfl_X4_109 : Cond.fieldLink RX4 109 "BoundPorts$Port" "heard" "Z" ∈ bpW := wd_in (List.mem_of_getElem? (i := 124) (by decide +kernel)) rfl
theorem wfl_X2_32 : Cond.fieldLink RX2 32 "BoundPorts$Port" "partner" "I" ∈ bpW := wd_in (List.mem_of_getElem? (i := 125) (by decide +kernel)) rfl
theorem wfl_X4_134 : Cond.fieldLink RX4 134 "BoundPorts$Port" "partner" "I" ∈ bpW := wd_in (List.mem_of_getElem? (i := 126) (by decide +kernel)) rfl
theorem wfl_X2_35 : Cond.fieldLink RX2 35 "BoundPorts$Port" "partnerKey" "I" ∈ bpW := wd_in (List.mem_of_getElem? (i := 127) (by decide +kernel)) rfl
theorem wfl_X4_137 : Cond.fieldLink RX4 137 "BoundPorts$Port" "partnerKey" "I" ∈ bpW := wd_in (List.mem_of_getElem? (i := 128) (by decide +kernel)) rfl
theorem wfl_X2_38 : Cond.fieldLink RX2 38 "BoundPorts$Port" "ready" "Z" ∈ bpW := wd_in (List.mem_of_getElem? (i := 129) (by decide +kernel)) rfl
theorem wfl_X4_140 : Cond.fieldLink RX4 140 "BoundPorts$Port" "ready" "Z" ∈ bpW := wd_in (List.mem_of_getElem? (i := 130) (by decide +kernel)) rfl
theorem wfl_X2_41 : Cond.fieldLink RX2 41 "BoundPorts$Port" "age" "I" ∈ bpW := wd_in (List.mem_of_getElem? (i := 131) (by decide +kernel)) rfl
theorem wfl_X4_143 : Cond.fieldLink RX4 143 "BoundPorts$Port" "age" "I" ∈ bpW := wd_in (List.mem_of_getElem? (i := 132) (by decide +kernel)) rfl
theorem wfl_X2_44 : Cond.fieldLink RX2 44 "BoundPorts$Port" "choice" "I" ∈ bpW := wd_in (List.mem_of_getElem? (i := 133) (by decide +kernel)) rfl
theorem wfl_X4_260 : Cond.fieldLink RX4 260 "BoundPorts$Port" "choice" "I" ∈ bpW := wd_in (List.mem_of_getElem? (i := 134) (by decide +kernel)) rfl
theorem wfl_X2_47 : Cond.fieldLink RX2 47 "BoundPorts$Port" "waited" "I" ∈ bpW := wd_in (List.mem_of_getElem? (i := 135) (by decide +kernel)) rfl
theorem wfl_X4_150 : Cond.fieldLink RX4 150 "BoundPorts$Port" "waited" "I" ∈ bpW := wd_in (List.mem_of_getElem? (i := 136) (by decide +kernel)) rfl
theorem wis_X0 : Cond.instantiable RX0 8 ∈ bpW := wd_in (List.mem_of_getElem? (i := 160) (by decide +kernel)) rfl
theorem wmn_X4_51 : Cond.methodLinkNest RX4 51 yX0_init RX4 ∈ lw_tbl := List.mem_of_getElem? (i := 161) (by decide +kernel)
theorem wim_X0_init : Cond.instanceMethod yX0_init ∈ bpW := wd_in (List.mem_of_getElem? (i := 162) (by decide +kernel)) rfl
theorem wcd_X0_init : Cond.code yX0_init cX0_init 1 none ∈ bpW := wd_in (List.mem_of_getElem? (i := 163) (by decide +kernel)) rfl
theorem wml_X0_3 : Cond.methodLink RX0 3 objectInit ∈ bpW := wd_in (List.mem_of_getElem? (i := 164) (by decide +kernel)) rfl
theorem wfl_X0_9 : Cond.fieldLink RX0 9 "BoundPorts$Flow" "held" "[I" ∈ bpW := wd_in (List.mem_of_getElem? (i := 165) (by decide +kernel)) rfl
theorem wfl_X4_283 : Cond.fieldLink RX4 283 "BoundPorts$Flow" "held" "[I" ∈ bpW := wd_in (List.mem_of_getElem? (i := 166) (by decide +kernel)) rfl
theorem wfl_X0_15 : Cond.fieldLink RX0 15 "BoundPorts$Flow" "heldCount" "I" ∈ bpW := wd_in (List.mem_of_getElem? (i := 167) (by decide +kernel)) rfl
theorem wfl_X4_207 : Cond.fieldLink RX4 207 "BoundPorts$Flow" "heldCount" "I" ∈ bpW := wd_in (List.mem_of_getElem? (i := 168) (by decide +kernel)) rfl
theorem wfl_X0_19 : Cond.fieldLink RX0 19 "BoundPorts$Flow" "on" "I" ∈ bpW := wd_in (List.mem_of_getElem? (i := 169) (by decide +kernel)) rfl
theorem wfl_X4_193 : Cond.fieldLink RX4 193 "BoundPorts$Flow" "on" "I" ∈ bpW := wd_in (List.mem_of_getElem? (i := 170) (by decide +kernel)) rfl
theorem wfl_X0_22 : Cond.fieldLink RX0 22 "BoundPorts$Flow" "moving" "Z" ∈ bpW := wd_in (List.mem_of_getElem? (i := 171) (by decide +kernel)) rfl
theorem wfl_X4_184 : Cond.fieldLink RX4 184 "BoundPorts$Flow" "moving" "Z" ∈ bpW := wd_in (List.mem_of_getElem? (i := 172) (by decide +kernel)) rfl
theorem wfl_X0_26 : Cond.fieldLink RX0 26 "BoundPorts$Flow" "sent" "I" ∈ bpW := wd_in (List.mem_of_getElem? (i := 173) (by decide +kernel)) rfl
theorem wfl_X4_181 : Cond.fieldLink RX4 181 "BoundPorts$Flow" "sent" "I" ∈ bpW := wd_in (List.mem_of_getElem? (i := 174) (by decide +kernel)) rfl
theorem wfl_X0_29 : Cond.fieldLink RX0 29 "BoundPorts$Flow" "delivered" "I" ∈ bpW := wd_in (List.mem_of_getElem? (i := 175) (by decide +kernel)) rfl
theorem wfl_X4_210 : Cond.fieldLink RX4 210 "BoundPorts$Flow" "delivered" "I" ∈ bpW := wd_in (List.mem_of_getElem? (i := 176) (by decide +kernel)) rfl
theorem wfl_X0_32 : Cond.fieldLink RX0 32 "BoundPorts$Flow" "lost" "I" ∈ bpW := wd_in (List.mem_of_getElem? (i := 177) (by decide +kernel)) rfl
theorem wfl_X4_190 : Cond.fieldLink RX4 190 "BoundPorts$Flow" "lost" "I" ∈ bpW := wd_in (List.mem_of_getElem? (i := 178) (by decide +kernel)) rfl
theorem wfl_X0_35 : Cond.fieldLink RX0 35 "BoundPorts$Flow" "latest" "I" ∈ bpW := wd_in (List.mem_of_getElem? (i := 179) (by decide +kernel)) rfl
theorem wfl_X4_213 : Cond.fieldLink RX4 213 "BoundPorts$Flow" "latest" "I" ∈ bpW := wd_in (List.mem_of_getElem? (i := 180) (by decide +kernel)) rfl
theorem wfl_X4_10 : Cond.fieldLink RX4 10 "BoundPorts" "page" "LBoundPorts$Page;" ∈ bpW := wd_in (List.mem_of_getElem? (i := 198) (by decide +kernel)) rfl
theorem wfl_X4_18 : Cond.fieldLink RX4 18 "BoundPorts" "ports" "[LBoundPorts$Port;" ∈ bpW := wd_in (List.mem_of_getElem? (i := 199) (by decide +kernel)) rfl
theorem wfl_X4_24 : Cond.fieldLink RX4 24 "BoundPorts" "flows" "[LBoundPorts$Flow;" ∈ bpW := wd_in (List.mem_of_getElem? (i := 200) (by decide +kernel)) rfl
theorem wfl_X4_28 : Cond.fieldLink RX4 28 "BoundPorts" "portCount" "I" ∈ bpW := wd_in (List.mem_of_getElem? (i := 201) (by decide +kernel)) rfl
theorem wfl_X4_32 : Cond.fieldLink RX4 32 "BoundPorts" "width" "I" ∈ bpW := wd_in (List.mem_of_getElem? (i := 202) (by decide +kernel)) rfl
theorem wfl_X4_35 : Cond.fieldLink RX4 35 "BoundPorts" "waitTicks" "I" ∈ bpW := wd_in (List.mem_of_getElem? (i := 203) (by decide +kernel)) rfl
theorem wfl_X4_38 : Cond.fieldLink RX4 38 "BoundPorts" "shift" "I" ∈ bpW := wd_in (List.mem_of_getElem? (i := 204) (by decide +kernel)) rfl
theorem wfl_X4_41 : Cond.fieldLink RX4 41 "BoundPorts" "ticks" "I" ∈ bpW := wd_in (List.mem_of_getElem? (i := 205) (by decide +kernel)) rfl
theorem wfl_X4_44 : Cond.fieldLink RX4 44 "BoundPorts" "answered" "I" ∈ bpW := wd_in (List.mem_of_getElem? (i := 206) (by decide +kernel)) rfl
theorem wfl_X4_47 : Cond.fieldLink RX4 47 "BoundPorts" "boardsRead" "I" ∈ bpW := wd_in (List.mem_of_getElem? (i := 207) (by decide +kernel)) rfl
theorem wml_L_13 : Cond.methodLink RL 13 yX4_letter ∈ bpW := wd_in (List.mem_of_getElem? (i := 229) (by decide +kernel)) rfl
theorem wim_X4_letter : Cond.instanceMethod yX4_letter ∈ bpW := wd_in (List.mem_of_getElem? (i := 230) (by decide +kernel)) rfl
theorem wse_X4_letter : Cond.selects RX4 yX4_letter yX4_letter ∈ bpW := wd_in (List.mem_of_getElem? (i := 231) (by decide +kernel)) rfl
theorem wcd_X4_letter : Cond.code yX4_letter cX4_letter 2 (some .int) ∈ bpW := wd_in (List.mem_of_getElem? (i := 232) (by decide +kernel)) rfl
theorem wml_X4_52 : Cond.methodLink RX4 52 yX1_append ∈ bpW := wd_in (List.mem_of_getElem? (i := 233) (by decide +kernel)) rfl
theorem wim_X1_append : Cond.instanceMethod yX1_append ∈ bpW := wd_in (List.mem_of_getElem? (i := 234) (by decide +kernel)) rfl
theorem wse_X1_append : Cond.selects RX1 yX1_append yX1_append ∈ bpW := wd_in (List.mem_of_getElem? (i := 235) (by decide +kernel)) rfl
theorem wcd_X1_append : Cond.code yX1_append cX1_append 2 (some .boolean) ∈ bpW := wd_in (List.mem_of_getElem? (i := 236) (by decide +kernel)) rfl
theorem wml_L_18 : Cond.methodLink RL 18 yX4_blank ∈ bpW := wd_in (List.mem_of_getElem? (i := 237) (by decide +kernel)) rfl
theorem wim_X4_blank : Cond.instanceMethod yX4_blank ∈ bpW := wd_in (List.mem_of_getElem? (i := 238) (by decide +kernel)) rfl
theorem wse_X4_blank : Cond.selects RX4 yX4_blank yX4_blank ∈ bpW := wd_in (List.mem_of_getElem? (i := 239) (by decide +kernel)) rfl
theorem wcd_X4_blank : Cond.code yX4_blank cX4_blank 2 (some .int) ∈ bpW := wd_in (List.mem_of_getElem? (i := 240) (by decide +kernel)) rfl
theorem wml_L_23 : Cond.methodLink RL 23 yX4_fault ∈ bpW := wd_in (List.mem_of_getElem? (i := 241) (by decide +kernel)) rfl
theorem wim_X4_fault : Cond.instanceMethod yX4_fault ∈ bpW := wd_in (List.mem_of_getElem? (i := 242) (by decide +kernel)) rfl
theorem wse_X4_fault : Cond.selects RX4 yX4_fault yX4_fault ∈ bpW := wd_in (List.mem_of_getElem? (i := 243) (by decide +kernel)) rfl
theorem wcd_X4_fault : Cond.code yX4_fault cX4_fault 1 (some .int) ∈ bpW := wd_in (List.mem_of_getElem? (i := 244) (by decide +kernel)) rfl
theorem wml_X4_59 : Cond.methodLink RX4 59 yX1_firstWrong ∈ bpW := wd_in (List.mem_of_getElem? (i := 245) (by decide +kernel)) rfl
theorem wim_X1_firstWrong : Cond.instanceMethod yX1_firstWrong ∈ bpW := wd_in (List.mem_of_getElem? (i := 246) (by decide +kernel)) rfl
theorem wse_X1_firstWrong : Cond.selects RX1 yX1_firstWrong yX1_firstWrong ∈ bpW := wd_in (List.mem_of_getElem? (i := 247) (by decide +kernel)) rfl
theorem wcd_X1_firstWrong : Cond.code yX1_firstWrong cX1_firstWrong 2 (some .int) ∈ bpW := wd_in (List.mem_of_getElem? (i := 248) (by decide +kernel)) rfl
theorem wml_X1_19 : Cond.methodLink RX1 19 yX1_fits ∈ bpW := wd_in (List.mem_of_getElem? (i := 249) (by decide +kernel)) rfl
theorem wim_X1_fits : Cond.instanceMethod yX1_fits ∈ bpW := wd_in (List.mem_of_getElem? (i := 251) (by decide +kernel)) rfl
theorem wcd_X1_fits : Cond.code yX1_fits cX1_fits 3 (some .boolean) ∈ bpW := wd_in (List.mem_of_getElem? (i := 252) (by decide +kernel)) rfl
theorem wml_X1_23 : Cond.methodLink RX1 23 yX1_codeAt ∈ bpW := wd_in (List.mem_of_getElem? (i := 253) (by decide +kernel)) rfl
theorem wim_X1_codeAt : Cond.instanceMethod yX1_codeAt ∈ bpW := wd_in (List.mem_of_getElem? (i := 254) (by decide +kernel)) rfl
theorem wse_X1_codeAt : Cond.selects RX1 yX1_codeAt yX1_codeAt ∈ bpW := wd_in (List.mem_of_getElem? (i := 255) (by decide +kernel)) rfl
theorem wcd_X1_codeAt : Cond.code yX1_codeAt cX1_codeAt 2 (some .int) ∈ bpW := wd_in (List.mem_of_getElem? (i := 256) (by decide +kernel)) rfl
theorem wml_L_27 : Cond.methodLink RL 27 yX4_board ∈ bpW := wd_in (List.mem_of_getElem? (i := 257) (by decide +kernel)) rfl
theorem wim_X4_board : Cond.instanceMethod yX4_board ∈ bpW := wd_in (List.mem_of_getElem? (i := 258) (by decide +kernel)) rfl
theorem wse_X4_board : Cond.selects RX4 yX4_board yX4_board ∈ bpW := wd_in (List.mem_of_getElem? (i := 259) (by decide +kernel)) rfl
theorem wcd_X4_board : Cond.code yX4_board cX4_board 2 (some .int) ∈ bpW := wd_in (List.mem_of_getElem? (i := 260) (by decide +kernel)) rfl
theorem wml_X4_63 : Cond.methodLink RX4 63 yX1_isBoard ∈ bpW := wd_in (List.mem_of_getElem? (i := 261) (by decide +kernel)) rfl
theorem wim_X1_isBoard : Cond.instanceMethod yX1_isBoard ∈ bpW := wd_in (List.mem_of_getElem? (i := 262) (by decide +kernel)) rfl
theorem wse_X1_isBoard : Cond.selects RX1 yX1_isBoard yX1_isBoard ∈ bpW := wd_in (List.mem_of_getElem? (i := 263) (by decide +kernel)) rfl
theorem wcd_X1_isBoard : Cond.code yX1_isBoard cX1_isBoard 1 (some .boolean) ∈ bpW := wd_in (List.mem_of_getElem? (i := 264) (by decide +kernel)) rfl
theorem wml_X1_27 : Cond.methodLink RX1 27 yX1_firstWrong ∈ bpW := wd_in (List.mem_of_getElem? (i := 265) (by decide +kernel)) rfl
theorem wml_X4_67 : Cond.methodLink RX4 67 yX1_portsWritten ∈ bpW := wd_in (List.mem_of_getElem? (i := 266) (by decide +kernel)) rfl
theorem wim_X1_portsWritten : Cond.instanceMethod yX1_portsWritten ∈ bpW := wd_in (List.mem_of_getElem? (i := 267) (by decide +kernel)) rfl
theorem wse_X1_portsWritten : Cond.selects RX1 yX1_portsWritten yX1_portsWritten ∈ bpW := wd_in (List.mem_of_getElem? (i := 268) (by decide +kernel)) rfl
theorem wcd_X1_portsWritten : Cond.code yX1_portsWritten cX1_portsWritten 1 (some .int) ∈ bpW := wd_in (List.mem_of_getElem? (i := 269) (by decide +kernel)) rfl
theorem wml_X4_70 : Cond.methodLink RX4 70 yX1_keyOfPort ∈ bpW := wd_in (List.mem_of_getElem? (i := 270) (by decide +kernel)) rfl
theorem wim_X1_keyOfPort : Cond.instanceMethod yX1_keyOfPort ∈ bpW := wd_in (List.mem_of_getElem? (i := 271) (by decide +kernel)) rfl
theorem wse_X1_keyOfPort : Cond.selects RX1 yX1_keyOfPort yX1_keyOfPort ∈ bpW := wd_in (List.mem_of_getElem? (i := 272) (by decide +kernel)) rfl
theorem wcd_X1_keyOfPort : Cond.code yX1_keyOfPort cX1_keyOfPort 2 (some .int) ∈ bpW := wd_in (List.mem_of_getElem? (i := 273) (by decide +kernel)) rfl
theorem wml_X4_74 : Cond.methodLink RX4 74 yX1_rankOfPort ∈ bpW := wd_in (List.mem_of_getElem? (i := 274) (by decide +kernel)) rfl
theorem wim_X1_rankOfPort : Cond.instanceMethod yX1_rankOfPort ∈ bpW := wd_in (List.mem_of_getElem? (i := 275) (by decide +kernel)) rfl
theorem wse_X1_rankOfPort : Cond.selects RX1 yX1_rankOfPort yX1_rankOfPort ∈ bpW := wd_in (List.mem_of_getElem? (i := 276) (by decide +kernel)) rfl
theorem wcd_X1_rankOfPort : Cond.code yX1_rankOfPort cX1_rankOfPort 2 (some .int) ∈ bpW := wd_in (List.mem_of_getElem? (i := 277) (by decide +kernel)) rfl
theorem wml_X4_77 : Cond.methodLink RX4 77 yX2_restart ∈ bpW := wd_in (List.mem_of_getElem? (i := 278) (by decide +kernel)) rfl
theorem wim_X2_restart : Cond.instanceMethod yX2_restart ∈ bpW := wd_in (List.mem_of_getElem? (i := 279) (by decide +kernel)) rfl
theorem wse_X2_restart : Cond.selects RX2 yX2_restart yX2_restart ∈ bpW := wd_in (List.mem_of_getElem? (i := 280) (by decide +kernel)) rfl
theorem wcd_X2_restart : Cond.code yX2_restart cX2_restart 3 none ∈ bpW := wd_in (List.mem_of_getElem? (i := 281) (by decide +kernel)) rfl
theorem wml_X4_81 : Cond.methodLink RX4 81 yX0_restart ∈ bpW := wd_in (List.mem_of_getElem? (i := 282) (by decide +kernel)) rfl
theorem wim_X0_restart : Cond.instanceMethod yX0_restart ∈ bpW := wd_in (List.mem_of_getElem? (i := 283) (by decide +kernel)) rfl
theorem wse_X0_restart : Cond.selects RX0 yX0_restart yX0_restart ∈ bpW := wd_in (List.mem_of_getElem? (i := 284) (by decide +kernel)) rfl
theorem wcd_X0_restart : Cond.code yX0_restart cX0_restart 1 none ∈ bpW := wd_in (List.mem_of_getElem? (i := 285) (by decide +kernel)) rfl
theorem wml_L_31 : Cond.methodLink RL 31 yX4_set ∈ bpW := wd_in (List.mem_of_getElem? (i := 286) (by decide +kernel)) rfl
theorem wim_X4_set : Cond.instanceMethod yX4_set ∈ bpW := wd_in (List.mem_of_getElem? (i := 287) (by decide +kernel)) rfl
theorem wse_X4_set : Cond.selects RX4 yX4_set yX4_set ∈ bpW := wd_in (List.mem_of_getElem? (i := 288) (by decide +kernel)) rfl
theorem wcd_X4_set : Cond.code yX4_set cX4_set 3 (some .int) ∈ bpW := wd_in (List.mem_of_getElem? (i := 289) (by decide +kernel)) rfl
theorem wml_X4_83 : Cond.methodLink RX4 83 yX4_changeWidth ∈ bpW := wd_in (List.mem_of_getElem? (i := 290) (by decide +kernel)) rfl
theorem wim_X4_changeWidth : Cond.instanceMethod yX4_changeWidth ∈ bpW := wd_in (List.mem_of_getElem? (i := 292) (by decide +kernel)) rfl
theorem wcd_X4_changeWidth : Cond.code yX4_changeWidth cX4_changeWidth 3 (some .int) ∈ bpW := wd_in (List.mem_of_getElem? (i := 293) (by decide +kernel)) rfl
theorem wml_X4_98 : Cond.methodLink RX4 98 yX4_chooseAll ∈ bpW := wd_in (List.mem_of_getElem? (i := 294) (by decide +kernel)) rfl
theorem wim_X4_chooseAll : Cond.instanceMethod yX4_chooseAll ∈ bpW := wd_in (List.mem_of_getElem? (i := 296) (by decide +kernel)) rfl
theorem wcd_X4_chooseAll : Cond.code yX4_chooseAll cX4_chooseAll 2 none ∈ bpW := wd_in (List.mem_of_getElem? (i := 297) (by decide +kernel)) rfl
theorem wml_X4_254 : Cond.methodLink RX4 254 yX4_chooseOfKey ∈ bpW := wd_in (List.mem_of_getElem? (i := 298) (by decide +kernel)) rfl
theorem wim_X4_chooseOfKey : Cond.instanceMethod yX4_chooseOfKey ∈ bpW := wd_in (List.mem_of_getElem? (i := 300) (by decide +kernel)) rfl
theorem wcd_X4_chooseOfKey : Cond.code yX4_chooseOfKey cX4_chooseOfKey 4 none ∈ bpW := wd_in (List.mem_of_getElem? (i := 301) (by decide +kernel)) rfl
theorem wml_X4_168 : Cond.methodLink RX4 168 yX4_leadOf ∈ bpW := wd_in (List.mem_of_getElem? (i := 302) (by decide +kernel)) rfl
theorem wim_X4_leadOf : Cond.instanceMethod yX4_leadOf ∈ bpW := wd_in (List.mem_of_getElem? (i := 304) (by decide +kernel)) rfl
theorem wcd_X4_leadOf : Cond.code yX4_leadOf cX4_leadOf 4 (some .int) ∈ bpW := wd_in (List.mem_of_getElem? (i := 305) (by decide +kernel)) rfl
theorem wml_X4_266 : Cond.methodLink RX4 266 yX4_isAhead ∈ bpW := wd_in (List.mem_of_getElem? (i := 306) (by decide +kernel)) rfl
theorem wim_X4_isAhead : Cond.instanceMethod yX4_isAhead ∈ bpW := wd_in (List.mem_of_getElem? (i := 308) (by decide +kernel)) rfl
theorem wcd_X4_isAhead : Cond.code yX4_isAhead cX4_isAhead 3 (some .boolean) ∈ bpW := wd_in (List.mem_of_getElem? (i := 309) (by decide +kernel)) rfl
theorem wml_X4_257 : Cond.methodLink RX4 257 yX4_choiceOf ∈ bpW := wd_in (List.mem_of_getElem? (i := 310) (by decide +kernel)) rfl
theorem wim_X4_choiceOf : Cond.instanceMethod yX4_choiceOf ∈ bpW := wd_in (List.mem_of_getElem? (i := 312) (by decide +kernel)) rfl
theorem wcd_X4_choiceOf : Cond.code yX4_choiceOf cX4_choiceOf 5 (some .int) ∈ bpW := wd_in (List.mem_of_getElem? (i := 313) (by decide +kernel)) rfl
theorem wml_X4_92 : Cond.methodLink RX4 92 yX4_isPort ∈ bpW := wd_in (List.mem_of_getElem? (i := 314) (by decide +kernel)) rfl
theorem wim_X4_isPort : Cond.instanceMethod yX4_isPort ∈ bpW := wd_in (List.mem_of_getElem? (i := 316) (by decide +kernel)) rfl
theorem wcd_X4_isPort : Cond.code yX4_isPort cX4_isPort 2 (some .boolean) ∈ bpW := wd_in (List.mem_of_getElem? (i := 317) (by decide +kernel)) rfl
theorem wml_X4_263 : Cond.methodLink RX4 263 yX2_isAlike ∈ bpW := wd_in (List.mem_of_getElem? (i := 318) (by decide +kernel)) rfl
theorem wim_X2_isAlike : Cond.instanceMethod yX2_isAlike ∈ bpW := wd_in (List.mem_of_getElem? (i := 319) (by decide +kernel)) rfl
theorem wse_X2_isAlike : Cond.selects RX2 yX2_isAlike yX2_isAlike ∈ bpW := wd_in (List.mem_of_getElem? (i := 320) (by decide +kernel)) rfl
theorem wcd_X2_isAlike : Cond.code yX2_isAlike cX2_isAlike 2 (some .boolean) ∈ bpW := wd_in (List.mem_of_getElem? (i := 321) (by decide +kernel)) rfl
theorem wml_X4_86 : Cond.methodLink RX4 86 yX4_changeWait ∈ bpW := wd_in (List.mem_of_getElem? (i := 322) (by decide +kernel)) rfl
theorem wim_X4_changeWait : Cond.instanceMethod yX4_changeWait ∈ bpW := wd_in (List.mem_of_getElem? (i := 324) (by decide +kernel)) rfl
theorem wcd_X4_changeWait : Cond.code yX4_changeWait cX4_changeWait 3 (some .int) ∈ bpW := wd_in (List.mem_of_getElem? (i := 325) (by decide +kernel)) rfl
theorem wml_X4_89 : Cond.methodLink RX4 89 yX4_changeShift ∈ bpW := wd_in (List.mem_of_getElem? (i := 326) (by decide +kernel)) rfl
theorem wim_X4_changeShift : Cond.instanceMethod yX4_changeShift ∈ bpW := wd_in (List.mem_of_getElem? (i := 328) (by decide +kernel)) rfl
theorem wcd_X4_changeShift : Cond.code yX4_changeShift cX4_changeShift 3 (some .int) ∈ bpW := wd_in (List.mem_of_getElem? (i := 329) (by decide +kernel)) rfl
theorem wml_L_36 : Cond.methodLink RL 36 yX4_rank ∈ bpW := wd_in (List.mem_of_getElem? (i := 330) (by decide +kernel)) rfl
theorem wim_X4_rank : Cond.instanceMethod yX4_rank ∈ bpW := wd_in (List.mem_of_getElem? (i := 331) (by decide +kernel)) rfl
theorem wse_X4_rank : Cond.selects RX4 yX4_rank yX4_rank ∈ bpW := wd_in (List.mem_of_getElem? (i := 332) (by decide +kernel)) rfl
theorem wcd_X4_rank : Cond.code yX4_rank cX4_rank 4 (some .int) ∈ bpW := wd_in (List.mem_of_getElem? (i := 333) (by decide +kernel)) rfl
theorem wml_L_40 : Cond.methodLink RL 40 yX4_up ∈ bpW := wd_in (List.mem_of_getElem? (i := 334) (by decide +kernel)) rfl
theorem wim_X4_up : Cond.instanceMethod yX4_up ∈ bpW := wd_in (List.mem_of_getElem? (i := 335) (by decide +kernel)) rfl
theorem wse_X4_up : Cond.selects RX4 yX4_up yX4_up ∈ bpW := wd_in (List.mem_of_getElem? (i := 336) (by decide +kernel)) rfl
theorem wcd_X4_up : Cond.code yX4_up cX4_up 4 (some .int) ∈ bpW := wd_in (List.mem_of_getElem? (i := 337) (by decide +kernel)) rfl
theorem wml_X4_105 : Cond.methodLink RX4 105 yX4_asNumber ∈ bpW := wd_in (List.mem_of_getElem? (i := 338) (by decide +kernel)) rfl
theorem wst_X4_asNumber : Cond.static yX4_asNumber ∈ bpW := wd_in (List.mem_of_getElem? (i := 339) (by decide +kernel)) rfl
theorem wcd_X4_asNumber : Cond.code yX4_asNumber cX4_asNumber 1 (some .int) ∈ bpW := wd_in (List.mem_of_getElem? (i := 340) (by decide +kernel)) rfl
theorem wml_X4_116 : Cond.methodLink RX4 116 yX4_dropQueue ∈ bpW := wd_in (List.mem_of_getElem? (i := 341) (by decide +kernel)) rfl
theorem wim_X4_dropQueue : Cond.instanceMethod yX4_dropQueue ∈ bpW := wd_in (List.mem_of_getElem? (i := 343) (by decide +kernel)) rfl
theorem wcd_X4_dropQueue : Cond.code yX4_dropQueue cX4_dropQueue 3 none ∈ bpW := wd_in (List.mem_of_getElem? (i := 344) (by decide +kernel)) rfl
theorem wml_X4_159 : Cond.methodLink RX4 159 yX3_isMarker ∈ bpW := wd_in (List.mem_of_getElem? (i := 345) (by decide +kernel)) rfl
theorem wim_X3_isMarker : Cond.instanceMethod yX3_isMarker ∈ bpW := wd_in (List.mem_of_getElem? (i := 346) (by decide +kernel)) rfl
theorem wse_X3_isMarker : Cond.selects RX3 yX3_isMarker yX3_isMarker ∈ bpW := wd_in (List.mem_of_getElem? (i := 347) (by decide +kernel)) rfl
theorem wcd_X3_isMarker : Cond.code yX3_isMarker cX3_isMarker 2 (some .boolean) ∈ bpW := wd_in (List.mem_of_getElem? (i := 348) (by decide +kernel)) rfl
theorem wml_X3_26 : Cond.methodLink RX3 26 yX3_has ∈ bpW := wd_in (List.mem_of_getElem? (i := 349) (by decide +kernel)) rfl
theorem wim_X3_has : Cond.instanceMethod yX3_has ∈ bpW := wd_in (List.mem_of_getElem? (i := 350) (by decide +kernel)) rfl
theorem wse_X3_has : Cond.selects RX3 yX3_has yX3_has ∈ bpW := wd_in (List.mem_of_getElem? (i := 351) (by decide +kernel)) rfl
theorem wcd_X3_has : Cond.code yX3_has cX3_has 2 (some .boolean) ∈ bpW := wd_in (List.mem_of_getElem? (i := 352) (by decide +kernel)) rfl
theorem wml_X4_162 : Cond.methodLink RX4 162 yX3_flowAt ∈ bpW := wd_in (List.mem_of_getElem? (i := 353) (by decide +kernel)) rfl
theorem wim_X3_flowAt : Cond.instanceMethod yX3_flowAt ∈ bpW := wd_in (List.mem_of_getElem? (i := 354) (by decide +kernel)) rfl
theorem wse_X3_flowAt : Cond.selects RX3 yX3_flowAt yX3_flowAt ∈ bpW := wd_in (List.mem_of_getElem? (i := 355) (by decide +kernel)) rfl
theorem wcd_X3_flowAt : Cond.code yX3_flowAt cX3_flowAt 2 (some .int) ∈ bpW := wd_in (List.mem_of_getElem? (i := 356) (by decide +kernel)) rfl
theorem wml_X4_287 : Cond.methodLink RX4 287 yX4_answerMarker ∈ bpW := wd_in (List.mem_of_getElem? (i := 357) (by decide +kernel)) rfl
theorem wim_X4_answerMarker : Cond.instanceMethod yX4_answerMarker ∈ bpW := wd_in (List.mem_of_getElem? (i := 359) (by decide +kernel)) rfl
theorem wcd_X4_answerMarker : Cond.code yX4_answerMarker cX4_answerMarker 4 none ∈ bpW := wd_in (List.mem_of_getElem? (i := 360) (by decide +kernel)) rfl
theorem wml_X4_178 : Cond.methodLink RX4 178 yX4_wayOf ∈ bpW := wd_in (List.mem_of_getElem? (i := 361) (by decide +kernel)) rfl
theorem wim_X4_wayOf : Cond.instanceMethod yX4_wayOf ∈ bpW := wd_in (List.mem_of_getElem? (i := 363) (by decide +kernel)) rfl
theorem wcd_X4_wayOf : Cond.code yX4_wayOf cX4_wayOf 6 (some .int) ∈ bpW := wd_in (List.mem_of_getElem? (i := 364) (by decide +kernel)) rfl
theorem wml_X4_171 : Cond.methodLink RX4 171 yX4_bitsOf ∈ bpW := wd_in (List.mem_of_getElem? (i := 365) (by decide +kernel)) rfl
theorem wim_X4_bitsOf : Cond.instanceMethod yX4_bitsOf ∈ bpW := wd_in (List.mem_of_getElem? (i := 367) (by decide +kernel)) rfl
theorem wcd_X4_bitsOf : Cond.code yX4_bitsOf cX4_bitsOf 7 (some .int) ∈ bpW := wd_in (List.mem_of_getElem? (i := 368) (by decide +kernel)) rfl
theorem wml_X4_146 : Cond.methodLink RX4 146 yX4_howItIs ∈ bpW := wd_in (List.mem_of_getElem? (i := 369) (by decide +kernel)) rfl
theorem wim_X4_howItIs : Cond.instanceMethod yX4_howItIs ∈ bpW := wd_in (List.mem_of_getElem? (i := 371) (by decide +kernel)) rfl
theorem wcd_X4_howItIs : Cond.code yX4_howItIs cX4_howItIs 2 (some .int) ∈ bpW := wd_in (List.mem_of_getElem? (i := 372) (by decide +kernel)) rfl
theorem wml_X4_270 : Cond.methodLink RX4 270 yJ6_bitCount_0f7a4 ∈ bpW := wd_in (List.mem_of_getElem? (i := 373) (by decide +kernel)) rfl
theorem wst_J6_bitCount_0f7a4 : Cond.static yJ6_bitCount_0f7a4 ∈ bpW := wd_in (List.mem_of_getElem? (i := 374) (by decide +kernel)) rfl
theorem wcd_J6_bitCount_0f7a4 : Cond.code yJ6_bitCount_0f7a4 cJ6_bitCount_0f7a4 1 (some .int) ∈ bpW := wd_in (List.mem_of_getElem? (i := 375) (by decide +kernel)) rfl
theorem wco_265 : Cond.constant RJ6 265 (1431655765 : Int32) ∈ bpW := wd_in (List.mem_of_getElem? (i := 376) (by decide +kernel)) rfl
theorem wco_266 : Cond.constant RJ6 266 (858993459 : Int32) ∈ bpW := wd_in (List.mem_of_getElem? (i := 377) (by decide +kernel)) rfl
theorem wco_267 : Cond.constant RJ6 267 (252645135 : Int32) ∈ bpW := wd_in (List.mem_of_getElem? (i := 378) (by decide +kernel)) rfl
theorem wml_X4_203 : Cond.methodLink RX4 203 yX4_putLetter ∈ bpW := wd_in (List.mem_of_getElem? (i := 379) (by decide +kernel)) rfl
theorem wim_X4_putLetter : Cond.instanceMethod yX4_putLetter ∈ bpW := wd_in (List.mem_of_getElem? (i := 381) (by decide +kernel)) rfl
theorem wcd_X4_putLetter : Cond.code yX4_putLetter cX4_putLetter 4 (some .boolean) ∈ bpW := wd_in (List.mem_of_getElem? (i := 382) (by decide +kernel)) rfl
theorem wml_X4_281 : Cond.methodLink RX4 281 yX3_append ∈ bpW := wd_in (List.mem_of_getElem? (i := 383) (by decide +kernel)) rfl
theorem wim_X3_append : Cond.instanceMethod yX3_append ∈ bpW := wd_in (List.mem_of_getElem? (i := 384) (by decide +kernel)) rfl
theorem wse_X3_append : Cond.selects RX3 yX3_append yX3_append ∈ bpW := wd_in (List.mem_of_getElem? (i := 385) (by decide +kernel)) rfl
theorem wcd_X3_append : Cond.code yX3_append cX3_append 3 none ∈ bpW := wd_in (List.mem_of_getElem? (i := 386) (by decide +kernel)) rfl
theorem wml_L_45 : Cond.methodLink RL 45 yX4_hear ∈ bpW := wd_in (List.mem_of_getElem? (i := 387) (by decide +kernel)) rfl
theorem wim_X4_hear : Cond.instanceMethod yX4_hear ∈ bpW := wd_in (List.mem_of_getElem? (i := 388) (by decide +kernel)) rfl
theorem wse_X4_hear : Cond.selects RX4 yX4_hear yX4_hear ∈ bpW := wd_in (List.mem_of_getElem? (i := 389) (by decide +kernel)) rfl
theorem wcd_X4_hear : Cond.code yX4_hear cX4_hear 5 (some .int) ∈ bpW := wd_in (List.mem_of_getElem? (i := 390) (by decide +kernel)) rfl
theorem wml_X4_120 : Cond.methodLink RX4 120 yX4_isKey ∈ bpW := wd_in (List.mem_of_getElem? (i := 391) (by decide +kernel)) rfl
theorem wst_X4_isKey : Cond.static yX4_isKey ∈ bpW := wd_in (List.mem_of_getElem? (i := 392) (by decide +kernel)) rfl
theorem wcd_X4_isKey : Cond.code yX4_isKey cX4_isKey 1 (some .boolean) ∈ bpW := wd_in (List.mem_of_getElem? (i := 393) (by decide +kernel)) rfl
theorem wml_X4_123 : Cond.methodLink RX4 123 yX2_keepHeard ∈ bpW := wd_in (List.mem_of_getElem? (i := 394) (by decide +kernel)) rfl
theorem wim_X2_keepHeard : Cond.instanceMethod yX2_keepHeard ∈ bpW := wd_in (List.mem_of_getElem? (i := 395) (by decide +kernel)) rfl
theorem wse_X2_keepHeard : Cond.selects RX2 yX2_keepHeard yX2_keepHeard ∈ bpW := wd_in (List.mem_of_getElem? (i := 396) (by decide +kernel)) rfl
theorem wcd_X2_keepHeard : Cond.code yX2_keepHeard cX2_keepHeard 4 none ∈ bpW := wd_in (List.mem_of_getElem? (i := 397) (by decide +kernel)) rfl
theorem wml_X4_127 : Cond.methodLink RX4 127 yX4_carries ∈ bpW := wd_in (List.mem_of_getElem? (i := 398) (by decide +kernel)) rfl
theorem wim_X4_carries : Cond.instanceMethod yX4_carries ∈ bpW := wd_in (List.mem_of_getElem? (i := 400) (by decide +kernel)) rfl
theorem wcd_X4_carries : Cond.code yX4_carries cX4_carries 2 (some .boolean) ∈ bpW := wd_in (List.mem_of_getElem? (i := 401) (by decide +kernel)) rfl
theorem wml_L_50 : Cond.methodLink RL 50 yX4_of ∈ bpW := wd_in (List.mem_of_getElem? (i := 402) (by decide +kernel)) rfl
theorem wim_X4_of : Cond.instanceMethod yX4_of ∈ bpW := wd_in (List.mem_of_getElem? (i := 403) (by decide +kernel)) rfl
theorem wse_X4_of : Cond.selects RX4 yX4_of yX4_of ∈ bpW := wd_in (List.mem_of_getElem? (i := 404) (by decide +kernel)) rfl
theorem wcd_X4_of : Cond.code yX4_of cX4_of 4 (some .int) ∈ bpW := wd_in (List.mem_of_getElem? (i := 405) (by decide +kernel)) rfl
theorem wml_L_54 : Cond.methodLink RL 54 yX4_queue ∈ bpW := wd_in (List.mem_of_getElem? (i := 406) (by decide +kernel)) rfl
theorem wim_X4_queue : Cond.instanceMethod yX4_queue ∈ bpW := wd_in (List.mem_of_getElem? (i := 407) (by decide +kernel)) rfl
theorem wse_X4_queue : Cond.selects RX4 yX4_queue yX4_queue ∈ bpW := wd_in (List.mem_of_getElem? (i := 408) (by decide +kernel)) rfl
theorem wcd_X4_queue : Cond.code yX4_queue cX4_queue 4 (some .int) ∈ bpW := wd_in (List.mem_of_getElem? (i := 409) (by decide +kernel)) rfl
theorem wml_X4_156 : Cond.methodLink RX4 156 yX3_has ∈ bpW := wd_in (List.mem_of_getElem? (i := 410) (by decide +kernel)) rfl
theorem wml_X4_165 : Cond.methodLink RX4 165 yX3_numberAt ∈ bpW := wd_in (List.mem_of_getElem? (i := 411) (by decide +kernel)) rfl
theorem wim_X3_numberAt : Cond.instanceMethod yX3_numberAt ∈ bpW := wd_in (List.mem_of_getElem? (i := 412) (by decide +kernel)) rfl
theorem wse_X3_numberAt : Cond.selects RX3 yX3_numberAt yX3_numberAt ∈ bpW := wd_in (List.mem_of_getElem? (i := 413) (by decide +kernel)) rfl
theorem wcd_X3_numberAt : Cond.code yX3_numberAt cX3_numberAt 2 (some .int) ∈ bpW := wd_in (List.mem_of_getElem? (i := 414) (by decide +kernel)) rfl
theorem wml_L_58 : Cond.methodLink RL 58 yX4_key ∈ bpW := wd_in (List.mem_of_getElem? (i := 415) (by decide +kernel)) rfl
theorem wim_X4_key : Cond.instanceMethod yX4_key ∈ bpW := wd_in (List.mem_of_getElem? (i := 416) (by decide +kernel)) rfl
theorem wse_X4_key : Cond.selects RX4 yX4_key yX4_key ∈ bpW := wd_in (List.mem_of_getElem? (i := 417) (by decide +kernel)) rfl
theorem wcd_X4_key : Cond.code yX4_key cX4_key 3 (some .int) ∈ bpW := wd_in (List.mem_of_getElem? (i := 418) (by decide +kernel)) rfl
theorem wml_L_62 : Cond.methodLink RL 62 yX4_way ∈ bpW := wd_in (List.mem_of_getElem? (i := 419) (by decide +kernel)) rfl
theorem wim_X4_way : Cond.instanceMethod yX4_way ∈ bpW := wd_in (List.mem_of_getElem? (i := 420) (by decide +kernel)) rfl
theorem wse_X4_way : Cond.selects RX4 yX4_way yX4_way ∈ bpW := wd_in (List.mem_of_getElem? (i := 421) (by decide +kernel)) rfl
theorem wcd_X4_way : Cond.code yX4_way cX4_way 2 (some .int) ∈ bpW := wd_in (List.mem_of_getElem? (i := 422) (by decide +kernel)) rfl
theorem wml_X4_175 : Cond.methodLink RX4 175 yX4_isFlow ∈ bpW := wd_in (List.mem_of_getElem? (i := 423) (by decide +kernel)) rfl
theorem wst_X4_isFlow : Cond.static yX4_isFlow ∈ bpW := wd_in (List.mem_of_getElem? (i := 424) (by decide +kernel)) rfl
theorem wcd_X4_isFlow : Cond.code yX4_isFlow cX4_isFlow 1 (some .boolean) ∈ bpW := wd_in (List.mem_of_getElem? (i := 425) (by decide +kernel)) rfl
theorem wml_L_66 : Cond.methodLink RL 66 yX4_send ∈ bpW := wd_in (List.mem_of_getElem? (i := 426) (by decide +kernel)) rfl
theorem wim_X4_send : Cond.instanceMethod yX4_send ∈ bpW := wd_in (List.mem_of_getElem? (i := 427) (by decide +kernel)) rfl
theorem wse_X4_send : Cond.selects RX4 yX4_send yX4_send ∈ bpW := wd_in (List.mem_of_getElem? (i := 428) (by decide +kernel)) rfl
theorem wcd_X4_send : Cond.code yX4_send cX4_send 4 (some .int) ∈ bpW := wd_in (List.mem_of_getElem? (i := 429) (by decide +kernel)) rfl
theorem wml_X4_187 : Cond.methodLink RX4 187 yX0_hold ∈ bpW := wd_in (List.mem_of_getElem? (i := 430) (by decide +kernel)) rfl
theorem wim_X0_hold : Cond.instanceMethod yX0_hold ∈ bpW := wd_in (List.mem_of_getElem? (i := 431) (by decide +kernel)) rfl
theorem wse_X0_hold : Cond.selects RX0 yX0_hold yX0_hold ∈ bpW := wd_in (List.mem_of_getElem? (i := 432) (by decide +kernel)) rfl
theorem wcd_X0_hold : Cond.code yX0_hold cX0_hold 2 (some .boolean) ∈ bpW := wd_in (List.mem_of_getElem? (i := 433) (by decide +kernel)) rfl
theorem wml_X4_196 : Cond.methodLink RX4 196 yX4_hasLettersBehind ∈ bpW := wd_in (List.mem_of_getElem? (i := 434) (by decide +kernel)) rfl
theorem wim_X4_hasLettersBehind : Cond.instanceMethod yX4_hasLettersBehind ∈ bpW := wd_in (List.mem_of_getElem? (i := 436) (by decide +kernel)) rfl
theorem wcd_X4_hasLettersBehind : Cond.code yX4_hasLettersBehind cX4_hasLettersBehind 3 (some .boolean) ∈ bpW := wd_in (List.mem_of_getElem? (i := 437) (by decide +kernel)) rfl
theorem wml_X4_275 : Cond.methodLink RX4 275 yX3_hasLetterOf ∈ bpW := wd_in (List.mem_of_getElem? (i := 438) (by decide +kernel)) rfl
theorem wim_X3_hasLetterOf : Cond.instanceMethod yX3_hasLetterOf ∈ bpW := wd_in (List.mem_of_getElem? (i := 439) (by decide +kernel)) rfl
theorem wse_X3_hasLetterOf : Cond.selects RX3 yX3_hasLetterOf yX3_hasLetterOf ∈ bpW := wd_in (List.mem_of_getElem? (i := 440) (by decide +kernel)) rfl
theorem wcd_X3_hasLetterOf : Cond.code yX3_hasLetterOf cX3_hasLetterOf 3 (some .boolean) ∈ bpW := wd_in (List.mem_of_getElem? (i := 441) (by decide +kernel)) rfl
theorem wml_X4_199 : Cond.methodLink RX4 199 yX4_startMoving ∈ bpW := wd_in (List.mem_of_getElem? (i := 442) (by decide +kernel)) rfl
theorem wim_X4_startMoving : Cond.instanceMethod yX4_startMoving ∈ bpW := wd_in (List.mem_of_getElem? (i := 444) (by decide +kernel)) rfl
theorem wcd_X4_startMoving : Cond.code yX4_startMoving cX4_startMoving 3 none ∈ bpW := wd_in (List.mem_of_getElem? (i := 445) (by decide +kernel)) rfl
theorem wml_X4_278 : Cond.methodLink RX4 278 yX3_appendMarker ∈ bpW := wd_in (List.mem_of_getElem? (i := 446) (by decide +kernel)) rfl
theorem wim_X3_appendMarker : Cond.instanceMethod yX3_appendMarker ∈ bpW := wd_in (List.mem_of_getElem? (i := 447) (by decide +kernel)) rfl
theorem wse_X3_appendMarker : Cond.selects RX3 yX3_appendMarker yX3_appendMarker ∈ bpW := wd_in (List.mem_of_getElem? (i := 448) (by decide +kernel)) rfl
theorem wcd_X3_appendMarker : Cond.code yX3_appendMarker cX3_appendMarker 2 none ∈ bpW := wd_in (List.mem_of_getElem? (i := 449) (by decide +kernel)) rfl
theorem wml_X3_22 : Cond.methodLink RX3 22 yX3_append ∈ bpW := wd_in (List.mem_of_getElem? (i := 450) (by decide +kernel)) rfl
theorem wml_L_70 : Cond.methodLink RL 70 yX4_flow ∈ bpW := wd_in (List.mem_of_getElem? (i := 451) (by decide +kernel)) rfl
theorem wim_X4_flow : Cond.instanceMethod yX4_flow ∈ bpW := wd_in (List.mem_of_getElem? (i := 452) (by decide +kernel)) rfl
theorem wse_X4_flow : Cond.selects RX4 yX4_flow yX4_flow ∈ bpW := wd_in (List.mem_of_getElem? (i := 453) (by decide +kernel)) rfl
theorem wcd_X4_flow : Cond.code yX4_flow cX4_flow 4 (some .int) ∈ bpW := wd_in (List.mem_of_getElem? (i := 454) (by decide +kernel)) rfl
theorem wml_L_74 : Cond.methodLink RL 74 yX4_tick ∈ bpW := wd_in (List.mem_of_getElem? (i := 455) (by decide +kernel)) rfl
theorem wim_X4_tick : Cond.instanceMethod yX4_tick ∈ bpW := wd_in (List.mem_of_getElem? (i := 456) (by decide +kernel)) rfl
theorem wse_X4_tick : Cond.selects RX4 yX4_tick yX4_tick ∈ bpW := wd_in (List.mem_of_getElem? (i := 457) (by decide +kernel)) rfl
theorem wcd_X4_tick : Cond.code yX4_tick cX4_tick 4 (some .int) ∈ bpW := wd_in (List.mem_of_getElem? (i := 458) (by decide +kernel)) rfl
theorem wml_X4_216 : Cond.methodLink RX4 216 yX4_sumOverFlows ∈ bpW := wd_in (List.mem_of_getElem? (i := 459) (by decide +kernel)) rfl
theorem wim_X4_sumOverFlows : Cond.instanceMethod yX4_sumOverFlows ∈ bpW := wd_in (List.mem_of_getElem? (i := 461) (by decide +kernel)) rfl
theorem wcd_X4_sumOverFlows : Cond.code yX4_sumOverFlows cX4_sumOverFlows 4 (some .int) ∈ bpW := wd_in (List.mem_of_getElem? (i := 462) (by decide +kernel)) rfl
theorem wml_X4_238 : Cond.methodLink RX4 238 yX4_flow ∈ bpW := wd_in (List.mem_of_getElem? (i := 463) (by decide +kernel)) rfl
theorem wml_X4_219 : Cond.methodLink RX4 219 yX4_passTick ∈ bpW := wd_in (List.mem_of_getElem? (i := 464) (by decide +kernel)) rfl
theorem wim_X4_passTick : Cond.instanceMethod yX4_passTick ∈ bpW := wd_in (List.mem_of_getElem? (i := 466) (by decide +kernel)) rfl
theorem wcd_X4_passTick : Cond.code yX4_passTick cX4_passTick 2 none ∈ bpW := wd_in (List.mem_of_getElem? (i := 467) (by decide +kernel)) rfl
theorem wml_X4_290 : Cond.methodLink RX4 290 yX2_growOlder ∈ bpW := wd_in (List.mem_of_getElem? (i := 468) (by decide +kernel)) rfl
theorem wim_X2_growOlder : Cond.instanceMethod yX2_growOlder ∈ bpW := wd_in (List.mem_of_getElem? (i := 469) (by decide +kernel)) rfl
theorem wse_X2_growOlder : Cond.selects RX2 yX2_growOlder yX2_growOlder ∈ bpW := wd_in (List.mem_of_getElem? (i := 470) (by decide +kernel)) rfl
theorem wcd_X2_growOlder : Cond.code yX2_growOlder cX2_growOlder 1 none ∈ bpW := wd_in (List.mem_of_getElem? (i := 471) (by decide +kernel)) rfl
theorem wml_X4_293 : Cond.methodLink RX4 293 yX4_letFirstOut ∈ bpW := wd_in (List.mem_of_getElem? (i := 472) (by decide +kernel)) rfl
theorem wim_X4_letFirstOut : Cond.instanceMethod yX4_letFirstOut ∈ bpW := wd_in (List.mem_of_getElem? (i := 474) (by decide +kernel)) rfl
theorem wcd_X4_letFirstOut : Cond.code yX4_letFirstOut cX4_letFirstOut 5 none ∈ bpW := wd_in (List.mem_of_getElem? (i := 475) (by decide +kernel)) rfl
theorem wml_X4_296 : Cond.methodLink RX4 296 yX3_removeFirst ∈ bpW := wd_in (List.mem_of_getElem? (i := 476) (by decide +kernel)) rfl
theorem wim_X3_removeFirst : Cond.instanceMethod yX3_removeFirst ∈ bpW := wd_in (List.mem_of_getElem? (i := 477) (by decide +kernel)) rfl
theorem wse_X3_removeFirst : Cond.selects RX3 yX3_removeFirst yX3_removeFirst ∈ bpW := wd_in (List.mem_of_getElem? (i := 478) (by decide +kernel)) rfl
theorem wcd_X3_removeFirst : Cond.code yX3_removeFirst cX3_removeFirst 2 none ∈ bpW := wd_in (List.mem_of_getElem? (i := 479) (by decide +kernel)) rfl
theorem wml_L_78 : Cond.methodLink RL 78 yX4_count ∈ bpW := wd_in (List.mem_of_getElem? (i := 480) (by decide +kernel)) rfl
theorem wim_X4_count : Cond.instanceMethod yX4_count ∈ bpW := wd_in (List.mem_of_getElem? (i := 481) (by decide +kernel)) rfl
theorem wse_X4_count : Cond.selects RX4 yX4_count yX4_count ∈ bpW := wd_in (List.mem_of_getElem? (i := 482) (by decide +kernel)) rfl
theorem wcd_X4_count : Cond.code yX4_count cX4_count 2 (some .int) ∈ bpW := wd_in (List.mem_of_getElem? (i := 483) (by decide +kernel)) rfl
theorem wml_L_82 : Cond.methodLink RL 82 yX4_digest ∈ bpW := wd_in (List.mem_of_getElem? (i := 484) (by decide +kernel)) rfl
theorem wim_X4_digest : Cond.instanceMethod yX4_digest ∈ bpW := wd_in (List.mem_of_getElem? (i := 485) (by decide +kernel)) rfl
theorem wse_X4_digest : Cond.selects RX4 yX4_digest yX4_digest ∈ bpW := wd_in (List.mem_of_getElem? (i := 486) (by decide +kernel)) rfl
theorem wcd_X4_digest : Cond.code yX4_digest cX4_digest 5 (some .long) ∈ bpW := wd_in (List.mem_of_getElem? (i := 487) (by decide +kernel)) rfl
theorem wcL_X4_222 : Cond.constantLong RX4 222 (1741 : Int64) ∈ bpW := wd_in (List.mem_of_getElem? (i := 488) (by decide +kernel)) rfl
theorem wml_X4_224 : Cond.methodLink RX4 224 yX4_digestPort ∈ bpW := wd_in (List.mem_of_getElem? (i := 489) (by decide +kernel)) rfl
theorem wim_X4_digestPort : Cond.instanceMethod yX4_digestPort ∈ bpW := wd_in (List.mem_of_getElem? (i := 491) (by decide +kernel)) rfl
theorem wcd_X4_digestPort : Cond.code yX4_digestPort cX4_digestPort 8 (some .long) ∈ bpW := wd_in (List.mem_of_getElem? (i := 492) (by decide +kernel)) rfl
theorem wml_X4_247 : Cond.methodLink RX4 247 yX4_of ∈ bpW := wd_in (List.mem_of_getElem? (i := 493) (by decide +kernel)) rfl
theorem wml_X4_231 : Cond.methodLink RX4 231 yX4_mix ∈ bpW := wd_in (List.mem_of_getElem? (i := 494) (by decide +kernel)) rfl
theorem wst_X4_mix : Cond.static yX4_mix ∈ bpW := wd_in (List.mem_of_getElem? (i := 495) (by decide +kernel)) rfl
theorem wcd_X4_mix : Cond.code yX4_mix cX4_mix 4 (some .long) ∈ bpW := wd_in (List.mem_of_getElem? (i := 496) (by decide +kernel)) rfl
theorem wcL_X4_252 : Cond.constantLong RX4 252 (31 : Int64) ∈ bpW := wd_in (List.mem_of_getElem? (i := 497) (by decide +kernel)) rfl
theorem wml_X4_250 : Cond.methodLink RX4 250 yX4_queue ∈ bpW := wd_in (List.mem_of_getElem? (i := 498) (by decide +kernel)) rfl
theorem wml_X4_228 : Cond.methodLink RX4 228 yX4_key ∈ bpW := wd_in (List.mem_of_getElem? (i := 499) (by decide +kernel)) rfl
theorem wml_X4_235 : Cond.methodLink RX4 235 yX4_way ∈ bpW := wd_in (List.mem_of_getElem? (i := 500) (by decide +kernel)) rfl
theorem wml_X4_241 : Cond.methodLink RX4 241 yX1_codeAt ∈ bpW := wd_in (List.mem_of_getElem? (i := 501) (by decide +kernel)) rfl
theorem wml_X4_244 : Cond.methodLink RX4 244 yX4_count ∈ bpW := wd_in (List.mem_of_getElem? (i := 502) (by decide +kernel)) rfl
theorem wcl_L_10 : Cond.classLink RL 10 RX5 ∈ bpW := wd_in (List.mem_of_getElem? (i := 503) (by decide +kernel)) rfl
theorem wis_X5 : Cond.instantiable RX5 30 ∈ bpW := wd_in (List.mem_of_getElem? (i := 504) (by decide +kernel)) rfl
theorem wml_L_12 : Cond.methodLink RL 12 yX5_init ∈ bpW := wd_in (List.mem_of_getElem? (i := 505) (by decide +kernel)) rfl
theorem wim_X5_init : Cond.instanceMethod yX5_init ∈ bpW := wd_in (List.mem_of_getElem? (i := 506) (by decide +kernel)) rfl
theorem wcd_X5_init : Cond.code yX5_init cX5_init 1 none ∈ bpW := wd_in (List.mem_of_getElem? (i := 507) (by decide +kernel)) rfl
theorem wml_X5_1 : Cond.methodLink RX5 1 objectInit ∈ bpW := wd_in (List.mem_of_getElem? (i := 508) (by decide +kernel)) rfl
theorem wml_X5_81 : Cond.methodLink RX5 81 yX5_clearFlows ∈ bpW := wd_in (List.mem_of_getElem? (i := 509) (by decide +kernel)) rfl
theorem wim_X5_clearFlows : Cond.instanceMethod yX5_clearFlows ∈ bpW := wd_in (List.mem_of_getElem? (i := 511) (by decide +kernel)) rfl
theorem wcd_X5_clearFlows : Cond.code yX5_clearFlows cX5_clearFlows 2 none ∈ bpW := wd_in (List.mem_of_getElem? (i := 512) (by decide +kernel)) rfl
theorem wfl_X5_88 : Cond.fieldLink RX5 88 "BoundPortsModel" "pageLength" "I" ∈ bpW := wd_in (List.mem_of_getElem? (i := 513) (by decide +kernel)) rfl
theorem wfl_X5_7 : Cond.fieldLink RX5 7 "BoundPortsModel" "page" "[I" ∈ bpW := wd_in (List.mem_of_getElem? (i := 514) (by decide +kernel)) rfl
theorem wfl_X5_105 : Cond.fieldLink RX5 105 "BoundPortsModel" "ports" "I" ∈ bpW := wd_in (List.mem_of_getElem? (i := 515) (by decide +kernel)) rfl
theorem wfl_X5_13 : Cond.fieldLink RX5 13 "BoundPortsModel" "keyOf" "[I" ∈ bpW := wd_in (List.mem_of_getElem? (i := 516) (by decide +kernel)) rfl
theorem wfl_X5_16 : Cond.fieldLink RX5 16 "BoundPortsModel" "rankOf" "[I" ∈ bpW := wd_in (List.mem_of_getElem? (i := 517) (by decide +kernel)) rfl
theorem wfl_X5_19 : Cond.fieldLink RX5 19 "BoundPortsModel" "isUp" "[Z" ∈ bpW := wd_in (List.mem_of_getElem? (i := 518) (by decide +kernel)) rfl
theorem wfl_X5_23 : Cond.fieldLink RX5 23 "BoundPortsModel" "partnerOf" "[I" ∈ bpW := wd_in (List.mem_of_getElem? (i := 519) (by decide +kernel)) rfl
theorem wfl_X5_26 : Cond.fieldLink RX5 26 "BoundPortsModel" "partnerKey" "[I" ∈ bpW := wd_in (List.mem_of_getElem? (i := 520) (by decide +kernel)) rfl
theorem wfl_X5_29 : Cond.fieldLink RX5 29 "BoundPortsModel" "isReady" "[Z" ∈ bpW := wd_in (List.mem_of_getElem? (i := 521) (by decide +kernel)) rfl
theorem wfl_X5_32 : Cond.fieldLink RX5 32 "BoundPortsModel" "age" "[I" ∈ bpW := wd_in (List.mem_of_getElem? (i := 522) (by decide +kernel)) rfl
theorem wfl_X5_35 : Cond.fieldLink RX5 35 "BoundPortsModel" "waited" "[I" ∈ bpW := wd_in (List.mem_of_getElem? (i := 523) (by decide +kernel)) rfl
theorem wfl_X5_38 : Cond.fieldLink RX5 38 "BoundPortsModel" "width" "I" ∈ bpW := wd_in (List.mem_of_getElem? (i := 524) (by decide +kernel)) rfl
theorem wfl_X5_42 : Cond.fieldLink RX5 42 "BoundPortsModel" "wait" "I" ∈ bpW := wd_in (List.mem_of_getElem? (i := 525) (by decide +kernel)) rfl
theorem wfl_X5_132 : Cond.fieldLink RX5 132 "BoundPortsModel" "shift" "I" ∈ bpW := wd_in (List.mem_of_getElem? (i := 526) (by decide +kernel)) rfl
theorem wfl_X5_112 : Cond.fieldLink RX5 112 "BoundPortsModel" "boardsRead" "I" ∈ bpW := wd_in (List.mem_of_getElem? (i := 527) (by decide +kernel)) rfl
theorem wfl_X5_45 : Cond.fieldLink RX5 45 "BoundPortsModel" "queueFlow" "[I" ∈ bpW := wd_in (List.mem_of_getElem? (i := 528) (by decide +kernel)) rfl
theorem wfl_X5_48 : Cond.fieldLink RX5 48 "BoundPortsModel" "queueNumber" "[I" ∈ bpW := wd_in (List.mem_of_getElem? (i := 529) (by decide +kernel)) rfl
theorem wfl_X5_51 : Cond.fieldLink RX5 51 "BoundPortsModel" "queueMany" "[I" ∈ bpW := wd_in (List.mem_of_getElem? (i := 530) (by decide +kernel)) rfl
theorem wfl_X5_54 : Cond.fieldLink RX5 54 "BoundPortsModel" "onPort" "[I" ∈ bpW := wd_in (List.mem_of_getElem? (i := 531) (by decide +kernel)) rfl
theorem wfl_X5_57 : Cond.fieldLink RX5 57 "BoundPortsModel" "isMoving" "[Z" ∈ bpW := wd_in (List.mem_of_getElem? (i := 532) (by decide +kernel)) rfl
theorem wfl_X5_60 : Cond.fieldLink RX5 60 "BoundPortsModel" "heldMany" "[I" ∈ bpW := wd_in (List.mem_of_getElem? (i := 533) (by decide +kernel)) rfl
theorem wfl_X5_63 : Cond.fieldLink RX5 63 "BoundPortsModel" "heldAt" "[I" ∈ bpW := wd_in (List.mem_of_getElem? (i := 534) (by decide +kernel)) rfl
theorem wfl_X5_66 : Cond.fieldLink RX5 66 "BoundPortsModel" "sent" "[I" ∈ bpW := wd_in (List.mem_of_getElem? (i := 535) (by decide +kernel)) rfl
theorem wfl_X5_69 : Cond.fieldLink RX5 69 "BoundPortsModel" "delivered" "[I" ∈ bpW := wd_in (List.mem_of_getElem? (i := 536) (by decide +kernel)) rfl
theorem wfl_X5_72 : Cond.fieldLink RX5 72 "BoundPortsModel" "lost" "[I" ∈ bpW := wd_in (List.mem_of_getElem? (i := 537) (by decide +kernel)) rfl
theorem wfl_X5_75 : Cond.fieldLink RX5 75 "BoundPortsModel" "latest" "[I" ∈ bpW := wd_in (List.mem_of_getElem? (i := 538) (by decide +kernel)) rfl
theorem wfl_X5_99 : Cond.fieldLink RX5 99 "BoundPortsModel" "ticks" "I" ∈ bpW := wd_in (List.mem_of_getElem? (i := 539) (by decide +kernel)) rfl
theorem wfl_X5_102 : Cond.fieldLink RX5 102 "BoundPortsModel" "answered" "I" ∈ bpW := wd_in (List.mem_of_getElem? (i := 540) (by decide +kernel)) rfl
theorem wfl_X5_78 : Cond.fieldLink RX5 78 "BoundPortsModel" "markers" "[I" ∈ bpW := wd_in (List.mem_of_getElem? (i := 541) (by decide +kernel)) rfl
theorem wfl_X5_210 : Cond.fieldLink RX5 210 "BoundPortsModel" "h" "J" ∈ bpW := wd_in (List.mem_of_getElem? (i := 542) (by decide +kernel)) rfl
theorem wac_boolean : Cond.arrayClass .boolean ∈ bpW := wd_in (List.mem_of_getElem? (i := 604) (by decide +kernel)) rfl
theorem wml_L_17 : Cond.methodLink RL 17 yX5_letter ∈ bpW := wd_in (List.mem_of_getElem? (i := 605) (by decide +kernel)) rfl
theorem wim_X5_letter : Cond.instanceMethod yX5_letter ∈ bpW := wd_in (List.mem_of_getElem? (i := 606) (by decide +kernel)) rfl
theorem wse_X5_letter : Cond.selects RX5 yX5_letter yX5_letter ∈ bpW := wd_in (List.mem_of_getElem? (i := 607) (by decide +kernel)) rfl
theorem wcd_X5_letter : Cond.code yX5_letter cX5_letter 2 (some .int) ∈ bpW := wd_in (List.mem_of_getElem? (i := 608) (by decide +kernel)) rfl
theorem wml_X5_84 : Cond.methodLink RX5 84 yX5_within ∈ bpW := wd_in (List.mem_of_getElem? (i := 609) (by decide +kernel)) rfl
theorem wst_X5_within : Cond.static yX5_within ∈ bpW := wd_in (List.mem_of_getElem? (i := 610) (by decide +kernel)) rfl
theorem wcd_X5_within : Cond.code yX5_within cX5_within 3 (some .boolean) ∈ bpW := wd_in (List.mem_of_getElem? (i := 611) (by decide +kernel)) rfl
theorem wml_L_22 : Cond.methodLink RL 22 yX5_blank ∈ bpW := wd_in (List.mem_of_getElem? (i := 612) (by decide +kernel)) rfl
theorem wim_X5_blank : Cond.instanceMethod yX5_blank ∈ bpW := wd_in (List.mem_of_getElem? (i := 613) (by decide +kernel)) rfl
theorem wse_X5_blank : Cond.selects RX5 yX5_blank yX5_blank ∈ bpW := wd_in (List.mem_of_getElem? (i := 614) (by decide +kernel)) rfl
theorem wcd_X5_blank : Cond.code yX5_blank cX5_blank 2 (some .int) ∈ bpW := wd_in (List.mem_of_getElem? (i := 615) (by decide +kernel)) rfl
theorem wml_L_26 : Cond.methodLink RL 26 yX5_fault ∈ bpW := wd_in (List.mem_of_getElem? (i := 616) (by decide +kernel)) rfl
theorem wim_X5_fault : Cond.instanceMethod yX5_fault ∈ bpW := wd_in (List.mem_of_getElem? (i := 617) (by decide +kernel)) rfl
theorem wse_X5_fault : Cond.selects RX5 yX5_fault yX5_fault ∈ bpW := wd_in (List.mem_of_getElem? (i := 618) (by decide +kernel)) rfl
theorem wcd_X5_fault : Cond.code yX5_fault cX5_fault 1 (some .int) ∈ bpW := wd_in (List.mem_of_getElem? (i := 619) (by decide +kernel)) rfl
theorem wml_X5_95 : Cond.methodLink RX5 95 yX5_rightLetters ∈ bpW := wd_in (List.mem_of_getElem? (i := 620) (by decide +kernel)) rfl
theorem wim_X5_rightLetters : Cond.instanceMethod yX5_rightLetters ∈ bpW := wd_in (List.mem_of_getElem? (i := 622) (by decide +kernel)) rfl
theorem wcd_X5_rightLetters : Cond.code yX5_rightLetters cX5_rightLetters 2 (some .int) ∈ bpW := wd_in (List.mem_of_getElem? (i := 623) (by decide +kernel)) rfl
theorem wml_X5_91 : Cond.methodLink RX5 91 yX5_isRight ∈ bpW := wd_in (List.mem_of_getElem? (i := 624) (by decide +kernel)) rfl
theorem wim_X5_isRight : Cond.instanceMethod yX5_isRight ∈ bpW := wd_in (List.mem_of_getElem? (i := 626) (by decide +kernel)) rfl
theorem wcd_X5_isRight : Cond.code yX5_isRight cX5_isRight 3 (some .boolean) ∈ bpW := wd_in (List.mem_of_getElem? (i := 627) (by decide +kernel)) rfl
theorem wml_L_30 : Cond.methodLink RL 30 yX5_board ∈ bpW := wd_in (List.mem_of_getElem? (i := 628) (by decide +kernel)) rfl
theorem wim_X5_board : Cond.instanceMethod yX5_board ∈ bpW := wd_in (List.mem_of_getElem? (i := 629) (by decide +kernel)) rfl
theorem wse_X5_board : Cond.selects RX5 yX5_board yX5_board ∈ bpW := wd_in (List.mem_of_getElem? (i := 630) (by decide +kernel)) rfl
theorem wcd_X5_board : Cond.code yX5_board cX5_board 2 (some .int) ∈ bpW := wd_in (List.mem_of_getElem? (i := 631) (by decide +kernel)) rfl
theorem wml_X5_108 : Cond.methodLink RX5 108 yX5_forget ∈ bpW := wd_in (List.mem_of_getElem? (i := 632) (by decide +kernel)) rfl
theorem wim_X5_forget : Cond.instanceMethod yX5_forget ∈ bpW := wd_in (List.mem_of_getElem? (i := 634) (by decide +kernel)) rfl
theorem wcd_X5_forget : Cond.code yX5_forget cX5_forget 2 none ∈ bpW := wd_in (List.mem_of_getElem? (i := 635) (by decide +kernel)) rfl
theorem wml_L_35 : Cond.methodLink RL 35 yX5_set ∈ bpW := wd_in (List.mem_of_getElem? (i := 636) (by decide +kernel)) rfl
theorem wim_X5_set : Cond.instanceMethod yX5_set ∈ bpW := wd_in (List.mem_of_getElem? (i := 637) (by decide +kernel)) rfl
theorem wse_X5_set : Cond.selects RX5 yX5_set yX5_set ∈ bpW := wd_in (List.mem_of_getElem? (i := 638) (by decide +kernel)) rfl
theorem wcd_X5_set : Cond.code yX5_set cX5_set 4 (some .int) ∈ bpW := wd_in (List.mem_of_getElem? (i := 639) (by decide +kernel)) rfl
theorem wml_X5_135 : Cond.methodLink RX5 135 yX5_toldNow ∈ bpW := wd_in (List.mem_of_getElem? (i := 640) (by decide +kernel)) rfl
theorem wim_X5_toldNow : Cond.instanceMethod yX5_toldNow ∈ bpW := wd_in (List.mem_of_getElem? (i := 642) (by decide +kernel)) rfl
theorem wcd_X5_toldNow : Cond.code yX5_toldNow cX5_toldNow 2 (some .int) ∈ bpW := wd_in (List.mem_of_getElem? (i := 643) (by decide +kernel)) rfl
theorem wml_X5_138 : Cond.methodLink RX5 138 yX5_settle ∈ bpW := wd_in (List.mem_of_getElem? (i := 644) (by decide +kernel)) rfl
theorem wim_X5_settle : Cond.instanceMethod yX5_settle ∈ bpW := wd_in (List.mem_of_getElem? (i := 646) (by decide +kernel)) rfl
theorem wcd_X5_settle : Cond.code yX5_settle cX5_settle 2 none ∈ bpW := wd_in (List.mem_of_getElem? (i := 647) (by decide +kernel)) rfl
theorem wml_X5_129 : Cond.methodLink RX5 129 yX5_stateOf ∈ bpW := wd_in (List.mem_of_getElem? (i := 648) (by decide +kernel)) rfl
theorem wim_X5_stateOf : Cond.instanceMethod yX5_stateOf ∈ bpW := wd_in (List.mem_of_getElem? (i := 650) (by decide +kernel)) rfl
theorem wcd_X5_stateOf : Cond.code yX5_stateOf cX5_stateOf 3 (some .int) ∈ bpW := wd_in (List.mem_of_getElem? (i := 651) (by decide +kernel)) rfl
theorem wml_X5_126 : Cond.methodLink RX5 126 yX5_placeOf ∈ bpW := wd_in (List.mem_of_getElem? (i := 652) (by decide +kernel)) rfl
theorem wim_X5_placeOf : Cond.instanceMethod yX5_placeOf ∈ bpW := wd_in (List.mem_of_getElem? (i := 654) (by decide +kernel)) rfl
theorem wcd_X5_placeOf : Cond.code yX5_placeOf cX5_placeOf 5 (some .int) ∈ bpW := wd_in (List.mem_of_getElem? (i := 655) (by decide +kernel)) rfl
theorem wml_X5_119 : Cond.methodLink RX5 119 yX5_leadOf ∈ bpW := wd_in (List.mem_of_getElem? (i := 656) (by decide +kernel)) rfl
theorem wim_X5_leadOf : Cond.instanceMethod yX5_leadOf ∈ bpW := wd_in (List.mem_of_getElem? (i := 658) (by decide +kernel)) rfl
theorem wcd_X5_leadOf : Cond.code yX5_leadOf cX5_leadOf 5 (some .int) ∈ bpW := wd_in (List.mem_of_getElem? (i := 659) (by decide +kernel)) rfl
theorem wml_X5_115 : Cond.methodLink RX5 115 yX5_isAhead ∈ bpW := wd_in (List.mem_of_getElem? (i := 660) (by decide +kernel)) rfl
theorem wim_X5_isAhead : Cond.instanceMethod yX5_isAhead ∈ bpW := wd_in (List.mem_of_getElem? (i := 662) (by decide +kernel)) rfl
theorem wcd_X5_isAhead : Cond.code yX5_isAhead cX5_isAhead 3 (some .boolean) ∈ bpW := wd_in (List.mem_of_getElem? (i := 663) (by decide +kernel)) rfl
theorem wml_X5_123 : Cond.methodLink RX5 123 yX5_areAlike ∈ bpW := wd_in (List.mem_of_getElem? (i := 664) (by decide +kernel)) rfl
theorem wim_X5_areAlike : Cond.instanceMethod yX5_areAlike ∈ bpW := wd_in (List.mem_of_getElem? (i := 666) (by decide +kernel)) rfl
theorem wcd_X5_areAlike : Cond.code yX5_areAlike cX5_areAlike 3 (some .boolean) ∈ bpW := wd_in (List.mem_of_getElem? (i := 667) (by decide +kernel)) rfl
theorem wml_L_39 : Cond.methodLink RL 39 yX5_rank ∈ bpW := wd_in (List.mem_of_getElem? (i := 668) (by decide +kernel)) rfl
theorem wim_X5_rank : Cond.instanceMethod yX5_rank ∈ bpW := wd_in (List.mem_of_getElem? (i := 669) (by decide +kernel)) rfl
theorem wse_X5_rank : Cond.selects RX5 yX5_rank yX5_rank ∈ bpW := wd_in (List.mem_of_getElem? (i := 670) (by decide +kernel)) rfl
theorem wcd_X5_rank : Cond.code yX5_rank cX5_rank 4 (some .int) ∈ bpW := wd_in (List.mem_of_getElem? (i := 671) (by decide +kernel)) rfl
theorem wml_X5_141 : Cond.methodLink RX5 141 yX5_isPort ∈ bpW := wd_in (List.mem_of_getElem? (i := 672) (by decide +kernel)) rfl
theorem wim_X5_isPort : Cond.instanceMethod yX5_isPort ∈ bpW := wd_in (List.mem_of_getElem? (i := 674) (by decide +kernel)) rfl
theorem wcd_X5_isPort : Cond.code yX5_isPort cX5_isPort 2 (some .boolean) ∈ bpW := wd_in (List.mem_of_getElem? (i := 675) (by decide +kernel)) rfl
theorem wml_L_44 : Cond.methodLink RL 44 yX5_up ∈ bpW := wd_in (List.mem_of_getElem? (i := 676) (by decide +kernel)) rfl
theorem wim_X5_up : Cond.instanceMethod yX5_up ∈ bpW := wd_in (List.mem_of_getElem? (i := 677) (by decide +kernel)) rfl
theorem wse_X5_up : Cond.selects RX5 yX5_up yX5_up ∈ bpW := wd_in (List.mem_of_getElem? (i := 678) (by decide +kernel)) rfl
theorem wcd_X5_up : Cond.code yX5_up cX5_up 4 (some .int) ∈ bpW := wd_in (List.mem_of_getElem? (i := 679) (by decide +kernel)) rfl
theorem wml_X5_144 : Cond.methodLink RX5 144 yX5_empty ∈ bpW := wd_in (List.mem_of_getElem? (i := 680) (by decide +kernel)) rfl
theorem wim_X5_empty : Cond.instanceMethod yX5_empty ∈ bpW := wd_in (List.mem_of_getElem? (i := 682) (by decide +kernel)) rfl
theorem wcd_X5_empty : Cond.code yX5_empty cX5_empty 4 none ∈ bpW := wd_in (List.mem_of_getElem? (i := 683) (by decide +kernel)) rfl
theorem wml_X5_183 : Cond.methodLink RX5 183 yX5_answer ∈ bpW := wd_in (List.mem_of_getElem? (i := 684) (by decide +kernel)) rfl
theorem wim_X5_answer : Cond.instanceMethod yX5_answer ∈ bpW := wd_in (List.mem_of_getElem? (i := 686) (by decide +kernel)) rfl
theorem wcd_X5_answer : Cond.code yX5_answer cX5_answer 5 none ∈ bpW := wd_in (List.mem_of_getElem? (i := 687) (by decide +kernel)) rfl
theorem wml_X5_164 : Cond.methodLink RX5 164 yX5_wayOf ∈ bpW := wd_in (List.mem_of_getElem? (i := 688) (by decide +kernel)) rfl
theorem wim_X5_wayOf : Cond.instanceMethod yX5_wayOf ∈ bpW := wd_in (List.mem_of_getElem? (i := 690) (by decide +kernel)) rfl
theorem wcd_X5_wayOf : Cond.code yX5_wayOf cX5_wayOf 6 (some .int) ∈ bpW := wd_in (List.mem_of_getElem? (i := 691) (by decide +kernel)) rfl
theorem wml_X5_154 : Cond.methodLink RX5 154 yX5_bitsOf ∈ bpW := wd_in (List.mem_of_getElem? (i := 692) (by decide +kernel)) rfl
theorem wim_X5_bitsOf : Cond.instanceMethod yX5_bitsOf ∈ bpW := wd_in (List.mem_of_getElem? (i := 694) (by decide +kernel)) rfl
theorem wcd_X5_bitsOf : Cond.code yX5_bitsOf cX5_bitsOf 6 (some .int) ∈ bpW := wd_in (List.mem_of_getElem? (i := 695) (by decide +kernel)) rfl
theorem wml_X5_177 : Cond.methodLink RX5 177 yX5_comes ∈ bpW := wd_in (List.mem_of_getElem? (i := 696) (by decide +kernel)) rfl
theorem wim_X5_comes : Cond.instanceMethod yX5_comes ∈ bpW := wd_in (List.mem_of_getElem? (i := 698) (by decide +kernel)) rfl
theorem wcd_X5_comes : Cond.code yX5_comes cX5_comes 4 (some .int) ∈ bpW := wd_in (List.mem_of_getElem? (i := 699) (by decide +kernel)) rfl
theorem wml_X5_167 : Cond.methodLink RX5 167 yX5_lay ∈ bpW := wd_in (List.mem_of_getElem? (i := 700) (by decide +kernel)) rfl
theorem wim_X5_lay : Cond.instanceMethod yX5_lay ∈ bpW := wd_in (List.mem_of_getElem? (i := 702) (by decide +kernel)) rfl
theorem wcd_X5_lay : Cond.code yX5_lay cX5_lay 4 none ∈ bpW := wd_in (List.mem_of_getElem? (i := 703) (by decide +kernel)) rfl
theorem wml_L_49 : Cond.methodLink RL 49 yX5_hear ∈ bpW := wd_in (List.mem_of_getElem? (i := 704) (by decide +kernel)) rfl
theorem wim_X5_hear : Cond.instanceMethod yX5_hear ∈ bpW := wd_in (List.mem_of_getElem? (i := 705) (by decide +kernel)) rfl
theorem wse_X5_hear : Cond.selects RX5 yX5_hear yX5_hear ∈ bpW := wd_in (List.mem_of_getElem? (i := 706) (by decide +kernel)) rfl
theorem wcd_X5_hear : Cond.code yX5_hear cX5_hear 5 (some .int) ∈ bpW := wd_in (List.mem_of_getElem? (i := 707) (by decide +kernel)) rfl
theorem wml_L_53 : Cond.methodLink RL 53 yX5_of ∈ bpW := wd_in (List.mem_of_getElem? (i := 708) (by decide +kernel)) rfl
theorem wim_X5_of : Cond.instanceMethod yX5_of ∈ bpW := wd_in (List.mem_of_getElem? (i := 709) (by decide +kernel)) rfl
theorem wse_X5_of : Cond.selects RX5 yX5_of yX5_of ∈ bpW := wd_in (List.mem_of_getElem? (i := 710) (by decide +kernel)) rfl
theorem wcd_X5_of : Cond.code yX5_of cX5_of 3 (some .int) ∈ bpW := wd_in (List.mem_of_getElem? (i := 711) (by decide +kernel)) rfl
theorem wml_X5_147 : Cond.methodLink RX5 147 yX5_portNow ∈ bpW := wd_in (List.mem_of_getElem? (i := 712) (by decide +kernel)) rfl
theorem wim_X5_portNow : Cond.instanceMethod yX5_portNow ∈ bpW := wd_in (List.mem_of_getElem? (i := 714) (by decide +kernel)) rfl
theorem wcd_X5_portNow : Cond.code yX5_portNow cX5_portNow 4 (some .int) ∈ bpW := wd_in (List.mem_of_getElem? (i := 715) (by decide +kernel)) rfl
theorem wml_L_57 : Cond.methodLink RL 57 yX5_queue ∈ bpW := wd_in (List.mem_of_getElem? (i := 716) (by decide +kernel)) rfl
theorem wim_X5_queue : Cond.instanceMethod yX5_queue ∈ bpW := wd_in (List.mem_of_getElem? (i := 717) (by decide +kernel)) rfl
theorem wse_X5_queue : Cond.selects RX5 yX5_queue yX5_queue ∈ bpW := wd_in (List.mem_of_getElem? (i := 718) (by decide +kernel)) rfl
theorem wcd_X5_queue : Cond.code yX5_queue cX5_queue 3 (some .int) ∈ bpW := wd_in (List.mem_of_getElem? (i := 719) (by decide +kernel)) rfl
theorem wml_X5_151 : Cond.methodLink RX5 151 yX5_queueNow ∈ bpW := wd_in (List.mem_of_getElem? (i := 720) (by decide +kernel)) rfl
theorem wim_X5_queueNow : Cond.instanceMethod yX5_queueNow ∈ bpW := wd_in (List.mem_of_getElem? (i := 722) (by decide +kernel)) rfl
theorem wcd_X5_queueNow : Cond.code yX5_queueNow cX5_queueNow 5 (some .int) ∈ bpW := wd_in (List.mem_of_getElem? (i := 723) (by decide +kernel)) rfl
theorem wml_L_61 : Cond.methodLink RL 61 yX5_key ∈ bpW := wd_in (List.mem_of_getElem? (i := 724) (by decide +kernel)) rfl
theorem wim_X5_key : Cond.instanceMethod yX5_key ∈ bpW := wd_in (List.mem_of_getElem? (i := 725) (by decide +kernel)) rfl
theorem wse_X5_key : Cond.selects RX5 yX5_key yX5_key ∈ bpW := wd_in (List.mem_of_getElem? (i := 726) (by decide +kernel)) rfl
theorem wcd_X5_key : Cond.code yX5_key cX5_key 3 (some .int) ∈ bpW := wd_in (List.mem_of_getElem? (i := 727) (by decide +kernel)) rfl
theorem wml_X5_158 : Cond.methodLink RX5 158 yX5_keyNow ∈ bpW := wd_in (List.mem_of_getElem? (i := 728) (by decide +kernel)) rfl
theorem wim_X5_keyNow : Cond.instanceMethod yX5_keyNow ∈ bpW := wd_in (List.mem_of_getElem? (i := 730) (by decide +kernel)) rfl
theorem wcd_X5_keyNow : Cond.code yX5_keyNow cX5_keyNow 3 (some .int) ∈ bpW := wd_in (List.mem_of_getElem? (i := 731) (by decide +kernel)) rfl
theorem wml_L_65 : Cond.methodLink RL 65 yX5_way ∈ bpW := wd_in (List.mem_of_getElem? (i := 732) (by decide +kernel)) rfl
theorem wim_X5_way : Cond.instanceMethod yX5_way ∈ bpW := wd_in (List.mem_of_getElem? (i := 733) (by decide +kernel)) rfl
theorem wse_X5_way : Cond.selects RX5 yX5_way yX5_way ∈ bpW := wd_in (List.mem_of_getElem? (i := 734) (by decide +kernel)) rfl
theorem wcd_X5_way : Cond.code yX5_way cX5_way 2 (some .int) ∈ bpW := wd_in (List.mem_of_getElem? (i := 735) (by decide +kernel)) rfl
theorem wml_X5_161 : Cond.methodLink RX5 161 yX5_isFlow ∈ bpW := wd_in (List.mem_of_getElem? (i := 736) (by decide +kernel)) rfl
theorem wst_X5_isFlow : Cond.static yX5_isFlow ∈ bpW := wd_in (List.mem_of_getElem? (i := 737) (by decide +kernel)) rfl
theorem wcd_X5_isFlow : Cond.code yX5_isFlow cX5_isFlow 1 (some .boolean) ∈ bpW := wd_in (List.mem_of_getElem? (i := 738) (by decide +kernel)) rfl
theorem wml_L_69 : Cond.methodLink RL 69 yX5_send ∈ bpW := wd_in (List.mem_of_getElem? (i := 739) (by decide +kernel)) rfl
theorem wim_X5_send : Cond.instanceMethod yX5_send ∈ bpW := wd_in (List.mem_of_getElem? (i := 740) (by decide +kernel)) rfl
theorem wse_X5_send : Cond.selects RX5 yX5_send yX5_send ∈ bpW := wd_in (List.mem_of_getElem? (i := 741) (by decide +kernel)) rfl
theorem wcd_X5_send : Cond.code yX5_send cX5_send 2 (some .int) ∈ bpW := wd_in (List.mem_of_getElem? (i := 742) (by decide +kernel)) rfl
theorem wml_X5_180 : Cond.methodLink RX5 180 yX5_sendNow ∈ bpW := wd_in (List.mem_of_getElem? (i := 743) (by decide +kernel)) rfl
theorem wim_X5_sendNow : Cond.instanceMethod yX5_sendNow ∈ bpW := wd_in (List.mem_of_getElem? (i := 745) (by decide +kernel)) rfl
theorem wcd_X5_sendNow : Cond.code yX5_sendNow cX5_sendNow 3 (some .int) ∈ bpW := wd_in (List.mem_of_getElem? (i := 746) (by decide +kernel)) rfl
theorem wml_X5_171 : Cond.methodLink RX5 171 yX5_holds ∈ bpW := wd_in (List.mem_of_getElem? (i := 747) (by decide +kernel)) rfl
theorem wim_X5_holds : Cond.instanceMethod yX5_holds ∈ bpW := wd_in (List.mem_of_getElem? (i := 749) (by decide +kernel)) rfl
theorem wcd_X5_holds : Cond.code yX5_holds cX5_holds 3 (some .int) ∈ bpW := wd_in (List.mem_of_getElem? (i := 750) (by decide +kernel)) rfl
theorem wml_X5_174 : Cond.methodLink RX5 174 yX5_hasLetter ∈ bpW := wd_in (List.mem_of_getElem? (i := 751) (by decide +kernel)) rfl
theorem wim_X5_hasLetter : Cond.instanceMethod yX5_hasLetter ∈ bpW := wd_in (List.mem_of_getElem? (i := 753) (by decide +kernel)) rfl
theorem wcd_X5_hasLetter : Cond.code yX5_hasLetter cX5_hasLetter 5 (some .boolean) ∈ bpW := wd_in (List.mem_of_getElem? (i := 754) (by decide +kernel)) rfl
theorem wml_L_73 : Cond.methodLink RL 73 yX5_flow ∈ bpW := wd_in (List.mem_of_getElem? (i := 755) (by decide +kernel)) rfl
theorem wim_X5_flow : Cond.instanceMethod yX5_flow ∈ bpW := wd_in (List.mem_of_getElem? (i := 756) (by decide +kernel)) rfl
theorem wse_X5_flow : Cond.selects RX5 yX5_flow yX5_flow ∈ bpW := wd_in (List.mem_of_getElem? (i := 757) (by decide +kernel)) rfl
theorem wcd_X5_flow : Cond.code yX5_flow cX5_flow 3 (some .int) ∈ bpW := wd_in (List.mem_of_getElem? (i := 758) (by decide +kernel)) rfl
theorem wml_X5_186 : Cond.methodLink RX5 186 yX5_flowNow ∈ bpW := wd_in (List.mem_of_getElem? (i := 759) (by decide +kernel)) rfl
theorem wim_X5_flowNow : Cond.instanceMethod yX5_flowNow ∈ bpW := wd_in (List.mem_of_getElem? (i := 761) (by decide +kernel)) rfl
theorem wcd_X5_flowNow : Cond.code yX5_flowNow cX5_flowNow 3 (some .int) ∈ bpW := wd_in (List.mem_of_getElem? (i := 762) (by decide +kernel)) rfl
theorem wml_L_77 : Cond.methodLink RL 77 yX5_tick ∈ bpW := wd_in (List.mem_of_getElem? (i := 763) (by decide +kernel)) rfl
theorem wim_X5_tick : Cond.instanceMethod yX5_tick ∈ bpW := wd_in (List.mem_of_getElem? (i := 764) (by decide +kernel)) rfl
theorem wse_X5_tick : Cond.selects RX5 yX5_tick yX5_tick ∈ bpW := wd_in (List.mem_of_getElem? (i := 765) (by decide +kernel)) rfl
theorem wcd_X5_tick : Cond.code yX5_tick cX5_tick 4 (some .int) ∈ bpW := wd_in (List.mem_of_getElem? (i := 766) (by decide +kernel)) rfl
theorem wml_X5_198 : Cond.methodLink RX5 198 yX5_tickNow ∈ bpW := wd_in (List.mem_of_getElem? (i := 767) (by decide +kernel)) rfl
theorem wim_X5_tickNow : Cond.instanceMethod yX5_tickNow ∈ bpW := wd_in (List.mem_of_getElem? (i := 769) (by decide +kernel)) rfl
theorem wcd_X5_tickNow : Cond.code yX5_tickNow cX5_tickNow 3 (some .int) ∈ bpW := wd_in (List.mem_of_getElem? (i := 770) (by decide +kernel)) rfl
theorem wml_X5_189 : Cond.methodLink RX5 189 yX5_hearLess ∈ bpW := wd_in (List.mem_of_getElem? (i := 771) (by decide +kernel)) rfl
theorem wim_X5_hearLess : Cond.instanceMethod yX5_hearLess ∈ bpW := wd_in (List.mem_of_getElem? (i := 773) (by decide +kernel)) rfl
theorem wcd_X5_hearLess : Cond.code yX5_hearLess cX5_hearLess 2 none ∈ bpW := wd_in (List.mem_of_getElem? (i := 774) (by decide +kernel)) rfl
theorem wml_X5_192 : Cond.methodLink RX5 192 yX5_waitMore ∈ bpW := wd_in (List.mem_of_getElem? (i := 775) (by decide +kernel)) rfl
theorem wim_X5_waitMore : Cond.instanceMethod yX5_waitMore ∈ bpW := wd_in (List.mem_of_getElem? (i := 777) (by decide +kernel)) rfl
theorem wcd_X5_waitMore : Cond.code yX5_waitMore cX5_waitMore 2 none ∈ bpW := wd_in (List.mem_of_getElem? (i := 778) (by decide +kernel)) rfl
theorem wml_X5_195 : Cond.methodLink RX5 195 yX5_goesOut ∈ bpW := wd_in (List.mem_of_getElem? (i := 779) (by decide +kernel)) rfl
theorem wim_X5_goesOut : Cond.instanceMethod yX5_goesOut ∈ bpW := wd_in (List.mem_of_getElem? (i := 781) (by decide +kernel)) rfl
theorem wcd_X5_goesOut : Cond.code yX5_goesOut cX5_goesOut 5 (some .int) ∈ bpW := wd_in (List.mem_of_getElem? (i := 782) (by decide +kernel)) rfl
theorem wml_L_81 : Cond.methodLink RL 81 yX5_count ∈ bpW := wd_in (List.mem_of_getElem? (i := 783) (by decide +kernel)) rfl
theorem wim_X5_count : Cond.instanceMethod yX5_count ∈ bpW := wd_in (List.mem_of_getElem? (i := 784) (by decide +kernel)) rfl
theorem wse_X5_count : Cond.selects RX5 yX5_count yX5_count ∈ bpW := wd_in (List.mem_of_getElem? (i := 785) (by decide +kernel)) rfl
theorem wcd_X5_count : Cond.code yX5_count cX5_count 2 (some .int) ∈ bpW := wd_in (List.mem_of_getElem? (i := 786) (by decide +kernel)) rfl
theorem wml_X5_205 : Cond.methodLink RX5 205 yX5_howMany ∈ bpW := wd_in (List.mem_of_getElem? (i := 787) (by decide +kernel)) rfl
theorem wim_X5_howMany : Cond.instanceMethod yX5_howMany ∈ bpW := wd_in (List.mem_of_getElem? (i := 789) (by decide +kernel)) rfl
theorem wcd_X5_howMany : Cond.code yX5_howMany cX5_howMany 2 (some .int) ∈ bpW := wd_in (List.mem_of_getElem? (i := 790) (by decide +kernel)) rfl
theorem wml_X5_201 : Cond.methodLink RX5 201 yX5_sumOf ∈ bpW := wd_in (List.mem_of_getElem? (i := 791) (by decide +kernel)) rfl
theorem wim_X5_sumOf : Cond.instanceMethod yX5_sumOf ∈ bpW := wd_in (List.mem_of_getElem? (i := 793) (by decide +kernel)) rfl
theorem wcd_X5_sumOf : Cond.code yX5_sumOf cX5_sumOf 4 (some .int) ∈ bpW := wd_in (List.mem_of_getElem? (i := 794) (by decide +kernel)) rfl
theorem wml_L_86 : Cond.methodLink RL 86 yX5_digest ∈ bpW := wd_in (List.mem_of_getElem? (i := 795) (by decide +kernel)) rfl
theorem wim_X5_digest : Cond.instanceMethod yX5_digest ∈ bpW := wd_in (List.mem_of_getElem? (i := 796) (by decide +kernel)) rfl
theorem wse_X5_digest : Cond.selects RX5 yX5_digest yX5_digest ∈ bpW := wd_in (List.mem_of_getElem? (i := 797) (by decide +kernel)) rfl
theorem wcd_X5_digest : Cond.code yX5_digest cX5_digest 3 (some .long) ∈ bpW := wd_in (List.mem_of_getElem? (i := 798) (by decide +kernel)) rfl
theorem wcL_X5_218 : Cond.constantLong RX5 218 (1741 : Int64) ∈ bpW := wd_in (List.mem_of_getElem? (i := 799) (by decide +kernel)) rfl
theorem wml_X5_220 : Cond.methodLink RX5 220 yX5_mixPorts ∈ bpW := wd_in (List.mem_of_getElem? (i := 800) (by decide +kernel)) rfl
theorem wim_X5_mixPorts : Cond.instanceMethod yX5_mixPorts ∈ bpW := wd_in (List.mem_of_getElem? (i := 802) (by decide +kernel)) rfl
theorem wcd_X5_mixPorts : Cond.code yX5_mixPorts cX5_mixPorts 3 none ∈ bpW := wd_in (List.mem_of_getElem? (i := 803) (by decide +kernel)) rfl
theorem wml_X5_214 : Cond.methodLink RX5 214 yX5_mix ∈ bpW := wd_in (List.mem_of_getElem? (i := 804) (by decide +kernel)) rfl
theorem wim_X5_mix : Cond.instanceMethod yX5_mix ∈ bpW := wd_in (List.mem_of_getElem? (i := 806) (by decide +kernel)) rfl
theorem wcd_X5_mix : Cond.code yX5_mix cX5_mix 3 none ∈ bpW := wd_in (List.mem_of_getElem? (i := 807) (by decide +kernel)) rfl
theorem wcL_X5_208 : Cond.constantLong RX5 208 (31 : Int64) ∈ bpW := wd_in (List.mem_of_getElem? (i := 808) (by decide +kernel)) rfl
theorem wml_X5_223 : Cond.methodLink RX5 223 yX5_mixFlows ∈ bpW := wd_in (List.mem_of_getElem? (i := 809) (by decide +kernel)) rfl
theorem wim_X5_mixFlows : Cond.instanceMethod yX5_mixFlows ∈ bpW := wd_in (List.mem_of_getElem? (i := 811) (by decide +kernel)) rfl
theorem wcd_X5_mixFlows : Cond.code yX5_mixFlows cX5_mixFlows 3 none ∈ bpW := wd_in (List.mem_of_getElem? (i := 812) (by decide +kernel)) rfl
theorem wla_X0 : ∀ w ∈ u_ws RX0 TX0 8, w ∈ bpW := by
  have h : u_ws RX0 TX0 8 = ([181, 183, 185, 187, 189, 191, 193, 195] : List Nat).filterMap (fun i => lw_tbl[i]?) := by decide +kernel
  have g : (u_ws RX0 TX0 8).all goodWord = true := by decide +kernel
  intro w hw
  have gw := List.all_eq_true.mp g w hw
  rw [h] at hw
  obtain ⟨i, -, hi⟩ := List.mem_filterMap.mp hw
  exact wd_in (List.mem_of_getElem? hi) gw
theorem wla_X1 : ∀ w ∈ u_ws RX1 TX1 2, w ∈ bpW := by
  have h : u_ws RX1 TX1 2 = ([82, 84] : List Nat).filterMap (fun i => lw_tbl[i]?) := by decide +kernel
  have g : (u_ws RX1 TX1 2).all goodWord = true := by decide +kernel
  intro w hw
  have gw := List.all_eq_true.mp g w hw
  rw [h] at hw
  obtain ⟨i, -, hi⟩ := List.mem_filterMap.mp hw
  exact wd_in (List.mem_of_getElem? hi) gw
theorem wla_X2 : ∀ w ∈ u_ws RX2 TX2 11, w ∈ bpW := by
  have h : u_ws RX2 TX2 11 = ([137, 139, 141, 143, 145, 147, 149, 151, 153, 155, 157] : List Nat).filterMap (fun i => lw_tbl[i]?) := by decide +kernel
  have g : (u_ws RX2 TX2 11).all goodWord = true := by decide +kernel
  intro w hw
  have gw := List.all_eq_true.mp g w hw
  rw [h] at hw
  obtain ⟨i, -, hi⟩ := List.mem_filterMap.mp hw
  exact wd_in (List.mem_of_getElem? hi) gw
theorem wla_X3 : ∀ w ∈ u_ws RX3 TX3 3, w ∈ bpW := by
  have h : u_ws RX3 TX3 3 = ([108, 110, 112] : List Nat).filterMap (fun i => lw_tbl[i]?) := by decide +kernel
  have g : (u_ws RX3 TX3 3).all goodWord = true := by decide +kernel
  intro w hw
  have gw := List.all_eq_true.mp g w hw
  rw [h] at hw
  obtain ⟨i, -, hi⟩ := List.mem_filterMap.mp hw
  exact wd_in (List.mem_of_getElem? hi) gw
theorem wla_X4 : ∀ w ∈ u_ws RX4 TX4 10, w ∈ bpW := by
  have h : u_ws RX4 TX4 10 = ([208, 210, 212, 214, 216, 218, 220, 222, 224, 226] : List Nat).filterMap (fun i => lw_tbl[i]?) := by decide +kernel
  have g : (u_ws RX4 TX4 10).all goodWord = true := by decide +kernel
  intro w hw
  have gw := List.all_eq_true.mp g w hw
  rw [h] at hw
  obtain ⟨i, -, hi⟩ := List.mem_filterMap.mp hw
  exact wd_in (List.mem_of_getElem? hi) gw
theorem wla_X5 : ∀ w ∈ u_ws RX5 TX5 30, w ∈ bpW := by
  have h : u_ws RX5 TX5 30 = ([543, 545, 547, 549, 551, 553, 555, 557, 559, 561, 563, 565, 567, 569, 571, 573, 575, 577, 579, 581, 583, 585, 587, 589, 591, 593, 595, 597, 599, 601] : List Nat).filterMap (fun i => lw_tbl[i]?) := by decide +kernel
  have g : (u_ws RX5 TX5 30).all goodWord = true := by decide +kernel
  intro w hw
  have gw := List.all_eq_true.mp g w hw
  rw [h] at hw
  obtain ⟨i, -, hi⟩ := List.mem_filterMap.mp hw
  exact wd_in (List.mem_of_getElem? hi) gw
theorem wd_good : ∀ w ∈ bpW, (w.onTables && w.keeps) = true ∨ ∃ ty, w = .arrayClass ty := fun w hw => good_of_word (List.mem_filter.mp hw).2
end
section
/-! the world: kinds 0 BoundPorts, 1 Page, 2 codes, 3 ports[], 4 flows[], 5 Port, 6 Queue, 7 flowRow, 8 numberRow, 9 Flow, 10 held, 11 the reference, 20+s its array of slot s -/
abbrev bpC : Type := Nat → Nat → Nat → Int32
abbrev bpM : Type := Nat → Nat → Int32
abbrev bpG : Type := (Nat → Nat → Nat) × va_G × (Nat → ClassId)
abbrev bpCl : List vw_C := [(RX0, TX0, 8), (RX1, TX1, 2), (RX2, TX2, 11), (RX3, TX3, 3), (RX4, TX4, 10), (RX5, TX5, 30)]
abbrev bpT (G : bpG) : List (ClassId × FieldType) := [(G.2.2 0, .int), (G.2.2 1, .boolean), (G.2.2 2, .object "BoundPorts$Port"), (G.2.2 3, .object "BoundPorts$Flow")]
/-- how many cells of a kind -/
def bpN : Nat → Nat
  | 0 => 1 | 1 => 1 | 2 => 1 | 3 => 1 | 4 => 1 | 5 => 6 | 6 => 6 | 7 => 6 | 8 => 6 | 9 => 12 | 10 => 12 | 11 => 1
  | 21 => 1 | 23 => 1 | 24 => 1 | 25 => 1 | 26 => 1 | 27 => 1 | 28 => 1 | 29 => 1 | 30 => 1 | 35 => 1 | 36 => 1 | 37 => 1 | 38 => 1 | 39 => 1 | 40 => 1 | 41 => 1 | 42 => 1 | 43 => 1 | 44 => 1 | 45 => 1 | 48 => 1
  | _ => 0
/-- objects: class number and fields -/
def bpO : Nat → Option (Nat × Nat)
  | 0 => some (4, 10) | 1 => some (1, 2) | 5 => some (2, 11) | 6 => some (3, 3) | 9 => some (0, 8) | 11 => some (5, 30) | _ => none
/-- arrays: which array class, how long -/
def bpL : Nat → Nat × Nat
  | 2 => (0, 17) | 3 => (2, 6) | 4 => (3, 12) | 7 => (0, 20) | 8 => (0, 20) | 10 => (0, 8)
  | 21 => (0, 17) | 23 => (0, 6) | 24 => (0, 6) | 25 => (1, 6) | 26 => (0, 6) | 27 => (0, 6) | 28 => (1, 6) | 29 => (0, 6) | 30 => (0, 6) | 35 => (0, 144) | 36 => (0, 144) | 37 => (0, 6) | 38 => (0, 12) | 39 => (1, 12) | 40 => (0, 12) | 41 => (0, 96) | 42 => (0, 12) | 43 => (0, 12) | 44 => (0, 12) | 45 => (0, 12) | 48 => (0, 24)
  | _ => (0, 0)
/-- what a field is: 0 an int or boolean, 1 the long, t+2 the cell of kind t of the same number -/
def bpF : Nat → Nat → Nat
  | 0, 0 => 3 | 0, 1 => 5 | 0, 2 => 6 | 1, 0 => 4 | 5, 0 => 8 | 6, 0 => 9 | 6, 1 => 10 | 9, 0 => 12
  | 11, 1 => 23 | 11, 3 => 25 | 11, 4 => 26 | 11, 5 => 27 | 11, 6 => 28 | 11, 7 => 29 | 11, 8 => 30 | 11, 9 => 31 | 11, 10 => 32 | 11, 15 => 37 | 11, 16 => 38 | 11, 17 => 39 | 11, 18 => 40 | 11, 19 => 41 | 11, 20 => 42 | 11, 21 => 43 | 11, 22 => 44 | 11, 23 => 45 | 11, 24 => 46 | 11, 25 => 47 | 11, 28 => 50
  | 11, 29 => 1
  | _, _ => 0
/-- arrays of cells: the kind + 1 -/
def bpE : Nat → Nat
  | 3 => 6 | 4 => 10 | _ => 0
def bpv (G : bpG) (hl : Int64) (i : Nat) (f : Nat → Int32) (j : Nat) : Nat → Value
  | 0 => .int (f j)
  | 1 => .long hl
  | t + 2 => .ref (G.1 t i)
def bpw (G : bpG) (f : Nat → Int32) (j : Nat) : Nat → Value
  | 0 => .int (f j)
  | t + 1 => .ref (G.1 t j)
def bpAt (G : bpG) (hl : Int64) (k i : Nat) (f : Nat → Int32) (H : Heap) : Prop := match bpO k with
  | some q => t_OB (G.1 k i) (G.2.1.1 q.1) q.2 (G.2.1.2 q.1) H (fun j => bpv G hl i f j (bpF k j))
  | none => H[G.1 k i]? = some (arrV (G.2.2 (bpL k).1) (bpL k).2 (fun j => bpw G f j (bpE k)))
def bpm (C : bpC) (M : bpM) (k i : Nat) : Nat → Int32 := if k < 11 then C k i else if k = 11 then (fun j => M j 0) else M (k - 20)
def WP (G : bpG) (C : bpC) (M : bpM) (hl : Int64) (H : Heap) : Prop := ∀ k i : Nat, i < bpN k → bpAt G hl k i (bpm C M k i) H
def bpGood (G : bpG) : Prop := ∀ k i k' i' : Nat, i < bpN k → i' < bpN k' → G.1 k i = G.1 k' i' → k = k' ∧ i = i'
def bpA (G : bpG) : Nat → Prop := fun q => ∃ k i : Nat, i < bpN k ∧ q = G.1 k i
def upC (C : bpC) (k i j : Nat) (v : Int32) : bpC := fun k' i' j' => if k' = k ∧ i' = i ∧ j' = j then v else C k' i' j'
def upM (M : bpM) (k j : Nat) (v : Int32) : bpM := fun k' j' => if k' = k ∧ j' = j then v else M k' j'
theorem bpAt.kept {G : bpG} {hl : Int64} {k i : Nat} {f : Nat → Int32} {H H1 : Heap} (h : bpAt G hl k i f H) (e : H1[G.1 k i]? = H[G.1 k i]?) : bpAt G hl k i f H1 := by
  unfold bpAt at h ⊢
  cases hO : bpO k with
  | none => rw [hO] at h; exact e.trans h
  | some q => rw [hO] at h; exact h.kept e
theorem bpAt.to {G : bpG} {hl hl' : Int64} {k i : Nat} {f f' : Nat → Int32} {H : Heap} (h : bpAt G hl k i f H) (e : ∀ j, bpv G hl i f j (bpF k j) = bpv G hl' i f' j (bpF k j)) (e2 : bpO k = none → ∀ j, bpw G f j (bpE k) = bpw G f' j (bpE k)) : bpAt G hl' k i f' H := by
  unfold bpAt at h ⊢
  cases hO : bpO k with
  | none => rw [hO] at h; exact h.trans (congrArg (fun z => some (arrV (G.2.2 (bpL k).1) (bpL k).2 z)) (funext (e2 hO)))
  | some q => rw [hO] at h; exact h.to (fun j _ => e j)
/-- one cell written -/
theorem WP.put {G : bpG} {C C' : bpC} {M M' : bpM} {hl hl' : Int64} {H H1 : Heap} {k0 i0 : Nat} (h : WP G C M hl H) (g : bpGood G) (hi : i0 < bpN k0) (new : bpAt G hl' k0 i0 (bpm C' M' k0 i0) H1) (oth : ∀ q, q ≠ G.1 k0 i0 → H1[q]? = H[q]?)
    (same : ∀ k i, i < bpN k → ¬ (k = k0 ∧ i = i0) → bpAt G hl k i (bpm C M k i) H1 → bpAt G hl' k i (bpm C' M' k i) H1) : WP G C' M' hl' H1 := by
  intro k i hk
  by_cases e : k = k0 ∧ i = i0
  · obtain ⟨rfl, rfl⟩ := e
    exact new
  · exact same k i hk e ((h k i hk).kept (oth _ (fun z => e (g k i k0 i0 hk hi z))))
theorem bpA_in {G : bpG} {k i : Nat} (hi : i < bpN k) : bpA G (G.1 k i) := ⟨k, i, hi, rfl⟩
theorem upC_same (C : bpC) (k i j : Nat) (v : Int32) : upC C k i j v k i = upd (C k i) j v := by
  funext j'
  simp [upC, upd]
theorem upC_other (C : bpC) (k i j : Nat) (v : Int32) {k' i' : Nat} (h : ¬ (k' = k ∧ i' = i)) : upC C k i j v k' i' = C k' i' := by
  funext j'
  simp only [upC]
  rw [if_neg (fun q => h ⟨q.1, q.2.1⟩)]
theorem upC_at (C : bpC) (k i j : Nat) (v : Int32) : upC C k i j v k i j = v := by simp [upC]
theorem upC_ne (C : bpC) (k i j : Nat) (v : Int32) {k' i' j' : Nat} (h : ¬ (k' = k ∧ i' = i ∧ j' = j)) : upC C k i j v k' i' j' = C k' i' j' := by
  simp only [upC]
  rw [if_neg h]
theorem upM_at (M : bpM) (k j : Nat) (v : Int32) : upM M k j v k j = v := by simp [upM]
theorem upM_ne (M : bpM) (k j : Nat) (v : Int32) {k' j' : Nat} (h : ¬ (k' = k ∧ j' = j)) : upM M k j v k' j' = M k' j' := by
  simp only [upM]
  rw [if_neg h]
theorem upM_same (M : bpM) (k j : Nat) (v : Int32) : upM M k j v k = upd (M k) j v := by
  funext j'
  simp [upM, upd]
theorem upM_other (M : bpM) (k j : Nat) (v : Int32) {k' : Nat} (h : k' ≠ k) : upM M k j v k' = M k' := by
  funext j'
  simp only [upM]
  rw [if_neg (fun q => h q.1)]
theorem bpm_c (C : bpC) (M : bpM) {k : Nat} (h : k < 11) (i : Nat) : bpm C M k i = C k i := by simp [bpm, h]
theorem bpm_o (C : bpC) (M : bpM) (i : Nat) : bpm C M 11 i = fun j => M j 0 := by simp [bpm]
theorem bpm_a (C : bpC) (M : bpM) (s i : Nat) : bpm C M (20 + s) i = M s := by
  have h : ¬ 20 + s < 11 := by omega
  have h2 : ¬ 20 + s = 11 := by omega
  have h3 : 20 + s - 20 = s := by omega
  simp only [bpm]
  rw [if_neg h, if_neg h2, h3]
/-- an array slot of the reference is no int of its object -/
theorem bpF_arr : ∀ s : Nat, 0 < bpN (20 + s) → bpF 11 s ≠ 0 := by
  intro s h
  have hs : s < 29 := by
    rcases Nat.lt_or_ge s 29 with q | q
    · exact q
    · exfalso
      have e : bpN (20 + s) = 0 := by
        have : ∃ t, s = t + 29 := ⟨s - 29, by omega⟩
        obtain ⟨t, rfl⟩ := this
        show bpN (20 + (t + 29)) = 0
        have e2 : 20 + (t + 29) = t + 49 := by omega
        rw [e2]
        rfl
      omega
  have key : ∀ s, s < 29 → 0 < bpN (20 + s) → bpF 11 s ≠ 0 := by decide +kernel
  exact key s hs h
/-- kinds of the reference's arrays -/
theorem bpN_big {k : Nat} (h : 11 < k) (hk : 0 < bpN k) : ∃ s, k = 20 + s := by
  rcases Nat.lt_or_ge k 20 with q | q
  · exfalso
    have key : ∀ k, k < 20 → 11 < k → bpN k = 0 := by decide +kernel
    have := key k q h
    omega
  · exact ⟨k - 20, by omega⟩
/-- a class cell written -/
theorem WP.putC {G : bpG} {C : bpC} {M : bpM} {hl : Int64} {H H1 : Heap} {k i j : Nat} {v : Int32} (h : WP G C M hl H) (g : bpGood G) (hi : i < bpN k) (hk : k < 11) (new : bpAt G hl k i (upd (C k i) j v) H1) (oth : ∀ q, q ≠ G.1 k i → H1[q]? = H[q]?) : WP G (upC C k i j v) M hl H1 := by
  refine h.put g hi (by rw [bpm_c _ _ hk, upC_same]; exact new) oth (fun k' i' h' ne q => ?_)
  have e : bpm (upC C k i j v) M k' i' = bpm C M k' i' := by
    unfold bpm
    by_cases h1 : k' < 11
    · rw [if_pos h1, if_pos h1, upC_other _ _ _ _ _ ne]
    · rw [if_neg h1, if_neg h1]
  rw [e]
  exact q
/-- a number of the reference's object written -/
theorem WP.putO {G : bpG} {C : bpC} {M : bpM} {hl : Int64} {H H1 : Heap} {j : Nat} {v : Int32} (h : WP G C M hl H) (g : bpGood G) (hj : bpF 11 j = 0) (new : bpAt G hl 11 0 (upd (fun j => M j 0) j v) H1) (oth : ∀ q, q ≠ G.1 11 0 → H1[q]? = H[q]?) : WP G C (upM M j 0 v) hl H1 := by
  refine h.put g (k0 := 11) (i0 := 0) (by decide) ?_ oth (fun k' i' h' ne q => ?_)
  · rw [bpm_o]
    have e : (fun j' => upM M j 0 v j' 0) = upd (fun j => M j 0) j v := by
      funext j'
      simp [upM, upd]
    rw [e]
    exact new
  · have e : bpm C (upM M j 0 v) k' i' = bpm C M k' i' := by
      by_cases h1 : k' < 11
      · rw [bpm_c _ _ h1, bpm_c _ _ h1]
      · by_cases h2 : k' = 11
        · subst h2
          have : bpN 11 = 1 := rfl
          exact absurd ⟨rfl, by omega⟩ ne
        · obtain ⟨s, rfl⟩ := bpN_big (by omega) (Nat.lt_of_le_of_lt (Nat.zero_le _) h')
          rw [bpm_a, bpm_a]
          refine upM_other _ _ _ _ (fun z => ?_)
          subst z
          exact bpF_arr _ (Nat.lt_of_le_of_lt (Nat.zero_le _) h') hj
    rw [e]
    exact q
/-- a place of an array of the reference's written -/
theorem WP.putA {G : bpG} {C : bpC} {M : bpM} {hl : Int64} {H H1 : Heap} {s j : Nat} {v : Int32} (h : WP G C M hl H) (g : bpGood G) (hs : 0 < bpN (20 + s)) (new : bpAt G hl (20 + s) 0 (upd (M s) j v) H1) (oth : ∀ q, q ≠ G.1 (20 + s) 0 → H1[q]? = H[q]?) : WP G C (upM M s j v) hl H1 := by
  refine h.put g (k0 := 20 + s) (i0 := 0) hs (by rw [bpm_a, upM_same]; exact new) oth (fun k' i' h' ne q => ?_)
  by_cases h1 : k' < 11
  · rw [bpm_c _ _ h1] at q ⊢
    exact q
  · by_cases h2 : k' = 11
    · subst h2
      rw [bpm_o] at q ⊢
      refine q.to (fun j' => ?_) (fun z => by cases z)
      by_cases e : j' = s
      · subst e
        have := bpF_arr _ hs
        cases hb : bpF 11 j' with
        | zero => exact absurd hb this
        | succ t => cases t <;> rfl
      · have : upM M s j v j' 0 = M j' 0 := upM_ne _ _ _ _ (fun z => e z.1)
        cases hb : bpF 11 j' with
        | zero => show Value.int (M j' 0) = Value.int (upM M s j v j' 0); rw [this]
        | succ t => cases t <;> rfl
    · obtain ⟨s', rfl⟩ := bpN_big (by omega) (Nat.lt_of_le_of_lt (Nat.zero_le _) h')
      rw [bpm_a] at q ⊢
      have hi' : i' = 0 := by
        have : bpN (20 + s') ≤ 1 := by
          rcases Nat.lt_or_ge s' 29 with w | w
          · have key : ∀ s, s < 29 → bpN (20 + s) ≤ 1 := by decide +kernel
            exact key s' w
          · have : ∃ t, s' = t + 29 := ⟨s' - 29, by omega⟩
            obtain ⟨t, rfl⟩ := this
            have e2 : 20 + (t + 29) = t + 49 := by omega
            rw [e2]
            show (0 : Nat) ≤ 1
            decide
        omega
      subst hi'
      rw [upM_other _ _ _ _ (fun z => ne ⟨by rw [z], rfl⟩)]
      exact q
/-- the long written -/
theorem WP.putH {G : bpG} {C : bpC} {M : bpM} {hl hl' : Int64} {H H1 : Heap} (h : WP G C M hl H) (g : bpGood G) (new : bpAt G hl' 11 0 (fun j => M j 0) H1) (oth : ∀ q, q ≠ G.1 11 0 → H1[q]? = H[q]?) : WP G C M hl' H1 := by
  refine h.put g (k0 := 11) (i0 := 0) (by decide) (by rw [bpm_o]; exact new) oth (fun k' i' h' ne q => ?_)
  refine q.to (fun j' => ?_) (fun _ _ => rfl)
  have hk : k' ≠ 11 := fun z => by
    subst z
    have : bpN 11 = 1 := rfl
    exact ne ⟨rfl, by omega⟩
  have : bpF k' j' ≠ 1 := by
    intro z
    unfold bpF at z
    split at z <;> first | (simp at z; done) | exact hk rfl
  cases hb : bpF k' j' with
  | zero => rfl
  | succ t =>
    cases t with
    | zero => exact absurd hb this
    | succ t => rfl
end
section
/-! the judgement Rn: from here, with these locals, stack and world, the method comes to its end -/
abbrev bpK : Type := Program × Launch × Env × Room × State × MethodId × Array Value × List Frame × Method × Code × Nat × Nat × (State → Prop)
abbrev kp (κ : bpK) : Program := κ.1
abbrev kl (κ : bpK) : Launch := κ.2.1
abbrev ke (κ : bpK) : Env := κ.2.2.1
abbrev kR (κ : bpK) : Room := κ.2.2.2.1
abbrev ks (κ : bpK) : State := κ.2.2.2.2.1
abbrev km (κ : bpK) : MethodId := κ.2.2.2.2.2.1
abbrev ka (κ : bpK) : Array Value := κ.2.2.2.2.2.2.1
abbrev kb (κ : bpK) : List Frame := κ.2.2.2.2.2.2.2.1
abbrev kM (κ : bpK) : Method := κ.2.2.2.2.2.2.2.2.1
abbrev kc (κ : bpK) : Code := κ.2.2.2.2.2.2.2.2.2.1
abbrev kn (κ : bpK) : Nat := κ.2.2.2.2.2.2.2.2.2.2.1
abbrev kS (κ : bpK) : Nat := κ.2.2.2.2.2.2.2.2.2.2.2.1
abbrev kQ (κ : bpK) : State → Prop := κ.2.2.2.2.2.2.2.2.2.2.2.2
/-- locals by their places -/
def asc : Nat → List (Option Value) → List (Nat × Value)
  | _, [] => []
  | n, none :: t => asc (n + 1) t
  | n, some v :: t => (n, v) :: asc (n + 1) t
def lvs (ls : Array Slot) (lv : List (Option Value)) : Prop := lv_has ls lv.length (asc 0 lv)
theorem asc_mem : ∀ (lv : List (Option Value)) (n j : Nat) (v : Value), (j, v) ∈ asc n lv ↔ ∃ i, j = n + i ∧ lv[i]? = some (some v)
  | [], n, j, v => by simp [asc]
  | none :: t, n, j, v => by
    simp only [asc]
    rw [asc_mem t (n + 1) j v]
    constructor
    · rintro ⟨i, h1, h2⟩
      exact ⟨i + 1, by omega, by simpa using h2⟩
    · rintro ⟨i, h1, h2⟩
      cases i with
      | zero => simp at h2
      | succ i => exact ⟨i, by omega, by simpa using h2⟩
  | some w :: t, n, j, v => by
    simp only [asc, List.mem_cons]
    rw [asc_mem t (n + 1) j v]
    constructor
    · rintro (h | ⟨i, h1, h2⟩)
      · cases h
        exact ⟨0, by omega, by simp⟩
      · exact ⟨i + 1, by omega, by simpa using h2⟩
    · rintro ⟨i, h1, h2⟩
      cases i with
      | zero =>
        left
        simp at h2
        rw [h2, h1]
        rfl
      | succ i => exact Or.inr ⟨i, by omega, by simpa using h2⟩
theorem lvs_get {ls : Array Slot} {lv : List (Option Value)} {i : Nat} {v : Value} (h : lvs ls lv) (hi : lv[i]? = some (some v)) : ls[i]? = some (.val v) :=
  h.2.2 (i, v) ((asc_mem lv 0 i v).mpr ⟨i, by omega, hi⟩)
/-- no long lies just ahead of a place -/
def nolong (lv : List (Option Value)) (i : Nat) : Bool := match i with
  | 0 => true
  | i + 1 => match lv[i]? with
    | some (some v) => v.category != 2
    | _ => true
theorem lvs_set {ls : Array Slot} {lv lv' : List (Option Value)} {i : Nat} {v : Value} (hn : nolong lv i = true) (hs : lv' = lv.set i (some v)) (hi : i < lv.length) (h : lv_has ls lv.length ((i, v) :: (asc 0 lv).filter (fun q => !(q.1 == i) && !(q.1 + 1 == i && q.2.category == 2)))) : lvs ls lv' := by
  subst hs
  refine ⟨by rw [List.length_set]; exact h.1, h.2.1, ?_⟩
  rintro ⟨j, w⟩ hq
  obtain ⟨i', h1, h2⟩ := (asc_mem _ 0 j w).mp hq
  have h1 : j = i' := by omega
  subst h1
  by_cases e : j = i
  · subst e
    rw [List.getElem?_set_self hi] at h2
    cases h2
    exact h.2.2 _ List.mem_cons_self
  · rw [List.getElem?_set_ne (Ne.symm e)] at h2
    refine h.2.2 (j, w) (List.mem_cons_of_mem _ (List.mem_filter.mpr ⟨(asc_mem _ 0 j w).mpr ⟨j, by omega, h2⟩, ?_⟩))
    simp only [Bool.and_eq_true, Bool.not_eq_true', beq_eq_false_iff_ne, Bool.and_eq_false_iff]
    refine ⟨e, ?_⟩
    by_cases e2 : j + 1 = i
    · right
      subst e2
      simp only [nolong, h2] at hn
      simpa using hn
    · exact Or.inl e2
theorem lvs_set2 {ls : Array Slot} {lv lv' : List (Option Value)} {i : Nat} {v : Value} (hn : nolong lv i = true) (hs : lv' = (lv.set i (some v)).set (i + 1) none) (hi : i + 1 < lv.length) (h : lv_has ls lv.length ((i, v) :: (asc 0 lv).filter (fun q => !(q.1 == i) && (!(q.1 == i + 1) && !(q.1 + 1 == i && q.2.category == 2))))) : lvs ls lv' := by
  subst hs
  refine ⟨by rw [List.length_set, List.length_set]; exact h.1, h.2.1, ?_⟩
  rintro ⟨j, w⟩ hq
  obtain ⟨i', h1, h2⟩ := (asc_mem _ 0 j w).mp hq
  have h1 : j = i' := by omega
  subst h1
  by_cases e0 : j = i + 1
  · subst e0
    rw [List.getElem?_set_self (by rw [List.length_set]; exact hi)] at h2
    cases h2
  · rw [List.getElem?_set_ne (Ne.symm e0)] at h2
    by_cases e : j = i
    · subst e
      rw [List.getElem?_set_self (by omega)] at h2
      cases h2
      exact h.2.2 _ List.mem_cons_self
    · rw [List.getElem?_set_ne (Ne.symm e)] at h2
      refine h.2.2 (j, w) (List.mem_cons_of_mem _ (List.mem_filter.mpr ⟨(asc_mem _ 0 j w).mpr ⟨j, by omega, h2⟩, ?_⟩))
      simp only [Bool.and_eq_true, Bool.not_eq_true', beq_eq_false_iff_ne, Bool.and_eq_false_iff]
      refine ⟨e, e0, ?_⟩
      by_cases e2 : j + 1 = i
      · right
        subst e2
        simp only [nolong, h2] at hn
        simpa using hn
      · exact Or.inl e2
def Rn (G : bpG) (κ : bpK) (pc : Nat) (lv : List (Option Value)) (st : List Value) (C : bpC) (M : bpM) (hl : Int64) : Prop :=
  ∀ (H : Heap) (locs : List Loc) (ls : Array Slot), WP G C M hl H → va_S (bpA G) (ks κ).heap H locs → lvs ls lv → W (kp κ) (kl κ) (ke κ) (kR κ) (ks κ) (km κ) (ka κ) (kb κ) (kM κ) (kc κ) H locs (kn κ) (kS κ) (kQ κ) (F0 (km κ) pc ls st)
/-- the standing facts of a method that runs -/
def Cx (G : bpG) (κ : bpK) (cc : ByteArray) (nL : Nat) (own : String) (ret : Option FieldType) (R : Room) : Prop :=
  (kp κ).tables.exec = Jvm.exec ∧ (kc κ).code = cc ∧ (kc κ).maxLocals = nL ∧ (ks κ).vm.findClass own = some (km κ).cls ∧ (∀ w ∈ bpW, w.before (ka κ) (ks κ) = true) ∧ (kM κ).sig.returnType = ret ∧ (kM κ).locks = false ∧ va_K G.2.1 bpCl (bpT G) (ks κ) ∧ bpGood G ∧ kR κ = R
/-- a method's end: what it answers, and the world then -/
def Qm (G : bpG) (Q : bpC → bpM → Int64 → Option Value → Prop) : Array Value → State → Outcome → State → Prop := fun _ st o t => (∃ (v : Option Value) (C : bpC) (M : bpM) (hl : Int64), o = .returned v ∧ Q C M hl v ∧ WP G C M hl t.heap) ∧ va_F (bpA G) st t
def Zx (G : bpG) (κ : bpK) (Q : bpC → bpM → Int64 → Option Value → Prop) : Prop := kn κ = 0 ∧ kS κ = 0 ∧ kQ κ = MQ (kb κ) (Qm G Q) (ka κ) (ks κ) 0 0 (bpA G)
/-- a method's contract at a world -/
def Ct (G : bpG) (y : MethodName) (cy : ByteArray) (maxL : Nat) (rety : Option FieldType) (rm : Room) (args : List Value) (C : bpC) (M : bpM) (hl : Int64) (Q : bpC → bpM → Int64 → Option Value → Prop) : Prop :=
  ∀ l : Launch, Met l y (Cond.code y cy maxL rety :: bpW) rm (va_Pc args (fun U => bpGood G ∧ WP G C M hl U.heap ∧ va_K G.2.1 bpCl (bpT G) U)) (Qm G Q) 0 0 (bpA G)
/-- what a call needs to know of its callee -/
def MdB (y : MethodName) (cy : ByteArray) (maxL : Nat) (rety : Option FieldType) (n : Nat) : Prop := Cond.code y cy maxL rety ∈ bpW ∧ Cond.initialized y.cls ∈ bpW ∧ (y.cls ≠ "java/lang/invoke/MethodHandle" ∧ y.cls ≠ "java/lang/invoke/VarHandle" ∧ (parseMethodDescriptor y.desc).map (fun d => d.parameters.length) = some n)
def MdV (y : MethodName) (cy : ByteArray) (maxL : Nat) (rety : Option FieldType) (n : Nat) : Prop := MdB y cy maxL rety n ∧ Cond.instanceMethod y ∈ bpW ∧ Cond.selects y.cls y y ∈ bpW
def MdS (y : MethodName) (cy : ByteArray) (maxL : Nat) (rety : Option FieldType) (n : Nat) : Prop := MdB y cy maxL rety n ∧ Cond.static y ∈ bpW
def Rm (rm R : Room) (maxL : Nat) : Prop := rm.cells = 0 ∧ rm.slots = 0 ∧ rm.frames + 1 ≤ R.frames ∧ 8 + (maxL + 11) + rm.locals ≤ R.locals
section RULES
variable {G : bpG} {κ : bpK} {cc : ByteArray} {nL : Nat} {own : String} {ret : Option FieldType} {R : Room} {pc : Nat} {lv : List (Option Value)} {st : List Value} {C : bpC} {M : bpM} {hl : Int64}
theorem Rn.eqst {st2 : List Value} (h : st = st2) (k : Rn G κ pc lv st2 C M hl) : Rn G κ pc lv st C M hl := h ▸ k
theorem Rn.eqpc {pc2 : Nat} (h : pc = pc2) (k : Rn G κ pc2 lv st C M hl) : Rn G κ pc lv st C M hl := h ▸ k
theorem Rn.eqlv {lv2 : List (Option Value)} (h : lv = lv2) (k : Rn G κ pc lv2 st C M hl) : Rn G κ pc lv st C M hl := h ▸ k
theorem Rn.eqC {C2 : bpC} (h : C = C2) (k : Rn G κ pc lv st C2 M hl) : Rn G κ pc lv st C M hl := h ▸ k
theorem Rn.eqM {M2 : bpM} (h : M = M2) (k : Rn G κ pc lv st C M2 hl) : Rn G κ pc lv st C M hl := h ▸ k
theorem r_top {x x' : Int32} (h : x = x') (k : Rn G κ pc lv (.int x' :: st) C M hl) : Rn G κ pc lv (.int x :: st) C M hl := h ▸ k
theorem r_topl {x x' : Int64} (h : x = x') (k : Rn G κ pc lv (.long x' :: st) C M hl) : Rn G κ pc lv (.long x :: st) C M hl := h ▸ k
theorem r_iadd {x y : Int32} (X : Cx G κ cc nL own ret R) (d : decode cc pc = .ok (.iadd, 1)) (k : Rn G κ (pc + 1) lv (.int (x + y) :: st) C M hl) : Rn G κ pc lv (.int y :: .int x :: st) C M hl := fun H locs ls hP hS hL => lv_iadd X.1 X.2.1 d (k H locs ls hP hS hL)
theorem r_isub {x y : Int32} (X : Cx G κ cc nL own ret R) (d : decode cc pc = .ok (.isub, 1)) (k : Rn G κ (pc + 1) lv (.int (x - y) :: st) C M hl) : Rn G κ pc lv (.int y :: .int x :: st) C M hl := fun H locs ls hP hS hL => lv_isub X.1 X.2.1 d (k H locs ls hP hS hL)
theorem r_imul {x y : Int32} (X : Cx G κ cc nL own ret R) (d : decode cc pc = .ok (.imul, 1)) (k : Rn G κ (pc + 1) lv (.int (x * y) :: st) C M hl) : Rn G κ pc lv (.int y :: .int x :: st) C M hl := fun H locs ls hP hS hL => lv_imul X.1 X.2.1 d (k H locs ls hP hS hL)
theorem r_iand {x y : Int32} (X : Cx G κ cc nL own ret R) (d : decode cc pc = .ok (.iand, 1)) (k : Rn G κ (pc + 1) lv (.int (x &&& y) :: st) C M hl) : Rn G κ pc lv (.int y :: .int x :: st) C M hl := fun H locs ls hP hS hL => lv_iand X.1 X.2.1 d (k H locs ls hP hS hL)
theorem r_ior {x y : Int32} (X : Cx G κ cc nL own ret R) (d : decode cc pc = .ok (.ior, 1)) (k : Rn G κ (pc + 1) lv (.int (x ||| y) :: st) C M hl) : Rn G κ pc lv (.int y :: .int x :: st) C M hl := fun H locs ls hP hS hL => lv_ior X.1 X.2.1 d (k H locs ls hP hS hL)
theorem r_ishl {x y : Int32} (X : Cx G κ cc nL own ret R) (d : decode cc pc = .ok (.ishl, 1)) (k : Rn G κ (pc + 1) lv (.int (x <<< (y &&& 31)) :: st) C M hl) : Rn G κ pc lv (.int y :: .int x :: st) C M hl := fun H locs ls hP hS hL => lv_ishl X.1 X.2.1 d (k H locs ls hP hS hL)
theorem r_ishr {x y : Int32} (X : Cx G κ cc nL own ret R) (d : decode cc pc = .ok (.ishr, 1)) (k : Rn G κ (pc + 1) lv (.int (x >>> (y &&& 31)) :: st) C M hl) : Rn G κ pc lv (.int y :: .int x :: st) C M hl := fun H locs ls hP hS hL => lv_ishr X.1 X.2.1 d (k H locs ls hP hS hL)
theorem r_iushr {x y v : Int32} (X : Cx G κ cc nL own ret R) (d : decode cc pc = .ok (.iushr, 1)) (hv : (x.toUInt32 >>> (y.toUInt32 &&& Int32.toUInt32 31)).toInt32 = v) (k : Rn G κ (pc + 1) lv (.int v :: st) C M hl) : Rn G κ pc lv (.int y :: .int x :: st) C M hl := fun H locs ls hP hS hL => lv_iushr X.1 X.2.1 d hv (k H locs ls hP hS hL)
theorem r_ladd {x y : Int64} (X : Cx G κ cc nL own ret R) (d : decode cc pc = .ok (.ladd, 1)) (k : Rn G κ (pc + 1) lv (.long (x + y) :: st) C M hl) : Rn G κ pc lv (.long y :: .long x :: st) C M hl := fun H locs ls hP hS hL => lv_ladd X.1 X.2.1 d (k H locs ls hP hS hL)
theorem r_lmul {x y : Int64} (X : Cx G κ cc nL own ret R) (d : decode cc pc = .ok (.lmul, 1)) (k : Rn G κ (pc + 1) lv (.long (x * y) :: st) C M hl) : Rn G κ pc lv (.long y :: .long x :: st) C M hl := fun H locs ls hP hS hL => lv_lmul X.1 X.2.1 d (k H locs ls hP hS hL)
theorem r_idiv {x y : Int32} (X : Cx G κ cc nL own ret R) (d : decode cc pc = .ok (.idiv, 1)) (hne : ¬ y = 0) (k : Rn G κ (pc + 1) lv (.int (x / y) :: st) C M hl) : Rn G κ pc lv (.int y :: .int x :: st) C M hl := fun H locs ls hP hS hL => lv_idiv X.1 X.2.1 d hne (k H locs ls hP hS hL)
theorem r_irem {x y : Int32} (X : Cx G κ cc nL own ret R) (d : decode cc pc = .ok (.irem, 1)) (hne : ¬ y = 0) (k : Rn G κ (pc + 1) lv (.int (x - x / y * y) :: st) C M hl) : Rn G κ pc lv (.int y :: .int x :: st) C M hl := fun H locs ls hP hS hL => lv_irem X.1 X.2.1 d hne (k H locs ls hP hS hL)
theorem r_i2l {x : Int32} (X : Cx G κ cc nL own ret R) (d : decode cc pc = .ok (.i2l, 1)) (k : Rn G κ (pc + 1) lv (.long x.toInt64 :: st) C M hl) : Rn G κ pc lv (.int x :: st) C M hl := fun H locs ls hP hS hL => lv_i2l X.1 X.2.1 d rfl (k H locs ls hP hS hL)
theorem r_lcmp {x y : Int64} (X : Cx G κ cc nL own ret R) (d : decode cc pc = .ok (.lcmp, 1)) (k : Rn G κ (pc + 1) lv (.int (lg_cmp x y) :: st) C M hl) : Rn G κ pc lv (.long y :: .long x :: st) C M hl := fun H locs ls hP hS hL => W.lcmp X.1 X.2.1 d (k H locs ls hP hS hL)
theorem r_iconst {n : Int} (v : Int32) (X : Cx G κ cc nL own ret R) (d : decode cc pc = .ok (.iconst n, 1)) (hv : Int32.ofInt n = v) (k : Rn G κ (pc + 1) lv (.int v :: st) C M hl) : Rn G κ pc lv (st) C M hl := fun H locs ls hP hS hL => lv_iconst X.1 X.2.1 d hv (k H locs ls hP hS hL)
theorem r_bipush {n : Int} (v : Int32) (X : Cx G κ cc nL own ret R) (d : decode cc pc = .ok (.bipush n, 2)) (hv : (Int8.ofInt n).toInt32 = v) (k : Rn G κ (pc + 2) lv (.int v :: st) C M hl) : Rn G κ pc lv (st) C M hl := fun H locs ls hP hS hL => lv_bipush X.1 X.2.1 d hv (k H locs ls hP hS hL)
theorem r_sipush {n : Int} (v : Int32) (X : Cx G κ cc nL own ret R) (d : decode cc pc = .ok (.sipush n, 3)) (hv : (Int16.ofInt n).toInt32 = v) (k : Rn G κ (pc + 3) lv (.int v :: st) C M hl) : Rn G κ pc lv (st) C M hl := fun H locs ls hP hS hL => lv_sipush X.1 X.2.1 d hv (k H locs ls hP hS hL)
theorem r_ldc {n : Nat} {v : Int32} (hw : Cond.constant own n v ∈ bpW) (X : Cx G κ cc nL own ret R) (d : decode cc pc = .ok (.ldc n, 2)) (k : Rn G κ (pc + 2) lv (.int v :: st) C M hl) : Rn G κ pc lv (st) C M hl := fun H locs ls hP hS hL => lv_ldc X.1 X.2.1 X.2.2.2.1 (X.2.2.2.2.1 _ hw) d (k H locs ls hP hS hL)
theorem r_ldcw {n : Nat} {v : Int32} (hw : Cond.constant own n v ∈ bpW) (X : Cx G κ cc nL own ret R) (d : decode cc pc = .ok (.ldc_w n, 3)) (k : Rn G κ (pc + 3) lv (.int v :: st) C M hl) : Rn G κ pc lv (st) C M hl := fun H locs ls hP hS hL => lv_ldcw X.1 X.2.1 X.2.2.2.1 (X.2.2.2.2.1 _ hw) d (k H locs ls hP hS hL)
theorem r_ldc2 {n : Nat} {v : Int64} (hw : Cond.constantLong own n v ∈ bpW) (X : Cx G κ cc nL own ret R) (d : decode cc pc = .ok (.ldc2_w n, 3)) (k : Rn G κ (pc + 3) lv (.long v :: st) C M hl) : Rn G κ pc lv (st) C M hl := fun H locs ls hP hS hL => lv_ldc2 X.1 X.2.1 X.2.2.2.1 (X.2.2.2.2.1 _ hw) d (k H locs ls hP hS hL)
theorem r_dup {v : Value} (X : Cx G κ cc nL own ret R) (d : decode cc pc = .ok (.dup, 1)) (hv : v.category = 1) (k : Rn G κ (pc + 1) lv (v :: v :: st) C M hl) : Rn G κ pc lv (v :: st) C M hl := fun H locs ls hP hS hL => lv_dup X.1 X.2.1 d hv (k H locs ls hP hS hL)
theorem r_dup2 {v u : Value} (X : Cx G κ cc nL own ret R) (d : decode cc pc = .ok (.dup2, 1)) (hv : v.category = 1) (hu : u.category = 1) (k : Rn G κ (pc + 1) lv (v :: u :: v :: u :: st) C M hl) : Rn G κ pc lv (v :: u :: st) C M hl := fun H locs ls hP hS hL => lv_dup2_11 X.1 X.2.1 d hv hu (k H locs ls hP hS hL)
theorem r_pop {v : Value} (X : Cx G κ cc nL own ret R) (d : decode cc pc = .ok (.pop, 1)) (hv : v.category = 1) (k : Rn G κ (pc + 1) lv (st) C M hl) : Rn G κ pc lv (v :: st) C M hl := fun H locs ls hP hS hL => lv_pop X.1 X.2.1 d hv (k H locs ls hP hS hL)
theorem r_iload_n {f : Fin 4} {x : Int32} (X : Cx G κ cc nL own ret R) (d : decode cc pc = .ok (.iload_n f, 1)) (hv : lv[(f : Nat)]? = some (some (.int x))) (k : Rn G κ (pc + 1) lv (.int x :: st) C M hl) : Rn G κ pc lv (st) C M hl := fun H locs ls hP hS hL => lv_iload_n X.1 X.2.1 d rfl (lvs_get hL hv) (k H locs ls hP hS hL)
theorem r_iload {i : Nat} {x : Int32} (X : Cx G κ cc nL own ret R) (d : decode cc pc = .ok (.iload i, 2)) (hv : lv[i]? = some (some (.int x))) (k : Rn G κ (pc + 2) lv (.int x :: st) C M hl) : Rn G κ pc lv (st) C M hl := fun H locs ls hP hS hL => lv_iload X.1 X.2.1 d (lvs_get hL hv) (k H locs ls hP hS hL)
theorem r_lload_n {f : Fin 4} {x : Int64} (X : Cx G κ cc nL own ret R) (d : decode cc pc = .ok (.lload_n f, 1)) (hv : lv[(f : Nat)]? = some (some (.long x))) (k : Rn G κ (pc + 1) lv (.long x :: st) C M hl) : Rn G κ pc lv (st) C M hl := fun H locs ls hP hS hL => lv_lload_n X.1 X.2.1 d rfl (lvs_get hL hv) (k H locs ls hP hS hL)
theorem r_lload {i : Nat} {x : Int64} (X : Cx G κ cc nL own ret R) (d : decode cc pc = .ok (.lload i, 2)) (hv : lv[i]? = some (some (.long x))) (k : Rn G κ (pc + 2) lv (.long x :: st) C M hl) : Rn G κ pc lv (st) C M hl := fun H locs ls hP hS hL => lv_lload X.1 X.2.1 d (lvs_get hL hv) (k H locs ls hP hS hL)
theorem r_aload_n {f : Fin 4} {x : Nat} (X : Cx G κ cc nL own ret R) (d : decode cc pc = .ok (.aload_n f, 1)) (hv : lv[(f : Nat)]? = some (some (.ref x))) (k : Rn G κ (pc + 1) lv (.ref x :: st) C M hl) : Rn G κ pc lv (st) C M hl := fun H locs ls hP hS hL => lv_aload_n X.1 X.2.1 d rfl (lvs_get hL hv) (k H locs ls hP hS hL)
theorem r_istore_ng {f : Fin 4} {x : Int32} {lv' : List (Option Value)} (X : Cx G κ cc nL own ret R) (d : decode cc pc = .ok (.istore_n f, 1)) (hn : nolong lv f = true) (hi : (f : Nat) < lv.length) (hs : lv' = lv.set f (some (.int x))) (k : Rn G κ (pc + 1) lv' st C M hl) : Rn G κ pc lv (.int x :: st) C M hl := fun H locs ls hP hS hL => lv_istore_n X.1 X.2.1 d rfl hL hi rfl (fun ls' hL' => k H locs ls' hP hS (lvs_set hn hs hi hL'))
theorem r_istore_g {i : Nat} {x : Int32} {lv' : List (Option Value)} (X : Cx G κ cc nL own ret R) (d : decode cc pc = .ok (.istore i, 2)) (hn : nolong lv i = true) (hi : i < lv.length) (hs : lv' = lv.set i (some (.int x))) (k : Rn G κ (pc + 2) lv' st C M hl) : Rn G κ pc lv (.int x :: st) C M hl := fun H locs ls hP hS hL => lv_istore X.1 X.2.1 d hL hi rfl (fun ls' hL' => k H locs ls' hP hS (lvs_set hn hs hi hL'))
theorem r_astore_ng {f : Fin 4} {x : Nat} {lv' : List (Option Value)} (X : Cx G κ cc nL own ret R) (d : decode cc pc = .ok (.astore_n f, 1)) (hn : nolong lv f = true) (hi : (f : Nat) < lv.length) (hs : lv' = lv.set f (some (.ref x))) (k : Rn G κ (pc + 1) lv' st C M hl) : Rn G κ pc lv (.ref x :: st) C M hl := fun H locs ls hP hS hL => lv_astore_n X.1 X.2.1 d rfl hL hi rfl (fun ls' hL' => k H locs ls' hP hS (lvs_set hn hs hi hL'))
theorem r_lstore_ng {f : Fin 4} {x : Int64} {lv' : List (Option Value)} (X : Cx G κ cc nL own ret R) (d : decode cc pc = .ok (.lstore_n f, 1)) (hn : nolong lv f = true) (hi : (f : Nat) + 1 < lv.length) (hs : lv' = (lv.set f (some (.long x))).set (f + 1) none) (k : Rn G κ (pc + 1) lv' st C M hl) : Rn G κ pc lv (.long x :: st) C M hl := fun H locs ls hP hS hL => lv_lstore_n X.1 X.2.1 d rfl hL hi rfl (fun ls' hL' => k H locs ls' hP hS (lvs_set2 hn hs hi hL'))
theorem r_lstore_g {i : Nat} {x : Int64} {lv' : List (Option Value)} (X : Cx G κ cc nL own ret R) (d : decode cc pc = .ok (.lstore i, 2)) (hn : nolong lv i = true) (hi : i + 1 < lv.length) (hs : lv' = (lv.set i (some (.long x))).set (i + 1) none) (k : Rn G κ (pc + 2) lv' st C M hl) : Rn G κ pc lv (.long x :: st) C M hl := fun H locs ls hP hS hL => lv_lstore X.1 X.2.1 d hL hi rfl (fun ls' hL' => k H locs ls' hP hS (lvs_set2 hn hs hi hL'))
theorem r_iinc_g {i : Nat} {n : Int} {x v : Int32} {lv' : List (Option Value)} (X : Cx G κ cc nL own ret R) (d : decode cc pc = .ok (.iinc i n, 3)) (hx : lv[i]? = some (some (.int x))) (hv : x + Int32.ofInt n = v) (hn : nolong lv i = true) (hi : i < lv.length) (hs : lv' = lv.set i (some (.int v))) (k : Rn G κ (pc + 3) lv' st C M hl) : Rn G κ pc lv st C M hl := by
  intro H locs ls hP hS hL
  obtain ⟨q, hq⟩ := List.getElem?_of_mem ((asc_mem lv 0 i (.int x)).mpr ⟨i, by omega, hx⟩)
  exact lv_iinc X.1 X.2.1 d hL hq hv hi rfl (fun ls' hL' => k H locs ls' hP hS (lvs_set hn hs hi hL'))
theorem r_istore_0 {x0 : Option Value} {tl : List (Option Value)} {x : Int32} (X : Cx G κ cc nL own ret R) (d : decode cc pc = .ok (.istore_n 0, 1)) (k : Rn G κ (pc + 1) (some (.int x) :: tl) st C M hl) : Rn G κ pc (x0 :: tl) (.int x :: st) C M hl := r_istore_ng X d rfl (show 0 < _ by simp only [List.length_cons]; omega) rfl k
theorem r_astore_0 {x0 : Option Value} {tl : List (Option Value)} {x : Nat} (X : Cx G κ cc nL own ret R) (d : decode cc pc = .ok (.astore_n 0, 1)) (k : Rn G κ (pc + 1) (some (.ref x) :: tl) st C M hl) : Rn G κ pc (x0 :: tl) (.ref x :: st) C M hl := r_astore_ng X d rfl (show 0 < _ by simp only [List.length_cons]; omega) rfl k
theorem r_iinc_0 {tl : List (Option Value)} {n : Int} {x : Int32} (v : Int32) (X : Cx G κ cc nL own ret R) (d : decode cc pc = .ok (.iinc 0 n, 3)) (hv : x + Int32.ofInt n = v) (k : Rn G κ (pc + 3) (some (.int v) :: tl) st C M hl) : Rn G κ pc (some (.int x) :: tl) st C M hl := r_iinc_g X d (by simp) hv rfl (by simp) rfl k
theorem r_lstore_0 {x0 x1 : Option Value} {tl : List (Option Value)} {x : Int64} (X : Cx G κ cc nL own ret R) (d : decode cc pc = .ok (.lstore_n 0, 1)) (k : Rn G κ (pc + 1) (some (.long x) :: none :: tl) st C M hl) : Rn G κ pc (x0 :: x1 :: tl) (.long x :: st) C M hl := r_lstore_ng X d rfl (show 0 + 1 < _ by simp only [List.length_cons]; omega) rfl k
theorem r_istore_1 {x0 x1 : Option Value} {tl : List (Option Value)} {x : Int32} (X : Cx G κ cc nL own ret R) (d : decode cc pc = .ok (.istore_n 1, 1)) (hn : nolong (x0 :: x1 :: tl) 1 = true) (k : Rn G κ (pc + 1) (x0 :: some (.int x) :: tl) st C M hl) : Rn G κ pc (x0 :: x1 :: tl) (.int x :: st) C M hl := r_istore_ng X d hn (show 1 < _ by simp only [List.length_cons]; omega) rfl k
theorem r_astore_1 {x0 x1 : Option Value} {tl : List (Option Value)} {x : Nat} (X : Cx G κ cc nL own ret R) (d : decode cc pc = .ok (.astore_n 1, 1)) (hn : nolong (x0 :: x1 :: tl) 1 = true) (k : Rn G κ (pc + 1) (x0 :: some (.ref x) :: tl) st C M hl) : Rn G κ pc (x0 :: x1 :: tl) (.ref x :: st) C M hl := r_astore_ng X d hn (show 1 < _ by simp only [List.length_cons]; omega) rfl k
theorem r_iinc_1 {x0 : Option Value} {tl : List (Option Value)} {n : Int} {x : Int32} (v : Int32) (X : Cx G κ cc nL own ret R) (d : decode cc pc = .ok (.iinc 1 n, 3)) (hv : x + Int32.ofInt n = v) (hn : nolong (x0 :: some (.int x) :: tl) 1 = true) (k : Rn G κ (pc + 3) (x0 :: some (.int v) :: tl) st C M hl) : Rn G κ pc (x0 :: some (.int x) :: tl) st C M hl := r_iinc_g X d (by simp) hv hn (by simp) rfl k
theorem r_lstore_1 {x0 x1 x2 : Option Value} {tl : List (Option Value)} {x : Int64} (X : Cx G κ cc nL own ret R) (d : decode cc pc = .ok (.lstore_n 1, 1)) (hn : nolong (x0 :: x1 :: x2 :: tl) 1 = true) (k : Rn G κ (pc + 1) (x0 :: some (.long x) :: none :: tl) st C M hl) : Rn G κ pc (x0 :: x1 :: x2 :: tl) (.long x :: st) C M hl := r_lstore_ng X d hn (show 1 + 1 < _ by simp only [List.length_cons]; omega) rfl k
theorem r_istore_2 {x0 x1 x2 : Option Value} {tl : List (Option Value)} {x : Int32} (X : Cx G κ cc nL own ret R) (d : decode cc pc = .ok (.istore_n 2, 1)) (hn : nolong (x0 :: x1 :: x2 :: tl) 2 = true) (k : Rn G κ (pc + 1) (x0 :: x1 :: some (.int x) :: tl) st C M hl) : Rn G κ pc (x0 :: x1 :: x2 :: tl) (.int x :: st) C M hl := r_istore_ng X d hn (show 2 < _ by simp only [List.length_cons]; omega) rfl k
theorem r_astore_2 {x0 x1 x2 : Option Value} {tl : List (Option Value)} {x : Nat} (X : Cx G κ cc nL own ret R) (d : decode cc pc = .ok (.astore_n 2, 1)) (hn : nolong (x0 :: x1 :: x2 :: tl) 2 = true) (k : Rn G κ (pc + 1) (x0 :: x1 :: some (.ref x) :: tl) st C M hl) : Rn G κ pc (x0 :: x1 :: x2 :: tl) (.ref x :: st) C M hl := r_astore_ng X d hn (show 2 < _ by simp only [List.length_cons]; omega) rfl k
theorem r_iinc_2 {x0 x1 : Option Value} {tl : List (Option Value)} {n : Int} {x : Int32} (v : Int32) (X : Cx G κ cc nL own ret R) (d : decode cc pc = .ok (.iinc 2 n, 3)) (hv : x + Int32.ofInt n = v) (hn : nolong (x0 :: x1 :: some (.int x) :: tl) 2 = true) (k : Rn G κ (pc + 3) (x0 :: x1 :: some (.int v) :: tl) st C M hl) : Rn G κ pc (x0 :: x1 :: some (.int x) :: tl) st C M hl := r_iinc_g X d (by simp) hv hn (by simp) rfl k
theorem r_lstore_2 {x0 x1 x2 x3 : Option Value} {tl : List (Option Value)} {x : Int64} (X : Cx G κ cc nL own ret R) (d : decode cc pc = .ok (.lstore_n 2, 1)) (hn : nolong (x0 :: x1 :: x2 :: x3 :: tl) 2 = true) (k : Rn G κ (pc + 1) (x0 :: x1 :: some (.long x) :: none :: tl) st C M hl) : Rn G κ pc (x0 :: x1 :: x2 :: x3 :: tl) (.long x :: st) C M hl := r_lstore_ng X d hn (show 2 + 1 < _ by simp only [List.length_cons]; omega) rfl k
theorem r_istore_3 {x0 x1 x2 x3 : Option Value} {tl : List (Option Value)} {x : Int32} (X : Cx G κ cc nL own ret R) (d : decode cc pc = .ok (.istore_n 3, 1)) (hn : nolong (x0 :: x1 :: x2 :: x3 :: tl) 3 = true) (k : Rn G κ (pc + 1) (x0 :: x1 :: x2 :: some (.int x) :: tl) st C M hl) : Rn G κ pc (x0 :: x1 :: x2 :: x3 :: tl) (.int x :: st) C M hl := r_istore_ng X d hn (show 3 < _ by simp only [List.length_cons]; omega) rfl k
theorem r_astore_3 {x0 x1 x2 x3 : Option Value} {tl : List (Option Value)} {x : Nat} (X : Cx G κ cc nL own ret R) (d : decode cc pc = .ok (.astore_n 3, 1)) (hn : nolong (x0 :: x1 :: x2 :: x3 :: tl) 3 = true) (k : Rn G κ (pc + 1) (x0 :: x1 :: x2 :: some (.ref x) :: tl) st C M hl) : Rn G κ pc (x0 :: x1 :: x2 :: x3 :: tl) (.ref x :: st) C M hl := r_astore_ng X d hn (show 3 < _ by simp only [List.length_cons]; omega) rfl k
theorem r_iinc_3 {x0 x1 x2 : Option Value} {tl : List (Option Value)} {n : Int} {x : Int32} (v : Int32) (X : Cx G κ cc nL own ret R) (d : decode cc pc = .ok (.iinc 3 n, 3)) (hv : x + Int32.ofInt n = v) (hn : nolong (x0 :: x1 :: x2 :: some (.int x) :: tl) 3 = true) (k : Rn G κ (pc + 3) (x0 :: x1 :: x2 :: some (.int v) :: tl) st C M hl) : Rn G κ pc (x0 :: x1 :: x2 :: some (.int x) :: tl) st C M hl := r_iinc_g X d (by simp) hv hn (by simp) rfl k
theorem r_lstore_3 {x0 x1 x2 x3 x4 : Option Value} {tl : List (Option Value)} {x : Int64} (X : Cx G κ cc nL own ret R) (d : decode cc pc = .ok (.lstore_n 3, 1)) (hn : nolong (x0 :: x1 :: x2 :: x3 :: x4 :: tl) 3 = true) (k : Rn G κ (pc + 1) (x0 :: x1 :: x2 :: some (.long x) :: none :: tl) st C M hl) : Rn G κ pc (x0 :: x1 :: x2 :: x3 :: x4 :: tl) (.long x :: st) C M hl := r_lstore_ng X d hn (show 3 + 1 < _ by simp only [List.length_cons]; omega) rfl k
theorem r_istore_4 {x0 x1 x2 x3 x4 : Option Value} {tl : List (Option Value)} {x : Int32} (X : Cx G κ cc nL own ret R) (d : decode cc pc = .ok (.istore 4, 2)) (hn : nolong (x0 :: x1 :: x2 :: x3 :: x4 :: tl) 4 = true) (k : Rn G κ (pc + 2) (x0 :: x1 :: x2 :: x3 :: some (.int x) :: tl) st C M hl) : Rn G κ pc (x0 :: x1 :: x2 :: x3 :: x4 :: tl) (.int x :: st) C M hl := r_istore_g X d hn (by simp) rfl k
theorem r_iinc_4 {x0 x1 x2 x3 : Option Value} {tl : List (Option Value)} {n : Int} {x : Int32} (v : Int32) (X : Cx G κ cc nL own ret R) (d : decode cc pc = .ok (.iinc 4 n, 3)) (hv : x + Int32.ofInt n = v) (hn : nolong (x0 :: x1 :: x2 :: x3 :: some (.int x) :: tl) 4 = true) (k : Rn G κ (pc + 3) (x0 :: x1 :: x2 :: x3 :: some (.int v) :: tl) st C M hl) : Rn G κ pc (x0 :: x1 :: x2 :: x3 :: some (.int x) :: tl) st C M hl := r_iinc_g X d (by simp) hv hn (by simp) rfl k
theorem r_lstore_4 {x0 x1 x2 x3 x4 x5 : Option Value} {tl : List (Option Value)} {x : Int64} (X : Cx G κ cc nL own ret R) (d : decode cc pc = .ok (.lstore 4, 2)) (hn : nolong (x0 :: x1 :: x2 :: x3 :: x4 :: x5 :: tl) 4 = true) (k : Rn G κ (pc + 2) (x0 :: x1 :: x2 :: x3 :: some (.long x) :: none :: tl) st C M hl) : Rn G κ pc (x0 :: x1 :: x2 :: x3 :: x4 :: x5 :: tl) (.long x :: st) C M hl := r_lstore_g X d hn (by simp) rfl k
theorem r_istore_5 {x0 x1 x2 x3 x4 x5 : Option Value} {tl : List (Option Value)} {x : Int32} (X : Cx G κ cc nL own ret R) (d : decode cc pc = .ok (.istore 5, 2)) (hn : nolong (x0 :: x1 :: x2 :: x3 :: x4 :: x5 :: tl) 5 = true) (k : Rn G κ (pc + 2) (x0 :: x1 :: x2 :: x3 :: x4 :: some (.int x) :: tl) st C M hl) : Rn G κ pc (x0 :: x1 :: x2 :: x3 :: x4 :: x5 :: tl) (.int x :: st) C M hl := r_istore_g X d hn (by simp) rfl k
theorem r_iinc_5 {x0 x1 x2 x3 x4 : Option Value} {tl : List (Option Value)} {n : Int} {x : Int32} (v : Int32) (X : Cx G κ cc nL own ret R) (d : decode cc pc = .ok (.iinc 5 n, 3)) (hv : x + Int32.ofInt n = v) (hn : nolong (x0 :: x1 :: x2 :: x3 :: x4 :: some (.int x) :: tl) 5 = true) (k : Rn G κ (pc + 3) (x0 :: x1 :: x2 :: x3 :: x4 :: some (.int v) :: tl) st C M hl) : Rn G κ pc (x0 :: x1 :: x2 :: x3 :: x4 :: some (.int x) :: tl) st C M hl := r_iinc_g X d (by simp) hv hn (by simp) rfl k
theorem r_lstore_5 {x0 x1 x2 x3 x4 x5 x6 : Option Value} {tl : List (Option Value)} {x : Int64} (X : Cx G κ cc nL own ret R) (d : decode cc pc = .ok (.lstore 5, 2)) (hn : nolong (x0 :: x1 :: x2 :: x3 :: x4 :: x5 :: x6 :: tl) 5 = true) (k : Rn G κ (pc + 2) (x0 :: x1 :: x2 :: x3 :: x4 :: some (.long x) :: none :: tl) st C M hl) : Rn G κ pc (x0 :: x1 :: x2 :: x3 :: x4 :: x5 :: x6 :: tl) (.long x :: st) C M hl := r_lstore_g X d hn (by simp) rfl k
theorem r_istore_6 {x0 x1 x2 x3 x4 x5 x6 : Option Value} {tl : List (Option Value)} {x : Int32} (X : Cx G κ cc nL own ret R) (d : decode cc pc = .ok (.istore 6, 2)) (hn : nolong (x0 :: x1 :: x2 :: x3 :: x4 :: x5 :: x6 :: tl) 6 = true) (k : Rn G κ (pc + 2) (x0 :: x1 :: x2 :: x3 :: x4 :: x5 :: some (.int x) :: tl) st C M hl) : Rn G κ pc (x0 :: x1 :: x2 :: x3 :: x4 :: x5 :: x6 :: tl) (.int x :: st) C M hl := r_istore_g X d hn (by simp) rfl k
theorem r_iinc_6 {x0 x1 x2 x3 x4 x5 : Option Value} {tl : List (Option Value)} {n : Int} {x : Int32} (v : Int32) (X : Cx G κ cc nL own ret R) (d : decode cc pc = .ok (.iinc 6 n, 3)) (hv : x + Int32.ofInt n = v) (hn : nolong (x0 :: x1 :: x2 :: x3 :: x4 :: x5 :: some (.int x) :: tl) 6 = true) (k : Rn G κ (pc + 3) (x0 :: x1 :: x2 :: x3 :: x4 :: x5 :: some (.int v) :: tl) st C M hl) : Rn G κ pc (x0 :: x1 :: x2 :: x3 :: x4 :: x5 :: some (.int x) :: tl) st C M hl := r_iinc_g X d (by simp) hv hn (by simp) rfl k
theorem r_lstore_6 {x0 x1 x2 x3 x4 x5 x6 x7 : Option Value} {tl : List (Option Value)} {x : Int64} (X : Cx G κ cc nL own ret R) (d : decode cc pc = .ok (.lstore 6, 2)) (hn : nolong (x0 :: x1 :: x2 :: x3 :: x4 :: x5 :: x6 :: x7 :: tl) 6 = true) (k : Rn G κ (pc + 2) (x0 :: x1 :: x2 :: x3 :: x4 :: x5 :: some (.long x) :: none :: tl) st C M hl) : Rn G κ pc (x0 :: x1 :: x2 :: x3 :: x4 :: x5 :: x6 :: x7 :: tl) (.long x :: st) C M hl := r_lstore_g X d hn (by simp) rfl k
theorem r_istore_7 {x0 x1 x2 x3 x4 x5 x6 x7 : Option Value} {tl : List (Option Value)} {x : Int32} (X : Cx G κ cc nL own ret R) (d : decode cc pc = .ok (.istore 7, 2)) (hn : nolong (x0 :: x1 :: x2 :: x3 :: x4 :: x5 :: x6 :: x7 :: tl) 7 = true) (k : Rn G κ (pc + 2) (x0 :: x1 :: x2 :: x3 :: x4 :: x5 :: x6 :: some (.int x) :: tl) st C M hl) : Rn G κ pc (x0 :: x1 :: x2 :: x3 :: x4 :: x5 :: x6 :: x7 :: tl) (.int x :: st) C M hl := r_istore_g X d hn (by simp) rfl k
theorem r_iinc_7 {x0 x1 x2 x3 x4 x5 x6 : Option Value} {tl : List (Option Value)} {n : Int} {x : Int32} (v : Int32) (X : Cx G κ cc nL own ret R) (d : decode cc pc = .ok (.iinc 7 n, 3)) (hv : x + Int32.ofInt n = v) (hn : nolong (x0 :: x1 :: x2 :: x3 :: x4 :: x5 :: x6 :: some (.int x) :: tl) 7 = true) (k : Rn G κ (pc + 3) (x0 :: x1 :: x2 :: x3 :: x4 :: x5 :: x6 :: some (.int v) :: tl) st C M hl) : Rn G κ pc (x0 :: x1 :: x2 :: x3 :: x4 :: x5 :: x6 :: some (.int x) :: tl) st C M hl := r_iinc_g X d (by simp) hv hn (by simp) rfl k
theorem r_lstore_7 {x0 x1 x2 x3 x4 x5 x6 x7 x8 : Option Value} {tl : List (Option Value)} {x : Int64} (X : Cx G κ cc nL own ret R) (d : decode cc pc = .ok (.lstore 7, 2)) (hn : nolong (x0 :: x1 :: x2 :: x3 :: x4 :: x5 :: x6 :: x7 :: x8 :: tl) 7 = true) (k : Rn G κ (pc + 2) (x0 :: x1 :: x2 :: x3 :: x4 :: x5 :: x6 :: some (.long x) :: none :: tl) st C M hl) : Rn G κ pc (x0 :: x1 :: x2 :: x3 :: x4 :: x5 :: x6 :: x7 :: x8 :: tl) (.long x :: st) C M hl := r_lstore_g X d hn (by simp) rfl k
theorem r_istore_8 {x0 x1 x2 x3 x4 x5 x6 x7 x8 : Option Value} {tl : List (Option Value)} {x : Int32} (X : Cx G κ cc nL own ret R) (d : decode cc pc = .ok (.istore 8, 2)) (hn : nolong (x0 :: x1 :: x2 :: x3 :: x4 :: x5 :: x6 :: x7 :: x8 :: tl) 8 = true) (k : Rn G κ (pc + 2) (x0 :: x1 :: x2 :: x3 :: x4 :: x5 :: x6 :: x7 :: some (.int x) :: tl) st C M hl) : Rn G κ pc (x0 :: x1 :: x2 :: x3 :: x4 :: x5 :: x6 :: x7 :: x8 :: tl) (.int x :: st) C M hl := r_istore_g X d hn (by simp) rfl k
theorem r_iinc_8 {x0 x1 x2 x3 x4 x5 x6 x7 : Option Value} {tl : List (Option Value)} {n : Int} {x : Int32} (v : Int32) (X : Cx G κ cc nL own ret R) (d : decode cc pc = .ok (.iinc 8 n, 3)) (hv : x + Int32.ofInt n = v) (hn : nolong (x0 :: x1 :: x2 :: x3 :: x4 :: x5 :: x6 :: x7 :: some (.int x) :: tl) 8 = true) (k : Rn G κ (pc + 3) (x0 :: x1 :: x2 :: x3 :: x4 :: x5 :: x6 :: x7 :: some (.int v) :: tl) st C M hl) : Rn G κ pc (x0 :: x1 :: x2 :: x3 :: x4 :: x5 :: x6 :: x7 :: some (.int x) :: tl) st C M hl := r_iinc_g X d (by simp) hv hn (by simp) rfl k
theorem r_lstore_8 {x0 x1 x2 x3 x4 x5 x6 x7 x8 x9 : Option Value} {tl : List (Option Value)} {x : Int64} (X : Cx G κ cc nL own ret R) (d : decode cc pc = .ok (.lstore 8, 2)) (hn : nolong (x0 :: x1 :: x2 :: x3 :: x4 :: x5 :: x6 :: x7 :: x8 :: x9 :: tl) 8 = true) (k : Rn G κ (pc + 2) (x0 :: x1 :: x2 :: x3 :: x4 :: x5 :: x6 :: x7 :: some (.long x) :: none :: tl) st C M hl) : Rn G κ pc (x0 :: x1 :: x2 :: x3 :: x4 :: x5 :: x6 :: x7 :: x8 :: x9 :: tl) (.long x :: st) C M hl := r_lstore_g X d hn (by simp) rfl k
theorem r_istore_9 {x0 x1 x2 x3 x4 x5 x6 x7 x8 x9 : Option Value} {tl : List (Option Value)} {x : Int32} (X : Cx G κ cc nL own ret R) (d : decode cc pc = .ok (.istore 9, 2)) (hn : nolong (x0 :: x1 :: x2 :: x3 :: x4 :: x5 :: x6 :: x7 :: x8 :: x9 :: tl) 9 = true) (k : Rn G κ (pc + 2) (x0 :: x1 :: x2 :: x3 :: x4 :: x5 :: x6 :: x7 :: x8 :: some (.int x) :: tl) st C M hl) : Rn G κ pc (x0 :: x1 :: x2 :: x3 :: x4 :: x5 :: x6 :: x7 :: x8 :: x9 :: tl) (.int x :: st) C M hl := r_istore_g X d hn (by simp) rfl k
theorem r_iinc_9 {x0 x1 x2 x3 x4 x5 x6 x7 x8 : Option Value} {tl : List (Option Value)} {n : Int} {x : Int32} (v : Int32) (X : Cx G κ cc nL own ret R) (d : decode cc pc = .ok (.iinc 9 n, 3)) (hv : x + Int32.ofInt n = v) (hn : nolong (x0 :: x1 :: x2 :: x3 :: x4 :: x5 :: x6 :: x7 :: x8 :: some (.int x) :: tl) 9 = true) (k : Rn G κ (pc + 3) (x0 :: x1 :: x2 :: x3 :: x4 :: x5 :: x6 :: x7 :: x8 :: some (.int v) :: tl) st C M hl) : Rn G κ pc (x0 :: x1 :: x2 :: x3 :: x4 :: x5 :: x6 :: x7 :: x8 :: some (.int x) :: tl) st C M hl := r_iinc_g X d (by simp) hv hn (by simp) rfl k
theorem r_lstore_9 {x0 x1 x2 x3 x4 x5 x6 x7 x8 x9 x10 : Option Value} {tl : List (Option Value)} {x : Int64} (X : Cx G κ cc nL own ret R) (d : decode cc pc = .ok (.lstore 9, 2)) (hn : nolong (x0 :: x1 :: x2 :: x3 :: x4 :: x5 :: x6 :: x7 :: x8 :: x9 :: x10 :: tl) 9 = true) (k : Rn G κ (pc + 2) (x0 :: x1 :: x2 :: x3 :: x4 :: x5 :: x6 :: x7 :: x8 :: some (.long x) :: none :: tl) st C M hl) : Rn G κ pc (x0 :: x1 :: x2 :: x3 :: x4 :: x5 :: x6 :: x7 :: x8 :: x9 :: x10 :: tl) (.long x :: st) C M hl := r_lstore_g X d hn (by simp) rfl k
theorem r_goto {off : Int} (tgt : Nat) (X : Cx G κ cc nL own ret R) (d : decode cc pc = .ok (.goto off, 3)) (ht : (pc : Int) + off = (tgt : Int)) (k : Rn G κ tgt lv st C M hl) : Rn G κ pc lv st C M hl := fun H locs ls hP hS hL => lv_goto X.1 X.2.1 d ht (k H locs ls hP hS hL)
theorem r_ifeq {x : Int32} {off : Int} (tgt : Nat) (X : Cx G κ cc nL own ret R) (d : decode cc pc = .ok (.ifCond .eq off, 3)) (ht : (pc : Int) + off = (tgt : Int)) (kt : x = 0 → Rn G κ tgt lv st C M hl) (kf : ¬ x = 0 → Rn G κ (pc + 3) lv st C M hl) : Rn G κ pc lv (.int x :: st) C M hl := fun H locs ls hP hS hL => lv_if_eq X.1 X.2.1 d ht (fun c => kt c H locs ls hP hS hL) (fun c => kf c H locs ls hP hS hL)
theorem r_icmpeq {x y : Int32} {off : Int} (tgt : Nat) (X : Cx G κ cc nL own ret R) (d : decode cc pc = .ok (.if_icmp .eq off, 3)) (ht : (pc : Int) + off = (tgt : Int)) (kt : x = y → Rn G κ tgt lv st C M hl) (kf : ¬ x = y → Rn G κ (pc + 3) lv st C M hl) : Rn G κ pc lv (.int y :: .int x :: st) C M hl := fun H locs ls hP hS hL => lv_icmp_eq X.1 X.2.1 d ht (fun c => kt c H locs ls hP hS hL) (fun c => kf c H locs ls hP hS hL)
theorem r_ifne {x : Int32} {off : Int} (tgt : Nat) (X : Cx G κ cc nL own ret R) (d : decode cc pc = .ok (.ifCond .ne off, 3)) (ht : (pc : Int) + off = (tgt : Int)) (kt : ¬ x = 0 → Rn G κ tgt lv st C M hl) (kf : x = 0 → Rn G κ (pc + 3) lv st C M hl) : Rn G κ pc lv (.int x :: st) C M hl := fun H locs ls hP hS hL => lv_if_ne X.1 X.2.1 d ht (fun c => kt c H locs ls hP hS hL) (fun c => kf c H locs ls hP hS hL)
theorem r_icmpne {x y : Int32} {off : Int} (tgt : Nat) (X : Cx G κ cc nL own ret R) (d : decode cc pc = .ok (.if_icmp .ne off, 3)) (ht : (pc : Int) + off = (tgt : Int)) (kt : ¬ x = y → Rn G κ tgt lv st C M hl) (kf : x = y → Rn G κ (pc + 3) lv st C M hl) : Rn G κ pc lv (.int y :: .int x :: st) C M hl := fun H locs ls hP hS hL => lv_icmp_ne X.1 X.2.1 d ht (fun c => kt c H locs ls hP hS hL) (fun c => kf c H locs ls hP hS hL)
theorem r_iflt {x : Int32} {off : Int} (tgt : Nat) (X : Cx G κ cc nL own ret R) (d : decode cc pc = .ok (.ifCond .lt off, 3)) (ht : (pc : Int) + off = (tgt : Int)) (kt : x < 0 → Rn G κ tgt lv st C M hl) (kf : ¬ x < 0 → Rn G κ (pc + 3) lv st C M hl) : Rn G κ pc lv (.int x :: st) C M hl := fun H locs ls hP hS hL => lv_if_lt X.1 X.2.1 d ht (fun c => kt c H locs ls hP hS hL) (fun c => kf c H locs ls hP hS hL)
theorem r_icmplt {x y : Int32} {off : Int} (tgt : Nat) (X : Cx G κ cc nL own ret R) (d : decode cc pc = .ok (.if_icmp .lt off, 3)) (ht : (pc : Int) + off = (tgt : Int)) (kt : x < y → Rn G κ tgt lv st C M hl) (kf : ¬ x < y → Rn G κ (pc + 3) lv st C M hl) : Rn G κ pc lv (.int y :: .int x :: st) C M hl := fun H locs ls hP hS hL => lv_icmp_lt X.1 X.2.1 d ht (fun c => kt c H locs ls hP hS hL) (fun c => kf c H locs ls hP hS hL)
theorem r_ifge {x : Int32} {off : Int} (tgt : Nat) (X : Cx G κ cc nL own ret R) (d : decode cc pc = .ok (.ifCond .ge off, 3)) (ht : (pc : Int) + off = (tgt : Int)) (kt : 0 ≤ x → Rn G κ tgt lv st C M hl) (kf : ¬ 0 ≤ x → Rn G κ (pc + 3) lv st C M hl) : Rn G κ pc lv (.int x :: st) C M hl := fun H locs ls hP hS hL => lv_if_ge X.1 X.2.1 d ht (fun c => kt c H locs ls hP hS hL) (fun c => kf c H locs ls hP hS hL)
theorem r_icmpge {x y : Int32} {off : Int} (tgt : Nat) (X : Cx G κ cc nL own ret R) (d : decode cc pc = .ok (.if_icmp .ge off, 3)) (ht : (pc : Int) + off = (tgt : Int)) (kt : y ≤ x → Rn G κ tgt lv st C M hl) (kf : ¬ y ≤ x → Rn G κ (pc + 3) lv st C M hl) : Rn G κ pc lv (.int y :: .int x :: st) C M hl := fun H locs ls hP hS hL => lv_icmp_ge X.1 X.2.1 d ht (fun c => kt c H locs ls hP hS hL) (fun c => kf c H locs ls hP hS hL)
theorem r_ifgt {x : Int32} {off : Int} (tgt : Nat) (X : Cx G κ cc nL own ret R) (d : decode cc pc = .ok (.ifCond .gt off, 3)) (ht : (pc : Int) + off = (tgt : Int)) (kt : 0 < x → Rn G κ tgt lv st C M hl) (kf : ¬ 0 < x → Rn G κ (pc + 3) lv st C M hl) : Rn G κ pc lv (.int x :: st) C M hl := fun H locs ls hP hS hL => lv_if_gt X.1 X.2.1 d ht (fun c => kt c H locs ls hP hS hL) (fun c => kf c H locs ls hP hS hL)
theorem r_icmpgt {x y : Int32} {off : Int} (tgt : Nat) (X : Cx G κ cc nL own ret R) (d : decode cc pc = .ok (.if_icmp .gt off, 3)) (ht : (pc : Int) + off = (tgt : Int)) (kt : y < x → Rn G κ tgt lv st C M hl) (kf : ¬ y < x → Rn G κ (pc + 3) lv st C M hl) : Rn G κ pc lv (.int y :: .int x :: st) C M hl := fun H locs ls hP hS hL => lv_icmp_gt X.1 X.2.1 d ht (fun c => kt c H locs ls hP hS hL) (fun c => kf c H locs ls hP hS hL)
theorem r_ifle {x : Int32} {off : Int} (tgt : Nat) (X : Cx G κ cc nL own ret R) (d : decode cc pc = .ok (.ifCond .le off, 3)) (ht : (pc : Int) + off = (tgt : Int)) (kt : x ≤ 0 → Rn G κ tgt lv st C M hl) (kf : ¬ x ≤ 0 → Rn G κ (pc + 3) lv st C M hl) : Rn G κ pc lv (.int x :: st) C M hl := fun H locs ls hP hS hL => lv_if_le X.1 X.2.1 d ht (fun c => kt c H locs ls hP hS hL) (fun c => kf c H locs ls hP hS hL)
theorem r_icmple {x y : Int32} {off : Int} (tgt : Nat) (X : Cx G κ cc nL own ret R) (d : decode cc pc = .ok (.if_icmp .le off, 3)) (ht : (pc : Int) + off = (tgt : Int)) (kt : x ≤ y → Rn G κ tgt lv st C M hl) (kf : ¬ x ≤ y → Rn G κ (pc + 3) lv st C M hl) : Rn G κ pc lv (.int y :: .int x :: st) C M hl := fun H locs ls hP hS hL => lv_icmp_le X.1 X.2.1 d ht (fun c => kt c H locs ls hP hS hL) (fun c => kf c H locs ls hP hS hL)
theorem r_tblIn {dflt lo hi : Int} {offs : Array Int} {len : Nat} {x : Int32} {off : Int} (tgt : Nat) (X : Cx G κ cc nL own ret R) (d : decode cc pc = .ok (.tableswitch dflt lo hi offs, len)) (h1 : ¬ x.toInt < lo) (h2 : ¬ hi < x.toInt) (ho : offs[(x.toInt - lo).toNat]? = some off) (ht : (pc : Int) + off = (tgt : Int)) (k : Rn G κ tgt lv st C M hl) : Rn G κ pc lv (.int x :: st) C M hl := fun H locs ls hP hS hL => lv_tableIn X.1 X.2.1 d h1 h2 ho ht (k H locs ls hP hS hL)
theorem r_tblOut {dflt lo hi : Int} {offs : Array Int} {len : Nat} {x : Int32} (tgt : Nat) (X : Cx G κ cc nL own ret R) (d : decode cc pc = .ok (.tableswitch dflt lo hi offs, len)) (h : x.toInt < lo ∨ hi < x.toInt) (ht : (pc : Int) + dflt = (tgt : Int)) (k : Rn G κ tgt lv st C M hl) : Rn G κ pc lv (.int x :: st) C M hl := fun H locs ls hP hS hL => lv_tableOut X.1 X.2.1 d h ht (k H locs ls hP hS hL)
theorem r_lookup {dflt : Int} {ps : Array (Int × Int)} {len : Nat} {x : Int32} {off : Int} (tgt : Nat) (X : Cx G κ cc nL own ret R) (d : decode cc pc = .ok (.lookupswitch dflt ps, len)) (hp : (ps.toList.zip (ps.toList.drop 1)).all (fun (a, next) => a.1 < next.1) = true) (ho : Op.lookupswitch.offset ps.toList dflt x.toInt = off) (ht : (pc : Int) + off = (tgt : Int)) (k : Rn G κ tgt lv st C M hl) : Rn G κ pc lv (.int x :: st) C M hl := fun H locs ls hP hS hL => lv_lookup X.1 X.2.1 d hp ho ht (k H locs ls hP hS hL)
end RULES
end
section
section MEM
variable {G : bpG} {κ : bpK} {cc : ByteArray} {nL : Nat} {own : String} {ret : Option FieldType} {R : Room} {pc : Nat} {lv : List (Option Value)} {st : List Value} {C : bpC} {M : bpM} {hl : Int64}
theorem g_get {k i j idx ci N : Nat} {Cn : String} {T : u_T} {v : Value} (X : Cx G κ cc nL own ret R) (hi : i < bpN k) (hO : bpO k = some (ci, N)) (hc : bpCl[ci]? = some (Cn, T, N)) (hla : ∀ w ∈ u_ws Cn T N, w ∈ bpW) (hj : j < N) (hf : Cond.fieldLink own idx (T j).1 (T j).2.1 (T j).2.2.1 ∈ bpW) (hv : bpv G hl i (bpm C M k i) j (bpF k j) = v) (d : decode cc pc = .ok (.getfield idx, 3)) (kk : Rn G κ (pc + 3) lv (v :: st) C M hl) : Rn G κ pc lv (.ref (G.1 k i) :: st) C M hl := by
  intro H locs ls hP hS hL
  obtain ⟨hx, hb, hml, hown, hts, hr, hlk, hK, hg, hR⟩ := X
  have h0 := hP k i hi
  unfold bpAt at h0
  rw [hO] at h0
  obtain ⟨cell, q1, q2, q3, q4⟩ := h0
  obtain ⟨hSl, hfc, kC, hkC, hkind⟩ := hK.1 ci _ hc
  obtain ⟨cf, kf, fi, f, hif, hsl⟩ := hSl j hj
  refine W.getf hx hb hown (hts _ hf) hif (u_facts hfc hkC (u_lays hts hla hj) hif).1 q1 (by rw [q3]; exact fun h => by cases h) (v := v) ?_ rfl rfl d (kk H locs ls hP hS hL)
  rw [hsl, q4 j hj]
  exact congrArg some hv
theorem g_put {k i j idx ci N : Nat} {Cn : String} {T : u_T} {v : Value} {ty : FieldType} {ty0 : Nat → FieldType} (X : Cx G κ cc nL own ret R) (hi : i < bpN k) (hO : bpO k = some (ci, N)) (hc : bpCl[ci]? = some (Cn, T, N)) (hla : ∀ w ∈ u_ws Cn T N, w ∈ bpW) (hty : ∀ k, k < N → parseFieldDescriptor (T k).2.2.1 = some (ty0 k)) (hnm : ∀ a, a < N → ∀ b, b < N → a ≠ b → (T a).2.1 ≠ (T b).2.1) (hj : j < N) (hf : Cond.fieldLink own idx (T j).1 (T j).2.1 (T j).2.2.1 ∈ bpW) (hfin : (T j).2.2.2 = false) (hd : parseFieldDescriptor (T j).2.2.1 = some ty) (hn : narrow ty v = v) (hfit : fits ty v = true) (d : decode cc pc = .ok (.putfield idx, 3))
    {H : Heap} {locs : List Loc} {ls : Array Slot} (hP : WP G C M hl H) (hS : va_S (bpA G) (ks κ).heap H locs)
    (kk : ∀ (H1 : Heap) (locs1 : List Loc), t_OB (G.1 k i) (G.2.1.1 ci) N (G.2.1.2 ci) H1 (updV (fun j => bpv G hl i (bpm C M k i) j (bpF k j)) j v) → (∀ q, q ≠ G.1 k i → H1[q]? = H[q]?) → va_S (bpA G) (ks κ).heap H1 locs1 → W (kp κ) (kl κ) (ke κ) (kR κ) (ks κ) (km κ) (ka κ) (kb κ) (kM κ) (kc κ) H1 locs1 (kn κ) (kS κ) (kQ κ) (F0 (km κ) (pc + 3) ls st)) :
    W (kp κ) (kl κ) (ke κ) (kR κ) (ks κ) (km κ) (ka κ) (kb κ) (kM κ) (kc κ) H locs (kn κ) (kS κ) (kQ κ) (F0 (km κ) pc ls (v :: .ref (G.1 k i) :: st)) := by
  obtain ⟨hx, hb, hml, hown, hts, hr, hlk, hK, hg, hR⟩ := X
  have hap := va_apart (own := own) hts hla ty0 hty hnm hK hc
  have h0 := hP k i hi
  unfold bpAt at h0
  rw [hO] at h0
  obtain ⟨cell, q1, q2, q3, q4⟩ := h0
  obtain ⟨hSl, hfc, kC, hkC, hkind⟩ := hK.1 ci _ hc
  obtain ⟨cf, kf, fi, f, hif, hsl⟩ := hSl j hj
  have hlay := hts _ (hla _ (u_in_lay hj))
  unfold u_lay at hlay
  rw [if_neg (by rw [hfin]; decide)] at hlay
  have hst := (u_facts hfc hkC (u_lays hts hla hj) hif).1
  have h6 := u_store hfc hkC hkind hlay hif hd hn hfit
  refine W.putK hx hb (f := f) ⟨hown, hts _ hf, ⟨_, _, _, hif⟩, hst⟩ (by rw [q2]; exact h6) q1 q3 (by rw [hsl]; exact k2_hasslot (q4 j hj)) rfl rfl d fun H' e1 e2 e3 => ?_
  rw [hsl] at e1 ⊢
  exact kk H' _ ⟨_, e1, q2, q3, t_set q4 hap hj v⟩ e3 (hS.put e2 e3 (bpA_in hi))
/-- an int or boolean field of the class's own objects -/
theorem g_putC {k i j idx ci N : Nat} {Cn : String} {T : u_T} {x : Int32} {ty : FieldType} {ty0 : Nat → FieldType} (X : Cx G κ cc nL own ret R) (hi : i < bpN k) (hk : k < 11) (hF : bpF k j = 0) (hO : bpO k = some (ci, N)) (hc : bpCl[ci]? = some (Cn, T, N)) (hla : ∀ w ∈ u_ws Cn T N, w ∈ bpW) (hty : ∀ k, k < N → parseFieldDescriptor (T k).2.2.1 = some (ty0 k)) (hnm : ∀ a, a < N → ∀ b, b < N → a ≠ b → (T a).2.1 ≠ (T b).2.1) (hj : j < N) (hf : Cond.fieldLink own idx (T j).1 (T j).2.1 (T j).2.2.1 ∈ bpW) (hfin : (T j).2.2.2 = false) (hd : parseFieldDescriptor (T j).2.2.1 = some ty) (hn : narrow ty (.int x) = .int x) (hfit : fits ty (.int x) = true) (d : decode cc pc = .ok (.putfield idx, 3))
    (kk : Rn G κ (pc + 3) lv st (upC C k i j x) M hl) : Rn G κ pc lv (.int x :: .ref (G.1 k i) :: st) C M hl := by
  intro H locs ls hP hS hL
  refine g_put X hi hO hc hla hty hnm hj hf hfin hd hn hfit d hP hS (fun H1 locs1 ob oth hS1 => kk H1 locs1 ls ?_ hS1 hL)
  refine hP.putC X.2.2.2.2.2.2.2.2.1 hi hk ?_ oth
  unfold bpAt
  rw [hO]
  refine ob.to (fun j' _ => ?_)
  rw [bpm_c _ _ hk]
  by_cases e : j' = j
  · subst e
    simp only [updV, if_pos, hF]
    simp [bpv, upd]
  · simp only [updV, if_neg e]
    cases hb : bpF k j' with
    | zero => simp [bpv, upd, e]
    | succ t => cases t <;> rfl
theorem g_putO {j idx : Nat} {x : Int32} {ty : FieldType} (X : Cx G κ cc nL own ret R) (hF : bpF 11 j = 0) (hj : j < 30) (hf : Cond.fieldLink own idx (TX5 j).1 (TX5 j).2.1 (TX5 j).2.2.1 ∈ bpW) (hfin : (TX5 j).2.2.2 = false) (hd : parseFieldDescriptor (TX5 j).2.2.1 = some ty) (hn : narrow ty (.int x) = .int x) (hfit : fits ty (.int x) = true) (d : decode cc pc = .ok (.putfield idx, 3))
    (kk : Rn G κ (pc + 3) lv st C (upM M j 0 x) hl) : Rn G κ pc lv (.int x :: .ref (G.1 11 0) :: st) C M hl := by
  intro H locs ls hP hS hL
  refine g_put (k := 11) (i := 0) (ci := 5) X (by decide) rfl rfl wla_X5 tyX5_ok nmX5 hj hf hfin hd hn hfit d hP hS (fun H1 locs1 ob oth hS1 => kk H1 locs1 ls ?_ hS1 hL)
  refine hP.putO X.2.2.2.2.2.2.2.2.1 hF ?_ oth
  refine ob.to (fun j' _ => ?_)
  rw [bpm_o]
  by_cases e : j' = j
  · subst e
    simp only [updV, if_pos, hF]
    simp [bpv, upd]
  · simp only [updV, if_neg e]
    cases hb : bpF 11 j' with
    | zero => simp [bpv, upd, e]
    | succ t => cases t <;> rfl
/-- the long -/
theorem r_phm {idx : Nat} {x : Int64} (X : Cx G κ cc nL own ret R) (hf : Cond.fieldLink own idx (TX5 29).1 (TX5 29).2.1 (TX5 29).2.2.1 ∈ bpW) (d : decode cc pc = .ok (.putfield idx, 3))
    (kk : Rn G κ (pc + 3) lv st C M x) : Rn G κ pc lv (.long x :: .ref (G.1 11 0) :: st) C M hl := by
  intro H locs ls hP hS hL
  refine g_put (k := 11) (i := 0) (ci := 5) (ty := .long) X (by decide) rfl rfl wla_X5 tyX5_ok nmX5 (by decide) hf rfl (by decide +kernel) rfl rfl d hP hS (fun H1 locs1 ob oth hS1 => kk H1 locs1 ls ?_ hS1 hL)
  refine hP.putH X.2.2.2.2.2.2.2.2.1 ?_ oth
  refine ob.to (fun j' hj' => ?_)
  rw [bpm_o]
  by_cases e : j' = 29
  · subst e
    simp only [updV, if_pos]
    rfl
  · simp only [updV, if_neg e]
    have key : ∀ j, j < 30 → j ≠ 29 → bpF 11 j ≠ 1 := by decide +kernel
    have := key j' hj' e
    cases hb : bpF 11 j' with
    | zero => rfl
    | succ t =>
      cases t with
      | zero => exact absurd hb this
      | succ t => rfl
theorem r_ghm {idx : Nat} (X : Cx G κ cc nL own ret R) (hf : Cond.fieldLink own idx (TX5 29).1 (TX5 29).2.1 (TX5 29).2.2.1 ∈ bpW) (d : decode cc pc = .ok (.getfield idx, 3)) (kk : Rn G κ (pc + 3) lv (.long hl :: st) C M hl) : Rn G κ pc lv (.ref (G.1 11 0) :: st) C M hl :=
  g_get (ci := 5) X (by decide) rfl rfl wla_X5 (by decide) hf rfl d kk
theorem r_gi0 (j : Nat) {idx : Nat} (X : Cx G κ cc nL own ret R) (hf : Cond.fieldLink own idx (TX4 j).1 (TX4 j).2.1 (TX4 j).2.2.1 ∈ bpW) (d : decode cc pc = .ok (.getfield idx, 3)) (hj : j < 10) (hF : bpF 0 j = 0) (kk : Rn G κ (pc + 3) lv (.int (C 0 0 j) :: st) C M hl) : Rn G κ pc lv (.ref (G.1 0 0) :: st) C M hl := g_get (ci := 4) X (by decide) rfl rfl wla_X4 hj hf (by rw [hF, bpm_c _ _ (by decide)]; rfl) d kk
theorem r_gr0_0 {idx : Nat} (X : Cx G κ cc nL own ret R) (hf : Cond.fieldLink own idx (TX4 0).1 (TX4 0).2.1 (TX4 0).2.2.1 ∈ bpW) (d : decode cc pc = .ok (.getfield idx, 3)) (kk : Rn G κ (pc + 3) lv (.ref (G.1 1 0) :: st) C M hl) : Rn G κ pc lv (.ref (G.1 0 0) :: st) C M hl := g_get (ci := 4) X (by decide) rfl rfl wla_X4 (by decide) hf rfl d kk
theorem r_gr0_1 {idx : Nat} (X : Cx G κ cc nL own ret R) (hf : Cond.fieldLink own idx (TX4 1).1 (TX4 1).2.1 (TX4 1).2.2.1 ∈ bpW) (d : decode cc pc = .ok (.getfield idx, 3)) (kk : Rn G κ (pc + 3) lv (.ref (G.1 3 0) :: st) C M hl) : Rn G κ pc lv (.ref (G.1 0 0) :: st) C M hl := g_get (ci := 4) X (by decide) rfl rfl wla_X4 (by decide) hf rfl d kk
theorem r_gr0_2 {idx : Nat} (X : Cx G κ cc nL own ret R) (hf : Cond.fieldLink own idx (TX4 2).1 (TX4 2).2.1 (TX4 2).2.2.1 ∈ bpW) (d : decode cc pc = .ok (.getfield idx, 3)) (kk : Rn G κ (pc + 3) lv (.ref (G.1 4 0) :: st) C M hl) : Rn G κ pc lv (.ref (G.1 0 0) :: st) C M hl := g_get (ci := 4) X (by decide) rfl rfl wla_X4 (by decide) hf rfl d kk
theorem r_pi0 (j : Nat) {idx : Nat} {x : Int32} (X : Cx G κ cc nL own ret R) (hf : Cond.fieldLink own idx (TX4 j).1 (TX4 j).2.1 (TX4 j).2.2.1 ∈ bpW) (d : decode cc pc = .ok (.putfield idx, 3)) (hj : j < 10) (hF : bpF 0 j = 0) (hfin : (TX4 j).2.2.2 = false) (hd : parseFieldDescriptor (TX4 j).2.2.1 = some .int) (kk : Rn G κ (pc + 3) lv st (upC C 0 0 j x) M hl) : Rn G κ pc lv (.int x :: .ref (G.1 0 0) :: st) C M hl := g_putC (ci := 4) X (by decide) (by decide) hF rfl rfl wla_X4 tyX4_ok nmX4 hj hf hfin hd rfl rfl d kk
theorem r_gi1 (j : Nat) {idx : Nat} (X : Cx G κ cc nL own ret R) (hf : Cond.fieldLink own idx (TX1 j).1 (TX1 j).2.1 (TX1 j).2.2.1 ∈ bpW) (d : decode cc pc = .ok (.getfield idx, 3)) (hj : j < 2) (hF : bpF 1 j = 0) (kk : Rn G κ (pc + 3) lv (.int (C 1 0 j) :: st) C M hl) : Rn G κ pc lv (.ref (G.1 1 0) :: st) C M hl := g_get (ci := 1) X (by decide) rfl rfl wla_X1 hj hf (by rw [hF, bpm_c _ _ (by decide)]; rfl) d kk
theorem r_gr1_0 {idx : Nat} (X : Cx G κ cc nL own ret R) (hf : Cond.fieldLink own idx (TX1 0).1 (TX1 0).2.1 (TX1 0).2.2.1 ∈ bpW) (d : decode cc pc = .ok (.getfield idx, 3)) (kk : Rn G κ (pc + 3) lv (.ref (G.1 2 0) :: st) C M hl) : Rn G κ pc lv (.ref (G.1 1 0) :: st) C M hl := g_get (ci := 1) X (by decide) rfl rfl wla_X1 (by decide) hf rfl d kk
theorem r_pi1 (j : Nat) {idx : Nat} {x : Int32} (X : Cx G κ cc nL own ret R) (hf : Cond.fieldLink own idx (TX1 j).1 (TX1 j).2.1 (TX1 j).2.2.1 ∈ bpW) (d : decode cc pc = .ok (.putfield idx, 3)) (hj : j < 2) (hF : bpF 1 j = 0) (hfin : (TX1 j).2.2.2 = false) (hd : parseFieldDescriptor (TX1 j).2.2.1 = some .int) (kk : Rn G κ (pc + 3) lv st (upC C 1 0 j x) M hl) : Rn G κ pc lv (.int x :: .ref (G.1 1 0) :: st) C M hl := g_putC (ci := 1) X (by decide) (by decide) hF rfl rfl wla_X1 tyX1_ok nmX1 hj hf hfin hd rfl rfl d kk
theorem r_gi5 {i : Nat} (j : Nat) {idx : Nat} (X : Cx G κ cc nL own ret R) (hi : i < 6) (hf : Cond.fieldLink own idx (TX2 j).1 (TX2 j).2.1 (TX2 j).2.2.1 ∈ bpW) (d : decode cc pc = .ok (.getfield idx, 3)) (hj : j < 11) (hF : bpF 5 j = 0) (kk : Rn G κ (pc + 3) lv (.int (C 5 i j) :: st) C M hl) : Rn G κ pc lv (.ref (G.1 5 i) :: st) C M hl := g_get (ci := 2) X hi rfl rfl wla_X2 hj hf (by rw [hF, bpm_c _ _ (by decide)]; rfl) d kk
theorem r_gr5_0 {i : Nat} {idx : Nat} (X : Cx G κ cc nL own ret R) (hi : i < 6) (hf : Cond.fieldLink own idx (TX2 0).1 (TX2 0).2.1 (TX2 0).2.2.1 ∈ bpW) (d : decode cc pc = .ok (.getfield idx, 3)) (kk : Rn G κ (pc + 3) lv (.ref (G.1 6 i) :: st) C M hl) : Rn G κ pc lv (.ref (G.1 5 i) :: st) C M hl := g_get (ci := 2) X hi rfl rfl wla_X2 (by decide) hf rfl d kk
theorem r_pi5 {i : Nat} (j : Nat) {idx : Nat} {x : Int32} (X : Cx G κ cc nL own ret R) (hi : i < 6) (hf : Cond.fieldLink own idx (TX2 j).1 (TX2 j).2.1 (TX2 j).2.2.1 ∈ bpW) (d : decode cc pc = .ok (.putfield idx, 3)) (hj : j < 11) (hF : bpF 5 j = 0) (hfin : (TX2 j).2.2.2 = false) (hd : parseFieldDescriptor (TX2 j).2.2.1 = some .int) (kk : Rn G κ (pc + 3) lv st (upC C 5 i j x) M hl) : Rn G κ pc lv (.int x :: .ref (G.1 5 i) :: st) C M hl := g_putC (ci := 2) X hi (by decide) hF rfl rfl wla_X2 tyX2_ok nmX2 hj hf hfin hd rfl rfl d kk
theorem r_pz5 {i : Nat} (j : Nat) {idx : Nat} {x : Int32} (X : Cx G κ cc nL own ret R) (hi : i < 6) (hz : x = 0 ∨ x = 1) (hf : Cond.fieldLink own idx (TX2 j).1 (TX2 j).2.1 (TX2 j).2.2.1 ∈ bpW) (d : decode cc pc = .ok (.putfield idx, 3)) (hj : j < 11) (hF : bpF 5 j = 0) (hfin : (TX2 j).2.2.2 = false) (hd : parseFieldDescriptor (TX2 j).2.2.1 = some .boolean) (kk : Rn G κ (pc + 3) lv st (upC C 5 i j x) M hl) : Rn G κ pc lv (.int x :: .ref (G.1 5 i) :: st) C M hl := g_putC (ci := 2) X hi (by decide) hF rfl rfl wla_X2 tyX2_ok nmX2 hj hf hfin hd (by rcases hz with rfl | rfl <;> decide) (by rcases hz with rfl | rfl <;> decide) d kk
theorem r_gi6 {i : Nat} (j : Nat) {idx : Nat} (X : Cx G κ cc nL own ret R) (hi : i < 6) (hf : Cond.fieldLink own idx (TX3 j).1 (TX3 j).2.1 (TX3 j).2.2.1 ∈ bpW) (d : decode cc pc = .ok (.getfield idx, 3)) (hj : j < 3) (hF : bpF 6 j = 0) (kk : Rn G κ (pc + 3) lv (.int (C 6 i j) :: st) C M hl) : Rn G κ pc lv (.ref (G.1 6 i) :: st) C M hl := g_get (ci := 3) X hi rfl rfl wla_X3 hj hf (by rw [hF, bpm_c _ _ (by decide)]; rfl) d kk
theorem r_gr6_0 {i : Nat} {idx : Nat} (X : Cx G κ cc nL own ret R) (hi : i < 6) (hf : Cond.fieldLink own idx (TX3 0).1 (TX3 0).2.1 (TX3 0).2.2.1 ∈ bpW) (d : decode cc pc = .ok (.getfield idx, 3)) (kk : Rn G κ (pc + 3) lv (.ref (G.1 7 i) :: st) C M hl) : Rn G κ pc lv (.ref (G.1 6 i) :: st) C M hl := g_get (ci := 3) X hi rfl rfl wla_X3 (by decide) hf rfl d kk
theorem r_gr6_1 {i : Nat} {idx : Nat} (X : Cx G κ cc nL own ret R) (hi : i < 6) (hf : Cond.fieldLink own idx (TX3 1).1 (TX3 1).2.1 (TX3 1).2.2.1 ∈ bpW) (d : decode cc pc = .ok (.getfield idx, 3)) (kk : Rn G κ (pc + 3) lv (.ref (G.1 8 i) :: st) C M hl) : Rn G κ pc lv (.ref (G.1 6 i) :: st) C M hl := g_get (ci := 3) X hi rfl rfl wla_X3 (by decide) hf rfl d kk
theorem r_pi6 {i : Nat} (j : Nat) {idx : Nat} {x : Int32} (X : Cx G κ cc nL own ret R) (hi : i < 6) (hf : Cond.fieldLink own idx (TX3 j).1 (TX3 j).2.1 (TX3 j).2.2.1 ∈ bpW) (d : decode cc pc = .ok (.putfield idx, 3)) (hj : j < 3) (hF : bpF 6 j = 0) (hfin : (TX3 j).2.2.2 = false) (hd : parseFieldDescriptor (TX3 j).2.2.1 = some .int) (kk : Rn G κ (pc + 3) lv st (upC C 6 i j x) M hl) : Rn G κ pc lv (.int x :: .ref (G.1 6 i) :: st) C M hl := g_putC (ci := 3) X hi (by decide) hF rfl rfl wla_X3 tyX3_ok nmX3 hj hf hfin hd rfl rfl d kk
theorem r_gi9 {i : Nat} (j : Nat) {idx : Nat} (X : Cx G κ cc nL own ret R) (hi : i < 12) (hf : Cond.fieldLink own idx (TX0 j).1 (TX0 j).2.1 (TX0 j).2.2.1 ∈ bpW) (d : decode cc pc = .ok (.getfield idx, 3)) (hj : j < 8) (hF : bpF 9 j = 0) (kk : Rn G κ (pc + 3) lv (.int (C 9 i j) :: st) C M hl) : Rn G κ pc lv (.ref (G.1 9 i) :: st) C M hl := g_get (ci := 0) X hi rfl rfl wla_X0 hj hf (by rw [hF, bpm_c _ _ (by decide)]; rfl) d kk
theorem r_gr9_0 {i : Nat} {idx : Nat} (X : Cx G κ cc nL own ret R) (hi : i < 12) (hf : Cond.fieldLink own idx (TX0 0).1 (TX0 0).2.1 (TX0 0).2.2.1 ∈ bpW) (d : decode cc pc = .ok (.getfield idx, 3)) (kk : Rn G κ (pc + 3) lv (.ref (G.1 10 i) :: st) C M hl) : Rn G κ pc lv (.ref (G.1 9 i) :: st) C M hl := g_get (ci := 0) X hi rfl rfl wla_X0 (by decide) hf rfl d kk
theorem r_pi9 {i : Nat} (j : Nat) {idx : Nat} {x : Int32} (X : Cx G κ cc nL own ret R) (hi : i < 12) (hf : Cond.fieldLink own idx (TX0 j).1 (TX0 j).2.1 (TX0 j).2.2.1 ∈ bpW) (d : decode cc pc = .ok (.putfield idx, 3)) (hj : j < 8) (hF : bpF 9 j = 0) (hfin : (TX0 j).2.2.2 = false) (hd : parseFieldDescriptor (TX0 j).2.2.1 = some .int) (kk : Rn G κ (pc + 3) lv st (upC C 9 i j x) M hl) : Rn G κ pc lv (.int x :: .ref (G.1 9 i) :: st) C M hl := g_putC (ci := 0) X hi (by decide) hF rfl rfl wla_X0 tyX0_ok nmX0 hj hf hfin hd rfl rfl d kk
theorem r_pz9 {i : Nat} (j : Nat) {idx : Nat} {x : Int32} (X : Cx G κ cc nL own ret R) (hi : i < 12) (hz : x = 0 ∨ x = 1) (hf : Cond.fieldLink own idx (TX0 j).1 (TX0 j).2.1 (TX0 j).2.2.1 ∈ bpW) (d : decode cc pc = .ok (.putfield idx, 3)) (hj : j < 8) (hF : bpF 9 j = 0) (hfin : (TX0 j).2.2.2 = false) (hd : parseFieldDescriptor (TX0 j).2.2.1 = some .boolean) (kk : Rn G κ (pc + 3) lv st (upC C 9 i j x) M hl) : Rn G κ pc lv (.int x :: .ref (G.1 9 i) :: st) C M hl := g_putC (ci := 0) X hi (by decide) hF rfl rfl wla_X0 tyX0_ok nmX0 hj hf hfin hd (by rcases hz with rfl | rfl <;> decide) (by rcases hz with rfl | rfl <;> decide) d kk
theorem r_gim (j : Nat) {idx : Nat} (X : Cx G κ cc nL own ret R) (hf : Cond.fieldLink own idx (TX5 j).1 (TX5 j).2.1 (TX5 j).2.2.1 ∈ bpW) (d : decode cc pc = .ok (.getfield idx, 3)) (hj : j < 30) (hF : bpF 11 j = 0) (kk : Rn G κ (pc + 3) lv (.int (M j 0) :: st) C M hl) : Rn G κ pc lv (.ref (G.1 11 0) :: st) C M hl := g_get (ci := 5) X (by decide) rfl rfl wla_X5 hj hf (by rw [hF, bpm_o]; rfl) d kk
theorem r_gam (s : Nat) {idx : Nat} (X : Cx G κ cc nL own ret R) (hf : Cond.fieldLink own idx (TX5 s).1 (TX5 s).2.1 (TX5 s).2.2.1 ∈ bpW) (d : decode cc pc = .ok (.getfield idx, 3)) (hj : s < 30) (hF : bpF 11 s = 20 + s + 2) (kk : Rn G κ (pc + 3) lv (.ref (G.1 (20 + s) 0) :: st) C M hl) : Rn G κ pc lv (.ref (G.1 11 0) :: st) C M hl := g_get (ci := 5) X (by decide) rfl rfl wla_X5 hj hf (by rw [hF]; rfl) d kk
theorem r_pim (j : Nat) {idx : Nat} {x : Int32} (X : Cx G κ cc nL own ret R) (hf : Cond.fieldLink own idx (TX5 j).1 (TX5 j).2.1 (TX5 j).2.2.1 ∈ bpW) (d : decode cc pc = .ok (.putfield idx, 3)) (hj : j < 30) (hF : bpF 11 j = 0) (hfin : (TX5 j).2.2.2 = false) (hd : parseFieldDescriptor (TX5 j).2.2.1 = some .int) (kk : Rn G κ (pc + 3) lv st C (upM M j 0 x) hl) : Rn G κ pc lv (.int x :: .ref (G.1 11 0) :: st) C M hl := g_putO X hF hj hf hfin hd rfl rfl d kk
theorem bpL_le (k : Nat) : (bpL k).2 ≤ 144 := by
  unfold bpL
  split <;> decide
theorem g_ix {k j : Nat} (h : j < (bpL k).2) : j < 2 ^ 31 := by
  have := bpL_le k
  omega
theorem g_in {k j : Nat} {a : ClassId} {f : Nat → Value} (h : j < (bpL k).2) : ¬ (nI j < 0 ∨ (arrV a (bpL k).2 f).slots.size ≤ (nI j).toNatClampNeg) := by
  rw [arrV_size]
  exact vp_in_nI h (by have := bpL_le k; omega)
theorem g_arr {k i : Nat} {f : Nat → Int32} {H : Heap} (hO : bpO k = none) (h : bpAt G hl k i f H) : H[G.1 k i]? = some (arrV (G.2.2 (bpL k).1) (bpL k).2 (fun j => bpw G f j (bpE k))) := by
  unfold bpAt at h
  rw [hO] at h
  exact h
/-- an int out of an array -/
theorem g_iald {k i j : Nat} {x : Int32} (X : Cx G κ cc nL own ret R) (hx : x = nI j) (hj : j < (bpL k).2) (hi : i < bpN k) (hO : bpO k = none) (hA : (bpL k).1 = 0) (hE : bpE k = 0) (d : decode cc pc = .ok (.iaload, 1)) (kk : Rn G κ (pc + 1) lv (.int (bpm C M k i j) :: st) C M hl) : Rn G κ pc lv (.int x :: .ref (G.1 k i) :: st) C M hl := by
  subst hx
  intro H locs ls hP hS hL
  have h0 := g_arr hO (hP k i hi)
  rw [hA, hE] at h0
  obtain ⟨hex, hb, hml, hown, hts, hr, hlk, hK, hg, hR⟩ := X
  exact W.iald (v := .int (bpm C M k i j)) hex hb h0 ((hK.2 0 _ rfl).1 _ _) (fun q => by cases q) (g_in hj) (by rw [nI_clamp (g_ix hj), arrV_read _ _ hj]; rfl) rfl rfl d (kk H locs ls hP hS hL)
theorem g_zald {k i j : Nat} {x : Int32} (X : Cx G κ cc nL own ret R) (hx : x = nI j) (hj : j < (bpL k).2) (hi : i < bpN k) (hO : bpO k = none) (hA : (bpL k).1 = 1) (hE : bpE k = 0) (d : decode cc pc = .ok (.baload, 1)) (kk : Rn G κ (pc + 1) lv (.int (bpm C M k i j) :: st) C M hl) : Rn G κ pc lv (.int x :: .ref (G.1 k i) :: st) C M hl := by
  subst hx
  intro H locs ls hP hS hL
  have h0 := g_arr hO (hP k i hi)
  rw [hA, hE] at h0
  obtain ⟨hex, hb, hml, hown, hts, hr, hlk, hK, hg, hR⟩ := X
  exact W.zald (v := .int (bpm C M k i j)) hex hb h0 ((hK.2 1 _ rfl).1 _ _) (fun q => by cases q) (g_in hj) (by rw [nI_clamp (g_ix hj), arrV_read _ _ hj]; rfl) rfl rfl d (kk H locs ls hP hS hL)
theorem g_iast {k i j : Nat} {x v : Int32} (X : Cx G κ cc nL own ret R) (hx : x = nI j) (hj : j < (bpL k).2) (hi : i < bpN k) (hO : bpO k = none) (hA : (bpL k).1 = 0) (hE : bpE k = 0) (d : decode cc pc = .ok (.iastore, 1)) {H : Heap} {locs : List Loc} {ls : Array Slot} (hP : WP G C M hl H) (hS : va_S (bpA G) (ks κ).heap H locs)
    (kk : ∀ (H1 : Heap) (locs1 : List Loc), bpAt G hl k i (upd (bpm C M k i) j v) H1 → (∀ q, q ≠ G.1 k i → H1[q]? = H[q]?) → va_S (bpA G) (ks κ).heap H1 locs1 → W (kp κ) (kl κ) (ke κ) (kR κ) (ks κ) (km κ) (ka κ) (kb κ) (kM κ) (kc κ) H1 locs1 (kn κ) (kS κ) (kQ κ) (F0 (km κ) (pc + 1) ls st)) :
    W (kp κ) (kl κ) (ke κ) (kR κ) (ks κ) (km κ) (ka κ) (kb κ) (kM κ) (kc κ) H locs (kn κ) (kS κ) (kQ κ) (F0 (km κ) pc ls (.int v :: .int x :: .ref (G.1 k i) :: st)) := by
  subst hx
  have h0 := g_arr hO (hP k i hi)
  rw [hA, hE] at h0
  obtain ⟨hex, hb, hml, hown, hts, hr, hlk, hK, hg, hR⟩ := X
  refine W.iast hex hb h0 ((hK.2 0 _ rfl).1 _ _) (fun q => by cases q) (g_in hj) rfl rfl d fun H1 e z oq => ?_
  refine kk H1 _ ?_ oq (hS.put z oq (bpA_in hi))
  unfold bpAt
  rw [hO]
  show H1[G.1 k i]? = _
  rw [e, nI_clamp (g_ix hj), arrV_store, hA, hE]
  refine congrArg (fun z => some (arrV (G.2.2 0) (bpL k).2 z)) (funext fun q => ?_)
  by_cases hq : q = j
  · subst hq
    simp [updV, upd, bpw]
  · simp [updV, upd, bpw, hq]
theorem g_zast {k i j : Nat} {x v : Int32} (X : Cx G κ cc nL own ret R) (hz : v = 0 ∨ v = 1) (hx : x = nI j) (hj : j < (bpL k).2) (hi : i < bpN k) (hO : bpO k = none) (hA : (bpL k).1 = 1) (hE : bpE k = 0) (d : decode cc pc = .ok (.bastore, 1)) {H : Heap} {locs : List Loc} {ls : Array Slot} (hP : WP G C M hl H) (hS : va_S (bpA G) (ks κ).heap H locs)
    (kk : ∀ (H1 : Heap) (locs1 : List Loc), bpAt G hl k i (upd (bpm C M k i) j v) H1 → (∀ q, q ≠ G.1 k i → H1[q]? = H[q]?) → va_S (bpA G) (ks κ).heap H1 locs1 → W (kp κ) (kl κ) (ke κ) (kR κ) (ks κ) (km κ) (ka κ) (kb κ) (kM κ) (kc κ) H1 locs1 (kn κ) (kS κ) (kQ κ) (F0 (km κ) (pc + 1) ls st)) :
    W (kp κ) (kl κ) (ke κ) (kR κ) (ks κ) (km κ) (ka κ) (kb κ) (kM κ) (kc κ) H locs (kn κ) (kS κ) (kQ κ) (F0 (km κ) pc ls (.int v :: .int x :: .ref (G.1 k i) :: st)) := by
  subst hx
  have h0 := g_arr hO (hP k i hi)
  rw [hA, hE] at h0
  obtain ⟨hex, hb, hml, hown, hts, hr, hlk, hK, hg, hR⟩ := X
  have hnar : narrow .boolean (.int v) = .int v := by rcases hz with rfl | rfl <;> decide
  refine W.zast hex hb h0 ((hK.2 1 _ rfl).1 _ _) (fun q => by cases q) (g_in hj) rfl rfl d fun H1 e z oq => ?_
  refine kk H1 _ ?_ oq (hS.put z oq (bpA_in hi))
  unfold bpAt
  rw [hO]
  show H1[G.1 k i]? = _
  rw [e, nI_clamp (g_ix hj), arrV_store, hA, hE, hnar]
  refine congrArg (fun z => some (arrV (G.2.2 1) (bpL k).2 z)) (funext fun q => ?_)
  by_cases hq : q = j
  · subst hq
    simp [updV, upd, bpw]
  · simp [updV, upd, bpw, hq]
/-- class arrays: codes, flowRow, numberRow, held -/
theorem r_iaC {k i : Nat} (j : Nat) {x : Int32} (X : Cx G κ cc nL own ret R) (hx : x = nI j) (hj : j < (bpL k).2) (hi : i < bpN k) (d : decode cc pc = .ok (.iaload, 1)) (hk : k < 11) (hO : bpO k = none) (hA : (bpL k).1 = 0) (hE : bpE k = 0) (kk : Rn G κ (pc + 1) lv (.int (C k i j) :: st) C M hl) : Rn G κ pc lv (.int x :: .ref (G.1 k i) :: st) C M hl :=
  g_iald X hx hj hi hO hA hE d (by rw [bpm_c _ _ hk]; exact kk)
theorem r_isC {k i : Nat} (j : Nat) {x v : Int32} (X : Cx G κ cc nL own ret R) (hx : x = nI j) (hj : j < (bpL k).2) (hi : i < bpN k) (d : decode cc pc = .ok (.iastore, 1)) (hk : k < 11) (hO : bpO k = none) (hA : (bpL k).1 = 0) (hE : bpE k = 0) (kk : Rn G κ (pc + 1) lv st (upC C k i j v) M hl) : Rn G κ pc lv (.int v :: .int x :: .ref (G.1 k i) :: st) C M hl :=
  fun H locs ls hP hS hL => g_iast X hx hj hi hO hA hE d hP hS (fun H1 locs1 new oth hS1 => kk H1 locs1 ls (hP.putC X.2.2.2.2.2.2.2.2.1 hi hk (by rw [bpm_c _ _ hk] at new; exact new) oth) hS1 hL)
/-- the reference's arrays -/
theorem r_iaM {s : Nat} (j : Nat) {x : Int32} (X : Cx G κ cc nL own ret R) (hx : x = nI j) (hj : j < (bpL (20 + s)).2) (d : decode cc pc = .ok (.iaload, 1)) (hi : 0 < bpN (20 + s)) (hO : bpO (20 + s) = none) (hA : (bpL (20 + s)).1 = 0) (hE : bpE (20 + s) = 0) (kk : Rn G κ (pc + 1) lv (.int (M s j) :: st) C M hl) : Rn G κ pc lv (.int x :: .ref (G.1 (20 + s) 0) :: st) C M hl :=
  g_iald X hx hj hi hO hA hE d (by rw [bpm_a]; exact kk)
theorem r_zaM {s : Nat} (j : Nat) {x : Int32} (X : Cx G κ cc nL own ret R) (hx : x = nI j) (hj : j < (bpL (20 + s)).2) (d : decode cc pc = .ok (.baload, 1)) (hi : 0 < bpN (20 + s)) (hO : bpO (20 + s) = none) (hA : (bpL (20 + s)).1 = 1) (hE : bpE (20 + s) = 0) (kk : Rn G κ (pc + 1) lv (.int (M s j) :: st) C M hl) : Rn G κ pc lv (.int x :: .ref (G.1 (20 + s) 0) :: st) C M hl :=
  g_zald X hx hj hi hO hA hE d (by rw [bpm_a]; exact kk)
theorem r_isM {s : Nat} (j : Nat) {x v : Int32} (X : Cx G κ cc nL own ret R) (hx : x = nI j) (hj : j < (bpL (20 + s)).2) (d : decode cc pc = .ok (.iastore, 1)) (hi : 0 < bpN (20 + s)) (hO : bpO (20 + s) = none) (hA : (bpL (20 + s)).1 = 0) (hE : bpE (20 + s) = 0) (kk : Rn G κ (pc + 1) lv st C (upM M s j v) hl) : Rn G κ pc lv (.int v :: .int x :: .ref (G.1 (20 + s) 0) :: st) C M hl :=
  fun H locs ls hP hS hL => g_iast X hx hj hi hO hA hE d hP hS (fun H1 locs1 new oth hS1 => kk H1 locs1 ls (hP.putA X.2.2.2.2.2.2.2.2.1 hi (by rw [bpm_a] at new; exact new) oth) hS1 hL)
theorem r_zsM {s : Nat} (j : Nat) {x v : Int32} (X : Cx G κ cc nL own ret R) (hz : v = 0 ∨ v = 1) (hx : x = nI j) (hj : j < (bpL (20 + s)).2) (d : decode cc pc = .ok (.bastore, 1)) (hi : 0 < bpN (20 + s)) (hO : bpO (20 + s) = none) (hA : (bpL (20 + s)).1 = 1) (hE : bpE (20 + s) = 0) (kk : Rn G κ (pc + 1) lv st C (upM M s j v) hl) : Rn G κ pc lv (.int v :: .int x :: .ref (G.1 (20 + s) 0) :: st) C M hl :=
  fun H locs ls hP hS hL => g_zast X hz hx hj hi hO hA hE d hP hS (fun H1 locs1 new oth hS1 => kk H1 locs1 ls (hP.putA X.2.2.2.2.2.2.2.2.1 hi (by rw [bpm_a] at new; exact new) oth) hS1 hL)
theorem r_aaP (j : Nat) {x : Int32} (X : Cx G κ cc nL own ret R) (hx : x = nI j) (hj : j < 6) (d : decode cc pc = .ok (.aaload, 1)) (kk : Rn G κ (pc + 1) lv (.ref (G.1 5 j) :: st) C M hl) : Rn G κ pc lv (.int x :: .ref (G.1 3 0) :: st) C M hl := by
  subst hx
  intro H locs ls hP hS hL
  have h0 : H[G.1 3 0]? = some (arrV (G.2.2 2) 6 (fun j => .ref (G.1 5 j))) := g_arr rfl (hP 3 0 (by decide))
  obtain ⟨hex, hb, hml, hown, hts, hr, hlk, hK, hg, hR⟩ := X
  exact W.aald (v := .ref (G.1 5 j)) (ty := .object "BoundPorts$Port") hex hb h0 ((hK.2 2 _ rfl).1 _ _) rfl (fun q => by cases q) (by rw [arrV_size]; exact vp_in_nI hj (by omega)) (by rw [nI_clamp (by omega), arrV_read _ _ hj]) rfl rfl d (kk H locs ls hP hS hL)
theorem r_aaF (j : Nat) {x : Int32} (X : Cx G κ cc nL own ret R) (hx : x = nI j) (hj : j < 12) (d : decode cc pc = .ok (.aaload, 1)) (kk : Rn G κ (pc + 1) lv (.ref (G.1 9 j) :: st) C M hl) : Rn G κ pc lv (.int x :: .ref (G.1 4 0) :: st) C M hl := by
  subst hx
  intro H locs ls hP hS hL
  have h0 : H[G.1 4 0]? = some (arrV (G.2.2 3) 12 (fun j => .ref (G.1 9 j))) := g_arr rfl (hP 4 0 (by decide))
  obtain ⟨hex, hb, hml, hown, hts, hr, hlk, hK, hg, hR⟩ := X
  exact W.aald (v := .ref (G.1 9 j)) (ty := .object "BoundPorts$Flow") hex hb h0 ((hK.2 3 _ rfl).1 _ _) rfl (fun q => by cases q) (by rw [arrV_size]; exact vp_in_nI hj (by omega)) (by rw [nI_clamp (by omega), arrV_read _ _ hj]) rfl rfl d (kk H locs ls hP hS hL)
/-- calls -/
theorem g_blind {args : List Value} : FrameBlind (va_Pc args (fun U => bpGood G ∧ WP G C M hl U.heap ∧ va_K G.2.1 bpCl (bpT G) U)) := by
  rintro a U g mk ⟨h1, h2, h3, h4⟩
  exact ⟨h1, h2, h3, va_K.moved (u := U) (U := U.calling g mk a) (Vm.Alike.refl U.vm) h4⟩
theorem g_go {Q : bpC → bpM → Int64 → Option Value → Prop} {H : Heap} {locs : List Loc} {ls : Array Slot} {st0 : List Value} {a : Array Value} (hS : va_S (bpA G) (ks κ).heap H locs) (hL : lvs ls lv)
    (hrun : va_Run (kp κ) (kl κ) (ke κ) (kR κ) (ks κ) (km κ) (ka κ) (kb κ) (kM κ) (kc κ) H locs (kn κ) (kS κ) 0 0 (F0 (km κ) pc ls st0) st (Qm G Q a) (bpA G))
    (kk : ∀ (C' : bpC) (M' : bpM) (hl' : Int64) (v : Option Value), Q C' M' hl' v → Rn G κ (pc + 3) lv (v.toList ++ st) C' M' hl') :
    W (kp κ) (kl κ) (ke κ) (kR κ) (ks κ) (km κ) (ka κ) (kb κ) (kM κ) (kc κ) H locs (kn κ) (kS κ) (kQ κ) (F0 (km κ) pc ls st0) := by
  intro T hT XX
  obtain ⟨v, s0, t, T', L, h0, X', hLf, e1, e2, ⟨⟨v', C', M', hl', hv, hq, hw⟩, hz, hk⟩, stp⟩ := hrun T hT XX
  cases hv
  rw [h0] at hz hk
  obtain ⟨t2, a1, b1⟩ := kk C' M' hl' v hq T'.heap (locs ++ L) ls (by rw [e1]; exact hw)
    ⟨Nat.le_trans hS.1 (by rw [e1]; exact hz), fun q h1 h2 => by rw [e1, hk q (Nat.lt_of_lt_of_le h1 hS.1) h2]; exact hS.2.1 q h1 h2, fun q hq' => by
      rcases List.mem_append.mp hq' with h | h
      · exact hS.2.2 q h
      · exact hLf q h⟩ hL T' rfl X'
  exact ⟨t2, stp t2 a1, b1⟩
theorem g_callB {y : MethodName} {cy : ByteArray} {mL n idx : Nat} {ry : Option FieldType} {rm : Room} (X : Cx G κ cc nL own ret R) (md : MdB y cy mL ry n) (wml : Cond.methodLink own idx y ∈ bpW) (hR : Rm rm R mL) : CallB (kR κ) (ks κ) (ka κ) own idx y cy mL ry (Cond.code y cy mL ry :: bpW) rm 0 0 n := by
  obtain ⟨hx, hb, hml, hown, hts, hr, hlk, hK, hg, hRe⟩ := X
  obtain ⟨wcd, win, hd⟩ := md
  obtain ⟨r1, r2, r3, r4⟩ := hR
  have key : ∀ w ∈ (Cond.code y cy mL ry :: bpW), w ∈ bpW := fun w h => by
    rcases List.mem_cons.mp h with h | h
    · rw [h]; exact wcd
    · exact h
  refine ⟨r1, r2, by rw [hRe]; exact r3, by rw [hRe]; exact r4, fun w hw a' U hW => word_at hW (wd_good w (key w hw)) (hts w (key w hw)), List.mem_cons_self, hts _ wcd, hts _ win, ⟨hd.1, hd.2.1⟩, fun sig h => ?_, hts _ wml⟩
  have h2 := hd.2.2
  rw [h] at h2
  exact (Option.some.inj h2).symm
theorem r_cvg {y : MethodName} {cy : ByteArray} {mL n idx : Nat} {ry : Option FieldType} {rm : Room} {As : List Value} {k i ci N : Nat} {T : u_T} {Q : bpC → bpM → Int64 → Option Value → Prop} (X : Cx G κ cc nL own ret R) (md : MdV y cy mL ry n) (wml : Cond.methodLink own idx y ∈ bpW) (hi : i < bpN k) (hO : bpO k = some (ci, N)) (hc : bpCl[ci]? = some (y.cls, T, N)) (hn : As.length = n) (hR : Rm rm R mL) (hst : (st.map fun v => v.category).sum ≤ 8) (hlv : lv.length = nL) (hroom : kn κ ≤ R.cells ∧ kS κ ≤ R.slots) (d : decode cc pc = .ok (.invokevirtual idx, 3)) (ct : Ct G y cy mL ry rm (.ref (G.1 k i) :: As) C M hl Q)
    (kk : ∀ (C' : bpC) (M' : bpM) (hl' : Int64) (v : Option Value), Q C' M' hl' v → Rn G κ (pc + 3) lv (v.toList ++ st) C' M' hl') : Rn G κ pc lv (As.reverse ++ .ref (G.1 k i) :: st) C M hl := by
  intro H locs ls hP hS hL
  have cb := g_callB X md.1 wml hR
  obtain ⟨hx, hb, hml, hown, hts, hr, hlk, hK, hg, hRe⟩ := X
  have h0 := hP k i hi
  unfold bpAt at h0
  rw [hO] at h0
  obtain ⟨cell, q1, q2, q3, q4⟩ := h0
  have hfc := (hK.1 ci _ hc).2.1
  refine g_go (a := (Value.ref (G.1 k i) :: As).toArray) hS hL ?_ kk
  exact va_runV (rest := st) (As := As) ⟨hx, hb, hml, hown, hts⟩ (ct (kl κ)) ⟨cb, hts _ md.2.1, hts _ md.2.2⟩ ⟨g_blind, ⟨cell, q1, by rw [q3]; rfl, by rw [q2]; exact hfc⟩, fun U hU hW => ⟨rfl, hg, by rw [hU]; exact hP, va_K.moved hW.alike hK⟩⟩ rfl hn (hL.1.trans hlv) rfl (lv_room hst) d ⟨by rw [hRe]; exact hroom.1, by rw [hRe]; exact hroom.2⟩
theorem r_csg {y : MethodName} {cy : ByteArray} {mL n idx : Nat} {ry : Option FieldType} {rm : Room} {As : List Value} {Q : bpC → bpM → Int64 → Option Value → Prop} (X : Cx G κ cc nL own ret R) (md : MdS y cy mL ry n) (wml : Cond.methodLink own idx y ∈ bpW) (hn : As.length = n) (hR : Rm rm R mL) (hst : (st.map fun v => v.category).sum ≤ 8) (hlv : lv.length = nL) (hroom : kn κ ≤ R.cells ∧ kS κ ≤ R.slots) (d : decode cc pc = .ok (.invokestatic idx, 3)) (ct : Ct G y cy mL ry rm As C M hl Q)
    (kk : ∀ (C' : bpC) (M' : bpM) (hl' : Int64) (v : Option Value), Q C' M' hl' v → Rn G κ (pc + 3) lv (v.toList ++ st) C' M' hl') : Rn G κ pc lv (As.reverse ++ st) C M hl := by
  intro H locs ls hP hS hL
  have cb := g_callB X md.1 wml hR
  obtain ⟨hx, hb, hml, hown, hts, hr, hlk, hK, hg, hRe⟩ := X
  refine g_go (a := As.toArray) hS hL ?_ kk
  exact va_runS (rest := st) (As := As) ⟨hx, hb, hml, hown, hts⟩ (ct (kl κ)) ⟨cb, hts _ md.2⟩ ⟨g_blind, fun U hU hW => ⟨rfl, hg, by rw [hU]; exact hP, va_K.moved hW.alike hK⟩⟩ rfl hn (hL.1.trans hlv) rfl (lv_room hst) d ⟨by rw [hRe]; exact hroom.1, by rw [hRe]; exact hroom.2⟩

/-- what a method that only answers leaves -/
def qI (C : bpC) (M : bpM) (hl : Int64) (r : Int32) : bpC → bpM → Int64 → Option Value → Prop := fun C' M' hl' v => C' = C ∧ M' = M ∧ hl' = hl ∧ v = some (.int r)
theorem r_cv0 {y : MethodName} {cy : ByteArray} {mL idx : Nat} {ry : Option FieldType} {rm : Room} {k i ci N : Nat} {T : u_T} {Q : bpC → bpM → Int64 → Option Value → Prop} (X : Cx G κ cc nL own ret R) (md : MdV y cy mL ry 0) (wml : Cond.methodLink own idx y ∈ bpW) (d : decode cc pc = .ok (.invokevirtual idx, 3)) (hR : Rm rm R mL) (hi : i < bpN k) (hO : bpO k = some (ci, N)) (hc : bpCl[ci]? = some (y.cls, T, N)) (hst : (st.map fun v => v.category).sum ≤ 8) (hlv : lv.length = nL) (hroom : kn κ ≤ R.cells ∧ kS κ ≤ R.slots) (ct : Ct G y cy mL ry rm (.ref (G.1 k i) :: []) C M hl Q) (kk : ∀ (C' : bpC) (M' : bpM) (hl' : Int64) (v : Option Value), Q C' M' hl' v → Rn G κ (pc + 3) lv (v.toList ++ st) C' M' hl') : Rn G κ pc lv (.ref (G.1 k i) :: st) C M hl := r_cvg (As := []) X md wml hi hO hc rfl hR hst hlv hroom d ct kk
theorem r_ci0 {y : MethodName} {cy : ByteArray} {mL idx : Nat} {ry : Option FieldType} {rm : Room} {k i ci N : Nat} {T : u_T} {r : Int32} (X : Cx G κ cc nL own ret R) (md : MdV y cy mL ry 0) (wml : Cond.methodLink own idx y ∈ bpW) (d : decode cc pc = .ok (.invokevirtual idx, 3)) (hR : Rm rm R mL) (hi : i < bpN k) (hO : bpO k = some (ci, N)) (hc : bpCl[ci]? = some (y.cls, T, N)) (hst : (st.map fun v => v.category).sum ≤ 8) (hlv : lv.length = nL) (hroom : kn κ ≤ R.cells ∧ kS κ ≤ R.slots) (ct : Ct G y cy mL ry rm (.ref (G.1 k i) :: []) C M hl (qI C M hl r)) (kk : Rn G κ (pc + 3) lv (.int r :: st) C M hl) : Rn G κ pc lv (.ref (G.1 k i) :: st) C M hl := r_cv0 X md wml d hR hi hO hc hst hlv hroom ct (fun C' M' hl' v q => by obtain ⟨rfl, rfl, rfl, rfl⟩ := q; exact kk)
theorem r_cv1 {y : MethodName} {cy : ByteArray} {mL idx : Nat} {ry : Option FieldType} {rm : Room} {a0 : Value} {k i ci N : Nat} {T : u_T} {Q : bpC → bpM → Int64 → Option Value → Prop} (X : Cx G κ cc nL own ret R) (md : MdV y cy mL ry 1) (wml : Cond.methodLink own idx y ∈ bpW) (d : decode cc pc = .ok (.invokevirtual idx, 3)) (hR : Rm rm R mL) (hi : i < bpN k) (hO : bpO k = some (ci, N)) (hc : bpCl[ci]? = some (y.cls, T, N)) (hst : (st.map fun v => v.category).sum ≤ 8) (hlv : lv.length = nL) (hroom : kn κ ≤ R.cells ∧ kS κ ≤ R.slots) (ct : Ct G y cy mL ry rm (.ref (G.1 k i) :: [a0]) C M hl Q) (kk : ∀ (C' : bpC) (M' : bpM) (hl' : Int64) (v : Option Value), Q C' M' hl' v → Rn G κ (pc + 3) lv (v.toList ++ st) C' M' hl') : Rn G κ pc lv (a0 :: .ref (G.1 k i) :: st) C M hl := r_cvg (As := [a0]) X md wml hi hO hc rfl hR hst hlv hroom d ct kk
theorem r_ci1 {y : MethodName} {cy : ByteArray} {mL idx : Nat} {ry : Option FieldType} {rm : Room} {a0 : Value} {k i ci N : Nat} {T : u_T} {r : Int32} (X : Cx G κ cc nL own ret R) (md : MdV y cy mL ry 1) (wml : Cond.methodLink own idx y ∈ bpW) (d : decode cc pc = .ok (.invokevirtual idx, 3)) (hR : Rm rm R mL) (hi : i < bpN k) (hO : bpO k = some (ci, N)) (hc : bpCl[ci]? = some (y.cls, T, N)) (hst : (st.map fun v => v.category).sum ≤ 8) (hlv : lv.length = nL) (hroom : kn κ ≤ R.cells ∧ kS κ ≤ R.slots) (ct : Ct G y cy mL ry rm (.ref (G.1 k i) :: [a0]) C M hl (qI C M hl r)) (kk : Rn G κ (pc + 3) lv (.int r :: st) C M hl) : Rn G κ pc lv (a0 :: .ref (G.1 k i) :: st) C M hl := r_cv1 X md wml d hR hi hO hc hst hlv hroom ct (fun C' M' hl' v q => by obtain ⟨rfl, rfl, rfl, rfl⟩ := q; exact kk)
theorem r_cv2 {y : MethodName} {cy : ByteArray} {mL idx : Nat} {ry : Option FieldType} {rm : Room} {a0 a1 : Value} {k i ci N : Nat} {T : u_T} {Q : bpC → bpM → Int64 → Option Value → Prop} (X : Cx G κ cc nL own ret R) (md : MdV y cy mL ry 2) (wml : Cond.methodLink own idx y ∈ bpW) (d : decode cc pc = .ok (.invokevirtual idx, 3)) (hR : Rm rm R mL) (hi : i < bpN k) (hO : bpO k = some (ci, N)) (hc : bpCl[ci]? = some (y.cls, T, N)) (hst : (st.map fun v => v.category).sum ≤ 8) (hlv : lv.length = nL) (hroom : kn κ ≤ R.cells ∧ kS κ ≤ R.slots) (ct : Ct G y cy mL ry rm (.ref (G.1 k i) :: [a0, a1]) C M hl Q) (kk : ∀ (C' : bpC) (M' : bpM) (hl' : Int64) (v : Option Value), Q C' M' hl' v → Rn G κ (pc + 3) lv (v.toList ++ st) C' M' hl') : Rn G κ pc lv (a1 :: a0 :: .ref (G.1 k i) :: st) C M hl := r_cvg (As := [a0, a1]) X md wml hi hO hc rfl hR hst hlv hroom d ct kk
theorem r_ci2 {y : MethodName} {cy : ByteArray} {mL idx : Nat} {ry : Option FieldType} {rm : Room} {a0 a1 : Value} {k i ci N : Nat} {T : u_T} {r : Int32} (X : Cx G κ cc nL own ret R) (md : MdV y cy mL ry 2) (wml : Cond.methodLink own idx y ∈ bpW) (d : decode cc pc = .ok (.invokevirtual idx, 3)) (hR : Rm rm R mL) (hi : i < bpN k) (hO : bpO k = some (ci, N)) (hc : bpCl[ci]? = some (y.cls, T, N)) (hst : (st.map fun v => v.category).sum ≤ 8) (hlv : lv.length = nL) (hroom : kn κ ≤ R.cells ∧ kS κ ≤ R.slots) (ct : Ct G y cy mL ry rm (.ref (G.1 k i) :: [a0, a1]) C M hl (qI C M hl r)) (kk : Rn G κ (pc + 3) lv (.int r :: st) C M hl) : Rn G κ pc lv (a1 :: a0 :: .ref (G.1 k i) :: st) C M hl := r_cv2 X md wml d hR hi hO hc hst hlv hroom ct (fun C' M' hl' v q => by obtain ⟨rfl, rfl, rfl, rfl⟩ := q; exact kk)
theorem r_cv3 {y : MethodName} {cy : ByteArray} {mL idx : Nat} {ry : Option FieldType} {rm : Room} {a0 a1 a2 : Value} {k i ci N : Nat} {T : u_T} {Q : bpC → bpM → Int64 → Option Value → Prop} (X : Cx G κ cc nL own ret R) (md : MdV y cy mL ry 3) (wml : Cond.methodLink own idx y ∈ bpW) (d : decode cc pc = .ok (.invokevirtual idx, 3)) (hR : Rm rm R mL) (hi : i < bpN k) (hO : bpO k = some (ci, N)) (hc : bpCl[ci]? = some (y.cls, T, N)) (hst : (st.map fun v => v.category).sum ≤ 8) (hlv : lv.length = nL) (hroom : kn κ ≤ R.cells ∧ kS κ ≤ R.slots) (ct : Ct G y cy mL ry rm (.ref (G.1 k i) :: [a0, a1, a2]) C M hl Q) (kk : ∀ (C' : bpC) (M' : bpM) (hl' : Int64) (v : Option Value), Q C' M' hl' v → Rn G κ (pc + 3) lv (v.toList ++ st) C' M' hl') : Rn G κ pc lv (a2 :: a1 :: a0 :: .ref (G.1 k i) :: st) C M hl := r_cvg (As := [a0, a1, a2]) X md wml hi hO hc rfl hR hst hlv hroom d ct kk
theorem r_ci3 {y : MethodName} {cy : ByteArray} {mL idx : Nat} {ry : Option FieldType} {rm : Room} {a0 a1 a2 : Value} {k i ci N : Nat} {T : u_T} {r : Int32} (X : Cx G κ cc nL own ret R) (md : MdV y cy mL ry 3) (wml : Cond.methodLink own idx y ∈ bpW) (d : decode cc pc = .ok (.invokevirtual idx, 3)) (hR : Rm rm R mL) (hi : i < bpN k) (hO : bpO k = some (ci, N)) (hc : bpCl[ci]? = some (y.cls, T, N)) (hst : (st.map fun v => v.category).sum ≤ 8) (hlv : lv.length = nL) (hroom : kn κ ≤ R.cells ∧ kS κ ≤ R.slots) (ct : Ct G y cy mL ry rm (.ref (G.1 k i) :: [a0, a1, a2]) C M hl (qI C M hl r)) (kk : Rn G κ (pc + 3) lv (.int r :: st) C M hl) : Rn G κ pc lv (a2 :: a1 :: a0 :: .ref (G.1 k i) :: st) C M hl := r_cv3 X md wml d hR hi hO hc hst hlv hroom ct (fun C' M' hl' v q => by obtain ⟨rfl, rfl, rfl, rfl⟩ := q; exact kk)
theorem r_cv4 {y : MethodName} {cy : ByteArray} {mL idx : Nat} {ry : Option FieldType} {rm : Room} {a0 a1 a2 a3 : Value} {k i ci N : Nat} {T : u_T} {Q : bpC → bpM → Int64 → Option Value → Prop} (X : Cx G κ cc nL own ret R) (md : MdV y cy mL ry 4) (wml : Cond.methodLink own idx y ∈ bpW) (d : decode cc pc = .ok (.invokevirtual idx, 3)) (hR : Rm rm R mL) (hi : i < bpN k) (hO : bpO k = some (ci, N)) (hc : bpCl[ci]? = some (y.cls, T, N)) (hst : (st.map fun v => v.category).sum ≤ 8) (hlv : lv.length = nL) (hroom : kn κ ≤ R.cells ∧ kS κ ≤ R.slots) (ct : Ct G y cy mL ry rm (.ref (G.1 k i) :: [a0, a1, a2, a3]) C M hl Q) (kk : ∀ (C' : bpC) (M' : bpM) (hl' : Int64) (v : Option Value), Q C' M' hl' v → Rn G κ (pc + 3) lv (v.toList ++ st) C' M' hl') : Rn G κ pc lv (a3 :: a2 :: a1 :: a0 :: .ref (G.1 k i) :: st) C M hl := r_cvg (As := [a0, a1, a2, a3]) X md wml hi hO hc rfl hR hst hlv hroom d ct kk
theorem r_ci4 {y : MethodName} {cy : ByteArray} {mL idx : Nat} {ry : Option FieldType} {rm : Room} {a0 a1 a2 a3 : Value} {k i ci N : Nat} {T : u_T} {r : Int32} (X : Cx G κ cc nL own ret R) (md : MdV y cy mL ry 4) (wml : Cond.methodLink own idx y ∈ bpW) (d : decode cc pc = .ok (.invokevirtual idx, 3)) (hR : Rm rm R mL) (hi : i < bpN k) (hO : bpO k = some (ci, N)) (hc : bpCl[ci]? = some (y.cls, T, N)) (hst : (st.map fun v => v.category).sum ≤ 8) (hlv : lv.length = nL) (hroom : kn κ ≤ R.cells ∧ kS κ ≤ R.slots) (ct : Ct G y cy mL ry rm (.ref (G.1 k i) :: [a0, a1, a2, a3]) C M hl (qI C M hl r)) (kk : Rn G κ (pc + 3) lv (.int r :: st) C M hl) : Rn G κ pc lv (a3 :: a2 :: a1 :: a0 :: .ref (G.1 k i) :: st) C M hl := r_cv4 X md wml d hR hi hO hc hst hlv hroom ct (fun C' M' hl' v q => by obtain ⟨rfl, rfl, rfl, rfl⟩ := q; exact kk)
theorem r_cs1 {y : MethodName} {cy : ByteArray} {mL idx : Nat} {ry : Option FieldType} {rm : Room} {a0 : Value} {Q : bpC → bpM → Int64 → Option Value → Prop} (X : Cx G κ cc nL own ret R) (md : MdS y cy mL ry 1) (wml : Cond.methodLink own idx y ∈ bpW) (d : decode cc pc = .ok (.invokestatic idx, 3)) (hR : Rm rm R mL) (hst : (st.map fun v => v.category).sum ≤ 8) (hlv : lv.length = nL) (hroom : kn κ ≤ R.cells ∧ kS κ ≤ R.slots) (ct : Ct G y cy mL ry rm [a0] C M hl Q) (kk : ∀ (C' : bpC) (M' : bpM) (hl' : Int64) (v : Option Value), Q C' M' hl' v → Rn G κ (pc + 3) lv (v.toList ++ st) C' M' hl') : Rn G κ pc lv (a0 :: st) C M hl := r_csg (As := [a0]) X md wml rfl hR hst hlv hroom d ct kk
theorem r_csi1 {y : MethodName} {cy : ByteArray} {mL idx : Nat} {ry : Option FieldType} {rm : Room} {a0 : Value} {r : Int32} (X : Cx G κ cc nL own ret R) (md : MdS y cy mL ry 1) (wml : Cond.methodLink own idx y ∈ bpW) (d : decode cc pc = .ok (.invokestatic idx, 3)) (hR : Rm rm R mL) (hst : (st.map fun v => v.category).sum ≤ 8) (hlv : lv.length = nL) (hroom : kn κ ≤ R.cells ∧ kS κ ≤ R.slots) (ct : Ct G y cy mL ry rm [a0] C M hl (qI C M hl r)) (kk : Rn G κ (pc + 3) lv (.int r :: st) C M hl) : Rn G κ pc lv (a0 :: st) C M hl := r_cs1 X md wml d hR hst hlv hroom ct (fun C' M' hl' v q => by obtain ⟨rfl, rfl, rfl, rfl⟩ := q; exact kk)
theorem r_cs2 {y : MethodName} {cy : ByteArray} {mL idx : Nat} {ry : Option FieldType} {rm : Room} {a0 a1 : Value} {Q : bpC → bpM → Int64 → Option Value → Prop} (X : Cx G κ cc nL own ret R) (md : MdS y cy mL ry 2) (wml : Cond.methodLink own idx y ∈ bpW) (d : decode cc pc = .ok (.invokestatic idx, 3)) (hR : Rm rm R mL) (hst : (st.map fun v => v.category).sum ≤ 8) (hlv : lv.length = nL) (hroom : kn κ ≤ R.cells ∧ kS κ ≤ R.slots) (ct : Ct G y cy mL ry rm [a0, a1] C M hl Q) (kk : ∀ (C' : bpC) (M' : bpM) (hl' : Int64) (v : Option Value), Q C' M' hl' v → Rn G κ (pc + 3) lv (v.toList ++ st) C' M' hl') : Rn G κ pc lv (a1 :: a0 :: st) C M hl := r_csg (As := [a0, a1]) X md wml rfl hR hst hlv hroom d ct kk
theorem r_csi2 {y : MethodName} {cy : ByteArray} {mL idx : Nat} {ry : Option FieldType} {rm : Room} {a0 a1 : Value} {r : Int32} (X : Cx G κ cc nL own ret R) (md : MdS y cy mL ry 2) (wml : Cond.methodLink own idx y ∈ bpW) (d : decode cc pc = .ok (.invokestatic idx, 3)) (hR : Rm rm R mL) (hst : (st.map fun v => v.category).sum ≤ 8) (hlv : lv.length = nL) (hroom : kn κ ≤ R.cells ∧ kS κ ≤ R.slots) (ct : Ct G y cy mL ry rm [a0, a1] C M hl (qI C M hl r)) (kk : Rn G κ (pc + 3) lv (.int r :: st) C M hl) : Rn G κ pc lv (a1 :: a0 :: st) C M hl := r_cs2 X md wml d hR hst hlv hroom ct (fun C' M' hl' v q => by obtain ⟨rfl, rfl, rfl, rfl⟩ := q; exact kk)
theorem r_cs3 {y : MethodName} {cy : ByteArray} {mL idx : Nat} {ry : Option FieldType} {rm : Room} {a0 a1 a2 : Value} {Q : bpC → bpM → Int64 → Option Value → Prop} (X : Cx G κ cc nL own ret R) (md : MdS y cy mL ry 3) (wml : Cond.methodLink own idx y ∈ bpW) (d : decode cc pc = .ok (.invokestatic idx, 3)) (hR : Rm rm R mL) (hst : (st.map fun v => v.category).sum ≤ 8) (hlv : lv.length = nL) (hroom : kn κ ≤ R.cells ∧ kS κ ≤ R.slots) (ct : Ct G y cy mL ry rm [a0, a1, a2] C M hl Q) (kk : ∀ (C' : bpC) (M' : bpM) (hl' : Int64) (v : Option Value), Q C' M' hl' v → Rn G κ (pc + 3) lv (v.toList ++ st) C' M' hl') : Rn G κ pc lv (a2 :: a1 :: a0 :: st) C M hl := r_csg (As := [a0, a1, a2]) X md wml rfl hR hst hlv hroom d ct kk
theorem r_csi3 {y : MethodName} {cy : ByteArray} {mL idx : Nat} {ry : Option FieldType} {rm : Room} {a0 a1 a2 : Value} {r : Int32} (X : Cx G κ cc nL own ret R) (md : MdS y cy mL ry 3) (wml : Cond.methodLink own idx y ∈ bpW) (d : decode cc pc = .ok (.invokestatic idx, 3)) (hR : Rm rm R mL) (hst : (st.map fun v => v.category).sum ≤ 8) (hlv : lv.length = nL) (hroom : kn κ ≤ R.cells ∧ kS κ ≤ R.slots) (ct : Ct G y cy mL ry rm [a0, a1, a2] C M hl (qI C M hl r)) (kk : Rn G κ (pc + 3) lv (.int r :: st) C M hl) : Rn G κ pc lv (a2 :: a1 :: a0 :: st) C M hl := r_cs3 X md wml d hR hst hlv hroom ct (fun C' M' hl' v q => by obtain ⟨rfl, rfl, rfl, rfl⟩ := q; exact kk)
/-- ends -/
theorem r_iret {v : Int32} {Q : bpC → bpM → Int64 → Option Value → Prop} (X : Cx G κ cc nL own (some .int) R) (Z : Zx G κ Q) (d : decode cc pc = .ok (.ireturn, 1)) (q : Q C M hl (some (.int v))) : Rn G κ pc lv [.int v] C M hl := by
  intro H locs ls hP hS hL
  obtain ⟨hx, hb, hml, hown, hts, hr, hlk, hK, hg, hRe⟩ := X
  obtain ⟨z1, z2, z3⟩ := Z
  rw [z1, z2, z3]
  exact W.iret hx hb hr (fun t ht hW => ⟨⟨_, C, M, hl, rfl, q, by rw [ht]; exact hP⟩, hS.F ht⟩) hS.2.2 d hlk
theorem r_zret {v : Int32} {Q : bpC → bpM → Int64 → Option Value → Prop} (X : Cx G κ cc nL own (some .boolean) R) (Z : Zx G κ Q) (d : decode cc pc = .ok (.ireturn, 1)) (hz : v = 0 ∨ v = 1) (q : Q C M hl (some (.int v))) : Rn G κ pc lv [.int v] C M hl := by
  intro H locs ls hP hS hL
  obtain ⟨hx, hb, hml, hown, hts, hr, hlk, hK, hg, hRe⟩ := X
  obtain ⟨z1, z2, z3⟩ := Z
  rw [z1, z2, z3]
  exact W.zret hx hb hr (by rcases hz with rfl | rfl <;> decide) (fun t ht hW => ⟨⟨_, C, M, hl, rfl, q, by rw [ht]; exact hP⟩, hS.F ht⟩) hS.2.2 d hlk
theorem r_lret {v : Int64} {Q : bpC → bpM → Int64 → Option Value → Prop} (X : Cx G κ cc nL own (some .long) R) (Z : Zx G κ Q) (d : decode cc pc = .ok (.lreturn, 1)) (q : Q C M hl (some (.long v))) : Rn G κ pc lv [.long v] C M hl := by
  intro H locs ls hP hS hL
  obtain ⟨hx, hb, hml, hown, hts, hr, hlk, hK, hg, hRe⟩ := X
  obtain ⟨z1, z2, z3⟩ := Z
  rw [z1, z2, z3]
  exact W.lret hx hb hr (fun t ht hW => ⟨⟨_, C, M, hl, rfl, q, by rw [ht]; exact hP⟩, hS.F ht⟩) hS.2.2 d hlk
theorem r_vret {Q : bpC → bpM → Int64 → Option Value → Prop} (X : Cx G κ cc nL own none R) (Z : Zx G κ Q) (d : decode cc pc = .ok (.return_, 1)) (q : Q C M hl none) : Rn G κ pc lv [] C M hl := by
  intro H locs ls hP hS hL
  obtain ⟨hx, hb, hml, hown, hts, hr, hlk, hK, hg, hRe⟩ := X
  obtain ⟨z1, z2, z3⟩ := Z
  rw [z1, z2, z3]
  exact W.vret hx hb hr (fun t ht hW => ⟨⟨_, C, M, hl, rfl, q, by rw [ht]; exact hP⟩, hS.F ht⟩) hS.2.2 d hlk
theorem zroom {Q : bpC → bpM → Int64 → Option Value → Prop} (Z : Zx G κ Q) : kn κ ≤ R.cells ∧ kS κ ≤ R.slots := ⟨by rw [Z.1]; exact Nat.zero_le _, by rw [Z.2.1]; exact Nat.zero_le _⟩
end MEM
/-- a contract out of a walk -/
theorem ct_of {G : bpG} {y : MethodName} {cy : ByteArray} {mL : Nat} {ry : Option FieldType} {rm : Room} {args : List Value} {C : bpC} {M : bpM} {hl : Int64} {Q : bpC → bpM → Int64 → Option Value → Prop} (lv0 : List (Option Value)) (hy : plainName y.cls = true) (hlen : lv0.length = mL) (hlv : asc 0 lv0 = lv_args 0 args) (hsl : (lg_sl args).length ≤ mL)
    (body : ∀ κ : bpK, Cx G κ cy mL y.cls ry rm → Zx G κ Q → Rn G κ 0 lv0 [] C M hl) : Ct G y cy mL ry rm args C M hl Q := by
  intro l
  refine Met.ofW (cc := cy) (maxL := mL) (ret := ry) hy rfl ?_
  intro p e s m as below meth c s1 B hml hv
  obtain ⟨rfl, hg, hP, hK⟩ := hv
  have hts := atoms_spec (ws := Cond.code y cy mL ry :: bpW) B.pre
  have hown : s.vm.findClass y.cls = some m.cls := findClass_of_methodNamed B.named
  have hl0 := lv_entry args (n := mL) hsl
  rw [lg_entry_eq]
  refine body (p, l, e, rm, s, m, args.toArray, below, meth, c, 0, 0, MQ below (Qm G Q) args.toArray s 0 0 (bpA G)) ⟨B.exec, B.bytes, hml, hown, fun w h => hts w (List.mem_cons_of_mem _ h), B.returns, B.notSynchronized, hK, hg, rfl⟩ ⟨rfl, rfl, rfl⟩ s.heap [] _ hP va_S.rf ?_
  unfold lvs
  rw [hlen, hlv]
  exact hl0
end
section
def qL (C : bpC) (M : bpM) (hl : Int64) (r : Int64) : bpC → bpM → Int64 → Option Value → Prop := fun C' M' hl' v => C' = C ∧ M' = M ∧ hl' = hl ∧ v = some (.long r)
def qC (M : bpM) (hl : Int64) (P : bpC → Prop) : bpC → bpM → Int64 → Option Value → Prop := fun C' M' hl' v => M' = M ∧ hl' = hl ∧ v = none ∧ P C'
def qCi (M : bpM) (hl : Int64) (P : bpC → Int32 → Prop) : bpC → bpM → Int64 → Option Value → Prop := fun C' M' hl' v => M' = M ∧ hl' = hl ∧ ∃ r : Int32, v = some (.int r) ∧ P C' r
def qM (C : bpC) (hl : Int64) (P : bpM → Prop) : bpC → bpM → Int64 → Option Value → Prop := fun C' M' hl' v => C' = C ∧ hl' = hl ∧ v = none ∧ P M'
def qMi (C : bpC) (hl : Int64) (P : bpM → Int32 → Prop) : bpC → bpM → Int64 → Option Value → Prop := fun C' M' hl' v => C' = C ∧ hl' = hl ∧ ∃ r : Int32, v = some (.int r) ∧ P M' r
def qH (C : bpC) (M : bpM) (r : Int64) : bpC → bpM → Int64 → Option Value → Prop := fun C' M' hl' v => C' = C ∧ M' = M ∧ hl' = r ∧ v = none
def qHl (C : bpC) (M : bpM) (r : Int64) : bpC → bpM → Int64 → Option Value → Prop := fun C' M' _ v => C' = C ∧ M' = M ∧ v = some (.long r)
section CALLS
variable {G : bpG} {κ : bpK} {cc : ByteArray} {nL : Nat} {own : String} {ret : Option FieldType} {R : Room} {pc : Nat} {lv : List (Option Value)} {st : List Value} {C : bpC} {M : bpM} {hl : Int64}
theorem r_cv0_I {y : MethodName} {cy : ByteArray} {mL idx : Nat} {ry : Option FieldType} {rm : Room} {k i ci N : Nat} {T : u_T} {r : Int32} (X : Cx G κ cc nL own ret R) (md : MdV y cy mL ry 0) (wml : Cond.methodLink own idx y ∈ bpW) (d : decode cc pc = .ok (.invokevirtual idx, 3)) (hR : Rm rm R mL) (hi : i < bpN k) (hO : bpO k = some (ci, N)) (hc : bpCl[ci]? = some (y.cls, T, N)) (hst : (st.map fun v => v.category).sum ≤ 8) (hlv : lv.length = nL) (hroom : kn κ ≤ R.cells ∧ kS κ ≤ R.slots) (ct : Ct G y cy mL ry rm (.ref (G.1 k i) :: []) C M hl (qI C M hl r)) (kk : Rn G κ (pc + 3) lv (.int r :: st) C M hl) : Rn G κ pc lv (.ref (G.1 k i) :: st) C M hl := r_cv0 X md wml d hR hi hO hc hst hlv hroom ct (fun C' M' hl' v q => by obtain ⟨rfl, rfl, rfl, rfl⟩ := q; exact kk)
theorem r_cv0_L {y : MethodName} {cy : ByteArray} {mL idx : Nat} {ry : Option FieldType} {rm : Room} {k i ci N : Nat} {T : u_T} {r : Int64} (X : Cx G κ cc nL own ret R) (md : MdV y cy mL ry 0) (wml : Cond.methodLink own idx y ∈ bpW) (d : decode cc pc = .ok (.invokevirtual idx, 3)) (hR : Rm rm R mL) (hi : i < bpN k) (hO : bpO k = some (ci, N)) (hc : bpCl[ci]? = some (y.cls, T, N)) (hst : (st.map fun v => v.category).sum ≤ 8) (hlv : lv.length = nL) (hroom : kn κ ≤ R.cells ∧ kS κ ≤ R.slots) (ct : Ct G y cy mL ry rm (.ref (G.1 k i) :: []) C M hl (qL C M hl r)) (kk : Rn G κ (pc + 3) lv (.long r :: st) C M hl) : Rn G κ pc lv (.ref (G.1 k i) :: st) C M hl := r_cv0 X md wml d hR hi hO hc hst hlv hroom ct (fun C' M' hl' v q => by obtain ⟨rfl, rfl, rfl, rfl⟩ := q; exact kk)
theorem r_cv0_C {y : MethodName} {cy : ByteArray} {mL idx : Nat} {ry : Option FieldType} {rm : Room} {k i ci N : Nat} {T : u_T} {P : bpC → Prop} (X : Cx G κ cc nL own ret R) (md : MdV y cy mL ry 0) (wml : Cond.methodLink own idx y ∈ bpW) (d : decode cc pc = .ok (.invokevirtual idx, 3)) (hR : Rm rm R mL) (hi : i < bpN k) (hO : bpO k = some (ci, N)) (hc : bpCl[ci]? = some (y.cls, T, N)) (hst : (st.map fun v => v.category).sum ≤ 8) (hlv : lv.length = nL) (hroom : kn κ ≤ R.cells ∧ kS κ ≤ R.slots) (ct : Ct G y cy mL ry rm (.ref (G.1 k i) :: []) C M hl (qC M hl P)) (kk : ∀ C2 : bpC, P C2 → Rn G κ (pc + 3) lv st C2 M hl) : Rn G κ pc lv (.ref (G.1 k i) :: st) C M hl := r_cv0 X md wml d hR hi hO hc hst hlv hroom ct (fun C' M' hl' v q => by obtain ⟨rfl, rfl, rfl, q⟩ := q; exact kk _ q)
theorem r_cv0_Ci {y : MethodName} {cy : ByteArray} {mL idx : Nat} {ry : Option FieldType} {rm : Room} {k i ci N : Nat} {T : u_T} {P : bpC → Int32 → Prop} (X : Cx G κ cc nL own ret R) (md : MdV y cy mL ry 0) (wml : Cond.methodLink own idx y ∈ bpW) (d : decode cc pc = .ok (.invokevirtual idx, 3)) (hR : Rm rm R mL) (hi : i < bpN k) (hO : bpO k = some (ci, N)) (hc : bpCl[ci]? = some (y.cls, T, N)) (hst : (st.map fun v => v.category).sum ≤ 8) (hlv : lv.length = nL) (hroom : kn κ ≤ R.cells ∧ kS κ ≤ R.slots) (ct : Ct G y cy mL ry rm (.ref (G.1 k i) :: []) C M hl (qCi M hl P)) (kk : ∀ (C2 : bpC) (r : Int32), P C2 r → Rn G κ (pc + 3) lv (.int r :: st) C2 M hl) : Rn G κ pc lv (.ref (G.1 k i) :: st) C M hl := r_cv0 X md wml d hR hi hO hc hst hlv hroom ct (fun C' M' hl' v q => by obtain ⟨rfl, rfl, r, rfl, q⟩ := q; exact kk _ _ q)
theorem r_cv0_M {y : MethodName} {cy : ByteArray} {mL idx : Nat} {ry : Option FieldType} {rm : Room} {k i ci N : Nat} {T : u_T} {P : bpM → Prop} (X : Cx G κ cc nL own ret R) (md : MdV y cy mL ry 0) (wml : Cond.methodLink own idx y ∈ bpW) (d : decode cc pc = .ok (.invokevirtual idx, 3)) (hR : Rm rm R mL) (hi : i < bpN k) (hO : bpO k = some (ci, N)) (hc : bpCl[ci]? = some (y.cls, T, N)) (hst : (st.map fun v => v.category).sum ≤ 8) (hlv : lv.length = nL) (hroom : kn κ ≤ R.cells ∧ kS κ ≤ R.slots) (ct : Ct G y cy mL ry rm (.ref (G.1 k i) :: []) C M hl (qM C hl P)) (kk : ∀ M2 : bpM, P M2 → Rn G κ (pc + 3) lv st C M2 hl) : Rn G κ pc lv (.ref (G.1 k i) :: st) C M hl := r_cv0 X md wml d hR hi hO hc hst hlv hroom ct (fun C' M' hl' v q => by obtain ⟨rfl, rfl, rfl, q⟩ := q; exact kk _ q)
theorem r_cv0_Mi {y : MethodName} {cy : ByteArray} {mL idx : Nat} {ry : Option FieldType} {rm : Room} {k i ci N : Nat} {T : u_T} {P : bpM → Int32 → Prop} (X : Cx G κ cc nL own ret R) (md : MdV y cy mL ry 0) (wml : Cond.methodLink own idx y ∈ bpW) (d : decode cc pc = .ok (.invokevirtual idx, 3)) (hR : Rm rm R mL) (hi : i < bpN k) (hO : bpO k = some (ci, N)) (hc : bpCl[ci]? = some (y.cls, T, N)) (hst : (st.map fun v => v.category).sum ≤ 8) (hlv : lv.length = nL) (hroom : kn κ ≤ R.cells ∧ kS κ ≤ R.slots) (ct : Ct G y cy mL ry rm (.ref (G.1 k i) :: []) C M hl (qMi C hl P)) (kk : ∀ (M2 : bpM) (r : Int32), P M2 r → Rn G κ (pc + 3) lv (.int r :: st) C M2 hl) : Rn G κ pc lv (.ref (G.1 k i) :: st) C M hl := r_cv0 X md wml d hR hi hO hc hst hlv hroom ct (fun C' M' hl' v q => by obtain ⟨rfl, rfl, r, rfl, q⟩ := q; exact kk _ _ q)
theorem r_cv0_H {y : MethodName} {cy : ByteArray} {mL idx : Nat} {ry : Option FieldType} {rm : Room} {k i ci N : Nat} {T : u_T} {r : Int64} (X : Cx G κ cc nL own ret R) (md : MdV y cy mL ry 0) (wml : Cond.methodLink own idx y ∈ bpW) (d : decode cc pc = .ok (.invokevirtual idx, 3)) (hR : Rm rm R mL) (hi : i < bpN k) (hO : bpO k = some (ci, N)) (hc : bpCl[ci]? = some (y.cls, T, N)) (hst : (st.map fun v => v.category).sum ≤ 8) (hlv : lv.length = nL) (hroom : kn κ ≤ R.cells ∧ kS κ ≤ R.slots) (ct : Ct G y cy mL ry rm (.ref (G.1 k i) :: []) C M hl (qH C M r)) (kk : Rn G κ (pc + 3) lv st C M r) : Rn G κ pc lv (.ref (G.1 k i) :: st) C M hl := r_cv0 X md wml d hR hi hO hc hst hlv hroom ct (fun C' M' hl' v q => by obtain ⟨rfl, rfl, rfl, rfl⟩ := q; exact kk)
theorem r_cv0_Hl {y : MethodName} {cy : ByteArray} {mL idx : Nat} {ry : Option FieldType} {rm : Room} {k i ci N : Nat} {T : u_T} {r : Int64} (X : Cx G κ cc nL own ret R) (md : MdV y cy mL ry 0) (wml : Cond.methodLink own idx y ∈ bpW) (d : decode cc pc = .ok (.invokevirtual idx, 3)) (hR : Rm rm R mL) (hi : i < bpN k) (hO : bpO k = some (ci, N)) (hc : bpCl[ci]? = some (y.cls, T, N)) (hst : (st.map fun v => v.category).sum ≤ 8) (hlv : lv.length = nL) (hroom : kn κ ≤ R.cells ∧ kS κ ≤ R.slots) (ct : Ct G y cy mL ry rm (.ref (G.1 k i) :: []) C M hl (qHl C M r)) (kk : ∀ hl2 : Int64, Rn G κ (pc + 3) lv (.long r :: st) C M hl2) : Rn G κ pc lv (.ref (G.1 k i) :: st) C M hl := r_cv0 X md wml d hR hi hO hc hst hlv hroom ct (fun C' M' hl' v q => by obtain ⟨rfl, rfl, rfl⟩ := q; exact kk _)
theorem r_cv1_I {y : MethodName} {cy : ByteArray} {mL idx : Nat} {ry : Option FieldType} {rm : Room} {a0 : Value} {k i ci N : Nat} {T : u_T} {r : Int32} (X : Cx G κ cc nL own ret R) (md : MdV y cy mL ry 1) (wml : Cond.methodLink own idx y ∈ bpW) (d : decode cc pc = .ok (.invokevirtual idx, 3)) (hR : Rm rm R mL) (hi : i < bpN k) (hO : bpO k = some (ci, N)) (hc : bpCl[ci]? = some (y.cls, T, N)) (hst : (st.map fun v => v.category).sum ≤ 8) (hlv : lv.length = nL) (hroom : kn κ ≤ R.cells ∧ kS κ ≤ R.slots) (ct : Ct G y cy mL ry rm (.ref (G.1 k i) :: [a0]) C M hl (qI C M hl r)) (kk : Rn G κ (pc + 3) lv (.int r :: st) C M hl) : Rn G κ pc lv (a0 :: .ref (G.1 k i) :: st) C M hl := r_cv1 X md wml d hR hi hO hc hst hlv hroom ct (fun C' M' hl' v q => by obtain ⟨rfl, rfl, rfl, rfl⟩ := q; exact kk)
theorem r_cv1_L {y : MethodName} {cy : ByteArray} {mL idx : Nat} {ry : Option FieldType} {rm : Room} {a0 : Value} {k i ci N : Nat} {T : u_T} {r : Int64} (X : Cx G κ cc nL own ret R) (md : MdV y cy mL ry 1) (wml : Cond.methodLink own idx y ∈ bpW) (d : decode cc pc = .ok (.invokevirtual idx, 3)) (hR : Rm rm R mL) (hi : i < bpN k) (hO : bpO k = some (ci, N)) (hc : bpCl[ci]? = some (y.cls, T, N)) (hst : (st.map fun v => v.category).sum ≤ 8) (hlv : lv.length = nL) (hroom : kn κ ≤ R.cells ∧ kS κ ≤ R.slots) (ct : Ct G y cy mL ry rm (.ref (G.1 k i) :: [a0]) C M hl (qL C M hl r)) (kk : Rn G κ (pc + 3) lv (.long r :: st) C M hl) : Rn G κ pc lv (a0 :: .ref (G.1 k i) :: st) C M hl := r_cv1 X md wml d hR hi hO hc hst hlv hroom ct (fun C' M' hl' v q => by obtain ⟨rfl, rfl, rfl, rfl⟩ := q; exact kk)
theorem r_cv1_C {y : MethodName} {cy : ByteArray} {mL idx : Nat} {ry : Option FieldType} {rm : Room} {a0 : Value} {k i ci N : Nat} {T : u_T} {P : bpC → Prop} (X : Cx G κ cc nL own ret R) (md : MdV y cy mL ry 1) (wml : Cond.methodLink own idx y ∈ bpW) (d : decode cc pc = .ok (.invokevirtual idx, 3)) (hR : Rm rm R mL) (hi : i < bpN k) (hO : bpO k = some (ci, N)) (hc : bpCl[ci]? = some (y.cls, T, N)) (hst : (st.map fun v => v.category).sum ≤ 8) (hlv : lv.length = nL) (hroom : kn κ ≤ R.cells ∧ kS κ ≤ R.slots) (ct : Ct G y cy mL ry rm (.ref (G.1 k i) :: [a0]) C M hl (qC M hl P)) (kk : ∀ C2 : bpC, P C2 → Rn G κ (pc + 3) lv st C2 M hl) : Rn G κ pc lv (a0 :: .ref (G.1 k i) :: st) C M hl := r_cv1 X md wml d hR hi hO hc hst hlv hroom ct (fun C' M' hl' v q => by obtain ⟨rfl, rfl, rfl, q⟩ := q; exact kk _ q)
theorem r_cv1_Ci {y : MethodName} {cy : ByteArray} {mL idx : Nat} {ry : Option FieldType} {rm : Room} {a0 : Value} {k i ci N : Nat} {T : u_T} {P : bpC → Int32 → Prop} (X : Cx G κ cc nL own ret R) (md : MdV y cy mL ry 1) (wml : Cond.methodLink own idx y ∈ bpW) (d : decode cc pc = .ok (.invokevirtual idx, 3)) (hR : Rm rm R mL) (hi : i < bpN k) (hO : bpO k = some (ci, N)) (hc : bpCl[ci]? = some (y.cls, T, N)) (hst : (st.map fun v => v.category).sum ≤ 8) (hlv : lv.length = nL) (hroom : kn κ ≤ R.cells ∧ kS κ ≤ R.slots) (ct : Ct G y cy mL ry rm (.ref (G.1 k i) :: [a0]) C M hl (qCi M hl P)) (kk : ∀ (C2 : bpC) (r : Int32), P C2 r → Rn G κ (pc + 3) lv (.int r :: st) C2 M hl) : Rn G κ pc lv (a0 :: .ref (G.1 k i) :: st) C M hl := r_cv1 X md wml d hR hi hO hc hst hlv hroom ct (fun C' M' hl' v q => by obtain ⟨rfl, rfl, r, rfl, q⟩ := q; exact kk _ _ q)
theorem r_cv1_M {y : MethodName} {cy : ByteArray} {mL idx : Nat} {ry : Option FieldType} {rm : Room} {a0 : Value} {k i ci N : Nat} {T : u_T} {P : bpM → Prop} (X : Cx G κ cc nL own ret R) (md : MdV y cy mL ry 1) (wml : Cond.methodLink own idx y ∈ bpW) (d : decode cc pc = .ok (.invokevirtual idx, 3)) (hR : Rm rm R mL) (hi : i < bpN k) (hO : bpO k = some (ci, N)) (hc : bpCl[ci]? = some (y.cls, T, N)) (hst : (st.map fun v => v.category).sum ≤ 8) (hlv : lv.length = nL) (hroom : kn κ ≤ R.cells ∧ kS κ ≤ R.slots) (ct : Ct G y cy mL ry rm (.ref (G.1 k i) :: [a0]) C M hl (qM C hl P)) (kk : ∀ M2 : bpM, P M2 → Rn G κ (pc + 3) lv st C M2 hl) : Rn G κ pc lv (a0 :: .ref (G.1 k i) :: st) C M hl := r_cv1 X md wml d hR hi hO hc hst hlv hroom ct (fun C' M' hl' v q => by obtain ⟨rfl, rfl, rfl, q⟩ := q; exact kk _ q)
theorem r_cv1_Mi {y : MethodName} {cy : ByteArray} {mL idx : Nat} {ry : Option FieldType} {rm : Room} {a0 : Value} {k i ci N : Nat} {T : u_T} {P : bpM → Int32 → Prop} (X : Cx G κ cc nL own ret R) (md : MdV y cy mL ry 1) (wml : Cond.methodLink own idx y ∈ bpW) (d : decode cc pc = .ok (.invokevirtual idx, 3)) (hR : Rm rm R mL) (hi : i < bpN k) (hO : bpO k = some (ci, N)) (hc : bpCl[ci]? = some (y.cls, T, N)) (hst : (st.map fun v => v.category).sum ≤ 8) (hlv : lv.length = nL) (hroom : kn κ ≤ R.cells ∧ kS κ ≤ R.slots) (ct : Ct G y cy mL ry rm (.ref (G.1 k i) :: [a0]) C M hl (qMi C hl P)) (kk : ∀ (M2 : bpM) (r : Int32), P M2 r → Rn G κ (pc + 3) lv (.int r :: st) C M2 hl) : Rn G κ pc lv (a0 :: .ref (G.1 k i) :: st) C M hl := r_cv1 X md wml d hR hi hO hc hst hlv hroom ct (fun C' M' hl' v q => by obtain ⟨rfl, rfl, r, rfl, q⟩ := q; exact kk _ _ q)
theorem r_cv1_H {y : MethodName} {cy : ByteArray} {mL idx : Nat} {ry : Option FieldType} {rm : Room} {a0 : Value} {k i ci N : Nat} {T : u_T} {r : Int64} (X : Cx G κ cc nL own ret R) (md : MdV y cy mL ry 1) (wml : Cond.methodLink own idx y ∈ bpW) (d : decode cc pc = .ok (.invokevirtual idx, 3)) (hR : Rm rm R mL) (hi : i < bpN k) (hO : bpO k = some (ci, N)) (hc : bpCl[ci]? = some (y.cls, T, N)) (hst : (st.map fun v => v.category).sum ≤ 8) (hlv : lv.length = nL) (hroom : kn κ ≤ R.cells ∧ kS κ ≤ R.slots) (ct : Ct G y cy mL ry rm (.ref (G.1 k i) :: [a0]) C M hl (qH C M r)) (kk : Rn G κ (pc + 3) lv st C M r) : Rn G κ pc lv (a0 :: .ref (G.1 k i) :: st) C M hl := r_cv1 X md wml d hR hi hO hc hst hlv hroom ct (fun C' M' hl' v q => by obtain ⟨rfl, rfl, rfl, rfl⟩ := q; exact kk)
theorem r_cv1_Hl {y : MethodName} {cy : ByteArray} {mL idx : Nat} {ry : Option FieldType} {rm : Room} {a0 : Value} {k i ci N : Nat} {T : u_T} {r : Int64} (X : Cx G κ cc nL own ret R) (md : MdV y cy mL ry 1) (wml : Cond.methodLink own idx y ∈ bpW) (d : decode cc pc = .ok (.invokevirtual idx, 3)) (hR : Rm rm R mL) (hi : i < bpN k) (hO : bpO k = some (ci, N)) (hc : bpCl[ci]? = some (y.cls, T, N)) (hst : (st.map fun v => v.category).sum ≤ 8) (hlv : lv.length = nL) (hroom : kn κ ≤ R.cells ∧ kS κ ≤ R.slots) (ct : Ct G y cy mL ry rm (.ref (G.1 k i) :: [a0]) C M hl (qHl C M r)) (kk : ∀ hl2 : Int64, Rn G κ (pc + 3) lv (.long r :: st) C M hl2) : Rn G κ pc lv (a0 :: .ref (G.1 k i) :: st) C M hl := r_cv1 X md wml d hR hi hO hc hst hlv hroom ct (fun C' M' hl' v q => by obtain ⟨rfl, rfl, rfl⟩ := q; exact kk _)
theorem r_cs1_I {y : MethodName} {cy : ByteArray} {mL idx : Nat} {ry : Option FieldType} {rm : Room} {a0 : Value} {r : Int32} (X : Cx G κ cc nL own ret R) (md : MdS y cy mL ry 1) (wml : Cond.methodLink own idx y ∈ bpW) (d : decode cc pc = .ok (.invokestatic idx, 3)) (hR : Rm rm R mL) (hst : (st.map fun v => v.category).sum ≤ 8) (hlv : lv.length = nL) (hroom : kn κ ≤ R.cells ∧ kS κ ≤ R.slots) (ct : Ct G y cy mL ry rm [a0] C M hl (qI C M hl r)) (kk : Rn G κ (pc + 3) lv (.int r :: st) C M hl) : Rn G κ pc lv (a0 :: st) C M hl := r_cs1 X md wml d hR hst hlv hroom ct (fun C' M' hl' v q => by obtain ⟨rfl, rfl, rfl, rfl⟩ := q; exact kk)
theorem r_cs1_L {y : MethodName} {cy : ByteArray} {mL idx : Nat} {ry : Option FieldType} {rm : Room} {a0 : Value} {r : Int64} (X : Cx G κ cc nL own ret R) (md : MdS y cy mL ry 1) (wml : Cond.methodLink own idx y ∈ bpW) (d : decode cc pc = .ok (.invokestatic idx, 3)) (hR : Rm rm R mL) (hst : (st.map fun v => v.category).sum ≤ 8) (hlv : lv.length = nL) (hroom : kn κ ≤ R.cells ∧ kS κ ≤ R.slots) (ct : Ct G y cy mL ry rm [a0] C M hl (qL C M hl r)) (kk : Rn G κ (pc + 3) lv (.long r :: st) C M hl) : Rn G κ pc lv (a0 :: st) C M hl := r_cs1 X md wml d hR hst hlv hroom ct (fun C' M' hl' v q => by obtain ⟨rfl, rfl, rfl, rfl⟩ := q; exact kk)
theorem r_cv2_I {y : MethodName} {cy : ByteArray} {mL idx : Nat} {ry : Option FieldType} {rm : Room} {a0 a1 : Value} {k i ci N : Nat} {T : u_T} {r : Int32} (X : Cx G κ cc nL own ret R) (md : MdV y cy mL ry 2) (wml : Cond.methodLink own idx y ∈ bpW) (d : decode cc pc = .ok (.invokevirtual idx, 3)) (hR : Rm rm R mL) (hi : i < bpN k) (hO : bpO k = some (ci, N)) (hc : bpCl[ci]? = some (y.cls, T, N)) (hst : (st.map fun v => v.category).sum ≤ 8) (hlv : lv.length = nL) (hroom : kn κ ≤ R.cells ∧ kS κ ≤ R.slots) (ct : Ct G y cy mL ry rm (.ref (G.1 k i) :: [a0, a1]) C M hl (qI C M hl r)) (kk : Rn G κ (pc + 3) lv (.int r :: st) C M hl) : Rn G κ pc lv (a1 :: a0 :: .ref (G.1 k i) :: st) C M hl := r_cv2 X md wml d hR hi hO hc hst hlv hroom ct (fun C' M' hl' v q => by obtain ⟨rfl, rfl, rfl, rfl⟩ := q; exact kk)
theorem r_cv2_L {y : MethodName} {cy : ByteArray} {mL idx : Nat} {ry : Option FieldType} {rm : Room} {a0 a1 : Value} {k i ci N : Nat} {T : u_T} {r : Int64} (X : Cx G κ cc nL own ret R) (md : MdV y cy mL ry 2) (wml : Cond.methodLink own idx y ∈ bpW) (d : decode cc pc = .ok (.invokevirtual idx, 3)) (hR : Rm rm R mL) (hi : i < bpN k) (hO : bpO k = some (ci, N)) (hc : bpCl[ci]? = some (y.cls, T, N)) (hst : (st.map fun v => v.category).sum ≤ 8) (hlv : lv.length = nL) (hroom : kn κ ≤ R.cells ∧ kS κ ≤ R.slots) (ct : Ct G y cy mL ry rm (.ref (G.1 k i) :: [a0, a1]) C M hl (qL C M hl r)) (kk : Rn G κ (pc + 3) lv (.long r :: st) C M hl) : Rn G κ pc lv (a1 :: a0 :: .ref (G.1 k i) :: st) C M hl := r_cv2 X md wml d hR hi hO hc hst hlv hroom ct (fun C' M' hl' v q => by obtain ⟨rfl, rfl, rfl, rfl⟩ := q; exact kk)
theorem r_cv2_C {y : MethodName} {cy : ByteArray} {mL idx : Nat} {ry : Option FieldType} {rm : Room} {a0 a1 : Value} {k i ci N : Nat} {T : u_T} {P : bpC → Prop} (X : Cx G κ cc nL own ret R) (md : MdV y cy mL ry 2) (wml : Cond.methodLink own idx y ∈ bpW) (d : decode cc pc = .ok (.invokevirtual idx, 3)) (hR : Rm rm R mL) (hi : i < bpN k) (hO : bpO k = some (ci, N)) (hc : bpCl[ci]? = some (y.cls, T, N)) (hst : (st.map fun v => v.category).sum ≤ 8) (hlv : lv.length = nL) (hroom : kn κ ≤ R.cells ∧ kS κ ≤ R.slots) (ct : Ct G y cy mL ry rm (.ref (G.1 k i) :: [a0, a1]) C M hl (qC M hl P)) (kk : ∀ C2 : bpC, P C2 → Rn G κ (pc + 3) lv st C2 M hl) : Rn G κ pc lv (a1 :: a0 :: .ref (G.1 k i) :: st) C M hl := r_cv2 X md wml d hR hi hO hc hst hlv hroom ct (fun C' M' hl' v q => by obtain ⟨rfl, rfl, rfl, q⟩ := q; exact kk _ q)
theorem r_cv2_Ci {y : MethodName} {cy : ByteArray} {mL idx : Nat} {ry : Option FieldType} {rm : Room} {a0 a1 : Value} {k i ci N : Nat} {T : u_T} {P : bpC → Int32 → Prop} (X : Cx G κ cc nL own ret R) (md : MdV y cy mL ry 2) (wml : Cond.methodLink own idx y ∈ bpW) (d : decode cc pc = .ok (.invokevirtual idx, 3)) (hR : Rm rm R mL) (hi : i < bpN k) (hO : bpO k = some (ci, N)) (hc : bpCl[ci]? = some (y.cls, T, N)) (hst : (st.map fun v => v.category).sum ≤ 8) (hlv : lv.length = nL) (hroom : kn κ ≤ R.cells ∧ kS κ ≤ R.slots) (ct : Ct G y cy mL ry rm (.ref (G.1 k i) :: [a0, a1]) C M hl (qCi M hl P)) (kk : ∀ (C2 : bpC) (r : Int32), P C2 r → Rn G κ (pc + 3) lv (.int r :: st) C2 M hl) : Rn G κ pc lv (a1 :: a0 :: .ref (G.1 k i) :: st) C M hl := r_cv2 X md wml d hR hi hO hc hst hlv hroom ct (fun C' M' hl' v q => by obtain ⟨rfl, rfl, r, rfl, q⟩ := q; exact kk _ _ q)
theorem r_cv2_M {y : MethodName} {cy : ByteArray} {mL idx : Nat} {ry : Option FieldType} {rm : Room} {a0 a1 : Value} {k i ci N : Nat} {T : u_T} {P : bpM → Prop} (X : Cx G κ cc nL own ret R) (md : MdV y cy mL ry 2) (wml : Cond.methodLink own idx y ∈ bpW) (d : decode cc pc = .ok (.invokevirtual idx, 3)) (hR : Rm rm R mL) (hi : i < bpN k) (hO : bpO k = some (ci, N)) (hc : bpCl[ci]? = some (y.cls, T, N)) (hst : (st.map fun v => v.category).sum ≤ 8) (hlv : lv.length = nL) (hroom : kn κ ≤ R.cells ∧ kS κ ≤ R.slots) (ct : Ct G y cy mL ry rm (.ref (G.1 k i) :: [a0, a1]) C M hl (qM C hl P)) (kk : ∀ M2 : bpM, P M2 → Rn G κ (pc + 3) lv st C M2 hl) : Rn G κ pc lv (a1 :: a0 :: .ref (G.1 k i) :: st) C M hl := r_cv2 X md wml d hR hi hO hc hst hlv hroom ct (fun C' M' hl' v q => by obtain ⟨rfl, rfl, rfl, q⟩ := q; exact kk _ q)
theorem r_cv2_Mi {y : MethodName} {cy : ByteArray} {mL idx : Nat} {ry : Option FieldType} {rm : Room} {a0 a1 : Value} {k i ci N : Nat} {T : u_T} {P : bpM → Int32 → Prop} (X : Cx G κ cc nL own ret R) (md : MdV y cy mL ry 2) (wml : Cond.methodLink own idx y ∈ bpW) (d : decode cc pc = .ok (.invokevirtual idx, 3)) (hR : Rm rm R mL) (hi : i < bpN k) (hO : bpO k = some (ci, N)) (hc : bpCl[ci]? = some (y.cls, T, N)) (hst : (st.map fun v => v.category).sum ≤ 8) (hlv : lv.length = nL) (hroom : kn κ ≤ R.cells ∧ kS κ ≤ R.slots) (ct : Ct G y cy mL ry rm (.ref (G.1 k i) :: [a0, a1]) C M hl (qMi C hl P)) (kk : ∀ (M2 : bpM) (r : Int32), P M2 r → Rn G κ (pc + 3) lv (.int r :: st) C M2 hl) : Rn G κ pc lv (a1 :: a0 :: .ref (G.1 k i) :: st) C M hl := r_cv2 X md wml d hR hi hO hc hst hlv hroom ct (fun C' M' hl' v q => by obtain ⟨rfl, rfl, r, rfl, q⟩ := q; exact kk _ _ q)
theorem r_cv2_H {y : MethodName} {cy : ByteArray} {mL idx : Nat} {ry : Option FieldType} {rm : Room} {a0 a1 : Value} {k i ci N : Nat} {T : u_T} {r : Int64} (X : Cx G κ cc nL own ret R) (md : MdV y cy mL ry 2) (wml : Cond.methodLink own idx y ∈ bpW) (d : decode cc pc = .ok (.invokevirtual idx, 3)) (hR : Rm rm R mL) (hi : i < bpN k) (hO : bpO k = some (ci, N)) (hc : bpCl[ci]? = some (y.cls, T, N)) (hst : (st.map fun v => v.category).sum ≤ 8) (hlv : lv.length = nL) (hroom : kn κ ≤ R.cells ∧ kS κ ≤ R.slots) (ct : Ct G y cy mL ry rm (.ref (G.1 k i) :: [a0, a1]) C M hl (qH C M r)) (kk : Rn G κ (pc + 3) lv st C M r) : Rn G κ pc lv (a1 :: a0 :: .ref (G.1 k i) :: st) C M hl := r_cv2 X md wml d hR hi hO hc hst hlv hroom ct (fun C' M' hl' v q => by obtain ⟨rfl, rfl, rfl, rfl⟩ := q; exact kk)
theorem r_cv2_Hl {y : MethodName} {cy : ByteArray} {mL idx : Nat} {ry : Option FieldType} {rm : Room} {a0 a1 : Value} {k i ci N : Nat} {T : u_T} {r : Int64} (X : Cx G κ cc nL own ret R) (md : MdV y cy mL ry 2) (wml : Cond.methodLink own idx y ∈ bpW) (d : decode cc pc = .ok (.invokevirtual idx, 3)) (hR : Rm rm R mL) (hi : i < bpN k) (hO : bpO k = some (ci, N)) (hc : bpCl[ci]? = some (y.cls, T, N)) (hst : (st.map fun v => v.category).sum ≤ 8) (hlv : lv.length = nL) (hroom : kn κ ≤ R.cells ∧ kS κ ≤ R.slots) (ct : Ct G y cy mL ry rm (.ref (G.1 k i) :: [a0, a1]) C M hl (qHl C M r)) (kk : ∀ hl2 : Int64, Rn G κ (pc + 3) lv (.long r :: st) C M hl2) : Rn G κ pc lv (a1 :: a0 :: .ref (G.1 k i) :: st) C M hl := r_cv2 X md wml d hR hi hO hc hst hlv hroom ct (fun C' M' hl' v q => by obtain ⟨rfl, rfl, rfl⟩ := q; exact kk _)
theorem r_cs2_I {y : MethodName} {cy : ByteArray} {mL idx : Nat} {ry : Option FieldType} {rm : Room} {a0 a1 : Value} {r : Int32} (X : Cx G κ cc nL own ret R) (md : MdS y cy mL ry 2) (wml : Cond.methodLink own idx y ∈ bpW) (d : decode cc pc = .ok (.invokestatic idx, 3)) (hR : Rm rm R mL) (hst : (st.map fun v => v.category).sum ≤ 8) (hlv : lv.length = nL) (hroom : kn κ ≤ R.cells ∧ kS κ ≤ R.slots) (ct : Ct G y cy mL ry rm [a0, a1] C M hl (qI C M hl r)) (kk : Rn G κ (pc + 3) lv (.int r :: st) C M hl) : Rn G κ pc lv (a1 :: a0 :: st) C M hl := r_cs2 X md wml d hR hst hlv hroom ct (fun C' M' hl' v q => by obtain ⟨rfl, rfl, rfl, rfl⟩ := q; exact kk)
theorem r_cs2_L {y : MethodName} {cy : ByteArray} {mL idx : Nat} {ry : Option FieldType} {rm : Room} {a0 a1 : Value} {r : Int64} (X : Cx G κ cc nL own ret R) (md : MdS y cy mL ry 2) (wml : Cond.methodLink own idx y ∈ bpW) (d : decode cc pc = .ok (.invokestatic idx, 3)) (hR : Rm rm R mL) (hst : (st.map fun v => v.category).sum ≤ 8) (hlv : lv.length = nL) (hroom : kn κ ≤ R.cells ∧ kS κ ≤ R.slots) (ct : Ct G y cy mL ry rm [a0, a1] C M hl (qL C M hl r)) (kk : Rn G κ (pc + 3) lv (.long r :: st) C M hl) : Rn G κ pc lv (a1 :: a0 :: st) C M hl := r_cs2 X md wml d hR hst hlv hroom ct (fun C' M' hl' v q => by obtain ⟨rfl, rfl, rfl, rfl⟩ := q; exact kk)
theorem r_cv3_I {y : MethodName} {cy : ByteArray} {mL idx : Nat} {ry : Option FieldType} {rm : Room} {a0 a1 a2 : Value} {k i ci N : Nat} {T : u_T} {r : Int32} (X : Cx G κ cc nL own ret R) (md : MdV y cy mL ry 3) (wml : Cond.methodLink own idx y ∈ bpW) (d : decode cc pc = .ok (.invokevirtual idx, 3)) (hR : Rm rm R mL) (hi : i < bpN k) (hO : bpO k = some (ci, N)) (hc : bpCl[ci]? = some (y.cls, T, N)) (hst : (st.map fun v => v.category).sum ≤ 8) (hlv : lv.length = nL) (hroom : kn κ ≤ R.cells ∧ kS κ ≤ R.slots) (ct : Ct G y cy mL ry rm (.ref (G.1 k i) :: [a0, a1, a2]) C M hl (qI C M hl r)) (kk : Rn G κ (pc + 3) lv (.int r :: st) C M hl) : Rn G κ pc lv (a2 :: a1 :: a0 :: .ref (G.1 k i) :: st) C M hl := r_cv3 X md wml d hR hi hO hc hst hlv hroom ct (fun C' M' hl' v q => by obtain ⟨rfl, rfl, rfl, rfl⟩ := q; exact kk)
theorem r_cv3_L {y : MethodName} {cy : ByteArray} {mL idx : Nat} {ry : Option FieldType} {rm : Room} {a0 a1 a2 : Value} {k i ci N : Nat} {T : u_T} {r : Int64} (X : Cx G κ cc nL own ret R) (md : MdV y cy mL ry 3) (wml : Cond.methodLink own idx y ∈ bpW) (d : decode cc pc = .ok (.invokevirtual idx, 3)) (hR : Rm rm R mL) (hi : i < bpN k) (hO : bpO k = some (ci, N)) (hc : bpCl[ci]? = some (y.cls, T, N)) (hst : (st.map fun v => v.category).sum ≤ 8) (hlv : lv.length = nL) (hroom : kn κ ≤ R.cells ∧ kS κ ≤ R.slots) (ct : Ct G y cy mL ry rm (.ref (G.1 k i) :: [a0, a1, a2]) C M hl (qL C M hl r)) (kk : Rn G κ (pc + 3) lv (.long r :: st) C M hl) : Rn G κ pc lv (a2 :: a1 :: a0 :: .ref (G.1 k i) :: st) C M hl := r_cv3 X md wml d hR hi hO hc hst hlv hroom ct (fun C' M' hl' v q => by obtain ⟨rfl, rfl, rfl, rfl⟩ := q; exact kk)
theorem r_cv3_C {y : MethodName} {cy : ByteArray} {mL idx : Nat} {ry : Option FieldType} {rm : Room} {a0 a1 a2 : Value} {k i ci N : Nat} {T : u_T} {P : bpC → Prop} (X : Cx G κ cc nL own ret R) (md : MdV y cy mL ry 3) (wml : Cond.methodLink own idx y ∈ bpW) (d : decode cc pc = .ok (.invokevirtual idx, 3)) (hR : Rm rm R mL) (hi : i < bpN k) (hO : bpO k = some (ci, N)) (hc : bpCl[ci]? = some (y.cls, T, N)) (hst : (st.map fun v => v.category).sum ≤ 8) (hlv : lv.length = nL) (hroom : kn κ ≤ R.cells ∧ kS κ ≤ R.slots) (ct : Ct G y cy mL ry rm (.ref (G.1 k i) :: [a0, a1, a2]) C M hl (qC M hl P)) (kk : ∀ C2 : bpC, P C2 → Rn G κ (pc + 3) lv st C2 M hl) : Rn G κ pc lv (a2 :: a1 :: a0 :: .ref (G.1 k i) :: st) C M hl := r_cv3 X md wml d hR hi hO hc hst hlv hroom ct (fun C' M' hl' v q => by obtain ⟨rfl, rfl, rfl, q⟩ := q; exact kk _ q)
theorem r_cv3_Ci {y : MethodName} {cy : ByteArray} {mL idx : Nat} {ry : Option FieldType} {rm : Room} {a0 a1 a2 : Value} {k i ci N : Nat} {T : u_T} {P : bpC → Int32 → Prop} (X : Cx G κ cc nL own ret R) (md : MdV y cy mL ry 3) (wml : Cond.methodLink own idx y ∈ bpW) (d : decode cc pc = .ok (.invokevirtual idx, 3)) (hR : Rm rm R mL) (hi : i < bpN k) (hO : bpO k = some (ci, N)) (hc : bpCl[ci]? = some (y.cls, T, N)) (hst : (st.map fun v => v.category).sum ≤ 8) (hlv : lv.length = nL) (hroom : kn κ ≤ R.cells ∧ kS κ ≤ R.slots) (ct : Ct G y cy mL ry rm (.ref (G.1 k i) :: [a0, a1, a2]) C M hl (qCi M hl P)) (kk : ∀ (C2 : bpC) (r : Int32), P C2 r → Rn G κ (pc + 3) lv (.int r :: st) C2 M hl) : Rn G κ pc lv (a2 :: a1 :: a0 :: .ref (G.1 k i) :: st) C M hl := r_cv3 X md wml d hR hi hO hc hst hlv hroom ct (fun C' M' hl' v q => by obtain ⟨rfl, rfl, r, rfl, q⟩ := q; exact kk _ _ q)
theorem r_cv3_M {y : MethodName} {cy : ByteArray} {mL idx : Nat} {ry : Option FieldType} {rm : Room} {a0 a1 a2 : Value} {k i ci N : Nat} {T : u_T} {P : bpM → Prop} (X : Cx G κ cc nL own ret R) (md : MdV y cy mL ry 3) (wml : Cond.methodLink own idx y ∈ bpW) (d : decode cc pc = .ok (.invokevirtual idx, 3)) (hR : Rm rm R mL) (hi : i < bpN k) (hO : bpO k = some (ci, N)) (hc : bpCl[ci]? = some (y.cls, T, N)) (hst : (st.map fun v => v.category).sum ≤ 8) (hlv : lv.length = nL) (hroom : kn κ ≤ R.cells ∧ kS κ ≤ R.slots) (ct : Ct G y cy mL ry rm (.ref (G.1 k i) :: [a0, a1, a2]) C M hl (qM C hl P)) (kk : ∀ M2 : bpM, P M2 → Rn G κ (pc + 3) lv st C M2 hl) : Rn G κ pc lv (a2 :: a1 :: a0 :: .ref (G.1 k i) :: st) C M hl := r_cv3 X md wml d hR hi hO hc hst hlv hroom ct (fun C' M' hl' v q => by obtain ⟨rfl, rfl, rfl, q⟩ := q; exact kk _ q)
theorem r_cv3_Mi {y : MethodName} {cy : ByteArray} {mL idx : Nat} {ry : Option FieldType} {rm : Room} {a0 a1 a2 : Value} {k i ci N : Nat} {T : u_T} {P : bpM → Int32 → Prop} (X : Cx G κ cc nL own ret R) (md : MdV y cy mL ry 3) (wml : Cond.methodLink own idx y ∈ bpW) (d : decode cc pc = .ok (.invokevirtual idx, 3)) (hR : Rm rm R mL) (hi : i < bpN k) (hO : bpO k = some (ci, N)) (hc : bpCl[ci]? = some (y.cls, T, N)) (hst : (st.map fun v => v.category).sum ≤ 8) (hlv : lv.length = nL) (hroom : kn κ ≤ R.cells ∧ kS κ ≤ R.slots) (ct : Ct G y cy mL ry rm (.ref (G.1 k i) :: [a0, a1, a2]) C M hl (qMi C hl P)) (kk : ∀ (M2 : bpM) (r : Int32), P M2 r → Rn G κ (pc + 3) lv (.int r :: st) C M2 hl) : Rn G κ pc lv (a2 :: a1 :: a0 :: .ref (G.1 k i) :: st) C M hl := r_cv3 X md wml d hR hi hO hc hst hlv hroom ct (fun C' M' hl' v q => by obtain ⟨rfl, rfl, r, rfl, q⟩ := q; exact kk _ _ q)
theorem r_cv3_H {y : MethodName} {cy : ByteArray} {mL idx : Nat} {ry : Option FieldType} {rm : Room} {a0 a1 a2 : Value} {k i ci N : Nat} {T : u_T} {r : Int64} (X : Cx G κ cc nL own ret R) (md : MdV y cy mL ry 3) (wml : Cond.methodLink own idx y ∈ bpW) (d : decode cc pc = .ok (.invokevirtual idx, 3)) (hR : Rm rm R mL) (hi : i < bpN k) (hO : bpO k = some (ci, N)) (hc : bpCl[ci]? = some (y.cls, T, N)) (hst : (st.map fun v => v.category).sum ≤ 8) (hlv : lv.length = nL) (hroom : kn κ ≤ R.cells ∧ kS κ ≤ R.slots) (ct : Ct G y cy mL ry rm (.ref (G.1 k i) :: [a0, a1, a2]) C M hl (qH C M r)) (kk : Rn G κ (pc + 3) lv st C M r) : Rn G κ pc lv (a2 :: a1 :: a0 :: .ref (G.1 k i) :: st) C M hl := r_cv3 X md wml d hR hi hO hc hst hlv hroom ct (fun C' M' hl' v q => by obtain ⟨rfl, rfl, rfl, rfl⟩ := q; exact kk)
theorem r_cv3_Hl {y : MethodName} {cy : ByteArray} {mL idx : Nat} {ry : Option FieldType} {rm : Room} {a0 a1 a2 : Value} {k i ci N : Nat} {T : u_T} {r : Int64} (X : Cx G κ cc nL own ret R) (md : MdV y cy mL ry 3) (wml : Cond.methodLink own idx y ∈ bpW) (d : decode cc pc = .ok (.invokevirtual idx, 3)) (hR : Rm rm R mL) (hi : i < bpN k) (hO : bpO k = some (ci, N)) (hc : bpCl[ci]? = some (y.cls, T, N)) (hst : (st.map fun v => v.category).sum ≤ 8) (hlv : lv.length = nL) (hroom : kn κ ≤ R.cells ∧ kS κ ≤ R.slots) (ct : Ct G y cy mL ry rm (.ref (G.1 k i) :: [a0, a1, a2]) C M hl (qHl C M r)) (kk : ∀ hl2 : Int64, Rn G κ (pc + 3) lv (.long r :: st) C M hl2) : Rn G κ pc lv (a2 :: a1 :: a0 :: .ref (G.1 k i) :: st) C M hl := r_cv3 X md wml d hR hi hO hc hst hlv hroom ct (fun C' M' hl' v q => by obtain ⟨rfl, rfl, rfl⟩ := q; exact kk _)
theorem r_cs3_I {y : MethodName} {cy : ByteArray} {mL idx : Nat} {ry : Option FieldType} {rm : Room} {a0 a1 a2 : Value} {r : Int32} (X : Cx G κ cc nL own ret R) (md : MdS y cy mL ry 3) (wml : Cond.methodLink own idx y ∈ bpW) (d : decode cc pc = .ok (.invokestatic idx, 3)) (hR : Rm rm R mL) (hst : (st.map fun v => v.category).sum ≤ 8) (hlv : lv.length = nL) (hroom : kn κ ≤ R.cells ∧ kS κ ≤ R.slots) (ct : Ct G y cy mL ry rm [a0, a1, a2] C M hl (qI C M hl r)) (kk : Rn G κ (pc + 3) lv (.int r :: st) C M hl) : Rn G κ pc lv (a2 :: a1 :: a0 :: st) C M hl := r_cs3 X md wml d hR hst hlv hroom ct (fun C' M' hl' v q => by obtain ⟨rfl, rfl, rfl, rfl⟩ := q; exact kk)
theorem r_cs3_L {y : MethodName} {cy : ByteArray} {mL idx : Nat} {ry : Option FieldType} {rm : Room} {a0 a1 a2 : Value} {r : Int64} (X : Cx G κ cc nL own ret R) (md : MdS y cy mL ry 3) (wml : Cond.methodLink own idx y ∈ bpW) (d : decode cc pc = .ok (.invokestatic idx, 3)) (hR : Rm rm R mL) (hst : (st.map fun v => v.category).sum ≤ 8) (hlv : lv.length = nL) (hroom : kn κ ≤ R.cells ∧ kS κ ≤ R.slots) (ct : Ct G y cy mL ry rm [a0, a1, a2] C M hl (qL C M hl r)) (kk : Rn G κ (pc + 3) lv (.long r :: st) C M hl) : Rn G κ pc lv (a2 :: a1 :: a0 :: st) C M hl := r_cs3 X md wml d hR hst hlv hroom ct (fun C' M' hl' v q => by obtain ⟨rfl, rfl, rfl, rfl⟩ := q; exact kk)
theorem r_cv4_I {y : MethodName} {cy : ByteArray} {mL idx : Nat} {ry : Option FieldType} {rm : Room} {a0 a1 a2 a3 : Value} {k i ci N : Nat} {T : u_T} {r : Int32} (X : Cx G κ cc nL own ret R) (md : MdV y cy mL ry 4) (wml : Cond.methodLink own idx y ∈ bpW) (d : decode cc pc = .ok (.invokevirtual idx, 3)) (hR : Rm rm R mL) (hi : i < bpN k) (hO : bpO k = some (ci, N)) (hc : bpCl[ci]? = some (y.cls, T, N)) (hst : (st.map fun v => v.category).sum ≤ 8) (hlv : lv.length = nL) (hroom : kn κ ≤ R.cells ∧ kS κ ≤ R.slots) (ct : Ct G y cy mL ry rm (.ref (G.1 k i) :: [a0, a1, a2, a3]) C M hl (qI C M hl r)) (kk : Rn G κ (pc + 3) lv (.int r :: st) C M hl) : Rn G κ pc lv (a3 :: a2 :: a1 :: a0 :: .ref (G.1 k i) :: st) C M hl := r_cv4 X md wml d hR hi hO hc hst hlv hroom ct (fun C' M' hl' v q => by obtain ⟨rfl, rfl, rfl, rfl⟩ := q; exact kk)
theorem r_cv4_L {y : MethodName} {cy : ByteArray} {mL idx : Nat} {ry : Option FieldType} {rm : Room} {a0 a1 a2 a3 : Value} {k i ci N : Nat} {T : u_T} {r : Int64} (X : Cx G κ cc nL own ret R) (md : MdV y cy mL ry 4) (wml : Cond.methodLink own idx y ∈ bpW) (d : decode cc pc = .ok (.invokevirtual idx, 3)) (hR : Rm rm R mL) (hi : i < bpN k) (hO : bpO k = some (ci, N)) (hc : bpCl[ci]? = some (y.cls, T, N)) (hst : (st.map fun v => v.category).sum ≤ 8) (hlv : lv.length = nL) (hroom : kn κ ≤ R.cells ∧ kS κ ≤ R.slots) (ct : Ct G y cy mL ry rm (.ref (G.1 k i) :: [a0, a1, a2, a3]) C M hl (qL C M hl r)) (kk : Rn G κ (pc + 3) lv (.long r :: st) C M hl) : Rn G κ pc lv (a3 :: a2 :: a1 :: a0 :: .ref (G.1 k i) :: st) C M hl := r_cv4 X md wml d hR hi hO hc hst hlv hroom ct (fun C' M' hl' v q => by obtain ⟨rfl, rfl, rfl, rfl⟩ := q; exact kk)
theorem r_cv4_C {y : MethodName} {cy : ByteArray} {mL idx : Nat} {ry : Option FieldType} {rm : Room} {a0 a1 a2 a3 : Value} {k i ci N : Nat} {T : u_T} {P : bpC → Prop} (X : Cx G κ cc nL own ret R) (md : MdV y cy mL ry 4) (wml : Cond.methodLink own idx y ∈ bpW) (d : decode cc pc = .ok (.invokevirtual idx, 3)) (hR : Rm rm R mL) (hi : i < bpN k) (hO : bpO k = some (ci, N)) (hc : bpCl[ci]? = some (y.cls, T, N)) (hst : (st.map fun v => v.category).sum ≤ 8) (hlv : lv.length = nL) (hroom : kn κ ≤ R.cells ∧ kS κ ≤ R.slots) (ct : Ct G y cy mL ry rm (.ref (G.1 k i) :: [a0, a1, a2, a3]) C M hl (qC M hl P)) (kk : ∀ C2 : bpC, P C2 → Rn G κ (pc + 3) lv st C2 M hl) : Rn G κ pc lv (a3 :: a2 :: a1 :: a0 :: .ref (G.1 k i) :: st) C M hl := r_cv4 X md wml d hR hi hO hc hst hlv hroom ct (fun C' M' hl' v q => by obtain ⟨rfl, rfl, rfl, q⟩ := q; exact kk _ q)
theorem r_cv4_Ci {y : MethodName} {cy : ByteArray} {mL idx : Nat} {ry : Option FieldType} {rm : Room} {a0 a1 a2 a3 : Value} {k i ci N : Nat} {T : u_T} {P : bpC → Int32 → Prop} (X : Cx G κ cc nL own ret R) (md : MdV y cy mL ry 4) (wml : Cond.methodLink own idx y ∈ bpW) (d : decode cc pc = .ok (.invokevirtual idx, 3)) (hR : Rm rm R mL) (hi : i < bpN k) (hO : bpO k = some (ci, N)) (hc : bpCl[ci]? = some (y.cls, T, N)) (hst : (st.map fun v => v.category).sum ≤ 8) (hlv : lv.length = nL) (hroom : kn κ ≤ R.cells ∧ kS κ ≤ R.slots) (ct : Ct G y cy mL ry rm (.ref (G.1 k i) :: [a0, a1, a2, a3]) C M hl (qCi M hl P)) (kk : ∀ (C2 : bpC) (r : Int32), P C2 r → Rn G κ (pc + 3) lv (.int r :: st) C2 M hl) : Rn G κ pc lv (a3 :: a2 :: a1 :: a0 :: .ref (G.1 k i) :: st) C M hl := r_cv4 X md wml d hR hi hO hc hst hlv hroom ct (fun C' M' hl' v q => by obtain ⟨rfl, rfl, r, rfl, q⟩ := q; exact kk _ _ q)
theorem r_cv4_M {y : MethodName} {cy : ByteArray} {mL idx : Nat} {ry : Option FieldType} {rm : Room} {a0 a1 a2 a3 : Value} {k i ci N : Nat} {T : u_T} {P : bpM → Prop} (X : Cx G κ cc nL own ret R) (md : MdV y cy mL ry 4) (wml : Cond.methodLink own idx y ∈ bpW) (d : decode cc pc = .ok (.invokevirtual idx, 3)) (hR : Rm rm R mL) (hi : i < bpN k) (hO : bpO k = some (ci, N)) (hc : bpCl[ci]? = some (y.cls, T, N)) (hst : (st.map fun v => v.category).sum ≤ 8) (hlv : lv.length = nL) (hroom : kn κ ≤ R.cells ∧ kS κ ≤ R.slots) (ct : Ct G y cy mL ry rm (.ref (G.1 k i) :: [a0, a1, a2, a3]) C M hl (qM C hl P)) (kk : ∀ M2 : bpM, P M2 → Rn G κ (pc + 3) lv st C M2 hl) : Rn G κ pc lv (a3 :: a2 :: a1 :: a0 :: .ref (G.1 k i) :: st) C M hl := r_cv4 X md wml d hR hi hO hc hst hlv hroom ct (fun C' M' hl' v q => by obtain ⟨rfl, rfl, rfl, q⟩ := q; exact kk _ q)
theorem r_cv4_Mi {y : MethodName} {cy : ByteArray} {mL idx : Nat} {ry : Option FieldType} {rm : Room} {a0 a1 a2 a3 : Value} {k i ci N : Nat} {T : u_T} {P : bpM → Int32 → Prop} (X : Cx G κ cc nL own ret R) (md : MdV y cy mL ry 4) (wml : Cond.methodLink own idx y ∈ bpW) (d : decode cc pc = .ok (.invokevirtual idx, 3)) (hR : Rm rm R mL) (hi : i < bpN k) (hO : bpO k = some (ci, N)) (hc : bpCl[ci]? = some (y.cls, T, N)) (hst : (st.map fun v => v.category).sum ≤ 8) (hlv : lv.length = nL) (hroom : kn κ ≤ R.cells ∧ kS κ ≤ R.slots) (ct : Ct G y cy mL ry rm (.ref (G.1 k i) :: [a0, a1, a2, a3]) C M hl (qMi C hl P)) (kk : ∀ (M2 : bpM) (r : Int32), P M2 r → Rn G κ (pc + 3) lv (.int r :: st) C M2 hl) : Rn G κ pc lv (a3 :: a2 :: a1 :: a0 :: .ref (G.1 k i) :: st) C M hl := r_cv4 X md wml d hR hi hO hc hst hlv hroom ct (fun C' M' hl' v q => by obtain ⟨rfl, rfl, r, rfl, q⟩ := q; exact kk _ _ q)
theorem r_cv4_H {y : MethodName} {cy : ByteArray} {mL idx : Nat} {ry : Option FieldType} {rm : Room} {a0 a1 a2 a3 : Value} {k i ci N : Nat} {T : u_T} {r : Int64} (X : Cx G κ cc nL own ret R) (md : MdV y cy mL ry 4) (wml : Cond.methodLink own idx y ∈ bpW) (d : decode cc pc = .ok (.invokevirtual idx, 3)) (hR : Rm rm R mL) (hi : i < bpN k) (hO : bpO k = some (ci, N)) (hc : bpCl[ci]? = some (y.cls, T, N)) (hst : (st.map fun v => v.category).sum ≤ 8) (hlv : lv.length = nL) (hroom : kn κ ≤ R.cells ∧ kS κ ≤ R.slots) (ct : Ct G y cy mL ry rm (.ref (G.1 k i) :: [a0, a1, a2, a3]) C M hl (qH C M r)) (kk : Rn G κ (pc + 3) lv st C M r) : Rn G κ pc lv (a3 :: a2 :: a1 :: a0 :: .ref (G.1 k i) :: st) C M hl := r_cv4 X md wml d hR hi hO hc hst hlv hroom ct (fun C' M' hl' v q => by obtain ⟨rfl, rfl, rfl, rfl⟩ := q; exact kk)
theorem r_cv4_Hl {y : MethodName} {cy : ByteArray} {mL idx : Nat} {ry : Option FieldType} {rm : Room} {a0 a1 a2 a3 : Value} {k i ci N : Nat} {T : u_T} {r : Int64} (X : Cx G κ cc nL own ret R) (md : MdV y cy mL ry 4) (wml : Cond.methodLink own idx y ∈ bpW) (d : decode cc pc = .ok (.invokevirtual idx, 3)) (hR : Rm rm R mL) (hi : i < bpN k) (hO : bpO k = some (ci, N)) (hc : bpCl[ci]? = some (y.cls, T, N)) (hst : (st.map fun v => v.category).sum ≤ 8) (hlv : lv.length = nL) (hroom : kn κ ≤ R.cells ∧ kS κ ≤ R.slots) (ct : Ct G y cy mL ry rm (.ref (G.1 k i) :: [a0, a1, a2, a3]) C M hl (qHl C M r)) (kk : ∀ hl2 : Int64, Rn G κ (pc + 3) lv (.long r :: st) C M hl2) : Rn G κ pc lv (a3 :: a2 :: a1 :: a0 :: .ref (G.1 k i) :: st) C M hl := r_cv4 X md wml d hR hi hO hc hst hlv hroom ct (fun C' M' hl' v q => by obtain ⟨rfl, rfl, rfl⟩ := q; exact kk _)
end CALLS
abbrev rmX0_restart : Room := { frames := 0, cells := 0, slots := 0, locals := 0 }
theorem mdX0_restart : MdV yX0_restart cX0_restart 1 none 0 := ⟨⟨wcd_X0_restart, win_X0, by decide +kernel⟩, wim_X0_restart, wse_X0_restart⟩
abbrev rmX0_hold : Room := { frames := 0, cells := 0, slots := 0, locals := 0 }
theorem mdX0_hold : MdV yX0_hold cX0_hold 2 (some .boolean) 1 := ⟨⟨wcd_X0_hold, win_X0, by decide +kernel⟩, wim_X0_hold, wse_X0_hold⟩
abbrev rmX1_append : Room := { frames := 0, cells := 0, slots := 0, locals := 0 }
theorem mdX1_append : MdV yX1_append cX1_append 2 (some .boolean) 1 := ⟨⟨wcd_X1_append, win_X1, by decide +kernel⟩, wim_X1_append, wse_X1_append⟩
abbrev rmX1_codeAt : Room := { frames := 0, cells := 0, slots := 0, locals := 0 }
theorem mdX1_codeAt : MdV yX1_codeAt cX1_codeAt 2 (some .int) 1 := ⟨⟨wcd_X1_codeAt, win_X1, by decide +kernel⟩, wim_X1_codeAt, wse_X1_codeAt⟩
abbrev rmX1_firstWrong : Room := { frames := 2, cells := 0, slots := 0, locals := 43 }
theorem mdX1_firstWrong : MdV yX1_firstWrong cX1_firstWrong 2 (some .int) 0 := ⟨⟨wcd_X1_firstWrong, win_X1, by decide +kernel⟩, wim_X1_firstWrong, wse_X1_firstWrong⟩
abbrev rmX1_fits : Room := { frames := 1, cells := 0, slots := 0, locals := 21 }
theorem mdX1_fits : MdV yX1_fits cX1_fits 3 (some .boolean) 1 := ⟨⟨wcd_X1_fits, win_X1, by decide +kernel⟩, wim_X1_fits, wse_X1_fits⟩
abbrev rmX1_isBoard : Room := { frames := 3, cells := 0, slots := 0, locals := 64 }
theorem mdX1_isBoard : MdV yX1_isBoard cX1_isBoard 1 (some .boolean) 0 := ⟨⟨wcd_X1_isBoard, win_X1, by decide +kernel⟩, wim_X1_isBoard, wse_X1_isBoard⟩
abbrev rmX1_portsWritten : Room := { frames := 0, cells := 0, slots := 0, locals := 0 }
theorem mdX1_portsWritten : MdV yX1_portsWritten cX1_portsWritten 1 (some .int) 0 := ⟨⟨wcd_X1_portsWritten, win_X1, by decide +kernel⟩, wim_X1_portsWritten, wse_X1_portsWritten⟩
abbrev rmX1_keyOfPort : Room := { frames := 1, cells := 0, slots := 0, locals := 21 }
theorem mdX1_keyOfPort : MdV yX1_keyOfPort cX1_keyOfPort 2 (some .int) 1 := ⟨⟨wcd_X1_keyOfPort, win_X1, by decide +kernel⟩, wim_X1_keyOfPort, wse_X1_keyOfPort⟩
abbrev rmX1_rankOfPort : Room := { frames := 1, cells := 0, slots := 0, locals := 21 }
theorem mdX1_rankOfPort : MdV yX1_rankOfPort cX1_rankOfPort 2 (some .int) 1 := ⟨⟨wcd_X1_rankOfPort, win_X1, by decide +kernel⟩, wim_X1_rankOfPort, wse_X1_rankOfPort⟩
abbrev rmX2_restart : Room := { frames := 0, cells := 0, slots := 0, locals := 0 }
theorem mdX2_restart : MdV yX2_restart cX2_restart 3 none 2 := ⟨⟨wcd_X2_restart, win_X2, by decide +kernel⟩, wim_X2_restart, wse_X2_restart⟩
abbrev rmX2_keepHeard : Room := { frames := 0, cells := 0, slots := 0, locals := 0 }
theorem mdX2_keepHeard : MdV yX2_keepHeard cX2_keepHeard 4 none 3 := ⟨⟨wcd_X2_keepHeard, win_X2, by decide +kernel⟩, wim_X2_keepHeard, wse_X2_keepHeard⟩
abbrev rmX2_growOlder : Room := { frames := 0, cells := 0, slots := 0, locals := 0 }
theorem mdX2_growOlder : MdV yX2_growOlder cX2_growOlder 1 none 0 := ⟨⟨wcd_X2_growOlder, win_X2, by decide +kernel⟩, wim_X2_growOlder, wse_X2_growOlder⟩
abbrev rmX2_isAlike : Room := { frames := 0, cells := 0, slots := 0, locals := 0 }
theorem mdX2_isAlike : MdV yX2_isAlike cX2_isAlike 2 (some .boolean) 1 := ⟨⟨wcd_X2_isAlike, win_X2, by decide +kernel⟩, wim_X2_isAlike, wse_X2_isAlike⟩
abbrev rmX3_has : Room := { frames := 0, cells := 0, slots := 0, locals := 0 }
theorem mdX3_has : MdV yX3_has cX3_has 2 (some .boolean) 1 := ⟨⟨wcd_X3_has, win_X3, by decide +kernel⟩, wim_X3_has, wse_X3_has⟩
abbrev rmX3_append : Room := { frames := 0, cells := 0, slots := 0, locals := 0 }
theorem mdX3_append : MdV yX3_append cX3_append 3 none 2 := ⟨⟨wcd_X3_append, win_X3, by decide +kernel⟩, wim_X3_append, wse_X3_append⟩
abbrev rmX3_appendMarker : Room := { frames := 1, cells := 0, slots := 0, locals := 22 }
theorem mdX3_appendMarker : MdV yX3_appendMarker cX3_appendMarker 2 none 1 := ⟨⟨wcd_X3_appendMarker, win_X3, by decide +kernel⟩, wim_X3_appendMarker, wse_X3_appendMarker⟩
abbrev rmX3_removeFirst : Room := { frames := 0, cells := 0, slots := 0, locals := 0 }
theorem mdX3_removeFirst : MdV yX3_removeFirst cX3_removeFirst 2 none 0 := ⟨⟨wcd_X3_removeFirst, win_X3, by decide +kernel⟩, wim_X3_removeFirst, wse_X3_removeFirst⟩
abbrev rmX3_flowAt : Room := { frames := 1, cells := 0, slots := 0, locals := 21 }
theorem mdX3_flowAt : MdV yX3_flowAt cX3_flowAt 2 (some .int) 1 := ⟨⟨wcd_X3_flowAt, win_X3, by decide +kernel⟩, wim_X3_flowAt, wse_X3_flowAt⟩
abbrev rmX3_numberAt : Room := { frames := 1, cells := 0, slots := 0, locals := 21 }
theorem mdX3_numberAt : MdV yX3_numberAt cX3_numberAt 2 (some .int) 1 := ⟨⟨wcd_X3_numberAt, win_X3, by decide +kernel⟩, wim_X3_numberAt, wse_X3_numberAt⟩
abbrev rmX3_isMarker : Room := { frames := 1, cells := 0, slots := 0, locals := 21 }
theorem mdX3_isMarker : MdV yX3_isMarker cX3_isMarker 2 (some .boolean) 1 := ⟨⟨wcd_X3_isMarker, win_X3, by decide +kernel⟩, wim_X3_isMarker, wse_X3_isMarker⟩
abbrev rmX3_hasLetterOf : Room := { frames := 0, cells := 0, slots := 0, locals := 0 }
theorem mdX3_hasLetterOf : MdV yX3_hasLetterOf cX3_hasLetterOf 3 (some .boolean) 1 := ⟨⟨wcd_X3_hasLetterOf, win_X3, by decide +kernel⟩, wim_X3_hasLetterOf, wse_X3_hasLetterOf⟩
abbrev rmX4_letter : Room := { frames := 1, cells := 0, slots := 0, locals := 21 }
theorem mdX4_letter : MdV yX4_letter cX4_letter 2 (some .int) 1 := ⟨⟨wcd_X4_letter, win_X4, by decide +kernel⟩, wim_X4_letter, wse_X4_letter⟩
abbrev rmX4_blank : Room := { frames := 0, cells := 0, slots := 0, locals := 0 }
theorem mdX4_blank : MdV yX4_blank cX4_blank 2 (some .int) 0 := ⟨⟨wcd_X4_blank, win_X4, by decide +kernel⟩, wim_X4_blank, wse_X4_blank⟩
abbrev rmX4_fault : Room := { frames := 3, cells := 0, slots := 0, locals := 64 }
theorem mdX4_fault : MdV yX4_fault cX4_fault 1 (some .int) 0 := ⟨⟨wcd_X4_fault, win_X4, by decide +kernel⟩, wim_X4_fault, wse_X4_fault⟩
abbrev rmX4_board : Room := { frames := 4, cells := 0, slots := 0, locals := 84 }
theorem mdX4_board : MdV yX4_board cX4_board 2 (some .int) 0 := ⟨⟨wcd_X4_board, win_X4, by decide +kernel⟩, wim_X4_board, wse_X4_board⟩
abbrev rmX4_set : Room := { frames := 5, cells := 0, slots := 0, locals := 112 }
theorem mdX4_set : MdV yX4_set cX4_set 3 (some .int) 2 := ⟨⟨wcd_X4_set, win_X4, by decide +kernel⟩, wim_X4_set, wse_X4_set⟩
abbrev rmX4_rank : Room := { frames := 4, cells := 0, slots := 0, locals := 90 }
theorem mdX4_rank : MdV yX4_rank cX4_rank 4 (some .int) 2 := ⟨⟨wcd_X4_rank, win_X4, by decide +kernel⟩, wim_X4_rank, wse_X4_rank⟩
abbrev rmX4_up : Room := { frames := 5, cells := 0, slots := 0, locals := 117 }
theorem mdX4_up : MdV yX4_up cX4_up 4 (some .int) 2 := ⟨⟨wcd_X4_up, win_X4, by decide +kernel⟩, wim_X4_up, wse_X4_up⟩
abbrev rmX4_hear : Room := { frames := 4, cells := 0, slots := 0, locals := 90 }
theorem mdX4_hear : MdV yX4_hear cX4_hear 5 (some .int) 4 := ⟨⟨wcd_X4_hear, win_X4, by decide +kernel⟩, wim_X4_hear, wse_X4_hear⟩
abbrev rmX4_of : Room := { frames := 1, cells := 0, slots := 0, locals := 21 }
theorem mdX4_of : MdV yX4_of cX4_of 4 (some .int) 2 := ⟨⟨wcd_X4_of, win_X4, by decide +kernel⟩, wim_X4_of, wse_X4_of⟩
abbrev rmX4_queue : Room := { frames := 2, cells := 0, slots := 0, locals := 42 }
theorem mdX4_queue : MdV yX4_queue cX4_queue 4 (some .int) 2 := ⟨⟨wcd_X4_queue, win_X4, by decide +kernel⟩, wim_X4_queue, wse_X4_queue⟩
abbrev rmX4_key : Room := { frames := 2, cells := 0, slots := 0, locals := 47 }
theorem mdX4_key : MdV yX4_key cX4_key 3 (some .int) 2 := ⟨⟨wcd_X4_key, win_X4, by decide +kernel⟩, wim_X4_key, wse_X4_key⟩
abbrev rmX4_way : Room := { frames := 3, cells := 0, slots := 0, locals := 72 }
theorem mdX4_way : MdV yX4_way cX4_way 2 (some .int) 1 := ⟨⟨wcd_X4_way, win_X4, by decide +kernel⟩, wim_X4_way, wse_X4_way⟩
abbrev rmX4_send : Room := { frames := 3, cells := 0, slots := 0, locals := 72 }
theorem mdX4_send : MdV yX4_send cX4_send 4 (some .int) 1 := ⟨⟨wcd_X4_send, win_X4, by decide +kernel⟩, wim_X4_send, wse_X4_send⟩
abbrev rmX4_flow : Room := { frames := 1, cells := 0, slots := 0, locals := 20 }
theorem mdX4_flow : MdV yX4_flow cX4_flow 4 (some .int) 2 := ⟨⟨wcd_X4_flow, win_X4, by decide +kernel⟩, wim_X4_flow, wse_X4_flow⟩
abbrev rmX4_tick : Room := { frames := 6, cells := 0, slots := 0, locals := 140 }
theorem mdX4_tick : MdV yX4_tick cX4_tick 4 (some .int) 1 := ⟨⟨wcd_X4_tick, win_X4, by decide +kernel⟩, wim_X4_tick, wse_X4_tick⟩
abbrev rmX4_count : Room := { frames := 3, cells := 0, slots := 0, locals := 66 }
theorem mdX4_count : MdV yX4_count cX4_count 2 (some .int) 1 := ⟨⟨wcd_X4_count, win_X4, by decide +kernel⟩, wim_X4_count, wse_X4_count⟩
abbrev rmX4_digest : Room := { frames := 4, cells := 0, slots := 0, locals := 93 }
theorem mdX4_digest : MdV yX4_digest cX4_digest 5 (some .long) 0 := ⟨⟨wcd_X4_digest, win_X4, by decide +kernel⟩, wim_X4_digest, wse_X4_digest⟩
abbrev rmX4_digestPort : Room := { frames := 3, cells := 0, slots := 0, locals := 65 }
theorem mdX4_digestPort : MdV yX4_digestPort cX4_digestPort 8 (some .long) 2 := ⟨⟨wcd_X4_digestPort, win_X4, by decide +kernel⟩, wim_X4_digestPort, wse_X4_digestPort⟩
abbrev rmX4_mix : Room := { frames := 0, cells := 0, slots := 0, locals := 0 }
theorem mdX4_mix : MdS yX4_mix cX4_mix 4 (some .long) 2 := ⟨⟨wcd_X4_mix, win_X4, by decide +kernel⟩, wst_X4_mix⟩
abbrev rmX4_asNumber : Room := { frames := 0, cells := 0, slots := 0, locals := 0 }
theorem mdX4_asNumber : MdS yX4_asNumber cX4_asNumber 1 (some .int) 1 := ⟨⟨wcd_X4_asNumber, win_X4, by decide +kernel⟩, wst_X4_asNumber⟩
abbrev rmX4_isPort : Room := { frames := 0, cells := 0, slots := 0, locals := 0 }
theorem mdX4_isPort : MdV yX4_isPort cX4_isPort 2 (some .boolean) 1 := ⟨⟨wcd_X4_isPort, win_X4, by decide +kernel⟩, wim_X4_isPort, wse_X4_isPort⟩
abbrev rmX4_isKey : Room := { frames := 0, cells := 0, slots := 0, locals := 0 }
theorem mdX4_isKey : MdS yX4_isKey cX4_isKey 1 (some .boolean) 1 := ⟨⟨wcd_X4_isKey, win_X4, by decide +kernel⟩, wst_X4_isKey⟩
abbrev rmX4_isFlow : Room := { frames := 0, cells := 0, slots := 0, locals := 0 }
theorem mdX4_isFlow : MdS yX4_isFlow cX4_isFlow 1 (some .boolean) 1 := ⟨⟨wcd_X4_isFlow, win_X4, by decide +kernel⟩, wst_X4_isFlow⟩
abbrev rmX4_changeWidth : Room := { frames := 4, cells := 0, slots := 0, locals := 90 }
theorem mdX4_changeWidth : MdV yX4_changeWidth cX4_changeWidth 3 (some .int) 1 := ⟨⟨wcd_X4_changeWidth, win_X4, by decide +kernel⟩, wim_X4_changeWidth, wse_X4_changeWidth⟩
abbrev rmX4_changeWait : Room := { frames := 0, cells := 0, slots := 0, locals := 0 }
theorem mdX4_changeWait : MdV yX4_changeWait cX4_changeWait 3 (some .int) 1 := ⟨⟨wcd_X4_changeWait, win_X4, by decide +kernel⟩, wim_X4_changeWait, wse_X4_changeWait⟩
abbrev rmX4_changeShift : Room := { frames := 0, cells := 0, slots := 0, locals := 0 }
theorem mdX4_changeShift : MdV yX4_changeShift cX4_changeShift 3 (some .int) 1 := ⟨⟨wcd_X4_changeShift, win_X4, by decide +kernel⟩, wim_X4_changeShift, wse_X4_changeShift⟩
abbrev rmX4_chooseAll : Room := { frames := 3, cells := 0, slots := 0, locals := 69 }
theorem mdX4_chooseAll : MdV yX4_chooseAll cX4_chooseAll 2 none 0 := ⟨⟨wcd_X4_chooseAll, win_X4, by decide +kernel⟩, wim_X4_chooseAll, wse_X4_chooseAll⟩
abbrev rmX4_chooseOfKey : Room := { frames := 2, cells := 0, slots := 0, locals := 46 }
theorem mdX4_chooseOfKey : MdV yX4_chooseOfKey cX4_chooseOfKey 4 none 1 := ⟨⟨wcd_X4_chooseOfKey, win_X4, by decide +kernel⟩, wim_X4_chooseOfKey, wse_X4_chooseOfKey⟩
abbrev rmX4_choiceOf : Room := { frames := 1, cells := 0, slots := 0, locals := 22 }
theorem mdX4_choiceOf : MdV yX4_choiceOf cX4_choiceOf 5 (some .int) 2 := ⟨⟨wcd_X4_choiceOf, win_X4, by decide +kernel⟩, wim_X4_choiceOf, wse_X4_choiceOf⟩
abbrev rmX4_leadOf : Room := { frames := 1, cells := 0, slots := 0, locals := 22 }
theorem mdX4_leadOf : MdV yX4_leadOf cX4_leadOf 4 (some .int) 1 := ⟨⟨wcd_X4_leadOf, win_X4, by decide +kernel⟩, wim_X4_leadOf, wse_X4_leadOf⟩
abbrev rmX4_isAhead : Room := { frames := 0, cells := 0, slots := 0, locals := 0 }
theorem mdX4_isAhead : MdV yX4_isAhead cX4_isAhead 3 (some .boolean) 2 := ⟨⟨wcd_X4_isAhead, win_X4, by decide +kernel⟩, wim_X4_isAhead, wse_X4_isAhead⟩
abbrev rmX4_howItIs : Room := { frames := 0, cells := 0, slots := 0, locals := 0 }
theorem mdX4_howItIs : MdV yX4_howItIs cX4_howItIs 2 (some .int) 1 := ⟨⟨wcd_X4_howItIs, win_X4, by decide +kernel⟩, wim_X4_howItIs, wse_X4_howItIs⟩
abbrev rmX4_carries : Room := { frames := 1, cells := 0, slots := 0, locals := 21 }
theorem mdX4_carries : MdV yX4_carries cX4_carries 2 (some .boolean) 1 := ⟨⟨wcd_X4_carries, win_X4, by decide +kernel⟩, wim_X4_carries, wse_X4_carries⟩
abbrev rmX4_bitsOf : Room := { frames := 1, cells := 0, slots := 0, locals := 21 }
theorem mdX4_bitsOf : MdV yX4_bitsOf cX4_bitsOf 7 (some .int) 3 := ⟨⟨wcd_X4_bitsOf, win_X4, by decide +kernel⟩, wim_X4_bitsOf, wse_X4_bitsOf⟩
abbrev rmX4_wayOf : Room := { frames := 2, cells := 0, slots := 0, locals := 47 }
theorem mdX4_wayOf : MdV yX4_wayOf cX4_wayOf 6 (some .int) 1 := ⟨⟨wcd_X4_wayOf, win_X4, by decide +kernel⟩, wim_X4_wayOf, wse_X4_wayOf⟩
abbrev rmX4_hasLettersBehind : Room := { frames := 1, cells := 0, slots := 0, locals := 22 }
theorem mdX4_hasLettersBehind : MdV yX4_hasLettersBehind cX4_hasLettersBehind 3 (some .boolean) 1 := ⟨⟨wcd_X4_hasLettersBehind, win_X4, by decide +kernel⟩, wim_X4_hasLettersBehind, wse_X4_hasLettersBehind⟩
abbrev rmX4_startMoving : Room := { frames := 2, cells := 0, slots := 0, locals := 43 }
theorem mdX4_startMoving : MdV yX4_startMoving cX4_startMoving 3 none 1 := ⟨⟨wcd_X4_startMoving, win_X4, by decide +kernel⟩, wim_X4_startMoving, wse_X4_startMoving⟩
abbrev rmX4_putLetter : Room := { frames := 1, cells := 0, slots := 0, locals := 22 }
theorem mdX4_putLetter : MdV yX4_putLetter cX4_putLetter 4 (some .boolean) 3 := ⟨⟨wcd_X4_putLetter, win_X4, by decide +kernel⟩, wim_X4_putLetter, wse_X4_putLetter⟩
abbrev rmX4_answerMarker : Room := { frames := 3, cells := 0, slots := 0, locals := 72 }
theorem mdX4_answerMarker : MdV yX4_answerMarker cX4_answerMarker 4 none 1 := ⟨⟨wcd_X4_answerMarker, win_X4, by decide +kernel⟩, wim_X4_answerMarker, wse_X4_answerMarker⟩
abbrev rmX4_dropQueue : Room := { frames := 4, cells := 0, slots := 0, locals := 95 }
theorem mdX4_dropQueue : MdV yX4_dropQueue cX4_dropQueue 3 none 1 := ⟨⟨wcd_X4_dropQueue, win_X4, by decide +kernel⟩, wim_X4_dropQueue, wse_X4_dropQueue⟩
abbrev rmX4_passTick : Room := { frames := 5, cells := 0, slots := 0, locals := 119 }
theorem mdX4_passTick : MdV yX4_passTick cX4_passTick 2 none 0 := ⟨⟨wcd_X4_passTick, win_X4, by decide +kernel⟩, wim_X4_passTick, wse_X4_passTick⟩
abbrev rmX4_letFirstOut : Room := { frames := 4, cells := 0, slots := 0, locals := 95 }
theorem mdX4_letFirstOut : MdV yX4_letFirstOut cX4_letFirstOut 5 none 1 := ⟨⟨wcd_X4_letFirstOut, win_X4, by decide +kernel⟩, wim_X4_letFirstOut, wse_X4_letFirstOut⟩
abbrev rmX4_sumOverFlows : Room := { frames := 2, cells := 0, slots := 0, locals := 43 }
theorem mdX4_sumOverFlows : MdV yX4_sumOverFlows cX4_sumOverFlows 4 (some .int) 1 := ⟨⟨wcd_X4_sumOverFlows, win_X4, by decide +kernel⟩, wim_X4_sumOverFlows, wse_X4_sumOverFlows⟩
abbrev rmX5_within : Room := { frames := 0, cells := 0, slots := 0, locals := 0 }
theorem mdX5_within : MdS yX5_within cX5_within 3 (some .boolean) 3 := ⟨⟨wcd_X5_within, win_X5, by decide +kernel⟩, wst_X5_within⟩
abbrev rmX5_letter : Room := { frames := 1, cells := 0, slots := 0, locals := 22 }
theorem mdX5_letter : MdV yX5_letter cX5_letter 2 (some .int) 1 := ⟨⟨wcd_X5_letter, win_X5, by decide +kernel⟩, wim_X5_letter, wse_X5_letter⟩
abbrev rmX5_blank : Room := { frames := 0, cells := 0, slots := 0, locals := 0 }
theorem mdX5_blank : MdV yX5_blank cX5_blank 2 (some .int) 0 := ⟨⟨wcd_X5_blank, win_X5, by decide +kernel⟩, wim_X5_blank, wse_X5_blank⟩
abbrev rmX5_isRight : Room := { frames := 1, cells := 0, slots := 0, locals := 22 }
theorem mdX5_isRight : MdV yX5_isRight cX5_isRight 3 (some .boolean) 1 := ⟨⟨wcd_X5_isRight, win_X5, by decide +kernel⟩, wim_X5_isRight, wse_X5_isRight⟩
abbrev rmX5_rightLetters : Room := { frames := 2, cells := 0, slots := 0, locals := 44 }
theorem mdX5_rightLetters : MdV yX5_rightLetters cX5_rightLetters 2 (some .int) 0 := ⟨⟨wcd_X5_rightLetters, win_X5, by decide +kernel⟩, wim_X5_rightLetters, wse_X5_rightLetters⟩
abbrev rmX5_fault : Room := { frames := 3, cells := 0, slots := 0, locals := 65 }
theorem mdX5_fault : MdV yX5_fault cX5_fault 1 (some .int) 0 := ⟨⟨wcd_X5_fault, win_X5, by decide +kernel⟩, wim_X5_fault, wse_X5_fault⟩
abbrev rmX5_clearFlows : Room := { frames := 0, cells := 0, slots := 0, locals := 0 }
theorem mdX5_clearFlows : MdV yX5_clearFlows cX5_clearFlows 2 none 0 := ⟨⟨wcd_X5_clearFlows, win_X5, by decide +kernel⟩, wim_X5_clearFlows, wse_X5_clearFlows⟩
abbrev rmX5_board : Room := { frames := 3, cells := 0, slots := 0, locals := 65 }
theorem mdX5_board : MdV yX5_board cX5_board 2 (some .int) 0 := ⟨⟨wcd_X5_board, win_X5, by decide +kernel⟩, wim_X5_board, wse_X5_board⟩
abbrev rmX5_isPort : Room := { frames := 1, cells := 0, slots := 0, locals := 22 }
theorem mdX5_isPort : MdV yX5_isPort cX5_isPort 2 (some .boolean) 1 := ⟨⟨wcd_X5_isPort, win_X5, by decide +kernel⟩, wim_X5_isPort, wse_X5_isPort⟩
abbrev rmX5_forget : Room := { frames := 0, cells := 0, slots := 0, locals := 0 }
theorem mdX5_forget : MdV yX5_forget cX5_forget 2 none 1 := ⟨⟨wcd_X5_forget, win_X5, by decide +kernel⟩, wim_X5_forget, wse_X5_forget⟩
abbrev rmX5_isAhead : Room := { frames := 0, cells := 0, slots := 0, locals := 0 }
theorem mdX5_isAhead : MdV yX5_isAhead cX5_isAhead 3 (some .boolean) 2 := ⟨⟨wcd_X5_isAhead, win_X5, by decide +kernel⟩, wim_X5_isAhead, wse_X5_isAhead⟩
abbrev rmX5_leadOf : Room := { frames := 1, cells := 0, slots := 0, locals := 22 }
theorem mdX5_leadOf : MdV yX5_leadOf cX5_leadOf 5 (some .int) 1 := ⟨⟨wcd_X5_leadOf, win_X5, by decide +kernel⟩, wim_X5_leadOf, wse_X5_leadOf⟩
abbrev rmX5_areAlike : Room := { frames := 0, cells := 0, slots := 0, locals := 0 }
theorem mdX5_areAlike : MdV yX5_areAlike cX5_areAlike 3 (some .boolean) 2 := ⟨⟨wcd_X5_areAlike, win_X5, by decide +kernel⟩, wim_X5_areAlike, wse_X5_areAlike⟩
abbrev rmX5_placeOf : Room := { frames := 2, cells := 0, slots := 0, locals := 46 }
theorem mdX5_placeOf : MdV yX5_placeOf cX5_placeOf 5 (some .int) 1 := ⟨⟨wcd_X5_placeOf, win_X5, by decide +kernel⟩, wim_X5_placeOf, wse_X5_placeOf⟩
abbrev rmX5_stateOf : Room := { frames := 3, cells := 0, slots := 0, locals := 70 }
theorem mdX5_stateOf : MdV yX5_stateOf cX5_stateOf 3 (some .int) 1 := ⟨⟨wcd_X5_stateOf, win_X5, by decide +kernel⟩, wim_X5_stateOf, wse_X5_stateOf⟩
abbrev rmX5_settle : Room := { frames := 4, cells := 0, slots := 0, locals := 92 }
theorem mdX5_settle : MdV yX5_settle cX5_settle 2 none 0 := ⟨⟨wcd_X5_settle, win_X5, by decide +kernel⟩, wim_X5_settle, wse_X5_settle⟩
abbrev rmX5_toldNow : Room := { frames := 0, cells := 0, slots := 0, locals := 0 }
theorem mdX5_toldNow : MdV yX5_toldNow cX5_toldNow 2 (some .int) 1 := ⟨⟨wcd_X5_toldNow, win_X5, by decide +kernel⟩, wim_X5_toldNow, wse_X5_toldNow⟩
abbrev rmX5_set : Room := { frames := 5, cells := 0, slots := 0, locals := 113 }
theorem mdX5_set : MdV yX5_set cX5_set 4 (some .int) 2 := ⟨⟨wcd_X5_set, win_X5, by decide +kernel⟩, wim_X5_set, wse_X5_set⟩
abbrev rmX5_rank : Room := { frames := 5, cells := 0, slots := 0, locals := 113 }
theorem mdX5_rank : MdV yX5_rank cX5_rank 4 (some .int) 2 := ⟨⟨wcd_X5_rank, win_X5, by decide +kernel⟩, wim_X5_rank, wse_X5_rank⟩
abbrev rmX5_up : Room := { frames := 8, cells := 0, slots := 0, locals := 189 }
theorem mdX5_up : MdV yX5_up cX5_up 4 (some .int) 2 := ⟨⟨wcd_X5_up, win_X5, by decide +kernel⟩, wim_X5_up, wse_X5_up⟩
abbrev rmX5_hear : Room := { frames := 5, cells := 0, slots := 0, locals := 113 }
theorem mdX5_hear : MdV yX5_hear cX5_hear 5 (some .int) 4 := ⟨⟨wcd_X5_hear, win_X5, by decide +kernel⟩, wim_X5_hear, wse_X5_hear⟩
abbrev rmX5_portNow : Room := { frames := 4, cells := 0, slots := 0, locals := 92 }
theorem mdX5_portNow : MdV yX5_portNow cX5_portNow 4 (some .int) 2 := ⟨⟨wcd_X5_portNow, win_X5, by decide +kernel⟩, wim_X5_portNow, wse_X5_portNow⟩
abbrev rmX5_of : Room := { frames := 5, cells := 0, slots := 0, locals := 115 }
theorem mdX5_of : MdV yX5_of cX5_of 3 (some .int) 2 := ⟨⟨wcd_X5_of, win_X5, by decide +kernel⟩, wim_X5_of, wse_X5_of⟩
abbrev rmX5_queueNow : Room := { frames := 0, cells := 0, slots := 0, locals := 0 }
theorem mdX5_queueNow : MdV yX5_queueNow cX5_queueNow 5 (some .int) 2 := ⟨⟨wcd_X5_queueNow, win_X5, by decide +kernel⟩, wim_X5_queueNow, wse_X5_queueNow⟩
abbrev rmX5_queue : Room := { frames := 2, cells := 0, slots := 0, locals := 43 }
theorem mdX5_queue : MdV yX5_queue cX5_queue 3 (some .int) 2 := ⟨⟨wcd_X5_queue, win_X5, by decide +kernel⟩, wim_X5_queue, wse_X5_queue⟩
abbrev rmX5_bitsOf : Room := { frames := 4, cells := 0, slots := 0, locals := 92 }
theorem mdX5_bitsOf : MdV yX5_bitsOf cX5_bitsOf 6 (some .int) 3 := ⟨⟨wcd_X5_bitsOf, win_X5, by decide +kernel⟩, wim_X5_bitsOf, wse_X5_bitsOf⟩
abbrev rmX5_keyNow : Room := { frames := 5, cells := 0, slots := 0, locals := 117 }
theorem mdX5_keyNow : MdV yX5_keyNow cX5_keyNow 3 (some .int) 2 := ⟨⟨wcd_X5_keyNow, win_X5, by decide +kernel⟩, wim_X5_keyNow, wse_X5_keyNow⟩
abbrev rmX5_key : Room := { frames := 6, cells := 0, slots := 0, locals := 139 }
theorem mdX5_key : MdV yX5_key cX5_key 3 (some .int) 2 := ⟨⟨wcd_X5_key, win_X5, by decide +kernel⟩, wim_X5_key, wse_X5_key⟩
abbrev rmX5_isFlow : Room := { frames := 1, cells := 0, slots := 0, locals := 22 }
theorem mdX5_isFlow : MdS yX5_isFlow cX5_isFlow 1 (some .boolean) 1 := ⟨⟨wcd_X5_isFlow, win_X5, by decide +kernel⟩, wst_X5_isFlow⟩
abbrev rmX5_wayOf : Room := { frames := 5, cells := 0, slots := 0, locals := 117 }
theorem mdX5_wayOf : MdV yX5_wayOf cX5_wayOf 6 (some .int) 1 := ⟨⟨wcd_X5_wayOf, win_X5, by decide +kernel⟩, wim_X5_wayOf, wse_X5_wayOf⟩
abbrev rmX5_way : Room := { frames := 6, cells := 0, slots := 0, locals := 142 }
theorem mdX5_way : MdV yX5_way cX5_way 2 (some .int) 1 := ⟨⟨wcd_X5_way, win_X5, by decide +kernel⟩, wim_X5_way, wse_X5_way⟩
abbrev rmX5_lay : Room := { frames := 0, cells := 0, slots := 0, locals := 0 }
theorem mdX5_lay : MdV yX5_lay cX5_lay 4 none 3 := ⟨⟨wcd_X5_lay, win_X5, by decide +kernel⟩, wim_X5_lay, wse_X5_lay⟩
abbrev rmX5_comes : Room := { frames := 1, cells := 0, slots := 0, locals := 23 }
theorem mdX5_comes : MdV yX5_comes cX5_comes 4 (some .int) 3 := ⟨⟨wcd_X5_comes, win_X5, by decide +kernel⟩, wim_X5_comes, wse_X5_comes⟩
abbrev rmX5_holds : Room := { frames := 0, cells := 0, slots := 0, locals := 0 }
theorem mdX5_holds : MdV yX5_holds cX5_holds 3 (some .int) 2 := ⟨⟨wcd_X5_holds, win_X5, by decide +kernel⟩, wim_X5_holds, wse_X5_holds⟩
abbrev rmX5_hasLetter : Room := { frames := 0, cells := 0, slots := 0, locals := 0 }
theorem mdX5_hasLetter : MdV yX5_hasLetter cX5_hasLetter 5 (some .boolean) 2 := ⟨⟨wcd_X5_hasLetter, win_X5, by decide +kernel⟩, wim_X5_hasLetter, wse_X5_hasLetter⟩
abbrev rmX5_sendNow : Room := { frames := 6, cells := 0, slots := 0, locals := 142 }
theorem mdX5_sendNow : MdV yX5_sendNow cX5_sendNow 3 (some .int) 1 := ⟨⟨wcd_X5_sendNow, win_X5, by decide +kernel⟩, wim_X5_sendNow, wse_X5_sendNow⟩
abbrev rmX5_send : Room := { frames := 7, cells := 0, slots := 0, locals := 164 }
theorem mdX5_send : MdV yX5_send cX5_send 2 (some .int) 1 := ⟨⟨wcd_X5_send, win_X5, by decide +kernel⟩, wim_X5_send, wse_X5_send⟩
abbrev rmX5_answer : Room := { frames := 6, cells := 0, slots := 0, locals := 142 }
theorem mdX5_answer : MdV yX5_answer cX5_answer 5 none 1 := ⟨⟨wcd_X5_answer, win_X5, by decide +kernel⟩, wim_X5_answer, wse_X5_answer⟩
abbrev rmX5_empty : Room := { frames := 7, cells := 0, slots := 0, locals := 166 }
theorem mdX5_empty : MdV yX5_empty cX5_empty 4 none 1 := ⟨⟨wcd_X5_empty, win_X5, by decide +kernel⟩, wim_X5_empty, wse_X5_empty⟩
abbrev rmX5_flowNow : Room := { frames := 0, cells := 0, slots := 0, locals := 0 }
theorem mdX5_flowNow : MdV yX5_flowNow cX5_flowNow 3 (some .int) 2 := ⟨⟨wcd_X5_flowNow, win_X5, by decide +kernel⟩, wim_X5_flowNow, wse_X5_flowNow⟩
abbrev rmX5_flow : Room := { frames := 2, cells := 0, slots := 0, locals := 42 }
theorem mdX5_flow : MdV yX5_flow cX5_flow 3 (some .int) 2 := ⟨⟨wcd_X5_flow, win_X5, by decide +kernel⟩, wim_X5_flow, wse_X5_flow⟩
abbrev rmX5_hearLess : Room := { frames := 5, cells := 0, slots := 0, locals := 113 }
theorem mdX5_hearLess : MdV yX5_hearLess cX5_hearLess 2 none 0 := ⟨⟨wcd_X5_hearLess, win_X5, by decide +kernel⟩, wim_X5_hearLess, wse_X5_hearLess⟩
abbrev rmX5_waitMore : Room := { frames := 4, cells := 0, slots := 0, locals := 92 }
theorem mdX5_waitMore : MdV yX5_waitMore cX5_waitMore 2 none 0 := ⟨⟨wcd_X5_waitMore, win_X5, by decide +kernel⟩, wim_X5_waitMore, wse_X5_waitMore⟩
abbrev rmX5_goesOut : Room := { frames := 7, cells := 0, slots := 0, locals := 166 }
theorem mdX5_goesOut : MdV yX5_goesOut cX5_goesOut 5 (some .int) 1 := ⟨⟨wcd_X5_goesOut, win_X5, by decide +kernel⟩, wim_X5_goesOut, wse_X5_goesOut⟩
abbrev rmX5_tickNow : Room := { frames := 8, cells := 0, slots := 0, locals := 190 }
theorem mdX5_tickNow : MdV yX5_tickNow cX5_tickNow 3 (some .int) 0 := ⟨⟨wcd_X5_tickNow, win_X5, by decide +kernel⟩, wim_X5_tickNow, wse_X5_tickNow⟩
abbrev rmX5_tick : Room := { frames := 9, cells := 0, slots := 0, locals := 212 }
theorem mdX5_tick : MdV yX5_tick cX5_tick 4 (some .int) 1 := ⟨⟨wcd_X5_tick, win_X5, by decide +kernel⟩, wim_X5_tick, wse_X5_tick⟩
abbrev rmX5_sumOf : Room := { frames := 0, cells := 0, slots := 0, locals := 0 }
theorem mdX5_sumOf : MdV yX5_sumOf cX5_sumOf 4 (some .int) 1 := ⟨⟨wcd_X5_sumOf, win_X5, by decide +kernel⟩, wim_X5_sumOf, wse_X5_sumOf⟩
abbrev rmX5_howMany : Room := { frames := 1, cells := 0, slots := 0, locals := 23 }
theorem mdX5_howMany : MdV yX5_howMany cX5_howMany 2 (some .int) 1 := ⟨⟨wcd_X5_howMany, win_X5, by decide +kernel⟩, wim_X5_howMany, wse_X5_howMany⟩
abbrev rmX5_count : Room := { frames := 2, cells := 0, slots := 0, locals := 44 }
theorem mdX5_count : MdV yX5_count cX5_count 2 (some .int) 1 := ⟨⟨wcd_X5_count, win_X5, by decide +kernel⟩, wim_X5_count, wse_X5_count⟩
abbrev rmX5_mix : Room := { frames := 0, cells := 0, slots := 0, locals := 0 }
theorem mdX5_mix : MdV yX5_mix cX5_mix 3 none 1 := ⟨⟨wcd_X5_mix, win_X5, by decide +kernel⟩, wim_X5_mix, wse_X5_mix⟩
abbrev rmX5_mixPorts : Room := { frames := 5, cells := 0, slots := 0, locals := 115 }
theorem mdX5_mixPorts : MdV yX5_mixPorts cX5_mixPorts 3 none 0 := ⟨⟨wcd_X5_mixPorts, win_X5, by decide +kernel⟩, wim_X5_mixPorts, wse_X5_mixPorts⟩
abbrev rmX5_mixFlows : Room := { frames := 6, cells := 0, slots := 0, locals := 142 }
theorem mdX5_mixFlows : MdV yX5_mixFlows cX5_mixFlows 3 none 0 := ⟨⟨wcd_X5_mixFlows, win_X5, by decide +kernel⟩, wim_X5_mixFlows, wse_X5_mixFlows⟩
abbrev rmX5_digest : Room := { frames := 7, cells := 0, slots := 0, locals := 164 }
theorem mdX5_digest : MdV yX5_digest cX5_digest 3 (some .long) 0 := ⟨⟨wcd_X5_digest, win_X5, by decide +kernel⟩, wim_X5_digest, wse_X5_digest⟩
abbrev rmJ6_bitCount_0f7a4 : Room := { frames := 0, cells := 0, slots := 0, locals := 0 }
theorem mdJ6_bitCount_0f7a4 : MdS yJ6_bitCount_0f7a4 cJ6_bitCount_0f7a4 1 (some .int) 1 := ⟨⟨wcd_J6_bitCount_0f7a4, win_J6, by decide +kernel⟩, wst_J6_bitCount_0f7a4⟩
end
section
/-! numbers -/
theorem i_lt (a b : Int32) : a < b ↔ a.toInt < b.toInt := Int32.lt_iff_toInt_lt
theorem i_le (a b : Int32) : a ≤ b ↔ a.toInt ≤ b.toInt := Int32.le_iff_toInt_le
theorem i_eq (a b : Int32) : a = b ↔ a.toInt = b.toInt := Int32.toInt_inj.symm
def bI (b : Bool) : Int32 := if b then 1 else 0
theorem bI_01 (b : Bool) : bI b = 0 ∨ bI b = 1 := by cases b <;> decide
theorem bI_0 {b : Bool} (h : bI b = 0) : b = false := by cases b <;> first | rfl | (exact absurd h (by decide))
theorem bI_1 {b : Bool} (h : ¬ bI b = 0) : b = true := by cases b <;> first | rfl | (exact absurd rfl h)
def oI : Option Nat → Int32
  | none => -1
  | some n => nI n
/-! the reference's memory as a state: its numbers by their slots -/
def np (a : bpM) : Nat := (a 2 0).toNatClampNeg
def qm (a : bpM) (p : Nat) : Nat := (a 17 p).toNatClampNeg
def hm (a : bpM) (f : Nat) : Nat := (a 20 f).toNatClampNeg
def pl (a : bpM) : Nat := (a 0 0).toNatClampNeg
def ctN (P : Nat → Bool) : Nat → Nat
  | 0 => 0
  | n + 1 => ctN P n + (if P n then 1 else 0)
theorem ctN_le (P : Nat → Bool) : ∀ n, ctN P n ≤ n
  | 0 => Nat.le_refl 0
  | n + 1 => by
    have := ctN_le P n
    simp only [ctN]
    split <;> omega
theorem ctN_cong {P Q : Nat → Bool} : ∀ {n : Nat}, (∀ k, k < n → P k = Q k) → ctN P n = ctN Q n
  | 0, _ => rfl
  | n + 1, h => by
    simp only [ctN]
    rw [ctN_cong (fun k hk => h k (Nat.lt_succ_of_lt hk)), h n (Nat.lt_succ_self n)]
/-- p goes ahead of q: by RANK, of like ones by number -/
def ahd (a : bpM) (p q : Nat) : Bool := decide (a 4 p < a 4 q) || (decide (a 4 p = a 4 q) && decide (p < q))
def leadN (a : bpM) (key : Int32) : Nat → Option Nat
  | 0 => none
  | n + 1 => if a 3 n = key ∧ 0 < a 6 n ∧ (∀ b, leadN a key n = some b → ahd a n b = true) then some n else leadN a key n
def lead (a : bpM) (key : Int32) : Option Nat := leadN a key (np a)
theorem leadN_lt (a : bpM) (key : Int32) : ∀ (n b : Nat), leadN a key n = some b → b < n
  | 0, b, h => by cases h
  | n + 1, b, h => by
    simp only [leadN] at h
    split at h
    · cases h
      exact Nat.lt_succ_self _
    · exact Nat.lt_succ_of_lt (leadN_lt a key n b h)
def alk (a : bpM) (p q : Nat) : Bool := decide (0 < a 6 p) && (decide (a 3 p = a 3 q) && (decide (a 6 p = a 6 q) && decide (a 7 p = a 7 q)))
def place (a : bpM) (p : Nat) : Option Nat := match lead a (a 3 p) with
  | none => none
  | some l => if alk a p l then some (ctN (fun q => alk a q l && ahd a q p) (np a)) else none
/-- 0 apart, 1 SPARE, 2 CHOSEN -/
def choi (a : bpM) (p : Nat) : Int32 := match place a p with
  | none => 0
  | some c => if nI c < a 11 0 then 2 else 1
/-- 0 none of these, 1 SPARE, 2 CHOSEN, 3 ATTACHED, 4 it CARRIES -/
def stat (a : bpM) (p : Nat) : Int32 := if choi a p = 2 then (if a 10 p < a 12 0 then 2 else if a 8 p = 0 then 3 else 4) else choi a p
theorem choi_012 (a : bpM) (p : Nat) : choi a p = 0 ∨ choi a p = 1 ∨ choi a p = 2 := by
  unfold choi
  split
  · exact Or.inl rfl
  · split
    · exact Or.inr (Or.inr rfl)
    · exact Or.inr (Or.inl rfl)
/-- who is not CHOSEN has not WAITED -/
def settle (a : bpM) : bpM := fun k j => if k = 10 ∧ j < np a ∧ choi a j ≠ 2 then 0 else a k j
/-- the bits of the PORTS of a KEY that are so -/
def bitN (a : bpM) (key lo hi : Int32) : Nat → Nat
  | 0 => 0
  | n + 1 => bitN a key lo hi n + (if a 3 n = key ∧ lo ≤ stat a n ∧ stat a n ≤ hi then 2 ^ n else 0)
theorem bitN_lt (a : bpM) (key lo hi : Int32) : ∀ n, bitN a key lo hi n < 2 ^ n
  | 0 => (show (0 : Nat) < 1 by decide)
  | n + 1 => by
    have := bitN_lt a key lo hi n
    simp only [bitN, Nat.pow_succ]
    split <;> omega
def bits (a : bpM) (key lo hi : Int32) : Nat := bitN a key lo hi (np a)
/-- a PORT of a KEY that CARRIES -/
def car (a : bpM) (key : Int32) (p : Nat) : Bool := decide (a 3 p = key) && decide (stat a p = 4)
/-- the first place with so many ahead of it -/
def kth (P : Nat → Bool) (t : Nat) : Nat → Option Nat
  | 0 => none
  | n + 1 => match kth P t n with
    | some p => some p
    | none => if P n ∧ ctN P n = t then some n else none
def way (a : bpM) (f : Nat) : Option Nat :=
  if ctN (car a (nI (f % 4))) (np a) = 0 then none
  else kth (car a (nI (f % 4))) ((f / 4 + (a 13 0).toNatClampNeg) % ctN (car a (nI (f % 4))) (np a)) (np a)
/-- what is told of a number: a PORT -/
def isP (a : bpM) (x : Int32) : Bool := decide (0 ≤ x) && decide (x < a 2 0)
/-! the relation between the class's memory and such a state -/
def RSc (C : bpC) (a : bpM) : Prop := C 0 0 3 = a 2 0 ∧ C 0 0 4 = a 11 0 ∧ C 0 0 5 = a 12 0 ∧ C 0 0 6 = a 13 0 ∧ C 0 0 7 = a 26 0 ∧ C 0 0 8 = a 27 0 ∧ C 0 0 9 = a 14 0 ∧ C 1 0 1 = a 0 0 ∧ ∀ j, j < pl a → C 2 0 j = a 1 j
def RPt (C : bpC) (a : bpM) (p : Nat) : Prop := C 5 p 1 = a 3 p ∧ C 5 p 2 = a 4 p ∧ C 5 p 3 = a 5 p ∧ C 5 p 4 = bI (decide (0 < a 6 p)) ∧ C 5 p 10 = a 10 p ∧ (0 < a 6 p → C 5 p 5 = a 6 p ∧ C 5 p 6 = a 7 p ∧ C 5 p 7 = a 8 p ∧ C 5 p 8 = a 9 p)
def RCh (C : bpC) (a : bpM) (p : Nat) : Prop := C 5 p 9 = choi a p
def RQu (C : bpC) (a : bpM) (p : Nat) : Prop := C 6 p 2 = a 17 p ∧ ∀ j, j < qm a p → C 7 p j = a 15 (24 * p + j) ∧ C 8 p j = a 16 (24 * p + j)
def RFl (C : bpC) (a : bpM) (f : Nat) : Prop := C 9 f 1 = a 20 f ∧ C 9 f 2 = a 18 f ∧ C 9 f 3 = a 19 f ∧ C 9 f 4 = a 22 f ∧ C 9 f 5 = a 23 f ∧ C 9 f 6 = a 24 f ∧ C 9 f 7 = a 25 f ∧ ∀ j, j < hm a f → C 10 f j = a 21 (8 * f + j)
/-- numbers that the reference keeps small, whatever is called -/
def sh (a : bpM) : Nat := (a 13 0).toNatClampNeg
def Bas (a : bpM) : Prop := a 2 0 = nI (np a) ∧ np a ≤ 6 ∧ a 13 0 = nI (sh a) ∧ sh a ≤ 9
def exN (P : Nat → Bool) : Nat → Bool
  | 0 => false
  | n + 1 => exN P n || P n
theorem exN_true {P : Nat → Bool} {i : Nat} (h : P i = true) : ∀ {n : Nat}, i < n → exN P n = true
  | 0, hn => absurd hn (Nat.not_lt_zero _)
  | n + 1, hn => by
    simp only [exN]
    rcases Nat.lt_or_ge i n with q | q
    · rw [exN_true h q]; rfl
    · have : i = n := by omega
      subst this
      rw [h, Bool.or_true]
theorem exN_succ {P : Nat → Bool} {n : Nat} (h : exN P n = false) (h2 : P n = false) : exN P (n + 1) = false := by simp [exN, h, h2]
theorem exN_cong {P Q : Nat → Bool} : ∀ {n : Nat}, (∀ k, k < n → P k = Q k) → exN P n = exN Q n
  | 0, _ => rfl
  | n + 1, h => by
    simp only [exN]
    rw [exN_cong (fun k hk => h k (Nat.lt_succ_of_lt hk)), h n (Nat.lt_succ_self n)]
theorem nI_inj {a b : Nat} (ha : a < 2 ^ 31) (hb : b < 2 ^ 31) (h : nI a = nI b) : a = b := (nI_eq ha hb).mp h
theorem ret_i {x y : Int32} (h : x = y) : some (Value.int x) = some (Value.int y) := by rw [h]
theorem bI_f {b : Bool} (h : b = false) : (0 : Int32) = bI b := by rw [h]; rfl
theorem bI_t {b : Bool} (h : b = true) : (1 : Int32) = bI b := by rw [h]; rfl
theorem i_n {n : Nat} (h : n < 2 ^ 31) : (nI n).toInt = (n : Int) := nI_toInt h
theorem i_m1 : (-1 : Int32).toInt = -1 := by decide
theorem i_0 : (0 : Int32).toInt = 0 := by decide
theorem i_1 : (1 : Int32).toInt = 1 := by decide
theorem i_2 : (2 : Int32).toInt = 2 := by decide
theorem i_3 : (3 : Int32).toInt = 3 := by decide
theorem i_4 : (4 : Int32).toInt = 4 := by decide
theorem i_5 : (5 : Int32).toInt = 5 := by decide
theorem i_6 : (6 : Int32).toInt = 6 := by decide
theorem i_7 : (7 : Int32).toInt = 7 := by decide
theorem i_8 : (8 : Int32).toInt = 8 := by decide
theorem i_9 : (9 : Int32).toInt = 9 := by decide
theorem i_10 : (10 : Int32).toInt = 10 := by decide
theorem i_11 : (11 : Int32).toInt = 11 := by decide
theorem i_12 : (12 : Int32).toInt = 12 := by decide
theorem i_17 : (17 : Int32).toInt = 17 := by decide
theorem i_20 : (20 : Int32).toInt = 20 := by decide
theorem i_24 : (24 : Int32).toInt = 24 := by decide
theorem i_32 : (32 : Int32).toInt = 32 := by decide
theorem i_44 : (44 : Int32).toInt = 44 := by decide
theorem i_48 : (48 : Int32).toInt = 48 := by decide
theorem i_50 : (50 : Int32).toInt = 50 := by decide
theorem i_51 : (51 : Int32).toInt = 51 := by decide
theorem i_52 : (52 : Int32).toInt = 52 := by decide
theorem i_57 : (57 : Int32).toInt = 57 := by decide
theorem i_58 : (58 : Int32).toInt = 58 := by decide
theorem i_100 : (100 : Int32).toInt = 100 := by decide
theorem i_126 : (126 : Int32).toInt = 126 := by decide
/-- the first place from i on, of n, where P fails -/
def fsN (P : Nat → Bool) (i : Nat) : Nat → Nat
  | 0 => i
  | n + 1 => if P i then fsN P (i + 1) n else i
theorem fsN_cong {P Q : Nat → Bool} : ∀ (n i : Nat), (∀ k, i ≤ k → k < i + n → P k = Q k) → fsN P i n = fsN Q i n
  | 0, _, _ => rfl
  | n + 1, i, h => by
    simp only [fsN]
    rw [h i (Nat.le_refl _) (by omega), fsN_cong n (i + 1) (fun k h1 h2 => h k (by omega) (by omega))]
theorem fsN_le (P : Nat → Bool) : ∀ (n i : Nat), fsN P i n ≤ i + n
  | 0, i => Nat.le_refl _
  | n + 1, i => by
    simp only [fsN]
    split
    · have := fsN_le P n (i + 1); omega
    · omega
/-- a letter that fits its place -/
def fitB (c : Int32) (j : Nat) : Bool := if j % 3 = 0 then decide (48 ≤ c) && decide (c < 52) else if j % 3 = 1 then decide (48 ≤ c) && decide (c ≤ 57) else decide (c = 44)
theorem rem_n {a : Nat} (d : Nat) (ha : a < 2 ^ 31) (h0 : 0 < d) (hd : d < 2 ^ 31) : nI a - nI a / nI d * nI d = nI (a % d) := pk_rem ha h0 hd
/-- a row moved up by one, so far -/
def shf (C : bpC) (p t : Nat) : bpC := fun k i j => if (k = 7 ∨ k = 8) ∧ i = p ∧ j < t then C k i (j + 1) else C k i j
theorem shf_0 (C : bpC) (p : Nat) : shf C p 0 = C := by
  funext k i j
  simp [shf]
theorem shf_step (C : bpC) (p t : Nat) : upC (upC (shf C p t) 7 p t (shf C p t 7 p (t + 1))) 8 p t (upC (shf C p t) 7 p t (shf C p t 7 p (t + 1)) 8 p (t + 1)) = shf C p (t + 1) := by
  funext k i j
  simp only [upC, shf]
  by_cases h8 : k = 8 ∧ i = p ∧ j = t
  · obtain ⟨rfl, rfl, rfl⟩ := h8
    simp
    intro h; omega
  · rw [if_neg h8]
    by_cases h7 : k = 7 ∧ i = p ∧ j = t
    · obtain ⟨rfl, rfl, rfl⟩ := h7
      simp
      intro h; omega
    · rw [if_neg h7]
      by_cases h : (k = 7 ∨ k = 8) ∧ i = p ∧ j < t
      · rw [if_pos h, if_pos ⟨h.1, h.2.1, by omega⟩]
      · rw [if_neg h, if_neg]
        rintro ⟨a, b, c⟩
        rcases Nat.lt_or_ge j t with q | q
        · exact h ⟨a, b, q⟩
        · have : j = t := by omega
          rcases a with a | a
          · exact h7 ⟨a, b, this⟩
          · exact h8 ⟨a, b, this⟩

theorem isP_of {a : bpM} {x : Int32} (hB : Bas a) (h : isP a x = true) : ∃ p, p < np a ∧ x = nI p := by
  simp only [isP, Bool.and_eq_true, decide_eq_true_eq] at h
  obtain ⟨h1, h2⟩ := h
  have h0 : ¬ x < 0 := by rw [i_lt, i_0]; rw [i_le, i_0] at h1; omega
  obtain ⟨j, hj, rfl⟩ := nI_of h0
  rw [hB.1] at h2
  exact ⟨j, (nI_ltI hj (by have := hB.2.1; omega)).mp h2, rfl⟩
theorem isP_n {a : bpM} {p : Nat} (hB : Bas a) (h : p < np a) : isP a (nI p) = true := by
  have := hB.2.1
  simp only [isP, Bool.and_eq_true, decide_eq_true_eq]
  exact ⟨nI_pos' (by omega), by rw [hB.1]; exact nI_lt h (by omega)⟩
theorem isP_m1 (a : bpM) : isP a (-1) = false := by
  simp only [isP]
  rfl
/-- class and state: all but what is chosen, queues, flows -/
def RB (C : bpC) (a : bpM) : Prop := RSc C a ∧ Bas a ∧ ∀ p, p < np a → RPt C a p
theorem leadN_ltn {a : bpM} {key : Int32} {n b : Nat} (h : leadN a key n = some b) : b < n := leadN_lt a key n b h
theorem alk_rel {C : bpC} {a : bpM} {p q : Nat} (hp : RPt C a p) (hq : RPt C a q) : (!decide (C 5 p 4 = 0) && (!decide (C 5 q 4 = 0) && (decide (C 5 p 1 = C 5 q 1) && (decide (C 5 p 5 = C 5 q 5) && decide (C 5 p 6 = C 5 q 6))))) = alk a p q := by
  obtain ⟨p1, p2, p3, p4, p5, p6⟩ := hp
  obtain ⟨q1, q2, q3, q4, q5, q6⟩ := hq
  by_cases hh : 0 < a 6 p
  · by_cases hg : 0 < a 6 q
    · obtain ⟨a1, a2, a3, a4⟩ := p6 hh
      obtain ⟨b1, b2, b3, b4⟩ := q6 hg
      rw [p4, q4, p1, q1, a1, b1, a2, b2]
      simp [alk, bI, hh, hg]
    · have : ¬ a 6 p = a 6 q := fun e => hg (e ▸ hh)
      rw [p4, q4]
      simp [alk, bI, hg, this]
  · rw [p4]
    simp [alk, bI, hh]
theorem ahd_rel {C : bpC} {a : bpM} {p q : Nat} (hp : RPt C a p) (hq : RPt C a q) (h6 : p < 6) (h7 : q < 6) : (decide (C 5 p 2 < C 5 q 2) || (decide (C 5 p 2 = C 5 q 2) && decide (nI p < nI q))) = ahd a p q := by
  rw [hp.2.1, hq.2.1]
  simp only [ahd]
  congr 2
  exact decide_eq_decide.mpr (nI_ltI (by omega) (by omega))
/-- a choice against a lead -/
def choL (a : bpM) (p : Nat) (l : Option Nat) : Int32 := match l with
  | none => 0
  | some l => if alk a p l then (if nI (ctN (fun q => alk a q l && ahd a q p) (np a)) < a 11 0 then 2 else 1) else 0
theorem choL_eq (a : bpM) (p : Nat) : choL a p (lead a (a 3 p)) = choi a p := by
  unfold choi place
  cases lead a (a 3 p) with
  | none => rfl
  | some l =>
    simp only [choL]
    cases alk a p l <;> rfl
theorem choi_heard {a : bpM} {p : Nat} (h : choi a p = 2) : 0 < a 6 p := by
  rw [← choL_eq] at h
  cases hl : lead a (a 3 p) with
  | none => rw [hl] at h; exact absurd (show (0 : Int32) = 2 from h) (by decide)
  | some l =>
    rw [hl] at h
    simp only [choL] at h
    by_cases hk : alk a p l = true
    · simp only [alk, Bool.and_eq_true, decide_eq_true_eq] at hk
      exact hk.1
    · rw [if_neg hk] at h
      exact absurd h (by decide)
theorem or_bit : ∀ i, i < 6 → ∀ b, b < 32 → b < 2 ^ i → nI b ||| ((1 : Int32) <<< (nI i &&& 31)) = nI (b + 2 ^ i) := by decide +kernel
theorem and_bit : ∀ i, i < 6 → ∀ b, b < 64 → ((nI b &&& ((1 : Int32) <<< (nI i &&& 31))) = 0 ↔ b.testBit i = false) := by decide +kernel
def pop6 (b : Nat) : Nat := ctN (fun j => b.testBit j) 6
/-- the bits of a predicate -/
def bitP (P : Nat → Bool) : Nat → Nat
  | 0 => 0
  | n + 1 => bitP P n + (if P n then 2 ^ n else 0)
theorem bitP_lt (P : Nat → Bool) : ∀ n, bitP P n < 2 ^ n
  | 0 => (show (0 : Nat) < 1 by decide)
  | n + 1 => by
    have := bitP_lt P n
    simp only [bitP, Nat.pow_succ]
    split <;> omega
theorem bitP_test (P : Nat → Bool) : ∀ n j, (bitP P n).testBit j = (decide (j < n) && P j)
  | 0, j => by simp [bitP]
  | n + 1, j => by
    simp only [bitP]
    have hl := bitP_lt P n
    have ih := bitP_test P n j
    by_cases hP : P n = true
    · rw [if_pos hP, Nat.add_comm]
      by_cases hj : j = n
      · subst hj
        rw [Nat.testBit_two_pow_add_eq, Nat.testBit_lt_two_pow hl]
        simp [hP]
      · rcases Nat.lt_or_ge j n with q | q
        · rw [Nat.testBit_two_pow_add_gt q, ih]
          simp [q, Nat.lt_succ_of_lt q]
        · have h1 : 2 ^ n + bitP P n < 2 ^ j := by
            have : 2 ^ (n + 1) ≤ 2 ^ j := Nat.pow_le_pow_right (by decide) (by omega)
            rw [Nat.pow_succ] at this
            omega
          rw [Nat.testBit_lt_two_pow h1]
          have : ¬ j < n + 1 := by omega
          simp [this]
    · rw [if_neg hP, Nat.add_zero, ih]
      by_cases hj : j = n
      · subst hj
        simp at hP
        simp [hP]
      · have : (j < n ↔ j < n + 1) := by omega
        simp [this]
theorem ctN_ext (P : Nat → Bool) (n : Nat) : ∀ d, ctN (fun j => decide (j < n) && P j) (n + d) = ctN P n
  | 0 => ctN_cong (fun k hk => by simp [show k < n by simpa using hk])
  | d + 1 => by
    have := ctN_ext P n d
    rw [← Nat.add_assoc]
    simp only [ctN]
    rw [this]
    have : ¬ n + d < n := by omega
    simp [this]
theorem pop6_bitP (P : Nat → Bool) {n : Nat} (h : n ≤ 6) : pop6 (bitP P n) = ctN P n := by
  unfold pop6
  rw [ctN_cong (Q := fun j => decide (j < n) && P j) (fun k _ => bitP_test P n k)]
  have := ctN_ext P n (6 - n)
  rwa [show n + (6 - n) = 6 by omega] at this
theorem bitN_P (a : bpM) (key : Int32) : ∀ n, bitN a key 4 4 n = bitP (car a key) n
  | 0 => rfl
  | n + 1 => by
    simp only [bitN, bitP]
    rw [bitN_P a key n]
    congr 1
    have : (a 3 n = key ∧ 4 ≤ stat a n ∧ stat a n ≤ 4) ↔ car a key n = true := by
      simp only [car, Bool.and_eq_true, decide_eq_true_eq, i_le, i_eq (stat a n) 4]
      constructor
      · rintro ⟨h1, h2, h3⟩; exact ⟨h1, by omega⟩
      · rintro ⟨h1, h2⟩; exact ⟨h1, by omega, by omega⟩
    by_cases h : car a key n = true
    · rw [if_pos h, if_pos (this.mpr h)]
    · rw [if_neg h, if_neg (fun q => h (this.mp q))]
theorem kth_mono {P : Nat → Bool} {t i p : Nat} (h : kth P t i = some p) : ∀ d, kth P t (i + d) = some p
  | 0 => h
  | d + 1 => by
    rw [← Nat.add_assoc]
    simp only [kth]
    rw [kth_mono h d]
theorem kth_lt {P : Nat → Bool} {t : Nat} : ∀ {n p : Nat}, kth P t n = some p → p < n
  | 0, p, h => by cases h
  | n + 1, p, h => by
    simp only [kth] at h
    cases hk : kth P t n with
    | some q =>
      rw [hk] at h
      cases h
      exact Nat.lt_succ_of_lt (kth_lt hk)
    | none =>
      rw [hk] at h
      simp only at h
      split at h
      · cases h; exact Nat.lt_succ_self _
      · cases h
theorem way_lt {a : bpM} {f p : Nat} (h : way a f = some p) : p < np a := by
  unfold way at h
  split at h
  · cases h
  · exact kth_lt h
theorem oI_n (p : Nat) : oI (some p) = nI p := rfl
theorem nI_m1 {p : Nat} (h : p < 2 ^ 31) : ¬ nI p = -1 := by
  intro e
  have := congrArg Int32.toInt e
  rw [i_n h, i_m1] at this
  omega
theorem ctN_t {P : Nat → Bool} {n : Nat} (h : P n = true) : ctN P (n + 1) = ctN P n + 1 := by simp [ctN, h]
theorem ctN_f {P : Nat → Bool} {n : Nat} (h : P n = false) : ctN P (n + 1) = ctN P n := by simp [ctN, h]
theorem bitN_t {a : bpM} {key lo hi : Int32} {n : Nat} (h : a 3 n = key ∧ lo ≤ stat a n ∧ stat a n ≤ hi) : bitN a key lo hi (n + 1) = bitN a key lo hi n + 2 ^ n := by simp only [bitN]; rw [if_pos h]
theorem bitN_f {a : bpM} {key lo hi : Int32} {n : Nat} (h : ¬ (a 3 n = key ∧ lo ≤ stat a n ∧ stat a n ≤ hi)) : bitN a key lo hi (n + 1) = bitN a key lo hi n := by simp only [bitN]; rw [if_neg h]; rfl
end
section
set_option maxRecDepth 100000 in
set_option maxHeartbeats 4000000 in
theorem c_qhas {G : bpG} {C : bpC} {M : bpM} {hl : Int64} {p : Nat} {x : Int32} (hp : p < 6) : Ct G yX3_has cX3_has 2 (some .boolean) rmX3_has [.ref (G.1 6 p), .int x] C M hl (qI C M hl (bI (decide (0 ≤ x) && decide (x < C 6 p 2)))) := by
  refine ct_of [some (.ref (G.1 6 p)), some (.int x)] (by decide +kernel) rfl rfl (Nat.le_of_ble_eq_true rfl) ?_
  intro κ X Z
  refine r_iload_n X dX3_has_0 rfl ?_
  refine r_iflt 16 X dX3_has_1 (by decide) (fun c1 => ?_) (fun c1 => ?_)
  · show Rn G κ 16 _ _ _ _ _
    refine r_iconst (0) X dX3_has_16 (by decide) ?_
    refine r_zret X Z dX3_has_17 (by decide) ?_
    refine ⟨rfl, rfl, rfl, ret_i ?_⟩
    simp only [i_lt, i_le, i_eq, i_m1, i_0, i_1, i_2, i_3, i_4, i_5, i_6, i_7, i_8, i_9, i_10, i_11, i_12, i_17, i_20, i_24, i_32, i_44, i_48, i_50, i_51, i_52, i_57, i_58, i_100, i_126] at c1
    first | refine bI_f ?_ | refine bI_t ?_
    simp only [Bool.and_eq_true, Bool.or_eq_true, decide_eq_true_eq, Bool.and_eq_false_iff, Bool.or_eq_false_iff, decide_eq_false_iff_not, Bool.not_eq_true', Bool.not_eq_false', i_lt, i_le, i_eq, i_m1, i_0, i_1, i_2, i_3, i_4, i_5, i_6, i_7, i_8, i_9, i_10, i_11, i_12, i_17, i_20, i_24, i_32, i_44, i_48, i_50, i_51, i_52, i_57, i_58, i_100, i_126]
    omega
  · show Rn G κ 4 _ _ _ _ _
    refine r_iload_n X dX3_has_4 rfl ?_
    refine r_aload_n X dX3_has_5 rfl ?_
    refine r_gi6 2 X (by assumption) wfl_X3_18 dX3_has_6 (by decide) rfl ?_
    refine r_icmpge 16 X dX3_has_9 (by decide) (fun c9 => ?_) (fun c9 => ?_)
    · show Rn G κ 16 _ _ _ _ _
      refine r_iconst (0) X dX3_has_16 (by decide) ?_
      refine r_zret X Z dX3_has_17 (by decide) ?_
      refine ⟨rfl, rfl, rfl, ret_i ?_⟩
      simp only [i_lt, i_le, i_eq, i_m1, i_0, i_1, i_2, i_3, i_4, i_5, i_6, i_7, i_8, i_9, i_10, i_11, i_12, i_17, i_20, i_24, i_32, i_44, i_48, i_50, i_51, i_52, i_57, i_58, i_100, i_126] at c1 c9
      first | refine bI_f ?_ | refine bI_t ?_
      simp only [Bool.and_eq_true, Bool.or_eq_true, decide_eq_true_eq, Bool.and_eq_false_iff, Bool.or_eq_false_iff, decide_eq_false_iff_not, Bool.not_eq_true', Bool.not_eq_false', i_lt, i_le, i_eq, i_m1, i_0, i_1, i_2, i_3, i_4, i_5, i_6, i_7, i_8, i_9, i_10, i_11, i_12, i_17, i_20, i_24, i_32, i_44, i_48, i_50, i_51, i_52, i_57, i_58, i_100, i_126]
      omega
    · show Rn G κ 12 _ _ _ _ _
      refine r_iconst (1) X dX3_has_12 (by decide) ?_
      refine r_goto 17 X dX3_has_13 (by decide) ?_
      refine r_zret X Z dX3_has_17 (by decide) ?_
      refine ⟨rfl, rfl, rfl, ret_i ?_⟩
      simp only [i_lt, i_le, i_eq, i_m1, i_0, i_1, i_2, i_3, i_4, i_5, i_6, i_7, i_8, i_9, i_10, i_11, i_12, i_17, i_20, i_24, i_32, i_44, i_48, i_50, i_51, i_52, i_57, i_58, i_100, i_126] at c1 c9
      first | refine bI_f ?_ | refine bI_t ?_
      simp only [Bool.and_eq_true, Bool.or_eq_true, decide_eq_true_eq, Bool.and_eq_false_iff, Bool.or_eq_false_iff, decide_eq_false_iff_not, Bool.not_eq_true', Bool.not_eq_false', i_lt, i_le, i_eq, i_m1, i_0, i_1, i_2, i_3, i_4, i_5, i_6, i_7, i_8, i_9, i_10, i_11, i_12, i_17, i_20, i_24, i_32, i_44, i_48, i_50, i_51, i_52, i_57, i_58, i_100, i_126]
      omega
set_option maxRecDepth 100000 in
set_option maxHeartbeats 4000000 in
theorem c_flowAt {G : bpG} {C : bpC} {M : bpM} {hl : Int64} {p j : Nat} (hp : p < 6) (hj : j < 20) (h : nI j < C 6 p 2) : Ct G yX3_flowAt cX3_flowAt 2 (some .int) rmX3_flowAt [.ref (G.1 6 p), .int (nI j)] C M hl (qI C M hl (C 7 p j)) := by
  refine ct_of [some (.ref (G.1 6 p)), some (.int (nI j))] (by decide +kernel) rfl rfl (Nat.le_of_ble_eq_true rfl) ?_
  intro κ X Z
  refine r_aload_n X dX3_flowAt_0 rfl ?_
  refine r_iload_n X dX3_flowAt_1 rfl ?_
  refine r_cv1_I X mdX3_has wml_X3_26 dX3_flowAt_2 ⟨rfl, rfl, Nat.le_of_ble_eq_true rfl, Nat.le_of_ble_eq_true rfl⟩ (by assumption) rfl rfl (Nat.le_of_ble_eq_true rfl) rfl (zroom Z) (c_qhas hp) ?_
  show Rn G κ 5 _ _ _ _ _
  refine r_ifeq 17 X dX3_flowAt_5 (by decide) (fun c5 => absurd c5 (by simp [bI, h, nI_pos' (show j < 2 ^ 31 by omega)])) (fun c5 => ?_)
  show Rn G κ 8 _ _ _ _ _
  refine r_aload_n X dX3_flowAt_8 rfl ?_
  refine r_gr6_0 X (by assumption) wfl_X3_11 dX3_flowAt_9 ?_
  refine r_iload_n X dX3_flowAt_12 rfl ?_
  show Rn G κ 13 _ _ _ _ _
  refine r_iaC _ X rfl (by assumption) (by assumption) dX3_flowAt_13 (by decide) rfl rfl rfl ?_
  refine r_goto 18 X dX3_flowAt_14 (by decide) ?_
  refine r_iret X Z dX3_flowAt_18 ?_
  exact ⟨rfl, rfl, rfl, rfl⟩
set_option maxRecDepth 100000 in
set_option maxHeartbeats 4000000 in
theorem c_numberAt {G : bpG} {C : bpC} {M : bpM} {hl : Int64} {p j : Nat} (hp : p < 6) (hj : j < 20) (h : nI j < C 6 p 2) : Ct G yX3_numberAt cX3_numberAt 2 (some .int) rmX3_numberAt [.ref (G.1 6 p), .int (nI j)] C M hl (qI C M hl (C 8 p j)) := by
  refine ct_of [some (.ref (G.1 6 p)), some (.int (nI j))] (by decide +kernel) rfl rfl (Nat.le_of_ble_eq_true rfl) ?_
  intro κ X Z
  refine r_aload_n X dX3_numberAt_0 rfl ?_
  refine r_iload_n X dX3_numberAt_1 rfl ?_
  refine r_cv1_I X mdX3_has wml_X3_26 dX3_numberAt_2 ⟨rfl, rfl, Nat.le_of_ble_eq_true rfl, Nat.le_of_ble_eq_true rfl⟩ (by assumption) rfl rfl (Nat.le_of_ble_eq_true rfl) rfl (zroom Z) (c_qhas hp) ?_
  show Rn G κ 5 _ _ _ _ _
  refine r_ifeq 17 X dX3_numberAt_5 (by decide) (fun c5 => absurd c5 (by simp [bI, h, nI_pos' (show j < 2 ^ 31 by omega)])) (fun c5 => ?_)
  show Rn G κ 8 _ _ _ _ _
  refine r_aload_n X dX3_numberAt_8 rfl ?_
  refine r_gr6_1 X (by assumption) wfl_X3_15 dX3_numberAt_9 ?_
  refine r_iload_n X dX3_numberAt_12 rfl ?_
  show Rn G κ 13 _ _ _ _ _
  refine r_iaC _ X rfl (by assumption) (by assumption) dX3_numberAt_13 (by decide) rfl rfl rfl ?_
  refine r_goto 18 X dX3_numberAt_14 (by decide) ?_
  refine r_iret X Z dX3_numberAt_18 ?_
  exact ⟨rfl, rfl, rfl, rfl⟩
set_option maxRecDepth 100000 in
set_option maxHeartbeats 4000000 in
theorem c_isMarker {G : bpG} {C : bpC} {M : bpM} {hl : Int64} {p j : Nat} (hp : p < 6) (hj : j < 20) (h : nI j < C 6 p 2) : Ct G yX3_isMarker cX3_isMarker 2 (some .boolean) rmX3_isMarker [.ref (G.1 6 p), .int (nI j)] C M hl (qI C M hl (bI (decide (C 8 p j = 0)))) := by
  refine ct_of [some (.ref (G.1 6 p)), some (.int (nI j))] (by decide +kernel) rfl rfl (Nat.le_of_ble_eq_true rfl) ?_
  intro κ X Z
  refine r_aload_n X dX3_isMarker_0 rfl ?_
  refine r_iload_n X dX3_isMarker_1 rfl ?_
  refine r_cv1_I X mdX3_has wml_X3_26 dX3_isMarker_2 ⟨rfl, rfl, Nat.le_of_ble_eq_true rfl, Nat.le_of_ble_eq_true rfl⟩ (by assumption) rfl rfl (Nat.le_of_ble_eq_true rfl) rfl (zroom Z) (c_qhas hp) ?_
  show Rn G κ 5 _ _ _ _ _
  refine r_ifeq 21 X dX3_isMarker_5 (by decide) (fun c5 => absurd c5 (by simp [bI, h, nI_pos' (show j < 2 ^ 31 by omega)])) (fun c5 => ?_)
  show Rn G κ 8 _ _ _ _ _
  refine r_aload_n X dX3_isMarker_8 rfl ?_
  refine r_gr6_1 X (by assumption) wfl_X3_15 dX3_isMarker_9 ?_
  refine r_iload_n X dX3_isMarker_12 rfl ?_
  show Rn G κ 13 _ _ _ _ _
  refine r_iaC _ X rfl (by assumption) (by assumption) dX3_isMarker_13 (by decide) rfl rfl rfl ?_
  refine r_ifne 21 X dX3_isMarker_14 (by decide) (fun c14 => ?_) (fun c14 => ?_)
  · show Rn G κ 21 _ _ _ _ _
    refine r_iconst (0) X dX3_isMarker_21 (by decide) ?_
    refine r_zret X Z dX3_isMarker_22 (by decide) ?_
    refine ⟨rfl, rfl, rfl, ret_i ?_⟩
    simp [bI, c14]
  · show Rn G κ 17 _ _ _ _ _
    refine r_iconst (1) X dX3_isMarker_17 (by decide) ?_
    refine r_goto 22 X dX3_isMarker_18 (by decide) ?_
    refine r_zret X Z dX3_isMarker_22 (by decide) ?_
    refine ⟨rfl, rfl, rfl, ret_i ?_⟩
    simp [bI, c14]
set_option maxRecDepth 100000 in
set_option maxHeartbeats 4000000 in
theorem c_append {G : bpG} {C : bpC} {M : bpM} {hl : Int64} {p m : Nat} {f n : Int32} (hp : p < 6) (hm : m < 20) (h : C 6 p 2 = nI m) : Ct G yX3_append cX3_append 3 none rmX3_append [.ref (G.1 6 p), .int f, .int n] C M hl (qC M hl (fun C' => C' = upC (upC (upC C 7 p m f) 8 p m n) 6 p 2 (nI (m + 1)))) := by
  refine ct_of [some (.ref (G.1 6 p)), some (.int f), some (.int n)] (by decide +kernel) rfl rfl (Nat.le_of_ble_eq_true rfl) ?_
  intro κ X Z
  refine r_aload_n X dX3_append_0 rfl ?_
  refine r_gi6 2 X (by assumption) wfl_X3_18 dX3_append_1 (by decide) rfl ?_
  refine r_bipush (20) X dX3_append_4 (by decide) ?_
  refine r_icmpge 39 X dX3_append_6 (by decide) (fun c6 => absurd c6 (by rw [h]; simp only [i_lt, i_le, i_eq, i_m1, i_0, i_1, i_2, i_3, i_4, i_5, i_6, i_7, i_8, i_9, i_10, i_11, i_12, i_17, i_20, i_24, i_32, i_44, i_48, i_50, i_51, i_52, i_57, i_58, i_100, i_126, i_n (show m < 2 ^ 31 by omega)]; omega)) (fun c6 => ?_)
  show Rn G κ 9 _ _ _ _ _
  refine r_aload_n X dX3_append_9 rfl ?_
  refine r_gr6_0 X (by assumption) wfl_X3_11 dX3_append_10 ?_
  refine r_aload_n X dX3_append_13 rfl ?_
  show Rn G κ 14 _ _ _ _ _
  refine r_gi6 2 X (by assumption) wfl_X3_18 dX3_append_14 (by decide) rfl ?_
  refine r_iload_n X dX3_append_17 rfl ?_
  refine r_isC _ X h hm (by assumption) dX3_append_18 (by decide) rfl rfl rfl ?_
  refine r_aload_n X dX3_append_19 rfl ?_
  refine r_gr6_1 X (by assumption) wfl_X3_15 dX3_append_20 ?_
  refine r_aload_n X dX3_append_23 rfl ?_
  refine r_gi6 2 X (by assumption) wfl_X3_18 dX3_append_24 (by decide) rfl ?_
  refine r_iload_n X dX3_append_27 rfl ?_
  show Rn G κ 28 _ _ _ _ _
  refine r_isC _ X (by rw [upC_ne _ _ _ _ _ (by simp)]; exact h) hm (by assumption) dX3_append_28 (by decide) rfl rfl rfl ?_
  refine r_aload_n X dX3_append_29 rfl ?_
  refine r_dup X dX3_append_30 rfl ?_
  refine r_gi6 2 X (by assumption) wfl_X3_18 dX3_append_31 (by decide) rfl ?_
  refine r_iconst (1) X dX3_append_34 (by decide) ?_
  refine r_iadd X dX3_append_35 ?_
  refine r_pi6 2 X (by assumption) wfl_X3_18 dX3_append_36 (by decide) rfl rfl (by decide +kernel) ?_
  refine r_vret X Z dX3_append_39 ?_
  refine ⟨rfl, rfl, rfl, ?_⟩
  congr 1
  rw [upC_ne _ _ _ _ _ (by simp), upC_ne _ _ _ _ _ (by simp), h]
  exact nI_1 m
set_option maxRecDepth 100000 in
set_option maxHeartbeats 4000000 in
theorem c_appendMarker {G : bpG} {C : bpC} {M : bpM} {hl : Int64} {p m : Nat} {f : Int32} (hp : p < 6) (hm : m < 20) (h : C 6 p 2 = nI m) : Ct G yX3_appendMarker cX3_appendMarker 2 none rmX3_appendMarker [.ref (G.1 6 p), .int f] C M hl (qC M hl (fun C' => C' = upC (upC (upC C 7 p m f) 8 p m 0) 6 p 2 (nI (m + 1)))) := by
  refine ct_of [some (.ref (G.1 6 p)), some (.int f)] (by decide +kernel) rfl rfl (Nat.le_of_ble_eq_true rfl) ?_
  intro κ X Z
  refine r_aload_n X dX3_appendMarker_0 rfl ?_
  refine r_iload_n X dX3_appendMarker_1 rfl ?_
  refine r_iconst (0) X dX3_appendMarker_2 (by decide) ?_
  refine r_cv2_C X mdX3_append wml_X3_22 dX3_appendMarker_3 ⟨rfl, rfl, Nat.le_of_ble_eq_true rfl, Nat.le_of_ble_eq_true rfl⟩ (by assumption) rfl rfl (Nat.le_of_ble_eq_true rfl) rfl (zroom Z) (c_append hp hm h) (fun C2 e2 => ?_)
  show Rn G κ 6 _ _ _ _ _
  refine r_vret X Z dX3_appendMarker_6 ?_
  exact ⟨rfl, rfl, rfl, e2⟩
set_option maxRecDepth 100000 in
set_option maxHeartbeats 4000000 in
theorem c_hasLetterOf {G : bpG} {C : bpC} {M : bpM} {hl : Int64} {p m : Nat} {f : Int32} (hp : p < 6) (hm : m ≤ 20) (h : C 6 p 2 = nI m) : Ct G yX3_hasLetterOf cX3_hasLetterOf 3 (some .boolean) rmX3_hasLetterOf [.ref (G.1 6 p), .int f] C M hl (qI C M hl (bI (exN (fun j => decide (C 7 p j = f) && !decide (C 8 p j = 0)) m))) := by
  refine ct_of [some (.ref (G.1 6 p)), some (.int f), none] (by decide +kernel) rfl rfl (Nat.le_of_ble_eq_true rfl) ?_
  intro κ X Z
  have loop : ∀ n i : Nat, i + n = m → exN (fun j => decide (C 7 p j = f) && !decide (C 8 p j = 0)) i = false → Rn G κ 2 [some (.ref (G.1 6 p)), some (.int f), some (.int (nI i))] [] C M hl := by
    intro n
    induction n with
    | zero =>
      intro i hi he
      have hi : i = m := by omega
      subst hi
      refine r_iload_n X dX3_hasLetterOf_2 rfl ?_
      refine r_aload_n X dX3_hasLetterOf_3 rfl ?_
      refine r_gi6 2 X (by assumption) wfl_X3_18 dX3_hasLetterOf_4 (by decide) rfl ?_
      refine r_icmpge 37 X dX3_hasLetterOf_7 (by decide) (fun c7 => ?_) (fun c7 => absurd (by rw [h]; exact Int32.le_refl _) c7)
      show Rn G κ 37 _ _ _ _ _
      refine r_iconst (0) X dX3_hasLetterOf_37 (by decide) ?_
      refine r_zret X Z dX3_hasLetterOf_38 (by decide) ?_
      refine ⟨rfl, rfl, rfl, ret_i (bI_f he)⟩
    | succ n ih =>
      intro i hi he
      have hj : i < 20 := by omega
      refine r_iload_n X dX3_hasLetterOf_2 rfl ?_
      refine r_aload_n X dX3_hasLetterOf_3 rfl ?_
      refine r_gi6 2 X (by assumption) wfl_X3_18 dX3_hasLetterOf_4 (by decide) rfl ?_
      refine r_icmpge 37 X dX3_hasLetterOf_7 (by decide) (fun c7 => absurd c7 (by rw [h]; simp only [i_lt, i_le, i_eq, i_m1, i_0, i_1, i_2, i_3, i_4, i_5, i_6, i_7, i_8, i_9, i_10, i_11, i_12, i_17, i_20, i_24, i_32, i_44, i_48, i_50, i_51, i_52, i_57, i_58, i_100, i_126, i_n (show m < 2 ^ 31 by omega), i_n (show i < 2 ^ 31 by omega)]; omega)) (fun c7 => ?_)
      show Rn G κ 10 _ _ _ _ _
      refine r_aload_n X dX3_hasLetterOf_10 rfl ?_
      refine r_gr6_0 X (by assumption) wfl_X3_11 dX3_hasLetterOf_11 ?_
      refine r_iload_n X dX3_hasLetterOf_14 rfl ?_
      show Rn G κ 15 _ _ _ _ _
      refine r_iaC _ X rfl (by assumption) (by assumption) dX3_hasLetterOf_15 (by decide) rfl rfl rfl ?_
      refine r_iload_n X dX3_hasLetterOf_16 rfl ?_
      refine r_icmpne 31 X dX3_hasLetterOf_17 (by decide) (fun c17 => ?_) (fun c17 => ?_)
      · show Rn G κ 31 _ _ _ _ _
        refine r_iinc_2 (nI (i + 1)) X dX3_hasLetterOf_31 (nI_1 i) rfl ?_
        refine r_goto 2 X dX3_hasLetterOf_34 (by decide) ?_
        refine ih (i + 1) (by omega) (exN_succ he ?_)
        simp [*]
      · show Rn G κ 20 _ _ _ _ _
        refine r_aload_n X dX3_hasLetterOf_20 rfl ?_
        refine r_gr6_1 X (by assumption) wfl_X3_15 dX3_hasLetterOf_21 ?_
        refine r_iload_n X dX3_hasLetterOf_24 rfl ?_
        refine r_iaC _ X rfl (by assumption) (by assumption) dX3_hasLetterOf_25 (by decide) rfl rfl rfl ?_
        refine r_ifeq 31 X dX3_hasLetterOf_26 (by decide) (fun c26 => ?_) (fun c26 => ?_)
        · show Rn G κ 31 _ _ _ _ _
          refine r_iinc_2 (nI (i + 1)) X dX3_hasLetterOf_31 (nI_1 i) rfl ?_
          refine r_goto 2 X dX3_hasLetterOf_34 (by decide) ?_
          refine ih (i + 1) (by omega) (exN_succ he ?_)
          simp [*]
        · show Rn G κ 29 _ _ _ _ _
          refine r_iconst (1) X dX3_hasLetterOf_29 (by decide) ?_
          refine r_zret X Z dX3_hasLetterOf_30 (by decide) ?_
          refine ⟨rfl, rfl, rfl, ret_i (bI_t (exN_true (i := i) ?_ (by omega)))⟩
          simp [*]
  refine r_iconst (0) X dX3_hasLetterOf_0 (by decide) ?_
  refine r_istore_2 X dX3_hasLetterOf_1 rfl ?_
  exact loop m 0 (by omega) rfl
set_option maxRecDepth 100000 in
set_option maxHeartbeats 4000000 in
theorem c_removeFirst {G : bpG} {C : bpC} {M : bpM} {hl : Int64} {p m : Nat} (hp : p < 6) (hm : m < 20) (h : C 6 p 2 = nI (m + 1)) : Ct G yX3_removeFirst cX3_removeFirst 2 none rmX3_removeFirst [.ref (G.1 6 p)] C M hl (qC M hl (fun C' => C' = upC (shf C p m) 6 p 2 (nI m))) := by
  refine ct_of [some (.ref (G.1 6 p)), none] (by decide +kernel) rfl rfl (Nat.le_of_ble_eq_true rfl) ?_
  intro κ X Z
  have loop : ∀ n i : Nat, i + n = m → Rn G κ 2 [some (.ref (G.1 6 p)), some (.int (nI (i + 1)))] [] (shf C p i) M hl := by
    intro n
    induction n with
    | zero =>
      intro i hi
      have hi : i = m := by omega
      subst hi
      refine r_iload_n X dX3_removeFirst_2 rfl ?_
      refine r_aload_n X dX3_removeFirst_3 rfl ?_
      refine r_gi6 2 X (by assumption) wfl_X3_18 dX3_removeFirst_4 (by decide) rfl ?_
      refine r_icmpge 44 X dX3_removeFirst_7 (by decide) (fun c7 => ?_) (fun c7 => absurd (by rw [(show shf C p i 6 p 2 = nI (i + 1) by simp only [shf]; rw [if_neg (by simp)]; exact h)]; exact Int32.le_refl _) c7)
      show Rn G κ 44 _ _ _ _ _
      refine r_aload_n X dX3_removeFirst_44 rfl ?_
      refine r_gi6 2 X (by assumption) wfl_X3_18 dX3_removeFirst_45 (by decide) rfl ?_
      refine r_ifle 61 X dX3_removeFirst_48 (by decide) (fun c48 => absurd c48 (by rw [(show shf C p i 6 p 2 = nI (i + 1) by simp only [shf]; rw [if_neg (by simp)]; exact h)]; exact nI_nle (by omega) (by omega))) (fun c48 => ?_)
      show Rn G κ 51 _ _ _ _ _
      show Rn G κ 51 _ _ _ _ _
      refine r_aload_n X dX3_removeFirst_51 rfl ?_
      refine r_dup X dX3_removeFirst_52 rfl ?_
      refine r_gi6 2 X (by assumption) wfl_X3_18 dX3_removeFirst_53 (by decide) rfl ?_
      refine r_iconst (1) X dX3_removeFirst_56 (by decide) ?_
      refine r_isub X dX3_removeFirst_57 ?_
      refine r_pi6 2 X (by assumption) wfl_X3_18 dX3_removeFirst_58 (by decide) rfl rfl (by decide +kernel) ?_
      refine r_vret X Z dX3_removeFirst_61 ?_
      refine ⟨rfl, rfl, rfl, ?_⟩
      rw [(show shf C p i 6 p 2 = nI (i + 1) by simp only [shf]; rw [if_neg (by simp)]; exact h), nI_pred]
    | succ n ih =>
      intro i hi
      have hj : i < 20 := by omega
      have hj1 : i + 1 < 20 := by omega
      refine r_iload_n X dX3_removeFirst_2 rfl ?_
      refine r_aload_n X dX3_removeFirst_3 rfl ?_
      refine r_gi6 2 X (by assumption) wfl_X3_18 dX3_removeFirst_4 (by decide) rfl ?_
      refine r_icmpge 44 X dX3_removeFirst_7 (by decide) (fun c7 => absurd c7 (by rw [(show shf C p i 6 p 2 = nI (m + 1) by simp only [shf]; rw [if_neg (by simp)]; exact h)]; simp only [i_lt, i_le, i_eq, i_m1, i_0, i_1, i_2, i_3, i_4, i_5, i_6, i_7, i_8, i_9, i_10, i_11, i_12, i_17, i_20, i_24, i_32, i_44, i_48, i_50, i_51, i_52, i_57, i_58, i_100, i_126, i_n (show m + 1 < 2 ^ 31 by omega), i_n (show i + 1 < 2 ^ 31 by omega)]; omega)) (fun c7 => ?_)
      show Rn G κ 10 _ _ _ _ _
      refine r_aload_n X dX3_removeFirst_10 rfl ?_
      refine r_gr6_0 X (by assumption) wfl_X3_11 dX3_removeFirst_11 ?_
      refine r_iload_n X dX3_removeFirst_14 rfl ?_
      show Rn G κ 15 _ _ _ _ _
      refine r_iconst (1) X dX3_removeFirst_15 (by decide) ?_
      refine r_isub X dX3_removeFirst_16 ?_
      refine r_aload_n X dX3_removeFirst_17 rfl ?_
      refine r_gr6_0 X (by assumption) wfl_X3_11 dX3_removeFirst_18 ?_
      refine r_iload_n X dX3_removeFirst_21 rfl ?_
      refine r_iaC (i + 1) X rfl (by assumption) (by assumption) dX3_removeFirst_22 (by decide) rfl rfl rfl ?_
      refine r_isC i X (nI_pred i) (by assumption) (by assumption) dX3_removeFirst_23 (by decide) rfl rfl rfl ?_
      refine r_aload_n X dX3_removeFirst_24 rfl ?_
      show Rn G κ 25 _ _ _ _ _
      refine r_gr6_1 X (by assumption) wfl_X3_15 dX3_removeFirst_25 ?_
      refine r_iload_n X dX3_removeFirst_28 rfl ?_
      refine r_iconst (1) X dX3_removeFirst_29 (by decide) ?_
      refine r_isub X dX3_removeFirst_30 ?_
      refine r_aload_n X dX3_removeFirst_31 rfl ?_
      refine r_gr6_1 X (by assumption) wfl_X3_15 dX3_removeFirst_32 ?_
      refine r_iload_n X dX3_removeFirst_35 rfl ?_
      refine r_iaC (i + 1) X rfl (by assumption) (by assumption) dX3_removeFirst_36 (by decide) rfl rfl rfl ?_
      show Rn G κ 37 _ _ _ _ _
      refine r_isC i X (nI_pred i) (by assumption) (by assumption) dX3_removeFirst_37 (by decide) rfl rfl rfl ?_
      refine r_iinc_1 (nI (i + 1 + 1)) X dX3_removeFirst_38 (nI_1 (i + 1)) rfl ?_
      refine r_goto 2 X dX3_removeFirst_41 (by decide) ?_
      rw [shf_step]
      exact ih (i + 1) (by omega)
  refine r_iconst (1) X dX3_removeFirst_0 (by decide) ?_
  refine r_istore_1 X dX3_removeFirst_1 rfl ?_
  have h0 := loop m 0 (by omega)
  rw [shf_0] at h0
  exact h0
set_option maxRecDepth 100000 in
set_option maxHeartbeats 4000000 in
theorem c_frestart {G : bpG} {C : bpC} {M : bpM} {hl : Int64} {f : Nat} (hf : f < 12) : Ct G yX0_restart cX0_restart 1 none rmX0_restart [.ref (G.1 9 f)] C M hl (qC M hl (fun C' => C' = (upC (upC (upC (upC (upC (upC (upC C 9 f 1 0) 9 f 2 (-1)) 9 f 3 0) 9 f 4 0) 9 f 5 0) 9 f 6 0) 9 f 7 0))) := by
  refine ct_of [some (.ref (G.1 9 f))] (by decide +kernel) rfl rfl (Nat.le_of_ble_eq_true rfl) ?_
  intro κ X Z
  refine r_aload_n X dX0_restart_0 rfl ?_
  refine r_iconst (0) X dX0_restart_1 (by decide) ?_
  refine r_pi9 1 X (by assumption) wfl_X0_15 dX0_restart_2 (by decide) rfl rfl (by decide +kernel) ?_
  refine r_aload_n X dX0_restart_5 rfl ?_
  refine r_iconst (-1) X dX0_restart_6 (by decide) ?_
  refine r_pi9 2 X (by assumption) wfl_X0_19 dX0_restart_7 (by decide) rfl rfl (by decide +kernel) ?_
  refine r_aload_n X dX0_restart_10 rfl ?_
  show Rn G κ 11 _ _ _ _ _
  refine r_iconst (0) X dX0_restart_11 (by decide) ?_
  refine r_pz9 3 X (by assumption) (by decide) wfl_X0_22 dX0_restart_12 (by decide) rfl rfl (by decide +kernel) ?_
  refine r_aload_n X dX0_restart_15 rfl ?_
  refine r_iconst (0) X dX0_restart_16 (by decide) ?_
  refine r_pi9 4 X (by assumption) wfl_X0_26 dX0_restart_17 (by decide) rfl rfl (by decide +kernel) ?_
  refine r_aload_n X dX0_restart_20 rfl ?_
  refine r_iconst (0) X dX0_restart_21 (by decide) ?_
  refine r_pi9 5 X (by assumption) wfl_X0_29 dX0_restart_22 (by decide) rfl rfl (by decide +kernel) ?_
  show Rn G κ 25 _ _ _ _ _
  refine r_aload_n X dX0_restart_25 rfl ?_
  refine r_iconst (0) X dX0_restart_26 (by decide) ?_
  refine r_pi9 6 X (by assumption) wfl_X0_32 dX0_restart_27 (by decide) rfl rfl (by decide +kernel) ?_
  refine r_aload_n X dX0_restart_30 rfl ?_
  refine r_iconst (0) X dX0_restart_31 (by decide) ?_
  refine r_pi9 7 X (by assumption) wfl_X0_35 dX0_restart_32 (by decide) rfl rfl (by decide +kernel) ?_
  refine r_vret X Z dX0_restart_35 ?_
  exact ⟨rfl, rfl, rfl, rfl⟩
set_option maxRecDepth 100000 in
set_option maxHeartbeats 4000000 in
theorem c_hold_full {G : bpG} {C : bpC} {M : bpM} {hl : Int64} {f : Nat} {n : Int32} (hf : f < 12) (h : C 9 f 1 = 8) : Ct G yX0_hold cX0_hold 2 (some .boolean) rmX0_hold [.ref (G.1 9 f), .int n] C M hl (qCi M hl (fun C' r => C' = upC C 9 f 6 (C 9 f 6 + 1) ∧ r = 0)) := by
  refine ct_of [some (.ref (G.1 9 f)), some (.int n)] (by decide +kernel) rfl rfl (Nat.le_of_ble_eq_true rfl) ?_
  intro κ X Z
  refine r_aload_n X dX0_hold_0 rfl ?_
  refine r_gi9 1 X (by assumption) wfl_X0_15 dX0_hold_1 (by decide) rfl ?_
  refine r_bipush (8) X dX0_hold_4 (by decide) ?_
  refine r_icmplt 21 X dX0_hold_6 (by decide) (fun c6 => absurd c6 (by rw [h]; decide)) (fun c6 => ?_)
  show Rn G κ 9 _ _ _ _ _
  refine r_aload_n X dX0_hold_9 rfl ?_
  refine r_dup X dX0_hold_10 rfl ?_
  refine r_gi9 6 X (by assumption) wfl_X0_32 dX0_hold_11 (by decide) rfl ?_
  show Rn G κ 14 _ _ _ _ _
  refine r_iconst (1) X dX0_hold_14 (by decide) ?_
  refine r_iadd X dX0_hold_15 ?_
  refine r_pi9 6 X (by assumption) wfl_X0_32 dX0_hold_16 (by decide) rfl rfl (by decide +kernel) ?_
  refine r_iconst (0) X dX0_hold_19 (by decide) ?_
  refine r_zret X Z dX0_hold_20 (by decide) ?_
  exact ⟨rfl, rfl, _, rfl, rfl, rfl⟩
set_option maxRecDepth 100000 in
set_option maxHeartbeats 4000000 in
theorem c_hold {G : bpG} {C : bpC} {M : bpM} {hl : Int64} {f m : Nat} {n : Int32} (hf : f < 12) (hm : m < 8) (h : C 9 f 1 = nI m) : Ct G yX0_hold cX0_hold 2 (some .boolean) rmX0_hold [.ref (G.1 9 f), .int n] C M hl (qCi M hl (fun C' r => C' = upC (upC C 10 f m n) 9 f 1 (nI (m + 1)) ∧ r = 1)) := by
  refine ct_of [some (.ref (G.1 9 f)), some (.int n)] (by decide +kernel) rfl rfl (Nat.le_of_ble_eq_true rfl) ?_
  intro κ X Z
  refine r_aload_n X dX0_hold_0 rfl ?_
  refine r_gi9 1 X (by assumption) wfl_X0_15 dX0_hold_1 (by decide) rfl ?_
  refine r_bipush (8) X dX0_hold_4 (by decide) ?_
  refine r_icmplt 21 X dX0_hold_6 (by decide) (fun c6 => ?_) (fun c6 => absurd (by rw [h]; simp only [i_lt, i_le, i_eq, i_m1, i_0, i_1, i_2, i_3, i_4, i_5, i_6, i_7, i_8, i_9, i_10, i_11, i_12, i_17, i_20, i_24, i_32, i_44, i_48, i_50, i_51, i_52, i_57, i_58, i_100, i_126, i_n (show m < 2 ^ 31 by omega)]; omega) c6)
  show Rn G κ 21 _ _ _ _ _
  refine r_aload_n X dX0_hold_21 rfl ?_
  refine r_gr9_0 X (by assumption) wfl_X0_9 dX0_hold_22 ?_
  refine r_aload_n X dX0_hold_25 rfl ?_
  show Rn G κ 26 _ _ _ _ _
  refine r_gi9 1 X (by assumption) wfl_X0_15 dX0_hold_26 (by decide) rfl ?_
  refine r_iload_n X dX0_hold_29 rfl ?_
  refine r_isC m X h (by assumption) (by assumption) dX0_hold_30 (by decide) rfl rfl rfl ?_
  refine r_aload_n X dX0_hold_31 rfl ?_
  refine r_dup X dX0_hold_32 rfl ?_
  refine r_gi9 1 X (by assumption) wfl_X0_15 dX0_hold_33 (by decide) rfl ?_
  refine r_iconst (1) X dX0_hold_36 (by decide) ?_
  refine r_iadd X dX0_hold_37 ?_
  show Rn G κ 38 _ _ _ _ _
  refine r_pi9 1 X (by assumption) wfl_X0_15 dX0_hold_38 (by decide) rfl rfl (by decide +kernel) ?_
  refine r_iconst (1) X dX0_hold_41 (by decide) ?_
  refine r_zret X Z dX0_hold_42 (by decide) ?_
  refine ⟨rfl, rfl, _, rfl, ?_, rfl⟩
  rw [upC_ne _ _ _ _ _ (by simp), h, nI_1]
set_option maxRecDepth 100000 in
set_option maxHeartbeats 4000000 in
theorem c_pappend_full {G : bpG} {C : bpC} {M : bpM} {hl : Int64} {n : Int32} (h : C 1 0 1 = 17) : Ct G yX1_append cX1_append 2 (some .boolean) rmX1_append [.ref (G.1 1 0), .int n] C M hl (qI C M hl 0) := by
  refine ct_of [some (.ref (G.1 1 0)), some (.int n)] (by decide +kernel) rfl rfl (Nat.le_of_ble_eq_true rfl) ?_
  intro κ X Z
  refine r_aload_n X dX1_append_0 rfl ?_
  refine r_gi1 1 X wfl_X1_15 dX1_append_1 (by decide) rfl ?_
  refine r_bipush (17) X dX1_append_4 (by decide) ?_
  refine r_icmplt 11 X dX1_append_6 (by decide) (fun c6 => absurd c6 (by rw [h]; decide)) (fun c6 => ?_)
  show Rn G κ 9 _ _ _ _ _
  refine r_iconst (0) X dX1_append_9 (by decide) ?_
  refine r_zret X Z dX1_append_10 (by decide) ?_
  exact ⟨rfl, rfl, rfl, rfl⟩
set_option maxRecDepth 100000 in
set_option maxHeartbeats 4000000 in
theorem c_pappend {G : bpG} {C : bpC} {M : bpM} {hl : Int64} {m : Nat} {n : Int32} (hm : m < 17) (h : C 1 0 1 = nI m) : Ct G yX1_append cX1_append 2 (some .boolean) rmX1_append [.ref (G.1 1 0), .int n] C M hl (qCi M hl (fun C' r => C' = upC (upC C 2 0 m n) 1 0 1 (nI (m + 1)) ∧ r = 1)) := by
  refine ct_of [some (.ref (G.1 1 0)), some (.int n)] (by decide +kernel) rfl rfl (Nat.le_of_ble_eq_true rfl) ?_
  intro κ X Z
  refine r_aload_n X dX1_append_0 rfl ?_
  refine r_gi1 1 X wfl_X1_15 dX1_append_1 (by decide) rfl ?_
  refine r_bipush (17) X dX1_append_4 (by decide) ?_
  refine r_icmplt 11 X dX1_append_6 (by decide) (fun c6 => ?_) (fun c6 => absurd (by rw [h]; simp only [i_lt, i_le, i_eq, i_m1, i_0, i_1, i_2, i_3, i_4, i_5, i_6, i_7, i_8, i_9, i_10, i_11, i_12, i_17, i_20, i_24, i_32, i_44, i_48, i_50, i_51, i_52, i_57, i_58, i_100, i_126, i_n (show m < 2 ^ 31 by omega)]; omega) c6)
  show Rn G κ 11 _ _ _ _ _
  refine r_aload_n X dX1_append_11 rfl ?_
  refine r_gr1_0 X wfl_X1_9 dX1_append_12 ?_
  refine r_aload_n X dX1_append_15 rfl ?_
  show Rn G κ 16 _ _ _ _ _
  refine r_gi1 1 X wfl_X1_15 dX1_append_16 (by decide) rfl ?_
  refine r_iload_n X dX1_append_19 rfl ?_
  refine r_isC m X h (by assumption) (by decide) dX1_append_20 (by decide) rfl rfl rfl ?_
  refine r_aload_n X dX1_append_21 rfl ?_
  refine r_dup X dX1_append_22 rfl ?_
  refine r_gi1 1 X wfl_X1_15 dX1_append_23 (by decide) rfl ?_
  refine r_iconst (1) X dX1_append_26 (by decide) ?_
  refine r_iadd X dX1_append_27 ?_
  show Rn G κ 28 _ _ _ _ _
  refine r_pi1 1 X wfl_X1_15 dX1_append_28 (by decide) rfl rfl (by decide +kernel) ?_
  refine r_iconst (1) X dX1_append_31 (by decide) ?_
  refine r_zret X Z dX1_append_32 (by decide) ?_
  refine ⟨rfl, rfl, _, rfl, ?_, rfl⟩
  rw [upC_ne _ _ _ _ _ (by simp), h, nI_1]
set_option maxRecDepth 100000 in
set_option maxHeartbeats 4000000 in
theorem c_codeAt {G : bpG} {C : bpC} {M : bpM} {hl : Int64} {m j : Nat} (hm : m ≤ 17) (hj : j < m) (h : C 1 0 1 = nI m) : Ct G yX1_codeAt cX1_codeAt 2 (some .int) rmX1_codeAt [.ref (G.1 1 0), .int (nI j)] C M hl (qI C M hl (C 2 0 j)) := by
  refine ct_of [some (.ref (G.1 1 0)), some (.int (nI j))] (by decide +kernel) rfl rfl (Nat.le_of_ble_eq_true rfl) ?_
  intro κ X Z
  refine r_iload_n X dX1_codeAt_0 rfl ?_
  refine r_iflt 21 X dX1_codeAt_1 (by decide) (fun c1 => absurd c1 (nI_pos (by omega))) (fun c1 => ?_)
  show Rn G κ 4 _ _ _ _ _
  refine r_iload_n X dX1_codeAt_4 rfl ?_
  refine r_aload_n X dX1_codeAt_5 rfl ?_
  refine r_gi1 1 X wfl_X1_15 dX1_codeAt_6 (by decide) rfl ?_
  refine r_icmpge 21 X dX1_codeAt_9 (by decide) (fun c9 => absurd c9 (by rw [h]; simp only [i_lt, i_le, i_eq, i_m1, i_0, i_1, i_2, i_3, i_4, i_5, i_6, i_7, i_8, i_9, i_10, i_11, i_12, i_17, i_20, i_24, i_32, i_44, i_48, i_50, i_51, i_52, i_57, i_58, i_100, i_126, i_n (show m < 2 ^ 31 by omega), i_n (show j < 2 ^ 31 by omega)]; omega)) (fun c9 => ?_)
  show Rn G κ 12 _ _ _ _ _
  refine r_aload_n X dX1_codeAt_12 rfl ?_
  show Rn G κ 13 _ _ _ _ _
  refine r_gr1_0 X wfl_X1_9 dX1_codeAt_13 ?_
  refine r_iload_n X dX1_codeAt_16 rfl ?_
  refine r_iaC j X rfl (show j < 17 by omega) (by decide) dX1_codeAt_17 (by decide) rfl rfl rfl ?_
  refine r_goto 22 X dX1_codeAt_18 (by decide) ?_
  refine r_iret X Z dX1_codeAt_22 ?_
  exact ⟨rfl, rfl, rfl, rfl⟩
set_option maxRecDepth 100000 in
set_option maxHeartbeats 4000000 in
theorem c_fits {G : bpG} {C : bpC} {M : bpM} {hl : Int64} {m j : Nat} (hm : m ≤ 17) (hj : j < m) (h : C 1 0 1 = nI m) : Ct G yX1_fits cX1_fits 3 (some .boolean) rmX1_fits [.ref (G.1 1 0), .int (nI j)] C M hl (qI C M hl (bI (fitB (C 2 0 j) j))) := by
  refine ct_of [some (.ref (G.1 1 0)), some (.int (nI j)), none] (by decide +kernel) rfl rfl (Nat.le_of_ble_eq_true rfl) ?_
  intro κ X Z
  refine r_aload_n X dX1_fits_0 rfl ?_
  refine r_iload_n X dX1_fits_1 rfl ?_
  refine r_cv1_I X mdX1_codeAt wml_X1_23 dX1_fits_2 ⟨rfl, rfl, Nat.le_of_ble_eq_true rfl, Nat.le_of_ble_eq_true rfl⟩ (by decide) rfl rfl (Nat.le_of_ble_eq_true rfl) rfl (zroom Z) (c_codeAt hm hj h) ?_
  show Rn G κ 5 _ _ _ _ _
  refine r_istore_2 X dX1_fits_5 rfl ?_
  refine r_iload_n X dX1_fits_6 rfl ?_
  refine r_iconst (3) X dX1_fits_7 (by decide) ?_
  refine r_irem X dX1_fits_8 (by decide) ?_
  refine r_top (rem_n 3 (show j < 2 ^ 31 by omega) (by decide) (by decide)) ?_
  show Rn G κ 9 _ _ _ _ _
  rcases (show j % 3 = 0 ∨ j % 3 = 1 ∨ j % 3 = 2 by omega) with e3 | e3 | e3
  · rw [e3]
    refine r_lookup 36 X dX1_fits_9 (by decide) rfl (by decide) ?_
    refine r_iload_n X dX1_fits_36 rfl ?_
    refine r_bipush (48) X dX1_fits_37 (by decide) ?_
    refine r_icmplt 52 X dX1_fits_39 (by decide) (fun c39 => ?_) (fun c39 => ?_)
    · show Rn G κ 52 _ _ _ _ _
      refine r_iconst (0) X dX1_fits_52 (by decide) ?_
      refine r_zret X Z dX1_fits_53 (by decide) ?_
      refine ⟨rfl, rfl, rfl, ret_i ?_⟩
      simp only [i_lt, i_le, i_eq, i_m1, i_0, i_1, i_2, i_3, i_4, i_5, i_6, i_7, i_8, i_9, i_10, i_11, i_12, i_17, i_20, i_24, i_32, i_44, i_48, i_50, i_51, i_52, i_57, i_58, i_100, i_126] at c39
      first | refine bI_f ?_ | refine bI_t ?_
      simp only [fitB, e3]
      simp only [if_pos, Bool.and_eq_true, Bool.or_eq_true, decide_eq_true_eq, Bool.and_eq_false_iff, Bool.or_eq_false_iff, decide_eq_false_iff_not, Bool.not_eq_true', Bool.not_eq_false', i_lt, i_le, i_eq, i_m1, i_0, i_1, i_2, i_3, i_4, i_5, i_6, i_7, i_8, i_9, i_10, i_11, i_12, i_17, i_20, i_24, i_32, i_44, i_48, i_50, i_51, i_52, i_57, i_58, i_100, i_126]
      first | omega | (simp; omega) | simp_all
    · show Rn G κ 42 _ _ _ _ _
      refine r_iload_n X dX1_fits_42 rfl ?_
      refine r_bipush (52) X dX1_fits_43 (by decide) ?_
      refine r_icmpge 52 X dX1_fits_45 (by decide) (fun c45 => ?_) (fun c45 => ?_)
      · show Rn G κ 52 _ _ _ _ _
        refine r_iconst (0) X dX1_fits_52 (by decide) ?_
        refine r_zret X Z dX1_fits_53 (by decide) ?_
        refine ⟨rfl, rfl, rfl, ret_i ?_⟩
        simp only [i_lt, i_le, i_eq, i_m1, i_0, i_1, i_2, i_3, i_4, i_5, i_6, i_7, i_8, i_9, i_10, i_11, i_12, i_17, i_20, i_24, i_32, i_44, i_48, i_50, i_51, i_52, i_57, i_58, i_100, i_126] at c39 c45
        first | refine bI_f ?_ | refine bI_t ?_
        simp only [fitB, e3]
        simp only [if_pos, Bool.and_eq_true, Bool.or_eq_true, decide_eq_true_eq, Bool.and_eq_false_iff, Bool.or_eq_false_iff, decide_eq_false_iff_not, Bool.not_eq_true', Bool.not_eq_false', i_lt, i_le, i_eq, i_m1, i_0, i_1, i_2, i_3, i_4, i_5, i_6, i_7, i_8, i_9, i_10, i_11, i_12, i_17, i_20, i_24, i_32, i_44, i_48, i_50, i_51, i_52, i_57, i_58, i_100, i_126]
        first | omega | (simp; omega) | simp_all
      · show Rn G κ 48 _ _ _ _ _
        refine r_iconst (1) X dX1_fits_48 (by decide) ?_
        refine r_goto 53 X dX1_fits_49 (by decide) ?_
        refine r_zret X Z dX1_fits_53 (by decide) ?_
        refine ⟨rfl, rfl, rfl, ret_i ?_⟩
        simp only [i_lt, i_le, i_eq, i_m1, i_0, i_1, i_2, i_3, i_4, i_5, i_6, i_7, i_8, i_9, i_10, i_11, i_12, i_17, i_20, i_24, i_32, i_44, i_48, i_50, i_51, i_52, i_57, i_58, i_100, i_126] at c39 c45
        first | refine bI_f ?_ | refine bI_t ?_
        simp only [fitB, e3]
        simp only [if_pos, Bool.and_eq_true, Bool.or_eq_true, decide_eq_true_eq, Bool.and_eq_false_iff, Bool.or_eq_false_iff, decide_eq_false_iff_not, Bool.not_eq_true', Bool.not_eq_false', i_lt, i_le, i_eq, i_m1, i_0, i_1, i_2, i_3, i_4, i_5, i_6, i_7, i_8, i_9, i_10, i_11, i_12, i_17, i_20, i_24, i_32, i_44, i_48, i_50, i_51, i_52, i_57, i_58, i_100, i_126]
        first | omega | (simp; omega) | simp_all
  · rw [e3]
    refine r_lookup 54 X dX1_fits_9 (by decide) rfl (by decide) ?_
    refine r_iload_n X dX1_fits_54 rfl ?_
    refine r_bipush (48) X dX1_fits_55 (by decide) ?_
    refine r_icmplt 70 X dX1_fits_57 (by decide) (fun c57 => ?_) (fun c57 => ?_)
    · show Rn G κ 70 _ _ _ _ _
      refine r_iconst (0) X dX1_fits_70 (by decide) ?_
      refine r_zret X Z dX1_fits_71 (by decide) ?_
      refine ⟨rfl, rfl, rfl, ret_i ?_⟩
      simp only [i_lt, i_le, i_eq, i_m1, i_0, i_1, i_2, i_3, i_4, i_5, i_6, i_7, i_8, i_9, i_10, i_11, i_12, i_17, i_20, i_24, i_32, i_44, i_48, i_50, i_51, i_52, i_57, i_58, i_100, i_126] at c57
      first | refine bI_f ?_ | refine bI_t ?_
      simp only [fitB, e3]
      simp only [if_pos, Bool.and_eq_true, Bool.or_eq_true, decide_eq_true_eq, Bool.and_eq_false_iff, Bool.or_eq_false_iff, decide_eq_false_iff_not, Bool.not_eq_true', Bool.not_eq_false', i_lt, i_le, i_eq, i_m1, i_0, i_1, i_2, i_3, i_4, i_5, i_6, i_7, i_8, i_9, i_10, i_11, i_12, i_17, i_20, i_24, i_32, i_44, i_48, i_50, i_51, i_52, i_57, i_58, i_100, i_126]
      first | omega | (simp; omega) | simp_all
    · show Rn G κ 60 _ _ _ _ _
      refine r_iload_n X dX1_fits_60 rfl ?_
      refine r_bipush (57) X dX1_fits_61 (by decide) ?_
      refine r_icmpgt 70 X dX1_fits_63 (by decide) (fun c63 => ?_) (fun c63 => ?_)
      · show Rn G κ 70 _ _ _ _ _
        refine r_iconst (0) X dX1_fits_70 (by decide) ?_
        refine r_zret X Z dX1_fits_71 (by decide) ?_
        refine ⟨rfl, rfl, rfl, ret_i ?_⟩
        simp only [i_lt, i_le, i_eq, i_m1, i_0, i_1, i_2, i_3, i_4, i_5, i_6, i_7, i_8, i_9, i_10, i_11, i_12, i_17, i_20, i_24, i_32, i_44, i_48, i_50, i_51, i_52, i_57, i_58, i_100, i_126] at c57 c63
        first | refine bI_f ?_ | refine bI_t ?_
        simp only [fitB, e3]
        simp only [if_pos, Bool.and_eq_true, Bool.or_eq_true, decide_eq_true_eq, Bool.and_eq_false_iff, Bool.or_eq_false_iff, decide_eq_false_iff_not, Bool.not_eq_true', Bool.not_eq_false', i_lt, i_le, i_eq, i_m1, i_0, i_1, i_2, i_3, i_4, i_5, i_6, i_7, i_8, i_9, i_10, i_11, i_12, i_17, i_20, i_24, i_32, i_44, i_48, i_50, i_51, i_52, i_57, i_58, i_100, i_126]
        first | omega | (simp; omega) | simp_all
      · show Rn G κ 66 _ _ _ _ _
        refine r_iconst (1) X dX1_fits_66 (by decide) ?_
        refine r_goto 71 X dX1_fits_67 (by decide) ?_
        refine r_zret X Z dX1_fits_71 (by decide) ?_
        refine ⟨rfl, rfl, rfl, ret_i ?_⟩
        simp only [i_lt, i_le, i_eq, i_m1, i_0, i_1, i_2, i_3, i_4, i_5, i_6, i_7, i_8, i_9, i_10, i_11, i_12, i_17, i_20, i_24, i_32, i_44, i_48, i_50, i_51, i_52, i_57, i_58, i_100, i_126] at c57 c63
        first | refine bI_f ?_ | refine bI_t ?_
        simp only [fitB, e3]
        simp only [if_pos, Bool.and_eq_true, Bool.or_eq_true, decide_eq_true_eq, Bool.and_eq_false_iff, Bool.or_eq_false_iff, decide_eq_false_iff_not, Bool.not_eq_true', Bool.not_eq_false', i_lt, i_le, i_eq, i_m1, i_0, i_1, i_2, i_3, i_4, i_5, i_6, i_7, i_8, i_9, i_10, i_11, i_12, i_17, i_20, i_24, i_32, i_44, i_48, i_50, i_51, i_52, i_57, i_58, i_100, i_126]
        first | omega | (simp; omega) | simp_all
  · rw [e3]
    refine r_lookup 72 X dX1_fits_9 (by decide) rfl (by decide) ?_
    refine r_iload_n X dX1_fits_72 rfl ?_
    refine r_bipush (44) X dX1_fits_73 (by decide) ?_
    refine r_icmpne 82 X dX1_fits_75 (by decide) (fun c75 => ?_) (fun c75 => ?_)
    · show Rn G κ 82 _ _ _ _ _
      refine r_iconst (0) X dX1_fits_82 (by decide) ?_
      refine r_zret X Z dX1_fits_83 (by decide) ?_
      refine ⟨rfl, rfl, rfl, ret_i ?_⟩
      simp only [i_lt, i_le, i_eq, i_m1, i_0, i_1, i_2, i_3, i_4, i_5, i_6, i_7, i_8, i_9, i_10, i_11, i_12, i_17, i_20, i_24, i_32, i_44, i_48, i_50, i_51, i_52, i_57, i_58, i_100, i_126] at c75
      first | refine bI_f ?_ | refine bI_t ?_
      simp only [fitB, e3]
      simp only [if_pos, Bool.and_eq_true, Bool.or_eq_true, decide_eq_true_eq, Bool.and_eq_false_iff, Bool.or_eq_false_iff, decide_eq_false_iff_not, Bool.not_eq_true', Bool.not_eq_false', i_lt, i_le, i_eq, i_m1, i_0, i_1, i_2, i_3, i_4, i_5, i_6, i_7, i_8, i_9, i_10, i_11, i_12, i_17, i_20, i_24, i_32, i_44, i_48, i_50, i_51, i_52, i_57, i_58, i_100, i_126]
      first | omega | (simp; omega) | simp_all
    · show Rn G κ 78 _ _ _ _ _
      refine r_iconst (1) X dX1_fits_78 (by decide) ?_
      refine r_goto 83 X dX1_fits_79 (by decide) ?_
      refine r_zret X Z dX1_fits_83 (by decide) ?_
      refine ⟨rfl, rfl, rfl, ret_i ?_⟩
      simp only [i_lt, i_le, i_eq, i_m1, i_0, i_1, i_2, i_3, i_4, i_5, i_6, i_7, i_8, i_9, i_10, i_11, i_12, i_17, i_20, i_24, i_32, i_44, i_48, i_50, i_51, i_52, i_57, i_58, i_100, i_126] at c75
      first | refine bI_f ?_ | refine bI_t ?_
      simp only [fitB, e3]
      simp only [if_pos, Bool.and_eq_true, Bool.or_eq_true, decide_eq_true_eq, Bool.and_eq_false_iff, Bool.or_eq_false_iff, decide_eq_false_iff_not, Bool.not_eq_true', Bool.not_eq_false', i_lt, i_le, i_eq, i_m1, i_0, i_1, i_2, i_3, i_4, i_5, i_6, i_7, i_8, i_9, i_10, i_11, i_12, i_17, i_20, i_24, i_32, i_44, i_48, i_50, i_51, i_52, i_57, i_58, i_100, i_126]
      first | omega | (simp; omega) | simp_all
set_option maxRecDepth 100000 in
set_option maxHeartbeats 4000000 in
theorem c_firstWrong {G : bpG} {C : bpC} {M : bpM} {hl : Int64} {m : Nat} (hm : m ≤ 17) (h : C 1 0 1 = nI m) : Ct G yX1_firstWrong cX1_firstWrong 2 (some .int) rmX1_firstWrong [.ref (G.1 1 0)] C M hl (qI C M hl (nI (fsN (fun j => fitB (C 2 0 j) j) 0 m))) := by
  obtain ⟨r, hr⟩ : ∃ r : Int32, nI (fsN (fun j => fitB (C 2 0 j) j) 0 m) = r := ⟨_, rfl⟩
  rw [hr]
  refine ct_of [some (.ref (G.1 1 0)), none] (by decide +kernel) rfl rfl (Nat.le_of_ble_eq_true rfl) ?_
  intro κ X Z
  have loop : ∀ n i : Nat, i + n = m → nI (fsN (fun j => fitB (C 2 0 j) j) i n) = r → Rn G κ 2 [some (.ref (G.1 1 0)), some (.int (nI i))] [] C M hl := by
    intro n
    induction n with
    | zero =>
      intro i hi he
      have hi : i = m := by omega
      subst hi
      refine r_iload_n X dX1_firstWrong_2 rfl ?_
      refine r_aload_n X dX1_firstWrong_3 rfl ?_
      refine r_gi1 1 X wfl_X1_15 dX1_firstWrong_4 (by decide) rfl ?_
      refine r_icmpge 26 X dX1_firstWrong_7 (by decide) (fun c7 => ?_) (fun c7 => absurd (by rw [h]; exact Int32.le_refl _) c7)
      show Rn G κ 26 _ _ _ _ _
      refine r_aload_n X dX1_firstWrong_26 rfl ?_
      refine r_gi1 1 X wfl_X1_15 dX1_firstWrong_27 (by decide) rfl ?_
      refine r_iret X Z dX1_firstWrong_30 ?_
      refine ⟨rfl, rfl, rfl, ret_i ?_⟩
      rw [h, ← he]
      rfl
    | succ n ih =>
      intro i hi he
      have hj : i < m := by omega
      refine r_iload_n X dX1_firstWrong_2 rfl ?_
      refine r_aload_n X dX1_firstWrong_3 rfl ?_
      refine r_gi1 1 X wfl_X1_15 dX1_firstWrong_4 (by decide) rfl ?_
      refine r_icmpge 26 X dX1_firstWrong_7 (by decide) (fun c7 => absurd c7 (by rw [h]; simp only [i_lt, i_le, i_eq, i_m1, i_0, i_1, i_2, i_3, i_4, i_5, i_6, i_7, i_8, i_9, i_10, i_11, i_12, i_17, i_20, i_24, i_32, i_44, i_48, i_50, i_51, i_52, i_57, i_58, i_100, i_126, i_n (show m < 2 ^ 31 by omega), i_n (show i < 2 ^ 31 by omega)]; omega)) (fun c7 => ?_)
      show Rn G κ 10 _ _ _ _ _
      refine r_aload_n X dX1_firstWrong_10 rfl ?_
      refine r_iload_n X dX1_firstWrong_11 rfl ?_
      refine r_cv1_I X mdX1_fits wml_X1_19 dX1_firstWrong_12 ⟨rfl, rfl, Nat.le_of_ble_eq_true rfl, Nat.le_of_ble_eq_true rfl⟩ (by decide) rfl rfl (Nat.le_of_ble_eq_true rfl) rfl (zroom Z) (c_fits hm hj h) ?_
      show Rn G κ 15 _ _ _ _ _
      show Rn G κ 15 _ _ _ _ _
      refine r_ifne 20 X dX1_firstWrong_15 (by decide) (fun c15 => ?_) (fun c15 => ?_)
      · show Rn G κ 20 _ _ _ _ _
        refine r_iinc_1 (nI (i + 1)) X dX1_firstWrong_20 (nI_1 i) rfl ?_
        refine r_goto 2 X dX1_firstWrong_23 (by decide) ?_
        refine ih (i + 1) (by omega) ?_
        rw [← he]
        simp only [fsN]
        rw [if_pos (bI_1 c15)]
      · show Rn G κ 18 _ _ _ _ _
        refine r_iload_n X dX1_firstWrong_18 rfl ?_
        refine r_iret X Z dX1_firstWrong_19 ?_
        refine ⟨rfl, rfl, rfl, ret_i ?_⟩
        rw [← he]
        simp only [fsN]
        rw [if_neg (by rw [bI_0 c15]; decide)]
  refine r_iconst (0) X dX1_firstWrong_0 (by decide) ?_
  refine r_istore_1 X dX1_firstWrong_1 rfl ?_
  exact loop m 0 (by omega) hr
set_option maxRecDepth 100000 in
set_option maxHeartbeats 4000000 in
theorem c_isBoard {G : bpG} {C : bpC} {M : bpM} {hl : Int64} {m : Nat} (hm : m ≤ 17) (h : C 1 0 1 = nI m) : Ct G yX1_isBoard cX1_isBoard 1 (some .boolean) rmX1_isBoard [.ref (G.1 1 0)] C M hl (qI C M hl (bI (decide (m % 3 = 2) && decide (fsN (fun j => fitB (C 2 0 j) j) 0 m = m)))) := by
  refine ct_of [some (.ref (G.1 1 0))] (by decide +kernel) rfl rfl (Nat.le_of_ble_eq_true rfl) ?_
  intro κ X Z
  refine r_aload_n X dX1_isBoard_0 rfl ?_
  refine r_gi1 1 X wfl_X1_15 dX1_isBoard_1 (by decide) rfl ?_
  refine r_iconst (3) X dX1_isBoard_4 (by decide) ?_
  refine r_irem X dX1_isBoard_5 (by decide) ?_
  rw [h]
  refine r_top (rem_n 3 (show m < 2 ^ 31 by omega) (by decide) (by decide)) ?_
  refine r_iconst (2) X dX1_isBoard_6 (by decide) ?_
  refine r_icmpne 25 X dX1_isBoard_7 (by decide) (fun c7 => ?_) (fun c7 => ?_)
  · show Rn G κ 25 _ _ _ _ _
    refine r_iconst (0) X dX1_isBoard_25 (by decide) ?_
    refine r_zret X Z dX1_isBoard_26 (by decide) ?_
    have hf := fsN_le (fun j => fitB (C 2 0 j) j) m 0
    have e2 : (2 : Int32) = nI 2 := rfl
    try rw [e2, nI_eq (by omega) (by omega)] at c7
    try rw [h, nI_eq (by omega) (by omega)] at c18
    refine ⟨rfl, rfl, rfl, ret_i ?_⟩
    simp [bI, *]
  · show Rn G κ 10 _ _ _ _ _
    refine r_aload_n X dX1_isBoard_10 rfl ?_
    refine r_cv0_I X mdX1_firstWrong wml_X1_27 dX1_isBoard_11 ⟨rfl, rfl, Nat.le_of_ble_eq_true rfl, Nat.le_of_ble_eq_true rfl⟩ (by decide) rfl rfl (Nat.le_of_ble_eq_true rfl) rfl (zroom Z) (c_firstWrong hm h) ?_
    show Rn G κ 14 _ _ _ _ _
    refine r_aload_n X dX1_isBoard_14 rfl ?_
    refine r_gi1 1 X wfl_X1_15 dX1_isBoard_15 (by decide) rfl ?_
    refine r_icmpne 25 X dX1_isBoard_18 (by decide) (fun c18 => ?_) (fun c18 => ?_)
    · show Rn G κ 25 _ _ _ _ _
      refine r_iconst (0) X dX1_isBoard_25 (by decide) ?_
      refine r_zret X Z dX1_isBoard_26 (by decide) ?_
      have hf := fsN_le (fun j => fitB (C 2 0 j) j) m 0
      have e2 : (2 : Int32) = nI 2 := rfl
      try rw [e2, nI_eq (by omega) (by omega)] at c7
      try rw [h, nI_eq (by omega) (by omega)] at c18
      refine ⟨rfl, rfl, rfl, ret_i ?_⟩
      simp [bI, *]
    · show Rn G κ 21 _ _ _ _ _
      refine r_iconst (1) X dX1_isBoard_21 (by decide) ?_
      refine r_goto 26 X dX1_isBoard_22 (by decide) ?_
      refine r_zret X Z dX1_isBoard_26 (by decide) ?_
      have hf := fsN_le (fun j => fitB (C 2 0 j) j) m 0
      have e2 : (2 : Int32) = nI 2 := rfl
      try rw [e2, nI_eq (by omega) (by omega)] at c7
      try rw [h, nI_eq (by omega) (by omega)] at c18
      refine ⟨rfl, rfl, rfl, ret_i ?_⟩
      simp [bI, *]
set_option maxRecDepth 100000 in
set_option maxHeartbeats 4000000 in
theorem c_portsWritten {G : bpG} {C : bpC} {M : bpM} {hl : Int64} {m : Nat} (hm : m ≤ 17) (h : C 1 0 1 = nI m) : Ct G yX1_portsWritten cX1_portsWritten 1 (some .int) rmX1_portsWritten [.ref (G.1 1 0)] C M hl (qI C M hl (nI ((m + 1) / 3))) := by
  refine ct_of [some (.ref (G.1 1 0))] (by decide +kernel) rfl rfl (Nat.le_of_ble_eq_true rfl) ?_
  intro κ X Z
  refine r_aload_n X dX1_portsWritten_0 rfl ?_
  refine r_gi1 1 X wfl_X1_15 dX1_portsWritten_1 (by decide) rfl ?_
  refine r_iconst (1) X dX1_portsWritten_4 (by decide) ?_
  refine r_iadd X dX1_portsWritten_5 ?_
  refine r_iconst (3) X dX1_portsWritten_6 (by decide) ?_
  refine r_idiv X dX1_portsWritten_7 (by decide) ?_
  refine r_iret X Z dX1_portsWritten_8 ?_
  refine ⟨rfl, rfl, rfl, ret_i ?_⟩
  rw [h, nI_1]
  exact pk_div (by omega) (by decide) (by decide)
set_option maxRecDepth 100000 in
set_option maxHeartbeats 4000000 in
theorem c_keyOfPort {G : bpG} {C : bpC} {M : bpM} {hl : Int64} {m i : Nat} (hm : m ≤ 17) (hi : 3 * i < m) (h : C 1 0 1 = nI m) : Ct G yX1_keyOfPort cX1_keyOfPort 2 (some .int) rmX1_keyOfPort [.ref (G.1 1 0), .int (nI i)] C M hl (qI C M hl (C 2 0 (3 * i) - 48)) := by
  refine ct_of [some (.ref (G.1 1 0)), some (.int (nI i))] (by decide +kernel) rfl rfl (Nat.le_of_ble_eq_true rfl) ?_
  intro κ X Z
  refine r_aload_n X dX1_keyOfPort_0 rfl ?_
  refine r_iconst (3) X dX1_keyOfPort_1 (by decide) ?_
  refine r_iload_n X dX1_keyOfPort_2 rfl ?_
  refine r_imul X dX1_keyOfPort_3 ?_
  refine r_top (pk_mul 3 i) ?_
  refine r_cv1_I X mdX1_codeAt wml_X1_23 dX1_keyOfPort_4 ⟨rfl, rfl, Nat.le_of_ble_eq_true rfl, Nat.le_of_ble_eq_true rfl⟩ (by decide) rfl rfl (Nat.le_of_ble_eq_true rfl) rfl (zroom Z) (c_codeAt hm hi h) ?_
  show Rn G κ 7 _ _ _ _ _
  refine r_bipush (48) X dX1_keyOfPort_7 (by decide) ?_
  refine r_isub X dX1_keyOfPort_9 ?_
  show Rn G κ 10 _ _ _ _ _
  refine r_iret X Z dX1_keyOfPort_10 ?_
  exact ⟨rfl, rfl, rfl, rfl⟩
set_option maxRecDepth 100000 in
set_option maxHeartbeats 4000000 in
theorem c_rankOfPort {G : bpG} {C : bpC} {M : bpM} {hl : Int64} {m i : Nat} (hm : m ≤ 17) (hi : 3 * i + 1 < m) (h : C 1 0 1 = nI m) : Ct G yX1_rankOfPort cX1_rankOfPort 2 (some .int) rmX1_rankOfPort [.ref (G.1 1 0), .int (nI i)] C M hl (qI C M hl (C 2 0 (3 * i + 1) - 48)) := by
  refine ct_of [some (.ref (G.1 1 0)), some (.int (nI i))] (by decide +kernel) rfl rfl (Nat.le_of_ble_eq_true rfl) ?_
  intro κ X Z
  refine r_aload_n X dX1_rankOfPort_0 rfl ?_
  refine r_iconst (3) X dX1_rankOfPort_1 (by decide) ?_
  refine r_iload_n X dX1_rankOfPort_2 rfl ?_
  refine r_imul X dX1_rankOfPort_3 ?_
  refine r_iconst (1) X dX1_rankOfPort_4 (by decide) ?_
  refine r_iadd X dX1_rankOfPort_5 ?_
  refine r_top (show (3 : Int32) * nI i + 1 = nI (3 * i + 1) from by rw [← nI_1, ← pk_mul]; rfl) ?_
  refine r_cv1_I X mdX1_codeAt wml_X1_23 dX1_rankOfPort_6 ⟨rfl, rfl, Nat.le_of_ble_eq_true rfl, Nat.le_of_ble_eq_true rfl⟩ (by decide) rfl rfl (Nat.le_of_ble_eq_true rfl) rfl (zroom Z) (c_codeAt hm hi h) ?_
  show Rn G κ 9 _ _ _ _ _
  show Rn G κ 9 _ _ _ _ _
  refine r_bipush (48) X dX1_rankOfPort_9 (by decide) ?_
  refine r_isub X dX1_rankOfPort_11 ?_
  refine r_iret X Z dX1_rankOfPort_12 ?_
  exact ⟨rfl, rfl, rfl, rfl⟩
set_option maxRecDepth 100000 in
set_option maxHeartbeats 4000000 in
theorem c_prestart {G : bpG} {C : bpC} {M : bpM} {hl : Int64} {p : Nat} {k r : Int32} (hp : p < 6) : Ct G yX2_restart cX2_restart 3 none rmX2_restart [.ref (G.1 5 p), .int k, .int r] C M hl (qC M hl (fun C' => C' = (upC (upC (upC (upC (upC (upC (upC C 5 p 1 k) 5 p 2 r) 5 p 3 0) 5 p 4 0) 5 p 9 0) 5 p 10 0) 6 p 2 0))) := by
  refine ct_of [some (.ref (G.1 5 p)), some (.int k), some (.int r)] (by decide +kernel) rfl rfl (Nat.le_of_ble_eq_true rfl) ?_
  intro κ X Z
  refine r_aload_n X dX2_restart_0 rfl ?_
  refine r_iload_n X dX2_restart_1 rfl ?_
  refine r_pi5 1 X (by assumption) wfl_X2_18 dX2_restart_2 (by decide) rfl rfl (by decide +kernel) ?_
  refine r_aload_n X dX2_restart_5 rfl ?_
  refine r_iload_n X dX2_restart_6 rfl ?_
  refine r_pi5 2 X (by assumption) wfl_X2_22 dX2_restart_7 (by decide) rfl rfl (by decide +kernel) ?_
  refine r_aload_n X dX2_restart_10 rfl ?_
  show Rn G κ 11 _ _ _ _ _
  refine r_iconst (0) X dX2_restart_11 (by decide) ?_
  refine r_pz5 3 X (by assumption) (by decide) wfl_X2_25 dX2_restart_12 (by decide) rfl rfl (by decide +kernel) ?_
  refine r_aload_n X dX2_restart_15 rfl ?_
  refine r_iconst (0) X dX2_restart_16 (by decide) ?_
  refine r_pz5 4 X (by assumption) (by decide) wfl_X2_29 dX2_restart_17 (by decide) rfl rfl (by decide +kernel) ?_
  refine r_aload_n X dX2_restart_20 rfl ?_
  refine r_iconst (0) X dX2_restart_21 (by decide) ?_
  refine r_pi5 9 X (by assumption) wfl_X2_44 dX2_restart_22 (by decide) rfl rfl (by decide +kernel) ?_
  show Rn G κ 25 _ _ _ _ _
  refine r_aload_n X dX2_restart_25 rfl ?_
  refine r_iconst (0) X dX2_restart_26 (by decide) ?_
  refine r_pi5 10 X (by assumption) wfl_X2_47 dX2_restart_27 (by decide) rfl rfl (by decide +kernel) ?_
  refine r_aload_n X dX2_restart_30 rfl ?_
  refine r_gr5_0 X (by assumption) wfl_X2_12 dX2_restart_31 ?_
  refine r_iconst (0) X dX2_restart_34 (by decide) ?_
  refine r_pi6 2 X (by assumption) wfl_X2_50 dX2_restart_35 (by decide) rfl rfl (by decide +kernel) ?_
  refine r_vret X Z dX2_restart_38 ?_
  exact ⟨rfl, rfl, rfl, rfl⟩
set_option maxRecDepth 100000 in
set_option maxHeartbeats 4000000 in
theorem c_keepHeard {G : bpG} {C : bpC} {M : bpM} {hl : Int64} {p : Nat} {x k r : Int32} (hp : p < 6) (hz : r = 0 ∨ r = 1) : Ct G yX2_keepHeard cX2_keepHeard 4 none rmX2_keepHeard [.ref (G.1 5 p), .int x, .int k, .int r] C M hl (qC M hl (fun C' => C' = (upC (upC (upC (upC (upC C 5 p 4 1) 5 p 5 x) 5 p 6 k) 5 p 7 r) 5 p 8 0))) := by
  refine ct_of [some (.ref (G.1 5 p)), some (.int x), some (.int k), some (.int r)] (by decide +kernel) rfl rfl (Nat.le_of_ble_eq_true rfl) ?_
  intro κ X Z
  refine r_aload_n X dX2_keepHeard_0 rfl ?_
  refine r_iconst (1) X dX2_keepHeard_1 (by decide) ?_
  refine r_pz5 4 X (by assumption) (by decide) wfl_X2_29 dX2_keepHeard_2 (by decide) rfl rfl (by decide +kernel) ?_
  refine r_aload_n X dX2_keepHeard_5 rfl ?_
  refine r_iload_n X dX2_keepHeard_6 rfl ?_
  refine r_pi5 5 X (by assumption) wfl_X2_32 dX2_keepHeard_7 (by decide) rfl rfl (by decide +kernel) ?_
  refine r_aload_n X dX2_keepHeard_10 rfl ?_
  show Rn G κ 11 _ _ _ _ _
  refine r_iload_n X dX2_keepHeard_11 rfl ?_
  refine r_pi5 6 X (by assumption) wfl_X2_35 dX2_keepHeard_12 (by decide) rfl rfl (by decide +kernel) ?_
  refine r_aload_n X dX2_keepHeard_15 rfl ?_
  refine r_iload_n X dX2_keepHeard_16 rfl ?_
  refine r_pz5 7 X (by assumption) hz wfl_X2_38 dX2_keepHeard_17 (by decide) rfl rfl (by decide +kernel) ?_
  refine r_aload_n X dX2_keepHeard_20 rfl ?_
  refine r_iconst (0) X dX2_keepHeard_21 (by decide) ?_
  refine r_pi5 8 X (by assumption) wfl_X2_41 dX2_keepHeard_22 (by decide) rfl rfl (by decide +kernel) ?_
  show Rn G κ 25 _ _ _ _ _
  refine r_vret X Z dX2_keepHeard_25 ?_
  exact ⟨rfl, rfl, rfl, rfl⟩
set_option maxRecDepth 100000 in
set_option maxHeartbeats 4000000 in
theorem c_growOlder {G : bpG} {C : bpC} {M : bpM} {hl : Int64} {p : Nat} (hp : p < 6) : Ct G yX2_growOlder cX2_growOlder 1 none rmX2_growOlder [.ref (G.1 5 p)] C M hl (qC M hl (fun C' => C' = if C 5 p 4 = 0 then C else upC (upC C 5 p 8 (C 5 p 8 + 1)) 5 p 4 (bI (decide (C 5 p 8 + 1 < 4))))) := by
  refine ct_of [some (.ref (G.1 5 p))] (by decide +kernel) rfl rfl (Nat.le_of_ble_eq_true rfl) ?_
  intro κ X Z
  refine r_aload_n X dX2_growOlder_0 rfl ?_
  refine r_gi5 4 X (by assumption) wfl_X2_29 dX2_growOlder_1 (by decide) rfl ?_
  refine r_ifeq 34 X dX2_growOlder_4 (by decide) (fun c4 => ?_) (fun c4 => ?_)
  · show Rn G κ 34 _ _ _ _ _
    refine r_vret X Z dX2_growOlder_34 ?_
    refine ⟨rfl, rfl, rfl, ?_⟩
    try rw [upC_at] at c23
    first | (rw [if_pos c4]; done) | (rw [if_neg c4]; congr 1; first | (exact bI_t (by simpa using c23)) | (exact bI_f (by simpa using c23)))
  · show Rn G κ 7 _ _ _ _ _
    refine r_aload_n X dX2_growOlder_7 rfl ?_
    refine r_dup X dX2_growOlder_8 rfl ?_
    refine r_gi5 8 X (by assumption) wfl_X2_41 dX2_growOlder_9 (by decide) rfl ?_
    refine r_iconst (1) X dX2_growOlder_12 (by decide) ?_
    refine r_iadd X dX2_growOlder_13 ?_
    refine r_pi5 8 X (by assumption) wfl_X2_41 dX2_growOlder_14 (by decide) rfl rfl (by decide +kernel) ?_
    refine r_aload_n X dX2_growOlder_17 rfl ?_
    show Rn G κ 18 _ _ _ _ _
    refine r_aload_n X dX2_growOlder_18 rfl ?_
    refine r_gi5 8 X (by assumption) wfl_X2_41 dX2_growOlder_19 (by decide) rfl ?_
    refine r_iconst (4) X dX2_growOlder_22 (by decide) ?_
    refine r_icmpge 30 X dX2_growOlder_23 (by decide) (fun c23 => ?_) (fun c23 => ?_)
    · show Rn G κ 30 _ _ _ _ _
      refine r_iconst (0) X dX2_growOlder_30 (by decide) ?_
      refine r_pz5 4 X (by assumption) (by decide) wfl_X2_29 dX2_growOlder_31 (by decide) rfl rfl (by decide +kernel) ?_
      refine r_vret X Z dX2_growOlder_34 ?_
      refine ⟨rfl, rfl, rfl, ?_⟩
      try rw [upC_at] at c23
      first | (rw [if_pos c4]; done) | (rw [if_neg c4]; congr 1; first | (exact bI_t (by simpa using c23)) | (exact bI_f (by simpa using c23)))
    · show Rn G κ 26 _ _ _ _ _
      refine r_iconst (1) X dX2_growOlder_26 (by decide) ?_
      refine r_goto 31 X dX2_growOlder_27 (by decide) ?_
      refine r_pz5 4 X (by assumption) (by decide) wfl_X2_29 dX2_growOlder_31 (by decide) rfl rfl (by decide +kernel) ?_
      refine r_vret X Z dX2_growOlder_34 ?_
      refine ⟨rfl, rfl, rfl, ?_⟩
      try rw [upC_at] at c23
      first | (rw [if_pos c4]; done) | (rw [if_neg c4]; congr 1; first | (exact bI_t (by simpa using c23)) | (exact bI_f (by simpa using c23)))
set_option maxRecDepth 100000 in
set_option maxHeartbeats 4000000 in
theorem c_isAlike {G : bpG} {C : bpC} {M : bpM} {hl : Int64} {p q : Nat} (hp : p < 6) (hq : q < 6) : Ct G yX2_isAlike cX2_isAlike 2 (some .boolean) rmX2_isAlike [.ref (G.1 5 p), .ref (G.1 5 q)] C M hl (qI C M hl (bI (!decide (C 5 p 4 = 0) && (!decide (C 5 q 4 = 0) && (decide (C 5 p 1 = C 5 q 1) && (decide (C 5 p 5 = C 5 q 5) && decide (C 5 p 6 = C 5 q 6))))))) := by
  refine ct_of [some (.ref (G.1 5 p)), some (.ref (G.1 5 q))] (by decide +kernel) rfl rfl (Nat.le_of_ble_eq_true rfl) ?_
  intro κ X Z
  refine r_aload_n X dX2_isAlike_0 rfl ?_
  refine r_gi5 4 X (by assumption) wfl_X2_29 dX2_isAlike_1 (by decide) rfl ?_
  refine r_ifeq 51 X dX2_isAlike_4 (by decide) (fun c4 => ?_) (fun c4 => ?_)
  · show Rn G κ 51 _ _ _ _ _
    refine r_iconst (0) X dX2_isAlike_51 (by decide) ?_
    refine r_zret X Z dX2_isAlike_52 (by decide) ?_
    refine ⟨rfl, rfl, rfl, ret_i ?_⟩
    simp [bI, *]
  · show Rn G κ 7 _ _ _ _ _
    refine r_aload_n X dX2_isAlike_7 rfl ?_
    refine r_gi5 4 X (by assumption) wfl_X2_29 dX2_isAlike_8 (by decide) rfl ?_
    refine r_ifeq 51 X dX2_isAlike_11 (by decide) (fun c11 => ?_) (fun c11 => ?_)
    · show Rn G κ 51 _ _ _ _ _
      refine r_iconst (0) X dX2_isAlike_51 (by decide) ?_
      refine r_zret X Z dX2_isAlike_52 (by decide) ?_
      refine ⟨rfl, rfl, rfl, ret_i ?_⟩
      simp [bI, *]
    · show Rn G κ 14 _ _ _ _ _
      refine r_aload_n X dX2_isAlike_14 rfl ?_
      refine r_gi5 1 X (by assumption) wfl_X2_18 dX2_isAlike_15 (by decide) rfl ?_
      refine r_aload_n X dX2_isAlike_18 rfl ?_
      refine r_gi5 1 X (by assumption) wfl_X2_18 dX2_isAlike_19 (by decide) rfl ?_
      refine r_icmpne 51 X dX2_isAlike_22 (by decide) (fun c22 => ?_) (fun c22 => ?_)
      · show Rn G κ 51 _ _ _ _ _
        refine r_iconst (0) X dX2_isAlike_51 (by decide) ?_
        refine r_zret X Z dX2_isAlike_52 (by decide) ?_
        refine ⟨rfl, rfl, rfl, ret_i ?_⟩
        simp [bI, *]
      · show Rn G κ 25 _ _ _ _ _
        refine r_aload_n X dX2_isAlike_25 rfl ?_
        refine r_gi5 5 X (by assumption) wfl_X2_32 dX2_isAlike_26 (by decide) rfl ?_
        refine r_aload_n X dX2_isAlike_29 rfl ?_
        refine r_gi5 5 X (by assumption) wfl_X2_32 dX2_isAlike_30 (by decide) rfl ?_
        refine r_icmpne 51 X dX2_isAlike_33 (by decide) (fun c33 => ?_) (fun c33 => ?_)
        · show Rn G κ 51 _ _ _ _ _
          refine r_iconst (0) X dX2_isAlike_51 (by decide) ?_
          refine r_zret X Z dX2_isAlike_52 (by decide) ?_
          refine ⟨rfl, rfl, rfl, ret_i ?_⟩
          simp [bI, *]
        · show Rn G κ 36 _ _ _ _ _
          refine r_aload_n X dX2_isAlike_36 rfl ?_
          refine r_gi5 6 X (by assumption) wfl_X2_35 dX2_isAlike_37 (by decide) rfl ?_
          refine r_aload_n X dX2_isAlike_40 rfl ?_
          refine r_gi5 6 X (by assumption) wfl_X2_35 dX2_isAlike_41 (by decide) rfl ?_
          refine r_icmpne 51 X dX2_isAlike_44 (by decide) (fun c44 => ?_) (fun c44 => ?_)
          · show Rn G κ 51 _ _ _ _ _
            refine r_iconst (0) X dX2_isAlike_51 (by decide) ?_
            refine r_zret X Z dX2_isAlike_52 (by decide) ?_
            refine ⟨rfl, rfl, rfl, ret_i ?_⟩
            simp [bI, *]
          · show Rn G κ 47 _ _ _ _ _
            refine r_iconst (1) X dX2_isAlike_47 (by decide) ?_
            refine r_goto 52 X dX2_isAlike_48 (by decide) ?_
            refine r_zret X Z dX2_isAlike_52 (by decide) ?_
            refine ⟨rfl, rfl, rfl, ret_i ?_⟩
            simp [bI, *]
end
section
set_option maxRecDepth 100000 in
set_option maxHeartbeats 4000000 in
theorem c_mix {G : bpG} {C : bpC} {M : bpM} {hl : Int64} {x y : Int64} : Ct G yX4_mix cX4_mix 4 (some .long) rmX4_mix [.long x, .long y] C M hl (qL C M hl (31 * x + y)) := by
  refine ct_of [some (.long x), none, some (.long y), none] (by decide +kernel) rfl rfl (Nat.le_of_ble_eq_true rfl) ?_
  intro κ X Z
  refine r_ldc2 wcL_X4_252 X dX4_mix_0 ?_
  refine r_lload_n X dX4_mix_3 rfl ?_
  refine r_lmul X dX4_mix_4 ?_
  refine r_lload_n X dX4_mix_5 rfl ?_
  refine r_ladd X dX4_mix_6 ?_
  refine r_lret X Z dX4_mix_7 ?_
  exact ⟨rfl, rfl, rfl, rfl⟩
set_option maxRecDepth 100000 in
set_option maxHeartbeats 4000000 in
theorem c_asNumber {G : bpG} {C : bpC} {M : bpM} {hl : Int64} {x : Int32} (hz : x = 0 ∨ x = 1) : Ct G yX4_asNumber cX4_asNumber 1 (some .int) rmX4_asNumber [.int x] C M hl (qI C M hl x) := by
  refine ct_of [some (.int x)] (by decide +kernel) rfl rfl (Nat.le_of_ble_eq_true rfl) ?_
  intro κ X Z
  refine r_iload_n X dX4_asNumber_0 rfl ?_
  refine r_ifeq 8 X dX4_asNumber_1 (by decide) (fun c1 => ?_) (fun c1 => ?_)
  · show Rn G κ 8 _ _ _ _ _
    refine r_iconst (0) X dX4_asNumber_8 (by decide) ?_
    refine r_iret X Z dX4_asNumber_9 ?_
    refine ⟨rfl, rfl, rfl, ret_i ?_⟩
    rcases hz with rfl | rfl <;> first | rfl | exact absurd rfl c1 | exact absurd c1 (by decide)
  · show Rn G κ 4 _ _ _ _ _
    refine r_iconst (1) X dX4_asNumber_4 (by decide) ?_
    refine r_goto 9 X dX4_asNumber_5 (by decide) ?_
    refine r_iret X Z dX4_asNumber_9 ?_
    refine ⟨rfl, rfl, rfl, ret_i ?_⟩
    rcases hz with rfl | rfl <;> first | rfl | exact absurd rfl c1 | exact absurd c1 (by decide)
set_option maxRecDepth 100000 in
set_option maxHeartbeats 4000000 in
theorem c_isPort {G : bpG} {C : bpC} {M : bpM} {hl : Int64} {a : bpM} {x : Int32} (hS : C 0 0 3 = a 2 0) (hB : Bas a) : Ct G yX4_isPort cX4_isPort 2 (some .boolean) rmX4_isPort [.ref (G.1 0 0), .int x] C M hl (qI C M hl (bI (isP a x))) := by
  refine ct_of [some (.ref (G.1 0 0)), some (.int x)] (by decide +kernel) rfl rfl (Nat.le_of_ble_eq_true rfl) ?_
  intro κ X Z
  refine r_iload_n X dX4_isPort_0 rfl ?_
  refine r_iflt 22 X dX4_isPort_1 (by decide) (fun c1 => ?_) (fun c1 => ?_)
  · show Rn G κ 22 _ _ _ _ _
    refine r_iconst (0) X dX4_isPort_22 (by decide) ?_
    refine r_zret X Z dX4_isPort_23 (by decide) ?_
    have h6 : (a 2 0).toInt ≤ 6 := by rw [hB.1, i_n (by have := hB.2.1; omega)]; have := hB.2.1; omega
    refine ⟨rfl, rfl, rfl, ret_i ?_⟩
    try rw [hS] at c9
    simp only [i_lt, i_le, i_eq, i_m1, i_0, i_1, i_2, i_3, i_4, i_5, i_6, i_7, i_8, i_9, i_10, i_11, i_12, i_17, i_20, i_24, i_32, i_44, i_48, i_50, i_51, i_52, i_57, i_58, i_100, i_126] at c1
    first | refine bI_f ?_ | refine bI_t ?_
    simp only [isP, Bool.and_eq_true, Bool.or_eq_true, decide_eq_true_eq, Bool.and_eq_false_iff, Bool.or_eq_false_iff, decide_eq_false_iff_not, Bool.not_eq_true', Bool.not_eq_false', i_lt, i_le, i_eq, i_m1, i_0, i_1, i_2, i_3, i_4, i_5, i_6, i_7, i_8, i_9, i_10, i_11, i_12, i_17, i_20, i_24, i_32, i_44, i_48, i_50, i_51, i_52, i_57, i_58, i_100, i_126]
    omega
  · show Rn G κ 4 _ _ _ _ _
    refine r_iload_n X dX4_isPort_4 rfl ?_
    refine r_aload_n X dX4_isPort_5 rfl ?_
    refine r_gi0 3 X wfl_X4_28 dX4_isPort_6 (by decide) rfl ?_
    refine r_icmpge 22 X dX4_isPort_9 (by decide) (fun c9 => ?_) (fun c9 => ?_)
    · show Rn G κ 22 _ _ _ _ _
      refine r_iconst (0) X dX4_isPort_22 (by decide) ?_
      refine r_zret X Z dX4_isPort_23 (by decide) ?_
      have h6 : (a 2 0).toInt ≤ 6 := by rw [hB.1, i_n (by have := hB.2.1; omega)]; have := hB.2.1; omega
      refine ⟨rfl, rfl, rfl, ret_i ?_⟩
      try rw [hS] at c9
      simp only [i_lt, i_le, i_eq, i_m1, i_0, i_1, i_2, i_3, i_4, i_5, i_6, i_7, i_8, i_9, i_10, i_11, i_12, i_17, i_20, i_24, i_32, i_44, i_48, i_50, i_51, i_52, i_57, i_58, i_100, i_126] at c1 c9
      first | refine bI_f ?_ | refine bI_t ?_
      simp only [isP, Bool.and_eq_true, Bool.or_eq_true, decide_eq_true_eq, Bool.and_eq_false_iff, Bool.or_eq_false_iff, decide_eq_false_iff_not, Bool.not_eq_true', Bool.not_eq_false', i_lt, i_le, i_eq, i_m1, i_0, i_1, i_2, i_3, i_4, i_5, i_6, i_7, i_8, i_9, i_10, i_11, i_12, i_17, i_20, i_24, i_32, i_44, i_48, i_50, i_51, i_52, i_57, i_58, i_100, i_126]
      omega
    · show Rn G κ 12 _ _ _ _ _
      refine r_iload_n X dX4_isPort_12 rfl ?_
      refine r_bipush (6) X dX4_isPort_13 (by decide) ?_
      refine r_icmpge 22 X dX4_isPort_15 (by decide) (fun c15 => ?_) (fun c15 => ?_)
      · show Rn G κ 22 _ _ _ _ _
        refine r_iconst (0) X dX4_isPort_22 (by decide) ?_
        refine r_zret X Z dX4_isPort_23 (by decide) ?_
        have h6 : (a 2 0).toInt ≤ 6 := by rw [hB.1, i_n (by have := hB.2.1; omega)]; have := hB.2.1; omega
        refine ⟨rfl, rfl, rfl, ret_i ?_⟩
        try rw [hS] at c9
        simp only [i_lt, i_le, i_eq, i_m1, i_0, i_1, i_2, i_3, i_4, i_5, i_6, i_7, i_8, i_9, i_10, i_11, i_12, i_17, i_20, i_24, i_32, i_44, i_48, i_50, i_51, i_52, i_57, i_58, i_100, i_126] at c1 c9 c15
        first | refine bI_f ?_ | refine bI_t ?_
        simp only [isP, Bool.and_eq_true, Bool.or_eq_true, decide_eq_true_eq, Bool.and_eq_false_iff, Bool.or_eq_false_iff, decide_eq_false_iff_not, Bool.not_eq_true', Bool.not_eq_false', i_lt, i_le, i_eq, i_m1, i_0, i_1, i_2, i_3, i_4, i_5, i_6, i_7, i_8, i_9, i_10, i_11, i_12, i_17, i_20, i_24, i_32, i_44, i_48, i_50, i_51, i_52, i_57, i_58, i_100, i_126]
        omega
      · show Rn G κ 18 _ _ _ _ _
        refine r_iconst (1) X dX4_isPort_18 (by decide) ?_
        refine r_goto 23 X dX4_isPort_19 (by decide) ?_
        refine r_zret X Z dX4_isPort_23 (by decide) ?_
        have h6 : (a 2 0).toInt ≤ 6 := by rw [hB.1, i_n (by have := hB.2.1; omega)]; have := hB.2.1; omega
        refine ⟨rfl, rfl, rfl, ret_i ?_⟩
        try rw [hS] at c9
        simp only [i_lt, i_le, i_eq, i_m1, i_0, i_1, i_2, i_3, i_4, i_5, i_6, i_7, i_8, i_9, i_10, i_11, i_12, i_17, i_20, i_24, i_32, i_44, i_48, i_50, i_51, i_52, i_57, i_58, i_100, i_126] at c1 c9 c15
        first | refine bI_f ?_ | refine bI_t ?_
        simp only [isP, Bool.and_eq_true, Bool.or_eq_true, decide_eq_true_eq, Bool.and_eq_false_iff, Bool.or_eq_false_iff, decide_eq_false_iff_not, Bool.not_eq_true', Bool.not_eq_false', i_lt, i_le, i_eq, i_m1, i_0, i_1, i_2, i_3, i_4, i_5, i_6, i_7, i_8, i_9, i_10, i_11, i_12, i_17, i_20, i_24, i_32, i_44, i_48, i_50, i_51, i_52, i_57, i_58, i_100, i_126]
        omega
set_option maxRecDepth 100000 in
set_option maxHeartbeats 4000000 in
theorem c_isKey {G : bpG} {C : bpC} {M : bpM} {hl : Int64} {x : Int32} : Ct G yX4_isKey cX4_isKey 1 (some .boolean) rmX4_isKey [.int x] C M hl (qI C M hl (bI (decide (0 ≤ x) && decide (x < 4)))) := by
  refine ct_of [some (.int x)] (by decide +kernel) rfl rfl (Nat.le_of_ble_eq_true rfl) ?_
  intro κ X Z
  refine r_iload_n X dX4_isKey_0 rfl ?_
  refine r_iflt 13 X dX4_isKey_1 (by decide) (fun c1 => ?_) (fun c1 => ?_)
  · show Rn G κ 13 _ _ _ _ _
    refine r_iconst (0) X dX4_isKey_13 (by decide) ?_
    refine r_zret X Z dX4_isKey_14 (by decide) ?_
    refine ⟨rfl, rfl, rfl, ret_i ?_⟩
    simp only [i_lt, i_le, i_eq, i_m1, i_0, i_1, i_2, i_3, i_4, i_5, i_6, i_7, i_8, i_9, i_10, i_11, i_12, i_17, i_20, i_24, i_32, i_44, i_48, i_50, i_51, i_52, i_57, i_58, i_100, i_126] at c1
    first | refine bI_f ?_ | refine bI_t ?_
    simp only [Bool.and_eq_true, Bool.or_eq_true, decide_eq_true_eq, Bool.and_eq_false_iff, Bool.or_eq_false_iff, decide_eq_false_iff_not, Bool.not_eq_true', Bool.not_eq_false', i_lt, i_le, i_eq, i_m1, i_0, i_1, i_2, i_3, i_4, i_5, i_6, i_7, i_8, i_9, i_10, i_11, i_12, i_17, i_20, i_24, i_32, i_44, i_48, i_50, i_51, i_52, i_57, i_58, i_100, i_126]
    omega
  · show Rn G κ 4 _ _ _ _ _
    refine r_iload_n X dX4_isKey_4 rfl ?_
    refine r_iconst (4) X dX4_isKey_5 (by decide) ?_
    refine r_icmpge 13 X dX4_isKey_6 (by decide) (fun c6 => ?_) (fun c6 => ?_)
    · show Rn G κ 13 _ _ _ _ _
      refine r_iconst (0) X dX4_isKey_13 (by decide) ?_
      refine r_zret X Z dX4_isKey_14 (by decide) ?_
      refine ⟨rfl, rfl, rfl, ret_i ?_⟩
      simp only [i_lt, i_le, i_eq, i_m1, i_0, i_1, i_2, i_3, i_4, i_5, i_6, i_7, i_8, i_9, i_10, i_11, i_12, i_17, i_20, i_24, i_32, i_44, i_48, i_50, i_51, i_52, i_57, i_58, i_100, i_126] at c1 c6
      first | refine bI_f ?_ | refine bI_t ?_
      simp only [Bool.and_eq_true, Bool.or_eq_true, decide_eq_true_eq, Bool.and_eq_false_iff, Bool.or_eq_false_iff, decide_eq_false_iff_not, Bool.not_eq_true', Bool.not_eq_false', i_lt, i_le, i_eq, i_m1, i_0, i_1, i_2, i_3, i_4, i_5, i_6, i_7, i_8, i_9, i_10, i_11, i_12, i_17, i_20, i_24, i_32, i_44, i_48, i_50, i_51, i_52, i_57, i_58, i_100, i_126]
      omega
    · show Rn G κ 9 _ _ _ _ _
      refine r_iconst (1) X dX4_isKey_9 (by decide) ?_
      refine r_goto 14 X dX4_isKey_10 (by decide) ?_
      refine r_zret X Z dX4_isKey_14 (by decide) ?_
      refine ⟨rfl, rfl, rfl, ret_i ?_⟩
      simp only [i_lt, i_le, i_eq, i_m1, i_0, i_1, i_2, i_3, i_4, i_5, i_6, i_7, i_8, i_9, i_10, i_11, i_12, i_17, i_20, i_24, i_32, i_44, i_48, i_50, i_51, i_52, i_57, i_58, i_100, i_126] at c1 c6
      first | refine bI_f ?_ | refine bI_t ?_
      simp only [Bool.and_eq_true, Bool.or_eq_true, decide_eq_true_eq, Bool.and_eq_false_iff, Bool.or_eq_false_iff, decide_eq_false_iff_not, Bool.not_eq_true', Bool.not_eq_false', i_lt, i_le, i_eq, i_m1, i_0, i_1, i_2, i_3, i_4, i_5, i_6, i_7, i_8, i_9, i_10, i_11, i_12, i_17, i_20, i_24, i_32, i_44, i_48, i_50, i_51, i_52, i_57, i_58, i_100, i_126]
      omega
set_option maxRecDepth 100000 in
set_option maxHeartbeats 4000000 in
theorem c_isFlow {G : bpG} {C : bpC} {M : bpM} {hl : Int64} {x : Int32} : Ct G yX4_isFlow cX4_isFlow 1 (some .boolean) rmX4_isFlow [.int x] C M hl (qI C M hl (bI (decide (0 ≤ x) && decide (x < 12)))) := by
  refine ct_of [some (.int x)] (by decide +kernel) rfl rfl (Nat.le_of_ble_eq_true rfl) ?_
  intro κ X Z
  refine r_iload_n X dX4_isFlow_0 rfl ?_
  refine r_iflt 14 X dX4_isFlow_1 (by decide) (fun c1 => ?_) (fun c1 => ?_)
  · show Rn G κ 14 _ _ _ _ _
    refine r_iconst (0) X dX4_isFlow_14 (by decide) ?_
    refine r_zret X Z dX4_isFlow_15 (by decide) ?_
    refine ⟨rfl, rfl, rfl, ret_i ?_⟩
    simp only [i_lt, i_le, i_eq, i_m1, i_0, i_1, i_2, i_3, i_4, i_5, i_6, i_7, i_8, i_9, i_10, i_11, i_12, i_17, i_20, i_24, i_32, i_44, i_48, i_50, i_51, i_52, i_57, i_58, i_100, i_126] at c1
    first | refine bI_f ?_ | refine bI_t ?_
    simp only [Bool.and_eq_true, Bool.or_eq_true, decide_eq_true_eq, Bool.and_eq_false_iff, Bool.or_eq_false_iff, decide_eq_false_iff_not, Bool.not_eq_true', Bool.not_eq_false', i_lt, i_le, i_eq, i_m1, i_0, i_1, i_2, i_3, i_4, i_5, i_6, i_7, i_8, i_9, i_10, i_11, i_12, i_17, i_20, i_24, i_32, i_44, i_48, i_50, i_51, i_52, i_57, i_58, i_100, i_126]
    omega
  · show Rn G κ 4 _ _ _ _ _
    refine r_iload_n X dX4_isFlow_4 rfl ?_
    refine r_bipush (12) X dX4_isFlow_5 (by decide) ?_
    refine r_icmpge 14 X dX4_isFlow_7 (by decide) (fun c7 => ?_) (fun c7 => ?_)
    · show Rn G κ 14 _ _ _ _ _
      refine r_iconst (0) X dX4_isFlow_14 (by decide) ?_
      refine r_zret X Z dX4_isFlow_15 (by decide) ?_
      refine ⟨rfl, rfl, rfl, ret_i ?_⟩
      simp only [i_lt, i_le, i_eq, i_m1, i_0, i_1, i_2, i_3, i_4, i_5, i_6, i_7, i_8, i_9, i_10, i_11, i_12, i_17, i_20, i_24, i_32, i_44, i_48, i_50, i_51, i_52, i_57, i_58, i_100, i_126] at c1 c7
      first | refine bI_f ?_ | refine bI_t ?_
      simp only [Bool.and_eq_true, Bool.or_eq_true, decide_eq_true_eq, Bool.and_eq_false_iff, Bool.or_eq_false_iff, decide_eq_false_iff_not, Bool.not_eq_true', Bool.not_eq_false', i_lt, i_le, i_eq, i_m1, i_0, i_1, i_2, i_3, i_4, i_5, i_6, i_7, i_8, i_9, i_10, i_11, i_12, i_17, i_20, i_24, i_32, i_44, i_48, i_50, i_51, i_52, i_57, i_58, i_100, i_126]
      omega
    · show Rn G κ 10 _ _ _ _ _
      refine r_iconst (1) X dX4_isFlow_10 (by decide) ?_
      refine r_goto 15 X dX4_isFlow_11 (by decide) ?_
      refine r_zret X Z dX4_isFlow_15 (by decide) ?_
      refine ⟨rfl, rfl, rfl, ret_i ?_⟩
      simp only [i_lt, i_le, i_eq, i_m1, i_0, i_1, i_2, i_3, i_4, i_5, i_6, i_7, i_8, i_9, i_10, i_11, i_12, i_17, i_20, i_24, i_32, i_44, i_48, i_50, i_51, i_52, i_57, i_58, i_100, i_126] at c1 c7
      first | refine bI_f ?_ | refine bI_t ?_
      simp only [Bool.and_eq_true, Bool.or_eq_true, decide_eq_true_eq, Bool.and_eq_false_iff, Bool.or_eq_false_iff, decide_eq_false_iff_not, Bool.not_eq_true', Bool.not_eq_false', i_lt, i_le, i_eq, i_m1, i_0, i_1, i_2, i_3, i_4, i_5, i_6, i_7, i_8, i_9, i_10, i_11, i_12, i_17, i_20, i_24, i_32, i_44, i_48, i_50, i_51, i_52, i_57, i_58, i_100, i_126]
      omega
set_option maxRecDepth 100000 in
set_option maxHeartbeats 4000000 in
theorem c_isAhead {G : bpG} {C : bpC} {M : bpM} {hl : Int64} {a : bpM} {p q : Nat} (hp : p < 6) (hq : q < 6) (rp : RPt C a p) (rq : RPt C a q) : Ct G yX4_isAhead cX4_isAhead 3 (some .boolean) rmX4_isAhead [.ref (G.1 0 0), .int (nI p), .int (nI q)] C M hl (qI C M hl (bI (ahd a p q))) := by
  rw [← ahd_rel rp rq hp hq]
  refine ct_of [some (.ref (G.1 0 0)), some (.int (nI p)), some (.int (nI q))] (by decide +kernel) rfl rfl (Nat.le_of_ble_eq_true rfl) ?_
  intro κ X Z
  refine r_aload_n X dX4_isAhead_0 rfl ?_
  refine r_gr0_1 X wfl_X4_18 dX4_isAhead_1 ?_
  refine r_iload_n X dX4_isAhead_4 rfl ?_
  refine r_aaP _ X rfl (by assumption) dX4_isAhead_5 ?_
  refine r_gi5 2 X (by assumption) wfl_X4_95 dX4_isAhead_6 (by decide) rfl ?_
  refine r_aload_n X dX4_isAhead_9 rfl ?_
  refine r_gr0_1 X wfl_X4_18 dX4_isAhead_10 ?_
  show Rn G κ 13 _ _ _ _ _
  refine r_iload_n X dX4_isAhead_13 rfl ?_
  refine r_aaP _ X rfl (by assumption) dX4_isAhead_14 ?_
  refine r_gi5 2 X (by assumption) wfl_X4_95 dX4_isAhead_15 (by decide) rfl ?_
  refine r_icmpeq 48 X dX4_isAhead_18 (by decide) (fun c18 => ?_) (fun c18 => ?_)
  · show Rn G κ 48 _ _ _ _ _
    refine r_iload_n X dX4_isAhead_48 rfl ?_
    refine r_iload_n X dX4_isAhead_49 rfl ?_
    refine r_icmpge 57 X dX4_isAhead_50 (by decide) (fun c50 => ?_) (fun c50 => ?_)
    · show Rn G κ 57 _ _ _ _ _
      refine r_iconst (0) X dX4_isAhead_57 (by decide) ?_
      refine r_zret X Z dX4_isAhead_58 (by decide) ?_
      refine ⟨rfl, rfl, rfl, ret_i ?_⟩
      simp only [i_lt, i_le, i_eq, i_m1, i_0, i_1, i_2, i_3, i_4, i_5, i_6, i_7, i_8, i_9, i_10, i_11, i_12, i_17, i_20, i_24, i_32, i_44, i_48, i_50, i_51, i_52, i_57, i_58, i_100, i_126] at c18 c50
      first | refine bI_f ?_ | refine bI_t ?_
      simp only [Bool.and_eq_true, Bool.or_eq_true, decide_eq_true_eq, Bool.and_eq_false_iff, Bool.or_eq_false_iff, decide_eq_false_iff_not, Bool.not_eq_true', Bool.not_eq_false', i_lt, i_le, i_eq, i_m1, i_0, i_1, i_2, i_3, i_4, i_5, i_6, i_7, i_8, i_9, i_10, i_11, i_12, i_17, i_20, i_24, i_32, i_44, i_48, i_50, i_51, i_52, i_57, i_58, i_100, i_126]
      omega
    · show Rn G κ 53 _ _ _ _ _
      refine r_iconst (1) X dX4_isAhead_53 (by decide) ?_
      refine r_goto 58 X dX4_isAhead_54 (by decide) ?_
      refine r_zret X Z dX4_isAhead_58 (by decide) ?_
      refine ⟨rfl, rfl, rfl, ret_i ?_⟩
      simp only [i_lt, i_le, i_eq, i_m1, i_0, i_1, i_2, i_3, i_4, i_5, i_6, i_7, i_8, i_9, i_10, i_11, i_12, i_17, i_20, i_24, i_32, i_44, i_48, i_50, i_51, i_52, i_57, i_58, i_100, i_126] at c18 c50
      first | refine bI_f ?_ | refine bI_t ?_
      simp only [Bool.and_eq_true, Bool.or_eq_true, decide_eq_true_eq, Bool.and_eq_false_iff, Bool.or_eq_false_iff, decide_eq_false_iff_not, Bool.not_eq_true', Bool.not_eq_false', i_lt, i_le, i_eq, i_m1, i_0, i_1, i_2, i_3, i_4, i_5, i_6, i_7, i_8, i_9, i_10, i_11, i_12, i_17, i_20, i_24, i_32, i_44, i_48, i_50, i_51, i_52, i_57, i_58, i_100, i_126]
      omega
  · show Rn G κ 21 _ _ _ _ _
    refine r_aload_n X dX4_isAhead_21 rfl ?_
    refine r_gr0_1 X wfl_X4_18 dX4_isAhead_22 ?_
    refine r_iload_n X dX4_isAhead_25 rfl ?_
    refine r_aaP _ X rfl (by assumption) dX4_isAhead_26 ?_
    refine r_gi5 2 X (by assumption) wfl_X4_95 dX4_isAhead_27 (by decide) rfl ?_
    refine r_aload_n X dX4_isAhead_30 rfl ?_
    refine r_gr0_1 X wfl_X4_18 dX4_isAhead_31 ?_
    show Rn G κ 34 _ _ _ _ _
    refine r_iload_n X dX4_isAhead_34 rfl ?_
    refine r_aaP _ X rfl (by assumption) dX4_isAhead_35 ?_
    refine r_gi5 2 X (by assumption) wfl_X4_95 dX4_isAhead_36 (by decide) rfl ?_
    refine r_icmpge 46 X dX4_isAhead_39 (by decide) (fun c39 => ?_) (fun c39 => ?_)
    · show Rn G κ 46 _ _ _ _ _
      refine r_iconst (0) X dX4_isAhead_46 (by decide) ?_
      refine r_zret X Z dX4_isAhead_47 (by decide) ?_
      refine ⟨rfl, rfl, rfl, ret_i ?_⟩
      simp only [i_lt, i_le, i_eq, i_m1, i_0, i_1, i_2, i_3, i_4, i_5, i_6, i_7, i_8, i_9, i_10, i_11, i_12, i_17, i_20, i_24, i_32, i_44, i_48, i_50, i_51, i_52, i_57, i_58, i_100, i_126] at c18 c39
      first | refine bI_f ?_ | refine bI_t ?_
      simp only [Bool.and_eq_true, Bool.or_eq_true, decide_eq_true_eq, Bool.and_eq_false_iff, Bool.or_eq_false_iff, decide_eq_false_iff_not, Bool.not_eq_true', Bool.not_eq_false', i_lt, i_le, i_eq, i_m1, i_0, i_1, i_2, i_3, i_4, i_5, i_6, i_7, i_8, i_9, i_10, i_11, i_12, i_17, i_20, i_24, i_32, i_44, i_48, i_50, i_51, i_52, i_57, i_58, i_100, i_126]
      omega
    · show Rn G κ 42 _ _ _ _ _
      refine r_iconst (1) X dX4_isAhead_42 (by decide) ?_
      refine r_goto 47 X dX4_isAhead_43 (by decide) ?_
      refine r_zret X Z dX4_isAhead_47 (by decide) ?_
      refine ⟨rfl, rfl, rfl, ret_i ?_⟩
      simp only [i_lt, i_le, i_eq, i_m1, i_0, i_1, i_2, i_3, i_4, i_5, i_6, i_7, i_8, i_9, i_10, i_11, i_12, i_17, i_20, i_24, i_32, i_44, i_48, i_50, i_51, i_52, i_57, i_58, i_100, i_126] at c18 c39
      first | refine bI_f ?_ | refine bI_t ?_
      simp only [Bool.and_eq_true, Bool.or_eq_true, decide_eq_true_eq, Bool.and_eq_false_iff, Bool.or_eq_false_iff, decide_eq_false_iff_not, Bool.not_eq_true', Bool.not_eq_false', i_lt, i_le, i_eq, i_m1, i_0, i_1, i_2, i_3, i_4, i_5, i_6, i_7, i_8, i_9, i_10, i_11, i_12, i_17, i_20, i_24, i_32, i_44, i_48, i_50, i_51, i_52, i_57, i_58, i_100, i_126]
      omega
theorem c_isAlikeR {G : bpG} {C : bpC} {M : bpM} {hl : Int64} {a : bpM} {p q : Nat} (hp : p < 6) (hq : q < 6) (rp : RPt C a p) (rq : RPt C a q) : Ct G yX2_isAlike cX2_isAlike 2 (some .boolean) rmX2_isAlike [.ref (G.1 5 p), .ref (G.1 5 q)] C M hl (qI C M hl (bI (alk a p q))) := by
  rw [← alk_rel rp rq]
  exact c_isAlike hp hq
set_option maxRecDepth 100000 in
set_option maxHeartbeats 4000000 in
theorem c_leadOf {G : bpG} {C : bpC} {M : bpM} {hl : Int64} {a : bpM} {key : Int32} (hR : RB C a) : Ct G yX4_leadOf cX4_leadOf 4 (some .int) rmX4_leadOf [.ref (G.1 0 0), .int key] C M hl (qI C M hl (oI (lead a key))) := by
  refine ct_of [some (.ref (G.1 0 0)), some (.int key), none, none] (by decide +kernel) rfl rfl (Nat.le_of_ble_eq_true rfl) ?_
  intro κ X Z
  obtain ⟨hS, hB, hP⟩ := hR
  have hn := hB.2.1
  have hc : C 0 0 3 = nI (np a) := hS.1.trans hB.1
  have loop : ∀ n i : Nat, i + n = np a → Rn G κ 4 [some (.ref (G.1 0 0)), some (.int key), some (.int (oI (leadN a key i))), some (.int (nI i))] [] C M hl := by
    intro n
    induction n with
    | zero =>
      intro i hi
      have hi : i = np a := by omega
      subst hi
      refine r_iload_n X dX4_leadOf_4 rfl ?_
      refine r_aload_n X dX4_leadOf_5 rfl ?_
      refine r_gi0 3 X wfl_X4_28 dX4_leadOf_6 (by decide) rfl ?_
      refine r_icmpge 59 X dX4_leadOf_9 (by decide) (fun c9 => ?_) (fun c9 => absurd (by rw [hc]; exact Int32.le_refl _) c9)
      show Rn G κ 59 _ _ _ _ _
      refine r_iload_n X dX4_leadOf_59 rfl ?_
      refine r_iret X Z dX4_leadOf_60 ?_
      exact ⟨rfl, rfl, rfl, rfl⟩
    | succ n ih =>
      intro i hi
      have hin : i < np a := by omega
      have h6 : i < 6 := by omega
      obtain ⟨k1, k2, k3, k4, k5, k6⟩ := hP i hin
      cases hb : leadN a key i with
      | none =>
        show Rn G κ 4 [some (.ref (G.1 0 0)), some (.int key), some (.int (-1)), some (.int (nI i))] [] C M hl
        refine r_iload_n X dX4_leadOf_4 rfl ?_
        refine r_aload_n X dX4_leadOf_5 rfl ?_
        refine r_gi0 3 X wfl_X4_28 dX4_leadOf_6 (by decide) rfl ?_
        refine r_icmpge 59 X dX4_leadOf_9 (by decide) (fun c9 => absurd c9 (by rw [hc]; simp only [i_lt, i_le, i_eq, i_m1, i_0, i_1, i_2, i_3, i_4, i_5, i_6, i_7, i_8, i_9, i_10, i_11, i_12, i_17, i_20, i_24, i_32, i_44, i_48, i_50, i_51, i_52, i_57, i_58, i_100, i_126, i_n (show np a < 2 ^ 31 by omega), i_n (show i < 2 ^ 31 by omega)]; omega)) (fun c9 => ?_)
        show Rn G κ 12 _ _ _ _ _
        refine r_aload_n X dX4_leadOf_12 rfl ?_
        refine r_gr0_1 X wfl_X4_18 dX4_leadOf_13 ?_
        refine r_iload_n X dX4_leadOf_16 rfl ?_
        show Rn G κ 17 _ _ _ _ _
        refine r_aaP _ X rfl (by assumption) dX4_leadOf_17 ?_
        refine r_gi5 1 X (by assumption) wfl_X4_131 dX4_leadOf_18 (by decide) rfl ?_
        refine r_iload_n X dX4_leadOf_21 rfl ?_
        refine r_icmpne 53 X dX4_leadOf_22 (by decide) (fun c22 => ?_) (fun c22 => ?_)
        · show Rn G κ 53 _ _ _ _ _
          refine r_iinc_3 (nI (i + 1)) X dX4_leadOf_53 (nI_1 i) rfl ?_
          refine r_goto 4 X dX4_leadOf_56 (by decide) ?_
          have e : leadN a key (i + 1) = leadN a key i := by
            simp only [leadN]
            rw [if_neg]
            rintro ⟨h1, h2, h3⟩
            exact c22 (k1.trans h1)
          have := ih (i + 1) (by omega)
          rw [e, hb] at this
          exact this
        · show Rn G κ 25 _ _ _ _ _
          refine r_aload_n X dX4_leadOf_25 rfl ?_
          refine r_gr0_1 X wfl_X4_18 dX4_leadOf_26 ?_
          refine r_iload_n X dX4_leadOf_29 rfl ?_
          refine r_aaP _ X rfl (by assumption) dX4_leadOf_30 ?_
          refine r_gi5 4 X (by assumption) wfl_X4_109 dX4_leadOf_31 (by decide) rfl ?_
          refine r_ifeq 53 X dX4_leadOf_34 (by decide) (fun c34 => ?_) (fun c34 => ?_)
          · show Rn G κ 53 _ _ _ _ _
            refine r_iinc_3 (nI (i + 1)) X dX4_leadOf_53 (nI_1 i) rfl ?_
            refine r_goto 4 X dX4_leadOf_56 (by decide) ?_
            have e : leadN a key (i + 1) = leadN a key i := by
              simp only [leadN]
              rw [if_neg]
              rintro ⟨h1, h2, h3⟩
              exact absurd h2 (of_decide_eq_false (bI_0 (k4 ▸ c34)))
            have := ih (i + 1) (by omega)
            rw [e, hb] at this
            exact this
          · show Rn G κ 37 _ _ _ _ _
            refine r_iload_n X dX4_leadOf_37 rfl ?_
            refine r_iconst (-1) X dX4_leadOf_38 (by decide) ?_
            refine r_icmpeq 51 X dX4_leadOf_39 (by decide) (fun c39 => ?_) (fun c39 => absurd rfl c39)
            show Rn G κ 51 _ _ _ _ _
            refine r_iload_n X dX4_leadOf_51 rfl ?_
            refine r_istore_2 X dX4_leadOf_52 rfl ?_
            refine r_iinc_3 (nI (i + 1)) X dX4_leadOf_53 (nI_1 i) rfl ?_
            refine r_goto 4 X dX4_leadOf_56 (by decide) ?_
            have e : leadN a key (i + 1) = some i := by
              simp only [leadN]
              rw [if_pos]
              refine ⟨k1 ▸ c22, of_decide_eq_true (bI_1 (k4 ▸ c34)), ?_⟩
              intro b' hb'
              rw [hb] at hb'; cases hb'
            have := ih (i + 1) (by omega)
            rw [e] at this
            exact this
      | some b =>
        have hbi := leadN_ltn hb
        have hb6 : b < 6 := by omega
        show Rn G κ 4 [some (.ref (G.1 0 0)), some (.int key), some (.int (nI b)), some (.int (nI i))] [] C M hl
        refine r_iload_n X dX4_leadOf_4 rfl ?_
        refine r_aload_n X dX4_leadOf_5 rfl ?_
        refine r_gi0 3 X wfl_X4_28 dX4_leadOf_6 (by decide) rfl ?_
        refine r_icmpge 59 X dX4_leadOf_9 (by decide) (fun c9 => absurd c9 (by rw [hc]; simp only [i_lt, i_le, i_eq, i_m1, i_0, i_1, i_2, i_3, i_4, i_5, i_6, i_7, i_8, i_9, i_10, i_11, i_12, i_17, i_20, i_24, i_32, i_44, i_48, i_50, i_51, i_52, i_57, i_58, i_100, i_126, i_n (show np a < 2 ^ 31 by omega), i_n (show i < 2 ^ 31 by omega)]; omega)) (fun c9 => ?_)
        show Rn G κ 12 _ _ _ _ _
        refine r_aload_n X dX4_leadOf_12 rfl ?_
        refine r_gr0_1 X wfl_X4_18 dX4_leadOf_13 ?_
        refine r_iload_n X dX4_leadOf_16 rfl ?_
        show Rn G κ 17 _ _ _ _ _
        refine r_aaP _ X rfl (by assumption) dX4_leadOf_17 ?_
        refine r_gi5 1 X (by assumption) wfl_X4_131 dX4_leadOf_18 (by decide) rfl ?_
        refine r_iload_n X dX4_leadOf_21 rfl ?_
        refine r_icmpne 53 X dX4_leadOf_22 (by decide) (fun c22 => ?_) (fun c22 => ?_)
        · show Rn G κ 53 _ _ _ _ _
          refine r_iinc_3 (nI (i + 1)) X dX4_leadOf_53 (nI_1 i) rfl ?_
          refine r_goto 4 X dX4_leadOf_56 (by decide) ?_
          have e : leadN a key (i + 1) = leadN a key i := by
            simp only [leadN]
            rw [if_neg]
            rintro ⟨h1, h2, h3⟩
            exact c22 (k1.trans h1)
          have := ih (i + 1) (by omega)
          rw [e, hb] at this
          exact this
        · show Rn G κ 25 _ _ _ _ _
          refine r_aload_n X dX4_leadOf_25 rfl ?_
          refine r_gr0_1 X wfl_X4_18 dX4_leadOf_26 ?_
          refine r_iload_n X dX4_leadOf_29 rfl ?_
          refine r_aaP _ X rfl (by assumption) dX4_leadOf_30 ?_
          refine r_gi5 4 X (by assumption) wfl_X4_109 dX4_leadOf_31 (by decide) rfl ?_
          refine r_ifeq 53 X dX4_leadOf_34 (by decide) (fun c34 => ?_) (fun c34 => ?_)
          · show Rn G κ 53 _ _ _ _ _
            refine r_iinc_3 (nI (i + 1)) X dX4_leadOf_53 (nI_1 i) rfl ?_
            refine r_goto 4 X dX4_leadOf_56 (by decide) ?_
            have e : leadN a key (i + 1) = leadN a key i := by
              simp only [leadN]
              rw [if_neg]
              rintro ⟨h1, h2, h3⟩
              exact absurd h2 (of_decide_eq_false (bI_0 (k4 ▸ c34)))
            have := ih (i + 1) (by omega)
            rw [e, hb] at this
            exact this
          · show Rn G κ 37 _ _ _ _ _
            refine r_iload_n X dX4_leadOf_37 rfl ?_
            refine r_iconst (-1) X dX4_leadOf_38 (by decide) ?_
            refine r_icmpeq 51 X dX4_leadOf_39 (by decide) (fun c39 => absurd c39 (nI_m1 (show b < 2 ^ 31 by omega))) (fun c39 => ?_)
            show Rn G κ 42 _ _ _ _ _
            refine r_aload_n X dX4_leadOf_42 rfl ?_
            refine r_iload_n X dX4_leadOf_43 rfl ?_
            refine r_iload_n X dX4_leadOf_44 rfl ?_
            refine r_cv2_I X mdX4_isAhead wml_X4_266 dX4_leadOf_45 ⟨rfl, rfl, Nat.le_of_ble_eq_true rfl, Nat.le_of_ble_eq_true rfl⟩ (by decide) rfl rfl (Nat.le_of_ble_eq_true rfl) rfl (zroom Z) (c_isAhead h6 hb6 (hP i hin) (hP b (by omega))) ?_
            show Rn G κ 48 _ _ _ _ _
            show Rn G κ 48 _ _ _ _ _
            refine r_ifeq 53 X dX4_leadOf_48 (by decide) (fun c48 => ?_) (fun c48 => ?_)
            · show Rn G κ 53 _ _ _ _ _
              refine r_iinc_3 (nI (i + 1)) X dX4_leadOf_53 (nI_1 i) rfl ?_
              refine r_goto 4 X dX4_leadOf_56 (by decide) ?_
              have e : leadN a key (i + 1) = leadN a key i := by
                simp only [leadN]
                rw [if_neg]
                rintro ⟨h1, h2, h3⟩
                have h4 := h3 _ hb; rw [h4] at c48; exact absurd c48 (by decide)
              have := ih (i + 1) (by omega)
              rw [e, hb] at this
              exact this
            · show Rn G κ 51 _ _ _ _ _
              refine r_iload_n X dX4_leadOf_51 rfl ?_
              refine r_istore_2 X dX4_leadOf_52 rfl ?_
              refine r_iinc_3 (nI (i + 1)) X dX4_leadOf_53 (nI_1 i) rfl ?_
              refine r_goto 4 X dX4_leadOf_56 (by decide) ?_
              have e : leadN a key (i + 1) = some i := by
                simp only [leadN]
                rw [if_pos]
                refine ⟨k1 ▸ c22, of_decide_eq_true (bI_1 (k4 ▸ c34)), ?_⟩
                intro b' hb'
                rw [hb] at hb'; cases hb'; exact bI_1 c48
              have := ih (i + 1) (by omega)
              rw [e] at this
              exact this
  refine r_iconst (-1) X dX4_leadOf_0 (by decide) ?_
  refine r_istore_2 X dX4_leadOf_1 rfl ?_
  refine r_iconst (0) X dX4_leadOf_2 (by decide) ?_
  refine r_istore_3 X dX4_leadOf_3 rfl ?_
  exact loop (np a) 0 (by omega)
set_option maxRecDepth 100000 in
set_option maxHeartbeats 4000000 in
theorem c_choiceOf_none {G : bpG} {C : bpC} {M : bpM} {hl : Int64} {a : bpM} {p : Nat} (hR : RB C a) (hp : p < np a) : Ct G yX4_choiceOf cX4_choiceOf 5 (some .int) rmX4_choiceOf [.ref (G.1 0 0), .int (nI p), .int (-1)] C M hl (qI C M hl 0) := by
  refine ct_of [some (.ref (G.1 0 0)), some (.int (nI p)), some (.int (-1)), none, none] (by decide +kernel) rfl rfl (Nat.le_of_ble_eq_true rfl) ?_
  intro κ X Z
  refine r_aload_n X dX4_choiceOf_0 rfl ?_
  refine r_iload_n X dX4_choiceOf_1 rfl ?_
  refine r_cv1_I X mdX4_isPort wml_X4_92 dX4_choiceOf_2 ⟨rfl, rfl, Nat.le_of_ble_eq_true rfl, Nat.le_of_ble_eq_true rfl⟩ (by decide) rfl rfl (Nat.le_of_ble_eq_true rfl) rfl (zroom Z) (c_isPort hR.1.1 hR.2.1) ?_
  show Rn G κ 5 _ _ _ _ _
  refine r_ifeq 26 X dX4_choiceOf_5 (by decide) (fun c5 => ?_) (fun c5 => absurd (by rw [isP_m1]; rfl) c5)
  show Rn G κ 26 _ _ _ _ _
  refine r_iconst (0) X dX4_choiceOf_26 (by decide) ?_
  refine r_iret X Z dX4_choiceOf_27 ?_
  exact ⟨rfl, rfl, rfl, rfl⟩
set_option maxRecDepth 100000 in
set_option maxHeartbeats 4000000 in
theorem c_choiceOf_some {G : bpG} {C : bpC} {M : bpM} {hl : Int64} {a : bpM} {p l : Nat} (hR : RB C a) (hp : p < np a) (hl2 : l < np a) : Ct G yX4_choiceOf cX4_choiceOf 5 (some .int) rmX4_choiceOf [.ref (G.1 0 0), .int (nI p), .int (nI l)] C M hl (qI C M hl (choL a p (some l))) := by
  refine ct_of [some (.ref (G.1 0 0)), some (.int (nI p)), some (.int (nI l)), none, none] (by decide +kernel) rfl rfl (Nat.le_of_ble_eq_true rfl) ?_
  intro κ X Z
  obtain ⟨hS, hB, hP⟩ := hR
  have hn := hB.2.1
  have hc : C 0 0 3 = nI (np a) := hS.1.trans hB.1
  have hp6 : p < 6 := by omega
  have hl6 : l < 6 := by omega
  have loop : alk a p l = true → ∀ n i : Nat, i + n = np a → Rn G κ 33 [some (.ref (G.1 0 0)), some (.int (nI p)), some (.int (nI l)), some (.int (nI (ctN (fun q => alk a q l && ahd a q p) i))), some (.int (nI i))] [] C M hl := by
    intro hal n
    induction n with
    | zero =>
      intro i hi
      have hi : i = np a := by omega
      subst hi
      refine r_iload X dX4_choiceOf_33 rfl ?_
      refine r_aload_n X dX4_choiceOf_35 rfl ?_
      refine r_gi0 3 X wfl_X4_28 dX4_choiceOf_36 (by decide) rfl ?_
      refine r_icmpge 80 X dX4_choiceOf_39 (by decide) (fun c39 => ?_) (fun c39 => absurd (by rw [hc]; exact Int32.le_refl _) c39)
      show Rn G κ 80 _ _ _ _ _
      refine r_iload_n X dX4_choiceOf_80 rfl ?_
      refine r_aload_n X dX4_choiceOf_81 rfl ?_
      refine r_gi0 4 X wfl_X4_32 dX4_choiceOf_82 (by decide) rfl ?_
      show Rn G κ 85 _ _ _ _ _
      refine r_icmpge 92 X dX4_choiceOf_85 (by decide) (fun c85 => ?_) (fun c85 => ?_)
      · show Rn G κ 92 _ _ _ _ _
        refine r_iconst (1) X dX4_choiceOf_92 (by decide) ?_
        refine r_iret X Z dX4_choiceOf_93 ?_
        refine ⟨rfl, rfl, rfl, ret_i ?_⟩
        rw [hS.2.1] at c85
        simp only [choL, hal, if_pos]
        first | (rw [if_neg]; simp only [i_lt, i_le] at c85 ⊢; omega) | (rw [if_pos]; simp only [i_lt, i_le] at c85 ⊢; omega)
      · show Rn G κ 88 _ _ _ _ _
        refine r_iconst (2) X dX4_choiceOf_88 (by decide) ?_
        refine r_goto 93 X dX4_choiceOf_89 (by decide) ?_
        refine r_iret X Z dX4_choiceOf_93 ?_
        refine ⟨rfl, rfl, rfl, ret_i ?_⟩
        rw [hS.2.1] at c85
        simp only [choL, hal, if_pos]
        first | (rw [if_neg]; simp only [i_lt, i_le] at c85 ⊢; omega) | (rw [if_pos]; simp only [i_lt, i_le] at c85 ⊢; omega)
    | succ n ih =>
      intro i hi
      have hin : i < np a := by omega
      have h6 : i < 6 := by omega
      refine r_iload X dX4_choiceOf_33 rfl ?_
      refine r_aload_n X dX4_choiceOf_35 rfl ?_
      refine r_gi0 3 X wfl_X4_28 dX4_choiceOf_36 (by decide) rfl ?_
      refine r_icmpge 80 X dX4_choiceOf_39 (by decide) (fun c39 => absurd c39 (by rw [hc]; simp only [i_lt, i_le, i_eq, i_m1, i_0, i_1, i_2, i_3, i_4, i_5, i_6, i_7, i_8, i_9, i_10, i_11, i_12, i_17, i_20, i_24, i_32, i_44, i_48, i_50, i_51, i_52, i_57, i_58, i_100, i_126, i_n (show np a < 2 ^ 31 by omega), i_n (show i < 2 ^ 31 by omega)]; omega)) (fun c39 => ?_)
      show Rn G κ 42 _ _ _ _ _
      refine r_aload_n X dX4_choiceOf_42 rfl ?_
      refine r_gr0_1 X wfl_X4_18 dX4_choiceOf_43 ?_
      refine r_iload X dX4_choiceOf_46 rfl ?_
      show Rn G κ 48 _ _ _ _ _
      refine r_aaP _ X rfl (by assumption) dX4_choiceOf_48 ?_
      refine r_aload_n X dX4_choiceOf_49 rfl ?_
      refine r_gr0_1 X wfl_X4_18 dX4_choiceOf_50 ?_
      refine r_iload_n X dX4_choiceOf_53 rfl ?_
      refine r_aaP _ X rfl (by assumption) dX4_choiceOf_54 ?_
      refine r_cv1_I X mdX2_isAlike wml_X4_263 dX4_choiceOf_55 ⟨rfl, rfl, Nat.le_of_ble_eq_true rfl, Nat.le_of_ble_eq_true rfl⟩ (by assumption) rfl rfl (Nat.le_of_ble_eq_true rfl) rfl (zroom Z) (c_isAlikeR h6 hl6 (hP i hin) (hP l hl2)) ?_
      show Rn G κ 58 _ _ _ _ _
      refine r_ifeq 74 X dX4_choiceOf_58 (by decide) (fun c58 => ?_) (fun c58 => ?_)
      · show Rn G κ 74 _ _ _ _ _
        refine r_iinc_4 (nI (i + 1)) X dX4_choiceOf_74 (nI_1 i) rfl ?_
        refine r_goto 33 X dX4_choiceOf_77 (by decide) ?_
        have := ih (i + 1) (by omega)
        rw [ctN_f (by simp [bI_0 c58])] at this
        exact this
      · show Rn G κ 61 _ _ _ _ _
        refine r_aload_n X dX4_choiceOf_61 rfl ?_
        refine r_iload X dX4_choiceOf_62 rfl ?_
        refine r_iload_n X dX4_choiceOf_64 rfl ?_
        refine r_cv2_I X mdX4_isAhead wml_X4_266 dX4_choiceOf_65 ⟨rfl, rfl, Nat.le_of_ble_eq_true rfl, Nat.le_of_ble_eq_true rfl⟩ (by decide) rfl rfl (Nat.le_of_ble_eq_true rfl) rfl (zroom Z) (c_isAhead h6 hp6 (hP i hin) (hP p hp)) ?_
        show Rn G κ 68 _ _ _ _ _
        refine r_ifeq 74 X dX4_choiceOf_68 (by decide) (fun c68 => ?_) (fun c68 => ?_)
        · show Rn G κ 74 _ _ _ _ _
          refine r_iinc_4 (nI (i + 1)) X dX4_choiceOf_74 (nI_1 i) rfl ?_
          refine r_goto 33 X dX4_choiceOf_77 (by decide) ?_
          have := ih (i + 1) (by omega)
          rw [ctN_f (by simp [bI_1 c58, bI_0 c68])] at this
          exact this
        · show Rn G κ 71 _ _ _ _ _
          refine r_iinc_3 (nI (ctN (fun q => alk a q l && ahd a q p) i + 1)) X dX4_choiceOf_71 (nI_1 _) rfl ?_
          refine r_iinc_4 (nI (i + 1)) X dX4_choiceOf_74 (nI_1 i) rfl ?_
          refine r_goto 33 X dX4_choiceOf_77 (by decide) ?_
          have := ih (i + 1) (by omega)
          rw [ctN_t (by simp [bI_1 c58, bI_1 c68])] at this
          exact this
  refine r_aload_n X dX4_choiceOf_0 rfl ?_
  refine r_iload_n X dX4_choiceOf_1 rfl ?_
  refine r_cv1_I X mdX4_isPort wml_X4_92 dX4_choiceOf_2 ⟨rfl, rfl, Nat.le_of_ble_eq_true rfl, Nat.le_of_ble_eq_true rfl⟩ (by decide) rfl rfl (Nat.le_of_ble_eq_true rfl) rfl (zroom Z) (c_isPort hS.1 hB) ?_
  show Rn G κ 5 _ _ _ _ _
  refine r_ifeq 26 X dX4_choiceOf_5 (by decide) (fun c5 => absurd c5 (by rw [isP_n hB hl2]; decide)) (fun c5 => ?_)
  show Rn G κ 8 _ _ _ _ _
  refine r_aload_n X dX4_choiceOf_8 rfl ?_
  refine r_gr0_1 X wfl_X4_18 dX4_choiceOf_9 ?_
  refine r_iload_n X dX4_choiceOf_12 rfl ?_
  show Rn G κ 13 _ _ _ _ _
  refine r_aaP _ X rfl (by assumption) dX4_choiceOf_13 ?_
  refine r_aload_n X dX4_choiceOf_14 rfl ?_
  refine r_gr0_1 X wfl_X4_18 dX4_choiceOf_15 ?_
  refine r_iload_n X dX4_choiceOf_18 rfl ?_
  refine r_aaP _ X rfl (by assumption) dX4_choiceOf_19 ?_
  refine r_cv1_I X mdX2_isAlike wml_X4_263 dX4_choiceOf_20 ⟨rfl, rfl, Nat.le_of_ble_eq_true rfl, Nat.le_of_ble_eq_true rfl⟩ (by assumption) rfl rfl (Nat.le_of_ble_eq_true rfl) rfl (zroom Z) (c_isAlikeR hp6 hl6 (hP p hp) (hP l hl2)) ?_
  show Rn G κ 23 _ _ _ _ _
  refine r_ifne 28 X dX4_choiceOf_23 (by decide) (fun c23 => ?_) (fun c23 => ?_)
  · show Rn G κ 28 _ _ _ _ _
    refine r_iconst (0) X dX4_choiceOf_28 (by decide) ?_
    refine r_istore_3 X dX4_choiceOf_29 rfl ?_
    refine r_iconst (0) X dX4_choiceOf_30 (by decide) ?_
    refine r_istore_4 X dX4_choiceOf_31 rfl ?_
    exact loop (bI_1 c23) (np a) 0 (by omega)
  · show Rn G κ 26 _ _ _ _ _
    refine r_iconst (0) X dX4_choiceOf_26 (by decide) ?_
    refine r_iret X Z dX4_choiceOf_27 ?_
    refine ⟨rfl, rfl, rfl, ret_i ?_⟩
    simp only [choL, bI_0 c23]
    rfl
theorem c_choiceOf {G : bpG} {C : bpC} {M : bpM} {hl : Int64} {a : bpM} {p : Nat} {l : Option Nat} (hR : RB C a) (hp : p < np a) (hl2 : ∀ b, l = some b → b < np a) : Ct G yX4_choiceOf cX4_choiceOf 5 (some .int) rmX4_choiceOf [.ref (G.1 0 0), .int (nI p), .int (oI l)] C M hl (qI C M hl (choL a p l)) := by
  cases l with
  | none => exact c_choiceOf_none hR hp
  | some b => exact c_choiceOf_some hR hp (hl2 b rfl)
set_option maxRecDepth 100000 in
set_option maxHeartbeats 4000000 in
theorem c_howItIs {G : bpG} {C : bpC} {M : bpM} {hl : Int64} {a : bpM} {p : Nat} (hS : RSc C a) (hp : p < 6) (rp : RPt C a p) (rc : RCh C a p) : Ct G yX4_howItIs cX4_howItIs 2 (some .int) rmX4_howItIs [.ref (G.1 0 0), .ref (G.1 5 p)] C M hl (qI C M hl (stat a p)) := by
  refine ct_of [some (.ref (G.1 0 0)), some (.ref (G.1 5 p))] (by decide +kernel) rfl rfl (Nat.le_of_ble_eq_true rfl) ?_
  intro κ X Z
  refine r_aload_n X dX4_howItIs_0 rfl ?_
  refine r_gi5 9 X (by assumption) wfl_X4_260 dX4_howItIs_1 (by decide) rfl ?_
  refine r_iconst (2) X dX4_howItIs_4 (by decide) ?_
  refine r_icmpne 19 X dX4_howItIs_5 (by decide) (fun c5 => ?_) (fun c5 => ?_)
  · show Rn G κ 19 _ _ _ _ _
    refine r_aload_n X dX4_howItIs_19 rfl ?_
    refine r_gi5 9 X (by assumption) wfl_X4_260 dX4_howItIs_20 (by decide) rfl ?_
    refine r_iret X Z dX4_howItIs_23 ?_
    refine ⟨rfl, rfl, rfl, ret_i ?_⟩
    unfold RCh at rc
    try rw [rc] at c5
    try rw [rp.2.2.2.2.1, hS.2.2.1] at c16
    try rw [rc]
    unfold stat
    first
    | (rw [if_neg c5]; done)
    | (rw [if_pos c5, if_pos (by simp only [i_lt, i_le] at c16 ⊢; omega)]; exact c5)
    | (rw [(rp.2.2.2.2.2 (choi_heard c5)).2.2.1] at c28
       rw [if_pos c5, if_neg (by simp only [i_lt, i_le] at c16 ⊢; omega)]
       first | (rw [if_pos c28]; done) | (rw [if_neg c28]; done))
  · show Rn G κ 8 _ _ _ _ _
    refine r_aload_n X dX4_howItIs_8 rfl ?_
    refine r_gi5 10 X (by assumption) wfl_X4_150 dX4_howItIs_9 (by decide) rfl ?_
    refine r_aload_n X dX4_howItIs_12 rfl ?_
    refine r_gi0 5 X wfl_X4_35 dX4_howItIs_13 (by decide) rfl ?_
    refine r_icmpge 24 X dX4_howItIs_16 (by decide) (fun c16 => ?_) (fun c16 => ?_)
    · show Rn G κ 24 _ _ _ _ _
      refine r_aload_n X dX4_howItIs_24 rfl ?_
      refine r_gi5 7 X (by assumption) wfl_X4_140 dX4_howItIs_25 (by decide) rfl ?_
      refine r_ifeq 35 X dX4_howItIs_28 (by decide) (fun c28 => ?_) (fun c28 => ?_)
      · show Rn G κ 35 _ _ _ _ _
        refine r_iconst (3) X dX4_howItIs_35 (by decide) ?_
        refine r_iret X Z dX4_howItIs_36 ?_
        refine ⟨rfl, rfl, rfl, ret_i ?_⟩
        unfold RCh at rc
        try rw [rc] at c5
        try rw [rp.2.2.2.2.1, hS.2.2.1] at c16
        try rw [rc]
        unfold stat
        first
        | (rw [if_neg c5]; done)
        | (rw [if_pos c5, if_pos (by simp only [i_lt, i_le] at c16 ⊢; omega)]; exact c5)
        | (rw [(rp.2.2.2.2.2 (choi_heard c5)).2.2.1] at c28
           rw [if_pos c5, if_neg (by simp only [i_lt, i_le] at c16 ⊢; omega)]
           first | (rw [if_pos c28]; done) | (rw [if_neg c28]; done))
      · show Rn G κ 31 _ _ _ _ _
        refine r_iconst (4) X dX4_howItIs_31 (by decide) ?_
        refine r_goto 36 X dX4_howItIs_32 (by decide) ?_
        refine r_iret X Z dX4_howItIs_36 ?_
        refine ⟨rfl, rfl, rfl, ret_i ?_⟩
        unfold RCh at rc
        try rw [rc] at c5
        try rw [rp.2.2.2.2.1, hS.2.2.1] at c16
        try rw [rc]
        unfold stat
        first
        | (rw [if_neg c5]; done)
        | (rw [if_pos c5, if_pos (by simp only [i_lt, i_le] at c16 ⊢; omega)]; exact c5)
        | (rw [(rp.2.2.2.2.2 (choi_heard c5)).2.2.1] at c28
           rw [if_pos c5, if_neg (by simp only [i_lt, i_le] at c16 ⊢; omega)]
           first | (rw [if_pos c28]; done) | (rw [if_neg c28]; done))
    · show Rn G κ 19 _ _ _ _ _
      refine r_aload_n X dX4_howItIs_19 rfl ?_
      refine r_gi5 9 X (by assumption) wfl_X4_260 dX4_howItIs_20 (by decide) rfl ?_
      refine r_iret X Z dX4_howItIs_23 ?_
      refine ⟨rfl, rfl, rfl, ret_i ?_⟩
      unfold RCh at rc
      try rw [rc] at c5
      try rw [rp.2.2.2.2.1, hS.2.2.1] at c16
      try rw [rc]
      unfold stat
      first
      | (rw [if_neg c5]; done)
      | (rw [if_pos c5, if_pos (by simp only [i_lt, i_le] at c16 ⊢; omega)]; exact c5)
      | (rw [(rp.2.2.2.2.2 (choi_heard c5)).2.2.1] at c28
         rw [if_pos c5, if_neg (by simp only [i_lt, i_le] at c16 ⊢; omega)]
         first | (rw [if_pos c28]; done) | (rw [if_neg c28]; done))
set_option maxRecDepth 100000 in
set_option maxHeartbeats 4000000 in
theorem c_carries {G : bpG} {C : bpC} {M : bpM} {hl : Int64} {a : bpM} {p : Nat} (hS : RSc C a) (hp : p < 6) (rp : RPt C a p) (rc : RCh C a p) : Ct G yX4_carries cX4_carries 2 (some .boolean) rmX4_carries [.ref (G.1 0 0), .ref (G.1 5 p)] C M hl (qI C M hl (bI (decide (stat a p = 4)))) := by
  refine ct_of [some (.ref (G.1 0 0)), some (.ref (G.1 5 p))] (by decide +kernel) rfl rfl (Nat.le_of_ble_eq_true rfl) ?_
  intro κ X Z
  refine r_aload_n X dX4_carries_0 rfl ?_
  refine r_aload_n X dX4_carries_1 rfl ?_
  refine r_cv1_I X mdX4_howItIs wml_X4_146 dX4_carries_2 ⟨rfl, rfl, Nat.le_of_ble_eq_true rfl, Nat.le_of_ble_eq_true rfl⟩ (by decide) rfl rfl (Nat.le_of_ble_eq_true rfl) rfl (zroom Z) (c_howItIs hS hp rp rc) ?_
  show Rn G κ 5 _ _ _ _ _
  refine r_iconst (4) X dX4_carries_5 (by decide) ?_
  refine r_icmpne 13 X dX4_carries_6 (by decide) (fun c6 => ?_) (fun c6 => ?_)
  · show Rn G κ 13 _ _ _ _ _
    refine r_iconst (0) X dX4_carries_13 (by decide) ?_
    refine r_zret X Z dX4_carries_14 (by decide) ?_
    refine ⟨rfl, rfl, rfl, ret_i ?_⟩
    simp [bI, c6]
  · show Rn G κ 9 _ _ _ _ _
    refine r_iconst (1) X dX4_carries_9 (by decide) ?_
    refine r_goto 14 X dX4_carries_10 (by decide) ?_
    refine r_zret X Z dX4_carries_14 (by decide) ?_
    refine ⟨rfl, rfl, rfl, ret_i ?_⟩
    simp [bI, c6]
set_option maxRecDepth 100000 in
set_option maxHeartbeats 4000000 in
theorem c_bitsOf {G : bpG} {C : bpC} {M : bpM} {hl : Int64} {a : bpM} {key lo hi : Int32} (hR : RB C a) (hC : ∀ p, p < np a → RCh C a p) : Ct G yX4_bitsOf cX4_bitsOf 7 (some .int) rmX4_bitsOf [.ref (G.1 0 0), .int key, .int lo, .int hi] C M hl (qI C M hl (nI (bits a key lo hi))) := by
  refine ct_of [some (.ref (G.1 0 0)), some (.int key), some (.int lo), some (.int hi), none, none, none] (by decide +kernel) rfl rfl (Nat.le_of_ble_eq_true rfl) ?_
  intro κ X Z
  obtain ⟨hS, hB, hP⟩ := hR
  have hn := hB.2.1
  have hc : C 0 0 3 = nI (np a) := hS.1.trans hB.1
  have loop : ∀ (n i : Nat) (z : Option Value), i + n = np a → Rn G κ 6 [some (.ref (G.1 0 0)), some (.int key), some (.int lo), some (.int hi), some (.int (nI (bitN a key lo hi i))), some (.int (nI i)), z] [] C M hl := by
    intro n
    induction n with
    | zero =>
      intro i z hi2
      have hi2 : i = np a := by omega
      subst hi2
      refine r_iload X dX4_bitsOf_6 rfl ?_
      refine r_aload_n X dX4_bitsOf_8 rfl ?_
      refine r_gi0 3 X wfl_X4_28 dX4_bitsOf_9 (by decide) rfl ?_
      refine r_icmpge 69 X dX4_bitsOf_12 (by decide) (fun c12 => ?_) (fun c12 => absurd (by rw [hc]; exact Int32.le_refl _) c12)
      show Rn G κ 69 _ _ _ _ _
      refine r_iload X dX4_bitsOf_69 rfl ?_
      refine r_iret X Z dX4_bitsOf_71 ?_
      exact ⟨rfl, rfl, rfl, rfl⟩
    | succ n ih =>
      intro i z hi2
      have hin : i < np a := by omega
      have h6 : i < 6 := by omega
      obtain ⟨k1, k2, k3, k4, k5, k6⟩ := hP i hin
      refine r_iload X dX4_bitsOf_6 rfl ?_
      refine r_aload_n X dX4_bitsOf_8 rfl ?_
      refine r_gi0 3 X wfl_X4_28 dX4_bitsOf_9 (by decide) rfl ?_
      refine r_icmpge 69 X dX4_bitsOf_12 (by decide) (fun c12 => absurd c12 (by rw [hc]; simp only [i_lt, i_le, i_eq, i_m1, i_0, i_1, i_2, i_3, i_4, i_5, i_6, i_7, i_8, i_9, i_10, i_11, i_12, i_17, i_20, i_24, i_32, i_44, i_48, i_50, i_51, i_52, i_57, i_58, i_100, i_126, i_n (show np a < 2 ^ 31 by omega), i_n (show i < 2 ^ 31 by omega)]; omega)) (fun c12 => ?_)
      show Rn G κ 15 _ _ _ _ _
      refine r_aload_n X dX4_bitsOf_15 rfl ?_
      refine r_aload_n X dX4_bitsOf_16 rfl ?_
      refine r_gr0_1 X wfl_X4_18 dX4_bitsOf_17 ?_
      show Rn G κ 20 _ _ _ _ _
      refine r_iload X dX4_bitsOf_20 rfl ?_
      refine r_aaP _ X rfl (by assumption) dX4_bitsOf_22 ?_
      refine r_cv1_I X mdX4_howItIs wml_X4_146 dX4_bitsOf_23 ⟨rfl, rfl, Nat.le_of_ble_eq_true rfl, Nat.le_of_ble_eq_true rfl⟩ (by decide) rfl rfl (Nat.le_of_ble_eq_true rfl) rfl (zroom Z) (c_howItIs hS h6 (hP i hin) (hC i hin)) ?_
      show Rn G κ 26 _ _ _ _ _
      refine r_istore_6 X dX4_bitsOf_26 rfl ?_
      refine r_aload_n X dX4_bitsOf_28 rfl ?_
      refine r_gr0_1 X wfl_X4_18 dX4_bitsOf_29 ?_
      refine r_iload X dX4_bitsOf_32 rfl ?_
      refine r_aaP _ X rfl (by assumption) dX4_bitsOf_34 ?_
      show Rn G κ 35 _ _ _ _ _
      refine r_gi5 1 X (by assumption) wfl_X4_131 dX4_bitsOf_35 (by decide) rfl ?_
      refine r_iload_n X dX4_bitsOf_38 rfl ?_
      refine r_icmpne 63 X dX4_bitsOf_39 (by decide) (fun c39 => ?_) (fun c39 => ?_)
      · show Rn G κ 63 _ _ _ _ _
        refine r_iinc_5 (nI (i + 1)) X dX4_bitsOf_63 (nI_1 i) rfl ?_
        refine r_goto 6 X dX4_bitsOf_66 (by decide) ?_
        have := ih (i + 1) (some (.int (stat a i))) (by omega)
        rw [bitN_f (fun q => c39 (k1.trans q.1))] at this
        exact this
      · show Rn G κ 42 _ _ _ _ _
        refine r_iload X dX4_bitsOf_42 rfl ?_
        refine r_iload_n X dX4_bitsOf_44 rfl ?_
        refine r_icmplt 63 X dX4_bitsOf_45 (by decide) (fun c45 => ?_) (fun c45 => ?_)
        · show Rn G κ 63 _ _ _ _ _
          refine r_iinc_5 (nI (i + 1)) X dX4_bitsOf_63 (nI_1 i) rfl ?_
          refine r_goto 6 X dX4_bitsOf_66 (by decide) ?_
          have := ih (i + 1) (some (.int (stat a i))) (by omega)
          rw [bitN_f (fun q => by have := q.2.1; simp only [i_lt, i_le] at c45 this; omega)] at this
          exact this
        · show Rn G κ 48 _ _ _ _ _
          refine r_iload X dX4_bitsOf_48 rfl ?_
          refine r_iload_n X dX4_bitsOf_50 rfl ?_
          refine r_icmpgt 63 X dX4_bitsOf_51 (by decide) (fun c51 => ?_) (fun c51 => ?_)
          · show Rn G κ 63 _ _ _ _ _
            refine r_iinc_5 (nI (i + 1)) X dX4_bitsOf_63 (nI_1 i) rfl ?_
            refine r_goto 6 X dX4_bitsOf_66 (by decide) ?_
            have := ih (i + 1) (some (.int (stat a i))) (by omega)
            rw [bitN_f (fun q => by have := q.2.2; simp only [i_lt, i_le] at c51 this; omega)] at this
            exact this
          · show Rn G κ 54 _ _ _ _ _
            refine r_iload X dX4_bitsOf_54 rfl ?_
            refine r_iconst (1) X dX4_bitsOf_56 (by decide) ?_
            refine r_iload X dX4_bitsOf_57 rfl ?_
            refine r_ishl X dX4_bitsOf_59 ?_
            refine r_ior X dX4_bitsOf_60 ?_
            have hb5 := bitN_lt a key lo hi i
            have hb6 : 2 ^ i ≤ 2 ^ 5 := Nat.pow_le_pow_right (by decide) (by omega)
            refine r_top (or_bit i h6 _ (by omega) hb5) ?_
            refine r_istore_4 X dX4_bitsOf_61 rfl ?_
            refine r_iinc_5 (nI (i + 1)) X dX4_bitsOf_63 (nI_1 i) rfl ?_
            show Rn G κ 66 _ _ _ _ _
            refine r_goto 6 X dX4_bitsOf_66 (by decide) ?_
            have := ih (i + 1) (some (.int (stat a i))) (by omega)
            rw [bitN_t ⟨k1 ▸ c39, by simp only [i_lt, i_le] at c45 ⊢; omega, by simp only [i_lt, i_le] at c51 ⊢; omega⟩] at this
            exact this
  refine r_iconst (0) X dX4_bitsOf_0 (by decide) ?_
  refine r_istore_4 X dX4_bitsOf_1 rfl ?_
  refine r_iconst (0) X dX4_bitsOf_3 (by decide) ?_
  refine r_istore_5 X dX4_bitsOf_4 rfl ?_
  exact loop (np a) 0 _ (by omega)
set_option maxRecDepth 100000 in
set_option maxHeartbeats 4000000 in
theorem c_bitCount {G : bpG} {C : bpC} {M : bpM} {hl : Int64} {b : Nat} (hb : b < 64) : Ct G yJ6_bitCount_0f7a4 cJ6_bitCount_0f7a4 1 (some .int) rmJ6_bitCount_0f7a4 [.int (nI b)] C M hl (qI C M hl (nI (pop6 b))) := by
  refine ct_of [some (.int (nI b))] (by decide +kernel) rfl rfl (Nat.le_of_ble_eq_true rfl) ?_
  intro κ X Z
  refine r_iload_n X dJ6_bitCount_0f7a4_0 rfl ?_
  refine r_iload_n X dJ6_bitCount_0f7a4_1 rfl ?_
  refine r_iconst (1) X dJ6_bitCount_0f7a4_2 (by decide) ?_
  refine r_iushr X dJ6_bitCount_0f7a4_3 rfl ?_
  refine r_ldcw wco_265 X dJ6_bitCount_0f7a4_4 ?_
  refine r_iand X dJ6_bitCount_0f7a4_7 ?_
  refine r_isub X dJ6_bitCount_0f7a4_8 ?_
  show Rn G κ 9 _ _ _ _ _
  refine r_istore_0 X dJ6_bitCount_0f7a4_9 ?_
  refine r_iload_n X dJ6_bitCount_0f7a4_10 rfl ?_
  refine r_ldcw wco_266 X dJ6_bitCount_0f7a4_11 ?_
  refine r_iand X dJ6_bitCount_0f7a4_14 ?_
  refine r_iload_n X dJ6_bitCount_0f7a4_15 rfl ?_
  refine r_iconst (2) X dJ6_bitCount_0f7a4_16 (by decide) ?_
  refine r_iushr X dJ6_bitCount_0f7a4_17 rfl ?_
  refine r_ldcw wco_266 X dJ6_bitCount_0f7a4_18 ?_
  show Rn G κ 21 _ _ _ _ _
  refine r_iand X dJ6_bitCount_0f7a4_21 ?_
  refine r_iadd X dJ6_bitCount_0f7a4_22 ?_
  refine r_istore_0 X dJ6_bitCount_0f7a4_23 ?_
  refine r_iload_n X dJ6_bitCount_0f7a4_24 rfl ?_
  refine r_iload_n X dJ6_bitCount_0f7a4_25 rfl ?_
  refine r_iconst (4) X dJ6_bitCount_0f7a4_26 (by decide) ?_
  refine r_iushr X dJ6_bitCount_0f7a4_27 rfl ?_
  refine r_iadd X dJ6_bitCount_0f7a4_28 ?_
  show Rn G κ 29 _ _ _ _ _
  refine r_ldcw wco_267 X dJ6_bitCount_0f7a4_29 ?_
  refine r_iand X dJ6_bitCount_0f7a4_32 ?_
  refine r_istore_0 X dJ6_bitCount_0f7a4_33 ?_
  refine r_iload_n X dJ6_bitCount_0f7a4_34 rfl ?_
  refine r_iload_n X dJ6_bitCount_0f7a4_35 rfl ?_
  refine r_bipush (8) X dJ6_bitCount_0f7a4_36 (by decide) ?_
  refine r_iushr X dJ6_bitCount_0f7a4_38 rfl ?_
  refine r_iadd X dJ6_bitCount_0f7a4_39 ?_
  show Rn G κ 40 _ _ _ _ _
  refine r_istore_0 X dJ6_bitCount_0f7a4_40 ?_
  refine r_iload_n X dJ6_bitCount_0f7a4_41 rfl ?_
  refine r_iload_n X dJ6_bitCount_0f7a4_42 rfl ?_
  refine r_bipush (16) X dJ6_bitCount_0f7a4_43 (by decide) ?_
  refine r_iushr X dJ6_bitCount_0f7a4_45 rfl ?_
  refine r_iadd X dJ6_bitCount_0f7a4_46 ?_
  refine r_istore_0 X dJ6_bitCount_0f7a4_47 ?_
  refine r_iload_n X dJ6_bitCount_0f7a4_48 rfl ?_
  show Rn G κ 49 _ _ _ _ _
  refine r_bipush (63) X dJ6_bitCount_0f7a4_49 (by decide) ?_
  refine r_iand X dJ6_bitCount_0f7a4_51 ?_
  refine r_iret X Z dJ6_bitCount_0f7a4_52 ?_
  refine ⟨rfl, rfl, rfl, ret_i ?_⟩
  clear X Z
  revert b
  decide +kernel
set_option maxRecDepth 100000 in
set_option maxHeartbeats 4000000 in
theorem c_wayOf {G : bpG} {C : bpC} {M : bpM} {hl : Int64} {a : bpM} {f : Nat} (hR : RB C a) (hC : ∀ p, p < np a → RCh C a p) (hf : f < 12) : Ct G yX4_wayOf cX4_wayOf 6 (some .int) rmX4_wayOf [.ref (G.1 0 0), .int (nI f)] C M hl (qI C M hl (oI (way a f))) := by
  refine ct_of [some (.ref (G.1 0 0)), some (.int (nI f)), none, none, none, none] (by decide +kernel) rfl rfl (Nat.le_of_ble_eq_true rfl) ?_
  intro κ X Z
  have hR0 := hR
  obtain ⟨hS, hB, hP⟩ := hR
  have hn := hB.2.1
  have hc : C 0 0 3 = nI (np a) := hS.1.trans hB.1
  have hsh := hB.2.2.2
  have hbits : bits a (nI (f % 4)) 4 4 = bitP (car a (nI (f % 4))) (np a) := bitN_P a _ (np a)
  have hb6 := bitP_lt (car a (nI (f % 4))) (np a)
  have hb7 : 2 ^ (np a) ≤ 2 ^ 6 := Nat.pow_le_pow_right (by decide) hn
  have hct := ctN_le (car a (nI (f % 4))) (np a)
  have loop : ∀ (t n i : Nat), t < 6 → i + n = np a → kth (car a (nI (f % 4))) t i = none → ctN (car a (nI (f % 4))) i ≤ t → oI (way a f) = oI (kth (car a (nI (f % 4))) t (np a)) → Rn G κ 36 [some (.ref (G.1 0 0)), some (.int (nI f)), some (.int (nI (bitP (car a (nI (f % 4))) (np a)))), some (.int (nI (ctN (car a (nI (f % 4))) (np a)))), some (.int (nI (t - ctN (car a (nI (f % 4))) i))), some (.int (nI i))] [] C M hl := by
    intro t n
    induction n with
    | zero =>
      intro i ht hi hk hle hw
      have hi : i = np a := by omega
      subst hi
      refine r_iload X dX4_wayOf_36 rfl ?_
      refine r_aload_n X dX4_wayOf_38 rfl ?_
      refine r_gi0 3 X wfl_X4_28 dX4_wayOf_39 (by decide) rfl ?_
      refine r_icmpge 71 X dX4_wayOf_42 (by decide) (fun c42 => ?_) (fun c42 => absurd (by rw [hc]; exact Int32.le_refl _) c42)
      show Rn G κ 71 _ _ _ _ _
      refine r_iconst (-1) X dX4_wayOf_71 (by decide) ?_
      refine r_iret X Z dX4_wayOf_72 ?_
      refine ⟨rfl, rfl, rfl, ret_i ?_⟩
      rw [hw, hk]
      rfl
    | succ n ih =>
      intro i ht hi hk hle hw
      have hin : i < np a := by omega
      have h6 : i < 6 := by omega
      have hbit : (bitP (car a (nI (f % 4))) (np a)).testBit i = (car a (nI (f % 4))) i := by rw [bitP_test]; simp [hin]
      refine r_iload X dX4_wayOf_36 rfl ?_
      refine r_aload_n X dX4_wayOf_38 rfl ?_
      refine r_gi0 3 X wfl_X4_28 dX4_wayOf_39 (by decide) rfl ?_
      refine r_icmpge 71 X dX4_wayOf_42 (by decide) (fun c42 => absurd c42 (by rw [hc]; simp only [i_lt, i_le, i_eq, i_m1, i_0, i_1, i_2, i_3, i_4, i_5, i_6, i_7, i_8, i_9, i_10, i_11, i_12, i_17, i_20, i_24, i_32, i_44, i_48, i_50, i_51, i_52, i_57, i_58, i_100, i_126, i_n (show np a < 2 ^ 31 by omega), i_n (show i < 2 ^ 31 by omega)]; omega)) (fun c42 => ?_)
      show Rn G κ 45 _ _ _ _ _
      refine r_iload_n X dX4_wayOf_45 rfl ?_
      refine r_iconst (1) X dX4_wayOf_46 (by decide) ?_
      refine r_iload X dX4_wayOf_47 rfl ?_
      show Rn G κ 49 _ _ _ _ _
      refine r_ishl X dX4_wayOf_49 ?_
      refine r_iand X dX4_wayOf_50 ?_
      refine r_ifeq 65 X dX4_wayOf_51 (by decide) (fun c51 => ?_) (fun c51 => ?_)
      · show Rn G κ 65 _ _ _ _ _
        refine r_iinc_5 (nI (i + 1)) X dX4_wayOf_65 (nI_1 i) rfl ?_
        refine r_goto 36 X dX4_wayOf_68 (by decide) ?_
        have hf : (car a (nI (f % 4))) i = false := by rw [← hbit]; exact (and_bit i h6 _ (by omega)).mp c51
        have := ih (i + 1) ht (by omega) (by simp only [kth, hk]; rw [if_neg (by simp [hf])]) (by rw [ctN_f hf]; exact hle) hw
        rw [ctN_f hf] at this
        exact this
      · show Rn G κ 54 _ _ _ _ _
        refine r_iload X dX4_wayOf_54 rfl ?_
        refine r_ifne 62 X dX4_wayOf_56 (by decide) (fun c56 => ?_) (fun c56 => ?_)
        · show Rn G κ 62 _ _ _ _ _
          have hlt2 : ctN (car a (nI (f % 4))) i < t := by
            rcases Nat.lt_or_ge (ctN (car a (nI (f % 4))) i) t with q | q
            · exact q
            · exact absurd (by rw [show t - ctN (car a (nI (f % 4))) i = 0 by omega]; rfl) c56
          refine r_iinc_4 (nI (t - (ctN (car a (nI (f % 4))) i + 1))) X dX4_wayOf_62 (show nI (t - ctN (car a (nI (f % 4))) i) + Int32.ofInt (-1) = _ by rw [show t - ctN (car a (nI (f % 4))) i = (t - (ctN (car a (nI (f % 4))) i + 1)) + 1 by omega]; exact pk_m1 _) rfl ?_
          refine r_iinc_5 (nI (i + 1)) X dX4_wayOf_65 (nI_1 i) rfl ?_
          refine r_goto 36 X dX4_wayOf_68 (by decide) ?_
          have hf : (car a (nI (f % 4))) i = true := by
            rw [← hbit]
            cases hq : (bitP (car a (nI (f % 4))) (np a)).testBit i with
            | true => rfl
            | false => exact absurd ((and_bit i h6 _ (by omega)).mpr hq) c51
          have hlt : ctN (car a (nI (f % 4))) i < t := by
            rcases Nat.lt_or_ge (ctN (car a (nI (f % 4))) i) t with q | q
            · exact q
            · exact absurd (by rw [show t - ctN (car a (nI (f % 4))) i = 0 by omega]; rfl) c56
          have := ih (i + 1) ht (by omega) (by simp only [kth, hk]; rw [if_neg (by rintro ⟨-, q⟩; omega)]) (by rw [ctN_t hf]; omega) hw
          rw [ctN_t hf] at this
          exact this
        · show Rn G κ 59 _ _ _ _ _
          refine r_iload X dX4_wayOf_59 rfl ?_
          refine r_iret X Z dX4_wayOf_61 ?_
          refine ⟨rfl, rfl, rfl, ret_i ?_⟩
          have hf : (car a (nI (f % 4))) i = true := by
            rw [← hbit]
            cases hq : (bitP (car a (nI (f % 4))) (np a)).testBit i with
            | true => rfl
            | false => exact absurd ((and_bit i h6 _ (by omega)).mpr hq) c51
          have he : ctN (car a (nI (f % 4))) i = t := by
            have : t - ctN (car a (nI (f % 4))) i = 0 := nI_inj (by omega) (by omega) c56
            omega
          have hk2 : kth (car a (nI (f % 4))) t (i + 1) = some i := by simp only [kth, hk]; rw [if_pos ⟨hf, he⟩]
          have := kth_mono hk2 (np a - (i + 1))
          rw [show i + 1 + (np a - (i + 1)) = np a by omega] at this
          rw [hw, this]
          rfl
  refine r_aload_n X dX4_wayOf_0 rfl ?_
  refine r_iload_n X dX4_wayOf_1 rfl ?_
  refine r_iconst (4) X dX4_wayOf_2 (by decide) ?_
  refine r_irem X dX4_wayOf_3 (by decide) ?_
  refine r_top (rem_n 4 (show f < 2 ^ 31 by omega) (by decide) (by decide)) ?_
  refine r_iconst (4) X dX4_wayOf_4 (by decide) ?_
  refine r_iconst (4) X dX4_wayOf_5 (by decide) ?_
  refine r_cv3_I X mdX4_bitsOf wml_X4_171 dX4_wayOf_6 ⟨rfl, rfl, Nat.le_of_ble_eq_true rfl, Nat.le_of_ble_eq_true rfl⟩ (by decide) rfl rfl (Nat.le_of_ble_eq_true rfl) rfl (zroom Z) (c_bitsOf hR0 hC) ?_
  show Rn G κ 9 _ _ _ _ _
  rw [hbits]
  show Rn G κ 9 _ _ _ _ _
  refine r_istore_2 X dX4_wayOf_9 rfl ?_
  refine r_iload_n X dX4_wayOf_10 rfl ?_
  refine r_cs1_I X mdJ6_bitCount_0f7a4 wml_X4_270 dX4_wayOf_11 ⟨rfl, rfl, Nat.le_of_ble_eq_true rfl, Nat.le_of_ble_eq_true rfl⟩ (Nat.le_of_ble_eq_true rfl) rfl (zroom Z) (c_bitCount (b := bitP (car a (nI (f % 4))) (np a)) (by omega)) ?_
  show Rn G κ 14 _ _ _ _ _
  rw [pop6_bitP _ hn]
  refine r_istore_3 X dX4_wayOf_14 rfl ?_
  refine r_iload_n X dX4_wayOf_15 rfl ?_
  refine r_ifne 21 X dX4_wayOf_16 (by decide) (fun c16 => ?_) (fun c16 => ?_)
  · show Rn G κ 21 _ _ _ _ _
    refine r_iload_n X dX4_wayOf_21 rfl ?_
    refine r_iconst (4) X dX4_wayOf_22 (by decide) ?_
    refine r_idiv X dX4_wayOf_23 (by decide) ?_
    refine r_top (pk_div (a := f) (d := 4) (by omega) (by decide) (by decide)) ?_
    refine r_aload_n X dX4_wayOf_24 rfl ?_
    refine r_gi0 6 X wfl_X4_38 dX4_wayOf_25 (by decide) rfl ?_
    refine r_iadd X dX4_wayOf_28 ?_
    refine r_top (show nI (f / 4) + C 0 0 6 = nI (f / 4 + sh a) by rw [hS.2.2.2.1, hB.2.2.1, nI_add]) ?_
    refine r_iload_n X dX4_wayOf_29 rfl ?_
    show Rn G κ 30 _ _ _ _ _
    refine r_irem X dX4_wayOf_30 c16 ?_
    have hpos : 0 < ctN (car a (nI (f % 4))) (np a) := by
      rcases Nat.eq_zero_or_pos (ctN (car a (nI (f % 4))) (np a)) with q | q
      · rw [q] at c16; exact absurd rfl c16
      · exact q
    refine r_top (rem_n (ctN (car a (nI (f % 4))) (np a)) (show f / 4 + sh a < 2 ^ 31 by omega) hpos (by omega)) ?_
    refine r_istore_4 X dX4_wayOf_31 rfl ?_
    refine r_iconst (0) X dX4_wayOf_33 (by decide) ?_
    refine r_istore_5 X dX4_wayOf_34 rfl ?_
    have htl := Nat.mod_lt (f / 4 + sh a) hpos
    have h0 := loop ((f / 4 + sh a) % ctN (car a (nI (f % 4))) (np a)) (np a) 0 (by omega) (by omega) rfl (Nat.zero_le _) (by unfold way; rw [if_neg (by omega)]; rfl)
    exact h0
  · show Rn G κ 19 _ _ _ _ _
    refine r_iconst (-1) X dX4_wayOf_19 (by decide) ?_
    refine r_iret X Z dX4_wayOf_20 ?_
    refine ⟨rfl, rfl, rfl, ret_i ?_⟩
    have h0 : ctN (car a (nI (f % 4))) (np a) = 0 := nI_inj (by omega) (by decide) c16
    unfold way
    rw [if_pos h0]
    rfl
end
section
/-! what a change of one slot leaves -/
theorem np_up {a : bpM} {k j : Nat} {v : Int32} (h : k ≠ 2) : np (upM a k j v) = np a := by unfold np; rw [upM_other _ _ _ _ (Ne.symm h)]
theorem qm_up {a : bpM} {k j : Nat} {v : Int32} (h : k ≠ 17) (p : Nat) : qm (upM a k j v) p = qm a p := by unfold qm; rw [upM_other _ _ _ _ (Ne.symm h)]
theorem hm_up {a : bpM} {k j : Nat} {v : Int32} (h : k ≠ 20) (f : Nat) : hm (upM a k j v) f = hm a f := by unfold hm; rw [upM_other _ _ _ _ (Ne.symm h)]
theorem pl_up {a : bpM} {k j : Nat} {v : Int32} (h : k ≠ 0) : pl (upM a k j v) = pl a := by unfold pl; rw [upM_other _ _ _ _ (Ne.symm h)]
theorem sh_up {a : bpM} {k j : Nat} {v : Int32} (h : k ≠ 13) : sh (upM a k j v) = sh a := by unfold sh; rw [upM_other _ _ _ _ (Ne.symm h)]
theorem ahd_cg {a b : bpM} (h4 : a 4 = b 4) (p q : Nat) : ahd a p q = ahd b p q := by simp only [ahd, h4]
theorem alk_cg {a b : bpM} (h3 : a 3 = b 3) (h6 : a 6 = b 6) (h7 : a 7 = b 7) (p q : Nat) : alk a p q = alk b p q := by simp only [alk, h3, h6, h7]
theorem leadN_cg {a b : bpM} (h3 : a 3 = b 3) (h4 : a 4 = b 4) (h6 : a 6 = b 6) (key : Int32) : ∀ n, leadN a key n = leadN b key n
  | 0 => rfl
  | n + 1 => by
    simp only [leadN]
    rw [leadN_cg h3 h4 h6 key n]
    simp only [h3, h6, ahd_cg h4]
theorem lead_cg {a b : bpM} (h2 : np a = np b) (h3 : a 3 = b 3) (h4 : a 4 = b 4) (h6 : a 6 = b 6) (key : Int32) : lead a key = lead b key := by
  unfold lead
  rw [h2]
  exact leadN_cg h3 h4 h6 key _
theorem choi_cg {a b : bpM} (h2 : np a = np b) (h3 : a 3 = b 3) (h4 : a 4 = b 4) (h6 : a 6 = b 6) (h7 : a 7 = b 7) (h11 : a 11 0 = b 11 0) (p : Nat) : choi a p = choi b p := by
  unfold choi place
  rw [lead_cg h2 h3 h4 h6, h3, h2, h11]
  cases lead b (b 3 p) with
  | none => rfl
  | some l =>
    simp only [alk_cg h3 h6 h7, ahd_cg h4]
theorem stat_cg {a b : bpM} (h2 : np a = np b) (h3 : a 3 = b 3) (h4 : a 4 = b 4) (h6 : a 6 = b 6) (h7 : a 7 = b 7) (h8 : a 8 = b 8) (h10 : a 10 = b 10) (h11 : a 11 0 = b 11 0) (h12 : a 12 0 = b 12 0) (p : Nat) : stat a p = stat b p := by
  unfold stat
  rw [choi_cg h2 h3 h4 h6 h7 h11, h8, h10, h12]
theorem way_cg {a b : bpM} (h2 : np a = np b) (h3 : a 3 = b 3) (h4 : a 4 = b 4) (h6 : a 6 = b 6) (h7 : a 7 = b 7) (h8 : a 8 = b 8) (h10 : a 10 = b 10) (h11 : a 11 0 = b 11 0) (h12 : a 12 0 = b 12 0) (h13 : a 13 0 = b 13 0) (f : Nat) : way a f = way b f := by
  have hc : ∀ key, car a key = car b key := fun key => by
    funext p
    unfold car
    rw [h3, stat_cg h2 h3 h4 h6 h7 h8 h10 h11 h12]
  unfold way
  rw [hc, h2, h13]
theorem choi_up {a : bpM} {k j : Nat} {v : Int32} (h : k = 0 ∨ k = 1 ∨ k = 5 ∨ k = 8 ∨ k = 9 ∨ k = 10 ∨ 12 ≤ k) (p : Nat) : choi (upM a k j v) p = choi a p :=
  choi_cg (np_up (by omega)) (upM_other _ _ _ _ (by omega)) (upM_other _ _ _ _ (by omega)) (upM_other _ _ _ _ (by omega)) (upM_other _ _ _ _ (by omega)) (by rw [upM_other _ _ _ _ (by omega)]) p
theorem stat_up {a : bpM} {k j : Nat} {v : Int32} (h : k = 0 ∨ k = 1 ∨ k = 5 ∨ k = 9 ∨ 13 ≤ k) (p : Nat) : stat (upM a k j v) p = stat a p :=
  stat_cg (np_up (by omega)) (upM_other _ _ _ _ (by omega)) (upM_other _ _ _ _ (by omega)) (upM_other _ _ _ _ (by omega)) (upM_other _ _ _ _ (by omega)) (upM_other _ _ _ _ (by omega)) (upM_other _ _ _ _ (by omega)) (by rw [upM_other _ _ _ _ (by omega)]) (by rw [upM_other _ _ _ _ (by omega)]) p
theorem way_up {a : bpM} {k j : Nat} {v : Int32} (h : k = 0 ∨ k = 1 ∨ k = 5 ∨ k = 9 ∨ 14 ≤ k) (f : Nat) : way (upM a k j v) f = way a f :=
  way_cg (np_up (by omega)) (upM_other _ _ _ _ (by omega)) (upM_other _ _ _ _ (by omega)) (upM_other _ _ _ _ (by omega)) (upM_other _ _ _ _ (by omega)) (upM_other _ _ _ _ (by omega)) (upM_other _ _ _ _ (by omega)) (by rw [upM_other _ _ _ _ (by omega)]) (by rw [upM_other _ _ _ _ (by omega)]) (by rw [upM_other _ _ _ _ (by omega)]) f
theorem upM_comm (a : bpM) {k k' : Nat} (h : k ≠ k') (j j' : Nat) (v v' : Int32) : upM (upM a k j v) k' j' v' = upM (upM a k' j' v') k j v := by
  funext x y
  simp only [upM]
  by_cases h1 : x = k' ∧ y = j'
  · rw [if_pos h1, if_neg (fun q => h (q.1.symm.trans h1.1)), if_pos h1]
  · rw [if_neg h1, if_neg h1]
theorem way_car {a : bpM} {f p : Nat} (h : way a f = some p) : stat a p = 4 := by
  have key : ∀ (P : Nat → Bool) (t n : Nat), kth P t n = some p → P p = true := by
    intro P t n
    induction n with
    | zero => intro h; cases h
    | succ n ih =>
      intro h
      simp only [kth] at h
      cases hk : kth P t n with
      | some q => rw [hk] at h; cases h; exact ih hk
      | none =>
        rw [hk] at h
        simp only at h
        split at h
        · rename_i hh; cases h; exact hh.1
        · cases h
  unfold way at h
  split at h
  · cases h
  · have := key _ _ _ h
    simp only [car, Bool.and_eq_true, decide_eq_true_eq] at this
    exact this.2
theorem stat_heard {a : bpM} {p : Nat} (h : stat a p = 4) : 0 < a 6 p := by
  unfold stat at h
  by_cases hc : choi a p = 2
  · exact choi_heard hc
  · rw [if_neg hc] at h
    rcases choi_012 a p with e | e | e <;> rw [e] at h <;> exact absurd h (by decide)
/-! steps of the state -/
def lostF (a : bpM) (f : Nat) : bpM := upM a 24 f (a 24 f + 1)
def layF (a : bpM) (p : Nat) (f n : Int32) : bpM := upM (upM (upM a 15 (24 * p + qm a p) f) 16 (24 * p + qm a p) n) 17 p (a 17 p + 1)
def comeF (a : bpM) (w : Option Nat) (f : Nat) (n : Int32) : bpM × Int32 := match w with
  | none => (lostF a f, 2)
  | some p => if 8 ≤ a 17 p then (lostF a f, 2) else (layF a p (nI f) n, 0)
def holdF (a : bpM) (f : Nat) (n : Int32) : bpM × Int32 := if a 20 f = 8 then (lostF a f, 2) else (upM (upM a 21 (8 * f + hm a f) n) 20 f (a 20 f + 1), 1)
def hasL (a : bpM) (p f : Nat) : Bool := exN (fun j => decide (a 15 (24 * p + j) = nI f) && decide (0 < a 16 (24 * p + j))) (qm a p)
def onN (a : bpM) (f : Nat) : Nat := (a 18 f).toNatClampNeg
def sendF (a0 : bpM) (f : Nat) : bpM × Int32 :=
  let a := upM a0 22 f (a0 22 f + 1)
  if a 19 f ≠ 0 then holdF a f (a 22 f)
  else match way a f with
    | none => (lostF a f, 2)
    | some p => if a 18 f ≠ -1 ∧ a 18 f ≠ nI p ∧ hasL a (onN a f) f = true then holdF (layF (upM a 19 f 1) (onN a f) (nI f) 0) f (a 22 f)
      else comeF (upM a 18 f (nI p)) (some p) f (a 22 f)
/-- what is HELD comes, so far -/
def ansN (a : bpM) (w : Option Nat) (f : Nat) (v : Nat → Int32) : Nat → bpM
  | 0 => a
  | k + 1 => (comeF (ansN a w f v k) w f (v k)).1
def ansB (a : bpM) (f : Nat) : bpM := upM (upM (upM a 19 f 0) 27 0 (a 27 0 + 1)) 18 f (oI (way a f))
def answerF (a : bpM) (f : Nat) : bpM := ansN (upM (ansB a f) 20 f 0) (way a f) f (fun k => a 21 (8 * f + k)) (hm a f)
theorem come_20 (a : bpM) (w : Option Nat) (f g : Nat) (n v : Int32) : (comeF (upM a 20 g v) w f n).1 = upM (comeF a w f n).1 20 g v := by
  cases w with
  | none =>
    simp only [comeF, lostF]
    rw [upM_comm _ (by decide), upM_ne _ _ _ _ (by simp)]
  | some p =>
    simp only [comeF]
    rw [upM_ne a 20 g v (k' := 17) (j' := p) (by simp)]
    split
    · simp only [lostF]
      rw [upM_comm _ (by decide), upM_ne _ _ _ _ (by simp)]
    · simp only [layF]
      rw [qm_up (by decide), upM_ne a 20 g v (k' := 17) (j' := p) (by simp), upM_comm a (show (20 : Nat) ≠ 15 by decide), upM_comm _ (show (20 : Nat) ≠ 16 by decide), upM_comm _ (show (20 : Nat) ≠ 17 by decide)]
theorem ansN_20 (a : bpM) (w : Option Nat) (f g : Nat) (v : Nat → Int32) (x : Int32) : ∀ k, ansN (upM a 20 g x) w f v k = upM (ansN a w f v k) 20 g x
  | 0 => rfl
  | k + 1 => by
    simp only [ansN]
    rw [ansN_20 a w f g v x k, come_20]
theorem answerF_eq (a : bpM) (f : Nat) : answerF a f = upM (ansN (ansB a f) (way a f) f (fun k => a 21 (8 * f + k)) (hm a f)) 20 f 0 := ansN_20 _ _ _ _ _ _ _
/-! the whole relation; the QUEUE of one PORT may be left out -/
def RA (C : bpC) (a : bpM) (ex : Nat) : Prop := RB C a ∧ (∀ p, p < np a → RCh C a p) ∧ (∀ p, p < np a → p ≠ ex → RQu C a p) ∧ ∀ f, f < 12 → RFl C a f
/-- what holds of the numbers of queues and flows -/
def mvc (a : bpM) (p : Nat) : Nat := ctN (fun f => decide (a 19 f ≠ 0) && decide (a 18 f = nI p)) 12
def IQp (a : bpM) (p : Nat) : Prop := a 17 p = nI (qm a p) ∧ qm a p ≤ 8 + mvc a p ∧ (0 < qm a p → a 5 p = 1) ∧ (∀ j, j < qm a p → 0 ≤ a 16 (24 * p + j) ∧ ∃ f, f < 12 ∧ a 15 (24 * p + j) = nI f ∧ (a 16 (24 * p + j) = 0 → a 19 f ≠ 0 ∧ a 18 f = nI p)) ∧ (∀ j j', j < qm a p → j' < qm a p → a 16 (24 * p + j) = 0 → a 16 (24 * p + j') = 0 → a 15 (24 * p + j) = a 15 (24 * p + j') → j = j')
def IQ (a : bpM) : Prop := ∀ p, p < np a → IQp a p
def IFf (a : bpM) (k f : Nat) : Prop := (a 19 f = 0 ∨ a 19 f = 1) ∧ (a 18 f = -1 ∨ ∃ p, p < np a ∧ a 18 f = nI p) ∧ a 20 f = nI (hm a f) ∧ hm a f ≤ 8 ∧ (∀ j, j < hm a f → 0 < a 21 (8 * f + j)) ∧ ∃ s, s ≤ k ∧ a 22 f = nI s
def IF (a : bpM) (k : Nat) : Prop := ∀ f, f < 12 → IFf a k f
def IPp (a : bpM) (p : Nat) : Prop := (∃ k, k < 4 ∧ a 3 p = nI k) ∧ (a 5 p = 0 ∨ a 5 p = 1) ∧ (a 8 p = 0 ∨ a 8 p = 1) ∧ (0 < a 6 p → a 5 p = 1) ∧ (∃ g, g < 4 ∧ a 9 p = nI g) ∧ (choi a p ≠ 2 → a 10 p = 0)
def IP (a : bpM) : Prop := Bas a ∧ ∀ p, p < np a → IPp a p
theorem IQp.le {a : bpM} {p : Nat} (h : IQp a p) : qm a p ≤ 20 := by
  have := ctN_le (fun f => decide (a 19 f ≠ 0) && decide (a 18 f = nI p)) 12
  have h2 : qm a p ≤ 8 + ctN (fun f => decide (a 19 f ≠ 0) && decide (a 18 f = nI p)) 12 := h.2.1
  omega
end
section
/-! the relation under changes of one cell -/
section REL
variable {C : bpC} {a : bpM} {p f k i j s t : Nat} {v : Int32}
theorem upC_k (C : bpC) {k k' : Nat} (i j : Nat) (v : Int32) (h : k' ≠ k) : upC C k i j v k' = C k' := by
  funext x y
  simp only [upC]
  rw [if_neg (fun q => h q.1)]
theorem RPt_C (hk : k ≠ 5) (h : RPt C a p) : RPt (upC C k i j v) a p := by
  unfold RPt at h ⊢
  rw [upC_k C i j v (Ne.symm hk)]
  exact h
theorem RPt_M (hs : s < 3 ∨ 10 < s) (h : RPt C a p) : RPt C (upM a s t v) p := by
  unfold RPt at h ⊢
  rw [upM_other a s t v (k' := 3) (by omega), upM_other a s t v (k' := 4) (by omega), upM_other a s t v (k' := 5) (by omega), upM_other a s t v (k' := 6) (by omega), upM_other a s t v (k' := 7) (by omega), upM_other a s t v (k' := 8) (by omega), upM_other a s t v (k' := 9) (by omega), upM_other a s t v (k' := 10) (by omega)]
  exact h
theorem RCh_C (hk : k ≠ 5) (h : RCh C a p) : RCh (upC C k i j v) a p := by
  unfold RCh at h ⊢
  rw [upC_k C i j v (Ne.symm hk)]
  exact h
theorem RCh_M (hs : s = 0 ∨ s = 1 ∨ s = 5 ∨ s = 8 ∨ s = 9 ∨ s = 10 ∨ 12 ≤ s) (h : RCh C a p) : RCh C (upM a s t v) p := by
  unfold RCh at h ⊢
  rw [choi_up hs]
  exact h
theorem RQu_C (hk : k ≠ 6 ∧ k ≠ 7 ∧ k ≠ 8) (h : RQu C a p) : RQu (upC C k i j v) a p := by
  unfold RQu at h ⊢
  rw [upC_k C i j v (Ne.symm hk.1), upC_k C i j v (Ne.symm hk.2.1), upC_k C i j v (Ne.symm hk.2.2)]
  exact h
theorem RQu_Cp (hk : i ≠ p) (h : RQu C a p) : RQu (upC C k i j v) a p := by
  unfold RQu at h ⊢
  rw [upC_other C k i j v (k' := 6) (i' := p) (fun q => hk q.2.symm), upC_other C k i j v (k' := 7) (i' := p) (fun q => hk q.2.symm), upC_other C k i j v (k' := 8) (i' := p) (fun q => hk q.2.symm)]
  exact h
theorem RQu_M (hs : s ≠ 15 ∧ s ≠ 16 ∧ s ≠ 17) (h : RQu C a p) : RQu C (upM a s t v) p := by
  unfold RQu at h ⊢
  rw [qm_up hs.2.2, upM_other a s t v (k' := 15) (by omega), upM_other a s t v (k' := 16) (by omega), upM_other a s t v (k' := 17) (by omega)]
  exact h
theorem RFl_C (hk : k ≠ 9 ∧ k ≠ 10) (h : RFl C a f) : RFl (upC C k i j v) a f := by
  unfold RFl at h ⊢
  rw [upC_k C i j v (Ne.symm hk.1), upC_k C i j v (Ne.symm hk.2)]
  exact h
theorem RFl_Cf (hk : i ≠ f) (h : RFl C a f) : RFl (upC C k i j v) a f := by
  unfold RFl at h ⊢
  rw [upC_other C k i j v (k' := 9) (i' := f) (fun q => hk q.2.symm), upC_other C k i j v (k' := 10) (i' := f) (fun q => hk q.2.symm)]
  exact h
theorem RFl_M (hs : s < 18 ∨ 25 < s) (h : RFl C a f) : RFl C (upM a s t v) f := by
  unfold RFl at h ⊢
  rw [hm_up (by omega), upM_other a s t v (k' := 18) (by omega), upM_other a s t v (k' := 19) (by omega), upM_other a s t v (k' := 20) (by omega), upM_other a s t v (k' := 21) (by omega), upM_other a s t v (k' := 22) (by omega), upM_other a s t v (k' := 23) (by omega), upM_other a s t v (k' := 24) (by omega), upM_other a s t v (k' := 25) (by omega)]
  exact h
theorem RFl_Mf (hs : s ≠ 21) (ht : t ≠ f) (h : RFl C a f) : RFl C (upM a s t v) f := by
  unfold RFl at h ⊢
  have e : ∀ k', upM a s t v k' f = a k' f := fun k' => upM_ne _ _ _ _ (fun q => ht q.2.symm)
  have e2 : hm (upM a s t v) f = hm a f := by unfold hm; rw [e]
  rw [e2, e, e, e, e, e, e, e, upM_other a s t v (k' := 21) (Ne.symm hs)]
  exact h
theorem RSc_C (hk : 2 < k) (h : RSc C a) : RSc (upC C k i j v) a := by
  unfold RSc at h ⊢
  rw [upC_k C i j v (k' := 0) (by omega), upC_k C i j v (k' := 1) (by omega), upC_k C i j v (k' := 2) (by omega)]
  exact h
theorem RSc_M (hs : s ≠ 0 ∧ s ≠ 1 ∧ s ≠ 2 ∧ s ≠ 11 ∧ s ≠ 12 ∧ s ≠ 13 ∧ s ≠ 14 ∧ s ≠ 26 ∧ s ≠ 27) (h : RSc C a) : RSc C (upM a s t v) := by
  unfold RSc at h ⊢
  rw [pl_up hs.1, upM_other a s t v (k' := 0) (by omega), upM_other a s t v (k' := 1) (by omega), upM_other a s t v (k' := 2) (by omega), upM_other a s t v (k' := 11) (by omega), upM_other a s t v (k' := 12) (by omega), upM_other a s t v (k' := 13) (by omega), upM_other a s t v (k' := 14) (by omega), upM_other a s t v (k' := 26) (by omega), upM_other a s t v (k' := 27) (by omega)]
  exact h
theorem Bas_M (hs : s ≠ 2 ∧ s ≠ 13) (h : Bas a) : Bas (upM a s t v) := by
  unfold Bas at h ⊢
  rw [np_up hs.1, sh_up hs.2, upM_other a s t v (k' := 2) (by omega), upM_other a s t v (k' := 13) (by omega)]
  exact h
end REL
section REL2
variable {C : bpC} {a : bpM} {ex : Nat}
theorem RA.up {k i j s t : Nat} {v w : Int32} (h : RA C a ex) (hs : s ≠ 2 ∧ s ≠ 13) (hS : RSc C a → RSc (upC C k i j v) (upM a s t w)) (hP : ∀ p, p < np a → RPt C a p → RPt (upC C k i j v) (upM a s t w) p) (hC : ∀ p, p < np a → RCh C a p → RCh (upC C k i j v) (upM a s t w) p) (hQ : ∀ p, p < np a → RQu C a p → RQu (upC C k i j v) (upM a s t w) p) (hF : ∀ f, f < 12 → RFl C a f → RFl (upC C k i j v) (upM a s t w) f) : RA (upC C k i j v) (upM a s t w) ex := by
  obtain ⟨⟨hS0, hB0, hP0⟩, hC0, hQ0, hF0⟩ := h
  refine ⟨⟨hS hS0, Bas_M hs hB0, ?_⟩, ?_, ?_, fun f hf => hF f hf (hF0 f hf)⟩ <;> rw [np_up hs.1]
  · exact fun p hp => hP p hp (hP0 p hp)
  · exact fun p hp => hC p hp (hC0 p hp)
  · exact fun p hp he => hQ p hp (hQ0 p hp he)
/-- a number of a FLOW -/
theorem RA_flow {f s t : Nat} {v : Int32} (h : RA C a ex) (hf : f < 12) (hst : (s = 2 ∧ t = 18) ∨ (s = 3 ∧ t = 19) ∨ (s = 4 ∧ t = 22) ∨ (s = 5 ∧ t = 23) ∨ (s = 6 ∧ t = 24) ∨ (s = 7 ∧ t = 25)) : RA (upC C 9 f s v) (upM a t f v) ex := by
  refine h.up (by omega) (fun q => RSc_M (by omega) (RSc_C (by decide) q)) (fun p _ q => RPt_M (by omega) (RPt_C (by decide) q)) (fun p _ q => RCh_M (by omega) (RCh_C (by decide) q)) (fun p _ q => RQu_M (by omega) (RQu_C (by decide) q)) (fun g hg q => ?_)
  by_cases e : f = g
  · subst e
    obtain ⟨q1, q2, q3, q4, q5, q6, q7, q8⟩ := q
    have eh : hm (upM a t f v) f = hm a f := hm_up (by omega) f
    unfold RFl
    rw [eh]
    rcases hst with ⟨rfl, rfl⟩ | ⟨rfl, rfl⟩ | ⟨rfl, rfl⟩ | ⟨rfl, rfl⟩ | ⟨rfl, rfl⟩ | ⟨rfl, rfl⟩ <;>
      (simp only [upC, upM]; refine ⟨by simpa using q1, by simpa using q2, by simpa using q3, by simpa using q4, by simpa using q5, by simpa using q6, by simpa using q7, fun j hj => by simpa using q8 j hj⟩)
  · exact RFl_Mf (by omega) e (RFl_Cf e q)
theorem RA_lost {f : Nat} (h : RA C a ex) (hf : f < 12) : RA (upC C 9 f 6 (C 9 f 6 + 1)) (lostF a f) ex := by
  have := RA_flow (v := C 9 f 6 + 1) h hf (s := 6) (t := 24) (by omega)
  rw [show C 9 f 6 + 1 = a 24 f + 1 by rw [(h.2.2.2 f hf).2.2.2.2.2.1]] at this ⊢
  exact this
/-- nothing is HELD any more -/
theorem RA_held0 {f : Nat} (h : RA C a ex) (hf : f < 12) : RA (upC C 9 f 1 0) (upM a 20 f 0) ex := by
  refine h.up (by omega) (fun q => RSc_M (by omega) (RSc_C (by decide) q)) (fun p _ q => RPt_M (by omega) (RPt_C (by decide) q)) (fun p _ q => RCh_M (by omega) (RCh_C (by decide) q)) (fun p _ q => RQu_M (by omega) (RQu_C (by decide) q)) (fun g hg q => ?_)
  by_cases e : f = g
  · subst e
    obtain ⟨q1, q2, q3, q4, q5, q6, q7, q8⟩ := q
    have eh : hm (upM a 20 f 0) f = 0 := by unfold hm; rw [upM_at]; rfl
    unfold RFl
    rw [eh]
    simp only [upC, upM]
    exact ⟨by simp, by simpa using q2, by simpa using q3, by simpa using q4, by simpa using q5, by simpa using q6, by simpa using q7, fun j hj => absurd hj (Nat.not_lt_zero _)⟩
  · exact RFl_Mf (by omega) e (RFl_Cf e q)
theorem nIc {m : Nat} (h : m < 2 ^ 31) : (nI m).toNatClampNeg = m := nI_clamp h
/-- one more is HELD -/
theorem RA_hold {f m : Nat} {n : Int32} (h : RA C a ex) (hf : f < 12) (e20 : a 20 f = nI m) (hm8 : m < 8) (hall : ∀ g, g < 12 → hm a g ≤ 8) : RA (upC (upC C 10 f m n) 9 f 1 (nI (m + 1))) (upM (upM a 21 (8 * f + hm a f) n) 20 f (a 20 f + 1)) ex := by
  have em : hm a f = m := by unfold hm; rw [e20]; exact nIc (by omega)
  have e1 : a 20 f + 1 = nI (m + 1) := by rw [e20]; exact nI_1 m
  rw [em, e1]
  obtain ⟨⟨hS0, hB0, hP0⟩, hC0, hQ0, hF0⟩ := h
  have hnp : np (upM (upM a 21 (8 * f + m) n) 20 f (nI (m + 1))) = np a := by rw [np_up (by decide), np_up (by decide)]
  refine ⟨⟨RSc_M (by omega) (RSc_M (by omega) (RSc_C (by decide) (RSc_C (by decide) hS0))), Bas_M (by omega) (Bas_M (by omega) hB0), ?_⟩, ?_, ?_, fun g hg => ?_⟩
  · rw [hnp]; exact fun p hp => RPt_M (by omega) (RPt_M (by omega) (RPt_C (by decide) (RPt_C (by decide) (hP0 p hp))))
  · rw [hnp]; exact fun p hp => RCh_M (by omega) (RCh_M (by omega) (RCh_C (by decide) (RCh_C (by decide) (hC0 p hp))))
  · rw [hnp]; exact fun p hp he => RQu_M (by omega) (RQu_M (by omega) (RQu_C (by decide) (RQu_C (by decide) (hQ0 p hp he))))
  · obtain ⟨q1, q2, q3, q4, q5, q6, q7, q8⟩ := hF0 g hg
    by_cases e : f = g
    · subst e
      have eh : hm (upM (upM a 21 (8 * f + m) n) 20 f (nI (m + 1))) f = m + 1 := by unfold hm; rw [upM_at]; exact nIc (by omega)
      unfold RFl
      rw [eh]
      refine ⟨by simp [upC, upM], by simpa [upC, upM] using q2, by simpa [upC, upM] using q3, by simpa [upC, upM] using q4, by simpa [upC, upM] using q5, by simpa [upC, upM] using q6, by simpa [upC, upM] using q7, fun j hj => ?_⟩
      by_cases ej : j = m
      · subst ej
        simp [upC, upM]
      · have := q8 j (by omega)
        simp only [upC, upM]
        rw [if_neg (by simp), if_neg (by simp [ej]), if_neg (by simp), if_neg (by simp; omega)]
        exact this
    · refine RFl_Mf (by omega) e (RFl_Cf e (RFl_Cf e ?_))
      have eh : hm (upM a 21 (8 * f + m) n) g = hm a g := hm_up (by decide) g
      unfold RFl
      rw [eh]
      refine ⟨by simpa [upM] using q1, by simpa [upM] using q2, by simpa [upM] using q3, by simpa [upM] using q4, by simpa [upM] using q5, by simpa [upM] using q6, by simpa [upM] using q7, fun j hj => ?_⟩
      have h8 := hall g hg
      rw [upM_ne _ _ _ _ (by omega)]
      exact q8 j hj
/-- one comes behind all in a QUEUE -/
theorem RA_lay {p m : Nat} {f n : Int32} (h : RA C a ex) (hp : p < np a) (e17 : a 17 p = nI m) (hm20 : m < 20) (hall : ∀ q, q < np a → qm a q ≤ 20) : RA (upC (upC (upC C 7 p m f) 8 p m n) 6 p 2 (nI (m + 1))) (layF a p f n) ex := by
  have em : qm a p = m := by unfold qm; rw [e17]; exact nIc (by omega)
  have e1 : a 17 p + 1 = nI (m + 1) := by rw [e17]; exact nI_1 m
  unfold layF
  rw [em, e1]
  obtain ⟨⟨hS0, hB0, hP0⟩, hC0, hQ0, hF0⟩ := h
  have hnp : np (upM (upM (upM a 15 (24 * p + m) f) 16 (24 * p + m) n) 17 p (nI (m + 1))) = np a := by rw [np_up (by decide), np_up (by decide), np_up (by decide)]
  refine ⟨⟨RSc_M (by omega) (RSc_M (by omega) (RSc_M (by omega) (RSc_C (by decide) (RSc_C (by decide) (RSc_C (by decide) hS0))))), Bas_M (by omega) (Bas_M (by omega) (Bas_M (by omega) hB0)), ?_⟩, ?_, ?_, fun g hg => ?_⟩
  · rw [hnp]; exact fun q hq => RPt_M (by omega) (RPt_M (by omega) (RPt_M (by omega) (RPt_C (by decide) (RPt_C (by decide) (RPt_C (by decide) (hP0 q hq))))))
  · rw [hnp]; exact fun q hq => RCh_M (by omega) (RCh_M (by omega) (RCh_M (by omega) (RCh_C (by decide) (RCh_C (by decide) (RCh_C (by decide) (hC0 q hq))))))
  · rw [hnp]
    intro q hq he
    obtain ⟨q1, q2⟩ := hQ0 q hq he
    by_cases e : q = p
    · subst e
      have eh : qm (upM (upM (upM a 15 (24 * q + m) f) 16 (24 * q + m) n) 17 q (nI (m + 1))) q = m + 1 := by unfold qm; rw [upM_at]; exact nIc (by omega)
      unfold RQu
      rw [eh]
      refine ⟨by simp [upC, upM], fun j hj => ?_⟩
      by_cases ej : j = m
      · subst ej
        simp [upC, upM]
      · have := q2 j (by omega)
        simp only [upC, upM]
        rw [if_neg (by simp), if_neg (by simp), if_neg (by simp [ej]), if_neg (by simp), if_neg (by simp), if_neg (by simp; omega), if_neg (by simp), if_neg (by simp [ej]), if_neg (by simp), if_neg (by simp), if_neg (by simp; omega), if_neg (by simp)]
        exact this
    · have hq20 := hall q hq
      have ne : p ≠ q := Ne.symm e
      refine RQu_Cp ne (RQu_Cp ne (RQu_Cp ne ?_))
      have eh : qm (upM (upM (upM a 15 (24 * p + m) f) 16 (24 * p + m) n) 17 p (nI (m + 1))) q = qm a q := by unfold qm; rw [upM_ne _ _ _ _ (by omega), upM_ne _ _ _ _ (by omega), upM_ne _ _ _ _ (by omega)]
      unfold RQu
      rw [eh]
      refine ⟨by rw [upM_ne _ _ _ _ (by omega), upM_ne _ _ _ _ (by omega), upM_ne _ _ _ _ (by omega)]; exact q1, fun j hj => ?_⟩
      rw [upM_ne _ _ _ _ (by omega), upM_ne _ _ _ _ (by omega), upM_ne _ _ _ _ (by omega), upM_ne _ _ _ _ (by omega), upM_ne _ _ _ _ (by omega), upM_ne _ _ _ _ (by omega)]
      exact q2 j hj
  · exact RFl_M (by omega) (RFl_M (by omega) (RFl_M (by omega) (RFl_C (by decide) (RFl_C (by decide) (RFl_C (by decide) (hF0 g hg))))))
/-- a number of the object -/
theorem RA_sc {s t : Nat} {v : Int32} (h : RA C a ex) (hst : (s = 7 ∧ t = 26) ∨ (s = 8 ∧ t = 27) ∨ (s = 9 ∧ t = 14)) : RA (upC C 0 0 s v) (upM a t 0 v) ex := by
  refine h.up (by omega) (fun q => ?_) (fun p _ q => RPt_M (by omega) (RPt_C (by decide) q)) (fun p _ q => RCh_M (by omega) (RCh_C (by decide) q)) (fun p _ q => RQu_M (by omega) (RQu_C (by decide) q)) (fun g hg q => RFl_M (by omega) (RFl_C (by decide) q))
  obtain ⟨q1, q2, q3, q4, q5, q6, q7, q8, q9⟩ := q
  unfold RSc
  rw [pl_up (by omega)]
  rcases hst with ⟨rfl, rfl⟩ | ⟨rfl, rfl⟩ | ⟨rfl, rfl⟩ <;>
    (simp only [upC, upM]; refine ⟨by simpa using q1, by simpa using q2, by simpa using q3, by simpa using q4, by simpa using q5, by simpa using q6, by simpa using q7, by simpa using q8, fun j hj => by simpa using q9 j hj⟩)
end REL2
end
section
/-! what stays true of the numbers -/
theorem ctN_upd {P Q : Nat → Bool} {i : Nat} (h : ∀ k, k ≠ i → P k = Q k) : ∀ {n : Nat}, i < n → ctN Q n + (if P i then 1 else 0) = ctN P n + (if Q i then 1 else 0)
  | 0, hn => absurd hn (Nat.not_lt_zero _)
  | n + 1, hn => by
    simp only [ctN]
    by_cases e : i = n
    · subst e
      rw [ctN_cong (P := P) (Q := Q) (fun k hk => h k (by omega))]
      omega
    · have := ctN_upd h (show i < n by omega)
      rw [h n (fun q => e q.symm)]
      omega
theorem ctN_lt {P : Nat → Bool} {i n : Nat} (hi : i < n) (h : P i = false) : ctN P n < n := by
  have h1 := ctN_upd (P := P) (Q := fun k => if k = i then true else P k) (i := i) (fun k hk => by simp [hk]) hi
  have h2 := ctN_le (fun k => if k = i then true else P k) n
  rw [if_neg (by rw [h]; decide), if_pos (by simp)] at h1
  omega
theorem mvc_cg {a b : bpM} {p : Nat} (h : ∀ f, f < 12 → (a 19 f ≠ 0 ∧ a 18 f = nI p ↔ b 19 f ≠ 0 ∧ b 18 f = nI p)) : mvc a p = mvc b p := by
  unfold mvc
  refine ctN_cong (fun f hf => ?_)
  have := h f hf
  rw [Bool.eq_iff_iff]
  simpa using this
theorem mvc_up {a : bpM} {s t : Nat} {v : Int32} (hs : s ≠ 18 ∧ s ≠ 19) (p : Nat) : mvc (upM a s t v) p = mvc a p := by
  unfold mvc
  rw [upM_other a s t v (k' := 18) (by omega), upM_other a s t v (k' := 19) (by omega)]
theorem mvc_le {a : bpM} {p f : Nat} (hf : f < 12) (h : a 19 f = 0) : mvc a p ≤ 11 := by
  have := ctN_lt (P := fun f => decide (a 19 f ≠ 0) && decide (a 18 f = nI p)) hf (by simp [h])
  unfold mvc
  omega
/-- a slot that IQ does not speak of -/
theorem IQp_up {a : bpM} {s t p : Nat} {v : Int32} (hs : s ≠ 5 ∧ s ≠ 15 ∧ s ≠ 16 ∧ s ≠ 17 ∧ s ≠ 18 ∧ s ≠ 19) (h : IQp a p) : IQp (upM a s t v) p := by
  unfold IQp at h ⊢
  rw [qm_up (by omega), mvc_up (by omega), upM_other a s t v (k' := 5) (by omega), upM_other a s t v (k' := 15) (by omega), upM_other a s t v (k' := 16) (by omega), upM_other a s t v (k' := 17) (by omega), upM_other a s t v (k' := 18) (by omega), upM_other a s t v (k' := 19) (by omega)]
  exact h
theorem IQ_up {a : bpM} {s t : Nat} {v : Int32} (hs : s ≠ 2 ∧ s ≠ 5 ∧ s ≠ 15 ∧ s ≠ 16 ∧ s ≠ 17 ∧ s ≠ 18 ∧ s ≠ 19) (h : IQ a) : IQ (upM a s t v) := by
  intro p hp
  rw [np_up (by omega)] at hp
  exact IQp_up (by omega) (h p hp)
theorem IQ_lost {a : bpM} {f : Nat} (h : IQ a) : IQ (lostF a f) := IQ_up (by omega) h
/-- where a FLOW that does not move is -/
theorem IQ_on {a : bpM} {f : Nat} {v : Int32} (h0 : a 19 f = 0) (h : IQ a) : IQ (upM a 18 f v) := by
  intro p hp
  rw [np_up (by omega)] at hp
  obtain ⟨h1, h2, h3, h4, h5⟩ := h p hp
  have e18 : ∀ g, g ≠ f → upM a 18 f v 18 g = a 18 g := fun g hg => upM_ne _ _ _ _ (fun q => hg q.2)
  have emv : mvc (upM a 18 f v) p = mvc a p := mvc_cg (fun g _ => by
    rw [upM_other a 18 f v (k' := 19) (by omega)]
    by_cases e : g = f
    · subst e
      simp [h0]
    · rw [e18 g e])
  unfold IQp
  rw [qm_up (by omega), emv, upM_other a 18 f v (k' := 5) (by omega), upM_other a 18 f v (k' := 15) (by omega), upM_other a 18 f v (k' := 16) (by omega), upM_other a 18 f v (k' := 17) (by omega), upM_other a 18 f v (k' := 19) (by omega)]
  refine ⟨h1, h2, h3, fun j hj => ?_, h5⟩
  obtain ⟨q1, g, hg, q2, q3⟩ := h4 j hj
  refine ⟨q1, g, hg, q2, fun z => ?_⟩
  have := q3 z
  refine ⟨this.1, ?_⟩
  rw [e18 g (fun e => this.1 (by rw [e]; exact h0))]
  exact this.2
/-- a letter comes into a QUEUE that has room -/
theorem IQ_lay {a : bpM} {p f : Nat} {n : Int32} (h : IQ a) (hp : p < np a) (hf : f < 12) (h8 : qm a p < 8) (hn : 0 < n) (hup : a 5 p = 1) : IQ (layF a p (nI f) n) := by
  have e17 := (h p hp).1
  have eq1 : a 17 p + 1 = nI (qm a p + 1) := by rw [e17]; exact nI_1 _
  unfold layF
  rw [eq1]
  intro q hq
  rw [np_up (by omega), np_up (by omega), np_up (by omega)] at hq
  obtain ⟨h1, h2, h3, h4, h5⟩ := h q hq
  have hq20 := (h q hq).le
  unfold IQp
  rw [mvc_up (by omega), mvc_up (by omega), mvc_up (by omega)]
  by_cases e : q = p
  · subst e
    have eh : qm (upM (upM (upM a 15 (24 * q + qm a q) (nI f)) 16 (24 * q + qm a q) n) 17 q (nI (qm a q + 1))) q = qm a q + 1 := by
      show (upM _ 17 q (nI (qm a q + 1)) 17 q).toNatClampNeg = _
      rw [upM_at]; exact nIc (by omega)
    have g15 : ∀ j, j < qm a q → upM (upM (upM a 15 (24 * q + qm a q) (nI f)) 16 (24 * q + qm a q) n) 17 q (nI (qm a q + 1)) 15 (24 * q + j) = a 15 (24 * q + j) := fun j hj => by rw [upM_ne _ _ _ _ (by omega), upM_ne _ _ _ _ (by omega), upM_ne _ _ _ _ (by omega)]
    have g16 : ∀ j, j < qm a q → upM (upM (upM a 15 (24 * q + qm a q) (nI f)) 16 (24 * q + qm a q) n) 17 q (nI (qm a q + 1)) 16 (24 * q + j) = a 16 (24 * q + j) := fun j hj => by rw [upM_ne _ _ _ _ (by omega), upM_ne _ _ _ _ (by omega), upM_ne _ _ _ _ (by omega)]
    have m16 : upM (upM (upM a 15 (24 * q + qm a q) (nI f)) 16 (24 * q + qm a q) n) 17 q (nI (qm a q + 1)) 16 (24 * q + qm a q) = n := by rw [upM_ne _ _ _ _ (by omega), upM_at]
    have m15 : upM (upM (upM a 15 (24 * q + qm a q) (nI f)) 16 (24 * q + qm a q) n) 17 q (nI (qm a q + 1)) 15 (24 * q + qm a q) = nI f := by rw [upM_ne _ _ _ _ (by omega), upM_ne _ _ _ _ (by omega), upM_at]
    have g5 : upM (upM (upM a 15 (24 * q + qm a q) (nI f)) 16 (24 * q + qm a q) n) 17 q (nI (qm a q + 1)) 5 q = a 5 q := by rw [upM_ne _ _ _ _ (by omega), upM_ne _ _ _ _ (by omega), upM_ne _ _ _ _ (by omega)]
    have g18 : upM (upM (upM a 15 (24 * q + qm a q) (nI f)) 16 (24 * q + qm a q) n) 17 q (nI (qm a q + 1)) 18 = a 18 := by rw [upM_other _ _ _ _ (by omega), upM_other _ _ _ _ (by omega), upM_other _ _ _ _ (by omega)]
    have g19 : upM (upM (upM a 15 (24 * q + qm a q) (nI f)) 16 (24 * q + qm a q) n) 17 q (nI (qm a q + 1)) 19 = a 19 := by rw [upM_other _ _ _ _ (by omega), upM_other _ _ _ _ (by omega), upM_other _ _ _ _ (by omega)]
    have n0 : ¬ n = 0 := fun z => by rw [z] at hn; exact absurd hn (by decide)
    rw [eh, g18, g19, g5]
    refine ⟨upM_at _ _ _ _, by omega, fun _ => hup, fun j hj => ?_, fun j j' hj hj' z z' w => ?_⟩
    · by_cases ej : j = qm a q
      · subst ej
        rw [m16, m15]
        refine ⟨?_, f, hf, rfl, fun z => absurd z n0⟩
        rw [i_le, i_0]; rw [i_lt, i_0] at hn; omega
      · rw [g16 j (by omega), g15 j (by omega)]
        exact h4 j (by omega)
    · have d1 : j ≠ qm a q := fun z2 => by rw [z2, m16] at z; exact n0 z
      have d2 : j' ≠ qm a q := fun z2 => by rw [z2, m16] at z'; exact n0 z'
      rw [g16 j (by omega)] at z
      rw [g16 j' (by omega)] at z'
      rw [g15 j (by omega), g15 j' (by omega)] at w
      exact h5 j j' (by omega) (by omega) z z' w
  · have eh : qm (upM (upM (upM a 15 (24 * p + qm a p) (nI f)) 16 (24 * p + qm a p) n) 17 p (nI (qm a p + 1))) q = qm a q := by
      show (upM _ 17 p (nI (qm a p + 1)) 17 q).toNatClampNeg = _
      rw [upM_ne _ _ _ _ (by omega), upM_ne _ _ _ _ (by omega), upM_ne _ _ _ _ (by omega)]
      rfl
    have hp20 := (h p hp).le
    have g15 : ∀ j, j < qm a q → upM (upM (upM a 15 (24 * p + qm a p) (nI f)) 16 (24 * p + qm a p) n) 17 p (nI (qm a p + 1)) 15 (24 * q + j) = a 15 (24 * q + j) := fun j hj => by rw [upM_ne _ _ _ _ (by omega), upM_ne _ _ _ _ (by omega), upM_ne _ _ _ _ (by omega)]
    have g16 : ∀ j, j < qm a q → upM (upM (upM a 15 (24 * p + qm a p) (nI f)) 16 (24 * p + qm a p) n) 17 p (nI (qm a p + 1)) 16 (24 * q + j) = a 16 (24 * q + j) := fun j hj => by rw [upM_ne _ _ _ _ (by omega), upM_ne _ _ _ _ (by omega), upM_ne _ _ _ _ (by omega)]
    have g5 : upM (upM (upM a 15 (24 * p + qm a p) (nI f)) 16 (24 * p + qm a p) n) 17 p (nI (qm a p + 1)) 5 q = a 5 q := by rw [upM_ne _ _ _ _ (by omega), upM_ne _ _ _ _ (by omega), upM_ne _ _ _ _ (by omega)]
    have g17 : upM (upM (upM a 15 (24 * p + qm a p) (nI f)) 16 (24 * p + qm a p) n) 17 p (nI (qm a p + 1)) 17 q = a 17 q := by rw [upM_ne _ _ _ _ (by omega), upM_ne _ _ _ _ (by omega), upM_ne _ _ _ _ (by omega)]
    have g18 : upM (upM (upM a 15 (24 * p + qm a p) (nI f)) 16 (24 * p + qm a p) n) 17 p (nI (qm a p + 1)) 18 = a 18 := by rw [upM_other _ _ _ _ (by omega), upM_other _ _ _ _ (by omega), upM_other _ _ _ _ (by omega)]
    have g19 : upM (upM (upM a 15 (24 * p + qm a p) (nI f)) 16 (24 * p + qm a p) n) 17 p (nI (qm a p + 1)) 19 = a 19 := by rw [upM_other _ _ _ _ (by omega), upM_other _ _ _ _ (by omega), upM_other _ _ _ _ (by omega)]
    rw [eh, g18, g19, g5, g17]
    refine ⟨h1, h2, h3, fun j hj => ?_, fun j j' hj hj' z z' w => ?_⟩
    · rw [g16 j hj, g15 j hj]
      exact h4 j hj
    · rw [g16 j hj] at z
      rw [g16 j' hj'] at z'
      rw [g15 j hj, g15 j' hj'] at w
      exact h5 j j' hj hj' z z' w
/-- a marker comes: its FLOW moves from then on -/
theorem IQ_mark {a : bpM} {p f : Nat} (h : IQ a) (hn6 : np a ≤ 6) (hp : p < np a) (hf : f < 12) (h0 : a 19 f = 0) (hon : a 18 f = nI p) (h1q : 0 < qm a p) : IQ (layF (upM a 19 f 1) p (nI f) 0) := by
  have e17 := (h p hp).1
  have hp20 := (h p hp).le
  have hm11 := mvc_le (p := p) hf h0
  have hqb := (h p hp).2.1
  have hn := hp
  have eq0 : qm (upM a 19 f 1) p = qm a p := qm_up (by omega) p
  have eq1 : upM a 19 f 1 17 p + 1 = nI (qm a p + 1) := by rw [upM_ne _ _ _ _ (by omega), e17]; exact nI_1 _
  unfold layF
  rw [eq0, eq1]
  intro q hq
  rw [np_up (by omega), np_up (by omega), np_up (by omega), np_up (by omega)] at hq
  obtain ⟨h1, h2, h3, h4, h5⟩ := h q hq
  have hq20 := (h q hq).le
  have nof : ∀ j, j < qm a q → a 16 (24 * q + j) = 0 → a 15 (24 * q + j) ≠ nI f := by
    intro j hj z w
    obtain ⟨-, g, hg, w2, w3⟩ := h4 j hj
    have : g = f := nI_inj (by omega) (by omega) (w2.symm.trans w)
    subst this
    exact (w3 z).1 h0
  have g18 : ∀ v : Int32, ∀ i j, upM (upM (upM (upM a 19 f 1) 15 i (nI f)) 16 i 0) 17 j v 18 = a 18 := fun v i j => by rw [upM_other _ _ _ _ (by omega), upM_other _ _ _ _ (by omega), upM_other _ _ _ _ (by omega), upM_other _ _ _ _ (by omega)]
  have g19 : ∀ v : Int32, ∀ i j, upM (upM (upM (upM a 19 f 1) 15 i (nI f)) 16 i 0) 17 j v 19 = upM a 19 f 1 19 := fun v i j => by rw [upM_other _ _ _ _ (by omega), upM_other _ _ _ _ (by omega), upM_other _ _ _ _ (by omega)]
  have k19 : ∀ g, a 19 g ≠ 0 → upM a 19 f 1 19 g ≠ 0 := fun g hg => by
    simp only [upM]
    split
    · decide
    · exact hg
  unfold IQp
  rw [mvc_up (by omega), mvc_up (by omega), mvc_up (by omega)]
  by_cases e : q = p
  · subst e
    have emv : mvc (upM a 19 f 1) q = mvc a q + 1 := by
      unfold mvc
      have := ctN_upd (P := fun f => decide (a 19 f ≠ 0) && decide (a 18 f = nI q)) (Q := fun g => decide (upM a 19 f 1 19 g ≠ 0) && decide (upM a 19 f 1 18 g = nI q)) (i := f) (fun g hg => by rw [upM_ne a 19 f 1 (k' := 19) (j' := g) (by simp [hg]), upM_ne a 19 f 1 (k' := 18) (j' := g) (by simp)]) hf
      rw [if_neg (by simp [h0]), if_pos (by rw [upM_at, upM_ne _ _ _ _ (by simp), hon]; simp)] at this
      omega
    have eh : qm (upM (upM (upM (upM a 19 f 1) 15 (24 * q + qm a q) (nI f)) 16 (24 * q + qm a q) 0) 17 q (nI (qm a q + 1))) q = qm a q + 1 := by
      show (upM _ 17 q (nI (qm a q + 1)) 17 q).toNatClampNeg = _
      rw [upM_at]; exact nIc (by omega)
    have g15 : ∀ j, j < qm a q → upM (upM (upM (upM a 19 f 1) 15 (24 * q + qm a q) (nI f)) 16 (24 * q + qm a q) 0) 17 q (nI (qm a q + 1)) 15 (24 * q + j) = a 15 (24 * q + j) := fun j hj => by rw [upM_ne _ _ _ _ (by omega), upM_ne _ _ _ _ (by omega), upM_ne _ _ _ _ (by omega), upM_ne _ _ _ _ (by omega)]
    have g16 : ∀ j, j < qm a q → upM (upM (upM (upM a 19 f 1) 15 (24 * q + qm a q) (nI f)) 16 (24 * q + qm a q) 0) 17 q (nI (qm a q + 1)) 16 (24 * q + j) = a 16 (24 * q + j) := fun j hj => by rw [upM_ne _ _ _ _ (by omega), upM_ne _ _ _ _ (by omega), upM_ne _ _ _ _ (by omega), upM_ne _ _ _ _ (by omega)]
    have m16 : upM (upM (upM (upM a 19 f 1) 15 (24 * q + qm a q) (nI f)) 16 (24 * q + qm a q) 0) 17 q (nI (qm a q + 1)) 16 (24 * q + qm a q) = 0 := by rw [upM_ne _ _ _ _ (by omega), upM_at]
    have m15 : upM (upM (upM (upM a 19 f 1) 15 (24 * q + qm a q) (nI f)) 16 (24 * q + qm a q) 0) 17 q (nI (qm a q + 1)) 15 (24 * q + qm a q) = nI f := by rw [upM_ne _ _ _ _ (by omega), upM_ne _ _ _ _ (by omega), upM_at]
    have g5 : upM (upM (upM (upM a 19 f 1) 15 (24 * q + qm a q) (nI f)) 16 (24 * q + qm a q) 0) 17 q (nI (qm a q + 1)) 5 q = a 5 q := by rw [upM_ne _ _ _ _ (by omega), upM_ne _ _ _ _ (by omega), upM_ne _ _ _ _ (by omega), upM_ne _ _ _ _ (by omega)]
    rw [eh, g18, g19, g5, emv]
    refine ⟨upM_at _ _ _ _, by omega, fun _ => h3 h1q, fun j hj => ?_, fun j j' hj hj' z z' w => ?_⟩
    · by_cases ej : j = qm a q
      · subst ej
        rw [m16, m15]
        exact ⟨by decide, f, hf, rfl, fun _ => ⟨by rw [upM_at]; decide, hon⟩⟩
      · rw [g16 j (by omega), g15 j (by omega)]
        obtain ⟨q1, g, hg, q2, q3⟩ := h4 j (by omega)
        exact ⟨q1, g, hg, q2, fun z => ⟨k19 g (q3 z).1, (q3 z).2⟩⟩
    · by_cases ej : j = qm a q
      · by_cases ej' : j' = qm a q
        · omega
        · exfalso
          rw [ej, m15, g15 j' (by omega)] at w
          rw [g16 j' (by omega)] at z'
          exact nof j' (by omega) z' w.symm
      · by_cases ej' : j' = qm a q
        · exfalso
          rw [ej', m15, g15 j (by omega)] at w
          rw [g16 j (by omega)] at z
          exact nof j (by omega) z w
        · rw [g16 j (by omega)] at z
          rw [g16 j' (by omega)] at z'
          rw [g15 j (by omega), g15 j' (by omega)] at w
          exact h5 j j' (by omega) (by omega) z z' w
  · have emv : mvc (upM a 19 f 1) q = mvc a q := mvc_cg (fun g _ => by
      rw [upM_other a 19 f 1 (k' := 18) (by omega)]
      by_cases eg : g = f
      · subst eg
        rw [upM_at, hon]
        constructor
        · rintro ⟨-, z⟩
          exact absurd (nI_inj (by omega) (by omega) z).symm (by omega)
        · rintro ⟨z, -⟩
          exact absurd h0 z
      · rw [upM_ne a 19 f 1 (by simp [eg])])
    have eh : qm (upM (upM (upM (upM a 19 f 1) 15 (24 * p + qm a p) (nI f)) 16 (24 * p + qm a p) 0) 17 p (nI (qm a p + 1))) q = qm a q := by
      show (upM _ 17 p (nI (qm a p + 1)) 17 q).toNatClampNeg = _
      rw [upM_ne _ _ _ _ (by omega), upM_ne _ _ _ _ (by omega), upM_ne _ _ _ _ (by omega), upM_ne _ _ _ _ (by omega)]
      rfl
    have g15 : ∀ j, j < qm a q → upM (upM (upM (upM a 19 f 1) 15 (24 * p + qm a p) (nI f)) 16 (24 * p + qm a p) 0) 17 p (nI (qm a p + 1)) 15 (24 * q + j) = a 15 (24 * q + j) := fun j hj => by rw [upM_ne _ _ _ _ (by omega), upM_ne _ _ _ _ (by omega), upM_ne _ _ _ _ (by omega), upM_ne _ _ _ _ (by omega)]
    have g16 : ∀ j, j < qm a q → upM (upM (upM (upM a 19 f 1) 15 (24 * p + qm a p) (nI f)) 16 (24 * p + qm a p) 0) 17 p (nI (qm a p + 1)) 16 (24 * q + j) = a 16 (24 * q + j) := fun j hj => by rw [upM_ne _ _ _ _ (by omega), upM_ne _ _ _ _ (by omega), upM_ne _ _ _ _ (by omega), upM_ne _ _ _ _ (by omega)]
    have g5 : upM (upM (upM (upM a 19 f 1) 15 (24 * p + qm a p) (nI f)) 16 (24 * p + qm a p) 0) 17 p (nI (qm a p + 1)) 5 q = a 5 q := by rw [upM_ne _ _ _ _ (by omega), upM_ne _ _ _ _ (by omega), upM_ne _ _ _ _ (by omega), upM_ne _ _ _ _ (by omega)]
    have g17 : upM (upM (upM (upM a 19 f 1) 15 (24 * p + qm a p) (nI f)) 16 (24 * p + qm a p) 0) 17 p (nI (qm a p + 1)) 17 q = a 17 q := by rw [upM_ne _ _ _ _ (by omega), upM_ne _ _ _ _ (by omega), upM_ne _ _ _ _ (by omega), upM_ne _ _ _ _ (by omega)]
    rw [eh, g18, g19, g5, g17, emv]
    refine ⟨h1, h2, h3, fun j hj => ?_, fun j j' hj hj' z z' w => ?_⟩
    · rw [g16 j hj, g15 j hj]
      obtain ⟨q1, g, hg, q2, q3⟩ := h4 j hj
      exact ⟨q1, g, hg, q2, fun z => ⟨k19 g (q3 z).1, (q3 z).2⟩⟩
    · rw [g16 j hj] at z
      rw [g16 j' hj'] at z'
      rw [g15 j hj, g15 j' hj'] at w
      exact h5 j j' hj hj' z z' w
/-- what comes, or is lost, keeps the queues -/
theorem come_np (a : bpM) (w : Option Nat) (f : Nat) (n : Int32) : np (comeF a w f n).1 = np a := by
  cases w with
  | none => exact np_up (by decide)
  | some p =>
    simp only [comeF]
    split
    · exact np_up (by decide)
    · unfold layF; rw [np_up (by decide), np_up (by decide), np_up (by decide)]
theorem come_s (a : bpM) (w : Option Nat) (f : Nat) (n : Int32) {s : Nat} (hs : s ≠ 15 ∧ s ≠ 16 ∧ s ≠ 17 ∧ s ≠ 24) : (comeF a w f n).1 s = a s := by
  cases w with
  | none => exact upM_other _ _ _ _ (by omega)
  | some p =>
    simp only [comeF]
    split
    · exact upM_other _ _ _ _ (by omega)
    · show layF a p (nI f) n s = a s
      unfold layF
      rw [upM_other _ _ _ _ (by omega), upM_other _ _ _ _ (by omega), upM_other _ _ _ _ (by omega)]
theorem come_q (a : bpM) {w : Option Nat} (f : Nat) (n : Int32) {q : Nat} (hq : w ≠ some q) : (comeF a w f n).1 17 q = a 17 q := by
  cases w with
  | none => exact upM_ne a 24 f (a 24 f + 1) (k' := 17) (j' := q) (by omega)
  | some p =>
    have : q ≠ p := fun e => hq (by rw [e])
    simp only [comeF]
    split
    · exact upM_ne a 24 f (a 24 f + 1) (k' := 17) (j' := q) (by omega)
    · show layF a p (nI f) n 17 q = a 17 q
      unfold layF
      rw [upM_ne _ _ _ _ (by omega), upM_ne _ _ _ _ (by omega), upM_ne _ _ _ _ (by omega)]
theorem IQ_come {a : bpM} {w : Option Nat} {f : Nat} {n : Int32} (h : IQ a) (hf : f < 12) (hn : 0 < n) (hw : ∀ p, w = some p → p < np a ∧ a 5 p = 1) : IQ (comeF a w f n).1 := by
  cases w with
  | none => exact IQ_lost h
  | some p =>
    obtain ⟨hp, h5⟩ := hw p rfl
    have e17 := (h p hp).1
    have h20 := (h p hp).le
    simp only [comeF]
    by_cases h8 : 8 ≤ a 17 p
    · rw [if_pos h8]; exact IQ_lost h
    · rw [if_neg h8]
      refine IQ_lay h hp hf ?_ hn h5
      rw [e17, i_le, i_8, i_n (by omega)] at h8
      omega
theorem ansN_np (a : bpM) (w : Option Nat) (f : Nat) (v : Nat → Int32) : ∀ k, np (ansN a w f v k) = np a
  | 0 => rfl
  | k + 1 => by simp only [ansN]; rw [come_np, ansN_np a w f v k]
theorem ansN_s (a : bpM) (w : Option Nat) (f : Nat) (v : Nat → Int32) {s : Nat} (hs : s ≠ 15 ∧ s ≠ 16 ∧ s ≠ 17 ∧ s ≠ 24) : ∀ k, ansN a w f v k s = a s
  | 0 => rfl
  | k + 1 => by simp only [ansN]; rw [come_s _ _ _ _ hs, ansN_s a w f v hs k]
theorem ansN_q (a : bpM) {w : Option Nat} (f : Nat) (v : Nat → Int32) {q : Nat} (hq : w ≠ some q) : ∀ k, ansN a w f v k 17 q = a 17 q
  | 0 => rfl
  | k + 1 => by simp only [ansN]; rw [come_q _ _ _ hq, ansN_q a f v hq k]
theorem IQ_ansN {a : bpM} {w : Option Nat} {f : Nat} {v : Nat → Int32} (h : IQ a) (hf : f < 12) (hw : ∀ p, w = some p → p < np a ∧ a 5 p = 1) : ∀ k, (∀ j, j < k → 0 < v j) → IQ (ansN a w f v k)
  | 0, _ => h
  | k + 1, hv => by
    simp only [ansN]
    refine IQ_come (IQ_ansN h hf hw k (fun j hj => hv j (by omega))) hf (hv k (by omega)) (fun p hp => ?_)
    rw [ansN_np, ansN_s _ _ _ _ (by omega)]
    exact hw p hp
theorem IP_way {a : bpM} (h : IP a) {f p : Nat} (hw : way a f = some p) : p < np a ∧ a 5 p = 1 :=
  ⟨way_lt hw, (h.2 p (way_lt hw)).2.2.2.1 (stat_heard (way_car hw))⟩
theorem ans_s (a : bpM) (f : Nat) {s : Nat} (hs : s ≠ 15 ∧ s ≠ 16 ∧ s ≠ 17 ∧ s ≠ 18 ∧ s ≠ 19 ∧ s ≠ 20 ∧ s ≠ 24 ∧ s ≠ 27) : answerF a f s = a s := by
  unfold answerF ansB
  rw [ansN_s _ _ _ _ (by omega), upM_other _ _ _ _ (by omega), upM_other _ _ _ _ (by omega), upM_other _ _ _ _ (by omega), upM_other _ _ _ _ (by omega)]
theorem ans_np (a : bpM) (f : Nat) : np (answerF a f) = np a := by
  unfold np
  rw [ans_s _ _ (by omega)]
/-- of another FLOW nothing changes, but what it lost -/
theorem ans_o (a : bpM) {f g : Nat} (hg : g ≠ f) {s : Nat} (hs : s = 18 ∨ s = 19 ∨ s = 20) : answerF a f s g = a s g := by
  unfold answerF ansB
  rw [ansN_s _ _ _ _ (by omega), upM_ne _ _ _ _ (by omega), upM_ne _ _ _ _ (by omega), upM_ne _ _ _ _ (by omega), upM_ne _ _ _ _ (by omega)]
theorem ans_q (a : bpM) {f q : Nat} (hq : way a f ≠ some q) : answerF a f 17 q = a 17 q := by
  unfold answerF ansB
  rw [ansN_q _ _ _ hq, upM_ne _ _ _ _ (by omega), upM_ne _ _ _ _ (by omega), upM_ne _ _ _ _ (by omega), upM_ne _ _ _ _ (by omega)]
theorem IQ_ans {a : bpM} {f k : Nat} (h : IQ (upM a 19 f 0)) (hF : IF a k) (hP : IP a) (hf : f < 12) : IQ (answerF a f) := by
  unfold answerF ansB
  refine IQ_ansN (IQ_up (by omega) (IQ_on ?_ (IQ_up (by omega) h))) hf (fun p hp => ?_) (hm a f) (fun j hj => (hF f hf).2.2.2.2.1 j hj)
  · rw [upM_ne _ _ _ _ (by omega), upM_at]
  · have := IP_way hP hp
    rw [np_up (by omega), np_up (by omega), np_up (by omega), np_up (by omega), upM_ne _ _ _ _ (by omega), upM_ne _ _ _ _ (by omega), upM_ne _ _ _ _ (by omega), upM_ne _ _ _ _ (by omega)]
    exact this
theorem IF_cg {a b : bpM} {k : Nat} (hn : np b = np a) (h18 : b 18 = a 18) (h19 : b 19 = a 19) (h20 : b 20 = a 20) (h21 : b 21 = a 21) (h22 : b 22 = a 22) (h : IF a k) : IF b k := by
  intro f hf
  have := h f hf
  unfold IFf hm at this ⊢
  rw [hn, h18, h19, h20, h21, h22]
  exact this
theorem IF_ans {a : bpM} {f k : Nat} (hF : IF a k) (hf : f < 12) : IF (answerF a f) k := by
  intro g hg
  obtain ⟨h1, h2, h3, h4, h5, h6⟩ := hF g hg
  unfold IFf
  rw [ans_np, ans_s a f (s := 21) (by omega), ans_s a f (s := 22) (by omega)]
  by_cases e : g = f
  · subst e
    have e18 : answerF a g 18 g = oI (way a g) := by
      unfold answerF ansB
      rw [ansN_s _ _ _ _ (by omega), upM_ne _ _ _ _ (by omega), upM_at]
    have e19 : answerF a g 19 g = 0 := by
      unfold answerF ansB
      rw [ansN_s _ _ _ _ (by omega), upM_ne _ _ _ _ (by omega), upM_ne _ _ _ _ (by omega), upM_ne _ _ _ _ (by omega), upM_at]
    have e20 : answerF a g 20 g = 0 := by
      unfold answerF
      rw [ansN_s _ _ _ _ (by omega), upM_at]
    have eh : hm (answerF a g) g = 0 := by unfold hm; rw [e20]; rfl
    rw [e18, e19, e20, eh]
    refine ⟨Or.inl rfl, ?_, rfl, by omega, fun j hj => absurd hj (Nat.not_lt_zero _), h6⟩
    cases hw : way a g with
    | none => exact Or.inl rfl
    | some p => exact Or.inr ⟨p, way_lt hw, rfl⟩
  · have eh : hm (answerF a f) g = hm a g := by unfold hm; rw [ans_o a e (by omega)]
    rw [ans_o a e (s := 18) (by omega), ans_o a e (s := 19) (by omega), ans_o a e (s := 20) (by omega), eh]
    exact ⟨h1, h2, h3, h4, h5, h6⟩
theorem IP_cg {a b : bpM} (h2 : b 2 = a 2) (h3 : b 3 = a 3) (h4 : b 4 = a 4) (h5 : b 5 = a 5) (h6 : b 6 = a 6) (h7 : b 7 = a 7) (h8 : b 8 = a 8) (h9 : b 9 = a 9) (h10 : b 10 = a 10) (h11 : b 11 = a 11) (h13 : b 13 = a 13) (h : IP a) : IP b := by
  have hn : np b = np a := by unfold np; rw [h2]
  have hc : ∀ p, choi b p = choi a p := fun p => choi_cg hn h3 h4 h6 h7 (by rw [h11]) p
  refine ⟨?_, fun p hp => ?_⟩
  · have := h.1
    unfold Bas sh at this ⊢
    rw [hn, h2, h13]
    exact this
  · rw [hn] at hp
    have := h.2 p hp
    unfold IPp at this ⊢
    rw [hc, h3, h5, h6, h8, h9, h10]
    exact this
theorem IP_up {a : bpM} {s t : Nat} {v : Int32} (hs : s = 0 ∨ s = 1 ∨ s = 12 ∨ 14 ≤ s) (h : IP a) : IP (upM a s t v) :=
  IP_cg (upM_other _ _ _ _ (by omega)) (upM_other _ _ _ _ (by omega)) (upM_other _ _ _ _ (by omega)) (upM_other _ _ _ _ (by omega)) (upM_other _ _ _ _ (by omega)) (upM_other _ _ _ _ (by omega)) (upM_other _ _ _ _ (by omega)) (upM_other _ _ _ _ (by omega)) (upM_other _ _ _ _ (by omega)) (upM_other _ _ _ _ (by omega)) (upM_other _ _ _ _ (by omega)) h
theorem IP_ans {a : bpM} {f : Nat} (h : IP a) : IP (answerF a f) :=
  IP_cg (ans_s _ _ (by omega)) (ans_s _ _ (by omega)) (ans_s _ _ (by omega)) (ans_s _ _ (by omega)) (ans_s _ _ (by omega)) (ans_s _ _ (by omega)) (ans_s _ _ (by omega)) (ans_s _ _ (by omega)) (ans_s _ _ (by omega)) (ans_s _ _ (by omega)) (ans_s _ _ (by omega)) h
/-- the queues' numbers, and no more -/
def QB (a : bpM) : Prop := ∀ q, q < np a → a 17 q = nI (qm a q) ∧ qm a q ≤ 20
theorem IQ.qb {a : bpM} (h : IQ a) : QB a := fun q hq => ⟨(h q hq).1, (h q hq).le⟩
theorem QB_up {a : bpM} {s t : Nat} {v : Int32} (hs : s ≠ 2 ∧ s ≠ 17) (h : QB a) : QB (upM a s t v) := by
  intro q hq
  rw [np_up hs.1] at hq
  rw [qm_up hs.2, upM_other a s t v (k' := 17) (by omega)]
  exact h q hq
theorem QB_come {a : bpM} {w : Option Nat} {f : Nat} {n : Int32} (h : QB a) (hw : ∀ p, w = some p → p < np a) : QB (comeF a w f n).1 := by
  cases w with
  | none => exact QB_up (by omega) h
  | some p =>
    have hp := hw p rfl
    simp only [comeF]
    by_cases h8 : 8 ≤ a 17 p
    · rw [if_pos h8]; exact QB_up (by omega) h
    · rw [if_neg h8]
      have h0 := h p hp
      rw [h0.1, i_le, i_8, i_n (by omega)] at h8
      show QB (layF a p (nI f) n)
      intro q hq
      have e2 : np (layF a p (nI f) n) = np a := by unfold layF; rw [np_up (by decide), np_up (by decide), np_up (by decide)]
      rw [e2] at hq
      by_cases e : q = p
      · subst e
        have e1 : layF a q (nI f) n 17 q = nI (qm a q + 1) := by unfold layF; rw [upM_at, h0.1]; exact nI_1 _
        have e3 : qm (layF a q (nI f) n) q = qm a q + 1 := by
          show (layF a q (nI f) n 17 q).toNatClampNeg = _
          rw [e1]; exact nIc (by omega)
        rw [e1, e3]
        exact ⟨rfl, by omega⟩
      · have e1 : layF a p (nI f) n 17 q = a 17 q := by unfold layF; rw [upM_ne _ _ _ _ (by omega), upM_ne _ _ _ _ (by omega), upM_ne _ _ _ _ (by omega)]
        have e3 : qm (layF a p (nI f) n) q = qm a q := by unfold qm; rw [e1]
        rw [e1, e3]
        exact h q hq
/-- the cells of one QUEUE stay -/
def FrQ (C C' : bpC) (ex : Nat) : Prop := C' 6 ex = C 6 ex ∧ C' 7 ex = C 7 ex ∧ C' 8 ex = C 8 ex
theorem FrQ.rf {C : bpC} {ex : Nat} : FrQ C C ex := ⟨rfl, rfl, rfl⟩
theorem FrQ.tr {C C' C'' : bpC} {ex : Nat} (h : FrQ C C' ex) (h2 : FrQ C' C'' ex) : FrQ C C'' ex := ⟨h2.1.trans h.1, h2.2.1.trans h.2.1, h2.2.2.trans h.2.2⟩
theorem FrQ.k {C C' : bpC} {ex k i j : Nat} {v : Int32} (h : FrQ C C' ex) (hk : k ≠ 6 ∧ k ≠ 7 ∧ k ≠ 8) : FrQ C (upC C' k i j v) ex :=
  h.tr ⟨by rw [upC_k C' i j v (by omega)], by rw [upC_k C' i j v (by omega)], by rw [upC_k C' i j v (by omega)]⟩
theorem FrQ.i {C C' : bpC} {ex k i j : Nat} {v : Int32} (h : FrQ C C' ex) (hi : i ≠ ex) : FrQ C (upC C' k i j v) ex :=
  h.tr ⟨upC_other _ _ _ _ _ (fun q => hi q.2.symm), upC_other _ _ _ _ _ (fun q => hi q.2.symm), upC_other _ _ _ _ _ (fun q => hi q.2.symm)⟩
theorem lay_19 (a : bpM) (p f : Nat) (x n v : Int32) : layF (upM a 19 f v) p x n = upM (layF a p x n) 19 f v := by
  unfold layF
  rw [qm_up (by decide), upM_ne a 19 f v (k' := 17) (j' := p) (by omega), upM_comm a (show (19 : Nat) ≠ 15 by decide), upM_comm _ (show (19 : Nat) ≠ 16 by decide), upM_comm _ (show (19 : Nat) ≠ 17 by decide)]
theorem onN_eq {a : bpM} {f p : Nat} (h : a 18 f = nI p) (hp : p < 2 ^ 31) : onN a f = p := by unfold onN; rw [h]; exact nIc hp
end
section
set_option maxRecDepth 100000 in
set_option maxHeartbeats 4000000 in
theorem c_putLetter_none {G : bpG} {C : bpC} {M : bpM} {hl : Int64} {a : bpM} {ex f : Nat} {n : Int32} (hR : RA C a ex) (hf : f < 12) : Ct G yX4_putLetter cX4_putLetter 4 (some .boolean) rmX4_putLetter [.ref (G.1 0 0), .int (nI f), .int n, .int (-1)] C M hl (qCi M hl (fun C' r => RA C' (comeF a none f n).1 ex ∧ FrQ C C' ex ∧ r = bI (decide ((comeF a none f n).2 = 0)))) := by
  refine ct_of [some (.ref (G.1 0 0)), some (.int (nI f)), some (.int n), some (.int (-1))] (by decide +kernel) rfl rfl (Nat.le_of_ble_eq_true rfl) ?_
  intro κ X Z
  refine r_aload_n X dX4_putLetter_0 rfl ?_
  refine r_iload_n X dX4_putLetter_1 rfl ?_
  refine r_cv1_I X mdX4_isPort wml_X4_92 dX4_putLetter_2 ⟨rfl, rfl, Nat.le_of_ble_eq_true rfl, Nat.le_of_ble_eq_true rfl⟩ (by decide) rfl rfl (Nat.le_of_ble_eq_true rfl) rfl (zroom Z) (c_isPort hR.1.1.1 hR.1.2.1) ?_
  show Rn G κ 5 _ _ _ _ _
  refine r_ifeq 41 X dX4_putLetter_5 (by decide) (fun c5 => ?_) (fun c5 => absurd (by rw [isP_m1]; rfl) c5)
  show Rn G κ 41 _ _ _ _ _
  refine r_aload_n X dX4_putLetter_41 rfl ?_
  refine r_gr0_2 X wfl_X4_24 dX4_putLetter_42 ?_
  refine r_iload_n X dX4_putLetter_45 rfl ?_
  show Rn G κ 46 _ _ _ _ _
  refine r_aaF _ X rfl (by assumption) dX4_putLetter_46 ?_
  refine r_dup X dX4_putLetter_47 rfl ?_
  refine r_gi9 6 X (by assumption) wfl_X4_190 dX4_putLetter_48 (by decide) rfl ?_
  refine r_iconst (1) X dX4_putLetter_51 (by decide) ?_
  refine r_iadd X dX4_putLetter_52 ?_
  refine r_pi9 6 X (by assumption) wfl_X4_190 dX4_putLetter_53 (by decide) rfl rfl (by decide +kernel) ?_
  refine r_iconst (0) X dX4_putLetter_56 (by decide) ?_
  refine r_zret X Z dX4_putLetter_57 (by decide) ?_
  exact ⟨rfl, rfl, _, rfl, RA_lost hR hf, FrQ.rf.k (by decide), rfl⟩
set_option maxRecDepth 100000 in
set_option maxHeartbeats 4000000 in
theorem c_putLetter_some {G : bpG} {C : bpC} {M : bpM} {hl : Int64} {a : bpM} {ex f q : Nat} {n : Int32} (hR : RA C a ex) (hQ : QB a) (hf : f < 12) (hq : q < np a) (hx : q ≠ ex) : Ct G yX4_putLetter cX4_putLetter 4 (some .boolean) rmX4_putLetter [.ref (G.1 0 0), .int (nI f), .int n, .int (nI q)] C M hl (qCi M hl (fun C' r => RA C' (comeF a (some q) f n).1 ex ∧ FrQ C C' ex ∧ r = bI (decide ((comeF a (some q) f n).2 = 0)))) := by
  have hB := hR.1.2.1
  have hn := hB.2.1
  have hq6 : q < 6 := by omega
  have h0 := hQ q hq
  have hsz : C 6 q 2 = nI (qm a q) := (hR.2.2.1 q hq hx).1.trans h0.1
  refine ct_of [some (.ref (G.1 0 0)), some (.int (nI f)), some (.int n), some (.int (nI q))] (by decide +kernel) rfl rfl (Nat.le_of_ble_eq_true rfl) ?_
  intro κ X Z
  refine r_aload_n X dX4_putLetter_0 rfl ?_
  refine r_iload_n X dX4_putLetter_1 rfl ?_
  refine r_cv1_I X mdX4_isPort wml_X4_92 dX4_putLetter_2 ⟨rfl, rfl, Nat.le_of_ble_eq_true rfl, Nat.le_of_ble_eq_true rfl⟩ (by decide) rfl rfl (Nat.le_of_ble_eq_true rfl) rfl (zroom Z) (c_isPort hR.1.1.1 hB) ?_
  show Rn G κ 5 _ _ _ _ _
  refine r_ifeq 41 X dX4_putLetter_5 (by decide) (fun c5 => absurd c5 (by rw [isP_n hB hq]; decide)) (fun c5 => ?_)
  show Rn G κ 8 _ _ _ _ _
  refine r_aload_n X dX4_putLetter_8 rfl ?_
  refine r_gr0_1 X wfl_X4_18 dX4_putLetter_9 ?_
  refine r_iload_n X dX4_putLetter_12 rfl ?_
  show Rn G κ 13 _ _ _ _ _
  refine r_aaP _ X rfl (by assumption) dX4_putLetter_13 ?_
  refine r_gr5_0 X (by assumption) wfl_X4_112 dX4_putLetter_14 ?_
  refine r_gi6 2 X (by assumption) wfl_X4_153 dX4_putLetter_17 (by decide) rfl ?_
  refine r_bipush (8) X dX4_putLetter_20 (by decide) ?_
  refine r_icmpge 41 X dX4_putLetter_22 (by decide) (fun c22 => ?_) (fun c22 => ?_)
  · show Rn G κ 41 _ _ _ _ _
    refine r_aload_n X dX4_putLetter_41 rfl ?_
    refine r_gr0_2 X wfl_X4_24 dX4_putLetter_42 ?_
    refine r_iload_n X dX4_putLetter_45 rfl ?_
    refine r_aaF _ X rfl (by assumption) dX4_putLetter_46 ?_
    refine r_dup X dX4_putLetter_47 rfl ?_
    refine r_gi9 6 X (by assumption) wfl_X4_190 dX4_putLetter_48 (by decide) rfl ?_
    refine r_iconst (1) X dX4_putLetter_51 (by decide) ?_
    show Rn G κ 52 _ _ _ _ _
    refine r_iadd X dX4_putLetter_52 ?_
    refine r_pi9 6 X (by assumption) wfl_X4_190 dX4_putLetter_53 (by decide) rfl rfl (by decide +kernel) ?_
    refine r_iconst (0) X dX4_putLetter_56 (by decide) ?_
    refine r_zret X Z dX4_putLetter_57 (by decide) ?_
    have h8 : 8 ≤ a 17 q := by rw [← (hR.2.2.1 q hq hx).1]; exact c22
    refine ⟨rfl, rfl, _, rfl, ?_, FrQ.rf.k (by decide), ?_⟩
    · simp only [comeF]; rw [if_pos h8]; exact RA_lost hR hf
    · rw [show (comeF a (some q) f n).2 = 2 by simp only [comeF]; rw [if_pos h8]]; rfl
  · show Rn G κ 25 _ _ _ _ _
    have h8 : ¬ 8 ≤ a 17 q := by rw [← (hR.2.2.1 q hq hx).1]; exact c22
    have hm20 : qm a q < 20 := by rw [h0.1, i_le, i_8, i_n (by omega)] at h8; omega
    refine r_aload_n X dX4_putLetter_25 rfl ?_
    refine r_gr0_1 X wfl_X4_18 dX4_putLetter_26 ?_
    refine r_iload_n X dX4_putLetter_29 rfl ?_
    refine r_aaP _ X rfl (by assumption) dX4_putLetter_30 ?_
    refine r_gr5_0 X (by assumption) wfl_X4_112 dX4_putLetter_31 ?_
    refine r_iload_n X dX4_putLetter_34 rfl ?_
    refine r_iload_n X dX4_putLetter_35 rfl ?_
    show Rn G κ 36 _ _ _ _ _
    refine r_cv2_C X mdX3_append wml_X4_281 dX4_putLetter_36 ⟨rfl, rfl, Nat.le_of_ble_eq_true rfl, Nat.le_of_ble_eq_true rfl⟩ (by assumption) rfl rfl (Nat.le_of_ble_eq_true rfl) rfl (zroom Z) (c_append hq6 hm20 hsz) (fun C2 e2 => ?_)
    subst e2
    show Rn G κ 39 _ _ _ _ _
    refine r_iconst (1) X dX4_putLetter_39 (by decide) ?_
    refine r_zret X Z dX4_putLetter_40 (by decide) ?_
    refine ⟨rfl, rfl, _, rfl, ?_, ((FrQ.rf.i hx).i hx).i hx, ?_⟩
    · simp only [comeF]; rw [if_neg h8]; exact RA_lay hR hq h0.1 hm20 (fun r hr => (hQ r hr).2)
    · rw [show (comeF a (some q) f n).2 = 0 by simp only [comeF]; rw [if_neg h8]]; rfl
theorem c_putLetter {G : bpG} {C : bpC} {M : bpM} {hl : Int64} {a : bpM} {ex f : Nat} {n : Int32} {w : Option Nat} (hR : RA C a ex) (hQ : QB a) (hf : f < 12) (hw : ∀ q, w = some q → q < np a ∧ q ≠ ex) : Ct G yX4_putLetter cX4_putLetter 4 (some .boolean) rmX4_putLetter [.ref (G.1 0 0), .int (nI f), .int n, .int (oI w)] C M hl (qCi M hl (fun C' r => RA C' (comeF a w f n).1 ex ∧ FrQ C C' ex ∧ r = bI (decide ((comeF a w f n).2 = 0)))) := by
  cases w with
  | none => exact c_putLetter_none hR hf
  | some q => exact c_putLetter_some hR hQ hf (hw q rfl).1 (hw q rfl).2
set_option maxRecDepth 100000 in
set_option maxHeartbeats 4000000 in
theorem c_answerMarker {G : bpG} {C : bpC} {M : bpM} {hl : Int64} {a : bpM} {ex f : Nat} (hR : RA C a ex) (hQ : QB a) (h20 : a 20 f = nI (hm a f)) (h8 : hm a f ≤ 8) (hf : f < 12) (hx : way a f ≠ some ex) : Ct G yX4_answerMarker cX4_answerMarker 4 none rmX4_answerMarker [.ref (G.1 0 0), .int (nI f)] C M hl (qC M hl (fun C' => RA C' (answerF a f) ex ∧ FrQ C C' ex)) := by
  refine ct_of [some (.ref (G.1 0 0)), some (.int (nI f)), none, none] (by decide +kernel) rfl rfl (Nat.le_of_ble_eq_true rfl) ?_
  intro κ X Z
  have hR0 := hR
  have loop : ∀ (n k : Nat) (Ck : bpC), k + n = hm a f → RA Ck (ansN (ansB a f) (way a f) f (fun k => a 21 (8 * f + k)) k) ex → FrQ C Ck ex → QB (ansN (ansB a f) (way a f) f (fun k => a 21 (8 * f + k)) k) → Rn G κ 33 [some (.ref (G.1 0 0)), some (.int (nI f)), some (.ref (G.1 9 f)), some (.int (nI k))] [] Ck M hl := by
    intro n
    induction n with
    | zero =>
      intro k Ck hk hRk hFk hQk
      have e20 : Ck 9 f 1 = nI (hm a f) := by rw [(hRk.2.2.2 f hf).1, ansN_s _ _ _ _ (by omega)]; unfold ansB; rw [upM_ne _ _ _ _ (by omega), upM_ne _ _ _ _ (by omega), upM_ne _ _ _ _ (by omega)]; exact h20
      refine r_iload_n X dX4_answerMarker_33 rfl ?_
      refine r_aload_n X dX4_answerMarker_34 rfl ?_
      refine r_gi9 1 X (by assumption) wfl_X4_207 dX4_answerMarker_35 (by decide) rfl ?_
      refine r_icmpge 63 X dX4_answerMarker_38 (by decide) (fun c38 => ?_) (fun c38 => absurd (by rw [e20, show k = hm a f by omega]; exact Int32.le_refl _) c38)
      show Rn G κ 63 _ _ _ _ _
      refine r_aload_n X dX4_answerMarker_63 rfl ?_
      refine r_iconst (0) X dX4_answerMarker_64 (by decide) ?_
      refine r_pi9 1 X (by assumption) wfl_X4_207 dX4_answerMarker_65 (by decide) rfl rfl (by decide +kernel) ?_
      show Rn G κ 68 _ _ _ _ _
      refine r_vret X Z dX4_answerMarker_68 ?_
      refine ⟨rfl, rfl, rfl, ?_, hFk.k (by decide)⟩
      rw [answerF_eq]
      have := RA_held0 hRk hf
      rw [show k = hm a f by omega] at this
      exact this
    | succ n ih =>
      intro k Ck hk hRk hFk hQk
      have hFl := hRk.2.2.2 f hf
      have e20 : Ck 9 f 1 = nI (hm a f) := by rw [hFl.1, ansN_s _ _ _ _ (by omega)]; unfold ansB; rw [upM_ne _ _ _ _ (by omega), upM_ne _ _ _ _ (by omega), upM_ne _ _ _ _ (by omega)]; exact h20
      have e18 : Ck 9 f 2 = oI (way a f) := by rw [hFl.2.1, ansN_s _ _ _ _ (by omega)]; unfold ansB; rw [upM_at]
      have ehm : hm (ansN (ansB a f) (way a f) f (fun k => a 21 (8 * f + k)) k) f = hm a f := by unfold hm; rw [ansN_s _ _ _ _ (by omega)]; unfold ansB; rw [upM_ne _ _ _ _ (by omega), upM_ne _ _ _ _ (by omega), upM_ne _ _ _ _ (by omega)]
      have e21 : Ck 10 f k = a 21 (8 * f + k) := by rw [hFl.2.2.2.2.2.2.2 k (by rw [ehm]; omega), ansN_s _ _ _ _ (by omega)]; unfold ansB; rw [upM_other _ _ _ _ (by omega), upM_other _ _ _ _ (by omega), upM_other _ _ _ _ (by omega)]
      have hk8 : k < 8 := by omega
      have hnp : np (ansN (ansB a f) (way a f) f (fun k => a 21 (8 * f + k)) k) = np a := by rw [ansN_np]; unfold ansB; rw [np_up (by omega), np_up (by omega), np_up (by omega)]
      refine r_iload_n X dX4_answerMarker_33 rfl ?_
      refine r_aload_n X dX4_answerMarker_34 rfl ?_
      refine r_gi9 1 X (by assumption) wfl_X4_207 dX4_answerMarker_35 (by decide) rfl ?_
      refine r_icmpge 63 X dX4_answerMarker_38 (by decide) (fun c38 => absurd c38 (by rw [e20]; simp only [i_lt, i_le, i_eq, i_m1, i_0, i_1, i_2, i_3, i_4, i_5, i_6, i_7, i_8, i_9, i_10, i_11, i_12, i_17, i_20, i_24, i_32, i_44, i_48, i_50, i_51, i_52, i_57, i_58, i_100, i_126, i_n (show hm a f < 2 ^ 31 by omega), i_n (show k < 2 ^ 31 by omega)]; omega)) (fun c38 => ?_)
      show Rn G κ 41 _ _ _ _ _
      refine r_aload_n X dX4_answerMarker_41 rfl ?_
      refine r_iload_n X dX4_answerMarker_42 rfl ?_
      refine r_aload_n X dX4_answerMarker_43 rfl ?_
      show Rn G κ 44 _ _ _ _ _
      refine r_gr9_0 X (by assumption) wfl_X4_283 dX4_answerMarker_44 ?_
      refine r_iload_n X dX4_answerMarker_47 rfl ?_
      refine r_iaC k X rfl (by assumption) (by assumption) dX4_answerMarker_48 (by decide) rfl rfl rfl ?_
      refine r_top e21 ?_
      refine r_aload_n X dX4_answerMarker_49 rfl ?_
      refine r_gi9 2 X (by assumption) wfl_X4_193 dX4_answerMarker_50 (by decide) rfl ?_
      refine r_top e18 ?_
      refine r_cv3_Ci X mdX4_putLetter wml_X4_203 dX4_answerMarker_53 ⟨rfl, rfl, Nat.le_of_ble_eq_true rfl, Nat.le_of_ble_eq_true rfl⟩ (by decide) rfl rfl (Nat.le_of_ble_eq_true rfl) rfl (zroom Z) (c_putLetter hRk hQk hf (fun q hq => ⟨by rw [hnp]; exact way_lt hq, fun e => hx (e ▸ hq)⟩)) (fun C2 r2 q2 => ?_)
      show Rn G κ 56 _ _ _ _ _
      refine r_pop X dX4_answerMarker_56 rfl ?_
      refine r_iinc_3 (nI (k + 1)) X dX4_answerMarker_57 (nI_1 k) rfl ?_
      show Rn G κ 60 _ _ _ _ _
      refine r_goto 33 X dX4_answerMarker_60 (by decide) ?_
      refine ih (k + 1) C2 (by omega) q2.1 (hFk.tr q2.2.1) (QB_come hQk (fun q hq => by rw [hnp]; exact way_lt hq))
  refine r_aload_n X dX4_answerMarker_0 rfl ?_
  refine r_gr0_2 X wfl_X4_24 dX4_answerMarker_1 ?_
  refine r_iload_n X dX4_answerMarker_4 rfl ?_
  refine r_aaF _ X rfl (by assumption) dX4_answerMarker_5 ?_
  refine r_astore_2 X dX4_answerMarker_6 rfl ?_
  refine r_aload_n X dX4_answerMarker_7 rfl ?_
  refine r_dup X dX4_answerMarker_8 rfl ?_
  show Rn G κ 9 _ _ _ _ _
  refine r_gi0 8 X wfl_X4_44 dX4_answerMarker_9 (by decide) rfl ?_
  refine r_iconst (1) X dX4_answerMarker_12 (by decide) ?_
  refine r_iadd X dX4_answerMarker_13 ?_
  refine r_pi0 8 X wfl_X4_44 dX4_answerMarker_14 (by decide) rfl rfl (by decide +kernel) ?_
  refine r_aload_n X dX4_answerMarker_17 rfl ?_
  refine r_iconst (0) X dX4_answerMarker_18 (by decide) ?_
  refine r_pz9 3 X (by assumption) (by decide) wfl_X4_184 dX4_answerMarker_19 (by decide) rfl rfl (by decide +kernel) ?_
  have e27 : C 0 0 8 = a 27 0 := hR.1.1.2.2.2.2.2.1
  rw [e27]
  have hR1 := RA_sc (v := a 27 0 + 1) hR (s := 8) (t := 27) (by omega)
  have hR2 := RA_flow (v := 0) hR1 hf (s := 3) (t := 19) (by omega)
  have ew : way (upM (upM a 27 0 (a 27 0 + 1)) 19 f 0) f = way a f := by rw [way_up (by omega), way_up (by omega)]
  refine r_aload_n X dX4_answerMarker_22 rfl ?_
  show Rn G κ 23 _ _ _ _ _
  refine r_aload_n X dX4_answerMarker_23 rfl ?_
  refine r_iload_n X dX4_answerMarker_24 rfl ?_
  refine r_cv1_I X mdX4_wayOf wml_X4_178 dX4_answerMarker_25 ⟨rfl, rfl, Nat.le_of_ble_eq_true rfl, Nat.le_of_ble_eq_true rfl⟩ (by decide) rfl rfl (Nat.le_of_ble_eq_true rfl) rfl (zroom Z) (c_wayOf hR2.1 hR2.2.1 hf) ?_
  show Rn G κ 28 _ _ _ _ _
  rw [ew]
  refine r_pi9 2 X (by assumption) wfl_X4_193 dX4_answerMarker_28 (by decide) rfl rfl (by decide +kernel) ?_
  have hR3 := RA_flow (v := oI (way a f)) hR2 hf (s := 2) (t := 18) (by omega)
  rw [upM_comm a (show (27 : Nat) ≠ 19 by decide)] at hR3
  refine r_iconst (0) X dX4_answerMarker_31 (by decide) ?_
  refine r_istore_3 X dX4_answerMarker_32 rfl ?_
  exact loop (hm a f) 0 _ (by omega) hR3 (((FrQ.rf.k (by decide)).k (by decide)).k (by decide)) (QB_up (by omega) (QB_up (by omega) (QB_up (by omega) hQ)))
set_option maxRecDepth 100000 in
set_option maxHeartbeats 4000000 in
theorem c_hasBehind_none {G : bpG} {C : bpC} {M : bpM} {hl : Int64} {a : bpM} {f : Nat} (hR : RA C a 9) (hf : f < 12) (h : a 18 f = -1) : Ct G yX4_hasLettersBehind cX4_hasLettersBehind 3 (some .boolean) rmX4_hasLettersBehind [.ref (G.1 0 0), .int (nI f)] C M hl (qI C M hl 0) := by
  refine ct_of [some (.ref (G.1 0 0)), some (.int (nI f)), none] (by decide +kernel) rfl rfl (Nat.le_of_ble_eq_true rfl) ?_
  intro κ X Z
  refine r_aload_n X dX4_hasLettersBehind_0 rfl ?_
  refine r_gr0_2 X wfl_X4_24 dX4_hasLettersBehind_1 ?_
  refine r_iload_n X dX4_hasLettersBehind_4 rfl ?_
  refine r_aaF _ X rfl (by assumption) dX4_hasLettersBehind_5 ?_
  refine r_gi9 2 X (by assumption) wfl_X4_193 dX4_hasLettersBehind_6 (by decide) rfl ?_
  refine r_top (show C 9 f 2 = -1 by rw [(hR.2.2.2 f hf).2.1]; exact h) ?_
  refine r_istore_2 X dX4_hasLettersBehind_9 rfl ?_
  refine r_aload_n X dX4_hasLettersBehind_10 rfl ?_
  show Rn G κ 11 _ _ _ _ _
  refine r_iload_n X dX4_hasLettersBehind_11 rfl ?_
  refine r_cv1_I X mdX4_isPort wml_X4_92 dX4_hasLettersBehind_12 ⟨rfl, rfl, Nat.le_of_ble_eq_true rfl, Nat.le_of_ble_eq_true rfl⟩ (by decide) rfl rfl (Nat.le_of_ble_eq_true rfl) rfl (zroom Z) (c_isPort hR.1.1.1 hR.1.2.1) ?_
  show Rn G κ 15 _ _ _ _ _
  refine r_ifeq 38 X dX4_hasLettersBehind_15 (by decide) (fun c15 => ?_) (fun c15 => absurd (by rw [isP_m1]; rfl) c15)
  show Rn G κ 38 _ _ _ _ _
  refine r_iconst (0) X dX4_hasLettersBehind_38 (by decide) ?_
  refine r_zret X Z dX4_hasLettersBehind_39 (by decide) ?_
  exact ⟨rfl, rfl, rfl, rfl⟩
set_option maxRecDepth 100000 in
set_option maxHeartbeats 4000000 in
theorem c_hasBehind_some {G : bpG} {C : bpC} {M : bpM} {hl : Int64} {a : bpM} {f q : Nat} (hR : RA C a 9) (hQ : IQ a) (hf : f < 12) (hq : q < np a) (h : a 18 f = nI q) : Ct G yX4_hasLettersBehind cX4_hasLettersBehind 3 (some .boolean) rmX4_hasLettersBehind [.ref (G.1 0 0), .int (nI f)] C M hl (qI C M hl (bI (hasL a q f))) := by
  have hB := hR.1.2.1
  have hn := hB.2.1
  have hq6 : q < 6 := by omega
  have hI := hQ q hq
  have hRq := hR.2.2.1 q hq (by omega)
  have hsz : C 6 q 2 = nI (qm a q) := hRq.1.trans hI.1
  have hex : exN (fun j => decide (C 7 q j = nI f) && !decide (C 8 q j = 0)) (qm a q) = hasL a q f := by
    unfold hasL
    refine exN_cong (fun j hj => ?_)
    obtain ⟨e1, e2⟩ := hRq.2 j hj
    have h0 := (hI.2.2.2.1 j hj).1
    rw [e1, e2]
    congr 1
    rw [← decide_not]
    refine decide_eq_decide.mpr ?_
    rw [i_lt, i_eq, i_0]
    rw [i_le, i_0] at h0
    omega
  refine ct_of [some (.ref (G.1 0 0)), some (.int (nI f)), none] (by decide +kernel) rfl rfl (Nat.le_of_ble_eq_true rfl) ?_
  intro κ X Z
  refine r_aload_n X dX4_hasLettersBehind_0 rfl ?_
  refine r_gr0_2 X wfl_X4_24 dX4_hasLettersBehind_1 ?_
  refine r_iload_n X dX4_hasLettersBehind_4 rfl ?_
  refine r_aaF _ X rfl (by assumption) dX4_hasLettersBehind_5 ?_
  refine r_gi9 2 X (by assumption) wfl_X4_193 dX4_hasLettersBehind_6 (by decide) rfl ?_
  refine r_top (show C 9 f 2 = nI q by rw [(hR.2.2.2 f hf).2.1]; exact h) ?_
  refine r_istore_2 X dX4_hasLettersBehind_9 rfl ?_
  refine r_aload_n X dX4_hasLettersBehind_10 rfl ?_
  show Rn G κ 11 _ _ _ _ _
  refine r_iload_n X dX4_hasLettersBehind_11 rfl ?_
  refine r_cv1_I X mdX4_isPort wml_X4_92 dX4_hasLettersBehind_12 ⟨rfl, rfl, Nat.le_of_ble_eq_true rfl, Nat.le_of_ble_eq_true rfl⟩ (by decide) rfl rfl (Nat.le_of_ble_eq_true rfl) rfl (zroom Z) (c_isPort hR.1.1.1 hB) ?_
  show Rn G κ 15 _ _ _ _ _
  refine r_ifeq 38 X dX4_hasLettersBehind_15 (by decide) (fun c15 => absurd c15 (by rw [isP_n hB hq]; decide)) (fun c15 => ?_)
  show Rn G κ 18 _ _ _ _ _
  refine r_aload_n X dX4_hasLettersBehind_18 rfl ?_
  refine r_gr0_1 X wfl_X4_18 dX4_hasLettersBehind_19 ?_
  refine r_iload_n X dX4_hasLettersBehind_22 rfl ?_
  refine r_aaP _ X rfl (by assumption) dX4_hasLettersBehind_23 ?_
  refine r_gr5_0 X (by assumption) wfl_X4_112 dX4_hasLettersBehind_24 ?_
  show Rn G κ 27 _ _ _ _ _
  refine r_iload_n X dX4_hasLettersBehind_27 rfl ?_
  refine r_cv1_I X mdX3_hasLetterOf wml_X4_275 dX4_hasLettersBehind_28 ⟨rfl, rfl, Nat.le_of_ble_eq_true rfl, Nat.le_of_ble_eq_true rfl⟩ (by assumption) rfl rfl (Nat.le_of_ble_eq_true rfl) rfl (zroom Z) (c_hasLetterOf hq6 hI.le hsz) ?_
  show Rn G κ 31 _ _ _ _ _
  rw [hex]
  refine r_ifeq 38 X dX4_hasLettersBehind_31 (by decide) (fun c31 => ?_) (fun c31 => ?_)
  · show Rn G κ 38 _ _ _ _ _
    refine r_iconst (0) X dX4_hasLettersBehind_38 (by decide) ?_
    refine r_zret X Z dX4_hasLettersBehind_39 (by decide) ?_
    refine ⟨rfl, rfl, rfl, ret_i ?_⟩
    simp [bI] at c31 ⊢
    simp [c31]
  · show Rn G κ 34 _ _ _ _ _
    refine r_iconst (1) X dX4_hasLettersBehind_34 (by decide) ?_
    refine r_goto 39 X dX4_hasLettersBehind_35 (by decide) ?_
    refine r_zret X Z dX4_hasLettersBehind_39 (by decide) ?_
    refine ⟨rfl, rfl, rfl, ret_i ?_⟩
    simp [bI] at c31 ⊢
    simp [c31]
set_option maxRecDepth 100000 in
set_option maxHeartbeats 4000000 in
theorem c_startMoving {G : bpG} {C : bpC} {M : bpM} {hl : Int64} {a : bpM} {f q : Nat} (hR : RA C a 9) (hQ : QB a) (hf : f < 12) (hq : q < np a) (h : a 18 f = nI q) (h20 : qm a q < 20) : Ct G yX4_startMoving cX4_startMoving 3 none rmX4_startMoving [.ref (G.1 0 0), .int (nI f)] C M hl (qC M hl (fun C' => RA C' (layF (upM a 19 f 1) q (nI f) 0) 9)) := by
  have hB := hR.1.2.1
  have hn := hB.2.1
  have hq6 : q < 6 := by omega
  have hsz : C 6 q 2 = nI (qm a q) := (hR.2.2.1 q hq (by omega)).1.trans (hQ q hq).1
  refine ct_of [some (.ref (G.1 0 0)), some (.int (nI f)), none] (by decide +kernel) rfl rfl (Nat.le_of_ble_eq_true rfl) ?_
  intro κ X Z
  refine r_aload_n X dX4_startMoving_0 rfl ?_
  refine r_gr0_2 X wfl_X4_24 dX4_startMoving_1 ?_
  refine r_iload_n X dX4_startMoving_4 rfl ?_
  refine r_aaF _ X rfl (by assumption) dX4_startMoving_5 ?_
  refine r_gi9 2 X (by assumption) wfl_X4_193 dX4_startMoving_6 (by decide) rfl ?_
  refine r_top (show C 9 f 2 = nI q by rw [(hR.2.2.2 f hf).2.1]; exact h) ?_
  refine r_istore_2 X dX4_startMoving_9 rfl ?_
  refine r_aload_n X dX4_startMoving_10 rfl ?_
  show Rn G κ 11 _ _ _ _ _
  refine r_iload_n X dX4_startMoving_11 rfl ?_
  refine r_cv1_I X mdX4_isPort wml_X4_92 dX4_startMoving_12 ⟨rfl, rfl, Nat.le_of_ble_eq_true rfl, Nat.le_of_ble_eq_true rfl⟩ (by decide) rfl rfl (Nat.le_of_ble_eq_true rfl) rfl (zroom Z) (c_isPort hR.1.1.1 hB) ?_
  show Rn G κ 15 _ _ _ _ _
  refine r_ifeq 41 X dX4_startMoving_15 (by decide) (fun c15 => absurd c15 (by rw [isP_n hB hq]; decide)) (fun c15 => ?_)
  show Rn G κ 18 _ _ _ _ _
  refine r_aload_n X dX4_startMoving_18 rfl ?_
  refine r_gr0_1 X wfl_X4_18 dX4_startMoving_19 ?_
  refine r_iload_n X dX4_startMoving_22 rfl ?_
  refine r_aaP _ X rfl (by assumption) dX4_startMoving_23 ?_
  refine r_gr5_0 X (by assumption) wfl_X4_112 dX4_startMoving_24 ?_
  show Rn G κ 27 _ _ _ _ _
  refine r_iload_n X dX4_startMoving_27 rfl ?_
  refine r_cv1_C X mdX3_appendMarker wml_X4_278 dX4_startMoving_28 ⟨rfl, rfl, Nat.le_of_ble_eq_true rfl, Nat.le_of_ble_eq_true rfl⟩ (by assumption) rfl rfl (Nat.le_of_ble_eq_true rfl) rfl (zroom Z) (c_appendMarker hq6 h20 hsz) (fun C2 e2 => ?_)
  subst e2
  show Rn G κ 31 _ _ _ _ _
  refine r_aload_n X dX4_startMoving_31 rfl ?_
  refine r_gr0_2 X wfl_X4_24 dX4_startMoving_32 ?_
  refine r_iload_n X dX4_startMoving_35 rfl ?_
  refine r_aaF _ X rfl (by assumption) dX4_startMoving_36 ?_
  refine r_iconst (1) X dX4_startMoving_37 (by decide) ?_
  refine r_pz9 3 X (by assumption) (by decide) wfl_X4_184 dX4_startMoving_38 (by decide) rfl rfl (by decide +kernel) ?_
  show Rn G κ 41 _ _ _ _ _
  refine r_vret X Z dX4_startMoving_41 ?_
  refine ⟨rfl, rfl, rfl, ?_⟩
  rw [lay_19]
  exact RA_flow (RA_lay hR hq (hQ q hq).1 h20 (fun r hr => (hQ r hr).2)) hf (by omega)
end
section
/-! sending -/
def sendG (a : bpM) (f : Nat) : bpM × Int32 :=
  if a 19 f ≠ 0 then holdF a f (a 22 f)
  else match way a f with
    | none => (lostF a f, 2)
    | some p => if a 18 f ≠ -1 ∧ a 18 f ≠ nI p ∧ hasL a (onN a f) f = true then holdF (layF (upM a 19 f 1) (onN a f) (nI f) 0) f (a 22 f)
      else comeF (upM a 18 f (nI p)) (some p) f (a 22 f)
theorem sendF_eq (a : bpM) (f : Nat) : sendF a f = sendG (upM a 22 f (a 22 f + 1)) f := rfl
theorem hold_12 (a : bpM) (f : Nat) (n : Int32) : (holdF a f n).2 = 1 ∨ (holdF a f n).2 = 2 := by
  unfold holdF
  split
  · exact Or.inr rfl
  · exact Or.inl rfl
theorem come_02 (a : bpM) (w : Option Nat) (f : Nat) (n : Int32) : (comeF a w f n).2 = 0 ∨ (comeF a w f n).2 = 2 := by
  unfold comeF
  split
  · exact Or.inr rfl
  · split
    · exact Or.inr rfl
    · exact Or.inl rfl
theorem IF_up {a : bpM} {s t k : Nat} {v : Int32} (hs : s ≠ 2 ∧ s ≠ 18 ∧ s ≠ 19 ∧ s ≠ 20 ∧ s ≠ 21 ∧ s ≠ 22) (h : IF a k) : IF (upM a s t v) k :=
  IF_cg (np_up (by omega)) (upM_other _ _ _ _ (by omega)) (upM_other _ _ _ _ (by omega)) (upM_other _ _ _ _ (by omega)) (upM_other _ _ _ _ (by omega)) (upM_other _ _ _ _ (by omega)) h
theorem IF_mono {a : bpM} {k k' : Nat} (hk : k ≤ k') (h : IF a k) : IF a k' := by
  intro f hf
  obtain ⟨h1, h2, h3, h4, h5, s, h6, h7⟩ := h f hf
  exact ⟨h1, h2, h3, h4, h5, s, by omega, h7⟩
theorem IF_sent {a : bpM} {k f : Nat} (hf : f < 12) (h : IF a k) : IF (upM a 22 f (a 22 f + 1)) (k + 1) := by
  intro g hg
  obtain ⟨h1, h2, h3, h4, h5, s, h6, h7⟩ := h g hg
  unfold IFf
  rw [np_up (by omega), hm_up (by omega), upM_other a 22 f (a 22 f + 1) (k' := 18) (by omega), upM_other a 22 f (a 22 f + 1) (k' := 19) (by omega), upM_other a 22 f (a 22 f + 1) (k' := 20) (by omega), upM_other a 22 f (a 22 f + 1) (k' := 21) (by omega)]
  refine ⟨h1, h2, h3, h4, h5, ?_⟩
  by_cases e : g = f
  · subst e
    exact ⟨s + 1, by omega, by rw [upM_at, h7]; exact nI_1 s⟩
  · exact ⟨s, by omega, by rw [upM_ne _ _ _ _ (by omega)]; exact h7⟩
theorem IF_on {a : bpM} {k f : Nat} {v : Int32} (hv : v = -1 ∨ ∃ p, p < np a ∧ v = nI p) (h : IF a k) : IF (upM a 18 f v) k := by
  intro g hg
  obtain ⟨h1, h2, h3, h4, h5, h6⟩ := h g hg
  unfold IFf
  rw [np_up (by omega), hm_up (by omega), upM_other a 18 f v (k' := 19) (by omega), upM_other a 18 f v (k' := 20) (by omega), upM_other a 18 f v (k' := 21) (by omega), upM_other a 18 f v (k' := 22) (by omega)]
  refine ⟨h1, ?_, h3, h4, h5, h6⟩
  by_cases e : g = f
  · subst e; rw [upM_at]; exact hv
  · rw [upM_ne _ _ _ _ (by omega)]; exact h2
theorem IF_mov {a : bpM} {k f : Nat} {v : Int32} (hv : v = 0 ∨ v = 1) (h : IF a k) : IF (upM a 19 f v) k := by
  intro g hg
  obtain ⟨h1, h2, h3, h4, h5, h6⟩ := h g hg
  unfold IFf
  rw [np_up (by omega), hm_up (by omega), upM_other a 19 f v (k' := 18) (by omega), upM_other a 19 f v (k' := 20) (by omega), upM_other a 19 f v (k' := 21) (by omega), upM_other a 19 f v (k' := 22) (by omega)]
  refine ⟨?_, h2, h3, h4, h5, h6⟩
  by_cases e : g = f
  · subst e; rw [upM_at]; exact hv
  · rw [upM_ne _ _ _ _ (by omega)]; exact h1
theorem IF_lay {a : bpM} {k p : Nat} {x n : Int32} (h : IF a k) : IF (layF a p x n) k := IF_up (by omega) (IF_up (by omega) (IF_up (by omega) h))
theorem IF_come {a : bpM} {k : Nat} {w : Option Nat} {f : Nat} {n : Int32} (h : IF a k) : IF (comeF a w f n).1 k :=
  IF_cg (come_np _ _ _ _) (come_s _ _ _ _ (by omega)) (come_s _ _ _ _ (by omega)) (come_s _ _ _ _ (by omega)) (come_s _ _ _ _ (by omega)) (come_s _ _ _ _ (by omega)) h
theorem IP_come {a : bpM} {w : Option Nat} {f : Nat} {n : Int32} (h : IP a) : IP (comeF a w f n).1 :=
  IP_cg (come_s _ _ _ _ (by omega)) (come_s _ _ _ _ (by omega)) (come_s _ _ _ _ (by omega)) (come_s _ _ _ _ (by omega)) (come_s _ _ _ _ (by omega)) (come_s _ _ _ _ (by omega)) (come_s _ _ _ _ (by omega)) (come_s _ _ _ _ (by omega)) (come_s _ _ _ _ (by omega)) (come_s _ _ _ _ (by omega)) (come_s _ _ _ _ (by omega)) h
theorem IF_hold {a : bpM} {k f : Nat} {n : Int32} (hf : f < 12) (hn : 0 < n) (h : IF a k) : IF (holdF a f n).1 k := by
  have hall : ∀ g, g < 12 → hm a g ≤ 8 := fun g hg => (h g hg).2.2.2.1
  unfold holdF
  by_cases e8 : a 20 f = 8
  · rw [if_pos e8]; exact IF_up (by omega) h
  · rw [if_neg e8]
    have e20 := (h f hf).2.2.1
    have h8 := hall f hf
    have hlt : hm a f < 8 := by
      rcases Nat.lt_or_ge (hm a f) 8 with q | q
      · exact q
      · exact absurd (by rw [e20, show hm a f = 8 by omega]; rfl) e8
    show IF (upM (upM a 21 (8 * f + hm a f) n) 20 f (a 20 f + 1)) k
    intro g hg
    obtain ⟨h1, h2, h3, h4, h5, h6⟩ := h g hg
    have e1 : a 20 f + 1 = nI (hm a f + 1) := by rw [e20]; exact nI_1 _
    rw [e1]
    unfold IFf
    rw [np_up (by omega), np_up (by omega), upM_other _ 20 f _ (k' := 18) (by omega), upM_other _ 20 f _ (k' := 19) (by omega), upM_other _ 20 f _ (k' := 21) (by omega), upM_other _ 20 f _ (k' := 22) (by omega), upM_other _ 21 _ n (k' := 18) (by omega), upM_other _ 21 _ n (k' := 19) (by omega), upM_other _ 21 _ n (k' := 22) (by omega)]
    by_cases e : g = f
    · subst e
      have eh : hm (upM (upM a 21 (8 * g + hm a g) n) 20 g (nI (hm a g + 1))) g = hm a g + 1 := by
        show (upM _ 20 g (nI (hm a g + 1)) 20 g).toNatClampNeg = _
        rw [upM_at]; exact nIc (by omega)
      rw [eh, upM_at]
      refine ⟨h1, h2, rfl, by omega, fun j hj => ?_, h6⟩
      by_cases ej : j = hm a g
      · subst ej; rw [upM_at]; exact hn
      · rw [upM_ne _ _ _ _ (by omega)]; exact h5 j (by omega)
    · have eh : hm (upM (upM a 21 (8 * f + hm a f) n) 20 f (nI (hm a f + 1))) g = hm a g := by
        show (upM _ 20 f (nI (hm a f + 1)) 20 g).toNatClampNeg = _
        rw [upM_ne _ _ _ _ (by omega), upM_ne _ _ _ _ (by omega)]; rfl
      rw [eh, upM_ne _ _ _ _ (by omega), upM_ne _ _ _ _ (by omega)]
      refine ⟨h1, h2, h3, h4, fun j hj => ?_, h6⟩
      rw [upM_ne _ _ _ _ (by omega)]
      exact h5 j hj
theorem IQ_hold {a : bpM} {f : Nat} {n : Int32} (h : IQ a) : IQ (holdF a f n).1 := by
  unfold holdF
  split
  · exact IQ_lost h
  · exact IQ_up (by omega) (IQ_up (by omega) h)
theorem IP_hold {a : bpM} {f : Nat} {n : Int32} (h : IP a) : IP (holdF a f n).1 := by
  unfold holdF
  split
  · exact IP_up (by omega) h
  · exact IP_up (by omega) (IP_up (by omega) h)
theorem hasL_pos {a : bpM} {p f : Nat} (h : hasL a p f = true) : 0 < qm a p := by
  unfold hasL at h
  cases hq : qm a p with
  | zero => rw [hq] at h; cases h
  | succ n => omega
theorem sent_pos {a : bpM} {k f : Nat} (hf : f < 12) (hk : k < 2 ^ 30) (h : IF a k) : 0 < upM a 22 f (a 22 f + 1) 22 f := by
  obtain ⟨h1, h2, h3, h4, h5, s, h6, h7⟩ := h f hf
  rw [upM_at, h7, nI_1, i_lt, i_0, i_n (by omega)]
  omega
theorem I_send {a : bpM} {k f : Nat} (hf : f < 12) (hk : k < 2 ^ 30) (hQ : IQ a) (hF : IF a k) (hP : IP a) : IQ (sendF a f).1 ∧ IF (sendF a f).1 (k + 1) ∧ IP (sendF a f).1 := by
  have hpos := sent_pos hf hk hF
  have hQ1 : IQ (upM a 22 f (a 22 f + 1)) := IQ_up (by omega) hQ
  have hF1 := IF_sent hf hF
  have hP1 : IP (upM a 22 f (a 22 f + 1)) := IP_up (by omega) hP
  rw [sendF_eq]
  generalize upM a 22 f (a 22 f + 1) = b at hpos hQ1 hF1 hP1 ⊢
  unfold sendG
  by_cases hm0 : b 19 f ≠ 0
  · rw [if_pos hm0]
    exact ⟨IQ_hold hQ1, IF_hold hf hpos hF1, IP_hold hP1⟩
  · rw [if_neg hm0]
    have h0 : b 19 f = 0 := Classical.not_not.mp hm0
    cases hw : way b f with
    | none => exact ⟨IQ_lost hQ1, IF_up (by omega) hF1, IP_up (by omega) hP1⟩
    | some p =>
      simp only
      by_cases hc : b 18 f ≠ -1 ∧ b 18 f ≠ nI p ∧ hasL b (onN b f) f = true
      · rw [if_pos hc]
        obtain ⟨c1, c2, c3⟩ := hc
        rcases (hF1 f hf).2.1 with e | ⟨q, hq, e⟩
        · exact absurd e c1
        · have hn6 := hP1.1.2.1
          have eo := onN_eq e (by omega)
          rw [eo] at c3 ⊢
          have hQ2 := IQ_mark hQ1 hn6 hq hf h0 e (hasL_pos c3)
          exact ⟨IQ_hold hQ2, IF_hold hf hpos (IF_lay (IF_mov (Or.inr rfl) hF1)), IP_hold (IP_up (by omega) (IP_up (by omega) (IP_up (by omega) (IP_up (by omega) hP1))))⟩
      · rw [if_neg hc]
        have hwp := IP_way hP1 hw
        refine ⟨IQ_come (IQ_on h0 hQ1) hf hpos (fun q e => ?_), IF_come (IF_on (Or.inr ⟨p, hwp.1, rfl⟩) hF1), IP_come (IP_up (by omega) hP1)⟩
        cases e
        rw [np_up (by omega), upM_ne _ _ _ _ (by omega)]
        exact hwp
/-! choosing -/
def stK (a : bpM) (key : Int32) (i : Nat) : bpM := fun k j => if k = 10 ∧ j < i ∧ a 3 j = key ∧ choi a j ≠ 2 then 0 else a k j
theorem stK_0 (a : bpM) (key : Int32) : stK a key 0 = a := by
  funext k j
  simp only [stK]
  rw [if_neg (by omega)]
theorem stK_s (a : bpM) (key : Int32) (i : Nat) {s : Nat} (hs : s ≠ 10) : stK a key i s = a s := by
  funext j
  simp only [stK]
  rw [if_neg (fun q => hs q.1)]
theorem stK_np (a : bpM) (key : Int32) (i : Nat) : np (stK a key i) = np a := by unfold np; rw [stK_s a key i (by decide)]
theorem stK_t {a : bpM} {key : Int32} {i : Nat} (h : a 3 i = key) (h2 : choi a i ≠ 2) : stK a key (i + 1) = upM (stK a key i) 10 i 0 := by
  funext k j
  simp only [stK, upM]
  by_cases e : k = 10 ∧ j = i
  · obtain ⟨rfl, rfl⟩ := e
    rw [if_pos ⟨rfl, by omega, h, h2⟩, if_pos ⟨rfl, rfl⟩]
  · rw [if_neg e]
    by_cases e2 : k = 10 ∧ j < i ∧ a 3 j = key ∧ choi a j ≠ 2
    · rw [if_pos e2, if_pos ⟨e2.1, by omega, e2.2.2⟩]
    · rw [if_neg e2, if_neg]
      rintro ⟨q1, q2, q3⟩
      exact e2 ⟨q1, by omega, q3⟩
theorem stK_f {a : bpM} {key : Int32} {i : Nat} (h : ¬ (a 3 i = key ∧ choi a i ≠ 2)) : stK a key (i + 1) = stK a key i := by
  funext k j
  simp only [stK]
  by_cases e2 : k = 10 ∧ j < i ∧ a 3 j = key ∧ choi a j ≠ 2
  · rw [if_pos e2, if_pos ⟨e2.1, by omega, e2.2.2⟩]
  · rw [if_neg e2, if_neg]
    rintro ⟨q1, q2, q3⟩
    have : j ≠ i := fun z => h (z ▸ q3)
    exact e2 ⟨q1, by omega, q3⟩
theorem stK_choi (a : bpM) (key : Int32) (i p : Nat) : choi (stK a key i) p = choi a p :=
  choi_cg (stK_np a key i) (stK_s a key i (by decide)) (stK_s a key i (by decide)) (stK_s a key i (by decide)) (stK_s a key i (by decide)) (by rw [stK_s a key i (by decide)]) p
theorem choL_cg {a b : bpM} (h2 : np a = np b) (h3 : a 3 = b 3) (h4 : a 4 = b 4) (h6 : a 6 = b 6) (h7 : a 7 = b 7) (h11 : a 11 0 = b 11 0) (p : Nat) (l : Option Nat) : choL a p l = choL b p l := by
  cases l with
  | none => rfl
  | some l => simp only [choL, alk_cg h3 h6 h7, ahd_cg h4, h2, h11]
theorem RB_wait {C : bpC} {a : bpM} {i : Nat} {v : Int32} (h : RB C a) : RB (upC C 5 i 10 v) (upM a 10 i v) := by
  obtain ⟨hS, hB, hP⟩ := h
  refine ⟨RSc_M (by omega) (RSc_C (by decide) hS), Bas_M (by omega) hB, ?_⟩
  rw [np_up (by omega)]
  intro p hp
  have := hP p hp
  unfold RPt at this ⊢
  by_cases e : p = i
  · subst e
    simp only [upC, upM]
    simp
    exact ⟨this.1, this.2.1, this.2.2.1, this.2.2.2.1, this.2.2.2.2.2⟩
  · rw [upC_other _ _ _ _ _ (fun q => e q.2), upM_ne _ _ _ _ (by omega), upM_ne _ _ _ _ (by omega), upM_ne _ _ _ _ (by omega), upM_ne _ _ _ _ (by omega), upM_ne _ _ _ _ (by omega), upM_ne _ _ _ _ (by omega), upM_ne _ _ _ _ (by omega), upM_ne _ _ _ _ (by omega)]
    exact this
theorem RB_ch {C : bpC} {a : bpM} {i : Nat} {v : Int32} (h : RB C a) : RB (upC C 5 i 9 v) a := by
  obtain ⟨hS, hB, hP⟩ := h
  refine ⟨RSc_C (by decide) hS, hB, fun p hp => ?_⟩
  have := hP p hp
  unfold RPt at this ⊢
  simp only [upC]
  simpa using this
def stA (a : bpM) : Nat → bpM
  | 0 => a
  | t + 1 => stK (stA a t) (nI t) (np a)
theorem stA_s (a : bpM) {s : Nat} (hs : s ≠ 10) : ∀ t, stA a t s = a s
  | 0 => rfl
  | t + 1 => by simp only [stA]; rw [stK_s _ _ _ hs, stA_s a hs t]
theorem stA_np (a : bpM) (t : Nat) : np (stA a t) = np a := by unfold np; rw [stA_s a (by decide)]
theorem stA_choi (a : bpM) (p : Nat) : ∀ t, choi (stA a t) p = choi a p
  | 0 => rfl
  | t + 1 => by simp only [stA]; rw [stK_choi, stA_choi a p t]
theorem stA_10 (a : bpM) (j : Nat) : ∀ t, stA a t 10 j = if j < np a ∧ choi a j ≠ 2 ∧ (∃ k, k < t ∧ a 3 j = nI k) then 0 else a 10 j
  | 0 => by
    show a 10 j = _
    rw [if_neg]
    rintro ⟨-, -, k, hk, -⟩
    omega
  | t + 1 => by
    show stK (stA a t) (nI t) (np a) 10 j = _
    simp only [stK]
    rw [stA_s a (by decide), stA_choi, stA_10 a j t]
    by_cases h1 : j < np a ∧ choi a j ≠ 2
    · by_cases h2 : a 3 j = nI t
      · rw [if_pos ⟨by trivial, h1.1, h2, h1.2⟩, if_pos ⟨h1.1, h1.2, t, by omega, h2⟩]
      · rw [if_neg (fun q => h2 q.2.2.1)]
        by_cases h3 : ∃ k, k < t ∧ a 3 j = nI k
        · obtain ⟨k, q1, q2⟩ := h3
          rw [if_pos ⟨h1.1, h1.2, k, q1, q2⟩, if_pos ⟨h1.1, h1.2, k, by omega, q2⟩]
        · rw [if_neg (fun q => h3 q.2.2), if_neg]
          rintro ⟨-, -, k, q1, q2⟩
          by_cases e : k = t
          · exact h2 (e ▸ q2)
          · exact h3 ⟨k, by omega, q2⟩
    · rw [if_neg (fun q => h1 ⟨q.2.1, q.2.2.2⟩), if_neg (fun q => h1 ⟨q.1, q.2.1⟩), if_neg (fun q => h1 ⟨q.1, q.2.1⟩)]
theorem stA_settle {a : bpM} (h : ∀ p, p < np a → ∃ k, k < 4 ∧ a 3 p = nI k) : stA a 4 = settle a := by
  funext k j
  by_cases hk : k = 10
  · subst hk
    rw [stA_10]
    unfold settle
    by_cases hj : j < np a ∧ choi a j ≠ 2
    · rw [if_pos ⟨hj.1, hj.2, h j hj.1⟩, if_pos ⟨rfl, hj⟩]
    · rw [if_neg (fun q => hj ⟨q.1, q.2.1⟩), if_neg (fun q => hj q.2)]
  · rw [stA_s a hk]
    unfold settle
    rw [if_neg (fun q => hk q.1)]
theorem settle_s (a : bpM) {s : Nat} (hs : s ≠ 10) : settle a s = a s := by
  funext j
  unfold settle
  rw [if_neg (fun q => hs q.1)]
theorem settle_np (a : bpM) : np (settle a) = np a := by unfold np; rw [settle_s a (by decide)]
theorem settle_choi (a : bpM) (p : Nat) : choi (settle a) p = choi a p :=
  choi_cg (settle_np a) (settle_s a (by decide)) (settle_s a (by decide)) (settle_s a (by decide)) (settle_s a (by decide)) (by rw [settle_s a (by decide)]) p
end
section
set_option maxRecDepth 100000 in
set_option maxHeartbeats 4000000 in
theorem c_holdR {G : bpG} {C : bpC} {M : bpM} {hl : Int64} {a : bpM} {ex f : Nat} {n : Int32} (hR : RA C a ex) (hf : f < 12) (h20 : a 20 f = nI (hm a f)) (hall : ∀ g, g < 12 → hm a g ≤ 8) : Ct G yX0_hold cX0_hold 2 (some .boolean) rmX0_hold [.ref (G.1 9 f), .int n] C M hl (qCi M hl (fun C' r => RA C' (holdF a f n).1 ex ∧ r = bI (decide ((holdF a f n).2 = 1)))) := by
  have h8 := hall f hf
  have e1 : C 9 f 1 = nI (hm a f) := (hR.2.2.2 f hf).1.trans h20
  refine ct_of [some (.ref (G.1 9 f)), some (.int n)] (by decide +kernel) rfl rfl (Nat.le_of_ble_eq_true rfl) ?_
  intro κ X Z
  refine r_aload_n X dX0_hold_0 rfl ?_
  refine r_gi9 1 X (by assumption) wfl_X0_15 dX0_hold_1 (by decide) rfl ?_
  refine r_bipush (8) X dX0_hold_4 (by decide) ?_
  refine r_icmplt 21 X dX0_hold_6 (by decide) (fun c6 => ?_) (fun c6 => ?_)
  · show Rn G κ 21 _ _ _ _ _
    refine r_aload_n X dX0_hold_21 rfl ?_
    refine r_gr9_0 X (by assumption) wfl_X0_9 dX0_hold_22 ?_
    refine r_aload_n X dX0_hold_25 rfl ?_
    refine r_gi9 1 X (by assumption) wfl_X0_15 dX0_hold_26 (by decide) rfl ?_
    refine r_iload_n X dX0_hold_29 rfl ?_
    refine r_isC (hm a f) X e1 (show hm a f < 8 by rw [e1, i_lt, i_8, i_n (by omega)] at c6; omega) (by assumption) dX0_hold_30 (by decide) rfl rfl rfl ?_
    refine r_aload_n X dX0_hold_31 rfl ?_
    show Rn G κ 32 _ _ _ _ _
    refine r_dup X dX0_hold_32 rfl ?_
    refine r_gi9 1 X (by assumption) wfl_X0_15 dX0_hold_33 (by decide) rfl ?_
    refine r_iconst (1) X dX0_hold_36 (by decide) ?_
    refine r_iadd X dX0_hold_37 ?_
    refine r_pi9 1 X (by assumption) wfl_X0_15 dX0_hold_38 (by decide) rfl rfl (by decide +kernel) ?_
    refine r_iconst (1) X dX0_hold_41 (by decide) ?_
    refine r_zret X Z dX0_hold_42 (by decide) ?_
    have hlt : hm a f < 8 := by rw [e1, i_lt, i_8, i_n (by omega)] at c6; omega
    have e8 : ¬ a 20 f = 8 := by rw [h20, i_eq, i_8, i_n (by omega)]; omega
    have e : holdF a f n = (upM (upM a 21 (8 * f + hm a f) n) 20 f (a 20 f + 1), 1) := by unfold holdF; rw [if_neg e8]
    rw [e]
    refine ⟨rfl, rfl, _, rfl, ?_, rfl⟩
    have := RA_hold (n := n) hR hf h20 hlt hall
    rw [upC_ne _ _ _ _ _ (by simp), e1, nI_1]
    exact this
  · show Rn G κ 9 _ _ _ _ _
    refine r_aload_n X dX0_hold_9 rfl ?_
    refine r_dup X dX0_hold_10 rfl ?_
    refine r_gi9 6 X (by assumption) wfl_X0_32 dX0_hold_11 (by decide) rfl ?_
    refine r_iconst (1) X dX0_hold_14 (by decide) ?_
    refine r_iadd X dX0_hold_15 ?_
    refine r_pi9 6 X (by assumption) wfl_X0_32 dX0_hold_16 (by decide) rfl rfl (by decide +kernel) ?_
    refine r_iconst (0) X dX0_hold_19 (by decide) ?_
    show Rn G κ 20 _ _ _ _ _
    refine r_zret X Z dX0_hold_20 (by decide) ?_
    have e8 : a 20 f = 8 := by
      rw [e1, i_lt, i_8, i_n (by omega)] at c6
      rw [h20, show hm a f = 8 by omega]; rfl
    have e : holdF a f n = (lostF a f, 2) := by unfold holdF; rw [if_pos e8]
    rw [e]
    exact ⟨rfl, rfl, _, rfl, RA_lost hR hf, rfl⟩
set_option maxRecDepth 100000 in
set_option maxHeartbeats 4000000 in
theorem c_send {G : bpG} {C : bpC} {M : bpM} {hl : Int64} {a : bpM} {k f : Nat} (hR : RA C a 9) (hQ : IQ a) (hF : IF a k) (hP : IP a) (hf : f < 12) (hn : 0 < np a) : Ct G yX4_send cX4_send 4 (some .int) rmX4_send [.ref (G.1 0 0), .int (nI f)] C M hl (qCi M hl (fun C' r => RA C' (sendF a f).1 9 ∧ r = (sendF a f).2)) := by
  refine ct_of [some (.ref (G.1 0 0)), some (.int (nI f)), none, none] (by decide +kernel) rfl rfl (Nat.le_of_ble_eq_true rfl) ?_
  intro κ X Z
  have hc : C 0 0 3 = nI (np a) := hR.1.1.1.trans hR.1.2.1.1
  have hn6 := hR.1.2.1.2.1
  refine r_iload_n X dX4_send_0 rfl ?_
  refine r_cs1_I X mdX4_isFlow wml_X4_175 dX4_send_1 ⟨rfl, rfl, Nat.le_of_ble_eq_true rfl, Nat.le_of_ble_eq_true rfl⟩ (Nat.le_of_ble_eq_true rfl) rfl (zroom Z) (c_isFlow) ?_
  show Rn G κ 4 _ _ _ _ _
  refine r_ifne 11 X dX4_send_4 (by decide) (fun c4 => ?_) (fun c4 => absurd c4 (by rw [show (decide (0 ≤ nI f) && decide (nI f < 12)) = true by simp only [Bool.and_eq_true, Bool.or_eq_true, decide_eq_true_eq, Bool.and_eq_false_iff, Bool.or_eq_false_iff, decide_eq_false_iff_not, Bool.not_eq_true', Bool.not_eq_false', i_lt, i_le, i_eq, i_m1, i_0, i_1, i_2, i_3, i_4, i_5, i_6, i_7, i_8, i_9, i_10, i_11, i_12, i_17, i_20, i_24, i_32, i_44, i_48, i_50, i_51, i_52, i_57, i_58, i_100, i_126, i_n (show f < 2 ^ 31 by omega)]; omega]; decide))
  show Rn G κ 11 _ _ _ _ _
  refine r_aload_n X dX4_send_11 rfl ?_
  refine r_gi0 3 X wfl_X4_28 dX4_send_12 (by decide) rfl ?_
  refine r_ifne 22 X dX4_send_15 (by decide) (fun c15 => ?_) (fun c15 => absurd c15 (by rw [hc]; exact nI_ne0 hn (by omega)))
  show Rn G κ 22 _ _ _ _ _
  refine r_aload_n X dX4_send_22 rfl ?_
  show Rn G κ 23 _ _ _ _ _
  refine r_gr0_2 X wfl_X4_24 dX4_send_23 ?_
  refine r_iload_n X dX4_send_26 rfl ?_
  refine r_aaF _ X rfl (by assumption) dX4_send_27 ?_
  refine r_astore_2 X dX4_send_28 rfl ?_
  refine r_aload_n X dX4_send_29 rfl ?_
  refine r_dup X dX4_send_30 rfl ?_
  refine r_gi9 4 X (by assumption) wfl_X4_181 dX4_send_31 (by decide) rfl ?_
  refine r_iconst (1) X dX4_send_34 (by decide) ?_
  show Rn G κ 35 _ _ _ _ _
  refine r_iadd X dX4_send_35 ?_
  refine r_pi9 4 X (by assumption) wfl_X4_181 dX4_send_36 (by decide) rfl rfl (by decide +kernel) ?_
  have e22 : C 9 f 4 = a 22 f := (hR.2.2.2 f hf).2.2.2.1
  rw [e22]
  have hR1 := RA_flow (v := a 22 f + 1) hR hf (s := 4) (t := 22) (by omega)
  have hQ1 : IQ (upM a 22 f (a 22 f + 1)) := IQ_up (by omega) hQ
  have hF1 := IF_sent hf hF
  rw [sendF_eq] at Z
  generalize upM a 22 f (a 22 f + 1) = a1 at hR1 hQ1 hF1 Z
  generalize upC C 9 f 4 (a 22 f + 1) = C1 at hR1 ⊢
  refine r_aload_n X dX4_send_39 rfl ?_
  refine r_gi9 3 X (by assumption) wfl_X4_184 dX4_send_40 (by decide) rfl ?_
  refine r_top (show C1 9 f 3 = a1 19 f from (hR1.2.2.2 f hf).2.2.1) ?_
  refine r_ifeq 63 X dX4_send_43 (by decide) (fun c43 => ?_) (fun c43 => ?_)
  · have h0 : a1 19 f = 0 := c43
    show Rn G κ 63 _ _ _ _ _
    cases hw : way a1 f with
    | none =>
      have hG : sendG a1 f = (lostF a1 f, 2) := by unfold sendG; rw [if_neg (Classical.not_not.mpr h0), hw]
      refine r_aload_n X dX4_send_63 rfl ?_
      refine r_iload_n X dX4_send_64 rfl ?_
      refine r_cv1_I X mdX4_wayOf wml_X4_178 dX4_send_65 ⟨rfl, rfl, Nat.le_of_ble_eq_true rfl, Nat.le_of_ble_eq_true rfl⟩ (by decide) rfl rfl (Nat.le_of_ble_eq_true rfl) rfl (zroom Z) (c_wayOf hR1.1 hR1.2.1 hf) ?_
      show Rn G κ 68 _ _ _ _ _
      refine r_top (show oI (way a1 f) = -1 by rw [hw]; rfl) ?_
      refine r_istore_3 X dX4_send_68 rfl ?_
      refine r_iload_n X dX4_send_69 rfl ?_
      refine r_iconst (-1) X dX4_send_70 (by decide) ?_
      refine r_icmpne 86 X dX4_send_71 (by decide) (fun c71 => absurd rfl c71) (fun c71 => ?_)
      show Rn G κ 74 _ _ _ _ _
      show Rn G κ 74 _ _ _ _ _
      refine r_aload_n X dX4_send_74 rfl ?_
      refine r_dup X dX4_send_75 rfl ?_
      refine r_gi9 6 X (by assumption) wfl_X4_190 dX4_send_76 (by decide) rfl ?_
      refine r_iconst (1) X dX4_send_79 (by decide) ?_
      refine r_iadd X dX4_send_80 ?_
      refine r_pi9 6 X (by assumption) wfl_X4_190 dX4_send_81 (by decide) rfl rfl (by decide +kernel) ?_
      refine r_iconst (2) X dX4_send_84 (by decide) ?_
      refine r_iret X Z dX4_send_85 ?_
      rw [hG]
      exact ⟨rfl, rfl, _, rfl, RA_lost hR1 hf, rfl⟩
    | some q =>
      have hq := way_lt hw
      have hq6 : q < 6 := by have := hR1.1.2.1.2.1; omega
      refine r_aload_n X dX4_send_63 rfl ?_
      refine r_iload_n X dX4_send_64 rfl ?_
      refine r_cv1_I X mdX4_wayOf wml_X4_178 dX4_send_65 ⟨rfl, rfl, Nat.le_of_ble_eq_true rfl, Nat.le_of_ble_eq_true rfl⟩ (by decide) rfl rfl (Nat.le_of_ble_eq_true rfl) rfl (zroom Z) (c_wayOf hR1.1 hR1.2.1 hf) ?_
      show Rn G κ 68 _ _ _ _ _
      refine r_top (show oI (way a1 f) = nI q by rw [hw]; rfl) ?_
      refine r_istore_3 X dX4_send_68 rfl ?_
      refine r_iload_n X dX4_send_69 rfl ?_
      refine r_iconst (-1) X dX4_send_70 (by decide) ?_
      refine r_icmpne 86 X dX4_send_71 (by decide) (fun c71 => ?_) (fun c71 => absurd c71 (nI_m1 (show q < 2 ^ 31 by omega)))
      show Rn G κ 86 _ _ _ _ _
      show Rn G κ 86 _ _ _ _ _
      refine r_aload_n X dX4_send_86 rfl ?_
      refine r_gi9 2 X (by assumption) wfl_X4_193 dX4_send_87 (by decide) rfl ?_
      refine r_iload_n X dX4_send_90 rfl ?_
      refine r_icmpeq 124 X dX4_send_91 (by decide) (fun c91 => ?_) (fun c91 => ?_)
      · show Rn G κ 124 _ _ _ _ _
        have hG : sendG a1 f = comeF (upM a1 18 f (nI q)) (some q) f (a1 22 f) := by
          unfold sendG
          rw [if_neg (Classical.not_not.mpr h0), hw]
          simp only
          rw [if_neg]
          rintro ⟨z1, z2, z3⟩
          exact z2 (((hR1.2.2.2 f hf).2.1).symm.trans c91)
        refine r_aload_n X dX4_send_124 rfl ?_
        refine r_iload_n X dX4_send_125 rfl ?_
        refine r_pi9 2 X (by assumption) wfl_X4_193 dX4_send_126 (by decide) rfl rfl (by decide +kernel) ?_
        have hR3 := RA_flow (v := nI q) hR1 hf (s := 2) (t := 18) (by omega)
        have hQ3 : QB (upM a1 18 f (nI q)) := QB_up (by omega) hQ1.qb
        refine r_aload_n X dX4_send_129 rfl ?_
        refine r_iload_n X dX4_send_130 rfl ?_
        refine r_aload_n X dX4_send_131 rfl ?_
        refine r_gi9 4 X (by assumption) wfl_X4_181 dX4_send_132 (by decide) rfl ?_
        refine r_top (show upC C1 9 f 2 (nI q) 9 f 4 = a1 22 f by rw [upC_ne _ _ _ _ _ (by simp)]; exact (hR1.2.2.2 f hf).2.2.2.1) ?_
        show Rn G κ 135 _ _ _ _ _
        refine r_iload_n X dX4_send_135 rfl ?_
        refine r_cv3_Ci X mdX4_putLetter wml_X4_203 dX4_send_136 ⟨rfl, rfl, Nat.le_of_ble_eq_true rfl, Nat.le_of_ble_eq_true rfl⟩ (by decide) rfl rfl (Nat.le_of_ble_eq_true rfl) rfl (zroom Z) (c_putLetter (w := some q) hR3 hQ3 hf (fun r hr => by cases hr; exact ⟨by rw [np_up (by omega)]; exact hq, by omega⟩)) (fun C2 r2 q2 => ?_)
        show Rn G κ 139 _ _ _ _ _
        refine r_ifeq 146 X dX4_send_139 (by decide) (fun c139 => ?_) (fun c139 => ?_)
        · show Rn G κ 146 _ _ _ _ _
          refine r_iconst (2) X dX4_send_146 (by decide) ?_
          refine r_iret X Z dX4_send_147 ?_
          rw [hG]
          refine ⟨rfl, rfl, _, rfl, q2.1, ?_⟩
          have c9 := c139
          rw [q2.2.2] at c9
          rcases come_02 (upM a1 18 f (nI q)) (some q) f (a1 22 f) with e | e
          · first | (rw [e] at c9 ⊢; done) | (rw [e] at c9; exact absurd c9 (by decide))
          · first | (rw [e] at c9 ⊢; done) | (rw [e] at c9; exact absurd rfl c9)
        · show Rn G κ 142 _ _ _ _ _
          refine r_iconst (0) X dX4_send_142 (by decide) ?_
          refine r_goto 147 X dX4_send_143 (by decide) ?_
          refine r_iret X Z dX4_send_147 ?_
          rw [hG]
          refine ⟨rfl, rfl, _, rfl, q2.1, ?_⟩
          have c9 := c139
          rw [q2.2.2] at c9
          rcases come_02 (upM a1 18 f (nI q)) (some q) f (a1 22 f) with e | e
          · first | (rw [e] at c9 ⊢; done) | (rw [e] at c9; exact absurd c9 (by decide))
          · first | (rw [e] at c9 ⊢; done) | (rw [e] at c9; exact absurd rfl c9)
      · show Rn G κ 94 _ _ _ _ _
        rcases (hF1 f hf).2.1 with eo | ⟨r, hr, eo⟩
        · have NOLET : a1 18 f ≠ -1 → hasL a1 (onN a1 f) f = true → False := fun z _ => z eo
          refine r_aload_n X dX4_send_94 rfl ?_
          refine r_iload_n X dX4_send_95 rfl ?_
          refine r_cv1_I X mdX4_hasLettersBehind wml_X4_196 dX4_send_96 ⟨rfl, rfl, Nat.le_of_ble_eq_true rfl, Nat.le_of_ble_eq_true rfl⟩ (by decide) rfl rfl (Nat.le_of_ble_eq_true rfl) rfl (zroom Z) (c_hasBehind_none hR1 hf eo) ?_
          show Rn G κ 99 _ _ _ _ _
          refine r_ifeq 124 X dX4_send_99 (by decide) (fun c99 => ?_) (fun c99 => absurd rfl c99)
          show Rn G κ 124 _ _ _ _ _
          have hG : sendG a1 f = comeF (upM a1 18 f (nI q)) (some q) f (a1 22 f) := by
            unfold sendG
            rw [if_neg (Classical.not_not.mpr h0), hw]
            simp only
            rw [if_neg]
            rintro ⟨z1, z2, z3⟩
            exact NOLET z1 z3
          refine r_aload_n X dX4_send_124 rfl ?_
          refine r_iload_n X dX4_send_125 rfl ?_
          refine r_pi9 2 X (by assumption) wfl_X4_193 dX4_send_126 (by decide) rfl rfl (by decide +kernel) ?_
          have hR3 := RA_flow (v := nI q) hR1 hf (s := 2) (t := 18) (by omega)
          have hQ3 : QB (upM a1 18 f (nI q)) := QB_up (by omega) hQ1.qb
          refine r_aload_n X dX4_send_129 rfl ?_
          refine r_iload_n X dX4_send_130 rfl ?_
          refine r_aload_n X dX4_send_131 rfl ?_
          refine r_gi9 4 X (by assumption) wfl_X4_181 dX4_send_132 (by decide) rfl ?_
          refine r_top (show upC C1 9 f 2 (nI q) 9 f 4 = a1 22 f by rw [upC_ne _ _ _ _ _ (by simp)]; exact (hR1.2.2.2 f hf).2.2.2.1) ?_
          show Rn G κ 135 _ _ _ _ _
          refine r_iload_n X dX4_send_135 rfl ?_
          refine r_cv3_Ci X mdX4_putLetter wml_X4_203 dX4_send_136 ⟨rfl, rfl, Nat.le_of_ble_eq_true rfl, Nat.le_of_ble_eq_true rfl⟩ (by decide) rfl rfl (Nat.le_of_ble_eq_true rfl) rfl (zroom Z) (c_putLetter (w := some q) hR3 hQ3 hf (fun r hr => by cases hr; exact ⟨by rw [np_up (by omega)]; exact hq, by omega⟩)) (fun C2 r2 q2 => ?_)
          show Rn G κ 139 _ _ _ _ _
          refine r_ifeq 146 X dX4_send_139 (by decide) (fun c139 => ?_) (fun c139 => ?_)
          · show Rn G κ 146 _ _ _ _ _
            refine r_iconst (2) X dX4_send_146 (by decide) ?_
            refine r_iret X Z dX4_send_147 ?_
            rw [hG]
            refine ⟨rfl, rfl, _, rfl, q2.1, ?_⟩
            have c9 := c139
            rw [q2.2.2] at c9
            rcases come_02 (upM a1 18 f (nI q)) (some q) f (a1 22 f) with e | e
            · first | (rw [e] at c9 ⊢; done) | (rw [e] at c9; exact absurd c9 (by decide))
            · first | (rw [e] at c9 ⊢; done) | (rw [e] at c9; exact absurd rfl c9)
          · show Rn G κ 142 _ _ _ _ _
            refine r_iconst (0) X dX4_send_142 (by decide) ?_
            refine r_goto 147 X dX4_send_143 (by decide) ?_
            refine r_iret X Z dX4_send_147 ?_
            rw [hG]
            refine ⟨rfl, rfl, _, rfl, q2.1, ?_⟩
            have c9 := c139
            rw [q2.2.2] at c9
            rcases come_02 (upM a1 18 f (nI q)) (some q) f (a1 22 f) with e | e
            · first | (rw [e] at c9 ⊢; done) | (rw [e] at c9; exact absurd c9 (by decide))
            · first | (rw [e] at c9 ⊢; done) | (rw [e] at c9; exact absurd rfl c9)
        · have hr6 : r < 6 := by have := hR1.1.2.1.2.1; omega
          have eon := onN_eq eo (show r < 2 ^ 31 by omega)
          refine r_aload_n X dX4_send_94 rfl ?_
          refine r_iload_n X dX4_send_95 rfl ?_
          refine r_cv1_I X mdX4_hasLettersBehind wml_X4_196 dX4_send_96 ⟨rfl, rfl, Nat.le_of_ble_eq_true rfl, Nat.le_of_ble_eq_true rfl⟩ (by decide) rfl rfl (Nat.le_of_ble_eq_true rfl) rfl (zroom Z) (c_hasBehind_some hR1 hQ1 hf hr eo) ?_
          show Rn G κ 99 _ _ _ _ _
          refine r_ifeq 124 X dX4_send_99 (by decide) (fun c99 => ?_) (fun c99 => ?_)
          · have NOLET : a1 18 f ≠ -1 → hasL a1 (onN a1 f) f = true → False := fun _ z => by rw [eon, bI_0 c99] at z; cases z
            show Rn G κ 124 _ _ _ _ _
            have hG : sendG a1 f = comeF (upM a1 18 f (nI q)) (some q) f (a1 22 f) := by
              unfold sendG
              rw [if_neg (Classical.not_not.mpr h0), hw]
              simp only
              rw [if_neg]
              rintro ⟨z1, z2, z3⟩
              exact NOLET z1 z3
            refine r_aload_n X dX4_send_124 rfl ?_
            refine r_iload_n X dX4_send_125 rfl ?_
            refine r_pi9 2 X (by assumption) wfl_X4_193 dX4_send_126 (by decide) rfl rfl (by decide +kernel) ?_
            have hR3 := RA_flow (v := nI q) hR1 hf (s := 2) (t := 18) (by omega)
            have hQ3 : QB (upM a1 18 f (nI q)) := QB_up (by omega) hQ1.qb
            refine r_aload_n X dX4_send_129 rfl ?_
            refine r_iload_n X dX4_send_130 rfl ?_
            refine r_aload_n X dX4_send_131 rfl ?_
            refine r_gi9 4 X (by assumption) wfl_X4_181 dX4_send_132 (by decide) rfl ?_
            refine r_top (show upC C1 9 f 2 (nI q) 9 f 4 = a1 22 f by rw [upC_ne _ _ _ _ _ (by simp)]; exact (hR1.2.2.2 f hf).2.2.2.1) ?_
            show Rn G κ 135 _ _ _ _ _
            refine r_iload_n X dX4_send_135 rfl ?_
            refine r_cv3_Ci X mdX4_putLetter wml_X4_203 dX4_send_136 ⟨rfl, rfl, Nat.le_of_ble_eq_true rfl, Nat.le_of_ble_eq_true rfl⟩ (by decide) rfl rfl (Nat.le_of_ble_eq_true rfl) rfl (zroom Z) (c_putLetter (w := some q) hR3 hQ3 hf (fun r hr => by cases hr; exact ⟨by rw [np_up (by omega)]; exact hq, by omega⟩)) (fun C2 r2 q2 => ?_)
            show Rn G κ 139 _ _ _ _ _
            refine r_ifeq 146 X dX4_send_139 (by decide) (fun c139 => ?_) (fun c139 => ?_)
            · show Rn G κ 146 _ _ _ _ _
              refine r_iconst (2) X dX4_send_146 (by decide) ?_
              refine r_iret X Z dX4_send_147 ?_
              rw [hG]
              refine ⟨rfl, rfl, _, rfl, q2.1, ?_⟩
              have c9 := c139
              rw [q2.2.2] at c9
              rcases come_02 (upM a1 18 f (nI q)) (some q) f (a1 22 f) with e | e
              · first | (rw [e] at c9 ⊢; done) | (rw [e] at c9; exact absurd c9 (by decide))
              · first | (rw [e] at c9 ⊢; done) | (rw [e] at c9; exact absurd rfl c9)
            · show Rn G κ 142 _ _ _ _ _
              refine r_iconst (0) X dX4_send_142 (by decide) ?_
              refine r_goto 147 X dX4_send_143 (by decide) ?_
              refine r_iret X Z dX4_send_147 ?_
              rw [hG]
              refine ⟨rfl, rfl, _, rfl, q2.1, ?_⟩
              have c9 := c139
              rw [q2.2.2] at c9
              rcases come_02 (upM a1 18 f (nI q)) (some q) f (a1 22 f) with e | e
              · first | (rw [e] at c9 ⊢; done) | (rw [e] at c9; exact absurd c9 (by decide))
              · first | (rw [e] at c9 ⊢; done) | (rw [e] at c9; exact absurd rfl c9)
          · have hhas : hasL a1 r f = true := bI_1 c99
            have hr20 : qm a1 r < 20 := by
              have := (hQ1 r hr).2.1
              have := mvc_le (p := r) hf h0
              omega
            have hG : sendG a1 f = holdF (layF (upM a1 19 f 1) r (nI f) 0) f (a1 22 f) := by
              unfold sendG
              rw [if_neg (Classical.not_not.mpr h0), hw]
              simp only
              rw [if_pos, eon]
              refine ⟨by rw [eo]; exact nI_m1 (by omega), fun z => c91 ((hR1.2.2.2 f hf).2.1.trans z), by rw [eon]; exact hhas⟩
            have hFb : IF (layF (upM a1 19 f 1) r (nI f) 0) (k + 1) := IF_lay (IF_mov (Or.inr rfl) hF1)
            have h20b := (hFb f hf).2.2.1
            have hallb : ∀ g, g < 12 → hm (layF (upM a1 19 f 1) r (nI f) 0) g ≤ 8 := fun g hg => (hFb g hg).2.2.2.1
            show Rn G κ 102 _ _ _ _ _
            refine r_aload_n X dX4_send_102 rfl ?_
            refine r_iload_n X dX4_send_103 rfl ?_
            refine r_cv1_C X mdX4_startMoving wml_X4_199 dX4_send_104 ⟨rfl, rfl, Nat.le_of_ble_eq_true rfl, Nat.le_of_ble_eq_true rfl⟩ (by decide) rfl rfl (Nat.le_of_ble_eq_true rfl) rfl (zroom Z) (c_startMoving hR1 hQ1.qb hf hr eo hr20) (fun C2 hR2 => ?_)
            show Rn G κ 107 _ _ _ _ _
            refine r_aload_n X dX4_send_107 rfl ?_
            refine r_aload_n X dX4_send_108 rfl ?_
            refine r_gi9 4 X (by assumption) wfl_X4_181 dX4_send_109 (by decide) rfl ?_
            refine r_top (show C2 9 f 4 = a1 22 f by rw [(hR2.2.2.2 f hf).2.2.2.1]; unfold layF; rw [upM_other _ _ _ _ (by omega), upM_other _ _ _ _ (by omega), upM_other _ _ _ _ (by omega), upM_other _ _ _ _ (by omega)]) ?_
            refine r_cv1_Ci X mdX0_hold wml_X4_187 dX4_send_112 ⟨rfl, rfl, Nat.le_of_ble_eq_true rfl, Nat.le_of_ble_eq_true rfl⟩ (by assumption) rfl rfl (Nat.le_of_ble_eq_true rfl) rfl (zroom Z) (c_holdR hR2 hf h20b hallb) (fun C3 r3 q2 => ?_)
            show Rn G κ 115 _ _ _ _ _
            show Rn G κ 115 _ _ _ _ _
            refine r_ifeq 122 X dX4_send_115 (by decide) (fun c115 => ?_) (fun c115 => ?_)
            · show Rn G κ 122 _ _ _ _ _
              refine r_iconst (2) X dX4_send_122 (by decide) ?_
              refine r_iret X Z dX4_send_123 ?_
              rw [hG]
              refine ⟨rfl, rfl, _, rfl, q2.1, ?_⟩
              have h12 := hold_12 (layF (upM a1 19 f 1) r (nI f) 0) f (a1 22 f)
              have c9 := c115
              rw [q2.2] at c9
              rcases h12 with e | e
              · first | (rw [e] at c9 ⊢; done) | (rw [e] at c9; exact absurd c9 (by decide))
              · first | (rw [e] at c9 ⊢; done) | (rw [e] at c9; exact absurd rfl c9)
            · show Rn G κ 118 _ _ _ _ _
              refine r_iconst (1) X dX4_send_118 (by decide) ?_
              refine r_goto 123 X dX4_send_119 (by decide) ?_
              refine r_iret X Z dX4_send_123 ?_
              rw [hG]
              refine ⟨rfl, rfl, _, rfl, q2.1, ?_⟩
              have h12 := hold_12 (layF (upM a1 19 f 1) r (nI f) 0) f (a1 22 f)
              have c9 := c115
              rw [q2.2] at c9
              rcases h12 with e | e
              · first | (rw [e] at c9 ⊢; done) | (rw [e] at c9; exact absurd c9 (by decide))
              · first | (rw [e] at c9 ⊢; done) | (rw [e] at c9; exact absurd rfl c9)
  · have hG : sendG a1 f = holdF a1 f (a1 22 f) := by unfold sendG; rw [if_pos c43]
    show Rn G κ 46 _ _ _ _ _
    refine r_aload_n X dX4_send_46 rfl ?_
    refine r_aload_n X dX4_send_47 rfl ?_
    refine r_gi9 4 X (by assumption) wfl_X4_181 dX4_send_48 (by decide) rfl ?_
    refine r_top (show C1 9 f 4 = a1 22 f from (hR1.2.2.2 f hf).2.2.2.1) ?_
    refine r_cv1_Ci X mdX0_hold wml_X4_187 dX4_send_51 ⟨rfl, rfl, Nat.le_of_ble_eq_true rfl, Nat.le_of_ble_eq_true rfl⟩ (by assumption) rfl rfl (Nat.le_of_ble_eq_true rfl) rfl (zroom Z) (c_holdR hR1 hf (hF1 f hf).2.2.1 (fun g hg => (hF1 g hg).2.2.2.1)) (fun C2 r2 q2 => ?_)
    show Rn G κ 54 _ _ _ _ _
    refine r_ifeq 61 X dX4_send_54 (by decide) (fun c54 => ?_) (fun c54 => ?_)
    · show Rn G κ 61 _ _ _ _ _
      refine r_iconst (2) X dX4_send_61 (by decide) ?_
      refine r_iret X Z dX4_send_62 ?_
      rw [hG]
      refine ⟨rfl, rfl, _, rfl, q2.1, ?_⟩
      have h12 := hold_12 a1 f (a1 22 f)
      have c9 := c54
      rw [q2.2] at c9
      rcases h12 with e | e
      · first | (rw [e] at c9 ⊢; done) | (rw [e] at c9; exact absurd c9 (by decide))
      · first | (rw [e] at c9 ⊢; done) | (rw [e] at c9; exact absurd rfl c9)
    · show Rn G κ 57 _ _ _ _ _
      refine r_iconst (1) X dX4_send_57 (by decide) ?_
      refine r_goto 62 X dX4_send_58 (by decide) ?_
      refine r_iret X Z dX4_send_62 ?_
      rw [hG]
      refine ⟨rfl, rfl, _, rfl, q2.1, ?_⟩
      have h12 := hold_12 a1 f (a1 22 f)
      have c9 := c54
      rw [q2.2] at c9
      rcases h12 with e | e
      · first | (rw [e] at c9 ⊢; done) | (rw [e] at c9; exact absurd c9 (by decide))
      · first | (rw [e] at c9 ⊢; done) | (rw [e] at c9; exact absurd rfl c9)
set_option maxRecDepth 100000 in
set_option maxHeartbeats 4000000 in
theorem c_chooseOfKey {G : bpG} {C : bpC} {M : bpM} {hl : Int64} {a : bpM} {key : Int32} (hR : RB C a) : Ct G yX4_chooseOfKey cX4_chooseOfKey 4 none rmX4_chooseOfKey [.ref (G.1 0 0), .int key] C M hl (qC M hl (fun C' => RB C' (stK a key (np a)) ∧ (∀ p, p < (np a) → a 3 p = key → C' 5 p 9 = choi a p) ∧ (∀ p, ¬ (p < (np a) ∧ a 3 p = key) → C' 5 p 9 = C 5 p 9) ∧ (∀ x, x ≠ 5 → C' x = C x))) := by
  refine ct_of [some (.ref (G.1 0 0)), some (.int key), none, none] (by decide +kernel) rfl rfl (Nat.le_of_ble_eq_true rfl) ?_
  intro κ X Z
  have hB := hR.2.1
  have hn := hB.2.1
  have loop : ∀ (n i : Nat) (Ck : bpC), i + n = np a → (RB Ck (stK a key i) ∧ (∀ p, p < i → a 3 p = key → Ck 5 p 9 = choi a p) ∧ (∀ p, ¬ (p < i ∧ a 3 p = key) → Ck 5 p 9 = C 5 p 9) ∧ (∀ x, x ≠ 5 → Ck x = C x)) → Rn G κ 8 [some (.ref (G.1 0 0)), some (.int key), some (.int (oI (lead a key))), some (.int (nI i))] [] Ck M hl := by
    intro n
    induction n with
    | zero =>
      intro i Ck hi hk
      have hi : i = np a := by omega
      subst hi
      have hc : Ck 0 0 3 = nI (np a) := by rw [hk.2.2.2 0 (by decide)]; exact hR.1.1.trans hB.1
      refine r_iload_n X dX4_chooseOfKey_8 rfl ?_
      refine r_aload_n X dX4_chooseOfKey_9 rfl ?_
      refine r_gi0 3 X wfl_X4_28 dX4_chooseOfKey_10 (by decide) rfl ?_
      refine r_icmpge 73 X dX4_chooseOfKey_13 (by decide) (fun c13 => ?_) (fun c13 => absurd (by rw [hc]; exact Int32.le_refl _) c13)
      show Rn G κ 73 _ _ _ _ _
      refine r_vret X Z dX4_chooseOfKey_73 ?_
      exact ⟨rfl, rfl, rfl, hk⟩
    | succ n ih =>
      intro i Ck hi hk
      obtain ⟨hRk, hch, hoc, hox⟩ := hk
      have hin : i < np a := by omega
      have h6 : i < 6 := by omega
      have hc : Ck 0 0 3 = nI (np a) := by rw [hox 0 (by decide)]; exact hR.1.1.trans hB.1
      have hin2 : i < np (stK a key i) := by rw [stK_np]; exact hin
      have ek : Ck 5 i 1 = a 3 i := by rw [(hRk.2.2 i hin2).1, stK_s _ _ _ (by decide)]
      refine r_iload_n X dX4_chooseOfKey_8 rfl ?_
      refine r_aload_n X dX4_chooseOfKey_9 rfl ?_
      refine r_gi0 3 X wfl_X4_28 dX4_chooseOfKey_10 (by decide) rfl ?_
      refine r_icmpge 73 X dX4_chooseOfKey_13 (by decide) (fun c13 => absurd c13 (by rw [hc]; simp only [i_lt, i_le, i_eq, i_m1, i_0, i_1, i_2, i_3, i_4, i_5, i_6, i_7, i_8, i_9, i_10, i_11, i_12, i_17, i_20, i_24, i_32, i_44, i_48, i_50, i_51, i_52, i_57, i_58, i_100, i_126, i_n (show np a < 2 ^ 31 by omega), i_n (show i < 2 ^ 31 by omega)]; omega)) (fun c13 => ?_)
      show Rn G κ 16 _ _ _ _ _
      refine r_aload_n X dX4_chooseOfKey_16 rfl ?_
      refine r_gr0_1 X wfl_X4_18 dX4_chooseOfKey_17 ?_
      refine r_iload_n X dX4_chooseOfKey_20 rfl ?_
      show Rn G κ 21 _ _ _ _ _
      refine r_aaP _ X rfl (by assumption) dX4_chooseOfKey_21 ?_
      refine r_gi5 1 X (by assumption) wfl_X4_131 dX4_chooseOfKey_22 (by decide) rfl ?_
      refine r_iload_n X dX4_chooseOfKey_25 rfl ?_
      refine r_icmpne 67 X dX4_chooseOfKey_26 (by decide) (fun c26 => ?_) (fun c26 => ?_)
      · show Rn G κ 67 _ _ _ _ _
        refine r_iinc_3 (nI (i + 1)) X dX4_chooseOfKey_67 (nI_1 i) rfl ?_
        refine r_goto 8 X dX4_chooseOfKey_70 (by decide) ?_
        refine ih (i + 1) Ck (by omega) ⟨?_, fun p hp h3 => ?_, fun p hp => ?_, hox⟩
        · rw [stK_f (fun z => c26 (ek.trans z.1))]; exact hRk
        · refine hch p ?_ h3
          have : p ≠ i := fun z => c26 (ek.trans (z ▸ h3))
          omega
        · exact hoc p (fun z => hp ⟨by omega, z.2⟩)
      · show Rn G κ 29 _ _ _ _ _
        refine r_aload_n X dX4_chooseOfKey_29 rfl ?_
        refine r_gr0_1 X wfl_X4_18 dX4_chooseOfKey_30 ?_
        refine r_iload_n X dX4_chooseOfKey_33 rfl ?_
        refine r_aaP _ X rfl (by assumption) dX4_chooseOfKey_34 ?_
        refine r_aload_n X dX4_chooseOfKey_35 rfl ?_
        refine r_iload_n X dX4_chooseOfKey_36 rfl ?_
        refine r_iload_n X dX4_chooseOfKey_37 rfl ?_
        show Rn G κ 38 _ _ _ _ _
        refine r_cv2_I X mdX4_choiceOf wml_X4_257 dX4_chooseOfKey_38 ⟨rfl, rfl, Nat.le_of_ble_eq_true rfl, Nat.le_of_ble_eq_true rfl⟩ (by decide) rfl rfl (Nat.le_of_ble_eq_true rfl) rfl (zroom Z) (c_choiceOf hRk hin2 (fun b hb => by rw [stK_np]; exact leadN_ltn hb)) ?_
        show Rn G κ 41 _ _ _ _ _
        have ech : choL (stK a key i) i (lead a key) = choi a i := by
          rw [choL_cg (stK_np a key i) (stK_s a key i (by decide)) (stK_s a key i (by decide)) (stK_s a key i (by decide)) (stK_s a key i (by decide)) (by rw [stK_s a key i (by decide)]), ← choL_eq]
          rw [← ek, c26]
        refine r_top ech ?_
        refine r_pi5 9 X (by assumption) wfl_X4_260 dX4_chooseOfKey_41 (by decide) rfl rfl (by decide +kernel) ?_
        refine r_aload_n X dX4_chooseOfKey_44 rfl ?_
        refine r_gr0_1 X wfl_X4_18 dX4_chooseOfKey_45 ?_
        refine r_iload_n X dX4_chooseOfKey_48 rfl ?_
        refine r_aaP _ X rfl (by assumption) dX4_chooseOfKey_49 ?_
        refine r_gi5 9 X (by assumption) wfl_X4_260 dX4_chooseOfKey_50 (by decide) rfl ?_
        refine r_iconst (2) X dX4_chooseOfKey_53 (by decide) ?_
        show Rn G κ 54 _ _ _ _ _
        refine r_icmpeq 67 X dX4_chooseOfKey_54 (by decide) (fun c54 => ?_) (fun c54 => ?_)
        · show Rn G κ 67 _ _ _ _ _
          refine r_iinc_3 (nI (i + 1)) X dX4_chooseOfKey_67 (nI_1 i) rfl ?_
          refine r_goto 8 X dX4_chooseOfKey_70 (by decide) ?_
          refine ih (i + 1) _ (by omega) ⟨?_, fun p hp h3 => ?_, fun p hp => ?_, fun x hx => ?_⟩
          · rw [stK_f (fun z => z.2 (by rw [upC_at] at c54; exact c54))]; exact RB_ch hRk
          · by_cases e : p = i
            · subst e; rw [upC_at]
            · rw [upC_ne _ _ _ _ _ (by omega)]; exact hch p (by omega) h3
          · have e : p ≠ i := fun z => hp ⟨by omega, by rw [z, ← ek, c26]⟩
            rw [upC_ne _ _ _ _ _ (by omega)]; exact hoc p (fun z => hp ⟨by omega, z.2⟩)
          · rw [upC_k _ _ _ _ hx]; exact hox x hx
        · show Rn G κ 57 _ _ _ _ _
          refine r_aload_n X dX4_chooseOfKey_57 rfl ?_
          refine r_gr0_1 X wfl_X4_18 dX4_chooseOfKey_58 ?_
          refine r_iload_n X dX4_chooseOfKey_61 rfl ?_
          refine r_aaP _ X rfl (by assumption) dX4_chooseOfKey_62 ?_
          refine r_iconst (0) X dX4_chooseOfKey_63 (by decide) ?_
          refine r_pi5 10 X (by assumption) wfl_X4_150 dX4_chooseOfKey_64 (by decide) rfl rfl (by decide +kernel) ?_
          refine r_iinc_3 (nI (i + 1)) X dX4_chooseOfKey_67 (nI_1 i) rfl ?_
          show Rn G κ 70 _ _ _ _ _
          refine r_goto 8 X dX4_chooseOfKey_70 (by decide) ?_
          refine ih (i + 1) _ (by omega) ⟨?_, fun p hp h3 => ?_, fun p hp => ?_, fun x hx => ?_⟩
          · rw [stK_t (by rw [← ek, c26]) (by rw [upC_at] at c54; exact c54)]; exact RB_wait (RB_ch hRk)
          · by_cases e : p = i
            · subst e; rw [upC_ne _ _ _ _ _ (by simp)]; rw [upC_at]
            · rw [upC_ne _ _ _ _ _ (by omega), upC_ne _ _ _ _ _ (by omega)]; exact hch p (by omega) h3
          · have e : p ≠ i := fun z => hp ⟨by omega, by rw [z, ← ek, c26]⟩
            rw [upC_ne _ _ _ _ _ (by omega), upC_ne _ _ _ _ _ (by omega)]; exact hoc p (fun z => hp ⟨by omega, z.2⟩)
          · rw [upC_k _ _ _ _ hx, upC_k _ _ _ _ hx]; exact hox x hx
  refine r_aload_n X dX4_chooseOfKey_0 rfl ?_
  refine r_iload_n X dX4_chooseOfKey_1 rfl ?_
  refine r_cv1_I X mdX4_leadOf wml_X4_168 dX4_chooseOfKey_2 ⟨rfl, rfl, Nat.le_of_ble_eq_true rfl, Nat.le_of_ble_eq_true rfl⟩ (by decide) rfl rfl (Nat.le_of_ble_eq_true rfl) rfl (zroom Z) (c_leadOf hR) ?_
  show Rn G κ 5 _ _ _ _ _
  refine r_istore_2 X dX4_chooseOfKey_5 rfl ?_
  refine r_iconst (0) X dX4_chooseOfKey_6 (by decide) ?_
  refine r_istore_3 X dX4_chooseOfKey_7 rfl ?_
  exact loop (np a) 0 C (by omega) ⟨by rw [stK_0]; exact hR, fun p hp => absurd hp (Nat.not_lt_zero _), fun _ _ => rfl, fun _ _ => rfl⟩
set_option maxRecDepth 100000 in
set_option maxHeartbeats 4000000 in
theorem c_chooseAll {G : bpG} {C : bpC} {M : bpM} {hl : Int64} {a : bpM} (hR : RB C a) (hK : ∀ p, p < np a → ∃ k, k < 4 ∧ a 3 p = nI k) : Ct G yX4_chooseAll cX4_chooseAll 2 none rmX4_chooseAll [.ref (G.1 0 0)] C M hl (qC M hl (fun C' => RB C' (settle a) ∧ (∀ p, p < np a → RCh C' (settle a) p) ∧ ∀ x, x ≠ 5 → C' x = C x)) := by
  refine ct_of [some (.ref (G.1 0 0)), none] (by decide +kernel) rfl rfl (Nat.le_of_ble_eq_true rfl) ?_
  intro κ X Z
  have loop : ∀ (n t : Nat) (Ck : bpC), t + n = 4 → (RB Ck (stA a t) ∧ (∀ p, p < np a → (∃ k, k < t ∧ a 3 p = nI k) → Ck 5 p 9 = choi a p) ∧ (∀ x, x ≠ 5 → Ck x = C x)) → Rn G κ 2 [some (.ref (G.1 0 0)), some (.int (nI t))] [] Ck M hl := by
    intro n
    induction n with
    | zero =>
      intro t Ck ht hk
      have ht : t = 4 := by omega
      subst ht
      refine r_iload_n X dX4_chooseAll_2 rfl ?_
      refine r_iconst (4) X dX4_chooseAll_3 (by decide) ?_
      refine r_icmpge 18 X dX4_chooseAll_4 (by decide) (fun c4 => ?_) (fun c4 => absurd (by decide) c4)
      show Rn G κ 18 _ _ _ _ _
      refine r_vret X Z dX4_chooseAll_18 ?_
      rw [stA_settle hK] at hk
      refine ⟨rfl, rfl, rfl, hk.1, fun p hp => ?_, hk.2.2⟩
      unfold RCh
      rw [settle_choi]
      exact hk.2.1 p hp (hK p hp)
    | succ n ih =>
      intro t Ck ht hk
      refine r_iload_n X dX4_chooseAll_2 rfl ?_
      refine r_iconst (4) X dX4_chooseAll_3 (by decide) ?_
      refine r_icmpge 18 X dX4_chooseAll_4 (by decide) (fun c4 => absurd c4 (by simp only [i_lt, i_le, i_eq, i_m1, i_0, i_1, i_2, i_3, i_4, i_5, i_6, i_7, i_8, i_9, i_10, i_11, i_12, i_17, i_20, i_24, i_32, i_44, i_48, i_50, i_51, i_52, i_57, i_58, i_100, i_126, i_n (show t < 2 ^ 31 by omega)]; omega)) (fun c4 => ?_)
      show Rn G κ 7 _ _ _ _ _
      refine r_aload_n X dX4_chooseAll_7 rfl ?_
      refine r_iload_n X dX4_chooseAll_8 rfl ?_
      refine r_cv1_C X mdX4_chooseOfKey wml_X4_254 dX4_chooseAll_9 ⟨rfl, rfl, Nat.le_of_ble_eq_true rfl, Nat.le_of_ble_eq_true rfl⟩ (by decide) rfl rfl (Nat.le_of_ble_eq_true rfl) rfl (zroom Z) (c_chooseOfKey hk.1) (fun C2 q2 => ?_)
      show Rn G κ 12 _ _ _ _ _
      refine r_iinc_1 (nI (t + 1)) X dX4_chooseAll_12 (nI_1 t) rfl ?_
      show Rn G κ 15 _ _ _ _ _
      refine r_goto 2 X dX4_chooseAll_15 (by decide) ?_
      obtain ⟨q1, q2a, q3, q4⟩ := q2
      refine ih (t + 1) C2 (by omega) ⟨?_, fun p hp h3 => ?_, fun x hx => ?_⟩
      · simp only [stA]; rw [stA_np] at q1; exact q1
      · by_cases e : a 3 p = nI t
        · have := q2a p (by rw [stA_np]; exact hp) (by rw [stA_s _ (by decide)]; exact e)
          rw [stA_choi] at this
          exact this
        · rw [q3 p (fun z => e (by have := z.2; rw [stA_s _ (by decide)] at this; exact this))]
          obtain ⟨k, z1, z2⟩ := h3
          exact hk.2.1 p hp ⟨k, by have : k ≠ t := fun z => e (z ▸ z2); omega, z2⟩
      · rw [q4 x hx]; exact hk.2.2 x hx
  refine r_iconst (0) X dX4_chooseAll_0 (by decide) ?_
  refine r_istore_1 X dX4_chooseAll_1 rfl ?_
  exact loop 4 0 C (by omega) ⟨hR, fun p _ h3 => by obtain ⟨k, z, -⟩ := h3; omega, fun _ _ => rfl⟩
end
section
/-! a queue that goes, one that moves up, ticks -/
def flN (a : bpM) (p j : Nat) : Nat := (a 15 (24 * p + j)).toNatClampNeg
def losN (a : bpM) (p : Nat) : Nat → bpM
  | 0 => a
  | j + 1 => if 0 < a 16 (24 * p + j) then lostF (losN a p j) (flN a p j) else losN a p j
def anMN (a b : bpM) (p : Nat) : Nat → bpM
  | 0 => b
  | j + 1 => if 0 < a 16 (24 * p + j) then anMN a b p j else answerF (anMN a b p j) (flN a p j)
def emptyF (a : bpM) (p : Nat) : bpM := anMN a (upM (losN a p (qm a p)) 17 p 0) p (qm a p)
theorem losN_s (a : bpM) (p : Nat) {s : Nat} (hs : s ≠ 24) : ∀ j, losN a p j s = a s
  | 0 => rfl
  | j + 1 => by
    simp only [losN]
    split
    · unfold lostF; rw [upM_other _ _ _ _ hs, losN_s a p hs j]
    · exact losN_s a p hs j
theorem losN_np (a : bpM) (p j : Nat) : np (losN a p j) = np a := by unfold np; rw [losN_s a p (by decide)]
/-- of a QUEUE all but that its PORT is UP -/
def IQe (a : bpM) (p : Nat) : Prop := a 17 p = nI (qm a p) ∧ qm a p ≤ 8 + mvc a p ∧ (∀ j, j < qm a p → 0 ≤ a 16 (24 * p + j) ∧ ∃ f, f < 12 ∧ a 15 (24 * p + j) = nI f ∧ (a 16 (24 * p + j) = 0 → a 19 f ≠ 0 ∧ a 18 f = nI p)) ∧ (∀ j j', j < qm a p → j' < qm a p → a 16 (24 * p + j) = 0 → a 16 (24 * p + j') = 0 → a 15 (24 * p + j) = a 15 (24 * p + j') → j = j')
theorem IQp.e {a : bpM} {p : Nat} (h : IQp a p) : IQe a p := ⟨h.1, h.2.1, h.2.2.2.1, h.2.2.2.2⟩
theorem IQe.p {a : bpM} {p : Nat} (h : IQe a p) (h5 : 0 < qm a p → a 5 p = 1) : IQp a p := ⟨h.1, h.2.1, h5, h.2.2.1, h.2.2.2⟩
theorem IQe.le {a : bpM} {p : Nat} (h : IQe a p) : qm a p ≤ 20 := by
  have := ctN_le (fun f => decide (a 19 f ≠ 0) && decide (a 18 f = nI p)) 12
  have h2 : qm a p ≤ 8 + ctN (fun f => decide (a 19 f ≠ 0) && decide (a 18 f = nI p)) 12 := h.2.1
  omega
theorem IQe.fl {a : bpM} {p j : Nat} (h : IQe a p) (hj : j < qm a p) : flN a p j < 12 ∧ a 15 (24 * p + j) = nI (flN a p j) := by
  obtain ⟨-, f, hf, e, -⟩ := h.2.2.1 j hj
  have : flN a p j = f := by unfold flN; rw [e]; exact nIc (by omega)
  rw [this]
  exact ⟨hf, e⟩
theorem IQe_cg {a b : bpM} {p : Nat} (h15 : b 15 = a 15) (h16 : b 16 = a 16) (h17 : b 17 = a 17) (h18 : b 18 = a 18) (h19 : b 19 = a 19) (h : IQe a p) : IQe b p := by
  unfold IQe mvc qm at h ⊢
  rw [h15, h16, h17, h18, h19]
  exact h
theorem IQ_cg {a b : bpM} (hn : np b = np a) (h5 : b 5 = a 5) (h15 : b 15 = a 15) (h16 : b 16 = a 16) (h17 : b 17 = a 17) (h18 : b 18 = a 18) (h19 : b 19 = a 19) (h : IQ a) : IQ b := by
  intro p hp
  rw [hn] at hp
  refine (IQe_cg h15 h16 h17 h18 h19 (h p hp).e).p ?_
  unfold qm
  rw [h17, h5]
  exact (h p hp).2.2.1
theorem IQp_cg {a b : bpM} {q : Nat} (h17 : b 17 q = a 17 q) (h5 : b 5 = a 5) (h15 : b 15 = a 15) (h16 : b 16 = a 16) (h18 : b 18 = a 18) (h19 : b 19 = a 19) (h : IQp a q) : IQp b q := by
  unfold IQp mvc qm at h ⊢
  rw [h17, h5, h15, h16, h18, h19]
  exact h
/-- a FLOW of a PORT whose QUEUE is empty does not move any more -/
theorem IQ_unm {b : bpM} {p g : Nat} (hQ : IQ b) (hn6 : np b ≤ 6) (hp : p < np b) (h0 : b 17 p = 0) (h18 : b 18 g = nI p) : IQ (upM b 19 g 0) := by
  intro q hq
  rw [np_up (by omega)] at hq
  obtain ⟨h1, h2, h3, h4, h5⟩ := hQ q hq
  unfold IQp
  rw [qm_up (by omega), upM_other b 19 g 0 (k' := 5) (by omega), upM_other b 19 g 0 (k' := 15) (by omega), upM_other b 19 g 0 (k' := 16) (by omega), upM_other b 19 g 0 (k' := 17) (by omega), upM_other b 19 g 0 (k' := 18) (by omega)]
  by_cases e : q = p
  · subst e
    have hz : qm b q = 0 := by unfold qm; rw [h0]; rfl
    rw [hz] at h1 ⊢
    exact ⟨h1, by omega, fun z => absurd z (Nat.lt_irrefl _), fun j hj => absurd hj (Nat.not_lt_zero _), fun j _ hj => absurd hj (Nat.not_lt_zero _)⟩
  · have ne : b 18 g ≠ nI q := fun z => e (nI_inj (by omega) (by omega) (h18.symm.trans z)).symm
    have emv : mvc (upM b 19 g 0) q = mvc b q := mvc_cg (fun f _ => by
      rw [upM_other b 19 g 0 (k' := 18) (by omega)]
      by_cases ef : f = g
      · subst ef
        constructor
        · rintro ⟨-, z⟩; exact absurd z ne
        · rintro ⟨-, z⟩; exact absurd z ne
      · rw [upM_ne b 19 g 0 (by simp [ef])])
    rw [emv]
    refine ⟨h1, h2, h3, fun j hj => ?_, h5⟩
    obtain ⟨q1, f, hf, q2, q3⟩ := h4 j hj
    refine ⟨q1, f, hf, q2, fun z => ⟨?_, (q3 z).2⟩⟩
    have : f ≠ g := fun ef => ne (by rw [← ef]; exact (q3 z).2)
    rw [upM_ne b 19 g 0 (by simp [this])]
    exact (q3 z).1
theorem lo_bit {x : Int32} (h : 0 ≤ x) (h2 : ¬ 0 < x) : x = 0 := by
  rw [i_eq, i_0]
  rw [i_le, i_0] at h
  rw [i_lt, i_0] at h2
  omega
theorem lo_bit2 {x : Int32} (h2 : 0 < x) : ¬ x = 0 := by
  rw [i_eq, i_0]
  rw [i_lt, i_0] at h2
  omega
/-- what holds while the MARKERS of a QUEUE that went are ANSWERED -/
def Jm (a : bpM) (p k j : Nat) (b : bpM) : Prop := IQ b ∧ IF b k ∧ IP b ∧ np b = np a ∧ b 17 p = 0 ∧ b 6 = a 6 ∧ ∀ j', j ≤ j' → j' < qm a p → a 16 (24 * p + j') = 0 → b 18 (flN a p j') = nI p
theorem Jm_no {a b : bpM} {p k j : Nat} (h : Jm a p k j b) (hh : ¬ 0 < a 6 p) (f : Nat) : way b f ≠ some p := fun z => hh (by rw [← h.2.2.2.2.2.1]; exact stat_heard (way_car z))
theorem Jm_step {a b : bpM} {p k j : Nat} (hE : IQe a p) (hp : p < np a) (hh : ¬ 0 < a 6 p) (hj : j < qm a p) (hz : ¬ 0 < a 16 (24 * p + j)) (h : Jm a p k j b) : IQ (upM b 19 (flN a p j) 0) ∧ Jm a p k (j + 1) (answerF b (flN a p j)) := by
  have hno := Jm_no h hh
  obtain ⟨hQ, hF, hP, hn, h0, h6, hr⟩ := h
  have hfl := hE.fl hj
  have hn6 := hP.1.2.1
  have hz0 := lo_bit (hE.2.2.1 j hj).1 hz
  have hu := IQ_unm hQ hn6 (by rw [hn]; exact hp) h0 (hr j (Nat.le_refl _) hj hz0)
  refine ⟨hu, IQ_ans hu hF hP hfl.1, IF_ans hF hfl.1, IP_ans hP, by rw [ans_np]; exact hn, by rw [ans_q b (hno _)]; exact h0, by rw [ans_s _ _ (by omega)]; exact h6, fun j' h1 h2 h3 => ?_⟩
  have ne : flN a p j' ≠ flN a p j := fun z => by
    have := hE.2.2.2 j' j h2 hj h3 hz0 (by rw [(hE.fl h2).2, hfl.2, z])
    omega
  rw [ans_o b ne (by omega)]
  exact hr j' (by omega) h2 h3
theorem Jm_all {a b : bpM} {p k : Nat} (hE : IQe a p) (hp : p < np a) (hh : ¬ 0 < a 6 p) (h : Jm a p k 0 b) : ∀ j, j ≤ qm a p → Jm a p k j (anMN a b p j)
  | 0, _ => h
  | j + 1, hj => by
    have ih := Jm_all hE hp hh h j (by omega)
    simp only [anMN]
    by_cases hz : 0 < a 16 (24 * p + j)
    · rw [if_pos hz]
      exact ⟨ih.1, ih.2.1, ih.2.2.1, ih.2.2.2.1, ih.2.2.2.2.1, ih.2.2.2.2.2.1, fun j' h1 h2 h3 => ih.2.2.2.2.2.2 j' (by omega) h2 h3⟩
    · rw [if_neg hz]
      exact (Jm_step hE hp hh (by omega) hz ih).2
theorem Jm_0 {a : bpM} {p k : Nat} (hq : ∀ q, q < np a → q ≠ p → IQp a q) (hE : IQe a p) (hF : IF a k) (hP : IP a) : Jm a p k 0 (upM (losN a p (qm a p)) 17 p 0) := by
  have hs : ∀ s, s ≠ 24 → s ≠ 17 → upM (losN a p (qm a p)) 17 p 0 s = a s := fun s h1 h2 => by rw [upM_other _ _ _ _ h2, losN_s a p h1]
  have hn : np (upM (losN a p (qm a p)) 17 p 0) = np a := by unfold np; rw [hs 2 (by decide) (by decide)]
  refine ⟨?_, IF_cg hn (hs _ (by decide) (by decide)) (hs _ (by decide) (by decide)) (hs _ (by decide) (by decide)) (hs _ (by decide) (by decide)) (hs _ (by decide) (by decide)) hF, IP_cg (hs _ (by decide) (by decide)) (hs _ (by decide) (by decide)) (hs _ (by decide) (by decide)) (hs _ (by decide) (by decide)) (hs _ (by decide) (by decide)) (hs _ (by decide) (by decide)) (hs _ (by decide) (by decide)) (hs _ (by decide) (by decide)) (hs _ (by decide) (by decide)) (hs _ (by decide) (by decide)) (hs _ (by decide) (by decide)) hP, hn, upM_at _ _ _ _, hs 6 (by decide) (by decide), fun j' _ h2 h3 => ?_⟩
  · intro q hq2
    rw [hn] at hq2
    by_cases e : q = p
    · subst e
      have hz : qm (upM (losN a q (qm a q)) 17 q 0) q = 0 := by
        show (upM _ 17 q 0 17 q).toNatClampNeg = 0
        rw [upM_at]; rfl
      unfold IQp
      rw [hz]
      exact ⟨upM_at _ _ _ _, by omega, fun z => absurd z (Nat.lt_irrefl _), fun j hj => absurd hj (Nat.not_lt_zero _), fun j _ hj => absurd hj (Nat.not_lt_zero _)⟩
    · have h17 : upM (losN a p (qm a p)) 17 p 0 17 q = a 17 q := by rw [upM_ne _ _ _ _ (by omega), losN_s a p (by decide)]
      exact IQp_cg h17 (hs 5 (by decide) (by decide)) (hs 15 (by decide) (by decide)) (hs 16 (by decide) (by decide)) (hs 18 (by decide) (by decide)) (hs 19 (by decide) (by decide)) (hq q hq2 e)
  · rw [hs 18 (by decide) (by decide)]
    obtain ⟨-, f, hf, e, q3⟩ := hE.2.2.1 j' h2
    have : flN a p j' = f := by unfold flN; rw [e]; exact nIc (by omega)
    rw [this]
    exact (q3 h3).2
theorem I_empty {a : bpM} {p k : Nat} (hq : ∀ q, q < np a → q ≠ p → IQp a q) (hE : IQe a p) (hF : IF a k) (hP : IP a) (hp : p < np a) (hh : ¬ 0 < a 6 p) : IQ (emptyF a p) ∧ IF (emptyF a p) k ∧ IP (emptyF a p) :=
  have h := Jm_all hE hp hh (Jm_0 hq hE hF hP) (qm a p) (Nat.le_refl _)
  ⟨h.1, h.2.1, h.2.2.1⟩
/-- the first one of a QUEUE leaves -/
def popF (a : bpM) (p : Nat) : bpM := fun k j => if k = 17 ∧ j = p then a 17 p - 1 else if (k = 15 ∨ k = 16) ∧ 24 * p ≤ j ∧ j + 1 < 24 * p + qm a p then a k (j + 1) else a k j
theorem pop_s (a : bpM) (p : Nat) {s : Nat} (hs : s ≠ 15 ∧ s ≠ 16 ∧ s ≠ 17) : popF a p s = a s := by
  funext j
  simp only [popF]
  rw [if_neg (by omega), if_neg (by omega)]
theorem pop_np (a : bpM) (p : Nat) : np (popF a p) = np a := by unfold np; rw [pop_s a p (by omega)]
theorem pop_in (a : bpM) {p j s : Nat} (hs : s = 15 ∨ s = 16) (hj : j + 1 < qm a p) : popF a p s (24 * p + j) = a s (24 * p + (j + 1)) := by
  simp only [popF]
  rw [if_neg (by omega), if_pos (by omega)]
  rfl
theorem pop_out (a : bpM) {p q j s : Nat} (hs : s = 15 ∨ s = 16) (hne : q ≠ p) (hj : j < 24) (hq : qm a p ≤ 24) : popF a p s (24 * q + j) = a s (24 * q + j) := by
  simp only [popF]
  rw [if_neg (by omega), if_neg (by omega)]
theorem pop_17 (a : bpM) (p : Nat) : popF a p 17 p = a 17 p - 1 := by
  simp only [popF]
  rw [if_pos ⟨trivial, trivial⟩]
theorem pop_17o (a : bpM) {p q : Nat} (h : q ≠ p) : popF a p 17 q = a 17 q := by
  simp only [popF]
  rw [if_neg (by omega), if_neg (by omega)]
theorem pop_qm {a : bpM} {p m : Nat} (h : a 17 p = nI (m + 1)) (hm : m < 20) : qm a p = m + 1 ∧ popF a p 17 p = nI m ∧ qm (popF a p) p = m := by
  have e1 : popF a p 17 p = nI m := by rw [pop_17, h]; exact nI_pred m
  refine ⟨by unfold qm; rw [h]; exact nIc (by omega), e1, by unfold qm; rw [e1]; exact nIc (by omega)⟩
theorem pop_qmo (a : bpM) {p q : Nat} (h : q ≠ p) : qm (popF a p) q = qm a q := by unfold qm; rw [pop_17o a h]
theorem mvc_un {a : bpM} {p g : Nat} (hg : g < 12) (h19 : a 19 g ≠ 0) (h18 : a 18 g = nI p) : mvc (upM a 19 g 0) p + 1 = mvc a p := by
  unfold mvc
  have := ctN_upd (P := fun f => decide (a 19 f ≠ 0) && decide (a 18 f = nI p)) (Q := fun f => decide (upM a 19 g 0 19 f ≠ 0) && decide (upM a 19 g 0 18 f = nI p)) (i := g) (fun f hf => by rw [upM_ne a 19 g 0 (k' := 19) (j' := f) (by simp [hf]), upM_ne a 19 g 0 (k' := 18) (j' := f) (by simp)]) hg
  rw [if_pos (by simp [h19, h18]), if_neg (by rw [upM_at]; simp)] at this
  omega
/-- the first one leaves: of the letters nothing else changes; a MARKER's FLOW does not move any more -/
theorem IQ_pop {a : bpM} {p m : Nat} (hQ : IQ a) (hn6 : np a ≤ 6) (hp : p < np a) (hm : qm a p = m + 1) : (¬ a 16 (24 * p) = 0 → IQ (popF a p)) ∧ (a 16 (24 * p) = 0 → IQ (upM (popF a p) 19 (flN a p 0) 0)) := by
  obtain ⟨p1, p2, p3, p4, p5⟩ := hQ p hp
  have hp20 := (hQ p hp).le
  have h17 : a 17 p = nI (m + 1) := by rw [p1, hm]
  obtain ⟨-, e17, eqm⟩ := pop_qm h17 (by omega)
  have in16 : ∀ j, j < m → popF a p 16 (24 * p + j) = a 16 (24 * p + (j + 1)) := fun j hj => pop_in a (Or.inr rfl) (by omega)
  have in15 : ∀ j, j < m → popF a p 15 (24 * p + j) = a 15 (24 * p + (j + 1)) := fun j hj => pop_in a (Or.inl rfl) (by omega)
  constructor
  · intro hz q hq
    rw [pop_np] at hq
    obtain ⟨h1, h2, h3, h4, h5⟩ := hQ q hq
    have hq20 := (hQ q hq).le
    have emv : mvc (popF a p) q = mvc a q := by unfold mvc; rw [pop_s a p (by omega), pop_s a p (by omega)]
    unfold IQp
    rw [emv, pop_s a p (s := 5) (by omega), pop_s a p (s := 18) (by omega), pop_s a p (s := 19) (by omega)]
    by_cases e : q = p
    · subst e
      rw [eqm, e17]
      refine ⟨rfl, by omega, fun _ => h3 (by omega), fun j hj => ?_, fun j j' hj hj' z z' w => ?_⟩
      · rw [in16 j hj, in15 j hj]; exact h4 (j + 1) (by omega)
      · rw [in16 j hj] at z
        rw [in16 j' hj'] at z'
        rw [in15 j hj, in15 j' hj'] at w
        have := h5 (j + 1) (j' + 1) (by omega) (by omega) z z' w
        omega
    · have o16 : ∀ j, j < qm a q → popF a p 16 (24 * q + j) = a 16 (24 * q + j) := fun j hj => pop_out a (Or.inr rfl) e (by omega) (by omega)
      have o15 : ∀ j, j < qm a q → popF a p 15 (24 * q + j) = a 15 (24 * q + j) := fun j hj => pop_out a (Or.inl rfl) e (by omega) (by omega)
      rw [pop_qmo a e, pop_17o a e]
      refine ⟨h1, h2, h3, fun j hj => ?_, fun j j' hj hj' z z' w => ?_⟩
      · rw [o16 j hj, o15 j hj]; exact h4 j hj
      · rw [o16 j hj] at z
        rw [o16 j' hj'] at z'
        rw [o15 j hj, o15 j' hj'] at w
        exact h5 j j' hj hj' z z' w
  · intro hz
    have hfl := (hQ p hp).e.fl (j := 0) (by omega)
    have hzz : a 16 (24 * p + 0) = 0 := hz
    obtain ⟨-, f0, hf0, e0, k0⟩ := p4 0 (by omega)
    have ef0 : flN a p 0 = f0 := by unfold flN; rw [e0]; exact nIc (by omega)
    obtain ⟨k19, k18⟩ := k0 hzz
    rw [ef0]
    intro q hq
    rw [np_up (by omega), pop_np] at hq
    obtain ⟨h1, h2, h3, h4, h5⟩ := hQ q hq
    have hq20 := (hQ q hq).le
    have s19 : ∀ g, upM (popF a p) 19 f0 0 19 g = upM a 19 f0 0 19 g := fun g => by simp only [upM]; rw [pop_s a p (s := 19) (by omega)]
    have emv : mvc (upM (popF a p) 19 f0 0) q = mvc (upM a 19 f0 0) q := mvc_cg (fun g _ => by rw [s19, upM_other _ 19 f0 0 (k' := 18) (by omega), upM_other _ 19 f0 0 (k' := 18) (by omega), pop_s a p (s := 18) (by omega)])
    have keep : ∀ g, g ≠ f0 → a 19 g ≠ 0 → upM (popF a p) 19 f0 0 19 g ≠ 0 := fun g hg h => by rw [s19, upM_ne _ _ _ _ (by simp [hg])]; exact h
    unfold IQp
    rw [emv, qm_up (by omega), upM_other _ 19 f0 0 (k' := 5) (by omega), upM_other _ 19 f0 0 (k' := 15) (by omega), upM_other _ 19 f0 0 (k' := 16) (by omega), upM_other _ 19 f0 0 (k' := 17) (by omega), upM_other _ 19 f0 0 (k' := 18) (by omega), pop_s a p (s := 5) (by omega), pop_s a p (s := 18) (by omega)]
    by_cases e : q = p
    · subst e
      have hmv := mvc_un hf0 k19 k18
      rw [eqm, e17]
      refine ⟨rfl, by omega, fun _ => h3 (by omega), fun j hj => ?_, fun j j' hj hj' z z' w => ?_⟩
      · rw [in16 j hj, in15 j hj]
        obtain ⟨q1, g, hg, q2, q3⟩ := h4 (j + 1) (by omega)
        refine ⟨q1, g, hg, q2, fun z => ⟨keep g (fun eg => ?_) (q3 z).1, (q3 z).2⟩⟩
        have := h5 (j + 1) 0 (by omega) (by omega) z hzz (by rw [q2, e0, eg])
        omega
      · rw [in16 j hj] at z
        rw [in16 j' hj'] at z'
        rw [in15 j hj, in15 j' hj'] at w
        have := h5 (j + 1) (j' + 1) (by omega) (by omega) z z' w
        omega
    · have ne : a 18 f0 ≠ nI q := fun z => e (nI_inj (by omega) (by omega) (k18.symm.trans z)).symm
      have emv2 : mvc (upM a 19 f0 0) q = mvc a q := mvc_cg (fun g _ => by
        rw [upM_other a 19 f0 0 (k' := 18) (by omega)]
        by_cases eg : g = f0
        · subst eg
          constructor
          · rintro ⟨-, z⟩; exact absurd z ne
          · rintro ⟨-, z⟩; exact absurd z ne
        · rw [upM_ne a 19 f0 0 (by simp [eg])])
      have o16 : ∀ j, j < qm a q → popF a p 16 (24 * q + j) = a 16 (24 * q + j) := fun j hj => pop_out a (Or.inr rfl) e (by omega) (by omega)
      have o15 : ∀ j, j < qm a q → popF a p 15 (24 * q + j) = a 15 (24 * q + j) := fun j hj => pop_out a (Or.inl rfl) e (by omega) (by omega)
      rw [pop_qmo a e, pop_17o a e, emv2]
      refine ⟨h1, h2, h3, fun j hj => ?_, fun j j' hj hj' z z' w => ?_⟩
      · rw [o16 j hj, o15 j hj]
        obtain ⟨q1, g, hg, q2, q3⟩ := h4 j hj
        refine ⟨q1, g, hg, q2, fun z => ⟨keep g (fun eg => ne (by rw [← eg]; exact (q3 z).2)) (q3 z).1, (q3 z).2⟩⟩
      · rw [o16 j hj] at z
        rw [o16 j' hj'] at z'
        rw [o15 j hj, o15 j' hj'] at w
        exact h5 j j' hj hj' z z' w
theorem IF_pop {a : bpM} {p k : Nat} (h : IF a k) : IF (popF a p) k := IF_cg (pop_np a p) (pop_s a p (by omega)) (pop_s a p (by omega)) (pop_s a p (by omega)) (pop_s a p (by omega)) (pop_s a p (by omega)) h
theorem IP_pop {a : bpM} {p : Nat} (h : IP a) : IP (popF a p) := IP_cg (pop_s a p (by omega)) (pop_s a p (by omega)) (pop_s a p (by omega)) (pop_s a p (by omega)) (pop_s a p (by omega)) (pop_s a p (by omega)) (pop_s a p (by omega)) (pop_s a p (by omega)) (pop_s a p (by omega)) (pop_s a p (by omega)) (pop_s a p (by omega)) h
/-- the first one of a QUEUE goes out: how many letters -/
def goF (a : bpM) (p : Nat) : bpM × Int32 :=
  if a 17 p = 0 then (a, 0)
  else if a 16 (24 * p) = 0 then (answerF (popF a p) (flN a p 0), 0)
  else (upM (upM (popF a p) 23 (flN a p 0) (a 23 (flN a p 0) + 1)) 25 (flN a p 0) (a 16 (24 * p)), 1)
theorem I_go {a : bpM} {p k : Nat} (hQ : IQ a) (hF : IF a k) (hP : IP a) (hp : p < np a) : IQ (goF a p).1 ∧ IF (goF a p).1 k ∧ IP (goF a p).1 ∧ np (goF a p).1 = np a ∧ (goF a p).1 5 = a 5 := by
  have hn6 := hP.1.2.1
  unfold goF
  by_cases h0 : a 17 p = 0
  · rw [if_pos h0]; exact ⟨hQ, hF, hP, rfl, rfl⟩
  · rw [if_neg h0]
    have e17 := (hQ p hp).1
    obtain ⟨m, hm⟩ : ∃ m, qm a p = m + 1 := by
      cases hq : qm a p with
      | zero => exact absurd (by rw [e17, hq]; rfl) h0
      | succ m => exact ⟨m, rfl⟩
    have hfl := (hQ p hp).e.fl (j := 0) (by omega)
    obtain ⟨g1, g2⟩ := IQ_pop hQ hn6 hp hm
    by_cases hz : a 16 (24 * p) = 0
    · rw [if_pos hz]
      exact ⟨IQ_ans (g2 hz) (IF_pop hF) (IP_pop hP) hfl.1, IF_ans (IF_pop hF) hfl.1, IP_ans (IP_pop hP), by rw [ans_np, pop_np], by show answerF (popF a p) (flN a p 0) 5 = a 5; rw [ans_s _ _ (by omega), pop_s _ _ (by omega)]⟩
    · rw [if_neg hz]
      exact ⟨IQ_up (by omega) (IQ_up (by omega) (g1 hz)), IF_up (by omega) (IF_up (by omega) (IF_pop hF)), IP_up (by omega) (IP_up (by omega) (IP_pop hP)), by rw [np_up (by omega), np_up (by omega), pop_np], by show upM (upM (popF a p) 23 (flN a p 0) (a 23 (flN a p 0) + 1)) 25 (flN a p 0) (a 16 (24 * p)) 5 = a 5; rw [upM_other _ _ _ _ (by omega), upM_other _ _ _ _ (by omega), pop_s _ _ (by omega)]⟩
end
section
/-! a TICK -/
def oldN (a : bpM) (i : Nat) : bpM := fun k j => if j < i ∧ 0 < a 6 j ∧ 6 ≤ k ∧ k ≤ 9 then (if a 9 j + 1 = 4 then 0 else if k = 9 then a 9 j + 1 else a k j) else a k j
def oldF (a : bpM) : bpM := oldN a (np a)
theorem oldN_s (a : bpM) (i : Nat) {s : Nat} (hs : s < 6 ∨ 9 < s) : oldN a i s = a s := by
  funext j
  simp only [oldN]
  rw [if_neg (by omega)]
theorem oldN_np (a : bpM) (i : Nat) : np (oldN a i) = np a := by unfold np; rw [oldN_s a i (by omega)]
theorem oldN_o (a : bpM) {i j : Nat} (h : ¬ (j < i ∧ 0 < a 6 j)) (s : Nat) : oldN a i s j = a s j := by
  simp only [oldN]
  rw [if_neg (fun q => h ⟨q.1, q.2.1⟩)]
theorem oldN_i (a : bpM) {i j : Nat} (h : j < i) (h6 : 0 < a 6 j) {s : Nat} (hs : 6 ≤ s ∧ s ≤ 9) : oldN a i s j = if a 9 j + 1 = 4 then 0 else if s = 9 then a 9 j + 1 else a s j := by
  simp only [oldN]
  rw [if_pos ⟨h, h6, hs⟩]
theorem oldN_succ (a : bpM) {i j : Nat} (h : j ≠ i) (s : Nat) : oldN a (i + 1) s j = oldN a i s j := by
  simp only [oldN]
  by_cases q : j < i ∧ 0 < a 6 j ∧ 6 ≤ s ∧ s ≤ 9
  · rw [if_pos q, if_pos ⟨by omega, q.2⟩]
  · rw [if_neg q, if_neg]
    rintro ⟨q1, q2⟩
    exact q ⟨by omega, q2⟩
def IPp0 (a : bpM) (p : Nat) : Prop := (∃ k, k < 4 ∧ a 3 p = nI k) ∧ (a 5 p = 0 ∨ a 5 p = 1) ∧ (a 8 p = 0 ∨ a 8 p = 1) ∧ (0 < a 6 p → a 5 p = 1) ∧ (∃ g, g < 4 ∧ a 9 p = nI g)
theorem IPp.z {a : bpM} {p : Nat} (h : IPp a p) : IPp0 a p := ⟨h.1, h.2.1, h.2.2.1, h.2.2.2.1, h.2.2.2.2.1⟩
theorem Bas_cg {a b : bpM} (h2 : b 2 = a 2) (h13 : b 13 = a 13) (h : Bas a) : Bas b := by
  unfold Bas np sh at h ⊢
  rw [h2, h13]
  exact h
theorem IP_settle {a : bpM} (hB : Bas a) (h : ∀ p, p < np a → IPp0 a p) : IP (settle a) := by
  refine ⟨Bas_cg (settle_s a (by decide)) (settle_s a (by decide)) hB, fun p hp => ?_⟩
  rw [settle_np] at hp
  obtain ⟨h1, h2, h3, h4, h5⟩ := h p hp
  unfold IPp
  rw [settle_choi, settle_s a (by decide), settle_s a (by decide), settle_s a (by decide), settle_s a (by decide), settle_s a (by decide)]
  refine ⟨h1, h2, h3, h4, h5, fun hc => ?_⟩
  unfold settle
  rw [if_pos ⟨rfl, hp, hc⟩]
theorem IP_old {a : bpM} (h : IP a) : ∀ p, p < np (oldF a) → IPp0 (oldF a) p := by
  intro p hp
  unfold oldF at hp ⊢
  rw [oldN_np] at hp
  obtain ⟨h1, h2, h3, h4, ⟨g, hg, e9⟩, -⟩ := h.2 p hp
  unfold IPp0
  rw [oldN_s a (np a) (s := 3) (by omega), oldN_s a (np a) (s := 5) (by omega)]
  by_cases h6 : 0 < a 6 p
  · rw [oldN_i a hp h6 (by omega), oldN_i a hp h6 (by omega), oldN_i a hp h6 (by omega)]
    by_cases e4 : a 9 p + 1 = 4
    · rw [if_pos e4, if_pos e4, if_pos e4]
      exact ⟨h1, h2, Or.inl rfl, fun z => absurd z (by decide), 0, by omega, rfl⟩
    · rw [if_neg e4, if_neg e4, if_neg e4, if_neg (by decide), if_neg (by decide), if_pos rfl]
      have eg : a 9 p + 1 = nI (g + 1) := by rw [e9]; exact nI_1 g
      refine ⟨h1, h2, h3, h4, g + 1, ?_, eg⟩
      rcases Nat.lt_or_ge (g + 1) 4 with q | q
      · exact q
      · exact absurd (by rw [eg, show g + 1 = 4 by omega]; rfl) e4
  · rw [oldN_o a (fun q => h6 q.2), oldN_o a (fun q => h6 q.2), oldN_o a (fun q => h6 q.2)]
    exact ⟨h1, h2, h3, h4, g, hg, e9⟩
def wtN (a : bpM) (i : Nat) : bpM := fun k j => if k = 10 ∧ j < i ∧ choi a j = 2 ∧ a 10 j < 9 then a 10 j + 1 else a k j
def wtF (a : bpM) : bpM := wtN a (np a)
theorem wtN_0 (a : bpM) : wtN a 0 = a := by
  funext k j
  simp only [wtN]
  rw [if_neg (by omega)]
theorem wtN_s (a : bpM) (i : Nat) {s : Nat} (hs : s ≠ 10) : wtN a i s = a s := by
  funext j
  simp only [wtN]
  rw [if_neg (fun q => hs q.1)]
theorem wtN_np (a : bpM) (i : Nat) : np (wtN a i) = np a := by unfold np; rw [wtN_s a i (by decide)]
theorem wtN_choi (a : bpM) (i p : Nat) : choi (wtN a i) p = choi a p :=
  choi_cg (wtN_np a i) (wtN_s a i (by decide)) (wtN_s a i (by decide)) (wtN_s a i (by decide)) (wtN_s a i (by decide)) (by rw [wtN_s a i (by decide)]) p
theorem wtN_t {a : bpM} {i : Nat} (h : choi a i = 2 ∧ a 10 i < 9) : wtN a (i + 1) = upM (wtN a i) 10 i (a 10 i + 1) := by
  funext k j
  simp only [wtN, upM]
  by_cases e : k = 10 ∧ j = i
  · obtain ⟨rfl, rfl⟩ := e
    rw [if_pos ⟨rfl, by omega, h⟩, if_pos ⟨rfl, rfl⟩]
  · rw [if_neg e]
    by_cases e2 : k = 10 ∧ j < i ∧ choi a j = 2 ∧ a 10 j < 9
    · rw [if_pos e2, if_pos ⟨e2.1, by omega, e2.2.2⟩]
    · rw [if_neg e2, if_neg]
      rintro ⟨q1, q2, q3⟩
      exact e2 ⟨q1, by omega, q3⟩
theorem wtN_f {a : bpM} {i : Nat} (h : ¬ (choi a i = 2 ∧ a 10 i < 9)) : wtN a (i + 1) = wtN a i := by
  funext k j
  simp only [wtN]
  by_cases e2 : k = 10 ∧ j < i ∧ choi a j = 2 ∧ a 10 j < 9
  · rw [if_pos e2, if_pos ⟨e2.1, by omega, e2.2.2⟩]
  · rw [if_neg e2, if_neg]
    rintro ⟨q1, q2, q3⟩
    have : j ≠ i := fun z => h (z ▸ q3)
    exact e2 ⟨q1, by omega, q3⟩
theorem wtN_10 (a : bpM) {i j : Nat} (h : i ≤ j) : wtN a i 10 j = a 10 j := by
  simp only [wtN]
  rw [if_neg (by omega)]
theorem IP_wt {a : bpM} (h : IP a) : IP (wtF a) := by
  refine ⟨Bas_cg (wtN_s a _ (by decide)) (wtN_s a _ (by decide)) h.1, fun p hp => ?_⟩
  unfold wtF at hp ⊢
  rw [wtN_np] at hp
  obtain ⟨h1, h2, h3, h4, h5, h6⟩ := h.2 p hp
  unfold IPp
  rw [wtN_choi, wtN_s a _ (by decide), wtN_s a _ (by decide), wtN_s a _ (by decide), wtN_s a _ (by decide), wtN_s a _ (by decide)]
  refine ⟨h1, h2, h3, h4, h5, fun hc => ?_⟩
  simp only [wtN]
  rw [if_neg (fun q => hc q.2.2.1)]
  exact h6 hc
/-- the first ones of the QUEUES go out, of so many PORTS: how many letters -/
def outN (a : bpM) : Nat → bpM × Int32
  | 0 => (a, 0)
  | i + 1 => if (outN a i).1 5 i = 0 then outN a i else ((goF (outN a i).1 i).1, (outN a i).2 + (goF (outN a i).1 i).2)
theorem I_out {a : bpM} {k : Nat} (hQ : IQ a) (hF : IF a k) (hP : IP a) : ∀ i, i ≤ np a → IQ (outN a i).1 ∧ IF (outN a i).1 k ∧ IP (outN a i).1 ∧ np (outN a i).1 = np a ∧ (outN a i).1 5 = a 5
  | 0, _ => ⟨hQ, hF, hP, rfl, rfl⟩
  | i + 1, hi => by
    obtain ⟨q1, q2, q3, q4, q5⟩ := I_out hQ hF hP i (by omega)
    simp only [outN]
    split
    · exact ⟨q1, q2, q3, q4, q5⟩
    · obtain ⟨r1, r2, r3, r4, r5⟩ := I_go (p := i) q1 q2 q3 (by rw [q4]; omega)
      exact ⟨r1, r2, r3, r4.trans q4, r5.trans q5⟩
def preT (a : bpM) : bpM := wtF (settle (oldF (upM a 26 0 (a 26 0 + 1))))
def tick1 (a : bpM) : bpM × Int32 := outN (preT a) (np a)
theorem preT_s (a : bpM) {s : Nat} (hs : s ≠ 26 ∧ (s < 6 ∨ 10 < s)) : preT a s = a s := by
  unfold preT wtF oldF
  rw [wtN_s _ _ (by omega), settle_s _ (by omega), oldN_s _ _ (by omega), upM_other _ _ _ _ (by omega)]
theorem preT_np (a : bpM) : np (preT a) = np a := by unfold np; rw [preT_s a (by omega)]
theorem I_pre {a : bpM} {k : Nat} (hQ : IQ a) (hF : IF a k) (hP : IP a) : IQ (preT a) ∧ IF (preT a) k ∧ IP (preT a) := by
  refine ⟨IQ_cg (preT_np a) (preT_s a (by omega)) (preT_s a (by omega)) (preT_s a (by omega)) (preT_s a (by omega)) (preT_s a (by omega)) (preT_s a (by omega)) hQ, IF_cg (preT_np a) (preT_s a (by omega)) (preT_s a (by omega)) (preT_s a (by omega)) (preT_s a (by omega)) (preT_s a (by omega)) hF, ?_⟩
  have h1 : IP (upM a 26 0 (a 26 0 + 1)) := IP_up (by omega) hP
  exact IP_wt (IP_settle (Bas_cg (oldN_s _ _ (by omega)) (oldN_s _ _ (by omega)) h1.1) (IP_old h1))
theorem I_tick1 {a : bpM} {k : Nat} (hQ : IQ a) (hF : IF a k) (hP : IP a) : IQ (tick1 a).1 ∧ IF (tick1 a).1 k ∧ IP (tick1 a).1 ∧ np (tick1 a).1 = np a := by
  obtain ⟨h1, h2, h3⟩ := I_pre hQ hF hP
  obtain ⟨q1, q2, q3, q4, -⟩ := I_out h1 h2 h3 (np a) (by rw [preT_np]; exact Nat.le_refl _)
  exact ⟨q1, q2, q3, q4.trans (preT_np a)⟩
def tickN (a : bpM) : Nat → bpM × Int32
  | 0 => (a, 0)
  | n + 1 => ((tick1 (tickN a n).1).1, (tickN a n).2 + (tick1 (tickN a n).1).2)
theorem I_tickN {a : bpM} {k : Nat} (hQ : IQ a) (hF : IF a k) (hP : IP a) : ∀ n, IQ (tickN a n).1 ∧ IF (tickN a n).1 k ∧ IP (tickN a n).1 ∧ np (tickN a n).1 = np a
  | 0 => ⟨hQ, hF, hP, rfl⟩
  | n + 1 => by
    obtain ⟨q1, q2, q3, q4⟩ := I_tickN hQ hF hP n
    obtain ⟨r1, r2, r3, r4⟩ := I_tick1 q1 q2 q3
    exact ⟨r1, r2, r3, r4.trans q4⟩
/-! sums over the flows -/
def smN (g : Nat → Int32) : Nat → Int32
  | 0 => 0
  | n + 1 => smN g n + g n
theorem smN_cong {g h : Nat → Int32} : ∀ {n : Nat}, (∀ k, k < n → g k = h k) → smN g n = smN h n
  | 0, _ => rfl
  | n + 1, e => by
    simp only [smN]
    rw [smN_cong (fun k hk => e k (by omega)), e n (by omega)]
theorem i_assoc (x y z : Int32) : x + y + z = x + (y + z) := Int32.add_assoc x y z
theorem i_comm (x y : Int32) : x + y = y + x := Int32.add_comm x y
theorem smN_up {g : Nat → Int32} {i : Nat} {v d : Int32} (hv : v = g i + d) : ∀ {n : Nat}, i < n → smN (fun j => if j = i then v else g j) n = smN g n + d
  | 0, h => absurd h (Nat.not_lt_zero _)
  | n + 1, h => by
    simp only [smN]
    by_cases e : i = n
    · subst e
      rw [if_pos rfl, hv, smN_cong (h := g) (fun k hk => if_neg (by omega)), i_assoc]
    · rw [if_neg (fun z => e z.symm), smN_up hv (show i < n by omega), i_assoc, i_comm d, ← i_assoc]
theorem out_del {a : bpM} {p : Nat} (hf : flN a p 0 < 12) : smN ((goF a p).1 23) 12 = smN (a 23) 12 + (goF a p).2 := by
  unfold goF
  by_cases h0 : a 17 p = 0
  · rw [if_pos h0]
    show smN (a 23) 12 = smN (a 23) 12 + 0
    rw [Int32.add_zero]
  · rw [if_neg h0]
    by_cases hz : a 16 (24 * p) = 0
    · rw [if_pos hz]
      show smN (answerF (popF a p) (flN a p 0) 23) 12 = smN (a 23) 12 + 0
      rw [ans_s _ _ (by omega), pop_s _ _ (by omega), Int32.add_zero]
    · rw [if_neg hz]
      show smN (upM (upM (popF a p) 23 (flN a p 0) (a 23 (flN a p 0) + 1)) 25 (flN a p 0) (a 16 (24 * p)) 23) 12 = smN (a 23) 12 + 1
      rw [upM_other _ _ _ _ (by omega)]
      rw [← smN_up (g := a 23) (i := flN a p 0) (v := a 23 (flN a p 0) + 1) (d := 1) rfl hf]
      refine smN_cong (fun k _ => ?_)
      simp only [upM]
      rw [pop_s _ _ (by omega)]
      by_cases e : k = flN a p 0
      · rw [if_pos ⟨trivial, e⟩, if_pos e]
      · rw [if_neg (fun q => e q.2), if_neg e]
theorem go_del {a : bpM} {p : Nat} (hQ : IQ a) (hp : p < np a) : smN ((goF a p).1 23) 12 = smN (a 23) 12 + (goF a p).2 := by
  by_cases h0 : a 17 p = 0
  · unfold goF
    rw [if_pos h0]
    show smN (a 23) 12 = smN (a 23) 12 + 0
    rw [Int32.add_zero]
  · refine out_del ((hQ p hp).e.fl ?_).1
    rcases Nat.eq_zero_or_pos (qm a p) with q | q
    · exact absurd (by rw [(hQ p hp).1, q]; rfl) h0
    · exact q
theorem outN_del {a : bpM} {k : Nat} (hQ : IQ a) (hF : IF a k) (hP : IP a) : ∀ i, i ≤ np a → smN ((outN a i).1 23) 12 = smN (a 23) 12 + (outN a i).2
  | 0, _ => by show smN (a 23) 12 = smN (a 23) 12 + 0; rw [Int32.add_zero]
  | i + 1, hi => by
    obtain ⟨q1, q2, q3, q4, q5⟩ := I_out hQ hF hP i (by omega)
    simp only [outN]
    split
    · exact outN_del hQ hF hP i (by omega)
    · rw [go_del q1 (by rw [q4]; omega), outN_del hQ hF hP i (by omega), i_assoc]
theorem tick1_del {a : bpM} {k : Nat} (hQ : IQ a) (hF : IF a k) (hP : IP a) : smN ((tick1 a).1 23) 12 = smN (a 23) 12 + (tick1 a).2 := by
  obtain ⟨h1, h2, h3⟩ := I_pre hQ hF hP
  have := outN_del h1 h2 h3 (np a) (by rw [preT_np]; exact Nat.le_refl _)
  rw [preT_s a (s := 23) (by omega)] at this
  exact this
theorem tickN_del {a : bpM} {k : Nat} (hQ : IQ a) (hF : IF a k) (hP : IP a) : ∀ n, smN ((tickN a n).1 23) 12 = smN (a 23) 12 + (tickN a n).2
  | 0 => by show smN (a 23) 12 = smN (a 23) 12 + 0; rw [Int32.add_zero]
  | n + 1 => by
    obtain ⟨q1, q2, q3, q4⟩ := I_tickN hQ hF hP n
    simp only [tickN]
    rw [tick1_del q1 q2 q3, tickN_del hQ hF hP n, i_assoc]
end
section
/-! the relation under larger steps -/
section REL3
variable {C : bpC} {a : bpM} {ex : Nat}
/-- a QUEUE left out, its number gone -/
theorem RA_cut {p : Nat} (h : RA C a 9) : RA C (upM a 17 p 0) p := by
  obtain ⟨⟨hS, hB, hP⟩, hC, hQ, hF⟩ := h
  refine ⟨⟨RSc_M (by omega) hS, Bas_M (by omega) hB, ?_⟩, ?_, ?_, fun f hf => RFl_M (by omega) (hF f hf)⟩ <;> rw [np_up (by omega)]
  · exact fun q hq => RPt_M (by omega) (hP q hq)
  · exact fun q hq => RCh_M (by omega) (hC q hq)
  · intro q hq he
    have hn := hB.2.1
    have := hQ q hq (by omega)
    have e17 : upM a 17 p 0 17 q = a 17 q := upM_ne _ _ _ _ (by omega)
    unfold RQu qm at this ⊢
    rw [e17, upM_other a 17 p 0 (k' := 15) (by omega), upM_other a 17 p 0 (k' := 16) (by omega)]
    exact this
/-- and put back, empty -/
theorem RA_back {p : Nat} (h : RA C a p) (h0 : a 17 p = 0) : RA (upC C 6 p 2 0) a 9 := by
  obtain ⟨⟨hS, hB, hP⟩, hC, hQ, hF⟩ := h
  refine ⟨⟨RSc_C (by decide) hS, hB, fun q hq => RPt_C (by decide) (hP q hq)⟩, fun q hq => RCh_C (by decide) (hC q hq), fun q hq _ => ?_, fun f hf => RFl_C (by decide) (hF f hf)⟩
  by_cases e : q = p
  · subst e
    unfold RQu qm
    rw [h0, upC_at]
    exact ⟨rfl, fun j hj => absurd hj (Nat.not_lt_zero _)⟩
  · exact RQu_Cp (Ne.symm e) (hQ q hq e)
theorem RA_pop {p m : Nat} (h : RA C a 9) (hp : p < np a) (h17 : a 17 p = nI (m + 1)) (hm2 : m < 20) (hall : ∀ q, q < np a → qm a q ≤ 20) : RA (upC (shf C p m) 6 p 2 (nI m)) (popF a p) 9 := by
  obtain ⟨⟨hS, hB, hP⟩, hC, hQ, hF⟩ := h
  obtain ⟨e1, e2, e3⟩ := pop_qm h17 hm2
  have hk : ∀ k, k ≠ 6 ∧ k ≠ 7 ∧ k ≠ 8 → upC (shf C p m) 6 p 2 (nI m) k = C k := fun k hk => by
    rw [upC_k _ _ _ _ hk.1]
    funext i j
    simp only [shf]
    rw [if_neg (by omega)]
  have hs : ∀ s, s ≠ 15 ∧ s ≠ 16 ∧ s ≠ 17 → popF a p s = a s := fun s hs => pop_s a p hs
  have hnp := pop_np a p
  have hch : ∀ q, choi (popF a p) q = choi a q := fun q => choi_cg hnp (hs 3 (by omega)) (hs 4 (by omega)) (hs 6 (by omega)) (hs 7 (by omega)) (by rw [hs 11 (by omega)]) q
  refine ⟨⟨?_, Bas_cg (hs 2 (by omega)) (hs 13 (by omega)) hB, ?_⟩, ?_, ?_, ?_⟩
  · unfold RSc pl at hS ⊢
    rw [hk 0 (by omega), hk 1 (by omega), hk 2 (by omega), hs 0 (by omega), hs 1 (by omega), hs 2 (by omega), hs 11 (by omega), hs 12 (by omega), hs 13 (by omega), hs 14 (by omega), hs 26 (by omega), hs 27 (by omega)]
    exact hS
  · rw [hnp]
    intro q hq
    have := hP q hq
    unfold RPt at this ⊢
    rw [hk 5 (by omega), hs 3 (by omega), hs 4 (by omega), hs 5 (by omega), hs 6 (by omega), hs 7 (by omega), hs 8 (by omega), hs 9 (by omega), hs 10 (by omega)]
    exact this
  · rw [hnp]
    intro q hq
    have := hC q hq
    unfold RCh at this ⊢
    rw [hk 5 (by omega), hch]
    exact this
  · rw [hnp]
    intro q hq _
    have hn := hB.2.1
    have hQq := hQ q hq (by omega)
    by_cases e : q = p
    · subst e
      unfold RQu
      rw [e3, e2, upC_at]
      refine ⟨rfl, fun j hj => ?_⟩
      rw [pop_in a (Or.inl rfl) (by omega), pop_in a (Or.inr rfl) (by omega), upC_k _ _ _ _ (by decide), upC_k _ _ _ _ (by decide)]
      simp only [shf]
      rw [if_pos ⟨Or.inl trivial, trivial, hj⟩, if_pos ⟨Or.inr trivial, trivial, hj⟩]
      exact hQq.2 (j + 1) (by omega)
    · refine RQu_Cp (Ne.symm e) ?_
      have hq20 := hall q hq
      unfold RQu
      rw [pop_qmo a e, pop_17o a e]
      refine ⟨?_, fun j hj => ?_⟩
      · have : shf C p m 6 q 2 = C 6 q 2 := by simp only [shf]; rw [if_neg (by omega)]
        rw [this]; exact hQq.1
      · have t7 : shf C p m 7 q j = C 7 q j := by simp only [shf]; rw [if_neg (by omega)]
        have t8 : shf C p m 8 q j = C 8 q j := by simp only [shf]; rw [if_neg (by omega)]
        rw [t7, t8, pop_out a (Or.inl rfl) e (by omega) (by omega), pop_out a (Or.inr rfl) e (by omega) (by omega)]
        exact hQq.2 j hj
  · intro f hf
    have := hF f hf
    unfold RFl hm at this ⊢
    rw [hk 9 (by omega), hk 10 (by omega), hs 18 (by omega), hs 19 (by omega), hs 20 (by omega), hs 21 (by omega), hs 22 (by omega), hs 23 (by omega), hs 24 (by omega), hs 25 (by omega)]
    exact this
/-- one more TICK has been WAITED -/
theorem RA_wait {i : Nat} {v : Int32} (h : RA C a ex) : RA (upC C 5 i 10 v) (upM a 10 i v) ex := by
  obtain ⟨hB, hC, hQ, hF⟩ := h
  refine ⟨RB_wait hB, ?_, ?_, fun f hf => RFl_M (by omega) (RFl_C (by decide) (hF f hf))⟩ <;> rw [np_up (by omega)]
  · intro q hq
    have := hC q hq
    unfold RCh at this ⊢
    rw [choi_up (by omega), upC_ne _ _ _ _ _ (by omega)]
    exact this
  · exact fun q hq he => RQu_M (by omega) (RQu_C (by decide) (hQ q hq he))
/-- grown older by one -/
theorem RB_old {i : Nat} (hP : IP a) (hi : i < np a) (h : RB C (oldN a i)) : RB (if C 5 i 4 = 0 then C else upC (upC C 5 i 8 (C 5 i 8 + 1)) 5 i 4 (bI (decide (C 5 i 8 + 1 < 4)))) (oldN a (i + 1)) := by
  obtain ⟨hS, hB, hPt⟩ := h
  have hnp := oldN_np a i
  obtain ⟨-, -, -, -, ⟨g, hg, e9⟩, -⟩ := hP.2 i hi
  have hi' := hPt i (by rw [hnp]; exact hi)
  have hs : ∀ s, s < 6 ∨ 9 < s → oldN a (i + 1) s = oldN a i s := fun s h => by rw [oldN_s a _ h, oldN_s a _ h]
  have same : ∀ s, oldN a i s i = a s i := fun s => oldN_o a (by omega) s
  have hsc : ∀ C' : bpC, C' 0 = C 0 → C' 1 = C 1 → C' 2 = C 2 → RSc C' (oldN a (i + 1)) := fun C' h0 h1 h2 => by
    unfold RSc pl at hS ⊢
    rw [h0, h1, h2, hs 0 (by omega), hs 1 (by omega), hs 2 (by omega), hs 11 (by omega), hs 12 (by omega), hs 13 (by omega), hs 14 (by omega), hs 26 (by omega), hs 27 (by omega)]
    exact hS
  have hbs : Bas (oldN a (i + 1)) := Bas_cg (hs 2 (by omega)) (hs 13 (by omega)) hB
  have oth : ∀ C' : bpC, ∀ q, q < np a → q ≠ i → C' 5 q = C 5 q → RPt C' (oldN a (i + 1)) q := fun C' q hq hne hc => by
    have := hPt q (by rw [hnp]; exact hq)
    unfold RPt at this ⊢
    rw [hc, oldN_succ a hne, oldN_succ a hne, oldN_succ a hne, oldN_succ a hne, oldN_succ a hne, oldN_succ a hne, oldN_succ a hne, oldN_succ a hne]
    exact this
  obtain ⟨p1, p2, p3, p4, p5, p6⟩ := hi'
  rw [same] at p1 p2 p3 p4 p5 p6
  rw [same, same, same] at p6
  by_cases h6 : 0 < a 6 i
  · have hh : ¬ C 5 i 4 = 0 := by rw [p4]; simp [bI, h6]
    rw [if_neg hh]
    obtain ⟨r5, r6, r7, r8⟩ := p6 h6
    have e8 : C 5 i 8 + 1 = nI (g + 1) := by rw [r8, e9]; exact nI_1 g
    have e8' : a 9 i + 1 = nI (g + 1) := by rw [e9]; exact nI_1 g
    refine ⟨hsc _ (by rw [upC_k _ _ _ _ (by decide), upC_k _ _ _ _ (by decide)]) (by rw [upC_k _ _ _ _ (by decide), upC_k _ _ _ _ (by decide)]) (by rw [upC_k _ _ _ _ (by decide), upC_k _ _ _ _ (by decide)]), hbs, ?_⟩
    rw [oldN_np]
    intro q hq
    by_cases e : q = i
    · subst e
      have o3 := oldN_s a (q + 1) (s := 3) (by omega)
      have o4 := oldN_s a (q + 1) (s := 4) (by omega)
      have o5 := oldN_s a (q + 1) (s := 5) (by omega)
      have o10 := oldN_s a (q + 1) (s := 10) (by omega)
      unfold RPt
      rw [o3, o4, o5, o10, oldN_i a (Nat.lt_succ_self q) h6 (by omega), oldN_i a (Nat.lt_succ_self q) h6 (by omega), oldN_i a (Nat.lt_succ_self q) h6 (by omega), oldN_i a (Nat.lt_succ_self q) h6 (by omega)]
      rw [e8, e8']
      rcases Nat.lt_or_ge (g + 1) 4 with q4 | q4
      · have n4 : ¬ nI (g + 1) = 4 := by rw [i_eq, i_4, i_n (by omega)]; omega
        have l4 : nI (g + 1) < 4 := by rw [i_lt, i_4, i_n (by omega)]; omega
        rw [if_neg n4, if_neg n4, if_neg n4, if_neg n4, if_neg (by decide), if_neg (by decide), if_neg (by decide), if_pos rfl]
        refine ⟨by simpa [upC] using p1, by simpa [upC] using p2, by simpa [upC] using p3, ?_, by simpa [upC] using p5, fun _ => ⟨by simpa [upC] using r5, by simpa [upC] using r6, by simpa [upC] using r7, by simp [upC]⟩⟩
        rw [upC_at]
        simp [l4, h6]
      · have n4 : nI (g + 1) = 4 := by rw [show g + 1 = 4 by omega]; rfl
        rw [if_pos n4, if_pos n4, if_pos n4, if_pos n4]
        refine ⟨by simpa [upC] using p1, by simpa [upC] using p2, by simpa [upC] using p3, ?_, by simpa [upC] using p5, fun z => absurd z (by decide)⟩
        rw [upC_at, n4]
        rfl
    · exact oth _ q hq e (by rw [upC_other _ _ _ _ _ (fun z => e z.2), upC_other _ _ _ _ _ (fun z => e z.2)])
  · have hh : C 5 i 4 = 0 := by rw [p4]; simp [bI, h6]
    rw [if_pos hh]
    refine ⟨hsc C rfl rfl rfl, hbs, ?_⟩
    rw [oldN_np]
    intro q hq
    by_cases e : q = i
    · subst e
      have o : ∀ s, oldN a (q + 1) s q = a s q := fun s => oldN_o a (fun z => h6 z.2) s
      unfold RPt
      rw [o, o, o, o, o, o, o, o]
      exact ⟨p1, p2, p3, p4, p5, p6⟩
    · exact oth C q hq e rfl
end REL3
end
section
def fsl : Nat → Nat
  | 0 => 18 | 1 => 19 | 2 => 20 | 3 => 22 | 4 => 23 | 5 => 24 | _ => 25
set_option maxRecDepth 100000 in
set_option maxHeartbeats 4000000 in
theorem c_flow_in {G : bpG} {C : bpC} {M : bpM} {hl : Int64} {a : bpM} {f w : Nat} (hR : RFl C a f) (hz : a 19 f = 0 ∨ a 19 f = 1) (hf : f < 12) (hw : w < 7) : Ct G yX4_flow cX4_flow 4 (some .int) rmX4_flow [.ref (G.1 0 0), .int (nI f), .int (nI w)] C M hl (qI C M hl (a (fsl w) f)) := by
  refine ct_of [some (.ref (G.1 0 0)), some (.int (nI f)), some (.int (nI w)), none] (by decide +kernel) rfl rfl (Nat.le_of_ble_eq_true rfl) ?_
  intro κ X Z
  refine r_iload_n X dX4_flow_0 rfl ?_
  refine r_cs1_I X mdX4_isFlow wml_X4_175 dX4_flow_1 ⟨rfl, rfl, Nat.le_of_ble_eq_true rfl, Nat.le_of_ble_eq_true rfl⟩ (Nat.le_of_ble_eq_true rfl) rfl (zroom Z) (c_isFlow) ?_
  show Rn G κ 4 _ _ _ _ _
  refine r_ifne 11 X dX4_flow_4 (by decide) (fun c4 => ?_) (fun c4 => absurd c4 (by rw [show (decide (0 ≤ nI f) && decide (nI f < 12)) = true by simp only [Bool.and_eq_true, Bool.or_eq_true, decide_eq_true_eq, Bool.and_eq_false_iff, Bool.or_eq_false_iff, decide_eq_false_iff_not, Bool.not_eq_true', Bool.not_eq_false', i_lt, i_le, i_eq, i_m1, i_0, i_1, i_2, i_3, i_4, i_5, i_6, i_7, i_8, i_9, i_10, i_11, i_12, i_17, i_20, i_24, i_32, i_44, i_48, i_50, i_51, i_52, i_57, i_58, i_100, i_126, i_n (show f < 2 ^ 31 by omega)]; omega]; decide))
  show Rn G κ 11 _ _ _ _ _
  refine r_aload_n X dX4_flow_11 rfl ?_
  refine r_gr0_2 X wfl_X4_24 dX4_flow_12 ?_
  refine r_iload_n X dX4_flow_15 rfl ?_
  refine r_aaF _ X rfl (by assumption) dX4_flow_16 ?_
  show Rn G κ 17 _ _ _ _ _
  refine r_astore_3 X dX4_flow_17 rfl ?_
  refine r_iload_n X dX4_flow_18 rfl ?_
  rcases (show w = 0 ∨ w = 1 ∨ w = 2 ∨ w = 3 ∨ w = 4 ∨ w = 5 ∨ w = 6 by omega) with rfl | rfl | rfl | rfl | rfl | rfl | rfl
  · refine r_tblIn (off := 41) 60 X dX4_flow_19 (by decide) (by decide) (by decide) (by decide) ?_
    refine r_aload_n X dX4_flow_60 rfl ?_
    refine r_gi9 2 X (by assumption) wfl_X4_193 dX4_flow_61 (by decide) rfl ?_
    refine r_iret X Z dX4_flow_64 ?_
    exact ⟨rfl, rfl, rfl, ret_i hR.2.1⟩
  · refine r_tblIn (off := 46) 65 X dX4_flow_19 (by decide) (by decide) (by decide) (by decide) ?_
    refine r_aload_n X dX4_flow_65 rfl ?_
    refine r_gi9 3 X (by assumption) wfl_X4_184 dX4_flow_66 (by decide) rfl ?_
    refine r_cs1_I X mdX4_asNumber wml_X4_105 dX4_flow_69 ⟨rfl, rfl, Nat.le_of_ble_eq_true rfl, Nat.le_of_ble_eq_true rfl⟩ (Nat.le_of_ble_eq_true rfl) rfl (zroom Z) (c_asNumber (by rw [hR.2.2.1]; exact hz)) ?_
    show Rn G κ 72 _ _ _ _ _
    refine r_iret X Z dX4_flow_72 ?_
    exact ⟨rfl, rfl, rfl, ret_i hR.2.2.1⟩
  · refine r_tblIn (off := 54) 73 X dX4_flow_19 (by decide) (by decide) (by decide) (by decide) ?_
    refine r_aload_n X dX4_flow_73 rfl ?_
    refine r_gi9 1 X (by assumption) wfl_X4_207 dX4_flow_74 (by decide) rfl ?_
    refine r_iret X Z dX4_flow_77 ?_
    exact ⟨rfl, rfl, rfl, ret_i hR.1⟩
  · refine r_tblIn (off := 59) 78 X dX4_flow_19 (by decide) (by decide) (by decide) (by decide) ?_
    refine r_aload_n X dX4_flow_78 rfl ?_
    refine r_gi9 4 X (by assumption) wfl_X4_181 dX4_flow_79 (by decide) rfl ?_
    refine r_iret X Z dX4_flow_82 ?_
    exact ⟨rfl, rfl, rfl, ret_i hR.2.2.2.1⟩
  · refine r_tblIn (off := 64) 83 X dX4_flow_19 (by decide) (by decide) (by decide) (by decide) ?_
    refine r_aload_n X dX4_flow_83 rfl ?_
    refine r_gi9 5 X (by assumption) wfl_X4_210 dX4_flow_84 (by decide) rfl ?_
    refine r_iret X Z dX4_flow_87 ?_
    exact ⟨rfl, rfl, rfl, ret_i hR.2.2.2.2.1⟩
  · refine r_tblIn (off := 69) 88 X dX4_flow_19 (by decide) (by decide) (by decide) (by decide) ?_
    refine r_aload_n X dX4_flow_88 rfl ?_
    refine r_gi9 6 X (by assumption) wfl_X4_190 dX4_flow_89 (by decide) rfl ?_
    refine r_iret X Z dX4_flow_92 ?_
    exact ⟨rfl, rfl, rfl, ret_i hR.2.2.2.2.2.1⟩
  · refine r_tblIn (off := 74) 93 X dX4_flow_19 (by decide) (by decide) (by decide) (by decide) ?_
    refine r_aload_n X dX4_flow_93 rfl ?_
    refine r_gi9 7 X (by assumption) wfl_X4_213 dX4_flow_94 (by decide) rfl ?_
    refine r_iret X Z dX4_flow_97 ?_
    exact ⟨rfl, rfl, rfl, ret_i hR.2.2.2.2.2.2.1⟩
set_option maxRecDepth 100000 in
set_option maxHeartbeats 4000000 in
theorem c_sum {G : bpG} {C : bpC} {M : bpM} {hl : Int64} {a : bpM} {w : Nat} (hR : ∀ f, f < 12 → RFl C a f) (hz : ∀ f, f < 12 → a 19 f = 0 ∨ a 19 f = 1) (hw : w < 7) : Ct G yX4_sumOverFlows cX4_sumOverFlows 4 (some .int) rmX4_sumOverFlows [.ref (G.1 0 0), .int (nI w)] C M hl (qI C M hl (smN (a (fsl w)) 12)) := by
  refine ct_of [some (.ref (G.1 0 0)), some (.int (nI w)), none, none] (by decide +kernel) rfl rfl (Nat.le_of_ble_eq_true rfl) ?_
  intro κ X Z
  have loop : ∀ n i : Nat, i + n = 12 → Rn G κ 4 [some (.ref (G.1 0 0)), some (.int (nI w)), some (.int (smN (a (fsl w)) i)), some (.int (nI i))] [] C M hl := by
    intro n
    induction n with
    | zero =>
      intro i hi
      have hi : i = 12 := by omega
      subst hi
      refine r_iload_n X dX4_sumOverFlows_4 rfl ?_
      refine r_bipush (12) X dX4_sumOverFlows_5 (by decide) ?_
      refine r_icmpge 25 X dX4_sumOverFlows_7 (by decide) (fun c7 => ?_) (fun c7 => absurd (by decide) c7)
      show Rn G κ 25 _ _ _ _ _
      refine r_iload_n X dX4_sumOverFlows_25 rfl ?_
      refine r_iret X Z dX4_sumOverFlows_26 ?_
      exact ⟨rfl, rfl, rfl, rfl⟩
    | succ n ih =>
      intro i hi
      have h12 : i < 12 := by omega
      refine r_iload_n X dX4_sumOverFlows_4 rfl ?_
      refine r_bipush (12) X dX4_sumOverFlows_5 (by decide) ?_
      refine r_icmpge 25 X dX4_sumOverFlows_7 (by decide) (fun c7 => absurd c7 (by simp only [i_lt, i_le, i_eq, i_m1, i_0, i_1, i_2, i_3, i_4, i_5, i_6, i_7, i_8, i_9, i_10, i_11, i_12, i_17, i_20, i_24, i_32, i_44, i_48, i_50, i_51, i_52, i_57, i_58, i_100, i_126, i_n (show i < 2 ^ 31 by omega)]; omega)) (fun c7 => ?_)
      show Rn G κ 10 _ _ _ _ _
      refine r_iload_n X dX4_sumOverFlows_10 rfl ?_
      refine r_aload_n X dX4_sumOverFlows_11 rfl ?_
      refine r_iload_n X dX4_sumOverFlows_12 rfl ?_
      refine r_iload_n X dX4_sumOverFlows_13 rfl ?_
      show Rn G κ 14 _ _ _ _ _
      refine r_cv2_I X mdX4_flow wml_X4_238 dX4_sumOverFlows_14 ⟨rfl, rfl, Nat.le_of_ble_eq_true rfl, Nat.le_of_ble_eq_true rfl⟩ (by decide) rfl rfl (Nat.le_of_ble_eq_true rfl) rfl (zroom Z) (c_flow_in (hR i h12) (hz i h12) h12 hw) ?_
      show Rn G κ 17 _ _ _ _ _
      refine r_iadd X dX4_sumOverFlows_17 ?_
      refine r_istore_2 X dX4_sumOverFlows_18 rfl ?_
      refine r_iinc_3 (nI (i + 1)) X dX4_sumOverFlows_19 (nI_1 i) rfl ?_
      refine r_goto 4 X dX4_sumOverFlows_22 (by decide) ?_
      exact ih (i + 1) (by omega)
  refine r_iconst (0) X dX4_sumOverFlows_0 (by decide) ?_
  refine r_istore_2 X dX4_sumOverFlows_1 rfl ?_
  refine r_iconst (0) X dX4_sumOverFlows_2 (by decide) ?_
  refine r_istore_3 X dX4_sumOverFlows_3 rfl ?_
  exact loop 12 0 (by omega)
set_option maxRecDepth 100000 in
set_option maxHeartbeats 4000000 in
theorem c_dropQueue {G : bpG} {C : bpC} {M : bpM} {hl : Int64} {a : bpM} {p k : Nat} (hR : RA C a 9) (hq : ∀ q, q < np a → q ≠ p → IQp a q) (hE : IQe a p) (hF : IF a k) (hP : IP a) (hp : p < np a) (hh : ¬ 0 < a 6 p) : Ct G yX4_dropQueue cX4_dropQueue 3 none rmX4_dropQueue [.ref (G.1 0 0), .ref (G.1 6 p)] C M hl (qC M hl (fun C' => RA C' (emptyF a p) 9)) := by
  refine ct_of [some (.ref (G.1 0 0)), some (.ref (G.1 6 p)), none] (by decide +kernel) rfl rfl (Nat.le_of_ble_eq_true rfl) ?_
  intro κ X Z
  have hn0 := hR.1.2.1.2.1
  have hq1 := (hR.2.2.1 p hp (by omega)).1
  have hq2 := (hR.2.2.1 p hp (by omega)).2
  have hn := hR.1.2.1.2.1
  have hp6 : p < 6 := by omega
  have h20 := hE.le
  have loop2 : ∀ (n j : Nat) (Ck : bpC), j + n = qm a p → RA Ck (anMN a (upM (losN a p (qm a p)) 17 p 0) p j) p → FrQ C Ck p → Rn G κ 45 [some (.ref (G.1 0 0)), some (.ref (G.1 6 p)), some (.int (nI j))] [] Ck M hl := by
    intro n
    induction n with
    | zero =>
      intro j Ck hj hRk hFk
      have hj : j = qm a p := by omega
      subst hj
      have hsz : Ck 6 p 2 = nI (qm a p) := by rw [hFk.1]; exact hq1.trans hE.1
      refine r_iload_n X dX4_dropQueue_45 rfl ?_
      refine r_aload_n X dX4_dropQueue_46 rfl ?_
      refine r_gi6 2 X (by assumption) wfl_X4_153 dX4_dropQueue_47 (by decide) rfl ?_
      refine r_icmpge 76 X dX4_dropQueue_50 (by decide) (fun c50 => ?_) (fun c50 => absurd (by rw [hsz]; exact Int32.le_refl _) c50)
      show Rn G κ 76 _ _ _ _ _
      refine r_aload_n X dX4_dropQueue_76 rfl ?_
      refine r_iconst (0) X dX4_dropQueue_77 (by decide) ?_
      refine r_pi6 2 X (by assumption) wfl_X4_153 dX4_dropQueue_78 (by decide) rfl rfl (by decide +kernel) ?_
      show Rn G κ 81 _ _ _ _ _
      refine r_vret X Z dX4_dropQueue_81 ?_
      have hJ := Jm_all hE hp hh (Jm_0 hq hE hF hP) (qm a p) (Nat.le_refl _)
      exact ⟨rfl, rfl, rfl, RA_back hRk hJ.2.2.2.2.1⟩
    | succ n ih =>
      intro j Ck hj hRk hFk
      have hsz : Ck 6 p 2 = nI (qm a p) := by rw [hFk.1]; exact hq1.trans hE.1
      have hjq : j < qm a p := by omega
      have hj20 : j < 20 := by omega
      have hlt : nI j < Ck 6 p 2 := by rw [hsz]; exact nI_lt hjq (by omega)
      have hJ := Jm_all hE hp hh (Jm_0 hq hE hF hP) j (by omega)
      have hfl := hE.fl hjq
      have e7 : Ck 7 p j = nI (flN a p j) := by rw [hFk.2.1, (hq2 j hjq).1]; exact hfl.2
      have e8 : Ck 8 p j = a 16 (24 * p + j) := by rw [hFk.2.2]; exact (hq2 j hjq).2
      refine r_iload_n X dX4_dropQueue_45 rfl ?_
      refine r_aload_n X dX4_dropQueue_46 rfl ?_
      refine r_gi6 2 X (by assumption) wfl_X4_153 dX4_dropQueue_47 (by decide) rfl ?_
      refine r_icmpge 76 X dX4_dropQueue_50 (by decide) (fun c50 => absurd c50 (by rw [hsz]; simp only [i_lt, i_le, i_eq, i_m1, i_0, i_1, i_2, i_3, i_4, i_5, i_6, i_7, i_8, i_9, i_10, i_11, i_12, i_17, i_20, i_24, i_32, i_44, i_48, i_50, i_51, i_52, i_57, i_58, i_100, i_126, i_n (show qm a p < 2 ^ 31 by omega), i_n (show j < 2 ^ 31 by omega)]; omega)) (fun c50 => ?_)
      show Rn G κ 53 _ _ _ _ _
      refine r_aload_n X dX4_dropQueue_53 rfl ?_
      refine r_iload_n X dX4_dropQueue_54 rfl ?_
      refine r_cv1_I X mdX3_isMarker wml_X4_159 dX4_dropQueue_55 ⟨rfl, rfl, Nat.le_of_ble_eq_true rfl, Nat.le_of_ble_eq_true rfl⟩ (by assumption) rfl rfl (Nat.le_of_ble_eq_true rfl) rfl (zroom Z) (c_isMarker hp6 hj20 hlt) ?_
      show Rn G κ 58 _ _ _ _ _
      show Rn G κ 58 _ _ _ _ _
      refine r_ifeq 70 X dX4_dropQueue_58 (by decide) (fun c58 => ?_) (fun c58 => ?_)
      · show Rn G κ 70 _ _ _ _ _
        refine r_iinc_2 (nI (j + 1)) X dX4_dropQueue_70 (nI_1 j) rfl ?_
        refine r_goto 45 X dX4_dropQueue_73 (by decide) ?_
        have hz : 0 < a 16 (24 * p + j) := by
          have h0 := (hE.2.2.1 j hjq).1
          have h1 := of_decide_eq_false (bI_0 c58)
          rw [e8] at h1
          rcases Classical.em (0 < a 16 (24 * p + j)) with z | z
          · exact z
          · exact absurd (lo_bit h0 z) h1
        refine ih (j + 1) Ck (by omega) ?_ hFk
        simp only [anMN]
        rw [if_pos hz]
        exact hRk
      · show Rn G κ 61 _ _ _ _ _
        refine r_aload_n X dX4_dropQueue_61 rfl ?_
        refine r_aload_n X dX4_dropQueue_62 rfl ?_
        refine r_iload_n X dX4_dropQueue_63 rfl ?_
        refine r_cv1_I X mdX3_flowAt wml_X4_162 dX4_dropQueue_64 ⟨rfl, rfl, Nat.le_of_ble_eq_true rfl, Nat.le_of_ble_eq_true rfl⟩ (by assumption) rfl rfl (Nat.le_of_ble_eq_true rfl) rfl (zroom Z) (c_flowAt hp6 hj20 hlt) ?_
        show Rn G κ 67 _ _ _ _ _
        refine r_top e7 ?_
        have hz : ¬ 0 < a 16 (24 * p + j) := by
          have h1 := of_decide_eq_true (bI_1 c58)
          rw [e8] at h1
          rw [h1]; decide
        refine r_cv1_C X mdX4_answerMarker wml_X4_287 dX4_dropQueue_67 ⟨rfl, rfl, Nat.le_of_ble_eq_true rfl, Nat.le_of_ble_eq_true rfl⟩ (by decide) rfl rfl (Nat.le_of_ble_eq_true rfl) rfl (zroom Z) (c_answerMarker hRk hJ.1.qb (hJ.2.1 _ hfl.1).2.2.1 (hJ.2.1 _ hfl.1).2.2.2.1 hfl.1 (Jm_no hJ hh _)) (fun C2 q2 => ?_)
        show Rn G κ 70 _ _ _ _ _
        refine r_iinc_2 (nI (j + 1)) X dX4_dropQueue_70 (nI_1 j) rfl ?_
        refine r_goto 45 X dX4_dropQueue_73 (by decide) ?_
        refine ih (j + 1) C2 (by omega) ?_ (hFk.tr q2.2)
        simp only [anMN]
        rw [if_neg hz]
        exact q2.1
  have loop1 : ∀ (n j : Nat) (Ck : bpC), j + n = qm a p → RA Ck (losN a p j) 9 → FrQ C Ck p → Rn G κ 2 [some (.ref (G.1 0 0)), some (.ref (G.1 6 p)), some (.int (nI j))] [] Ck M hl := by
    intro n
    induction n with
    | zero =>
      intro j Ck hj hRk hFk
      have hj : j = qm a p := by omega
      subst hj
      have hsz : Ck 6 p 2 = nI (qm a p) := by rw [hFk.1]; exact hq1.trans hE.1
      refine r_iload_n X dX4_dropQueue_2 rfl ?_
      refine r_aload_n X dX4_dropQueue_3 rfl ?_
      refine r_gi6 2 X (by assumption) wfl_X4_153 dX4_dropQueue_4 (by decide) rfl ?_
      refine r_icmpge 43 X dX4_dropQueue_7 (by decide) (fun c7 => ?_) (fun c7 => absurd (by rw [hsz]; exact Int32.le_refl _) c7)
      show Rn G κ 43 _ _ _ _ _
      refine r_iconst (0) X dX4_dropQueue_43 (by decide) ?_
      refine r_istore_2 X dX4_dropQueue_44 rfl ?_
      exact loop2 (qm a p) 0 Ck (by omega) (RA_cut hRk) hFk
    | succ n ih =>
      intro j Ck hj hRk hFk
      have hsz : Ck 6 p 2 = nI (qm a p) := by rw [hFk.1]; exact hq1.trans hE.1
      have hjq : j < qm a p := by omega
      have hj20 : j < 20 := by omega
      have hlt : nI j < Ck 6 p 2 := by rw [hsz]; exact nI_lt hjq (by omega)
      have hfl := hE.fl hjq
      have e7 : Ck 7 p j = nI (flN a p j) := by rw [hFk.2.1, (hq2 j hjq).1]; exact hfl.2
      have e8 : Ck 8 p j = a 16 (24 * p + j) := by rw [hFk.2.2]; exact (hq2 j hjq).2
      have hfl12 := hfl.1
      refine r_iload_n X dX4_dropQueue_2 rfl ?_
      refine r_aload_n X dX4_dropQueue_3 rfl ?_
      refine r_gi6 2 X (by assumption) wfl_X4_153 dX4_dropQueue_4 (by decide) rfl ?_
      refine r_icmpge 43 X dX4_dropQueue_7 (by decide) (fun c7 => absurd c7 (by rw [hsz]; simp only [i_lt, i_le, i_eq, i_m1, i_0, i_1, i_2, i_3, i_4, i_5, i_6, i_7, i_8, i_9, i_10, i_11, i_12, i_17, i_20, i_24, i_32, i_44, i_48, i_50, i_51, i_52, i_57, i_58, i_100, i_126, i_n (show qm a p < 2 ^ 31 by omega), i_n (show j < 2 ^ 31 by omega)]; omega)) (fun c7 => ?_)
      show Rn G κ 10 _ _ _ _ _
      refine r_aload_n X dX4_dropQueue_10 rfl ?_
      refine r_iload_n X dX4_dropQueue_11 rfl ?_
      refine r_cv1_I X mdX3_isMarker wml_X4_159 dX4_dropQueue_12 ⟨rfl, rfl, Nat.le_of_ble_eq_true rfl, Nat.le_of_ble_eq_true rfl⟩ (by assumption) rfl rfl (Nat.le_of_ble_eq_true rfl) rfl (zroom Z) (c_isMarker hp6 hj20 hlt) ?_
      show Rn G κ 15 _ _ _ _ _
      show Rn G κ 15 _ _ _ _ _
      refine r_ifne 37 X dX4_dropQueue_15 (by decide) (fun c15 => ?_) (fun c15 => ?_)
      · show Rn G κ 37 _ _ _ _ _
        refine r_iinc_2 (nI (j + 1)) X dX4_dropQueue_37 (nI_1 j) rfl ?_
        refine r_goto 2 X dX4_dropQueue_40 (by decide) ?_
        have hz : ¬ 0 < a 16 (24 * p + j) := by
          have h1 := of_decide_eq_true (bI_1 c15)
          rw [e8] at h1
          rw [h1]; decide
        refine ih (j + 1) Ck (by omega) ?_ hFk
        simp only [losN]
        rw [if_neg hz]
        exact hRk
      · show Rn G κ 18 _ _ _ _ _
        refine r_aload_n X dX4_dropQueue_18 rfl ?_
        refine r_gr0_2 X wfl_X4_24 dX4_dropQueue_19 ?_
        refine r_aload_n X dX4_dropQueue_22 rfl ?_
        refine r_iload_n X dX4_dropQueue_23 rfl ?_
        refine r_cv1_I X mdX3_flowAt wml_X4_162 dX4_dropQueue_24 ⟨rfl, rfl, Nat.le_of_ble_eq_true rfl, Nat.le_of_ble_eq_true rfl⟩ (by assumption) rfl rfl (Nat.le_of_ble_eq_true rfl) rfl (zroom Z) (c_flowAt hp6 hj20 hlt) ?_
        show Rn G κ 27 _ _ _ _ _
        refine r_top e7 ?_
        refine r_aaF _ X rfl (by assumption) dX4_dropQueue_27 ?_
        refine r_dup X dX4_dropQueue_28 rfl ?_
        show Rn G κ 29 _ _ _ _ _
        refine r_gi9 6 X (by assumption) wfl_X4_190 dX4_dropQueue_29 (by decide) rfl ?_
        refine r_iconst (1) X dX4_dropQueue_32 (by decide) ?_
        refine r_iadd X dX4_dropQueue_33 ?_
        refine r_pi9 6 X (by assumption) wfl_X4_190 dX4_dropQueue_34 (by decide) rfl rfl (by decide +kernel) ?_
        refine r_iinc_2 (nI (j + 1)) X dX4_dropQueue_37 (nI_1 j) rfl ?_
        refine r_goto 2 X dX4_dropQueue_40 (by decide) ?_
        have hz : 0 < a 16 (24 * p + j) := by
          have h0 := (hE.2.2.1 j hjq).1
          have h1 := of_decide_eq_false (bI_0 c15)
          rw [e8] at h1
          rcases Classical.em (0 < a 16 (24 * p + j)) with z | z
          · exact z
          · exact absurd (lo_bit h0 z) h1
        refine ih (j + 1) _ (by omega) ?_ (hFk.k (by decide))
        simp only [losN]
        rw [if_pos hz]
        exact RA_lost hRk hfl12
  refine r_iconst (0) X dX4_dropQueue_0 (by decide) ?_
  refine r_istore_2 X dX4_dropQueue_1 rfl ?_
  exact loop1 (qm a p) 0 C (by omega) hR FrQ.rf
set_option maxRecDepth 100000 in
set_option maxHeartbeats 4000000 in
theorem c_letFirstOut {G : bpG} {C : bpC} {M : bpM} {hl : Int64} {a : bpM} {p k : Nat} (hR : RA C a 9) (hQ : IQ a) (hF : IF a k) (hP : IP a) (hp : p < np a) : Ct G yX4_letFirstOut cX4_letFirstOut 5 none rmX4_letFirstOut [.ref (G.1 0 0), .ref (G.1 6 p)] C M hl (qC M hl (fun C' => RA C' (goF a p).1 9)) := by
  have hn := hR.1.2.1.2.1
  have hp6 : p < 6 := by omega
  have hI := hQ p hp
  have h20 := hI.le
  have hRq := hR.2.2.1 p hp (by omega)
  have hsz : C 6 p 2 = nI (qm a p) := hRq.1.trans hI.1
  refine ct_of [some (.ref (G.1 0 0)), some (.ref (G.1 6 p)), none, none, none] (by decide +kernel) rfl rfl (Nat.le_of_ble_eq_true rfl) ?_
  intro κ X Z
  refine r_aload_n X dX4_letFirstOut_0 rfl ?_
  refine r_gi6 2 X (by assumption) wfl_X4_153 dX4_letFirstOut_1 (by decide) rfl ?_
  refine r_ifne 8 X dX4_letFirstOut_4 (by decide) (fun c4 => ?_) (fun c4 => ?_)
  · obtain ⟨m, hm⟩ : ∃ m, qm a p = m + 1 := by
      cases hq : qm a p with
      | zero => exact absurd (by rw [hsz, hq]; rfl) c4
      | succ m => exact ⟨m, rfl⟩
    have hlt : nI 0 < C 6 p 2 := by rw [hsz]; exact nI_lt (by omega) (by omega)
    have hsm : C 6 p 2 = nI (m + 1) := by rw [hsz, hm]
    have h17 : a 17 p = nI (m + 1) := by rw [hI.1, hm]
    have hfl := hI.e.fl (j := 0) (by omega)
    have e7 : C 7 p 0 = nI (flN a p 0) := by rw [(hRq.2 0 (by omega)).1]; exact hfl.2
    have e8 : C 8 p 0 = a 16 (24 * p) := (hRq.2 0 (by omega)).2
    have n0 : ¬ a 17 p = 0 := by rw [h17]; exact nI_ne0 (by omega) (by omega)
    have hfl12 := hfl.1
    show Rn G κ 8 _ _ _ _ _
    refine r_aload_n X dX4_letFirstOut_8 rfl ?_
    refine r_iconst (0) X dX4_letFirstOut_9 (by decide) ?_
    refine r_cv1_I X mdX3_flowAt wml_X4_162 dX4_letFirstOut_10 ⟨rfl, rfl, Nat.le_of_ble_eq_true rfl, Nat.le_of_ble_eq_true rfl⟩ (by assumption) rfl rfl (Nat.le_of_ble_eq_true rfl) rfl (zroom Z) (c_flowAt (j := 0) hp6 (by decide) hlt) ?_
    show Rn G κ 13 _ _ _ _ _
    refine r_top e7 ?_
    refine r_istore_2 X dX4_letFirstOut_13 rfl ?_
    refine r_aload_n X dX4_letFirstOut_14 rfl ?_
    refine r_iconst (0) X dX4_letFirstOut_15 (by decide) ?_
    refine r_cv1_I X mdX3_numberAt wml_X4_165 dX4_letFirstOut_16 ⟨rfl, rfl, Nat.le_of_ble_eq_true rfl, Nat.le_of_ble_eq_true rfl⟩ (by assumption) rfl rfl (Nat.le_of_ble_eq_true rfl) rfl (zroom Z) (c_numberAt (j := 0) hp6 (by decide) hlt) ?_
    show Rn G κ 19 _ _ _ _ _
    refine r_top e8 ?_
    show Rn G κ 19 _ _ _ _ _
    refine r_istore_3 X dX4_letFirstOut_19 rfl ?_
    refine r_aload_n X dX4_letFirstOut_20 rfl ?_
    refine r_iconst (0) X dX4_letFirstOut_21 (by decide) ?_
    refine r_cv1_I X mdX3_isMarker wml_X4_159 dX4_letFirstOut_22 ⟨rfl, rfl, Nat.le_of_ble_eq_true rfl, Nat.le_of_ble_eq_true rfl⟩ (by assumption) rfl rfl (Nat.le_of_ble_eq_true rfl) rfl (zroom Z) (c_isMarker (j := 0) hp6 (by decide) hlt) ?_
    show Rn G κ 25 _ _ _ _ _
    rw [e8]
    refine r_istore_4 X dX4_letFirstOut_25 rfl ?_
    refine r_aload_n X dX4_letFirstOut_27 rfl ?_
    refine r_cv0_C X mdX3_removeFirst wml_X4_296 dX4_letFirstOut_28 ⟨rfl, rfl, Nat.le_of_ble_eq_true rfl, Nat.le_of_ble_eq_true rfl⟩ (by assumption) rfl rfl (Nat.le_of_ble_eq_true rfl) rfl (zroom Z) (c_removeFirst hp6 (by omega) hsm) (fun C2 e2 => ?_)
    subst e2
    show Rn G κ 31 _ _ _ _ _
    have hR2 := RA_pop hR hp h17 (by omega) (fun q hq => (hQ q hq).le)
    have hQ2 : QB (popF a p) := fun q hq => by
      rw [pop_np] at hq
      by_cases e : q = p
      · subst e
        obtain ⟨-, z2, z3⟩ := pop_qm h17 (by omega)
        rw [z2, z3]; exact ⟨rfl, by omega⟩
      · rw [pop_17o a e, pop_qmo a e]; exact hQ.qb q hq
    generalize upC (shf C p m) 6 p 2 (nI m) = C1 at hR2 ⊢
    refine r_iload X dX4_letFirstOut_31 rfl ?_
    show Rn G κ 33 _ _ _ _ _
    refine r_ifeq 44 X dX4_letFirstOut_33 (by decide) (fun c33 => ?_) (fun c33 => ?_)
    · show Rn G κ 44 _ _ _ _ _
      refine r_aload_n X dX4_letFirstOut_44 rfl ?_
      refine r_gr0_2 X wfl_X4_24 dX4_letFirstOut_45 ?_
      refine r_iload_n X dX4_letFirstOut_48 rfl ?_
      refine r_aaF _ X rfl (by assumption) dX4_letFirstOut_49 ?_
      refine r_dup X dX4_letFirstOut_50 rfl ?_
      refine r_gi9 5 X (by assumption) wfl_X4_210 dX4_letFirstOut_51 (by decide) rfl ?_
      refine r_top (show C1 9 (flN a p 0) 5 = a 23 (flN a p 0) by rw [(hR2.2.2.2 _ hfl12).2.2.2.2.1, pop_s _ _ (by omega)]) ?_
      refine r_iconst (1) X dX4_letFirstOut_54 (by decide) ?_
      show Rn G κ 55 _ _ _ _ _
      refine r_iadd X dX4_letFirstOut_55 ?_
      refine r_pi9 5 X (by assumption) wfl_X4_210 dX4_letFirstOut_56 (by decide) rfl rfl (by decide +kernel) ?_
      refine r_aload_n X dX4_letFirstOut_59 rfl ?_
      refine r_gr0_2 X wfl_X4_24 dX4_letFirstOut_60 ?_
      refine r_iload_n X dX4_letFirstOut_63 rfl ?_
      refine r_aaF _ X rfl (by assumption) dX4_letFirstOut_64 ?_
      refine r_iload_n X dX4_letFirstOut_65 rfl ?_
      refine r_pi9 7 X (by assumption) wfl_X4_213 dX4_letFirstOut_66 (by decide) rfl rfl (by decide +kernel) ?_
      show Rn G κ 69 _ _ _ _ _
      refine r_vret X Z dX4_letFirstOut_69 ?_
      refine ⟨rfl, rfl, rfl, ?_⟩
      unfold goF
      rw [if_neg n0, if_neg (of_decide_eq_false (bI_0 c33))]
      exact RA_flow (RA_flow hR2 hfl12 (by omega)) hfl12 (by omega)
    · show Rn G κ 36 _ _ _ _ _
      refine r_aload_n X dX4_letFirstOut_36 rfl ?_
      refine r_iload_n X dX4_letFirstOut_37 rfl ?_
      refine r_cv1_C X mdX4_answerMarker wml_X4_287 dX4_letFirstOut_38 ⟨rfl, rfl, Nat.le_of_ble_eq_true rfl, Nat.le_of_ble_eq_true rfl⟩ (by decide) rfl rfl (Nat.le_of_ble_eq_true rfl) rfl (zroom Z) (c_answerMarker hR2 hQ2 (IF_pop hF _ hfl.1).2.2.1 (IF_pop hF _ hfl.1).2.2.2.1 hfl.1 (fun z => by have := way_lt z; rw [pop_np] at this; omega)) (fun C3 q3 => ?_)
      show Rn G κ 41 _ _ _ _ _
      refine r_goto 69 X dX4_letFirstOut_41 (by decide) ?_
      refine r_vret X Z dX4_letFirstOut_69 ?_
      refine ⟨rfl, rfl, rfl, ?_⟩
      unfold goF
      rw [if_neg n0, if_pos (of_decide_eq_true (bI_1 c33))]
      exact q3.1
  · show Rn G κ 7 _ _ _ _ _
    refine r_vret X Z dX4_letFirstOut_7 ?_
    have h0 : a 17 p = 0 := hRq.1.symm.trans c4
    refine ⟨rfl, rfl, rfl, ?_⟩
    unfold goF
    rw [if_pos h0]
    exact hR
end
