section
-- ===== PART A: goes FIRST, ahead of the names: the tables' words, and 'selects' of the private methods out of them =====
/-- a private method of a class that the tables say can be made, by its rows of tables_1 -/
def lw_okq (q : MethodName × Nat) : Prop := (q.1.cls ≠ "java/lang/invoke/MethodHandle" ∧ q.1.cls ≠ "java/lang/invoke/VarHandle") ∧ Cond.instantiable q.1.cls q.2 ∈ tables_1 ∧ Cond.privateMethod q.1 ∈ tables_1 ∧ Cond.instanceMethod q.1 ∈ tables_1
theorem lw_p0 : lw_okq (⟨"EndingsLab", "judge", "(I)I"⟩, 3) := ⟨⟨by decide +kernel, by decide +kernel⟩, List.mem_of_getElem? (i := 14) (by decide +kernel), List.mem_of_getElem? (i := 224) (by decide +kernel), List.mem_of_getElem? (i := 225) (by decide +kernel)⟩
theorem lw_p1 : lw_okq (⟨"EndingsLab$Checker", "open", "(IZZ)V"⟩, 5) := ⟨⟨by decide +kernel, by decide +kernel⟩, List.mem_of_getElem? (i := 165) (by decide +kernel), List.mem_of_getElem? (i := 232) (by decide +kernel), List.mem_of_getElem? (i := 233) (by decide +kernel)⟩
theorem lw_p2 : lw_okq (⟨"EndingsLab$Checker", "mayStand", "(I)Z"⟩, 5) := ⟨⟨by decide +kernel, by decide +kernel⟩, List.mem_of_getElem? (i := 165) (by decide +kernel), List.mem_of_getElem? (i := 236) (by decide +kernel), List.mem_of_getElem? (i := 237) (by decide +kernel)⟩
theorem lw_p3 : lw_okq (⟨"EndingsLab$Checker", "take", "(LEndingsLab$Text;I)V"⟩, 5) := ⟨⟨by decide +kernel, by decide +kernel⟩, List.mem_of_getElem? (i := 165) (by decide +kernel), List.mem_of_getElem? (i := 240) (by decide +kernel), List.mem_of_getElem? (i := 241) (by decide +kernel)⟩
theorem lw_p4 : lw_okq (⟨"EndingsLab$Checker", "close", "(LEndingsLab$Text;I)V"⟩, 5) := ⟨⟨by decide +kernel, by decide +kernel⟩, List.mem_of_getElem? (i := 165) (by decide +kernel), List.mem_of_getElem? (i := 244) (by decide +kernel), List.mem_of_getElem? (i := 245) (by decide +kernel)⟩
theorem lw_p5 : lw_okq (⟨"EndingsLab", "judgeAll", "(I)I"⟩, 3) := ⟨⟨by decide +kernel, by decide +kernel⟩, List.mem_of_getElem? (i := 14) (by decide +kernel), List.mem_of_getElem? (i := 256) (by decide +kernel), List.mem_of_getElem? (i := 257) (by decide +kernel)⟩
theorem lw_p6 : lw_okq (⟨"EndingsLab$Machine", "doProcedure", "(I)LEndingsLab$Ending;"⟩, 8) := ⟨⟨by decide +kernel, by decide +kernel⟩, List.mem_of_getElem? (i := 22) (by decide +kernel), List.mem_of_getElem? (i := 276) (by decide +kernel), List.mem_of_getElem? (i := 277) (by decide +kernel)⟩
theorem lw_p7 : lw_okq (⟨"EndingsLab$Machine", "doBlock", "(II)LEndingsLab$Ending;"⟩, 8) := ⟨⟨by decide +kernel, by decide +kernel⟩, List.mem_of_getElem? (i := 22) (by decide +kernel), List.mem_of_getElem? (i := 280) (by decide +kernel), List.mem_of_getElem? (i := 281) (by decide +kernel)⟩
theorem lw_p8 : lw_okq (⟨"EndingsLab$Machine", "textOf", "(I)LEndingsLab$Text;"⟩, 8) := ⟨⟨by decide +kernel, by decide +kernel⟩, List.mem_of_getElem? (i := 22) (by decide +kernel), List.mem_of_getElem? (i := 284) (by decide +kernel), List.mem_of_getElem? (i := 285) (by decide +kernel)⟩
theorem lw_p9 : lw_okq (⟨"EndingsLab$Machine", "doItem", "(II)LEndingsLab$Ending;"⟩, 8) := ⟨⟨by decide +kernel, by decide +kernel⟩, List.mem_of_getElem? (i := 22) (by decide +kernel), List.mem_of_getElem? (i := 288) (by decide +kernel), List.mem_of_getElem? (i := 289) (by decide +kernel)⟩
theorem lw_p10 : lw_okq (⟨"EndingsLab$Machine", "doDivide", "(LEndingsLab$Frame;I)LEndingsLab$Ending;"⟩, 8) := ⟨⟨by decide +kernel, by decide +kernel⟩, List.mem_of_getElem? (i := 22) (by decide +kernel), List.mem_of_getElem? (i := 303) (by decide +kernel), List.mem_of_getElem? (i := 304) (by decide +kernel)⟩
theorem lw_p11 : lw_okq (⟨"EndingsLab$Machine", "raise", "(LEndingsLab$Frame;II)LEndingsLab$Ending;"⟩, 8) := ⟨⟨by decide +kernel, by decide +kernel⟩, List.mem_of_getElem? (i := 22) (by decide +kernel), List.mem_of_getElem? (i := 307) (by decide +kernel), List.mem_of_getElem? (i := 308) (by decide +kernel)⟩
theorem lw_p12 : lw_okq (⟨"EndingsLab$Machine", "doTimes", "(III)LEndingsLab$Ending;"⟩, 8) := ⟨⟨by decide +kernel, by decide +kernel⟩, List.mem_of_getElem? (i := 22) (by decide +kernel), List.mem_of_getElem? (i := 317) (by decide +kernel), List.mem_of_getElem? (i := 318) (by decide +kernel)⟩
theorem lw_p13 : lw_okq (⟨"EndingsLab$Machine", "doTry", "(II)LEndingsLab$Ending;"⟩, 8) := ⟨⟨by decide +kernel, by decide +kernel⟩, List.mem_of_getElem? (i := 22) (by decide +kernel), List.mem_of_getElem? (i := 327) (by decide +kernel), List.mem_of_getElem? (i := 328) (by decide +kernel)⟩
theorem lw_p14 : lw_okq (⟨"EndingsLab$Machine", "catches", "(II)Z"⟩, 8) := ⟨⟨by decide +kernel, by decide +kernel⟩, List.mem_of_getElem? (i := 22) (by decide +kernel), List.mem_of_getElem? (i := 335) (by decide +kernel), List.mem_of_getElem? (i := 336) (by decide +kernel)⟩
theorem lw_p15 : lw_okq (⟨"EndingsLab$Machine", "doCatch", "(II)LEndingsLab$Ending;"⟩, 8) := ⟨⟨by decide +kernel, by decide +kernel⟩, List.mem_of_getElem? (i := 22) (by decide +kernel), List.mem_of_getElem? (i := 347) (by decide +kernel), List.mem_of_getElem? (i := 348) (by decide +kernel)⟩
def lw_privs_1 : List (MethodName × Nat) := [(⟨"EndingsLab", "judge", "(I)I"⟩, 3), (⟨"EndingsLab$Checker", "open", "(IZZ)V"⟩, 5), (⟨"EndingsLab$Checker", "mayStand", "(I)Z"⟩, 5), (⟨"EndingsLab$Checker", "take", "(LEndingsLab$Text;I)V"⟩, 5), (⟨"EndingsLab$Checker", "close", "(LEndingsLab$Text;I)V"⟩, 5), (⟨"EndingsLab", "judgeAll", "(I)I"⟩, 3), (⟨"EndingsLab$Machine", "doProcedure", "(I)LEndingsLab$Ending;"⟩, 8), (⟨"EndingsLab$Machine", "doBlock", "(II)LEndingsLab$Ending;"⟩, 8), (⟨"EndingsLab$Machine", "textOf", "(I)LEndingsLab$Text;"⟩, 8), (⟨"EndingsLab$Machine", "doItem", "(II)LEndingsLab$Ending;"⟩, 8), (⟨"EndingsLab$Machine", "doDivide", "(LEndingsLab$Frame;I)LEndingsLab$Ending;"⟩, 8), (⟨"EndingsLab$Machine", "raise", "(LEndingsLab$Frame;II)LEndingsLab$Ending;"⟩, 8), (⟨"EndingsLab$Machine", "doTimes", "(III)LEndingsLab$Ending;"⟩, 8), (⟨"EndingsLab$Machine", "doTry", "(II)LEndingsLab$Ending;"⟩, 8), (⟨"EndingsLab$Machine", "catches", "(II)Z"⟩, 8), (⟨"EndingsLab$Machine", "doCatch", "(II)LEndingsLab$Ending;"⟩, 8)]
theorem lw_r1 : ∀ q ∈ lw_privs_1, lw_okq q := List.forall_mem_cons.mpr ⟨lw_p0, List.forall_mem_cons.mpr ⟨lw_p1, List.forall_mem_cons.mpr ⟨lw_p2, List.forall_mem_cons.mpr ⟨lw_p3, List.forall_mem_cons.mpr ⟨lw_p4, List.forall_mem_cons.mpr ⟨lw_p5, List.forall_mem_cons.mpr ⟨lw_p6, List.forall_mem_cons.mpr ⟨lw_p7, List.forall_mem_cons.mpr ⟨lw_p8, List.forall_mem_cons.mpr ⟨lw_p9, List.forall_mem_cons.mpr ⟨lw_p10, List.forall_mem_cons.mpr ⟨lw_p11, List.forall_mem_cons.mpr ⟨lw_p12, List.forall_mem_cons.mpr ⟨lw_p13, List.forall_mem_cons.mpr ⟨lw_p14, List.forall_mem_cons.mpr ⟨lw_p15, fun _ h => absurd h List.not_mem_nil⟩⟩⟩⟩⟩⟩⟩⟩⟩⟩⟩⟩⟩⟩⟩⟩
theorem lw_p16 : lw_okq (⟨"EndingsLab$Machine", "doLast", "(IILEndingsLab$Ending;)LEndingsLab$Ending;"⟩, 8) := ⟨⟨by decide +kernel, by decide +kernel⟩, List.mem_of_getElem? (i := 22) (by decide +kernel), List.mem_of_getElem? (i := 355) (by decide +kernel), List.mem_of_getElem? (i := 356) (by decide +kernel)⟩
theorem lw_p17 : lw_okq (⟨"EndingsLab$Machine", "doLock", "(III)LEndingsLab$Ending;"⟩, 8) := ⟨⟨by decide +kernel, by decide +kernel⟩, List.mem_of_getElem? (i := 22) (by decide +kernel), List.mem_of_getElem? (i := 359) (by decide +kernel), List.mem_of_getElem? (i := 360) (by decide +kernel)⟩
theorem lw_p18 : lw_okq (⟨"EndingsLab$Machine", "doEnter", "(LEndingsLab$Frame;I)LEndingsLab$Ending;"⟩, 8) := ⟨⟨by decide +kernel, by decide +kernel⟩, List.mem_of_getElem? (i := 22) (by decide +kernel), List.mem_of_getElem? (i := 374) (by decide +kernel), List.mem_of_getElem? (i := 375) (by decide +kernel)⟩
theorem lw_p19 : lw_okq (⟨"EndingsLab$Machine", "doLeave", "(LEndingsLab$Frame;I)LEndingsLab$Ending;"⟩, 8) := ⟨⟨by decide +kernel, by decide +kernel⟩, List.mem_of_getElem? (i := 22) (by decide +kernel), List.mem_of_getElem? (i := 378) (by decide +kernel), List.mem_of_getElem? (i := 379) (by decide +kernel)⟩
theorem lw_p20 : lw_okq (⟨"EndingsLab$Machine", "doCall", "(II)LEndingsLab$Ending;"⟩, 8) := ⟨⟨by decide +kernel, by decide +kernel⟩, List.mem_of_getElem? (i := 22) (by decide +kernel), List.mem_of_getElem? (i := 382) (by decide +kernel), List.mem_of_getElem? (i := 383) (by decide +kernel)⟩
theorem lw_p21 : lw_okq (⟨"EndingsLab$Machine", "releaseEntered", "(LEndingsLab$Frame;)Z"⟩, 8) := ⟨⟨by decide +kernel, by decide +kernel⟩, List.mem_of_getElem? (i := 22) (by decide +kernel), List.mem_of_getElem? (i := 396) (by decide +kernel), List.mem_of_getElem? (i := 397) (by decide +kernel)⟩
theorem lw_p22 : lw_okq (⟨"EndingsLabModel", "good", "(I)Z"⟩, 25) := ⟨⟨by decide +kernel, by decide +kernel⟩, List.mem_of_getElem? (i := 434) (by decide +kernel), List.mem_of_getElem? (i := 534) (by decide +kernel), List.mem_of_getElem? (i := 535) (by decide +kernel)⟩
theorem lw_p23 : lw_okq (⟨"EndingsLabModel", "firstWrong", "(I)I"⟩, 25) := ⟨⟨by decide +kernel, by decide +kernel⟩, List.mem_of_getElem? (i := 434) (by decide +kernel), List.mem_of_getElem? (i := 538) (by decide +kernel), List.mem_of_getElem? (i := 539) (by decide +kernel)⟩
theorem lw_p24 : lw_okq (⟨"EndingsLabModel", "openBlock", "(II)V"⟩, 25) := ⟨⟨by decide +kernel, by decide +kernel⟩, List.mem_of_getElem? (i := 434) (by decide +kernel), List.mem_of_getElem? (i := 542) (by decide +kernel), List.mem_of_getElem? (i := 543) (by decide +kernel)⟩
theorem lw_p25 : lw_okq (⟨"EndingsLabModel", "inside", "(I)Z"⟩, 25) := ⟨⟨by decide +kernel, by decide +kernel⟩, List.mem_of_getElem? (i := 434) (by decide +kernel), List.mem_of_getElem? (i := 546) (by decide +kernel), List.mem_of_getElem? (i := 547) (by decide +kernel)⟩
theorem lw_p26 : lw_okq (⟨"EndingsLabModel", "begin", "(II)V"⟩, 25) := ⟨⟨by decide +kernel, by decide +kernel⟩, List.mem_of_getElem? (i := 434) (by decide +kernel), List.mem_of_getElem? (i := 561) (by decide +kernel), List.mem_of_getElem? (i := 562) (by decide +kernel)⟩
theorem lw_p27 : lw_okq (⟨"EndingsLabModel", "enter", "(III)V"⟩, 25) := ⟨⟨by decide +kernel, by decide +kernel⟩, List.mem_of_getElem? (i := 434) (by decide +kernel), List.mem_of_getElem? (i := 565) (by decide +kernel), List.mem_of_getElem? (i := 566) (by decide +kernel)⟩
theorem lw_p28 : lw_okq (⟨"EndingsLabModel", "close", "()V"⟩, 25) := ⟨⟨by decide +kernel, by decide +kernel⟩, List.mem_of_getElem? (i := 434) (by decide +kernel), List.mem_of_getElem? (i := 569) (by decide +kernel), List.mem_of_getElem? (i := 570) (by decide +kernel)⟩
theorem lw_p29 : lw_okq (⟨"EndingsLabModel", "behind", "(I)I"⟩, 25) := ⟨⟨by decide +kernel, by decide +kernel⟩, List.mem_of_getElem? (i := 434) (by decide +kernel), List.mem_of_getElem? (i := 573) (by decide +kernel), List.mem_of_getElem? (i := 574) (by decide +kernel)⟩
theorem lw_p30 : lw_okq (⟨"EndingsLabModel", "catcher", "(I)I"⟩, 25) := ⟨⟨by decide +kernel, by decide +kernel⟩, List.mem_of_getElem? (i := 434) (by decide +kernel), List.mem_of_getElem? (i := 577) (by decide +kernel), List.mem_of_getElem? (i := 578) (by decide +kernel)⟩
theorem lw_p31 : lw_okq (⟨"EndingsLabModel", "part", "(II)I"⟩, 25) := ⟨⟨by decide +kernel, by decide +kernel⟩, List.mem_of_getElem? (i := 434) (by decide +kernel), List.mem_of_getElem? (i := 581) (by decide +kernel), List.mem_of_getElem? (i := 582) (by decide +kernel)⟩
def lw_privs_2 : List (MethodName × Nat) := [(⟨"EndingsLab$Machine", "doLast", "(IILEndingsLab$Ending;)LEndingsLab$Ending;"⟩, 8), (⟨"EndingsLab$Machine", "doLock", "(III)LEndingsLab$Ending;"⟩, 8), (⟨"EndingsLab$Machine", "doEnter", "(LEndingsLab$Frame;I)LEndingsLab$Ending;"⟩, 8), (⟨"EndingsLab$Machine", "doLeave", "(LEndingsLab$Frame;I)LEndingsLab$Ending;"⟩, 8), (⟨"EndingsLab$Machine", "doCall", "(II)LEndingsLab$Ending;"⟩, 8), (⟨"EndingsLab$Machine", "releaseEntered", "(LEndingsLab$Frame;)Z"⟩, 8), (⟨"EndingsLabModel", "good", "(I)Z"⟩, 25), (⟨"EndingsLabModel", "firstWrong", "(I)I"⟩, 25), (⟨"EndingsLabModel", "openBlock", "(II)V"⟩, 25), (⟨"EndingsLabModel", "inside", "(I)Z"⟩, 25), (⟨"EndingsLabModel", "begin", "(II)V"⟩, 25), (⟨"EndingsLabModel", "enter", "(III)V"⟩, 25), (⟨"EndingsLabModel", "close", "()V"⟩, 25), (⟨"EndingsLabModel", "behind", "(I)I"⟩, 25), (⟨"EndingsLabModel", "catcher", "(I)I"⟩, 25), (⟨"EndingsLabModel", "part", "(II)I"⟩, 25)]
theorem lw_r2 : ∀ q ∈ lw_privs_2, lw_okq q := List.forall_mem_cons.mpr ⟨lw_p16, List.forall_mem_cons.mpr ⟨lw_p17, List.forall_mem_cons.mpr ⟨lw_p18, List.forall_mem_cons.mpr ⟨lw_p19, List.forall_mem_cons.mpr ⟨lw_p20, List.forall_mem_cons.mpr ⟨lw_p21, List.forall_mem_cons.mpr ⟨lw_p22, List.forall_mem_cons.mpr ⟨lw_p23, List.forall_mem_cons.mpr ⟨lw_p24, List.forall_mem_cons.mpr ⟨lw_p25, List.forall_mem_cons.mpr ⟨lw_p26, List.forall_mem_cons.mpr ⟨lw_p27, List.forall_mem_cons.mpr ⟨lw_p28, List.forall_mem_cons.mpr ⟨lw_p29, List.forall_mem_cons.mpr ⟨lw_p30, List.forall_mem_cons.mpr ⟨lw_p31, fun _ h => absurd h List.not_mem_nil⟩⟩⟩⟩⟩⟩⟩⟩⟩⟩⟩⟩⟩⟩⟩⟩
theorem lw_p32 : lw_okq (⟨"EndingsLabModel", "lastOf", "(I)V"⟩, 25) := ⟨⟨by decide +kernel, by decide +kernel⟩, List.mem_of_getElem? (i := 434) (by decide +kernel), List.mem_of_getElem? (i := 588) (by decide +kernel), List.mem_of_getElem? (i := 589) (by decide +kernel)⟩
theorem lw_p33 : lw_okq (⟨"EndingsLabModel", "behindTry", "(I)I"⟩, 25) := ⟨⟨by decide +kernel, by decide +kernel⟩, List.mem_of_getElem? (i := 434) (by decide +kernel), List.mem_of_getElem? (i := 592) (by decide +kernel), List.mem_of_getElem? (i := 593) (by decide +kernel)⟩
theorem lw_p34 : lw_okq (⟨"EndingsLabModel", "closeLast", "(III)V"⟩, 25) := ⟨⟨by decide +kernel, by decide +kernel⟩, List.mem_of_getElem? (i := 434) (by decide +kernel), List.mem_of_getElem? (i := 596) (by decide +kernel), List.mem_of_getElem? (i := 597) (by decide +kernel)⟩
theorem lw_p35 : lw_okq (⟨"EndingsLabModel", "ends", "(II)V"⟩, 25) := ⟨⟨by decide +kernel, by decide +kernel⟩, List.mem_of_getElem? (i := 434) (by decide +kernel), List.mem_of_getElem? (i := 600) (by decide +kernel), List.mem_of_getElem? (i := 601) (by decide +kernel)⟩
theorem lw_p36 : lw_okq (⟨"EndingsLabModel", "closeRun", "(II)V"⟩, 25) := ⟨⟨by decide +kernel, by decide +kernel⟩, List.mem_of_getElem? (i := 434) (by decide +kernel), List.mem_of_getElem? (i := 604) (by decide +kernel), List.mem_of_getElem? (i := 605) (by decide +kernel)⟩
theorem lw_p37 : lw_okq (⟨"EndingsLabModel", "raise", "(II)V"⟩, 25) := ⟨⟨by decide +kernel, by decide +kernel⟩, List.mem_of_getElem? (i := 434) (by decide +kernel), List.mem_of_getElem? (i := 608) (by decide +kernel), List.mem_of_getElem? (i := 609) (by decide +kernel)⟩
theorem lw_p38 : lw_okq (⟨"EndingsLabModel", "made", "(II)I"⟩, 25) := ⟨⟨by decide +kernel, by decide +kernel⟩, List.mem_of_getElem? (i := 434) (by decide +kernel), List.mem_of_getElem? (i := 612) (by decide +kernel), List.mem_of_getElem? (i := 613) (by decide +kernel)⟩
theorem lw_p39 : lw_okq (⟨"EndingsLabModel", "item", "()V"⟩, 25) := ⟨⟨by decide +kernel, by decide +kernel⟩, List.mem_of_getElem? (i := 434) (by decide +kernel), List.mem_of_getElem? (i := 616) (by decide +kernel), List.mem_of_getElem? (i := 617) (by decide +kernel)⟩
theorem lw_p40 : lw_okq (⟨"EndingsLabModel", "note", "(I)V"⟩, 25) := ⟨⟨by decide +kernel, by decide +kernel⟩, List.mem_of_getElem? (i := 434) (by decide +kernel), List.mem_of_getElem? (i := 620) (by decide +kernel), List.mem_of_getElem? (i := 621) (by decide +kernel)⟩
theorem lw_p41 : lw_okq (⟨"EndingsLabModel", "caught", "()I"⟩, 25) := ⟨⟨by decide +kernel, by decide +kernel⟩, List.mem_of_getElem? (i := 434) (by decide +kernel), List.mem_of_getElem? (i := 624) (by decide +kernel), List.mem_of_getElem? (i := 625) (by decide +kernel)⟩
theorem lw_p42 : lw_okq (⟨"EndingsLabModel", "hold", "(I)V"⟩, 25) := ⟨⟨by decide +kernel, by decide +kernel⟩, List.mem_of_getElem? (i := 434) (by decide +kernel), List.mem_of_getElem? (i := 628) (by decide +kernel), List.mem_of_getElem? (i := 629) (by decide +kernel)⟩
theorem lw_p43 : lw_okq (⟨"EndingsLabModel", "leave", "(I)V"⟩, 25) := ⟨⟨by decide +kernel, by decide +kernel⟩, List.mem_of_getElem? (i := 434) (by decide +kernel), List.mem_of_getElem? (i := 632) (by decide +kernel), List.mem_of_getElem? (i := 633) (by decide +kernel)⟩
theorem lw_p44 : lw_okq (⟨"EndingsLabModel", "call", "(I)V"⟩, 25) := ⟨⟨by decide +kernel, by decide +kernel⟩, List.mem_of_getElem? (i := 434) (by decide +kernel), List.mem_of_getElem? (i := 636) (by decide +kernel), List.mem_of_getElem? (i := 637) (by decide +kernel)⟩
def lw_privs_3 : List (MethodName × Nat) := [(⟨"EndingsLabModel", "lastOf", "(I)V"⟩, 25), (⟨"EndingsLabModel", "behindTry", "(I)I"⟩, 25), (⟨"EndingsLabModel", "closeLast", "(III)V"⟩, 25), (⟨"EndingsLabModel", "ends", "(II)V"⟩, 25), (⟨"EndingsLabModel", "closeRun", "(II)V"⟩, 25), (⟨"EndingsLabModel", "raise", "(II)V"⟩, 25), (⟨"EndingsLabModel", "made", "(II)I"⟩, 25), (⟨"EndingsLabModel", "item", "()V"⟩, 25), (⟨"EndingsLabModel", "note", "(I)V"⟩, 25), (⟨"EndingsLabModel", "caught", "()I"⟩, 25), (⟨"EndingsLabModel", "hold", "(I)V"⟩, 25), (⟨"EndingsLabModel", "leave", "(I)V"⟩, 25), (⟨"EndingsLabModel", "call", "(I)V"⟩, 25)]
theorem lw_r3 : ∀ q ∈ lw_privs_3, lw_okq q := List.forall_mem_cons.mpr ⟨lw_p32, List.forall_mem_cons.mpr ⟨lw_p33, List.forall_mem_cons.mpr ⟨lw_p34, List.forall_mem_cons.mpr ⟨lw_p35, List.forall_mem_cons.mpr ⟨lw_p36, List.forall_mem_cons.mpr ⟨lw_p37, List.forall_mem_cons.mpr ⟨lw_p38, List.forall_mem_cons.mpr ⟨lw_p39, List.forall_mem_cons.mpr ⟨lw_p40, List.forall_mem_cons.mpr ⟨lw_p41, List.forall_mem_cons.mpr ⟨lw_p42, List.forall_mem_cons.mpr ⟨lw_p43, List.forall_mem_cons.mpr ⟨lw_p44, fun _ h => absurd h List.not_mem_nil⟩⟩⟩⟩⟩⟩⟩⟩⟩⟩⟩⟩⟩
def lw_privs : List (MethodName × Nat) := lw_privs_1 ++ (lw_privs_2 ++ (lw_privs_3))
def lw_tbl : List Cond := k2_sels lw_privs ++ tables_1
theorem lw_privs_ok : ∀ q ∈ lw_privs, lw_okq q := by
  show ∀ q ∈ lw_privs_1 ++ (lw_privs_2 ++ (lw_privs_3)), lw_okq q
  exact List.forall_mem_append.mpr ⟨lw_r1, List.forall_mem_append.mpr ⟨lw_r2, lw_r3⟩⟩
-- ===== end of PART A =====
end
section
/-! names, fields, words; written by wip/gen/names.py out of the claim's listing -/
def GW : List Cond := lw_tbl.filter goodWord
theorem gw_mem {w : Cond} (h : w ∈ lw_tbl) (g : goodWord w = true) : w ∈ GW := List.mem_filter.mpr ⟨h, g⟩
theorem gw_t {w : Cond} (h : w ∈ tables_1) (g : goodWord w = true) : w ∈ GW := gw_mem (List.mem_append_right _ h) g
theorem gw_s {q : MethodName × Nat} (h : q ∈ lw_privs) : Cond.selects q.1.cls q.1 q.1 ∈ GW := gw_mem (List.mem_append_left _ (List.mem_map.mpr ⟨q, h, rfl⟩)) rfl
theorem gw_sub {w : Cond} (h : w ∈ GW) : w ∈ lw_tbl := (List.mem_filter.mp h).1
theorem gw_good {w : Cond} (h : w ∈ GW) : goodWord w = true := (List.mem_filter.mp h).2
def wsM (y : MethodName) (cc : ByteArray) (n : Nat) (r : Option FieldType) : List Cond := Cond.code y cc n r :: GW
def R_LB : String := "EndingsLab"
def F_LB : u_T := fun k => match k with
  | 0 => ("EndingsLab", "machine", "LEndingsLab$Machine;", true)
  | 1 => ("EndingsLab", "checker", "LEndingsLab$Checker;", true)
  | _ => ("EndingsLab", "wrongPlace", "I", false)
def t_LB : Nat → FieldType := fun k => match k with
  | 0 => .object "EndingsLab$Machine"
  | 1 => .object "EndingsLab$Checker"
  | _ => .int
theorem n_LB : ∀ a, a < 3 → ∀ b, b < 3 → a ≠ b → (F_LB a).2.1 ≠ (F_LB b).2.1 := by decide +kernel
theorem t_LB_ok : ∀ k, k < 3 → parseFieldDescriptor (F_LB k).2.2.1 = some (t_LB k) := by decide +kernel
theorem i_LB_0 : u_lay R_LB F_LB 0 ∈ GW := gw_t (List.mem_of_getElem? (i := 190) (by decide +kernel)) rfl
theorem i_LB_1 : u_lay R_LB F_LB 1 ∈ GW := gw_t (List.mem_of_getElem? (i := 192) (by decide +kernel)) rfl
theorem i_LB_2 : u_lay R_LB F_LB 2 ∈ GW := gw_t (List.mem_of_getElem? (i := 194) (by decide +kernel)) rfl
theorem i_LB : ∀ w ∈ u_ws R_LB F_LB 3, w ∈ GW := by
  intro w h
  obtain ⟨k, hk, rfl⟩ := List.mem_map.mp h
  have hk := List.mem_range.mp hk
  match k, hk with
  | 0, _ => exact i_LB_0
  | 1, _ => exact i_LB_1
  | 2, _ => exact i_LB_2
  | k + 3, hk => exact absurd hk (by omega)
def R_MA : String := "EndingsLab$Machine"
def F_MA : u_T := fun k => match k with
  | 0 => ("EndingsLab$Machine", "texts", "[LEndingsLab$Text;", true)
  | 1 => ("EndingsLab$Machine", "frames", "[LEndingsLab$Frame;", true)
  | 2 => ("EndingsLab$Machine", "faults", "LEndingsLab$Faults;", true)
  | 3 => ("EndingsLab$Machine", "locks", "LEndingsLab$Locks;", true)
  | 4 => ("EndingsLab$Machine", "log", "LEndingsLab$EventLog;", true)
  | 5 => ("EndingsLab$Machine", "begun", "I", false)
  | 6 => ("EndingsLab$Machine", "cameTo", "I", false)
  | _ => ("EndingsLab$Machine", "endedBy", "I", false)
def t_MA : Nat → FieldType := fun k => match k with
  | 0 => .array (.object "EndingsLab$Text")
  | 1 => .array (.object "EndingsLab$Frame")
  | 2 => .object "EndingsLab$Faults"
  | 3 => .object "EndingsLab$Locks"
  | 4 => .object "EndingsLab$EventLog"
  | 5 => .int
  | 6 => .int
  | _ => .int
theorem n_MA : ∀ a, a < 8 → ∀ b, b < 8 → a ≠ b → (F_MA a).2.1 ≠ (F_MA b).2.1 := by decide +kernel
theorem t_MA_ok : ∀ k, k < 8 → parseFieldDescriptor (F_MA k).2.2.1 = some (t_MA k) := by decide +kernel
theorem i_MA_0 : u_lay R_MA F_MA 0 ∈ GW := gw_t (List.mem_of_getElem? (i := 147) (by decide +kernel)) rfl
theorem i_MA_1 : u_lay R_MA F_MA 1 ∈ GW := gw_t (List.mem_of_getElem? (i := 149) (by decide +kernel)) rfl
theorem i_MA_2 : u_lay R_MA F_MA 2 ∈ GW := gw_t (List.mem_of_getElem? (i := 151) (by decide +kernel)) rfl
theorem i_MA_3 : u_lay R_MA F_MA 3 ∈ GW := gw_t (List.mem_of_getElem? (i := 153) (by decide +kernel)) rfl
theorem i_MA_4 : u_lay R_MA F_MA 4 ∈ GW := gw_t (List.mem_of_getElem? (i := 155) (by decide +kernel)) rfl
theorem i_MA_5 : u_lay R_MA F_MA 5 ∈ GW := gw_t (List.mem_of_getElem? (i := 157) (by decide +kernel)) rfl
theorem i_MA_6 : u_lay R_MA F_MA 6 ∈ GW := gw_t (List.mem_of_getElem? (i := 159) (by decide +kernel)) rfl
theorem i_MA_7 : u_lay R_MA F_MA 7 ∈ GW := gw_t (List.mem_of_getElem? (i := 161) (by decide +kernel)) rfl
theorem i_MA : ∀ w ∈ u_ws R_MA F_MA 8, w ∈ GW := by
  intro w h
  obtain ⟨k, hk, rfl⟩ := List.mem_map.mp h
  have hk := List.mem_range.mp hk
  match k, hk with
  | 0, _ => exact i_MA_0
  | 1, _ => exact i_MA_1
  | 2, _ => exact i_MA_2
  | 3, _ => exact i_MA_3
  | 4, _ => exact i_MA_4
  | 5, _ => exact i_MA_5
  | 6, _ => exact i_MA_6
  | 7, _ => exact i_MA_7
  | k + 8, hk => exact absurd hk (by omega)
def R_FA : String := "EndingsLab$Faults"
def F_FA : u_T := fun k => match k with
  | 0 => ("EndingsLab$Faults", "kinds", "[I", true)
  | 1 => ("EndingsLab$Faults", "causes", "[I", true)
  | _ => ("EndingsLab$Faults", "made", "I", false)
def t_FA : Nat → FieldType := fun k => match k with
  | 0 => .array .int
  | 1 => .array .int
  | _ => .int
theorem n_FA : ∀ a, a < 3 → ∀ b, b < 3 → a ≠ b → (F_FA a).2.1 ≠ (F_FA b).2.1 := by decide +kernel
theorem t_FA_ok : ∀ k, k < 3 → parseFieldDescriptor (F_FA k).2.2.1 = some (t_FA k) := by decide +kernel
theorem i_FA_0 : u_lay R_FA F_FA 0 ∈ GW := gw_t (List.mem_of_getElem? (i := 40) (by decide +kernel)) rfl
theorem i_FA_1 : u_lay R_FA F_FA 1 ∈ GW := gw_t (List.mem_of_getElem? (i := 42) (by decide +kernel)) rfl
theorem i_FA_2 : u_lay R_FA F_FA 2 ∈ GW := gw_t (List.mem_of_getElem? (i := 44) (by decide +kernel)) rfl
theorem i_FA : ∀ w ∈ u_ws R_FA F_FA 3, w ∈ GW := by
  intro w h
  obtain ⟨k, hk, rfl⟩ := List.mem_map.mp h
  have hk := List.mem_range.mp hk
  match k, hk with
  | 0, _ => exact i_FA_0
  | 1, _ => exact i_FA_1
  | 2, _ => exact i_FA_2
  | k + 3, hk => exact absurd hk (by omega)
def R_LO : String := "EndingsLab$Locks"
def F_LO : u_T := fun k => match k with
  | 0 => ("EndingsLab$Locks", "held", "[I", true)
  | 1 => ("EndingsLab$Locks", "total", "I", false)
  | _ => ("EndingsLab$Locks", "greatest", "I", false)
def t_LO : Nat → FieldType := fun k => match k with
  | 0 => .array .int
  | 1 => .int
  | _ => .int
theorem n_LO : ∀ a, a < 3 → ∀ b, b < 3 → a ≠ b → (F_LO a).2.1 ≠ (F_LO b).2.1 := by decide +kernel
theorem t_LO_ok : ∀ k, k < 3 → parseFieldDescriptor (F_LO k).2.2.1 = some (t_LO k) := by decide +kernel
theorem i_LO_0 : u_lay R_LO F_LO 0 ∈ GW := gw_t (List.mem_of_getElem? (i := 58) (by decide +kernel)) rfl
theorem i_LO_1 : u_lay R_LO F_LO 1 ∈ GW := gw_t (List.mem_of_getElem? (i := 60) (by decide +kernel)) rfl
theorem i_LO_2 : u_lay R_LO F_LO 2 ∈ GW := gw_t (List.mem_of_getElem? (i := 62) (by decide +kernel)) rfl
theorem i_LO : ∀ w ∈ u_ws R_LO F_LO 3, w ∈ GW := by
  intro w h
  obtain ⟨k, hk, rfl⟩ := List.mem_map.mp h
  have hk := List.mem_range.mp hk
  match k, hk with
  | 0, _ => exact i_LO_0
  | 1, _ => exact i_LO_1
  | 2, _ => exact i_LO_2
  | k + 3, hk => exact absurd hk (by omega)
def R_EV : String := "EndingsLab$EventLog"
def F_EV : u_T := fun k => match k with
  | 0 => ("EndingsLab$EventLog", "kept", "[I", true)
  | _ => ("EndingsLab$EventLog", "noted", "I", false)
def t_EV : Nat → FieldType := fun k => match k with
  | 0 => .array .int
  | _ => .int
theorem n_EV : ∀ a, a < 2 → ∀ b, b < 2 → a ≠ b → (F_EV a).2.1 ≠ (F_EV b).2.1 := by decide +kernel
theorem t_EV_ok : ∀ k, k < 2 → parseFieldDescriptor (F_EV k).2.2.1 = some (t_EV k) := by decide +kernel
theorem i_EV_0 : u_lay R_EV F_EV 0 ∈ GW := gw_t (List.mem_of_getElem? (i := 74) (by decide +kernel)) rfl
theorem i_EV_1 : u_lay R_EV F_EV 1 ∈ GW := gw_t (List.mem_of_getElem? (i := 76) (by decide +kernel)) rfl
theorem i_EV : ∀ w ∈ u_ws R_EV F_EV 2, w ∈ GW := by
  intro w h
  obtain ⟨k, hk, rfl⟩ := List.mem_map.mp h
  have hk := List.mem_range.mp hk
  match k, hk with
  | 0, _ => exact i_EV_0
  | 1, _ => exact i_EV_1
  | k + 2, hk => exact absurd hk (by omega)
def R_TE : String := "EndingsLab$Text"
def F_TE : u_T := fun k => match k with
  | 0 => ("EndingsLab$Text", "ops", "[I", true)
  | 1 => ("EndingsLab$Text", "numbers", "[I", true)
  | 2 => ("EndingsLab$Text", "ends", "[I", true)
  | _ => ("EndingsLab$Text", "size", "I", false)
def t_TE : Nat → FieldType := fun k => match k with
  | 0 => .array .int
  | 1 => .array .int
  | 2 => .array .int
  | _ => .int
theorem n_TE : ∀ a, a < 4 → ∀ b, b < 4 → a ≠ b → (F_TE a).2.1 ≠ (F_TE b).2.1 := by decide +kernel
theorem t_TE_ok : ∀ k, k < 4 → parseFieldDescriptor (F_TE k).2.2.1 = some (t_TE k) := by decide +kernel
theorem i_TE_0 : u_lay R_TE F_TE 0 ∈ GW := gw_t (List.mem_of_getElem? (i := 97) (by decide +kernel)) rfl
theorem i_TE_1 : u_lay R_TE F_TE 1 ∈ GW := gw_t (List.mem_of_getElem? (i := 99) (by decide +kernel)) rfl
theorem i_TE_2 : u_lay R_TE F_TE 2 ∈ GW := gw_t (List.mem_of_getElem? (i := 101) (by decide +kernel)) rfl
theorem i_TE_3 : u_lay R_TE F_TE 3 ∈ GW := gw_t (List.mem_of_getElem? (i := 103) (by decide +kernel)) rfl
theorem i_TE : ∀ w ∈ u_ws R_TE F_TE 4, w ∈ GW := by
  intro w h
  obtain ⟨k, hk, rfl⟩ := List.mem_map.mp h
  have hk := List.mem_range.mp hk
  match k, hk with
  | 0, _ => exact i_TE_0
  | 1, _ => exact i_TE_1
  | 2, _ => exact i_TE_2
  | 3, _ => exact i_TE_3
  | k + 4, hk => exact absurd hk (by omega)
def R_FR : String := "EndingsLab$Frame"
def F_FR : u_T := fun k => match k with
  | 0 => ("EndingsLab$Frame", "entered", "[I", true)
  | 1 => ("EndingsLab$Frame", "procedure", "I", false)
  | 2 => ("EndingsLab$Frame", "account", "I", false)
  | 3 => ("EndingsLab$Frame", "carried", "I", false)
  | _ => ("EndingsLab$Frame", "caught", "I", false)
def t_FR : Nat → FieldType := fun k => match k with
  | 0 => .array .int
  | 1 => .int
  | 2 => .int
  | 3 => .int
  | _ => .int
theorem n_FR : ∀ a, a < 5 → ∀ b, b < 5 → a ≠ b → (F_FR a).2.1 ≠ (F_FR b).2.1 := by decide +kernel
theorem t_FR_ok : ∀ k, k < 5 → parseFieldDescriptor (F_FR k).2.2.1 = some (t_FR k) := by decide +kernel
theorem i_FR_0 : u_lay R_FR F_FR 0 ∈ GW := gw_t (List.mem_of_getElem? (i := 121) (by decide +kernel)) rfl
theorem i_FR_1 : u_lay R_FR F_FR 1 ∈ GW := gw_t (List.mem_of_getElem? (i := 123) (by decide +kernel)) rfl
theorem i_FR_2 : u_lay R_FR F_FR 2 ∈ GW := gw_t (List.mem_of_getElem? (i := 125) (by decide +kernel)) rfl
theorem i_FR_3 : u_lay R_FR F_FR 3 ∈ GW := gw_t (List.mem_of_getElem? (i := 127) (by decide +kernel)) rfl
theorem i_FR_4 : u_lay R_FR F_FR 4 ∈ GW := gw_t (List.mem_of_getElem? (i := 129) (by decide +kernel)) rfl
theorem i_FR : ∀ w ∈ u_ws R_FR F_FR 5, w ∈ GW := by
  intro w h
  obtain ⟨k, hk, rfl⟩ := List.mem_map.mp h
  have hk := List.mem_range.mp hk
  match k, hk with
  | 0, _ => exact i_FR_0
  | 1, _ => exact i_FR_1
  | 2, _ => exact i_FR_2
  | 3, _ => exact i_FR_3
  | 4, _ => exact i_FR_4
  | k + 5, hk => exact absurd hk (by omega)
def R_CH : String := "EndingsLab$Checker"
def F_CH : u_T := fun k => match k with
  | 0 => ("EndingsLab$Checker", "openers", "[I", true)
  | 1 => ("EndingsLab$Checker", "inTimes", "[Z", true)
  | 2 => ("EndingsLab$Checker", "inCatch", "[Z", true)
  | 3 => ("EndingsLab$Checker", "lacking", "[I", true)
  | _ => ("EndingsLab$Checker", "depth", "I", false)
def t_CH : Nat → FieldType := fun k => match k with
  | 0 => .array .int
  | 1 => .array .boolean
  | 2 => .array .boolean
  | 3 => .array .int
  | _ => .int
theorem n_CH : ∀ a, a < 5 → ∀ b, b < 5 → a ≠ b → (F_CH a).2.1 ≠ (F_CH b).2.1 := by decide +kernel
theorem t_CH_ok : ∀ k, k < 5 → parseFieldDescriptor (F_CH k).2.2.1 = some (t_CH k) := by decide +kernel
theorem i_CH_0 : u_lay R_CH F_CH 0 ∈ GW := gw_t (List.mem_of_getElem? (i := 175) (by decide +kernel)) rfl
theorem i_CH_1 : u_lay R_CH F_CH 1 ∈ GW := gw_t (List.mem_of_getElem? (i := 177) (by decide +kernel)) rfl
theorem i_CH_2 : u_lay R_CH F_CH 2 ∈ GW := gw_t (List.mem_of_getElem? (i := 179) (by decide +kernel)) rfl
theorem i_CH_3 : u_lay R_CH F_CH 3 ∈ GW := gw_t (List.mem_of_getElem? (i := 181) (by decide +kernel)) rfl
theorem i_CH_4 : u_lay R_CH F_CH 4 ∈ GW := gw_t (List.mem_of_getElem? (i := 183) (by decide +kernel)) rfl
theorem i_CH : ∀ w ∈ u_ws R_CH F_CH 5, w ∈ GW := by
  intro w h
  obtain ⟨k, hk, rfl⟩ := List.mem_map.mp h
  have hk := List.mem_range.mp hk
  match k, hk with
  | 0, _ => exact i_CH_0
  | 1, _ => exact i_CH_1
  | 2, _ => exact i_CH_2
  | 3, _ => exact i_CH_3
  | 4, _ => exact i_CH_4
  | k + 5, hk => exact absurd hk (by omega)
def R_MO : String := "EndingsLabModel"
def F_MO : u_T := fun k => match k with
  | 0 => ("EndingsLabModel", "op", "[I", true)
  | 1 => ("EndingsLabModel", "arg", "[I", true)
  | 2 => ("EndingsLabModel", "size", "[I", true)
  | 3 => ("EndingsLabModel", "place", "I", false)
  | 4 => ("EndingsLabModel", "kind", "[I", true)
  | 5 => ("EndingsLabModel", "at", "[I", true)
  | 6 => ("EndingsLabModel", "data", "[I", true)
  | 7 => ("EndingsLabModel", "goes", "[I", true)
  | 8 => ("EndingsLabModel", "depth", "I", false)
  | 9 => ("EndingsLabModel", "next", "I", false)
  | 10 => ("EndingsLabModel", "account", "I", false)
  | 11 => ("EndingsLabModel", "ending", "I", false)
  | 12 => ("EndingsLabModel", "ended", "I", false)
  | 13 => ("EndingsLabModel", "frame", "I", false)
  | 14 => ("EndingsLabModel", "entered", "[I", true)
  | 15 => ("EndingsLabModel", "held", "[I", true)
  | 16 => ("EndingsLabModel", "faultKind", "[I", true)
  | 17 => ("EndingsLabModel", "faultCause", "[I", true)
  | 18 => ("EndingsLabModel", "faults", "I", false)
  | 19 => ("EndingsLabModel", "steps", "I", false)
  | 20 => ("EndingsLabModel", "most", "I", false)
  | 21 => ("EndingsLabModel", "value", "I", false)
  | 22 => ("EndingsLabModel", "raised", "I", false)
  | 23 => ("EndingsLabModel", "event", "[I", true)
  | _ => ("EndingsLabModel", "events", "I", false)
def t_MO : Nat → FieldType := fun k => match k with
  | 0 => .array .int
  | 1 => .array .int
  | 2 => .array .int
  | 3 => .int
  | 4 => .array .int
  | 5 => .array .int
  | 6 => .array .int
  | 7 => .array .int
  | 8 => .int
  | 9 => .int
  | 10 => .int
  | 11 => .int
  | 12 => .int
  | 13 => .int
  | 14 => .array .int
  | 15 => .array .int
  | 16 => .array .int
  | 17 => .array .int
  | 18 => .int
  | 19 => .int
  | 20 => .int
  | 21 => .int
  | 22 => .int
  | 23 => .array .int
  | _ => .int
theorem n_MO : ∀ a, a < 25 → ∀ b, b < 25 → a ≠ b → (F_MO a).2.1 ≠ (F_MO b).2.1 := by decide +kernel
theorem t_MO_ok : ∀ k, k < 25 → parseFieldDescriptor (F_MO k).2.2.1 = some (t_MO k) := by decide +kernel
set_option maxRecDepth 20000 in
theorem i_MO_0 : u_lay R_MO F_MO 0 ∈ GW := gw_t (List.mem_of_getElem? (i := 464) (by decide +kernel)) rfl
set_option maxRecDepth 20000 in
theorem i_MO_1 : u_lay R_MO F_MO 1 ∈ GW := gw_t (List.mem_of_getElem? (i := 466) (by decide +kernel)) rfl
set_option maxRecDepth 20000 in
theorem i_MO_2 : u_lay R_MO F_MO 2 ∈ GW := gw_t (List.mem_of_getElem? (i := 468) (by decide +kernel)) rfl
set_option maxRecDepth 20000 in
theorem i_MO_3 : u_lay R_MO F_MO 3 ∈ GW := gw_t (List.mem_of_getElem? (i := 470) (by decide +kernel)) rfl
set_option maxRecDepth 20000 in
theorem i_MO_4 : u_lay R_MO F_MO 4 ∈ GW := gw_t (List.mem_of_getElem? (i := 472) (by decide +kernel)) rfl
set_option maxRecDepth 20000 in
theorem i_MO_5 : u_lay R_MO F_MO 5 ∈ GW := gw_t (List.mem_of_getElem? (i := 474) (by decide +kernel)) rfl
set_option maxRecDepth 20000 in
theorem i_MO_6 : u_lay R_MO F_MO 6 ∈ GW := gw_t (List.mem_of_getElem? (i := 476) (by decide +kernel)) rfl
set_option maxRecDepth 20000 in
theorem i_MO_7 : u_lay R_MO F_MO 7 ∈ GW := gw_t (List.mem_of_getElem? (i := 478) (by decide +kernel)) rfl
set_option maxRecDepth 20000 in
theorem i_MO_8 : u_lay R_MO F_MO 8 ∈ GW := gw_t (List.mem_of_getElem? (i := 480) (by decide +kernel)) rfl
set_option maxRecDepth 20000 in
theorem i_MO_9 : u_lay R_MO F_MO 9 ∈ GW := gw_t (List.mem_of_getElem? (i := 482) (by decide +kernel)) rfl
set_option maxRecDepth 20000 in
theorem i_MO_10 : u_lay R_MO F_MO 10 ∈ GW := gw_t (List.mem_of_getElem? (i := 484) (by decide +kernel)) rfl
set_option maxRecDepth 20000 in
theorem i_MO_11 : u_lay R_MO F_MO 11 ∈ GW := gw_t (List.mem_of_getElem? (i := 486) (by decide +kernel)) rfl
set_option maxRecDepth 20000 in
theorem i_MO_12 : u_lay R_MO F_MO 12 ∈ GW := gw_t (List.mem_of_getElem? (i := 488) (by decide +kernel)) rfl
set_option maxRecDepth 20000 in
theorem i_MO_13 : u_lay R_MO F_MO 13 ∈ GW := gw_t (List.mem_of_getElem? (i := 490) (by decide +kernel)) rfl
set_option maxRecDepth 20000 in
theorem i_MO_14 : u_lay R_MO F_MO 14 ∈ GW := gw_t (List.mem_of_getElem? (i := 492) (by decide +kernel)) rfl
set_option maxRecDepth 20000 in
theorem i_MO_15 : u_lay R_MO F_MO 15 ∈ GW := gw_t (List.mem_of_getElem? (i := 494) (by decide +kernel)) rfl
set_option maxRecDepth 20000 in
theorem i_MO_16 : u_lay R_MO F_MO 16 ∈ GW := gw_t (List.mem_of_getElem? (i := 496) (by decide +kernel)) rfl
set_option maxRecDepth 20000 in
theorem i_MO_17 : u_lay R_MO F_MO 17 ∈ GW := gw_t (List.mem_of_getElem? (i := 498) (by decide +kernel)) rfl
set_option maxRecDepth 20000 in
theorem i_MO_18 : u_lay R_MO F_MO 18 ∈ GW := gw_t (List.mem_of_getElem? (i := 500) (by decide +kernel)) rfl
set_option maxRecDepth 20000 in
theorem i_MO_19 : u_lay R_MO F_MO 19 ∈ GW := gw_t (List.mem_of_getElem? (i := 502) (by decide +kernel)) rfl
set_option maxRecDepth 20000 in
theorem i_MO_20 : u_lay R_MO F_MO 20 ∈ GW := gw_t (List.mem_of_getElem? (i := 504) (by decide +kernel)) rfl
set_option maxRecDepth 20000 in
theorem i_MO_21 : u_lay R_MO F_MO 21 ∈ GW := gw_t (List.mem_of_getElem? (i := 506) (by decide +kernel)) rfl
set_option maxRecDepth 20000 in
theorem i_MO_22 : u_lay R_MO F_MO 22 ∈ GW := gw_t (List.mem_of_getElem? (i := 508) (by decide +kernel)) rfl
set_option maxRecDepth 20000 in
theorem i_MO_23 : u_lay R_MO F_MO 23 ∈ GW := gw_t (List.mem_of_getElem? (i := 510) (by decide +kernel)) rfl
set_option maxRecDepth 20000 in
theorem i_MO_24 : u_lay R_MO F_MO 24 ∈ GW := gw_t (List.mem_of_getElem? (i := 512) (by decide +kernel)) rfl
theorem i_MO : ∀ w ∈ u_ws R_MO F_MO 25, w ∈ GW := by
  intro w h
  obtain ⟨k, hk, rfl⟩ := List.mem_map.mp h
  have hk := List.mem_range.mp hk
  match k, hk with
  | 0, _ => exact i_MO_0
  | 1, _ => exact i_MO_1
  | 2, _ => exact i_MO_2
  | 3, _ => exact i_MO_3
  | 4, _ => exact i_MO_4
  | 5, _ => exact i_MO_5
  | 6, _ => exact i_MO_6
  | 7, _ => exact i_MO_7
  | 8, _ => exact i_MO_8
  | 9, _ => exact i_MO_9
  | 10, _ => exact i_MO_10
  | 11, _ => exact i_MO_11
  | 12, _ => exact i_MO_12
  | 13, _ => exact i_MO_13
  | 14, _ => exact i_MO_14
  | 15, _ => exact i_MO_15
  | 16, _ => exact i_MO_16
  | 17, _ => exact i_MO_17
  | 18, _ => exact i_MO_18
  | 19, _ => exact i_MO_19
  | 20, _ => exact i_MO_20
  | 21, _ => exact i_MO_21
  | 22, _ => exact i_MO_22
  | 23, _ => exact i_MO_23
  | 24, _ => exact i_MO_24
  | k + 25, hk => exact absurd hk (by omega)
abbrev clsL : List vw_C := [(R_LB, F_LB, 3), (R_MA, F_MA, 8), (R_FA, F_FA, 3), (R_LO, F_LO, 3), (R_EV, F_EV, 2), (R_TE, F_TE, 4), (R_FR, F_FR, 5), (R_CH, F_CH, 5), (R_MO, F_MO, 25)]
def R_LA : String := "EndingsLabLaw"
abbrev b_LB_init : ByteArray := prog_1_method_1_code
def y_LB_init : MethodName := ⟨"EndingsLab", "<init>", "()V"⟩
theorem c_LB_init_in : Cond.code y_LB_init b_LB_init 1 none ∈ GW := gw_t (List.mem_of_getElem? (i := 17) rfl) rfl
abbrev b_MA_init : ByteArray := prog_8_method_1_code
def y_MA_init : MethodName := ⟨"EndingsLab$Machine", "<init>", "()V"⟩
theorem c_MA_init_in : Cond.code y_MA_init b_MA_init 2 none ∈ GW := gw_t (List.mem_of_getElem? (i := 25) rfl) rfl
abbrev b_FA_init : ByteArray := prog_5_method_1_code
def y_FA_init : MethodName := ⟨"EndingsLab$Faults", "<init>", "()V"⟩
theorem c_FA_init_in : Cond.code y_FA_init b_FA_init 1 none ∈ GW := gw_t (List.mem_of_getElem? (i := 35) rfl) rfl
abbrev b_LO_init : ByteArray := prog_7_method_1_code
def y_LO_init : MethodName := ⟨"EndingsLab$Locks", "<init>", "()V"⟩
theorem c_LO_init_in : Cond.code y_LO_init b_LO_init 1 none ∈ GW := gw_t (List.mem_of_getElem? (i := 52) rfl) rfl
abbrev b_EV_init : ByteArray := prog_4_method_1_code
def y_EV_init : MethodName := ⟨"EndingsLab$EventLog", "<init>", "()V"⟩
theorem c_EV_init_in : Cond.code y_EV_init b_EV_init 1 none ∈ GW := gw_t (List.mem_of_getElem? (i := 69) rfl) rfl
abbrev b_TE_init : ByteArray := prog_9_method_1_code
def y_TE_init : MethodName := ⟨"EndingsLab$Text", "<init>", "()V"⟩
theorem c_TE_init_in : Cond.code y_TE_init b_TE_init 1 none ∈ GW := gw_t (List.mem_of_getElem? (i := 82) rfl) rfl
abbrev b_FR_init : ByteArray := prog_6_method_1_code
def y_FR_init : MethodName := ⟨"EndingsLab$Frame", "<init>", "()V"⟩
theorem c_FR_init_in : Cond.code y_FR_init b_FR_init 1 none ∈ GW := gw_t (List.mem_of_getElem? (i := 109) rfl) rfl
abbrev b_CH_init : ByteArray := prog_2_method_1_code
def y_CH_init : MethodName := ⟨"EndingsLab$Checker", "<init>", "()V"⟩
theorem c_CH_init_in : Cond.code y_CH_init b_CH_init 1 none ∈ GW := gw_t (List.mem_of_getElem? (i := 168) rfl) rfl
abbrev b_LB_token : ByteArray := prog_1_method_2_code
def y_LB_token : MethodName := ⟨"EndingsLab", "token", "(III)I"⟩
theorem c_LB_token_in : Cond.code y_LB_token b_LB_token 5 (some (.int)) ∈ GW := gw_t (List.mem_of_getElem? (i := 200) rfl) rfl
abbrev b_LB_isBelow : ByteArray := prog_1_method_16_code
def y_LB_isBelow : MethodName := ⟨"EndingsLab", "isBelow", "(II)Z"⟩
theorem c_LB_isBelow_in : Cond.code y_LB_isBelow b_LB_isBelow 2 (some (.boolean)) ∈ GW := gw_t (List.mem_of_getElem? (i := 203) rfl) rfl
abbrev b_LB_isToken : ByteArray := prog_1_method_15_code
def y_LB_isToken : MethodName := ⟨"EndingsLab", "isToken", "(II)Z"⟩
theorem c_LB_isToken_in : Cond.code y_LB_isToken b_LB_isToken 2 (some (.boolean)) ∈ GW := gw_t (List.mem_of_getElem? (i := 206) rfl) rfl
abbrev b_TE_append : ByteArray := prog_9_method_2_code
def y_TE_append : MethodName := ⟨"EndingsLab$Text", "append", "(II)Z"⟩
theorem c_TE_append_in : Cond.code y_TE_append b_TE_append 3 (some (.boolean)) ∈ GW := gw_t (List.mem_of_getElem? (i := 210) rfl) rfl
abbrev b_LB_wipe : ByteArray := prog_1_method_3_code
def y_LB_wipe : MethodName := ⟨"EndingsLab", "wipe", "(I)I"⟩
theorem c_LB_wipe_in : Cond.code y_LB_wipe b_LB_wipe 2 (some (.int)) ∈ GW := gw_t (List.mem_of_getElem? (i := 214) rfl) rfl
abbrev b_TE_clear : ByteArray := prog_9_method_3_code
def y_TE_clear : MethodName := ⟨"EndingsLab$Text", "clear", "()I"⟩
theorem c_TE_clear_in : Cond.code y_TE_clear b_TE_clear 2 (some (.int)) ∈ GW := gw_t (List.mem_of_getElem? (i := 218) rfl) rfl
abbrev b_LB_check : ByteArray := prog_1_method_4_code
def y_LB_check : MethodName := ⟨"EndingsLab", "check", "(I)I"⟩
theorem c_LB_check_in : Cond.code y_LB_check b_LB_check 2 (some (.int)) ∈ GW := gw_t (List.mem_of_getElem? (i := 222) rfl) rfl
abbrev b_LB_judge : ByteArray := prog_1_method_13_code
def y_LB_judge : MethodName := ⟨"EndingsLab", "judge", "(I)I"⟩
theorem c_LB_judge_in : Cond.code y_LB_judge b_LB_judge 3 (some (.int)) ∈ GW := gw_t (List.mem_of_getElem? (i := 226) rfl) rfl
abbrev b_CH_firstWrong : ByteArray := prog_2_method_2_code
def y_CH_firstWrong : MethodName := ⟨"EndingsLab$Checker", "firstWrong", "(LEndingsLab$Text;)I"⟩
theorem c_CH_firstWrong_in : Cond.code y_CH_firstWrong b_CH_firstWrong 3 (some (.int)) ∈ GW := gw_t (List.mem_of_getElem? (i := 230) rfl) rfl
abbrev b_CH_open : ByteArray := prog_2_method_5_code
def y_CH_open : MethodName := ⟨"EndingsLab$Checker", "open", "(IZZ)V"⟩
theorem c_CH_open_in : Cond.code y_CH_open b_CH_open 4 none ∈ GW := gw_t (List.mem_of_getElem? (i := 234) rfl) rfl
abbrev b_CH_mayStand : ByteArray := prog_2_method_3_code
def y_CH_mayStand : MethodName := ⟨"EndingsLab$Checker", "mayStand", "(I)Z"⟩
theorem c_CH_mayStand_in : Cond.code y_CH_mayStand b_CH_mayStand 2 (some (.boolean)) ∈ GW := gw_t (List.mem_of_getElem? (i := 238) rfl) rfl
abbrev b_CH_take : ByteArray := prog_2_method_4_code
def y_CH_take : MethodName := ⟨"EndingsLab$Checker", "take", "(LEndingsLab$Text;I)V"⟩
theorem c_CH_take_in : Cond.code y_CH_take b_CH_take 3 none ∈ GW := gw_t (List.mem_of_getElem? (i := 242) rfl) rfl
abbrev b_CH_close : ByteArray := prog_2_method_6_code
def y_CH_close : MethodName := ⟨"EndingsLab$Checker", "close", "(LEndingsLab$Text;I)V"⟩
theorem c_CH_close_in : Cond.code y_CH_close b_CH_close 3 none ∈ GW := gw_t (List.mem_of_getElem? (i := 246) rfl) rfl
abbrev b_LB_place : ByteArray := prog_1_method_5_code
def y_LB_place : MethodName := ⟨"EndingsLab", "place", "()I"⟩
theorem c_LB_place_in : Cond.code y_LB_place b_LB_place 1 (some (.int)) ∈ GW := gw_t (List.mem_of_getElem? (i := 250) rfl) rfl
abbrev b_LB_run : ByteArray := prog_1_method_6_code
def y_LB_run : MethodName := ⟨"EndingsLab", "run", "(IIZ)I"⟩
theorem c_LB_run_in : Cond.code y_LB_run b_LB_run 4 (some (.int)) ∈ GW := gw_t (List.mem_of_getElem? (i := 254) rfl) rfl
abbrev b_LB_judgeAll : ByteArray := prog_1_method_14_code
def y_LB_judgeAll : MethodName := ⟨"EndingsLab", "judgeAll", "(I)I"⟩
theorem c_LB_judgeAll_in : Cond.code y_LB_judgeAll b_LB_judgeAll 3 (some (.int)) ∈ GW := gw_t (List.mem_of_getElem? (i := 258) rfl) rfl
abbrev b_MA_perform : ByteArray := prog_8_method_2_code
def y_MA_perform : MethodName := ⟨"EndingsLab$Machine", "perform", "(II)I"⟩
theorem c_MA_perform_in : Cond.code y_MA_perform b_MA_perform 4 (some (.int)) ∈ GW := gw_t (List.mem_of_getElem? (i := 262) rfl) rfl
abbrev b_FA_forget : ByteArray := prog_5_method_2_code
def y_FA_forget : MethodName := ⟨"EndingsLab$Faults", "forget", "()V"⟩
theorem c_FA_forget_in : Cond.code y_FA_forget b_FA_forget 1 none ∈ GW := gw_t (List.mem_of_getElem? (i := 266) rfl) rfl
abbrev b_LO_free : ByteArray := prog_7_method_2_code
def y_LO_free : MethodName := ⟨"EndingsLab$Locks", "free", "()V"⟩
theorem c_LO_free_in : Cond.code y_LO_free b_LO_free 2 none ∈ GW := gw_t (List.mem_of_getElem? (i := 270) rfl) rfl
abbrev b_FR_begin : ByteArray := prog_6_method_2_code
def y_FR_begin : MethodName := ⟨"EndingsLab$Frame", "begin", "(II)V"⟩
theorem c_FR_begin_in : Cond.code y_FR_begin b_FR_begin 4 none ∈ GW := gw_t (List.mem_of_getElem? (i := 274) rfl) rfl
abbrev b_MA_doProcedure : ByteArray := prog_8_method_3_code
def y_MA_doProcedure : MethodName := ⟨"EndingsLab$Machine", "doProcedure", "(I)LEndingsLab$Ending;"⟩
theorem c_MA_doProcedure_in : Cond.code y_MA_doProcedure b_MA_doProcedure 4 (some (.object "EndingsLab$Ending")) ∈ GW := gw_t (List.mem_of_getElem? (i := 278) rfl) rfl
abbrev b_MA_doBlock : ByteArray := prog_8_method_6_code
def y_MA_doBlock : MethodName := ⟨"EndingsLab$Machine", "doBlock", "(II)LEndingsLab$Ending;"⟩
theorem c_MA_doBlock_in : Cond.code y_MA_doBlock b_MA_doBlock 8 (some (.object "EndingsLab$Ending")) ∈ GW := gw_t (List.mem_of_getElem? (i := 282) rfl) rfl
abbrev b_MA_textOf : ByteArray := prog_8_method_5_code
def y_MA_textOf : MethodName := ⟨"EndingsLab$Machine", "textOf", "(I)LEndingsLab$Text;"⟩
theorem c_MA_textOf_in : Cond.code y_MA_textOf b_MA_textOf 2 (some (.object "EndingsLab$Text")) ∈ GW := gw_t (List.mem_of_getElem? (i := 286) rfl) rfl
abbrev b_MA_doItem : ByteArray := prog_8_method_7_code
def y_MA_doItem : MethodName := ⟨"EndingsLab$Machine", "doItem", "(II)LEndingsLab$Ending;"⟩
theorem c_MA_doItem_in : Cond.code y_MA_doItem b_MA_doItem 6 (some (.object "EndingsLab$Ending")) ∈ GW := gw_t (List.mem_of_getElem? (i := 290) rfl) rfl
abbrev b_EV_note : ByteArray := prog_4_method_2_code
def y_EV_note : MethodName := ⟨"EndingsLab$EventLog", "note", "(I)V"⟩
theorem c_EV_note_in : Cond.code y_EV_note b_EV_note 2 none ∈ GW := gw_t (List.mem_of_getElem? (i := 296) rfl) rfl
abbrev b_JM_floorMod : ByteArray := prog_13_method_50_code
def y_JM_floorMod : MethodName := ⟨"java/lang/Math", "floorMod", "(II)I"⟩
theorem c_JM_floorMod_in : Cond.code y_JM_floorMod b_JM_floorMod 3 (some (.int)) ∈ GW := gw_t (List.mem_of_getElem? (i := 299) rfl) rfl
abbrev b_MA_doDivide : ByteArray := prog_8_method_9_code
def y_MA_doDivide : MethodName := ⟨"EndingsLab$Machine", "doDivide", "(LEndingsLab$Frame;I)LEndingsLab$Ending;"⟩
set_option maxRecDepth 20000 in
theorem c_MA_doDivide_in : Cond.code y_MA_doDivide b_MA_doDivide 3 (some (.object "EndingsLab$Ending")) ∈ GW := gw_t (List.mem_of_getElem? (i := 305) rfl) rfl
abbrev b_MA_raise : ByteArray := prog_8_method_8_code
def y_MA_raise : MethodName := ⟨"EndingsLab$Machine", "raise", "(LEndingsLab$Frame;II)LEndingsLab$Ending;"⟩
set_option maxRecDepth 20000 in
theorem c_MA_raise_in : Cond.code y_MA_raise b_MA_raise 4 (some (.object "EndingsLab$Ending")) ∈ GW := gw_t (List.mem_of_getElem? (i := 309) rfl) rfl
abbrev b_FA_make : ByteArray := prog_5_method_3_code
def y_FA_make : MethodName := ⟨"EndingsLab$Faults", "make", "(II)I"⟩
set_option maxRecDepth 20000 in
theorem c_FA_make_in : Cond.code y_FA_make b_FA_make 3 (some (.int)) ∈ GW := gw_t (List.mem_of_getElem? (i := 313) rfl) rfl
abbrev b_MA_doTimes : ByteArray := prog_8_method_10_code
def y_MA_doTimes : MethodName := ⟨"EndingsLab$Machine", "doTimes", "(III)LEndingsLab$Ending;"⟩
set_option maxRecDepth 20000 in
theorem c_MA_doTimes_in : Cond.code y_MA_doTimes b_MA_doTimes 6 (some (.object "EndingsLab$Ending")) ∈ GW := gw_t (List.mem_of_getElem? (i := 319) rfl) rfl
abbrev b_MA_doTry : ByteArray := prog_8_method_11_code
def y_MA_doTry : MethodName := ⟨"EndingsLab$Machine", "doTry", "(II)LEndingsLab$Ending;"⟩
set_option maxRecDepth 20000 in
theorem c_MA_doTry_in : Cond.code y_MA_doTry b_MA_doTry 8 (some (.object "EndingsLab$Ending")) ∈ GW := gw_t (List.mem_of_getElem? (i := 329) rfl) rfl
abbrev b_TE_catchesOf : ByteArray := prog_9_method_4_code
def y_TE_catchesOf : MethodName := ⟨"EndingsLab$Text", "catchesOf", "(I)I"⟩
set_option maxRecDepth 20000 in
theorem c_TE_catchesOf_in : Cond.code y_TE_catchesOf b_TE_catchesOf 2 (some (.int)) ∈ GW := gw_t (List.mem_of_getElem? (i := 333) rfl) rfl
abbrev b_MA_catches : ByteArray := prog_8_method_12_code
def y_MA_catches : MethodName := ⟨"EndingsLab$Machine", "catches", "(II)Z"⟩
set_option maxRecDepth 20000 in
theorem c_MA_catches_in : Cond.code y_MA_catches b_MA_catches 3 (some (.boolean)) ∈ GW := gw_t (List.mem_of_getElem? (i := 337) rfl) rfl
abbrev b_FA_kindOf : ByteArray := prog_5_method_4_code
def y_FA_kindOf : MethodName := ⟨"EndingsLab$Faults", "kindOf", "(I)I"⟩
set_option maxRecDepth 20000 in
theorem c_FA_kindOf_in : Cond.code y_FA_kindOf b_FA_kindOf 2 (some (.int)) ∈ GW := gw_t (List.mem_of_getElem? (i := 341) rfl) rfl
abbrev b_LB_isOfKind : ByteArray := prog_1_method_17_code
def y_LB_isOfKind : MethodName := ⟨"EndingsLab", "isOfKind", "(II)Z"⟩
set_option maxRecDepth 20000 in
theorem c_LB_isOfKind_in : Cond.code y_LB_isOfKind b_LB_isOfKind 2 (some (.boolean)) ∈ GW := gw_t (List.mem_of_getElem? (i := 345) rfl) rfl
abbrev b_MA_doCatch : ByteArray := prog_8_method_13_code
def y_MA_doCatch : MethodName := ⟨"EndingsLab$Machine", "doCatch", "(II)LEndingsLab$Ending;"⟩
set_option maxRecDepth 20000 in
theorem c_MA_doCatch_in : Cond.code y_MA_doCatch b_MA_doCatch 6 (some (.object "EndingsLab$Ending")) ∈ GW := gw_t (List.mem_of_getElem? (i := 349) rfl) rfl
abbrev b_TE_hasLast : ByteArray := prog_9_method_5_code
def y_TE_hasLast : MethodName := ⟨"EndingsLab$Text", "hasLast", "(I)Z"⟩
set_option maxRecDepth 20000 in
theorem c_TE_hasLast_in : Cond.code y_TE_hasLast b_TE_hasLast 2 (some (.boolean)) ∈ GW := gw_t (List.mem_of_getElem? (i := 353) rfl) rfl
abbrev b_MA_doLast : ByteArray := prog_8_method_14_code
def y_MA_doLast : MethodName := ⟨"EndingsLab$Machine", "doLast", "(IILEndingsLab$Ending;)LEndingsLab$Ending;"⟩
set_option maxRecDepth 20000 in
theorem c_MA_doLast_in : Cond.code y_MA_doLast b_MA_doLast 7 (some (.object "EndingsLab$Ending")) ∈ GW := gw_t (List.mem_of_getElem? (i := 357) rfl) rfl
abbrev b_MA_doLock : ByteArray := prog_8_method_15_code
def y_MA_doLock : MethodName := ⟨"EndingsLab$Machine", "doLock", "(III)LEndingsLab$Ending;"⟩
set_option maxRecDepth 20000 in
theorem c_MA_doLock_in : Cond.code y_MA_doLock b_MA_doLock 5 (some (.object "EndingsLab$Ending")) ∈ GW := gw_t (List.mem_of_getElem? (i := 361) rfl) rfl
abbrev b_LO_hold : ByteArray := prog_7_method_3_code
def y_LO_hold : MethodName := ⟨"EndingsLab$Locks", "hold", "(I)V"⟩
set_option maxRecDepth 20000 in
theorem c_LO_hold_in : Cond.code y_LO_hold b_LO_hold 2 none ∈ GW := gw_t (List.mem_of_getElem? (i := 365) rfl) rfl
abbrev b_JM_max : ByteArray := prog_13_method_65_code
def y_JM_max : MethodName := ⟨"java/lang/Math", "max", "(II)I"⟩
set_option maxRecDepth 20000 in
theorem c_JM_max_in : Cond.code y_JM_max b_JM_max 2 (some (.int)) ∈ GW := gw_t (List.mem_of_getElem? (i := 368) rfl) rfl
abbrev b_LO_release : ByteArray := prog_7_method_4_code
def y_LO_release : MethodName := ⟨"EndingsLab$Locks", "release", "(II)V"⟩
set_option maxRecDepth 20000 in
theorem c_LO_release_in : Cond.code y_LO_release b_LO_release 3 none ∈ GW := gw_t (List.mem_of_getElem? (i := 372) rfl) rfl
abbrev b_MA_doEnter : ByteArray := prog_8_method_16_code
def y_MA_doEnter : MethodName := ⟨"EndingsLab$Machine", "doEnter", "(LEndingsLab$Frame;I)LEndingsLab$Ending;"⟩
set_option maxRecDepth 20000 in
theorem c_MA_doEnter_in : Cond.code y_MA_doEnter b_MA_doEnter 3 (some (.object "EndingsLab$Ending")) ∈ GW := gw_t (List.mem_of_getElem? (i := 376) rfl) rfl
abbrev b_MA_doLeave : ByteArray := prog_8_method_17_code
def y_MA_doLeave : MethodName := ⟨"EndingsLab$Machine", "doLeave", "(LEndingsLab$Frame;I)LEndingsLab$Ending;"⟩
set_option maxRecDepth 20000 in
theorem c_MA_doLeave_in : Cond.code y_MA_doLeave b_MA_doLeave 3 (some (.object "EndingsLab$Ending")) ∈ GW := gw_t (List.mem_of_getElem? (i := 380) rfl) rfl
abbrev b_MA_doCall : ByteArray := prog_8_method_18_code
def y_MA_doCall : MethodName := ⟨"EndingsLab$Machine", "doCall", "(II)LEndingsLab$Ending;"⟩
set_option maxRecDepth 20000 in
theorem c_MA_doCall_in : Cond.code y_MA_doCall b_MA_doCall 6 (some (.object "EndingsLab$Ending")) ∈ GW := gw_t (List.mem_of_getElem? (i := 384) rfl) rfl
abbrev b_LO_isHeld : ByteArray := prog_7_method_5_code
def y_LO_isHeld : MethodName := ⟨"EndingsLab$Locks", "isHeld", "(I)Z"⟩
set_option maxRecDepth 20000 in
theorem c_LO_isHeld_in : Cond.code y_LO_isHeld b_LO_isHeld 2 (some (.boolean)) ∈ GW := gw_t (List.mem_of_getElem? (i := 388) rfl) rfl
abbrev b_TE_behind : ByteArray := prog_9_method_6_code
def y_TE_behind : MethodName := ⟨"EndingsLab$Text", "behind", "(I)I"⟩
set_option maxRecDepth 20000 in
theorem c_TE_behind_in : Cond.code y_TE_behind b_TE_behind 5 (some (.int)) ∈ GW := gw_t (List.mem_of_getElem? (i := 392) rfl) rfl
abbrev b_MA_releaseEntered : ByteArray := prog_8_method_4_code
def y_MA_releaseEntered : MethodName := ⟨"EndingsLab$Machine", "releaseEntered", "(LEndingsLab$Frame;)Z"⟩
set_option maxRecDepth 20000 in
theorem c_MA_releaseEntered_in : Cond.code y_MA_releaseEntered b_MA_releaseEntered 4 (some (.boolean)) ∈ GW := gw_t (List.mem_of_getElem? (i := 398) rfl) rfl
abbrev b_LB_value : ByteArray := prog_1_method_7_code
def y_LB_value : MethodName := ⟨"EndingsLab", "value", "()I"⟩
set_option maxRecDepth 20000 in
theorem c_LB_value_in : Cond.code y_LB_value b_LB_value 1 (some (.int)) ∈ GW := gw_t (List.mem_of_getElem? (i := 402) rfl) rfl
abbrev b_LB_fault : ByteArray := prog_1_method_8_code
def y_LB_fault : MethodName := ⟨"EndingsLab", "fault", "(I)I"⟩
set_option maxRecDepth 20000 in
theorem c_LB_fault_in : Cond.code y_LB_fault b_LB_fault 2 (some (.int)) ∈ GW := gw_t (List.mem_of_getElem? (i := 406) rfl) rfl
abbrev b_FA_causeOf : ByteArray := prog_5_method_5_code
def y_FA_causeOf : MethodName := ⟨"EndingsLab$Faults", "causeOf", "(II)I"⟩
set_option maxRecDepth 20000 in
theorem c_FA_causeOf_in : Cond.code y_FA_causeOf b_FA_causeOf 5 (some (.int)) ∈ GW := gw_t (List.mem_of_getElem? (i := 410) rfl) rfl
abbrev b_LB_steps : ByteArray := prog_1_method_9_code
def y_LB_steps : MethodName := ⟨"EndingsLab", "steps", "()I"⟩
set_option maxRecDepth 20000 in
theorem c_LB_steps_in : Cond.code y_LB_steps b_LB_steps 1 (some (.int)) ∈ GW := gw_t (List.mem_of_getElem? (i := 415) rfl) rfl
abbrev b_LB_events : ByteArray := prog_1_method_10_code
def y_LB_events : MethodName := ⟨"EndingsLab", "events", "()I"⟩
set_option maxRecDepth 20000 in
theorem c_LB_events_in : Cond.code y_LB_events b_LB_events 1 (some (.int)) ∈ GW := gw_t (List.mem_of_getElem? (i := 419) rfl) rfl
abbrev b_LB_event : ByteArray := prog_1_method_11_code
def y_LB_event : MethodName := ⟨"EndingsLab", "event", "(I)I"⟩
set_option maxRecDepth 20000 in
theorem c_LB_event_in : Cond.code y_LB_event b_LB_event 2 (some (.int)) ∈ GW := gw_t (List.mem_of_getElem? (i := 423) rfl) rfl
abbrev b_EV_fromLast : ByteArray := prog_4_method_3_code
def y_EV_fromLast : MethodName := ⟨"EndingsLab$EventLog", "fromLast", "(I)I"⟩
set_option maxRecDepth 20000 in
theorem c_EV_fromLast_in : Cond.code y_EV_fromLast b_EV_fromLast 2 (some (.int)) ∈ GW := gw_t (List.mem_of_getElem? (i := 427) rfl) rfl
abbrev b_LB_most : ByteArray := prog_1_method_12_code
def y_LB_most : MethodName := ⟨"EndingsLab", "most", "()I"⟩
set_option maxRecDepth 20000 in
theorem c_LB_most_in : Cond.code y_LB_most b_LB_most 1 (some (.int)) ∈ GW := gw_t (List.mem_of_getElem? (i := 432) rfl) rfl
abbrev b_MO_init : ByteArray := prog_11_method_1_code
def y_MO_init : MethodName := ⟨"EndingsLabModel", "<init>", "()V"⟩
set_option maxRecDepth 20000 in
theorem c_MO_init_in : Cond.code y_MO_init b_MO_init 1 none ∈ GW := gw_t (List.mem_of_getElem? (i := 437) rfl) rfl
abbrev b_MO_token : ByteArray := prog_11_method_4_code
def y_MO_token : MethodName := ⟨"EndingsLabModel", "token", "(III)I"⟩
set_option maxRecDepth 20000 in
theorem c_MO_token_in : Cond.code y_MO_token b_MO_token 4 (some (.int)) ∈ GW := gw_t (List.mem_of_getElem? (i := 518) rfl) rfl
abbrev b_MO_in : ByteArray := prog_11_method_2_code
def y_MO_in : MethodName := ⟨"EndingsLabModel", "in", "(III)Z"⟩
set_option maxRecDepth 20000 in
theorem c_MO_in_in : Cond.code y_MO_in b_MO_in 3 (some (.boolean)) ∈ GW := gw_t (List.mem_of_getElem? (i := 521) rfl) rfl
abbrev b_MO_fits : ByteArray := prog_11_method_3_code
def y_MO_fits : MethodName := ⟨"EndingsLabModel", "fits", "(II)Z"⟩
set_option maxRecDepth 20000 in
theorem c_MO_fits_in : Cond.code y_MO_fits b_MO_fits 2 (some (.boolean)) ∈ GW := gw_t (List.mem_of_getElem? (i := 524) rfl) rfl
abbrev b_MO_wipe : ByteArray := prog_11_method_5_code
def y_MO_wipe : MethodName := ⟨"EndingsLabModel", "wipe", "(I)I"⟩
set_option maxRecDepth 20000 in
theorem c_MO_wipe_in : Cond.code y_MO_wipe b_MO_wipe 3 (some (.int)) ∈ GW := gw_t (List.mem_of_getElem? (i := 528) rfl) rfl
abbrev b_MO_check : ByteArray := prog_11_method_11_code
def y_MO_check : MethodName := ⟨"EndingsLabModel", "check", "(I)I"⟩
set_option maxRecDepth 20000 in
theorem c_MO_check_in : Cond.code y_MO_check b_MO_check 2 (some (.int)) ∈ GW := gw_t (List.mem_of_getElem? (i := 532) rfl) rfl
abbrev b_MO_good : ByteArray := prog_11_method_10_code
def y_MO_good : MethodName := ⟨"EndingsLabModel", "good", "(I)Z"⟩
set_option maxRecDepth 20000 in
theorem c_MO_good_in : Cond.code y_MO_good b_MO_good 3 (some (.boolean)) ∈ GW := gw_t (List.mem_of_getElem? (i := 536) rfl) rfl
abbrev b_MO_firstWrong : ByteArray := prog_11_method_9_code
def y_MO_firstWrong : MethodName := ⟨"EndingsLabModel", "firstWrong", "(I)I"⟩
set_option maxRecDepth 20000 in
theorem c_MO_firstWrong_in : Cond.code y_MO_firstWrong b_MO_firstWrong 8 (some (.int)) ∈ GW := gw_t (List.mem_of_getElem? (i := 540) rfl) rfl
abbrev b_MO_openBlock : ByteArray := prog_11_method_8_code
def y_MO_openBlock : MethodName := ⟨"EndingsLabModel", "openBlock", "(II)V"⟩
set_option maxRecDepth 20000 in
theorem c_MO_openBlock_in : Cond.code y_MO_openBlock b_MO_openBlock 3 none ∈ GW := gw_t (List.mem_of_getElem? (i := 544) rfl) rfl
abbrev b_MO_inside : ByteArray := prog_11_method_7_code
def y_MO_inside : MethodName := ⟨"EndingsLabModel", "inside", "(I)Z"⟩
set_option maxRecDepth 20000 in
theorem c_MO_inside_in : Cond.code y_MO_inside b_MO_inside 3 (some (.boolean)) ∈ GW := gw_t (List.mem_of_getElem? (i := 548) rfl) rfl
abbrev b_MO_opens : ByteArray := prog_11_method_6_code
def y_MO_opens : MethodName := ⟨"EndingsLabModel", "opens", "(I)Z"⟩
set_option maxRecDepth 20000 in
theorem c_MO_opens_in : Cond.code y_MO_opens b_MO_opens 1 (some (.boolean)) ∈ GW := gw_t (List.mem_of_getElem? (i := 551) rfl) rfl
abbrev b_MO_place : ByteArray := prog_11_method_12_code
def y_MO_place : MethodName := ⟨"EndingsLabModel", "place", "()I"⟩
set_option maxRecDepth 20000 in
theorem c_MO_place_in : Cond.code y_MO_place b_MO_place 1 (some (.int)) ∈ GW := gw_t (List.mem_of_getElem? (i := 555) rfl) rfl
abbrev b_MO_run : ByteArray := prog_11_method_33_code
def y_MO_run : MethodName := ⟨"EndingsLabModel", "run", "(IIZ)I"⟩
set_option maxRecDepth 20000 in
theorem c_MO_run_in : Cond.code y_MO_run b_MO_run 5 (some (.int)) ∈ GW := gw_t (List.mem_of_getElem? (i := 559) rfl) rfl
abbrev b_MO_begin : ByteArray := prog_11_method_22_code
def y_MO_begin : MethodName := ⟨"EndingsLabModel", "begin", "(II)V"⟩
set_option maxRecDepth 20000 in
theorem c_MO_begin_in : Cond.code y_MO_begin b_MO_begin 4 none ∈ GW := gw_t (List.mem_of_getElem? (i := 563) rfl) rfl
abbrev b_MO_enter : ByteArray := prog_11_method_16_code
def y_MO_enter : MethodName := ⟨"EndingsLabModel", "enter", "(III)V"⟩
set_option maxRecDepth 20000 in
theorem c_MO_enter_in : Cond.code y_MO_enter b_MO_enter 4 none ∈ GW := gw_t (List.mem_of_getElem? (i := 567) rfl) rfl
abbrev b_MO_close : ByteArray := prog_11_method_29_code
def y_MO_close : MethodName := ⟨"EndingsLabModel", "close", "()V"⟩
set_option maxRecDepth 20000 in
theorem c_MO_close_in : Cond.code y_MO_close b_MO_close 5 none ∈ GW := gw_t (List.mem_of_getElem? (i := 571) rfl) rfl
abbrev b_MO_behind : ByteArray := prog_11_method_13_code
def y_MO_behind : MethodName := ⟨"EndingsLabModel", "behind", "(I)I"⟩
set_option maxRecDepth 20000 in
theorem c_MO_behind_in : Cond.code y_MO_behind b_MO_behind 4 (some (.int)) ∈ GW := gw_t (List.mem_of_getElem? (i := 575) rfl) rfl
abbrev b_MO_catcher : ByteArray := prog_11_method_30_code
def y_MO_catcher : MethodName := ⟨"EndingsLabModel", "catcher", "(I)I"⟩
set_option maxRecDepth 20000 in
theorem c_MO_catcher_in : Cond.code y_MO_catcher b_MO_catcher 3 (some (.int)) ∈ GW := gw_t (List.mem_of_getElem? (i := 579) rfl) rfl
abbrev b_MO_part : ByteArray := prog_11_method_14_code
def y_MO_part : MethodName := ⟨"EndingsLabModel", "part", "(II)I"⟩
set_option maxRecDepth 20000 in
theorem c_MO_part_in : Cond.code y_MO_part b_MO_part 5 (some (.int)) ∈ GW := gw_t (List.mem_of_getElem? (i := 583) rfl) rfl
abbrev b_MO_is : ByteArray := prog_11_method_20_code
def y_MO_is : MethodName := ⟨"EndingsLabModel", "is", "(II)Z"⟩
set_option maxRecDepth 20000 in
theorem c_MO_is_in : Cond.code y_MO_is b_MO_is 2 (some (.boolean)) ∈ GW := gw_t (List.mem_of_getElem? (i := 586) rfl) rfl
abbrev b_MO_lastOf : ByteArray := prog_11_method_28_code
def y_MO_lastOf : MethodName := ⟨"EndingsLabModel", "lastOf", "(I)V"⟩
set_option maxRecDepth 20000 in
theorem c_MO_lastOf_in : Cond.code y_MO_lastOf b_MO_lastOf 4 none ∈ GW := gw_t (List.mem_of_getElem? (i := 590) rfl) rfl
abbrev b_MO_behindTry : ByteArray := prog_11_method_15_code
def y_MO_behindTry : MethodName := ⟨"EndingsLabModel", "behindTry", "(I)I"⟩
set_option maxRecDepth 20000 in
theorem c_MO_behindTry_in : Cond.code y_MO_behindTry b_MO_behindTry 3 (some (.int)) ∈ GW := gw_t (List.mem_of_getElem? (i := 594) rfl) rfl
abbrev b_MO_closeLast : ByteArray := prog_11_method_31_code
def y_MO_closeLast : MethodName := ⟨"EndingsLabModel", "closeLast", "(III)V"⟩
set_option maxRecDepth 20000 in
theorem c_MO_closeLast_in : Cond.code y_MO_closeLast b_MO_closeLast 4 none ∈ GW := gw_t (List.mem_of_getElem? (i := 598) rfl) rfl
abbrev b_MO_ends : ByteArray := prog_11_method_18_code
def y_MO_ends : MethodName := ⟨"EndingsLabModel", "ends", "(II)V"⟩
set_option maxRecDepth 20000 in
theorem c_MO_ends_in : Cond.code y_MO_ends b_MO_ends 3 none ∈ GW := gw_t (List.mem_of_getElem? (i := 602) rfl) rfl
abbrev b_MO_closeRun : ByteArray := prog_11_method_32_code
def y_MO_closeRun : MethodName := ⟨"EndingsLabModel", "closeRun", "(II)V"⟩
set_option maxRecDepth 20000 in
theorem c_MO_closeRun_in : Cond.code y_MO_closeRun b_MO_closeRun 6 none ∈ GW := gw_t (List.mem_of_getElem? (i := 606) rfl) rfl
abbrev b_MO_raise : ByteArray := prog_11_method_19_code
def y_MO_raise : MethodName := ⟨"EndingsLabModel", "raise", "(II)V"⟩
set_option maxRecDepth 20000 in
theorem c_MO_raise_in : Cond.code y_MO_raise b_MO_raise 3 none ∈ GW := gw_t (List.mem_of_getElem? (i := 610) rfl) rfl
abbrev b_MO_made : ByteArray := prog_11_method_17_code
def y_MO_made : MethodName := ⟨"EndingsLabModel", "made", "(II)I"⟩
set_option maxRecDepth 20000 in
theorem c_MO_made_in : Cond.code y_MO_made b_MO_made 3 (some (.int)) ∈ GW := gw_t (List.mem_of_getElem? (i := 614) rfl) rfl
abbrev b_MO_item : ByteArray := prog_11_method_24_code
def y_MO_item : MethodName := ⟨"EndingsLabModel", "item", "()V"⟩
set_option maxRecDepth 20000 in
theorem c_MO_item_in : Cond.code y_MO_item b_MO_item 3 none ∈ GW := gw_t (List.mem_of_getElem? (i := 618) rfl) rfl
abbrev b_MO_note : ByteArray := prog_11_method_27_code
def y_MO_note : MethodName := ⟨"EndingsLabModel", "note", "(I)V"⟩
set_option maxRecDepth 20000 in
theorem c_MO_note_in : Cond.code y_MO_note b_MO_note 3 none ∈ GW := gw_t (List.mem_of_getElem? (i := 622) rfl) rfl
abbrev b_MO_caught : ByteArray := prog_11_method_23_code
def y_MO_caught : MethodName := ⟨"EndingsLabModel", "caught", "()I"⟩
set_option maxRecDepth 20000 in
theorem c_MO_caught_in : Cond.code y_MO_caught b_MO_caught 2 (some (.int)) ∈ GW := gw_t (List.mem_of_getElem? (i := 626) rfl) rfl
abbrev b_MO_hold : ByteArray := prog_11_method_21_code
def y_MO_hold : MethodName := ⟨"EndingsLabModel", "hold", "(I)V"⟩
set_option maxRecDepth 20000 in
theorem c_MO_hold_in : Cond.code y_MO_hold b_MO_hold 3 none ∈ GW := gw_t (List.mem_of_getElem? (i := 630) rfl) rfl
abbrev b_MO_leave : ByteArray := prog_11_method_26_code
def y_MO_leave : MethodName := ⟨"EndingsLabModel", "leave", "(I)V"⟩
set_option maxRecDepth 20000 in
theorem c_MO_leave_in : Cond.code y_MO_leave b_MO_leave 3 none ∈ GW := gw_t (List.mem_of_getElem? (i := 634) rfl) rfl
abbrev b_MO_call : ByteArray := prog_11_method_25_code
def y_MO_call : MethodName := ⟨"EndingsLabModel", "call", "(I)V"⟩
set_option maxRecDepth 20000 in
theorem c_MO_call_in : Cond.code y_MO_call b_MO_call 3 none ∈ GW := gw_t (List.mem_of_getElem? (i := 638) rfl) rfl
abbrev b_MO_value : ByteArray := prog_11_method_34_code
def y_MO_value : MethodName := ⟨"EndingsLabModel", "value", "()I"⟩
set_option maxRecDepth 20000 in
theorem c_MO_value_in : Cond.code y_MO_value b_MO_value 1 (some (.int)) ∈ GW := gw_t (List.mem_of_getElem? (i := 642) rfl) rfl
abbrev b_MO_fault : ByteArray := prog_11_method_35_code
def y_MO_fault : MethodName := ⟨"EndingsLabModel", "fault", "(I)I"⟩
set_option maxRecDepth 20000 in
theorem c_MO_fault_in : Cond.code y_MO_fault b_MO_fault 4 (some (.int)) ∈ GW := gw_t (List.mem_of_getElem? (i := 646) rfl) rfl
abbrev b_MO_steps : ByteArray := prog_11_method_36_code
def y_MO_steps : MethodName := ⟨"EndingsLabModel", "steps", "()I"⟩
set_option maxRecDepth 20000 in
theorem c_MO_steps_in : Cond.code y_MO_steps b_MO_steps 1 (some (.int)) ∈ GW := gw_t (List.mem_of_getElem? (i := 650) rfl) rfl
abbrev b_MO_events : ByteArray := prog_11_method_37_code
def y_MO_events : MethodName := ⟨"EndingsLabModel", "events", "()I"⟩
set_option maxRecDepth 20000 in
theorem c_MO_events_in : Cond.code y_MO_events b_MO_events 1 (some (.int)) ∈ GW := gw_t (List.mem_of_getElem? (i := 654) rfl) rfl
abbrev b_MO_event : ByteArray := prog_11_method_38_code
def y_MO_event : MethodName := ⟨"EndingsLabModel", "event", "(I)I"⟩
set_option maxRecDepth 20000 in
theorem c_MO_event_in : Cond.code y_MO_event b_MO_event 2 (some (.int)) ∈ GW := gw_t (List.mem_of_getElem? (i := 658) rfl) rfl
abbrev b_MO_most : ByteArray := prog_11_method_39_code
def y_MO_most : MethodName := ⟨"EndingsLabModel", "most", "()I"⟩
set_option maxRecDepth 20000 in
theorem c_MO_most_in : Cond.code y_MO_most b_MO_most 1 (some (.int)) ∈ GW := gw_t (List.mem_of_getElem? (i := 662) rfl) rfl
theorem in_LA : Cond.initialized "EndingsLabLaw" ∈ GW := gw_t (List.mem_of_getElem? (i := 0) rfl) rfl
theorem in_LB : Cond.initialized "EndingsLab" ∈ GW := gw_t (List.mem_of_getElem? (i := 1) rfl) rfl
theorem in_MA : Cond.initialized "EndingsLab$Machine" ∈ GW := gw_t (List.mem_of_getElem? (i := 2) rfl) rfl
theorem in_FA : Cond.initialized "EndingsLab$Faults" ∈ GW := gw_t (List.mem_of_getElem? (i := 3) rfl) rfl
theorem in_LO : Cond.initialized "EndingsLab$Locks" ∈ GW := gw_t (List.mem_of_getElem? (i := 4) rfl) rfl
theorem in_EV : Cond.initialized "EndingsLab$EventLog" ∈ GW := gw_t (List.mem_of_getElem? (i := 5) rfl) rfl
theorem in_TE : Cond.initialized "EndingsLab$Text" ∈ GW := gw_t (List.mem_of_getElem? (i := 6) rfl) rfl
theorem in_FR : Cond.initialized "EndingsLab$Frame" ∈ GW := gw_t (List.mem_of_getElem? (i := 7) rfl) rfl
theorem in_CH : Cond.initialized "EndingsLab$Checker" ∈ GW := gw_t (List.mem_of_getElem? (i := 8) rfl) rfl
theorem in_MO : Cond.initialized "EndingsLabModel" ∈ GW := gw_t (List.mem_of_getElem? (i := 9) rfl) rfl
theorem in_EN : Cond.initialized "EndingsLab$Ending" ∈ GW := gw_t (List.mem_of_getElem? (i := 11) rfl) rfl
theorem in_JM : Cond.initialized "java/lang/Math" ∈ GW := gw_t (List.mem_of_getElem? (i := 12) rfl) rfl
theorem l_LA_7 : Cond.classLink "EndingsLabLaw" 7 "EndingsLab" ∈ GW := gw_t (List.mem_of_getElem? (i := 13) rfl) rfl
theorem it_LB : Cond.instantiable "EndingsLab" 3 ∈ GW := gw_t (List.mem_of_getElem? (i := 14) rfl) rfl
theorem l_LA_9 : Cond.methodLink "EndingsLabLaw" 9 y_LB_init ∈ GW := gw_t (List.mem_of_getElem? (i := 15) rfl) rfl
theorem im_LB_init : Cond.instanceMethod y_LB_init ∈ GW := gw_t (List.mem_of_getElem? (i := 16) rfl) rfl
theorem l_LB_3 : Cond.methodLink "EndingsLab" 3 objectInit ∈ GW := gw_t (List.mem_of_getElem? (i := 18) rfl) rfl
theorem im_OB_init : Cond.instanceMethod objectInit ∈ GW := gw_t (List.mem_of_getElem? (i := 19) rfl) rfl
theorem l_LB_9 : Cond.classLink "EndingsLab" 9 "EndingsLab$Machine" ∈ GW := gw_t (List.mem_of_getElem? (i := 21) rfl) rfl
theorem it_MA : Cond.instantiable "EndingsLab$Machine" 8 ∈ GW := gw_t (List.mem_of_getElem? (i := 22) rfl) rfl
theorem l_LB_11 : Cond.methodLink "EndingsLab" 11 y_MA_init ∈ GW := gw_t (List.mem_of_getElem? (i := 23) rfl) rfl
theorem im_MA_init : Cond.instanceMethod y_MA_init ∈ GW := gw_t (List.mem_of_getElem? (i := 24) rfl) rfl
theorem l_MA_3 : Cond.methodLink "EndingsLab$Machine" 3 objectInit ∈ GW := gw_t (List.mem_of_getElem? (i := 26) rfl) rfl
theorem l_MA_9 : Cond.classLink "EndingsLab$Machine" 9 "EndingsLab$Text" ∈ GW := gw_t (List.mem_of_getElem? (i := 27) rfl) rfl
theorem l_MA_17 : Cond.classLink "EndingsLab$Machine" 17 "EndingsLab$Frame" ∈ GW := gw_t (List.mem_of_getElem? (i := 29) rfl) rfl
theorem l_MA_23 : Cond.classLink "EndingsLab$Machine" 23 "EndingsLab$Faults" ∈ GW := gw_t (List.mem_of_getElem? (i := 31) rfl) rfl
theorem it_FA : Cond.instantiable "EndingsLab$Faults" 3 ∈ GW := gw_t (List.mem_of_getElem? (i := 32) rfl) rfl
theorem im_FA_init : Cond.instanceMethod y_FA_init ∈ GW := gw_t (List.mem_of_getElem? (i := 34) rfl) rfl
theorem l_FA_3 : Cond.methodLink "EndingsLab$Faults" 3 objectInit ∈ GW := gw_t (List.mem_of_getElem? (i := 36) rfl) rfl
theorem l_FA_9 : Cond.fieldLink "EndingsLab$Faults" 9 "EndingsLab$Faults" "kinds" "[I" ∈ GW := gw_t (List.mem_of_getElem? (i := 37) rfl) rfl
theorem l_FA_15 : Cond.fieldLink "EndingsLab$Faults" 15 "EndingsLab$Faults" "causes" "[I" ∈ GW := gw_t (List.mem_of_getElem? (i := 38) rfl) rfl
theorem l_FA_18 : Cond.fieldLink "EndingsLab$Faults" 18 "EndingsLab$Faults" "made" "I" ∈ GW := gw_t (List.mem_of_getElem? (i := 39) rfl) rfl
theorem ac_int : Cond.arrayClass .int ∈ GW := gw_t (List.mem_of_getElem? (i := 47) rfl) rfl
theorem l_MA_30 : Cond.classLink "EndingsLab$Machine" 30 "EndingsLab$Locks" ∈ GW := gw_t (List.mem_of_getElem? (i := 48) rfl) rfl
theorem it_LO : Cond.instantiable "EndingsLab$Locks" 3 ∈ GW := gw_t (List.mem_of_getElem? (i := 49) rfl) rfl
theorem im_LO_init : Cond.instanceMethod y_LO_init ∈ GW := gw_t (List.mem_of_getElem? (i := 51) rfl) rfl
theorem l_LO_3 : Cond.methodLink "EndingsLab$Locks" 3 objectInit ∈ GW := gw_t (List.mem_of_getElem? (i := 53) rfl) rfl
theorem l_LO_9 : Cond.fieldLink "EndingsLab$Locks" 9 "EndingsLab$Locks" "held" "[I" ∈ GW := gw_t (List.mem_of_getElem? (i := 54) rfl) rfl
theorem l_LO_15 : Cond.fieldLink "EndingsLab$Locks" 15 "EndingsLab$Locks" "total" "I" ∈ GW := gw_t (List.mem_of_getElem? (i := 55) rfl) rfl
theorem l_LO_19 : Cond.fieldLink "EndingsLab$Locks" 19 "EndingsLab$Locks" "greatest" "I" ∈ GW := gw_t (List.mem_of_getElem? (i := 56) rfl) rfl
theorem l_MA_37 : Cond.classLink "EndingsLab$Machine" 37 "EndingsLab$EventLog" ∈ GW := gw_t (List.mem_of_getElem? (i := 65) rfl) rfl
theorem it_EV : Cond.instantiable "EndingsLab$EventLog" 2 ∈ GW := gw_t (List.mem_of_getElem? (i := 66) rfl) rfl
theorem im_EV_init : Cond.instanceMethod y_EV_init ∈ GW := gw_t (List.mem_of_getElem? (i := 68) rfl) rfl
theorem l_EV_3 : Cond.methodLink "EndingsLab$EventLog" 3 objectInit ∈ GW := gw_t (List.mem_of_getElem? (i := 70) rfl) rfl
theorem l_EV_9 : Cond.fieldLink "EndingsLab$EventLog" 9 "EndingsLab$EventLog" "kept" "[I" ∈ GW := gw_t (List.mem_of_getElem? (i := 71) rfl) rfl
theorem l_EV_15 : Cond.fieldLink "EndingsLab$EventLog" 15 "EndingsLab$EventLog" "noted" "I" ∈ GW := gw_t (List.mem_of_getElem? (i := 72) rfl) rfl
theorem it_TE : Cond.instantiable "EndingsLab$Text" 4 ∈ GW := gw_t (List.mem_of_getElem? (i := 79) rfl) rfl
theorem im_TE_init : Cond.instanceMethod y_TE_init ∈ GW := gw_t (List.mem_of_getElem? (i := 81) rfl) rfl
theorem l_TE_3 : Cond.methodLink "EndingsLab$Text" 3 objectInit ∈ GW := gw_t (List.mem_of_getElem? (i := 83) rfl) rfl
theorem l_TE_9 : Cond.fieldLink "EndingsLab$Text" 9 "EndingsLab$Text" "ops" "[I" ∈ GW := gw_t (List.mem_of_getElem? (i := 84) rfl) rfl
theorem l_TE_15 : Cond.fieldLink "EndingsLab$Text" 15 "EndingsLab$Text" "numbers" "[I" ∈ GW := gw_t (List.mem_of_getElem? (i := 87) rfl) rfl
theorem l_TE_18 : Cond.fieldLink "EndingsLab$Text" 18 "EndingsLab$Text" "ends" "[I" ∈ GW := gw_t (List.mem_of_getElem? (i := 90) rfl) rfl
theorem l_TE_21 : Cond.fieldLink "EndingsLab$Text" 21 "EndingsLab$Text" "size" "I" ∈ GW := gw_t (List.mem_of_getElem? (i := 93) rfl) rfl
theorem it_FR : Cond.instantiable "EndingsLab$Frame" 5 ∈ GW := gw_t (List.mem_of_getElem? (i := 106) rfl) rfl
theorem im_FR_init : Cond.instanceMethod y_FR_init ∈ GW := gw_t (List.mem_of_getElem? (i := 108) rfl) rfl
theorem l_FR_3 : Cond.methodLink "EndingsLab$Frame" 3 objectInit ∈ GW := gw_t (List.mem_of_getElem? (i := 110) rfl) rfl
theorem l_FR_9 : Cond.fieldLink "EndingsLab$Frame" 9 "EndingsLab$Frame" "entered" "[I" ∈ GW := gw_t (List.mem_of_getElem? (i := 111) rfl) rfl
theorem l_FR_15 : Cond.fieldLink "EndingsLab$Frame" 15 "EndingsLab$Frame" "procedure" "I" ∈ GW := gw_t (List.mem_of_getElem? (i := 113) rfl) rfl
theorem l_FR_19 : Cond.fieldLink "EndingsLab$Frame" 19 "EndingsLab$Frame" "account" "I" ∈ GW := gw_t (List.mem_of_getElem? (i := 115) rfl) rfl
theorem l_FR_22 : Cond.fieldLink "EndingsLab$Frame" 22 "EndingsLab$Frame" "carried" "I" ∈ GW := gw_t (List.mem_of_getElem? (i := 117) rfl) rfl
theorem l_FR_25 : Cond.fieldLink "EndingsLab$Frame" 25 "EndingsLab$Frame" "caught" "I" ∈ GW := gw_t (List.mem_of_getElem? (i := 119) rfl) rfl
theorem l_MA_11 : Cond.fieldLink "EndingsLab$Machine" 11 "EndingsLab$Machine" "texts" "[LEndingsLab$Text;" ∈ GW := gw_t (List.mem_of_getElem? (i := 132) rfl) rfl
theorem l_MA_19 : Cond.fieldLink "EndingsLab$Machine" 19 "EndingsLab$Machine" "frames" "[LEndingsLab$Frame;" ∈ GW := gw_t (List.mem_of_getElem? (i := 134) rfl) rfl
theorem l_MA_26 : Cond.fieldLink "EndingsLab$Machine" 26 "EndingsLab$Machine" "faults" "LEndingsLab$Faults;" ∈ GW := gw_t (List.mem_of_getElem? (i := 135) rfl) rfl
theorem l_MA_33 : Cond.fieldLink "EndingsLab$Machine" 33 "EndingsLab$Machine" "locks" "LEndingsLab$Locks;" ∈ GW := gw_t (List.mem_of_getElem? (i := 137) rfl) rfl
theorem l_MA_40 : Cond.fieldLink "EndingsLab$Machine" 40 "EndingsLab$Machine" "log" "LEndingsLab$EventLog;" ∈ GW := gw_t (List.mem_of_getElem? (i := 139) rfl) rfl
theorem l_MA_56 : Cond.fieldLink "EndingsLab$Machine" 56 "EndingsLab$Machine" "begun" "I" ∈ GW := gw_t (List.mem_of_getElem? (i := 141) rfl) rfl
theorem l_MA_79 : Cond.fieldLink "EndingsLab$Machine" 79 "EndingsLab$Machine" "cameTo" "I" ∈ GW := gw_t (List.mem_of_getElem? (i := 143) rfl) rfl
theorem l_MA_44 : Cond.fieldLink "EndingsLab$Machine" 44 "EndingsLab$Machine" "endedBy" "I" ∈ GW := gw_t (List.mem_of_getElem? (i := 145) rfl) rfl
theorem l_LB_16 : Cond.classLink "EndingsLab" 16 "EndingsLab$Checker" ∈ GW := gw_t (List.mem_of_getElem? (i := 164) rfl) rfl
theorem it_CH : Cond.instantiable "EndingsLab$Checker" 5 ∈ GW := gw_t (List.mem_of_getElem? (i := 165) rfl) rfl
theorem im_CH_init : Cond.instanceMethod y_CH_init ∈ GW := gw_t (List.mem_of_getElem? (i := 167) rfl) rfl
theorem l_CH_3 : Cond.methodLink "EndingsLab$Checker" 3 objectInit ∈ GW := gw_t (List.mem_of_getElem? (i := 169) rfl) rfl
theorem l_CH_9 : Cond.fieldLink "EndingsLab$Checker" 9 "EndingsLab$Checker" "openers" "[I" ∈ GW := gw_t (List.mem_of_getElem? (i := 170) rfl) rfl
theorem l_CH_15 : Cond.fieldLink "EndingsLab$Checker" 15 "EndingsLab$Checker" "inTimes" "[Z" ∈ GW := gw_t (List.mem_of_getElem? (i := 171) rfl) rfl
theorem l_CH_19 : Cond.fieldLink "EndingsLab$Checker" 19 "EndingsLab$Checker" "inCatch" "[Z" ∈ GW := gw_t (List.mem_of_getElem? (i := 172) rfl) rfl
theorem l_CH_22 : Cond.fieldLink "EndingsLab$Checker" 22 "EndingsLab$Checker" "lacking" "[I" ∈ GW := gw_t (List.mem_of_getElem? (i := 173) rfl) rfl
theorem l_CH_25 : Cond.fieldLink "EndingsLab$Checker" 25 "EndingsLab$Checker" "depth" "I" ∈ GW := gw_t (List.mem_of_getElem? (i := 174) rfl) rfl
theorem ac_boolean : Cond.arrayClass .boolean ∈ GW := gw_t (List.mem_of_getElem? (i := 186) rfl) rfl
theorem l_LB_12 : Cond.fieldLink "EndingsLab" 12 "EndingsLab" "machine" "LEndingsLab$Machine;" ∈ GW := gw_t (List.mem_of_getElem? (i := 187) rfl) rfl
theorem l_LB_19 : Cond.fieldLink "EndingsLab" 19 "EndingsLab" "checker" "LEndingsLab$Checker;" ∈ GW := gw_t (List.mem_of_getElem? (i := 188) rfl) rfl
theorem l_LB_23 : Cond.fieldLink "EndingsLab" 23 "EndingsLab" "wrongPlace" "I" ∈ GW := gw_t (List.mem_of_getElem? (i := 189) rfl) rfl
theorem l_LA_13 : Cond.methodLink "EndingsLabLaw" 13 y_LB_token ∈ GW := gw_t (List.mem_of_getElem? (i := 197) rfl) rfl
theorem im_LB_token : Cond.instanceMethod y_LB_token ∈ GW := gw_t (List.mem_of_getElem? (i := 198) rfl) rfl
theorem se_LB_token : Cond.selects "EndingsLab" y_LB_token y_LB_token ∈ GW := gw_t (List.mem_of_getElem? (i := 199) rfl) rfl
theorem l_LB_27 : Cond.methodLink "EndingsLab" 27 y_LB_isBelow ∈ GW := gw_t (List.mem_of_getElem? (i := 201) rfl) rfl
theorem st_LB_isBelow : Cond.static y_LB_isBelow ∈ GW := gw_t (List.mem_of_getElem? (i := 202) rfl) rfl
theorem l_LB_31 : Cond.methodLink "EndingsLab" 31 y_LB_isToken ∈ GW := gw_t (List.mem_of_getElem? (i := 204) rfl) rfl
theorem st_LB_isToken : Cond.static y_LB_isToken ∈ GW := gw_t (List.mem_of_getElem? (i := 205) rfl) rfl
theorem l_LB_38 : Cond.methodLink "EndingsLab" 38 y_TE_append ∈ GW := gw_t (List.mem_of_getElem? (i := 207) rfl) rfl
theorem im_TE_append : Cond.instanceMethod y_TE_append ∈ GW := gw_t (List.mem_of_getElem? (i := 208) rfl) rfl
theorem se_TE_append : Cond.selects "EndingsLab$Text" y_TE_append y_TE_append ∈ GW := gw_t (List.mem_of_getElem? (i := 209) rfl) rfl
theorem l_LA_18 : Cond.methodLink "EndingsLabLaw" 18 y_LB_wipe ∈ GW := gw_t (List.mem_of_getElem? (i := 211) rfl) rfl
theorem im_LB_wipe : Cond.instanceMethod y_LB_wipe ∈ GW := gw_t (List.mem_of_getElem? (i := 212) rfl) rfl
theorem se_LB_wipe : Cond.selects "EndingsLab" y_LB_wipe y_LB_wipe ∈ GW := gw_t (List.mem_of_getElem? (i := 213) rfl) rfl
theorem l_LB_46 : Cond.methodLink "EndingsLab" 46 y_TE_clear ∈ GW := gw_t (List.mem_of_getElem? (i := 215) rfl) rfl
theorem im_TE_clear : Cond.instanceMethod y_TE_clear ∈ GW := gw_t (List.mem_of_getElem? (i := 216) rfl) rfl
theorem se_TE_clear : Cond.selects "EndingsLab$Text" y_TE_clear y_TE_clear ∈ GW := gw_t (List.mem_of_getElem? (i := 217) rfl) rfl
theorem l_LA_23 : Cond.methodLink "EndingsLabLaw" 23 y_LB_check ∈ GW := gw_t (List.mem_of_getElem? (i := 219) rfl) rfl
theorem im_LB_check : Cond.instanceMethod y_LB_check ∈ GW := gw_t (List.mem_of_getElem? (i := 220) rfl) rfl
theorem se_LB_check : Cond.selects "EndingsLab" y_LB_check y_LB_check ∈ GW := gw_t (List.mem_of_getElem? (i := 221) rfl) rfl
theorem l_LB_50 : Cond.methodLink "EndingsLab" 50 y_LB_judge ∈ GW := gw_t (List.mem_of_getElem? (i := 223) rfl) rfl
theorem im_LB_judge : Cond.instanceMethod y_LB_judge ∈ GW := gw_t (List.mem_of_getElem? (i := 225) rfl) rfl
theorem l_LB_103 : Cond.methodLink "EndingsLab" 103 y_CH_firstWrong ∈ GW := gw_t (List.mem_of_getElem? (i := 227) rfl) rfl
theorem im_CH_firstWrong : Cond.instanceMethod y_CH_firstWrong ∈ GW := gw_t (List.mem_of_getElem? (i := 228) rfl) rfl
theorem se_CH_firstWrong : Cond.selects "EndingsLab$Checker" y_CH_firstWrong y_CH_firstWrong ∈ GW := gw_t (List.mem_of_getElem? (i := 229) rfl) rfl
theorem l_CH_29 : Cond.methodLink "EndingsLab$Checker" 29 y_CH_open ∈ GW := gw_t (List.mem_of_getElem? (i := 231) rfl) rfl
theorem im_CH_open : Cond.instanceMethod y_CH_open ∈ GW := gw_t (List.mem_of_getElem? (i := 233) rfl) rfl
theorem l_CH_41 : Cond.methodLink "EndingsLab$Checker" 41 y_CH_mayStand ∈ GW := gw_t (List.mem_of_getElem? (i := 235) rfl) rfl
theorem im_CH_mayStand : Cond.instanceMethod y_CH_mayStand ∈ GW := gw_t (List.mem_of_getElem? (i := 237) rfl) rfl
theorem l_CH_45 : Cond.methodLink "EndingsLab$Checker" 45 y_CH_take ∈ GW := gw_t (List.mem_of_getElem? (i := 239) rfl) rfl
theorem im_CH_take : Cond.instanceMethod y_CH_take ∈ GW := gw_t (List.mem_of_getElem? (i := 241) rfl) rfl
theorem l_CH_52 : Cond.methodLink "EndingsLab$Checker" 52 y_CH_close ∈ GW := gw_t (List.mem_of_getElem? (i := 243) rfl) rfl
theorem im_CH_close : Cond.instanceMethod y_CH_close ∈ GW := gw_t (List.mem_of_getElem? (i := 245) rfl) rfl
theorem l_LA_27 : Cond.methodLink "EndingsLabLaw" 27 y_LB_place ∈ GW := gw_t (List.mem_of_getElem? (i := 247) rfl) rfl
theorem im_LB_place : Cond.instanceMethod y_LB_place ∈ GW := gw_t (List.mem_of_getElem? (i := 248) rfl) rfl
theorem se_LB_place : Cond.selects "EndingsLab" y_LB_place y_LB_place ∈ GW := gw_t (List.mem_of_getElem? (i := 249) rfl) rfl
theorem l_LA_32 : Cond.methodLink "EndingsLabLaw" 32 y_LB_run ∈ GW := gw_t (List.mem_of_getElem? (i := 251) rfl) rfl
theorem im_LB_run : Cond.instanceMethod y_LB_run ∈ GW := gw_t (List.mem_of_getElem? (i := 252) rfl) rfl
theorem se_LB_run : Cond.selects "EndingsLab" y_LB_run y_LB_run ∈ GW := gw_t (List.mem_of_getElem? (i := 253) rfl) rfl
theorem l_LB_54 : Cond.methodLink "EndingsLab" 54 y_LB_judgeAll ∈ GW := gw_t (List.mem_of_getElem? (i := 255) rfl) rfl
theorem im_LB_judgeAll : Cond.instanceMethod y_LB_judgeAll ∈ GW := gw_t (List.mem_of_getElem? (i := 257) rfl) rfl
theorem l_LB_57 : Cond.methodLink "EndingsLab" 57 y_MA_perform ∈ GW := gw_t (List.mem_of_getElem? (i := 259) rfl) rfl
theorem im_MA_perform : Cond.instanceMethod y_MA_perform ∈ GW := gw_t (List.mem_of_getElem? (i := 260) rfl) rfl
theorem se_MA_perform : Cond.selects "EndingsLab$Machine" y_MA_perform y_MA_perform ∈ GW := gw_t (List.mem_of_getElem? (i := 261) rfl) rfl
theorem l_MA_50 : Cond.methodLink "EndingsLab$Machine" 50 y_FA_forget ∈ GW := gw_t (List.mem_of_getElem? (i := 263) rfl) rfl
theorem im_FA_forget : Cond.instanceMethod y_FA_forget ∈ GW := gw_t (List.mem_of_getElem? (i := 264) rfl) rfl
theorem se_FA_forget : Cond.selects "EndingsLab$Faults" y_FA_forget y_FA_forget ∈ GW := gw_t (List.mem_of_getElem? (i := 265) rfl) rfl
theorem l_MA_53 : Cond.methodLink "EndingsLab$Machine" 53 y_LO_free ∈ GW := gw_t (List.mem_of_getElem? (i := 267) rfl) rfl
theorem im_LO_free : Cond.instanceMethod y_LO_free ∈ GW := gw_t (List.mem_of_getElem? (i := 268) rfl) rfl
theorem se_LO_free : Cond.selects "EndingsLab$Locks" y_LO_free y_LO_free ∈ GW := gw_t (List.mem_of_getElem? (i := 269) rfl) rfl
theorem l_MA_59 : Cond.methodLink "EndingsLab$Machine" 59 y_FR_begin ∈ GW := gw_t (List.mem_of_getElem? (i := 271) rfl) rfl
theorem im_FR_begin : Cond.instanceMethod y_FR_begin ∈ GW := gw_t (List.mem_of_getElem? (i := 272) rfl) rfl
theorem se_FR_begin : Cond.selects "EndingsLab$Frame" y_FR_begin y_FR_begin ∈ GW := gw_t (List.mem_of_getElem? (i := 273) rfl) rfl
theorem l_MA_63 : Cond.methodLink "EndingsLab$Machine" 63 y_MA_doProcedure ∈ GW := gw_t (List.mem_of_getElem? (i := 275) rfl) rfl
theorem im_MA_doProcedure : Cond.instanceMethod y_MA_doProcedure ∈ GW := gw_t (List.mem_of_getElem? (i := 277) rfl) rfl
theorem l_MA_82 : Cond.methodLink "EndingsLab$Machine" 82 y_MA_doBlock ∈ GW := gw_t (List.mem_of_getElem? (i := 279) rfl) rfl
theorem im_MA_doBlock : Cond.instanceMethod y_MA_doBlock ∈ GW := gw_t (List.mem_of_getElem? (i := 281) rfl) rfl
theorem l_MA_113 : Cond.methodLink "EndingsLab$Machine" 113 y_MA_textOf ∈ GW := gw_t (List.mem_of_getElem? (i := 283) rfl) rfl
theorem im_MA_textOf : Cond.instanceMethod y_MA_textOf ∈ GW := gw_t (List.mem_of_getElem? (i := 285) rfl) rfl
theorem l_MA_123 : Cond.methodLink "EndingsLab$Machine" 123 y_MA_doItem ∈ GW := gw_t (List.mem_of_getElem? (i := 287) rfl) rfl
theorem im_MA_doItem : Cond.instanceMethod y_MA_doItem ∈ GW := gw_t (List.mem_of_getElem? (i := 289) rfl) rfl
theorem l_MA_67 : Cond.fieldLink "EndingsLab$Machine" 67 "EndingsLab$Ending" "TOO_LATE" "LEndingsLab$Ending;" ∈ GW := gw_t (List.mem_of_getElem? (i := 291) rfl) rfl
theorem l_MA_136 : Cond.methodLink "EndingsLab$Machine" 136 y_EV_note ∈ GW := gw_t (List.mem_of_getElem? (i := 293) rfl) rfl
theorem im_EV_note : Cond.instanceMethod y_EV_note ∈ GW := gw_t (List.mem_of_getElem? (i := 294) rfl) rfl
theorem se_EV_note : Cond.selects "EndingsLab$EventLog" y_EV_note y_EV_note ∈ GW := gw_t (List.mem_of_getElem? (i := 295) rfl) rfl
theorem l_EV_19 : Cond.methodLink "EndingsLab$EventLog" 19 y_JM_floorMod ∈ GW := gw_t (List.mem_of_getElem? (i := 297) rfl) rfl
theorem st_JM_floorMod : Cond.static y_JM_floorMod ∈ GW := gw_t (List.mem_of_getElem? (i := 298) rfl) rfl
set_option maxRecDepth 20000 in
theorem l_MA_86 : Cond.fieldLink "EndingsLab$Machine" 86 "EndingsLab$Ending" "ON" "LEndingsLab$Ending;" ∈ GW := gw_t (List.mem_of_getElem? (i := 300) rfl) rfl
set_option maxRecDepth 20000 in
theorem l_MA_140 : Cond.methodLink "EndingsLab$Machine" 140 y_MA_doDivide ∈ GW := gw_t (List.mem_of_getElem? (i := 302) rfl) rfl
set_option maxRecDepth 20000 in
theorem im_MA_doDivide : Cond.instanceMethod y_MA_doDivide ∈ GW := gw_t (List.mem_of_getElem? (i := 304) rfl) rfl
set_option maxRecDepth 20000 in
theorem l_MA_99 : Cond.methodLink "EndingsLab$Machine" 99 y_MA_raise ∈ GW := gw_t (List.mem_of_getElem? (i := 306) rfl) rfl
set_option maxRecDepth 20000 in
theorem im_MA_raise : Cond.instanceMethod y_MA_raise ∈ GW := gw_t (List.mem_of_getElem? (i := 308) rfl) rfl
set_option maxRecDepth 20000 in
theorem l_MA_176 : Cond.methodLink "EndingsLab$Machine" 176 y_FA_make ∈ GW := gw_t (List.mem_of_getElem? (i := 310) rfl) rfl
set_option maxRecDepth 20000 in
theorem im_FA_make : Cond.instanceMethod y_FA_make ∈ GW := gw_t (List.mem_of_getElem? (i := 311) rfl) rfl
set_option maxRecDepth 20000 in
theorem se_FA_make : Cond.selects "EndingsLab$Faults" y_FA_make y_FA_make ∈ GW := gw_t (List.mem_of_getElem? (i := 312) rfl) rfl
set_option maxRecDepth 20000 in
theorem l_MA_73 : Cond.fieldLink "EndingsLab$Machine" 73 "EndingsLab$Ending" "FAULT" "LEndingsLab$Ending;" ∈ GW := gw_t (List.mem_of_getElem? (i := 314) rfl) rfl
set_option maxRecDepth 20000 in
theorem l_MA_144 : Cond.methodLink "EndingsLab$Machine" 144 y_MA_doTimes ∈ GW := gw_t (List.mem_of_getElem? (i := 316) rfl) rfl
set_option maxRecDepth 20000 in
theorem im_MA_doTimes : Cond.instanceMethod y_MA_doTimes ∈ GW := gw_t (List.mem_of_getElem? (i := 318) rfl) rfl
set_option maxRecDepth 20000 in
theorem l_MA_148 : Cond.fieldLink "EndingsLab$Machine" 148 "EndingsLab$Ending" "BROKEN" "LEndingsLab$Ending;" ∈ GW := gw_t (List.mem_of_getElem? (i := 320) rfl) rfl
set_option maxRecDepth 20000 in
theorem l_MA_151 : Cond.fieldLink "EndingsLab$Machine" 151 "EndingsLab$Ending" "NEXT_TIME" "LEndingsLab$Ending;" ∈ GW := gw_t (List.mem_of_getElem? (i := 322) rfl) rfl
set_option maxRecDepth 20000 in
theorem l_MA_92 : Cond.fieldLink "EndingsLab$Machine" 92 "EndingsLab$Ending" "VALUE" "LEndingsLab$Ending;" ∈ GW := gw_t (List.mem_of_getElem? (i := 324) rfl) rfl
set_option maxRecDepth 20000 in
theorem l_MA_157 : Cond.methodLink "EndingsLab$Machine" 157 y_MA_doTry ∈ GW := gw_t (List.mem_of_getElem? (i := 326) rfl) rfl
set_option maxRecDepth 20000 in
theorem im_MA_doTry : Cond.instanceMethod y_MA_doTry ∈ GW := gw_t (List.mem_of_getElem? (i := 328) rfl) rfl
set_option maxRecDepth 20000 in
theorem l_MA_180 : Cond.methodLink "EndingsLab$Machine" 180 y_TE_catchesOf ∈ GW := gw_t (List.mem_of_getElem? (i := 330) rfl) rfl
set_option maxRecDepth 20000 in
theorem im_TE_catchesOf : Cond.instanceMethod y_TE_catchesOf ∈ GW := gw_t (List.mem_of_getElem? (i := 331) rfl) rfl
set_option maxRecDepth 20000 in
theorem se_TE_catchesOf : Cond.selects "EndingsLab$Text" y_TE_catchesOf y_TE_catchesOf ∈ GW := gw_t (List.mem_of_getElem? (i := 332) rfl) rfl
set_option maxRecDepth 20000 in
theorem l_MA_183 : Cond.methodLink "EndingsLab$Machine" 183 y_MA_catches ∈ GW := gw_t (List.mem_of_getElem? (i := 334) rfl) rfl
set_option maxRecDepth 20000 in
theorem im_MA_catches : Cond.instanceMethod y_MA_catches ∈ GW := gw_t (List.mem_of_getElem? (i := 336) rfl) rfl
set_option maxRecDepth 20000 in
theorem l_MA_197 : Cond.methodLink "EndingsLab$Machine" 197 y_FA_kindOf ∈ GW := gw_t (List.mem_of_getElem? (i := 338) rfl) rfl
set_option maxRecDepth 20000 in
theorem im_FA_kindOf : Cond.instanceMethod y_FA_kindOf ∈ GW := gw_t (List.mem_of_getElem? (i := 339) rfl) rfl
set_option maxRecDepth 20000 in
theorem se_FA_kindOf : Cond.selects "EndingsLab$Faults" y_FA_kindOf y_FA_kindOf ∈ GW := gw_t (List.mem_of_getElem? (i := 340) rfl) rfl
set_option maxRecDepth 20000 in
theorem st_LB_isOfKind : Cond.static y_LB_isOfKind ∈ GW := gw_t (List.mem_of_getElem? (i := 344) rfl) rfl
set_option maxRecDepth 20000 in
theorem l_MA_187 : Cond.methodLink "EndingsLab$Machine" 187 y_MA_doCatch ∈ GW := gw_t (List.mem_of_getElem? (i := 346) rfl) rfl
set_option maxRecDepth 20000 in
theorem im_MA_doCatch : Cond.instanceMethod y_MA_doCatch ∈ GW := gw_t (List.mem_of_getElem? (i := 348) rfl) rfl
set_option maxRecDepth 20000 in
theorem l_MA_190 : Cond.methodLink "EndingsLab$Machine" 190 y_TE_hasLast ∈ GW := gw_t (List.mem_of_getElem? (i := 350) rfl) rfl
set_option maxRecDepth 20000 in
theorem im_TE_hasLast : Cond.instanceMethod y_TE_hasLast ∈ GW := gw_t (List.mem_of_getElem? (i := 351) rfl) rfl
set_option maxRecDepth 20000 in
theorem se_TE_hasLast : Cond.selects "EndingsLab$Text" y_TE_hasLast y_TE_hasLast ∈ GW := gw_t (List.mem_of_getElem? (i := 352) rfl) rfl
set_option maxRecDepth 20000 in
theorem l_MA_193 : Cond.methodLink "EndingsLab$Machine" 193 y_MA_doLast ∈ GW := gw_t (List.mem_of_getElem? (i := 354) rfl) rfl
set_option maxRecDepth 20000 in
theorem im_MA_doLast : Cond.instanceMethod y_MA_doLast ∈ GW := gw_t (List.mem_of_getElem? (i := 356) rfl) rfl
set_option maxRecDepth 20000 in
theorem l_MA_160 : Cond.methodLink "EndingsLab$Machine" 160 y_MA_doLock ∈ GW := gw_t (List.mem_of_getElem? (i := 358) rfl) rfl
set_option maxRecDepth 20000 in
theorem im_MA_doLock : Cond.instanceMethod y_MA_doLock ∈ GW := gw_t (List.mem_of_getElem? (i := 360) rfl) rfl
set_option maxRecDepth 20000 in
theorem l_MA_203 : Cond.methodLink "EndingsLab$Machine" 203 y_LO_hold ∈ GW := gw_t (List.mem_of_getElem? (i := 362) rfl) rfl
set_option maxRecDepth 20000 in
theorem im_LO_hold : Cond.instanceMethod y_LO_hold ∈ GW := gw_t (List.mem_of_getElem? (i := 363) rfl) rfl
set_option maxRecDepth 20000 in
theorem se_LO_hold : Cond.selects "EndingsLab$Locks" y_LO_hold y_LO_hold ∈ GW := gw_t (List.mem_of_getElem? (i := 364) rfl) rfl
set_option maxRecDepth 20000 in
theorem l_LO_22 : Cond.methodLink "EndingsLab$Locks" 22 y_JM_max ∈ GW := gw_t (List.mem_of_getElem? (i := 366) rfl) rfl
set_option maxRecDepth 20000 in
theorem st_JM_max : Cond.static y_JM_max ∈ GW := gw_t (List.mem_of_getElem? (i := 367) rfl) rfl
set_option maxRecDepth 20000 in
theorem l_MA_107 : Cond.methodLink "EndingsLab$Machine" 107 y_LO_release ∈ GW := gw_t (List.mem_of_getElem? (i := 369) rfl) rfl
set_option maxRecDepth 20000 in
theorem im_LO_release : Cond.instanceMethod y_LO_release ∈ GW := gw_t (List.mem_of_getElem? (i := 370) rfl) rfl
set_option maxRecDepth 20000 in
theorem se_LO_release : Cond.selects "EndingsLab$Locks" y_LO_release y_LO_release ∈ GW := gw_t (List.mem_of_getElem? (i := 371) rfl) rfl
set_option maxRecDepth 20000 in
theorem l_MA_163 : Cond.methodLink "EndingsLab$Machine" 163 y_MA_doEnter ∈ GW := gw_t (List.mem_of_getElem? (i := 373) rfl) rfl
set_option maxRecDepth 20000 in
theorem im_MA_doEnter : Cond.instanceMethod y_MA_doEnter ∈ GW := gw_t (List.mem_of_getElem? (i := 375) rfl) rfl
set_option maxRecDepth 20000 in
theorem l_MA_166 : Cond.methodLink "EndingsLab$Machine" 166 y_MA_doLeave ∈ GW := gw_t (List.mem_of_getElem? (i := 377) rfl) rfl
set_option maxRecDepth 20000 in
theorem im_MA_doLeave : Cond.instanceMethod y_MA_doLeave ∈ GW := gw_t (List.mem_of_getElem? (i := 379) rfl) rfl
set_option maxRecDepth 20000 in
theorem l_MA_169 : Cond.methodLink "EndingsLab$Machine" 169 y_MA_doCall ∈ GW := gw_t (List.mem_of_getElem? (i := 381) rfl) rfl
set_option maxRecDepth 20000 in
theorem im_MA_doCall : Cond.instanceMethod y_MA_doCall ∈ GW := gw_t (List.mem_of_getElem? (i := 383) rfl) rfl
set_option maxRecDepth 20000 in
theorem l_MA_172 : Cond.methodLink "EndingsLab$Machine" 172 y_LO_isHeld ∈ GW := gw_t (List.mem_of_getElem? (i := 385) rfl) rfl
set_option maxRecDepth 20000 in
theorem im_LO_isHeld : Cond.instanceMethod y_LO_isHeld ∈ GW := gw_t (List.mem_of_getElem? (i := 386) rfl) rfl
set_option maxRecDepth 20000 in
theorem se_LO_isHeld : Cond.selects "EndingsLab$Locks" y_LO_isHeld y_LO_isHeld ∈ GW := gw_t (List.mem_of_getElem? (i := 387) rfl) rfl
set_option maxRecDepth 20000 in
theorem l_MA_126 : Cond.methodLink "EndingsLab$Machine" 126 y_TE_behind ∈ GW := gw_t (List.mem_of_getElem? (i := 389) rfl) rfl
set_option maxRecDepth 20000 in
theorem im_TE_behind : Cond.instanceMethod y_TE_behind ∈ GW := gw_t (List.mem_of_getElem? (i := 390) rfl) rfl
set_option maxRecDepth 20000 in
theorem se_TE_behind : Cond.selects "EndingsLab$Text" y_TE_behind y_TE_behind ∈ GW := gw_t (List.mem_of_getElem? (i := 391) rfl) rfl
set_option maxRecDepth 20000 in
theorem l_TE_25 : Cond.methodLink "EndingsLab$Text" 25 y_TE_catchesOf ∈ GW := gw_t (List.mem_of_getElem? (i := 393) rfl) rfl
set_option maxRecDepth 20000 in
theorem l_TE_29 : Cond.methodLink "EndingsLab$Text" 29 y_TE_hasLast ∈ GW := gw_t (List.mem_of_getElem? (i := 394) rfl) rfl
set_option maxRecDepth 20000 in
theorem l_MA_95 : Cond.methodLink "EndingsLab$Machine" 95 y_MA_releaseEntered ∈ GW := gw_t (List.mem_of_getElem? (i := 395) rfl) rfl
set_option maxRecDepth 20000 in
theorem im_MA_releaseEntered : Cond.instanceMethod y_MA_releaseEntered ∈ GW := gw_t (List.mem_of_getElem? (i := 397) rfl) rfl
set_option maxRecDepth 20000 in
theorem l_LA_37 : Cond.methodLink "EndingsLabLaw" 37 y_LB_value ∈ GW := gw_t (List.mem_of_getElem? (i := 399) rfl) rfl
set_option maxRecDepth 20000 in
theorem im_LB_value : Cond.instanceMethod y_LB_value ∈ GW := gw_t (List.mem_of_getElem? (i := 400) rfl) rfl
set_option maxRecDepth 20000 in
theorem se_LB_value : Cond.selects "EndingsLab" y_LB_value y_LB_value ∈ GW := gw_t (List.mem_of_getElem? (i := 401) rfl) rfl
set_option maxRecDepth 20000 in
theorem l_LA_41 : Cond.methodLink "EndingsLabLaw" 41 y_LB_fault ∈ GW := gw_t (List.mem_of_getElem? (i := 403) rfl) rfl
set_option maxRecDepth 20000 in
theorem im_LB_fault : Cond.instanceMethod y_LB_fault ∈ GW := gw_t (List.mem_of_getElem? (i := 404) rfl) rfl
set_option maxRecDepth 20000 in
theorem se_LB_fault : Cond.selects "EndingsLab" y_LB_fault y_LB_fault ∈ GW := gw_t (List.mem_of_getElem? (i := 405) rfl) rfl
set_option maxRecDepth 20000 in
theorem l_LB_71 : Cond.methodLink "EndingsLab" 71 y_FA_causeOf ∈ GW := gw_t (List.mem_of_getElem? (i := 407) rfl) rfl
set_option maxRecDepth 20000 in
theorem im_FA_causeOf : Cond.instanceMethod y_FA_causeOf ∈ GW := gw_t (List.mem_of_getElem? (i := 408) rfl) rfl
set_option maxRecDepth 20000 in
theorem se_FA_causeOf : Cond.selects "EndingsLab$Faults" y_FA_causeOf y_FA_causeOf ∈ GW := gw_t (List.mem_of_getElem? (i := 409) rfl) rfl
set_option maxRecDepth 20000 in
theorem l_LB_76 : Cond.methodLink "EndingsLab" 76 y_FA_kindOf ∈ GW := gw_t (List.mem_of_getElem? (i := 411) rfl) rfl
set_option maxRecDepth 20000 in
theorem l_LA_45 : Cond.methodLink "EndingsLabLaw" 45 y_LB_steps ∈ GW := gw_t (List.mem_of_getElem? (i := 412) rfl) rfl
set_option maxRecDepth 20000 in
theorem im_LB_steps : Cond.instanceMethod y_LB_steps ∈ GW := gw_t (List.mem_of_getElem? (i := 413) rfl) rfl
set_option maxRecDepth 20000 in
theorem se_LB_steps : Cond.selects "EndingsLab" y_LB_steps y_LB_steps ∈ GW := gw_t (List.mem_of_getElem? (i := 414) rfl) rfl
set_option maxRecDepth 20000 in
theorem l_LA_49 : Cond.methodLink "EndingsLabLaw" 49 y_LB_events ∈ GW := gw_t (List.mem_of_getElem? (i := 416) rfl) rfl
set_option maxRecDepth 20000 in
theorem im_LB_events : Cond.instanceMethod y_LB_events ∈ GW := gw_t (List.mem_of_getElem? (i := 417) rfl) rfl
set_option maxRecDepth 20000 in
theorem se_LB_events : Cond.selects "EndingsLab" y_LB_events y_LB_events ∈ GW := gw_t (List.mem_of_getElem? (i := 418) rfl) rfl
set_option maxRecDepth 20000 in
theorem l_LA_53 : Cond.methodLink "EndingsLabLaw" 53 y_LB_event ∈ GW := gw_t (List.mem_of_getElem? (i := 420) rfl) rfl
set_option maxRecDepth 20000 in
theorem im_LB_event : Cond.instanceMethod y_LB_event ∈ GW := gw_t (List.mem_of_getElem? (i := 421) rfl) rfl
set_option maxRecDepth 20000 in
theorem se_LB_event : Cond.selects "EndingsLab" y_LB_event y_LB_event ∈ GW := gw_t (List.mem_of_getElem? (i := 422) rfl) rfl
set_option maxRecDepth 20000 in
theorem l_LB_91 : Cond.methodLink "EndingsLab" 91 y_EV_fromLast ∈ GW := gw_t (List.mem_of_getElem? (i := 424) rfl) rfl
set_option maxRecDepth 20000 in
theorem im_EV_fromLast : Cond.instanceMethod y_EV_fromLast ∈ GW := gw_t (List.mem_of_getElem? (i := 425) rfl) rfl
set_option maxRecDepth 20000 in
theorem se_EV_fromLast : Cond.selects "EndingsLab$EventLog" y_EV_fromLast y_EV_fromLast ∈ GW := gw_t (List.mem_of_getElem? (i := 426) rfl) rfl
set_option maxRecDepth 20000 in
theorem l_LA_57 : Cond.methodLink "EndingsLabLaw" 57 y_LB_most ∈ GW := gw_t (List.mem_of_getElem? (i := 429) rfl) rfl
set_option maxRecDepth 20000 in
theorem im_LB_most : Cond.instanceMethod y_LB_most ∈ GW := gw_t (List.mem_of_getElem? (i := 430) rfl) rfl
set_option maxRecDepth 20000 in
theorem se_LB_most : Cond.selects "EndingsLab" y_LB_most y_LB_most ∈ GW := gw_t (List.mem_of_getElem? (i := 431) rfl) rfl
set_option maxRecDepth 20000 in
theorem l_LA_10 : Cond.classLink "EndingsLabLaw" 10 "EndingsLabModel" ∈ GW := gw_t (List.mem_of_getElem? (i := 433) rfl) rfl
set_option maxRecDepth 20000 in
theorem it_MO : Cond.instantiable "EndingsLabModel" 25 ∈ GW := gw_t (List.mem_of_getElem? (i := 434) rfl) rfl
set_option maxRecDepth 20000 in
theorem l_LA_12 : Cond.methodLink "EndingsLabLaw" 12 y_MO_init ∈ GW := gw_t (List.mem_of_getElem? (i := 435) rfl) rfl
set_option maxRecDepth 20000 in
theorem im_MO_init : Cond.instanceMethod y_MO_init ∈ GW := gw_t (List.mem_of_getElem? (i := 436) rfl) rfl
set_option maxRecDepth 20000 in
theorem l_MO_1 : Cond.methodLink "EndingsLabModel" 1 objectInit ∈ GW := gw_t (List.mem_of_getElem? (i := 438) rfl) rfl
set_option maxRecDepth 20000 in
theorem l_MO_7 : Cond.fieldLink "EndingsLabModel" 7 "EndingsLabModel" "op" "[I" ∈ GW := gw_t (List.mem_of_getElem? (i := 439) rfl) rfl
set_option maxRecDepth 20000 in
theorem l_MO_13 : Cond.fieldLink "EndingsLabModel" 13 "EndingsLabModel" "arg" "[I" ∈ GW := gw_t (List.mem_of_getElem? (i := 440) rfl) rfl
set_option maxRecDepth 20000 in
theorem l_MO_16 : Cond.fieldLink "EndingsLabModel" 16 "EndingsLabModel" "size" "[I" ∈ GW := gw_t (List.mem_of_getElem? (i := 441) rfl) rfl
set_option maxRecDepth 20000 in
theorem l_MO_19 : Cond.fieldLink "EndingsLabModel" 19 "EndingsLabModel" "place" "I" ∈ GW := gw_t (List.mem_of_getElem? (i := 442) rfl) rfl
set_option maxRecDepth 20000 in
theorem l_MO_23 : Cond.fieldLink "EndingsLabModel" 23 "EndingsLabModel" "kind" "[I" ∈ GW := gw_t (List.mem_of_getElem? (i := 443) rfl) rfl
set_option maxRecDepth 20000 in
theorem l_MO_26 : Cond.fieldLink "EndingsLabModel" 26 "EndingsLabModel" "at" "[I" ∈ GW := gw_t (List.mem_of_getElem? (i := 444) rfl) rfl
set_option maxRecDepth 20000 in
theorem l_MO_29 : Cond.fieldLink "EndingsLabModel" 29 "EndingsLabModel" "data" "[I" ∈ GW := gw_t (List.mem_of_getElem? (i := 445) rfl) rfl
set_option maxRecDepth 20000 in
theorem l_MO_32 : Cond.fieldLink "EndingsLabModel" 32 "EndingsLabModel" "goes" "[I" ∈ GW := gw_t (List.mem_of_getElem? (i := 446) rfl) rfl
set_option maxRecDepth 20000 in
theorem l_MO_58 : Cond.fieldLink "EndingsLabModel" 58 "EndingsLabModel" "depth" "I" ∈ GW := gw_t (List.mem_of_getElem? (i := 447) rfl) rfl
set_option maxRecDepth 20000 in
theorem l_MO_86 : Cond.fieldLink "EndingsLabModel" 86 "EndingsLabModel" "next" "I" ∈ GW := gw_t (List.mem_of_getElem? (i := 448) rfl) rfl
set_option maxRecDepth 20000 in
theorem l_MO_121 : Cond.fieldLink "EndingsLabModel" 121 "EndingsLabModel" "account" "I" ∈ GW := gw_t (List.mem_of_getElem? (i := 449) rfl) rfl
set_option maxRecDepth 20000 in
theorem l_MO_92 : Cond.fieldLink "EndingsLabModel" 92 "EndingsLabModel" "ending" "I" ∈ GW := gw_t (List.mem_of_getElem? (i := 450) rfl) rfl
set_option maxRecDepth 20000 in
theorem l_MO_95 : Cond.fieldLink "EndingsLabModel" 95 "EndingsLabModel" "ended" "I" ∈ GW := gw_t (List.mem_of_getElem? (i := 451) rfl) rfl
set_option maxRecDepth 20000 in
theorem l_MO_111 : Cond.fieldLink "EndingsLabModel" 111 "EndingsLabModel" "frame" "I" ∈ GW := gw_t (List.mem_of_getElem? (i := 452) rfl) rfl
set_option maxRecDepth 20000 in
theorem l_MO_35 : Cond.fieldLink "EndingsLabModel" 35 "EndingsLabModel" "entered" "[I" ∈ GW := gw_t (List.mem_of_getElem? (i := 453) rfl) rfl
set_option maxRecDepth 20000 in
theorem l_MO_38 : Cond.fieldLink "EndingsLabModel" 38 "EndingsLabModel" "held" "[I" ∈ GW := gw_t (List.mem_of_getElem? (i := 454) rfl) rfl
set_option maxRecDepth 20000 in
theorem l_MO_41 : Cond.fieldLink "EndingsLabModel" 41 "EndingsLabModel" "faultKind" "[I" ∈ GW := gw_t (List.mem_of_getElem? (i := 455) rfl) rfl
set_option maxRecDepth 20000 in
theorem l_MO_44 : Cond.fieldLink "EndingsLabModel" 44 "EndingsLabModel" "faultCause" "[I" ∈ GW := gw_t (List.mem_of_getElem? (i := 456) rfl) rfl
set_option maxRecDepth 20000 in
theorem l_MO_89 : Cond.fieldLink "EndingsLabModel" 89 "EndingsLabModel" "faults" "I" ∈ GW := gw_t (List.mem_of_getElem? (i := 457) rfl) rfl
set_option maxRecDepth 20000 in
theorem l_MO_114 : Cond.fieldLink "EndingsLabModel" 114 "EndingsLabModel" "steps" "I" ∈ GW := gw_t (List.mem_of_getElem? (i := 458) rfl) rfl
set_option maxRecDepth 20000 in
theorem l_MO_104 : Cond.fieldLink "EndingsLabModel" 104 "EndingsLabModel" "most" "I" ∈ GW := gw_t (List.mem_of_getElem? (i := 459) rfl) rfl
set_option maxRecDepth 20000 in
theorem l_MO_173 : Cond.fieldLink "EndingsLabModel" 173 "EndingsLabModel" "value" "I" ∈ GW := gw_t (List.mem_of_getElem? (i := 460) rfl) rfl
set_option maxRecDepth 20000 in
theorem l_MO_164 : Cond.fieldLink "EndingsLabModel" 164 "EndingsLabModel" "raised" "I" ∈ GW := gw_t (List.mem_of_getElem? (i := 461) rfl) rfl
set_option maxRecDepth 20000 in
theorem l_MO_47 : Cond.fieldLink "EndingsLabModel" 47 "EndingsLabModel" "event" "[I" ∈ GW := gw_t (List.mem_of_getElem? (i := 462) rfl) rfl
set_option maxRecDepth 20000 in
theorem l_MO_143 : Cond.fieldLink "EndingsLabModel" 143 "EndingsLabModel" "events" "I" ∈ GW := gw_t (List.mem_of_getElem? (i := 463) rfl) rfl
set_option maxRecDepth 20000 in
theorem l_LA_17 : Cond.methodLink "EndingsLabLaw" 17 y_MO_token ∈ GW := gw_t (List.mem_of_getElem? (i := 515) rfl) rfl
set_option maxRecDepth 20000 in
theorem im_MO_token : Cond.instanceMethod y_MO_token ∈ GW := gw_t (List.mem_of_getElem? (i := 516) rfl) rfl
set_option maxRecDepth 20000 in
theorem se_MO_token : Cond.selects "EndingsLabModel" y_MO_token y_MO_token ∈ GW := gw_t (List.mem_of_getElem? (i := 517) rfl) rfl
set_option maxRecDepth 20000 in
theorem l_MO_50 : Cond.methodLink "EndingsLabModel" 50 y_MO_in ∈ GW := gw_t (List.mem_of_getElem? (i := 519) rfl) rfl
set_option maxRecDepth 20000 in
theorem st_MO_in : Cond.static y_MO_in ∈ GW := gw_t (List.mem_of_getElem? (i := 520) rfl) rfl
set_option maxRecDepth 20000 in
theorem l_MO_54 : Cond.methodLink "EndingsLabModel" 54 y_MO_fits ∈ GW := gw_t (List.mem_of_getElem? (i := 522) rfl) rfl
set_option maxRecDepth 20000 in
theorem st_MO_fits : Cond.static y_MO_fits ∈ GW := gw_t (List.mem_of_getElem? (i := 523) rfl) rfl
set_option maxRecDepth 20000 in
theorem l_LA_22 : Cond.methodLink "EndingsLabLaw" 22 y_MO_wipe ∈ GW := gw_t (List.mem_of_getElem? (i := 525) rfl) rfl
set_option maxRecDepth 20000 in
theorem im_MO_wipe : Cond.instanceMethod y_MO_wipe ∈ GW := gw_t (List.mem_of_getElem? (i := 526) rfl) rfl
set_option maxRecDepth 20000 in
theorem se_MO_wipe : Cond.selects "EndingsLabModel" y_MO_wipe y_MO_wipe ∈ GW := gw_t (List.mem_of_getElem? (i := 527) rfl) rfl
set_option maxRecDepth 20000 in
theorem l_LA_26 : Cond.methodLink "EndingsLabLaw" 26 y_MO_check ∈ GW := gw_t (List.mem_of_getElem? (i := 529) rfl) rfl
set_option maxRecDepth 20000 in
theorem im_MO_check : Cond.instanceMethod y_MO_check ∈ GW := gw_t (List.mem_of_getElem? (i := 530) rfl) rfl
set_option maxRecDepth 20000 in
theorem se_MO_check : Cond.selects "EndingsLabModel" y_MO_check y_MO_check ∈ GW := gw_t (List.mem_of_getElem? (i := 531) rfl) rfl
set_option maxRecDepth 20000 in
theorem l_MO_76 : Cond.methodLink "EndingsLabModel" 76 y_MO_good ∈ GW := gw_t (List.mem_of_getElem? (i := 533) rfl) rfl
set_option maxRecDepth 20000 in
theorem im_MO_good : Cond.instanceMethod y_MO_good ∈ GW := gw_t (List.mem_of_getElem? (i := 535) rfl) rfl
set_option maxRecDepth 20000 in
theorem l_MO_72 : Cond.methodLink "EndingsLabModel" 72 y_MO_firstWrong ∈ GW := gw_t (List.mem_of_getElem? (i := 537) rfl) rfl
set_option maxRecDepth 20000 in
theorem im_MO_firstWrong : Cond.instanceMethod y_MO_firstWrong ∈ GW := gw_t (List.mem_of_getElem? (i := 539) rfl) rfl
set_option maxRecDepth 20000 in
theorem l_MO_61 : Cond.methodLink "EndingsLabModel" 61 y_MO_openBlock ∈ GW := gw_t (List.mem_of_getElem? (i := 541) rfl) rfl
set_option maxRecDepth 20000 in
theorem im_MO_openBlock : Cond.instanceMethod y_MO_openBlock ∈ GW := gw_t (List.mem_of_getElem? (i := 543) rfl) rfl
set_option maxRecDepth 20000 in
theorem l_MO_65 : Cond.methodLink "EndingsLabModel" 65 y_MO_inside ∈ GW := gw_t (List.mem_of_getElem? (i := 545) rfl) rfl
set_option maxRecDepth 20000 in
theorem im_MO_inside : Cond.instanceMethod y_MO_inside ∈ GW := gw_t (List.mem_of_getElem? (i := 547) rfl) rfl
set_option maxRecDepth 20000 in
theorem l_MO_69 : Cond.methodLink "EndingsLabModel" 69 y_MO_opens ∈ GW := gw_t (List.mem_of_getElem? (i := 549) rfl) rfl
set_option maxRecDepth 20000 in
theorem st_MO_opens : Cond.static y_MO_opens ∈ GW := gw_t (List.mem_of_getElem? (i := 550) rfl) rfl
set_option maxRecDepth 20000 in
theorem l_LA_31 : Cond.methodLink "EndingsLabLaw" 31 y_MO_place ∈ GW := gw_t (List.mem_of_getElem? (i := 552) rfl) rfl
set_option maxRecDepth 20000 in
theorem im_MO_place : Cond.instanceMethod y_MO_place ∈ GW := gw_t (List.mem_of_getElem? (i := 553) rfl) rfl
set_option maxRecDepth 20000 in
theorem se_MO_place : Cond.selects "EndingsLabModel" y_MO_place y_MO_place ∈ GW := gw_t (List.mem_of_getElem? (i := 554) rfl) rfl
set_option maxRecDepth 20000 in
theorem l_LA_36 : Cond.methodLink "EndingsLabLaw" 36 y_MO_run ∈ GW := gw_t (List.mem_of_getElem? (i := 556) rfl) rfl
set_option maxRecDepth 20000 in
theorem im_MO_run : Cond.instanceMethod y_MO_run ∈ GW := gw_t (List.mem_of_getElem? (i := 557) rfl) rfl
set_option maxRecDepth 20000 in
theorem se_MO_run : Cond.selects "EndingsLabModel" y_MO_run y_MO_run ∈ GW := gw_t (List.mem_of_getElem? (i := 558) rfl) rfl
set_option maxRecDepth 20000 in
theorem l_MO_140 : Cond.methodLink "EndingsLabModel" 140 y_MO_begin ∈ GW := gw_t (List.mem_of_getElem? (i := 560) rfl) rfl
set_option maxRecDepth 20000 in
theorem im_MO_begin : Cond.instanceMethod y_MO_begin ∈ GW := gw_t (List.mem_of_getElem? (i := 562) rfl) rfl
set_option maxRecDepth 20000 in
theorem l_MO_107 : Cond.methodLink "EndingsLabModel" 107 y_MO_enter ∈ GW := gw_t (List.mem_of_getElem? (i := 564) rfl) rfl
set_option maxRecDepth 20000 in
theorem im_MO_enter : Cond.instanceMethod y_MO_enter ∈ GW := gw_t (List.mem_of_getElem? (i := 566) rfl) rfl
set_option maxRecDepth 20000 in
theorem l_MO_167 : Cond.methodLink "EndingsLabModel" 167 y_MO_close ∈ GW := gw_t (List.mem_of_getElem? (i := 568) rfl) rfl
set_option maxRecDepth 20000 in
theorem im_MO_close : Cond.instanceMethod y_MO_close ∈ GW := gw_t (List.mem_of_getElem? (i := 570) rfl) rfl
set_option maxRecDepth 20000 in
theorem l_MO_79 : Cond.methodLink "EndingsLabModel" 79 y_MO_behind ∈ GW := gw_t (List.mem_of_getElem? (i := 572) rfl) rfl
set_option maxRecDepth 20000 in
theorem im_MO_behind : Cond.instanceMethod y_MO_behind ∈ GW := gw_t (List.mem_of_getElem? (i := 574) rfl) rfl
set_option maxRecDepth 20000 in
theorem l_MO_149 : Cond.methodLink "EndingsLabModel" 149 y_MO_catcher ∈ GW := gw_t (List.mem_of_getElem? (i := 576) rfl) rfl
set_option maxRecDepth 20000 in
theorem im_MO_catcher : Cond.instanceMethod y_MO_catcher ∈ GW := gw_t (List.mem_of_getElem? (i := 578) rfl) rfl
set_option maxRecDepth 20000 in
theorem l_MO_82 : Cond.methodLink "EndingsLabModel" 82 y_MO_part ∈ GW := gw_t (List.mem_of_getElem? (i := 580) rfl) rfl
set_option maxRecDepth 20000 in
theorem im_MO_part : Cond.instanceMethod y_MO_part ∈ GW := gw_t (List.mem_of_getElem? (i := 582) rfl) rfl
set_option maxRecDepth 20000 in
theorem l_MO_161 : Cond.methodLink "EndingsLabModel" 161 y_MO_is ∈ GW := gw_t (List.mem_of_getElem? (i := 584) rfl) rfl
set_option maxRecDepth 20000 in
theorem st_MO_is : Cond.static y_MO_is ∈ GW := gw_t (List.mem_of_getElem? (i := 585) rfl) rfl
set_option maxRecDepth 20000 in
theorem l_MO_152 : Cond.methodLink "EndingsLabModel" 152 y_MO_lastOf ∈ GW := gw_t (List.mem_of_getElem? (i := 587) rfl) rfl
set_option maxRecDepth 20000 in
theorem im_MO_lastOf : Cond.instanceMethod y_MO_lastOf ∈ GW := gw_t (List.mem_of_getElem? (i := 589) rfl) rfl
set_option maxRecDepth 20000 in
theorem l_MO_146 : Cond.methodLink "EndingsLabModel" 146 y_MO_behindTry ∈ GW := gw_t (List.mem_of_getElem? (i := 591) rfl) rfl
set_option maxRecDepth 20000 in
theorem im_MO_behindTry : Cond.instanceMethod y_MO_behindTry ∈ GW := gw_t (List.mem_of_getElem? (i := 593) rfl) rfl
set_option maxRecDepth 20000 in
theorem l_MO_155 : Cond.methodLink "EndingsLabModel" 155 y_MO_closeLast ∈ GW := gw_t (List.mem_of_getElem? (i := 595) rfl) rfl
set_option maxRecDepth 20000 in
theorem im_MO_closeLast : Cond.instanceMethod y_MO_closeLast ∈ GW := gw_t (List.mem_of_getElem? (i := 597) rfl) rfl
set_option maxRecDepth 20000 in
theorem l_MO_101 : Cond.methodLink "EndingsLabModel" 101 y_MO_ends ∈ GW := gw_t (List.mem_of_getElem? (i := 599) rfl) rfl
set_option maxRecDepth 20000 in
theorem im_MO_ends : Cond.instanceMethod y_MO_ends ∈ GW := gw_t (List.mem_of_getElem? (i := 601) rfl) rfl
set_option maxRecDepth 20000 in
theorem l_MO_158 : Cond.methodLink "EndingsLabModel" 158 y_MO_closeRun ∈ GW := gw_t (List.mem_of_getElem? (i := 603) rfl) rfl
set_option maxRecDepth 20000 in
theorem im_MO_closeRun : Cond.instanceMethod y_MO_closeRun ∈ GW := gw_t (List.mem_of_getElem? (i := 605) rfl) rfl
set_option maxRecDepth 20000 in
theorem l_MO_124 : Cond.methodLink "EndingsLabModel" 124 y_MO_raise ∈ GW := gw_t (List.mem_of_getElem? (i := 607) rfl) rfl
set_option maxRecDepth 20000 in
theorem im_MO_raise : Cond.instanceMethod y_MO_raise ∈ GW := gw_t (List.mem_of_getElem? (i := 609) rfl) rfl
set_option maxRecDepth 20000 in
theorem l_MO_98 : Cond.methodLink "EndingsLabModel" 98 y_MO_made ∈ GW := gw_t (List.mem_of_getElem? (i := 611) rfl) rfl
set_option maxRecDepth 20000 in
theorem im_MO_made : Cond.instanceMethod y_MO_made ∈ GW := gw_t (List.mem_of_getElem? (i := 613) rfl) rfl
set_option maxRecDepth 20000 in
theorem l_MO_170 : Cond.methodLink "EndingsLabModel" 170 y_MO_item ∈ GW := gw_t (List.mem_of_getElem? (i := 615) rfl) rfl
set_option maxRecDepth 20000 in
theorem im_MO_item : Cond.instanceMethod y_MO_item ∈ GW := gw_t (List.mem_of_getElem? (i := 617) rfl) rfl
set_option maxRecDepth 20000 in
theorem l_MO_117 : Cond.methodLink "EndingsLabModel" 117 y_MO_note ∈ GW := gw_t (List.mem_of_getElem? (i := 619) rfl) rfl
set_option maxRecDepth 20000 in
theorem im_MO_note : Cond.instanceMethod y_MO_note ∈ GW := gw_t (List.mem_of_getElem? (i := 621) rfl) rfl
set_option maxRecDepth 20000 in
theorem l_MO_127 : Cond.methodLink "EndingsLabModel" 127 y_MO_caught ∈ GW := gw_t (List.mem_of_getElem? (i := 623) rfl) rfl
set_option maxRecDepth 20000 in
theorem im_MO_caught : Cond.instanceMethod y_MO_caught ∈ GW := gw_t (List.mem_of_getElem? (i := 625) rfl) rfl
set_option maxRecDepth 20000 in
theorem l_MO_131 : Cond.methodLink "EndingsLabModel" 131 y_MO_hold ∈ GW := gw_t (List.mem_of_getElem? (i := 627) rfl) rfl
set_option maxRecDepth 20000 in
theorem im_MO_hold : Cond.instanceMethod y_MO_hold ∈ GW := gw_t (List.mem_of_getElem? (i := 629) rfl) rfl
set_option maxRecDepth 20000 in
theorem l_MO_134 : Cond.methodLink "EndingsLabModel" 134 y_MO_leave ∈ GW := gw_t (List.mem_of_getElem? (i := 631) rfl) rfl
set_option maxRecDepth 20000 in
theorem im_MO_leave : Cond.instanceMethod y_MO_leave ∈ GW := gw_t (List.mem_of_getElem? (i := 633) rfl) rfl
set_option maxRecDepth 20000 in
theorem l_MO_137 : Cond.methodLink "EndingsLabModel" 137 y_MO_call ∈ GW := gw_t (List.mem_of_getElem? (i := 635) rfl) rfl
set_option maxRecDepth 20000 in
theorem im_MO_call : Cond.instanceMethod y_MO_call ∈ GW := gw_t (List.mem_of_getElem? (i := 637) rfl) rfl
set_option maxRecDepth 20000 in
theorem l_LA_40 : Cond.methodLink "EndingsLabLaw" 40 y_MO_value ∈ GW := gw_t (List.mem_of_getElem? (i := 639) rfl) rfl
set_option maxRecDepth 20000 in
theorem im_MO_value : Cond.instanceMethod y_MO_value ∈ GW := gw_t (List.mem_of_getElem? (i := 640) rfl) rfl
set_option maxRecDepth 20000 in
theorem se_MO_value : Cond.selects "EndingsLabModel" y_MO_value y_MO_value ∈ GW := gw_t (List.mem_of_getElem? (i := 641) rfl) rfl
set_option maxRecDepth 20000 in
theorem l_LA_44 : Cond.methodLink "EndingsLabLaw" 44 y_MO_fault ∈ GW := gw_t (List.mem_of_getElem? (i := 643) rfl) rfl
set_option maxRecDepth 20000 in
theorem im_MO_fault : Cond.instanceMethod y_MO_fault ∈ GW := gw_t (List.mem_of_getElem? (i := 644) rfl) rfl
set_option maxRecDepth 20000 in
theorem se_MO_fault : Cond.selects "EndingsLabModel" y_MO_fault y_MO_fault ∈ GW := gw_t (List.mem_of_getElem? (i := 645) rfl) rfl
set_option maxRecDepth 20000 in
theorem l_LA_48 : Cond.methodLink "EndingsLabLaw" 48 y_MO_steps ∈ GW := gw_t (List.mem_of_getElem? (i := 647) rfl) rfl
set_option maxRecDepth 20000 in
theorem im_MO_steps : Cond.instanceMethod y_MO_steps ∈ GW := gw_t (List.mem_of_getElem? (i := 648) rfl) rfl
set_option maxRecDepth 20000 in
theorem se_MO_steps : Cond.selects "EndingsLabModel" y_MO_steps y_MO_steps ∈ GW := gw_t (List.mem_of_getElem? (i := 649) rfl) rfl
set_option maxRecDepth 20000 in
theorem l_LA_52 : Cond.methodLink "EndingsLabLaw" 52 y_MO_events ∈ GW := gw_t (List.mem_of_getElem? (i := 651) rfl) rfl
set_option maxRecDepth 20000 in
theorem im_MO_events : Cond.instanceMethod y_MO_events ∈ GW := gw_t (List.mem_of_getElem? (i := 652) rfl) rfl
set_option maxRecDepth 20000 in
theorem se_MO_events : Cond.selects "EndingsLabModel" y_MO_events y_MO_events ∈ GW := gw_t (List.mem_of_getElem? (i := 653) rfl) rfl
set_option maxRecDepth 20000 in
theorem l_LA_56 : Cond.methodLink "EndingsLabLaw" 56 y_MO_event ∈ GW := gw_t (List.mem_of_getElem? (i := 655) rfl) rfl
set_option maxRecDepth 20000 in
theorem im_MO_event : Cond.instanceMethod y_MO_event ∈ GW := gw_t (List.mem_of_getElem? (i := 656) rfl) rfl
set_option maxRecDepth 20000 in
theorem se_MO_event : Cond.selects "EndingsLabModel" y_MO_event y_MO_event ∈ GW := gw_t (List.mem_of_getElem? (i := 657) rfl) rfl
set_option maxRecDepth 20000 in
theorem l_LA_60 : Cond.methodLink "EndingsLabLaw" 60 y_MO_most ∈ GW := gw_t (List.mem_of_getElem? (i := 659) rfl) rfl
set_option maxRecDepth 20000 in
theorem im_MO_most : Cond.instanceMethod y_MO_most ∈ GW := gw_t (List.mem_of_getElem? (i := 660) rfl) rfl
set_option maxRecDepth 20000 in
theorem se_MO_most : Cond.selects "EndingsLabModel" y_MO_most y_MO_most ∈ GW := gw_t (List.mem_of_getElem? (i := 661) rfl) rfl
theorem se_LB_judge : Cond.selects "EndingsLab" y_LB_judge y_LB_judge ∈ GW := gw_s (q := (y_LB_judge, 3)) (List.mem_of_getElem? (i := 0) rfl)
theorem se_CH_open : Cond.selects "EndingsLab$Checker" y_CH_open y_CH_open ∈ GW := gw_s (q := (y_CH_open, 5)) (List.mem_of_getElem? (i := 1) rfl)
theorem se_CH_mayStand : Cond.selects "EndingsLab$Checker" y_CH_mayStand y_CH_mayStand ∈ GW := gw_s (q := (y_CH_mayStand, 5)) (List.mem_of_getElem? (i := 2) rfl)
theorem se_CH_take : Cond.selects "EndingsLab$Checker" y_CH_take y_CH_take ∈ GW := gw_s (q := (y_CH_take, 5)) (List.mem_of_getElem? (i := 3) rfl)
theorem se_CH_close : Cond.selects "EndingsLab$Checker" y_CH_close y_CH_close ∈ GW := gw_s (q := (y_CH_close, 5)) (List.mem_of_getElem? (i := 4) rfl)
theorem se_LB_judgeAll : Cond.selects "EndingsLab" y_LB_judgeAll y_LB_judgeAll ∈ GW := gw_s (q := (y_LB_judgeAll, 3)) (List.mem_of_getElem? (i := 5) rfl)
theorem se_MA_doProcedure : Cond.selects "EndingsLab$Machine" y_MA_doProcedure y_MA_doProcedure ∈ GW := gw_s (q := (y_MA_doProcedure, 8)) (List.mem_of_getElem? (i := 6) rfl)
theorem se_MA_doBlock : Cond.selects "EndingsLab$Machine" y_MA_doBlock y_MA_doBlock ∈ GW := gw_s (q := (y_MA_doBlock, 8)) (List.mem_of_getElem? (i := 7) rfl)
theorem se_MA_textOf : Cond.selects "EndingsLab$Machine" y_MA_textOf y_MA_textOf ∈ GW := gw_s (q := (y_MA_textOf, 8)) (List.mem_of_getElem? (i := 8) rfl)
theorem se_MA_doItem : Cond.selects "EndingsLab$Machine" y_MA_doItem y_MA_doItem ∈ GW := gw_s (q := (y_MA_doItem, 8)) (List.mem_of_getElem? (i := 9) rfl)
theorem se_MA_doDivide : Cond.selects "EndingsLab$Machine" y_MA_doDivide y_MA_doDivide ∈ GW := gw_s (q := (y_MA_doDivide, 8)) (List.mem_of_getElem? (i := 10) rfl)
theorem se_MA_raise : Cond.selects "EndingsLab$Machine" y_MA_raise y_MA_raise ∈ GW := gw_s (q := (y_MA_raise, 8)) (List.mem_of_getElem? (i := 11) rfl)
theorem se_MA_doTimes : Cond.selects "EndingsLab$Machine" y_MA_doTimes y_MA_doTimes ∈ GW := gw_s (q := (y_MA_doTimes, 8)) (List.mem_of_getElem? (i := 12) rfl)
theorem se_MA_doTry : Cond.selects "EndingsLab$Machine" y_MA_doTry y_MA_doTry ∈ GW := gw_s (q := (y_MA_doTry, 8)) (List.mem_of_getElem? (i := 13) rfl)
theorem se_MA_catches : Cond.selects "EndingsLab$Machine" y_MA_catches y_MA_catches ∈ GW := gw_s (q := (y_MA_catches, 8)) (List.mem_of_getElem? (i := 14) rfl)
theorem se_MA_doCatch : Cond.selects "EndingsLab$Machine" y_MA_doCatch y_MA_doCatch ∈ GW := gw_s (q := (y_MA_doCatch, 8)) (List.mem_of_getElem? (i := 15) rfl)
theorem se_MA_doLast : Cond.selects "EndingsLab$Machine" y_MA_doLast y_MA_doLast ∈ GW := gw_s (q := (y_MA_doLast, 8)) (List.mem_of_getElem? (i := 16) rfl)
theorem se_MA_doLock : Cond.selects "EndingsLab$Machine" y_MA_doLock y_MA_doLock ∈ GW := gw_s (q := (y_MA_doLock, 8)) (List.mem_of_getElem? (i := 17) rfl)
theorem se_MA_doEnter : Cond.selects "EndingsLab$Machine" y_MA_doEnter y_MA_doEnter ∈ GW := gw_s (q := (y_MA_doEnter, 8)) (List.mem_of_getElem? (i := 18) rfl)
theorem se_MA_doLeave : Cond.selects "EndingsLab$Machine" y_MA_doLeave y_MA_doLeave ∈ GW := gw_s (q := (y_MA_doLeave, 8)) (List.mem_of_getElem? (i := 19) rfl)
theorem se_MA_doCall : Cond.selects "EndingsLab$Machine" y_MA_doCall y_MA_doCall ∈ GW := gw_s (q := (y_MA_doCall, 8)) (List.mem_of_getElem? (i := 20) rfl)
theorem se_MA_releaseEntered : Cond.selects "EndingsLab$Machine" y_MA_releaseEntered y_MA_releaseEntered ∈ GW := gw_s (q := (y_MA_releaseEntered, 8)) (List.mem_of_getElem? (i := 21) rfl)
theorem se_MO_good : Cond.selects "EndingsLabModel" y_MO_good y_MO_good ∈ GW := gw_s (q := (y_MO_good, 25)) (List.mem_of_getElem? (i := 22) rfl)
theorem se_MO_firstWrong : Cond.selects "EndingsLabModel" y_MO_firstWrong y_MO_firstWrong ∈ GW := gw_s (q := (y_MO_firstWrong, 25)) (List.mem_of_getElem? (i := 23) rfl)
theorem se_MO_openBlock : Cond.selects "EndingsLabModel" y_MO_openBlock y_MO_openBlock ∈ GW := gw_s (q := (y_MO_openBlock, 25)) (List.mem_of_getElem? (i := 24) rfl)
theorem se_MO_inside : Cond.selects "EndingsLabModel" y_MO_inside y_MO_inside ∈ GW := gw_s (q := (y_MO_inside, 25)) (List.mem_of_getElem? (i := 25) rfl)
theorem se_MO_begin : Cond.selects "EndingsLabModel" y_MO_begin y_MO_begin ∈ GW := gw_s (q := (y_MO_begin, 25)) (List.mem_of_getElem? (i := 26) rfl)
theorem se_MO_enter : Cond.selects "EndingsLabModel" y_MO_enter y_MO_enter ∈ GW := gw_s (q := (y_MO_enter, 25)) (List.mem_of_getElem? (i := 27) rfl)
theorem se_MO_close : Cond.selects "EndingsLabModel" y_MO_close y_MO_close ∈ GW := gw_s (q := (y_MO_close, 25)) (List.mem_of_getElem? (i := 28) rfl)
theorem se_MO_behind : Cond.selects "EndingsLabModel" y_MO_behind y_MO_behind ∈ GW := gw_s (q := (y_MO_behind, 25)) (List.mem_of_getElem? (i := 29) rfl)
theorem se_MO_catcher : Cond.selects "EndingsLabModel" y_MO_catcher y_MO_catcher ∈ GW := gw_s (q := (y_MO_catcher, 25)) (List.mem_of_getElem? (i := 30) rfl)
theorem se_MO_part : Cond.selects "EndingsLabModel" y_MO_part y_MO_part ∈ GW := gw_s (q := (y_MO_part, 25)) (List.mem_of_getElem? (i := 31) rfl)
theorem se_MO_lastOf : Cond.selects "EndingsLabModel" y_MO_lastOf y_MO_lastOf ∈ GW := gw_s (q := (y_MO_lastOf, 25)) (List.mem_of_getElem? (i := 32) rfl)
theorem se_MO_behindTry : Cond.selects "EndingsLabModel" y_MO_behindTry y_MO_behindTry ∈ GW := gw_s (q := (y_MO_behindTry, 25)) (List.mem_of_getElem? (i := 33) rfl)
theorem se_MO_closeLast : Cond.selects "EndingsLabModel" y_MO_closeLast y_MO_closeLast ∈ GW := gw_s (q := (y_MO_closeLast, 25)) (List.mem_of_getElem? (i := 34) rfl)
theorem se_MO_ends : Cond.selects "EndingsLabModel" y_MO_ends y_MO_ends ∈ GW := gw_s (q := (y_MO_ends, 25)) (List.mem_of_getElem? (i := 35) rfl)
theorem se_MO_closeRun : Cond.selects "EndingsLabModel" y_MO_closeRun y_MO_closeRun ∈ GW := gw_s (q := (y_MO_closeRun, 25)) (List.mem_of_getElem? (i := 36) rfl)
theorem se_MO_raise : Cond.selects "EndingsLabModel" y_MO_raise y_MO_raise ∈ GW := gw_s (q := (y_MO_raise, 25)) (List.mem_of_getElem? (i := 37) rfl)
theorem se_MO_made : Cond.selects "EndingsLabModel" y_MO_made y_MO_made ∈ GW := gw_s (q := (y_MO_made, 25)) (List.mem_of_getElem? (i := 38) rfl)
theorem se_MO_item : Cond.selects "EndingsLabModel" y_MO_item y_MO_item ∈ GW := gw_s (q := (y_MO_item, 25)) (List.mem_of_getElem? (i := 39) rfl)
theorem se_MO_note : Cond.selects "EndingsLabModel" y_MO_note y_MO_note ∈ GW := gw_s (q := (y_MO_note, 25)) (List.mem_of_getElem? (i := 40) rfl)
theorem se_MO_caught : Cond.selects "EndingsLabModel" y_MO_caught y_MO_caught ∈ GW := gw_s (q := (y_MO_caught, 25)) (List.mem_of_getElem? (i := 41) rfl)
theorem se_MO_hold : Cond.selects "EndingsLabModel" y_MO_hold y_MO_hold ∈ GW := gw_s (q := (y_MO_hold, 25)) (List.mem_of_getElem? (i := 42) rfl)
theorem se_MO_leave : Cond.selects "EndingsLabModel" y_MO_leave y_MO_leave ∈ GW := gw_s (q := (y_MO_leave, 25)) (List.mem_of_getElem? (i := 43) rfl)
theorem se_MO_call : Cond.selects "EndingsLabModel" y_MO_call y_MO_call ∈ GW := gw_s (q := (y_MO_call, 25)) (List.mem_of_getElem? (i := 44) rfl)
def NW : List Cond := [Cond.methodLinkNest "EndingsLab$Machine" 25 y_FA_init "EndingsLab",
  Cond.methodLinkNest "EndingsLab$Machine" 32 y_LO_init "EndingsLab",
  Cond.fieldLinkNest "EndingsLab" 98 "EndingsLab$Locks" "greatest" "I" "EndingsLab",
  Cond.methodLinkNest "EndingsLab$Machine" 39 y_EV_init "EndingsLab",
  Cond.fieldLinkNest "EndingsLab" 86 "EndingsLab$EventLog" "noted" "I" "EndingsLab",
  Cond.methodLinkNest "EndingsLab$Machine" 48 y_TE_init "EndingsLab",
  Cond.fieldLinkNest "EndingsLab$Checker" 38 "EndingsLab$Text" "ops" "[I" "EndingsLab",
  Cond.fieldLinkNest "EndingsLab$Machine" 133 "EndingsLab$Text" "ops" "[I" "EndingsLab",
  Cond.fieldLinkNest "EndingsLab$Checker" 55 "EndingsLab$Text" "numbers" "[I" "EndingsLab",
  Cond.fieldLinkNest "EndingsLab$Machine" 130 "EndingsLab$Text" "numbers" "[I" "EndingsLab",
  Cond.fieldLinkNest "EndingsLab$Checker" 49 "EndingsLab$Text" "ends" "[I" "EndingsLab",
  Cond.fieldLinkNest "EndingsLab$Machine" 120 "EndingsLab$Text" "ends" "[I" "EndingsLab",
  Cond.fieldLinkNest "EndingsLab$Checker" 33 "EndingsLab$Text" "size" "I" "EndingsLab",
  Cond.fieldLinkNest "EndingsLab" 43 "EndingsLab$Text" "size" "I" "EndingsLab",
  Cond.fieldLinkNest "EndingsLab$Machine" 117 "EndingsLab$Text" "size" "I" "EndingsLab",
  Cond.methodLinkNest "EndingsLab$Machine" 49 y_FR_init "EndingsLab",
  Cond.fieldLinkNest "EndingsLab$Machine" 103 "EndingsLab$Frame" "entered" "[I" "EndingsLab",
  Cond.fieldLinkNest "EndingsLab$Machine" 110 "EndingsLab$Frame" "procedure" "I" "EndingsLab",
  Cond.fieldLinkNest "EndingsLab$Machine" 89 "EndingsLab$Frame" "account" "I" "EndingsLab",
  Cond.fieldLinkNest "EndingsLab$Machine" 76 "EndingsLab$Frame" "carried" "I" "EndingsLab",
  Cond.fieldLinkNest "EndingsLab$Machine" 154 "EndingsLab$Frame" "caught" "I" "EndingsLab",
  Cond.fieldLinkNest "EndingsLab" 34 "EndingsLab$Machine" "texts" "[LEndingsLab$Text;" "EndingsLab",
  Cond.fieldLinkNest "EndingsLab" 64 "EndingsLab$Machine" "faults" "LEndingsLab$Faults;" "EndingsLab",
  Cond.fieldLinkNest "EndingsLab" 94 "EndingsLab$Machine" "locks" "LEndingsLab$Locks;" "EndingsLab",
  Cond.fieldLinkNest "EndingsLab" 82 "EndingsLab$Machine" "log" "LEndingsLab$EventLog;" "EndingsLab",
  Cond.fieldLinkNest "EndingsLab" 79 "EndingsLab$Machine" "begun" "I" "EndingsLab",
  Cond.fieldLinkNest "EndingsLab" 61 "EndingsLab$Machine" "cameTo" "I" "EndingsLab",
  Cond.fieldLinkNest "EndingsLab" 68 "EndingsLab$Machine" "endedBy" "I" "EndingsLab",
  Cond.methodLinkNest "EndingsLab" 18 y_CH_init "EndingsLab",
  Cond.methodLinkNest "EndingsLab$Faults" 22 y_LB_isBelow "EndingsLab",
  Cond.methodLinkNest "EndingsLab$Machine" 200 y_LB_isOfKind "EndingsLab",
  Cond.methodLinkNest "EndingsLab$EventLog" 25 y_LB_isBelow "EndingsLab"]
theorem k_MA_25 : Cond.methodLinkNest "EndingsLab$Machine" 25 y_FA_init "EndingsLab" ∈ NW := List.mem_of_getElem? (i := 0) rfl
theorem k_MA_32 : Cond.methodLinkNest "EndingsLab$Machine" 32 y_LO_init "EndingsLab" ∈ NW := List.mem_of_getElem? (i := 1) rfl
theorem k_LB_98 : Cond.fieldLinkNest "EndingsLab" 98 "EndingsLab$Locks" "greatest" "I" "EndingsLab" ∈ NW := List.mem_of_getElem? (i := 2) rfl
theorem k_MA_39 : Cond.methodLinkNest "EndingsLab$Machine" 39 y_EV_init "EndingsLab" ∈ NW := List.mem_of_getElem? (i := 3) rfl
theorem k_LB_86 : Cond.fieldLinkNest "EndingsLab" 86 "EndingsLab$EventLog" "noted" "I" "EndingsLab" ∈ NW := List.mem_of_getElem? (i := 4) rfl
theorem k_MA_48 : Cond.methodLinkNest "EndingsLab$Machine" 48 y_TE_init "EndingsLab" ∈ NW := List.mem_of_getElem? (i := 5) rfl
theorem k_CH_38 : Cond.fieldLinkNest "EndingsLab$Checker" 38 "EndingsLab$Text" "ops" "[I" "EndingsLab" ∈ NW := List.mem_of_getElem? (i := 6) rfl
theorem k_MA_133 : Cond.fieldLinkNest "EndingsLab$Machine" 133 "EndingsLab$Text" "ops" "[I" "EndingsLab" ∈ NW := List.mem_of_getElem? (i := 7) rfl
theorem k_CH_55 : Cond.fieldLinkNest "EndingsLab$Checker" 55 "EndingsLab$Text" "numbers" "[I" "EndingsLab" ∈ NW := List.mem_of_getElem? (i := 8) rfl
theorem k_MA_130 : Cond.fieldLinkNest "EndingsLab$Machine" 130 "EndingsLab$Text" "numbers" "[I" "EndingsLab" ∈ NW := List.mem_of_getElem? (i := 9) rfl
theorem k_CH_49 : Cond.fieldLinkNest "EndingsLab$Checker" 49 "EndingsLab$Text" "ends" "[I" "EndingsLab" ∈ NW := List.mem_of_getElem? (i := 10) rfl
theorem k_MA_120 : Cond.fieldLinkNest "EndingsLab$Machine" 120 "EndingsLab$Text" "ends" "[I" "EndingsLab" ∈ NW := List.mem_of_getElem? (i := 11) rfl
theorem k_CH_33 : Cond.fieldLinkNest "EndingsLab$Checker" 33 "EndingsLab$Text" "size" "I" "EndingsLab" ∈ NW := List.mem_of_getElem? (i := 12) rfl
theorem k_LB_43 : Cond.fieldLinkNest "EndingsLab" 43 "EndingsLab$Text" "size" "I" "EndingsLab" ∈ NW := List.mem_of_getElem? (i := 13) rfl
theorem k_MA_117 : Cond.fieldLinkNest "EndingsLab$Machine" 117 "EndingsLab$Text" "size" "I" "EndingsLab" ∈ NW := List.mem_of_getElem? (i := 14) rfl
theorem k_MA_49 : Cond.methodLinkNest "EndingsLab$Machine" 49 y_FR_init "EndingsLab" ∈ NW := List.mem_of_getElem? (i := 15) rfl
theorem k_MA_103 : Cond.fieldLinkNest "EndingsLab$Machine" 103 "EndingsLab$Frame" "entered" "[I" "EndingsLab" ∈ NW := List.mem_of_getElem? (i := 16) rfl
theorem k_MA_110 : Cond.fieldLinkNest "EndingsLab$Machine" 110 "EndingsLab$Frame" "procedure" "I" "EndingsLab" ∈ NW := List.mem_of_getElem? (i := 17) rfl
theorem k_MA_89 : Cond.fieldLinkNest "EndingsLab$Machine" 89 "EndingsLab$Frame" "account" "I" "EndingsLab" ∈ NW := List.mem_of_getElem? (i := 18) rfl
theorem k_MA_76 : Cond.fieldLinkNest "EndingsLab$Machine" 76 "EndingsLab$Frame" "carried" "I" "EndingsLab" ∈ NW := List.mem_of_getElem? (i := 19) rfl
theorem k_MA_154 : Cond.fieldLinkNest "EndingsLab$Machine" 154 "EndingsLab$Frame" "caught" "I" "EndingsLab" ∈ NW := List.mem_of_getElem? (i := 20) rfl
theorem k_LB_34 : Cond.fieldLinkNest "EndingsLab" 34 "EndingsLab$Machine" "texts" "[LEndingsLab$Text;" "EndingsLab" ∈ NW := List.mem_of_getElem? (i := 21) rfl
theorem k_LB_64 : Cond.fieldLinkNest "EndingsLab" 64 "EndingsLab$Machine" "faults" "LEndingsLab$Faults;" "EndingsLab" ∈ NW := List.mem_of_getElem? (i := 22) rfl
theorem k_LB_94 : Cond.fieldLinkNest "EndingsLab" 94 "EndingsLab$Machine" "locks" "LEndingsLab$Locks;" "EndingsLab" ∈ NW := List.mem_of_getElem? (i := 23) rfl
theorem k_LB_82 : Cond.fieldLinkNest "EndingsLab" 82 "EndingsLab$Machine" "log" "LEndingsLab$EventLog;" "EndingsLab" ∈ NW := List.mem_of_getElem? (i := 24) rfl
theorem k_LB_79 : Cond.fieldLinkNest "EndingsLab" 79 "EndingsLab$Machine" "begun" "I" "EndingsLab" ∈ NW := List.mem_of_getElem? (i := 25) rfl
theorem k_LB_61 : Cond.fieldLinkNest "EndingsLab" 61 "EndingsLab$Machine" "cameTo" "I" "EndingsLab" ∈ NW := List.mem_of_getElem? (i := 26) rfl
theorem k_LB_68 : Cond.fieldLinkNest "EndingsLab" 68 "EndingsLab$Machine" "endedBy" "I" "EndingsLab" ∈ NW := List.mem_of_getElem? (i := 27) rfl
theorem k_LB_18 : Cond.methodLinkNest "EndingsLab" 18 y_CH_init "EndingsLab" ∈ NW := List.mem_of_getElem? (i := 28) rfl
theorem k_FA_22 : Cond.methodLinkNest "EndingsLab$Faults" 22 y_LB_isBelow "EndingsLab" ∈ NW := List.mem_of_getElem? (i := 29) rfl
theorem k_MA_200 : Cond.methodLinkNest "EndingsLab$Machine" 200 y_LB_isOfKind "EndingsLab" ∈ NW := List.mem_of_getElem? (i := 30) rfl
theorem k_EV_25 : Cond.methodLinkNest "EndingsLab$EventLog" 25 y_LB_isBelow "EndingsLab" ∈ NW := List.mem_of_getElem? (i := 31) rfl
theorem nw_in_0 : Cond.methodLinkNest "EndingsLab$Machine" 25 y_FA_init "EndingsLab" ∈ lw_tbl := List.mem_append_right _ (List.mem_of_getElem? (i := 33) rfl)
theorem nw_in_1 : Cond.methodLinkNest "EndingsLab$Machine" 32 y_LO_init "EndingsLab" ∈ lw_tbl := List.mem_append_right _ (List.mem_of_getElem? (i := 50) rfl)
theorem nw_in_2 : Cond.fieldLinkNest "EndingsLab" 98 "EndingsLab$Locks" "greatest" "I" "EndingsLab" ∈ lw_tbl := List.mem_append_right _ (List.mem_of_getElem? (i := 57) rfl)
theorem nw_in_3 : Cond.methodLinkNest "EndingsLab$Machine" 39 y_EV_init "EndingsLab" ∈ lw_tbl := List.mem_append_right _ (List.mem_of_getElem? (i := 67) rfl)
theorem nw_in_4 : Cond.fieldLinkNest "EndingsLab" 86 "EndingsLab$EventLog" "noted" "I" "EndingsLab" ∈ lw_tbl := List.mem_append_right _ (List.mem_of_getElem? (i := 73) rfl)
theorem nw_in_5 : Cond.methodLinkNest "EndingsLab$Machine" 48 y_TE_init "EndingsLab" ∈ lw_tbl := List.mem_append_right _ (List.mem_of_getElem? (i := 80) rfl)
theorem nw_in_6 : Cond.fieldLinkNest "EndingsLab$Checker" 38 "EndingsLab$Text" "ops" "[I" "EndingsLab" ∈ lw_tbl := List.mem_append_right _ (List.mem_of_getElem? (i := 85) rfl)
theorem nw_in_7 : Cond.fieldLinkNest "EndingsLab$Machine" 133 "EndingsLab$Text" "ops" "[I" "EndingsLab" ∈ lw_tbl := List.mem_append_right _ (List.mem_of_getElem? (i := 86) rfl)
theorem nw_in_8 : Cond.fieldLinkNest "EndingsLab$Checker" 55 "EndingsLab$Text" "numbers" "[I" "EndingsLab" ∈ lw_tbl := List.mem_append_right _ (List.mem_of_getElem? (i := 88) rfl)
theorem nw_in_9 : Cond.fieldLinkNest "EndingsLab$Machine" 130 "EndingsLab$Text" "numbers" "[I" "EndingsLab" ∈ lw_tbl := List.mem_append_right _ (List.mem_of_getElem? (i := 89) rfl)
theorem nw_in_10 : Cond.fieldLinkNest "EndingsLab$Checker" 49 "EndingsLab$Text" "ends" "[I" "EndingsLab" ∈ lw_tbl := List.mem_append_right _ (List.mem_of_getElem? (i := 91) rfl)
theorem nw_in_11 : Cond.fieldLinkNest "EndingsLab$Machine" 120 "EndingsLab$Text" "ends" "[I" "EndingsLab" ∈ lw_tbl := List.mem_append_right _ (List.mem_of_getElem? (i := 92) rfl)
theorem nw_in_12 : Cond.fieldLinkNest "EndingsLab$Checker" 33 "EndingsLab$Text" "size" "I" "EndingsLab" ∈ lw_tbl := List.mem_append_right _ (List.mem_of_getElem? (i := 94) rfl)
theorem nw_in_13 : Cond.fieldLinkNest "EndingsLab" 43 "EndingsLab$Text" "size" "I" "EndingsLab" ∈ lw_tbl := List.mem_append_right _ (List.mem_of_getElem? (i := 95) rfl)
theorem nw_in_14 : Cond.fieldLinkNest "EndingsLab$Machine" 117 "EndingsLab$Text" "size" "I" "EndingsLab" ∈ lw_tbl := List.mem_append_right _ (List.mem_of_getElem? (i := 96) rfl)
theorem nw_in_15 : Cond.methodLinkNest "EndingsLab$Machine" 49 y_FR_init "EndingsLab" ∈ lw_tbl := List.mem_append_right _ (List.mem_of_getElem? (i := 107) rfl)
theorem nw_in_16 : Cond.fieldLinkNest "EndingsLab$Machine" 103 "EndingsLab$Frame" "entered" "[I" "EndingsLab" ∈ lw_tbl := List.mem_append_right _ (List.mem_of_getElem? (i := 112) rfl)
theorem nw_in_17 : Cond.fieldLinkNest "EndingsLab$Machine" 110 "EndingsLab$Frame" "procedure" "I" "EndingsLab" ∈ lw_tbl := List.mem_append_right _ (List.mem_of_getElem? (i := 114) rfl)
theorem nw_in_18 : Cond.fieldLinkNest "EndingsLab$Machine" 89 "EndingsLab$Frame" "account" "I" "EndingsLab" ∈ lw_tbl := List.mem_append_right _ (List.mem_of_getElem? (i := 116) rfl)
theorem nw_in_19 : Cond.fieldLinkNest "EndingsLab$Machine" 76 "EndingsLab$Frame" "carried" "I" "EndingsLab" ∈ lw_tbl := List.mem_append_right _ (List.mem_of_getElem? (i := 118) rfl)
theorem nw_in_20 : Cond.fieldLinkNest "EndingsLab$Machine" 154 "EndingsLab$Frame" "caught" "I" "EndingsLab" ∈ lw_tbl := List.mem_append_right _ (List.mem_of_getElem? (i := 120) rfl)
theorem nw_in_21 : Cond.fieldLinkNest "EndingsLab" 34 "EndingsLab$Machine" "texts" "[LEndingsLab$Text;" "EndingsLab" ∈ lw_tbl := List.mem_append_right _ (List.mem_of_getElem? (i := 133) rfl)
theorem nw_in_22 : Cond.fieldLinkNest "EndingsLab" 64 "EndingsLab$Machine" "faults" "LEndingsLab$Faults;" "EndingsLab" ∈ lw_tbl := List.mem_append_right _ (List.mem_of_getElem? (i := 136) rfl)
theorem nw_in_23 : Cond.fieldLinkNest "EndingsLab" 94 "EndingsLab$Machine" "locks" "LEndingsLab$Locks;" "EndingsLab" ∈ lw_tbl := List.mem_append_right _ (List.mem_of_getElem? (i := 138) rfl)
theorem nw_in_24 : Cond.fieldLinkNest "EndingsLab" 82 "EndingsLab$Machine" "log" "LEndingsLab$EventLog;" "EndingsLab" ∈ lw_tbl := List.mem_append_right _ (List.mem_of_getElem? (i := 140) rfl)
theorem nw_in_25 : Cond.fieldLinkNest "EndingsLab" 79 "EndingsLab$Machine" "begun" "I" "EndingsLab" ∈ lw_tbl := List.mem_append_right _ (List.mem_of_getElem? (i := 142) rfl)
theorem nw_in_26 : Cond.fieldLinkNest "EndingsLab" 61 "EndingsLab$Machine" "cameTo" "I" "EndingsLab" ∈ lw_tbl := List.mem_append_right _ (List.mem_of_getElem? (i := 144) rfl)
theorem nw_in_27 : Cond.fieldLinkNest "EndingsLab" 68 "EndingsLab$Machine" "endedBy" "I" "EndingsLab" ∈ lw_tbl := List.mem_append_right _ (List.mem_of_getElem? (i := 146) rfl)
theorem nw_in_28 : Cond.methodLinkNest "EndingsLab" 18 y_CH_init "EndingsLab" ∈ lw_tbl := List.mem_append_right _ (List.mem_of_getElem? (i := 166) rfl)
set_option maxRecDepth 20000 in
theorem nw_in_29 : Cond.methodLinkNest "EndingsLab$Faults" 22 y_LB_isBelow "EndingsLab" ∈ lw_tbl := List.mem_append_right _ (List.mem_of_getElem? (i := 342) rfl)
set_option maxRecDepth 20000 in
theorem nw_in_30 : Cond.methodLinkNest "EndingsLab$Machine" 200 y_LB_isOfKind "EndingsLab" ∈ lw_tbl := List.mem_append_right _ (List.mem_of_getElem? (i := 343) rfl)
set_option maxRecDepth 20000 in
theorem nw_in_31 : Cond.methodLinkNest "EndingsLab$EventLog" 25 y_LB_isBelow "EndingsLab" ∈ lw_tbl := List.mem_append_right _ (List.mem_of_getElem? (i := 428) rfl)
theorem nw_in : ∀ w ∈ NW, w ∈ lw_tbl := List.forall_mem_cons.mpr ⟨nw_in_0, List.forall_mem_cons.mpr ⟨nw_in_1, List.forall_mem_cons.mpr ⟨nw_in_2, List.forall_mem_cons.mpr ⟨nw_in_3, List.forall_mem_cons.mpr ⟨nw_in_4, List.forall_mem_cons.mpr ⟨nw_in_5, List.forall_mem_cons.mpr ⟨nw_in_6, List.forall_mem_cons.mpr ⟨nw_in_7, List.forall_mem_cons.mpr ⟨nw_in_8, List.forall_mem_cons.mpr ⟨nw_in_9, List.forall_mem_cons.mpr ⟨nw_in_10, List.forall_mem_cons.mpr ⟨nw_in_11, List.forall_mem_cons.mpr ⟨nw_in_12, List.forall_mem_cons.mpr ⟨nw_in_13, List.forall_mem_cons.mpr ⟨nw_in_14, List.forall_mem_cons.mpr ⟨nw_in_15, List.forall_mem_cons.mpr ⟨nw_in_16, List.forall_mem_cons.mpr ⟨nw_in_17, List.forall_mem_cons.mpr ⟨nw_in_18, List.forall_mem_cons.mpr ⟨nw_in_19, List.forall_mem_cons.mpr ⟨nw_in_20, List.forall_mem_cons.mpr ⟨nw_in_21, List.forall_mem_cons.mpr ⟨nw_in_22, List.forall_mem_cons.mpr ⟨nw_in_23, List.forall_mem_cons.mpr ⟨nw_in_24, List.forall_mem_cons.mpr ⟨nw_in_25, List.forall_mem_cons.mpr ⟨nw_in_26, List.forall_mem_cons.mpr ⟨nw_in_27, List.forall_mem_cons.mpr ⟨nw_in_28, List.forall_mem_cons.mpr ⟨nw_in_29, List.forall_mem_cons.mpr ⟨nw_in_30, List.forall_mem_cons.mpr ⟨nw_in_31, fun _ h => absurd h List.not_mem_nil⟩⟩⟩⟩⟩⟩⟩⟩⟩⟩⟩⟩⟩⟩⟩⟩⟩⟩⟩⟩⟩⟩⟩⟩⟩⟩⟩⟩⟩⟩⟩⟩
theorem ao_TE : Cond.arrayOver (.object "EndingsLab$Text") ∈ lw_tbl := List.mem_append_right _ (List.mem_of_getElem? (i := 28) rfl)
theorem ao_FR : Cond.arrayOver (.object "EndingsLab$Frame") ∈ lw_tbl := List.mem_append_right _ (List.mem_of_getElem? (i := 30) rfl)
theorem ls_TOO_LATE : Cond.laysStatic "EndingsLab$Ending" "TOO_LATE" "LEndingsLab$Ending;" ∈ lw_tbl := List.mem_append_right _ (List.mem_of_getElem? (i := 292) rfl)
set_option maxRecDepth 20000 in
theorem ls_ON : Cond.laysStatic "EndingsLab$Ending" "ON" "LEndingsLab$Ending;" ∈ lw_tbl := List.mem_append_right _ (List.mem_of_getElem? (i := 301) rfl)
set_option maxRecDepth 20000 in
theorem ls_FAULT : Cond.laysStatic "EndingsLab$Ending" "FAULT" "LEndingsLab$Ending;" ∈ lw_tbl := List.mem_append_right _ (List.mem_of_getElem? (i := 315) rfl)
set_option maxRecDepth 20000 in
theorem ls_BROKEN : Cond.laysStatic "EndingsLab$Ending" "BROKEN" "LEndingsLab$Ending;" ∈ lw_tbl := List.mem_append_right _ (List.mem_of_getElem? (i := 321) rfl)
set_option maxRecDepth 20000 in
theorem ls_NEXT_TIME : Cond.laysStatic "EndingsLab$Ending" "NEXT_TIME" "LEndingsLab$Ending;" ∈ lw_tbl := List.mem_append_right _ (List.mem_of_getElem? (i := 323) rfl)
set_option maxRecDepth 20000 in
theorem ls_VALUE : Cond.laysStatic "EndingsLab$Ending" "VALUE" "LEndingsLab$Ending;" ∈ lw_tbl := List.mem_append_right _ (List.mem_of_getElem? (i := 325) rfl)
end
section
/-! decode rows, written by wip/gen/names.py -/
theorem d_LB_init_0 : decode b_LB_init 0 = .ok (.aload_n 0, 1) := by decide +kernel
theorem d_LB_init_1 : decode b_LB_init 1 = .ok (.invokespecial 3, 3) := by decide +kernel
theorem d_LB_init_4 : decode b_LB_init 4 = .ok (.aload_n 0, 1) := by decide +kernel
theorem d_LB_init_5 : decode b_LB_init 5 = .ok (.new 9, 3) := by decide +kernel
theorem d_LB_init_8 : decode b_LB_init 8 = .ok (.dup, 1) := by decide +kernel
theorem d_LB_init_9 : decode b_LB_init 9 = .ok (.invokespecial 11, 3) := by decide +kernel
theorem d_LB_init_12 : decode b_LB_init 12 = .ok (.putfield 12, 3) := by decide +kernel
theorem d_LB_init_15 : decode b_LB_init 15 = .ok (.aload_n 0, 1) := by decide +kernel
theorem d_LB_init_16 : decode b_LB_init 16 = .ok (.new 16, 3) := by decide +kernel
theorem d_LB_init_19 : decode b_LB_init 19 = .ok (.dup, 1) := by decide +kernel
theorem d_LB_init_20 : decode b_LB_init 20 = .ok (.invokespecial 18, 3) := by decide +kernel
theorem d_LB_init_23 : decode b_LB_init 23 = .ok (.putfield 19, 3) := by decide +kernel
theorem d_LB_init_26 : decode b_LB_init 26 = .ok (.aload_n 0, 1) := by decide +kernel
theorem d_LB_init_27 : decode b_LB_init 27 = .ok (.iconst (-1), 1) := by decide +kernel
theorem d_LB_init_28 : decode b_LB_init 28 = .ok (.putfield 23, 3) := by decide +kernel
theorem d_LB_init_31 : decode b_LB_init 31 = .ok (.return_, 1) := by decide +kernel
theorem d_LB_token_0 : decode b_LB_token 0 = .ok (.iload_n 1, 1) := by decide +kernel
theorem d_LB_token_1 : decode b_LB_token 1 = .ok (.iconst 4, 1) := by decide +kernel
theorem d_LB_token_2 : decode b_LB_token 2 = .ok (.invokestatic 27, 3) := by decide +kernel
theorem d_LB_token_5 : decode b_LB_token 5 = .ok (.ifCond .eq 11, 3) := by decide +kernel
theorem d_LB_token_8 : decode b_LB_token 8 = .ok (.iload_n 2, 1) := by decide +kernel
theorem d_LB_token_9 : decode b_LB_token 9 = .ok (.iload_n 3, 1) := by decide +kernel
theorem d_LB_token_10 : decode b_LB_token 10 = .ok (.invokestatic 31, 3) := by decide +kernel
theorem d_LB_token_13 : decode b_LB_token 13 = .ok (.ifCond .ne 5, 3) := by decide +kernel
theorem d_LB_token_16 : decode b_LB_token 16 = .ok (.iconst (-1), 1) := by decide +kernel
theorem d_LB_token_17 : decode b_LB_token 17 = .ok (.ireturn, 1) := by decide +kernel
theorem d_LB_token_18 : decode b_LB_token 18 = .ok (.aload_n 0, 1) := by decide +kernel
theorem d_LB_token_19 : decode b_LB_token 19 = .ok (.getfield 12, 3) := by decide +kernel
theorem d_LB_token_22 : decode b_LB_token 22 = .ok (.getfield 34, 3) := by decide +kernel
theorem d_LB_token_25 : decode b_LB_token 25 = .ok (.iload_n 1, 1) := by decide +kernel
theorem d_LB_token_26 : decode b_LB_token 26 = .ok (.aaload, 1) := by decide +kernel
theorem d_LB_token_27 : decode b_LB_token 27 = .ok (.astore 4, 2) := by decide +kernel
theorem d_LB_token_29 : decode b_LB_token 29 = .ok (.aload 4, 2) := by decide +kernel
theorem d_LB_token_31 : decode b_LB_token 31 = .ok (.iload_n 2, 1) := by decide +kernel
theorem d_LB_token_32 : decode b_LB_token 32 = .ok (.iload_n 3, 1) := by decide +kernel
theorem d_LB_token_33 : decode b_LB_token 33 = .ok (.invokevirtual 38, 3) := by decide +kernel
theorem d_LB_token_36 : decode b_LB_token 36 = .ok (.ifCond .eq 11, 3) := by decide +kernel
theorem d_LB_token_39 : decode b_LB_token 39 = .ok (.aload 4, 2) := by decide +kernel
theorem d_LB_token_41 : decode b_LB_token 41 = .ok (.getfield 43, 3) := by decide +kernel
theorem d_LB_token_44 : decode b_LB_token 44 = .ok (.goto 5, 3) := by decide +kernel
theorem d_LB_token_47 : decode b_LB_token 47 = .ok (.bipush (-2), 2) := by decide +kernel
theorem d_LB_token_49 : decode b_LB_token 49 = .ok (.ireturn, 1) := by decide +kernel
theorem d_LB_wipe_0 : decode b_LB_wipe 0 = .ok (.iload_n 1, 1) := by decide +kernel
theorem d_LB_wipe_1 : decode b_LB_wipe 1 = .ok (.iconst 4, 1) := by decide +kernel
theorem d_LB_wipe_2 : decode b_LB_wipe 2 = .ok (.invokestatic 27, 3) := by decide +kernel
theorem d_LB_wipe_5 : decode b_LB_wipe 5 = .ok (.ifCond .ne 5, 3) := by decide +kernel
theorem d_LB_wipe_8 : decode b_LB_wipe 8 = .ok (.iconst (-1), 1) := by decide +kernel
theorem d_LB_wipe_9 : decode b_LB_wipe 9 = .ok (.ireturn, 1) := by decide +kernel
theorem d_LB_wipe_10 : decode b_LB_wipe 10 = .ok (.aload_n 0, 1) := by decide +kernel
theorem d_LB_wipe_11 : decode b_LB_wipe 11 = .ok (.getfield 12, 3) := by decide +kernel
theorem d_LB_wipe_14 : decode b_LB_wipe 14 = .ok (.getfield 34, 3) := by decide +kernel
theorem d_LB_wipe_17 : decode b_LB_wipe 17 = .ok (.iload_n 1, 1) := by decide +kernel
theorem d_LB_wipe_18 : decode b_LB_wipe 18 = .ok (.aaload, 1) := by decide +kernel
theorem d_LB_wipe_19 : decode b_LB_wipe 19 = .ok (.invokevirtual 46, 3) := by decide +kernel
theorem d_LB_wipe_22 : decode b_LB_wipe 22 = .ok (.ireturn, 1) := by decide +kernel
theorem d_LB_check_0 : decode b_LB_check 0 = .ok (.iload_n 1, 1) := by decide +kernel
theorem d_LB_check_1 : decode b_LB_check 1 = .ok (.iconst 4, 1) := by decide +kernel
theorem d_LB_check_2 : decode b_LB_check 2 = .ok (.invokestatic 27, 3) := by decide +kernel
theorem d_LB_check_5 : decode b_LB_check 5 = .ok (.ifCond .eq 11, 3) := by decide +kernel
theorem d_LB_check_8 : decode b_LB_check 8 = .ok (.aload_n 0, 1) := by decide +kernel
theorem d_LB_check_9 : decode b_LB_check 9 = .ok (.iload_n 1, 1) := by decide +kernel
theorem d_LB_check_10 : decode b_LB_check 10 = .ok (.invokevirtual 50, 3) := by decide +kernel
theorem d_LB_check_13 : decode b_LB_check 13 = .ok (.goto 4, 3) := by decide +kernel
theorem d_LB_check_16 : decode b_LB_check 16 = .ok (.iconst (-1), 1) := by decide +kernel
theorem d_LB_check_17 : decode b_LB_check 17 = .ok (.ireturn, 1) := by decide +kernel
theorem d_LB_place_0 : decode b_LB_place 0 = .ok (.aload_n 0, 1) := by decide +kernel
theorem d_LB_place_1 : decode b_LB_place 1 = .ok (.getfield 23, 3) := by decide +kernel
theorem d_LB_place_4 : decode b_LB_place 4 = .ok (.ireturn, 1) := by decide +kernel
theorem d_LB_run_0 : decode b_LB_run 0 = .ok (.iload_n 1, 1) := by decide +kernel
theorem d_LB_run_1 : decode b_LB_run 1 = .ok (.iconst 4, 1) := by decide +kernel
theorem d_LB_run_2 : decode b_LB_run 2 = .ok (.invokestatic 27, 3) := by decide +kernel
theorem d_LB_run_5 : decode b_LB_run 5 = .ok (.ifCond .ne 5, 3) := by decide +kernel
theorem d_LB_run_8 : decode b_LB_run 8 = .ok (.iconst (-1), 1) := by decide +kernel
theorem d_LB_run_9 : decode b_LB_run 9 = .ok (.ireturn, 1) := by decide +kernel
theorem d_LB_run_10 : decode b_LB_run 10 = .ok (.aload_n 0, 1) := by decide +kernel
theorem d_LB_run_11 : decode b_LB_run 11 = .ok (.iload_n 1, 1) := by decide +kernel
theorem d_LB_run_12 : decode b_LB_run 12 = .ok (.invokevirtual 54, 3) := by decide +kernel
theorem d_LB_run_15 : decode b_LB_run 15 = .ok (.ifCond .ne 15, 3) := by decide +kernel
theorem d_LB_run_18 : decode b_LB_run 18 = .ok (.aload_n 0, 1) := by decide +kernel
theorem d_LB_run_19 : decode b_LB_run 19 = .ok (.getfield 12, 3) := by decide +kernel
theorem d_LB_run_22 : decode b_LB_run 22 = .ok (.iload_n 1, 1) := by decide +kernel
theorem d_LB_run_23 : decode b_LB_run 23 = .ok (.iload_n 2, 1) := by decide +kernel
theorem d_LB_run_24 : decode b_LB_run 24 = .ok (.invokevirtual 57, 3) := by decide +kernel
theorem d_LB_run_27 : decode b_LB_run 27 = .ok (.goto 5, 3) := by decide +kernel
theorem d_LB_run_30 : decode b_LB_run 30 = .ok (.bipush (-3), 2) := by decide +kernel
theorem d_LB_run_32 : decode b_LB_run 32 = .ok (.ireturn, 1) := by decide +kernel
theorem d_LB_value_0 : decode b_LB_value 0 = .ok (.aload_n 0, 1) := by decide +kernel
theorem d_LB_value_1 : decode b_LB_value 1 = .ok (.getfield 12, 3) := by decide +kernel
theorem d_LB_value_4 : decode b_LB_value 4 = .ok (.getfield 61, 3) := by decide +kernel
theorem d_LB_value_7 : decode b_LB_value 7 = .ok (.ireturn, 1) := by decide +kernel
theorem d_LB_fault_0 : decode b_LB_fault 0 = .ok (.iload_n 1, 1) := by decide +kernel
theorem d_LB_fault_1 : decode b_LB_fault 1 = .ok (.ifCond .ge 7, 3) := by decide +kernel
theorem d_LB_fault_4 : decode b_LB_fault 4 = .ok (.iconst (-1), 1) := by decide +kernel
theorem d_LB_fault_5 : decode b_LB_fault 5 = .ok (.goto 31, 3) := by decide +kernel
theorem d_LB_fault_8 : decode b_LB_fault 8 = .ok (.aload_n 0, 1) := by decide +kernel
theorem d_LB_fault_9 : decode b_LB_fault 9 = .ok (.getfield 12, 3) := by decide +kernel
theorem d_LB_fault_12 : decode b_LB_fault 12 = .ok (.getfield 64, 3) := by decide +kernel
theorem d_LB_fault_15 : decode b_LB_fault 15 = .ok (.aload_n 0, 1) := by decide +kernel
theorem d_LB_fault_16 : decode b_LB_fault 16 = .ok (.getfield 12, 3) := by decide +kernel
theorem d_LB_fault_19 : decode b_LB_fault 19 = .ok (.getfield 64, 3) := by decide +kernel
theorem d_LB_fault_22 : decode b_LB_fault 22 = .ok (.aload_n 0, 1) := by decide +kernel
theorem d_LB_fault_23 : decode b_LB_fault 23 = .ok (.getfield 12, 3) := by decide +kernel
theorem d_LB_fault_26 : decode b_LB_fault 26 = .ok (.getfield 68, 3) := by decide +kernel
theorem d_LB_fault_29 : decode b_LB_fault 29 = .ok (.iload_n 1, 1) := by decide +kernel
theorem d_LB_fault_30 : decode b_LB_fault 30 = .ok (.invokevirtual 71, 3) := by decide +kernel
theorem d_LB_fault_33 : decode b_LB_fault 33 = .ok (.invokevirtual 76, 3) := by decide +kernel
theorem d_LB_fault_36 : decode b_LB_fault 36 = .ok (.ireturn, 1) := by decide +kernel
theorem d_LB_steps_0 : decode b_LB_steps 0 = .ok (.aload_n 0, 1) := by decide +kernel
theorem d_LB_steps_1 : decode b_LB_steps 1 = .ok (.getfield 12, 3) := by decide +kernel
theorem d_LB_steps_4 : decode b_LB_steps 4 = .ok (.getfield 79, 3) := by decide +kernel
theorem d_LB_steps_7 : decode b_LB_steps 7 = .ok (.ireturn, 1) := by decide +kernel
theorem d_LB_events_0 : decode b_LB_events 0 = .ok (.aload_n 0, 1) := by decide +kernel
theorem d_LB_events_1 : decode b_LB_events 1 = .ok (.getfield 12, 3) := by decide +kernel
theorem d_LB_events_4 : decode b_LB_events 4 = .ok (.getfield 82, 3) := by decide +kernel
theorem d_LB_events_7 : decode b_LB_events 7 = .ok (.getfield 86, 3) := by decide +kernel
theorem d_LB_events_10 : decode b_LB_events 10 = .ok (.ireturn, 1) := by decide +kernel
theorem d_LB_event_0 : decode b_LB_event 0 = .ok (.aload_n 0, 1) := by decide +kernel
theorem d_LB_event_1 : decode b_LB_event 1 = .ok (.getfield 12, 3) := by decide +kernel
theorem d_LB_event_4 : decode b_LB_event 4 = .ok (.getfield 82, 3) := by decide +kernel
theorem d_LB_event_7 : decode b_LB_event 7 = .ok (.iload_n 1, 1) := by decide +kernel
theorem d_LB_event_8 : decode b_LB_event 8 = .ok (.invokevirtual 91, 3) := by decide +kernel
theorem d_LB_event_11 : decode b_LB_event 11 = .ok (.ireturn, 1) := by decide +kernel
theorem d_LB_most_0 : decode b_LB_most 0 = .ok (.aload_n 0, 1) := by decide +kernel
theorem d_LB_most_1 : decode b_LB_most 1 = .ok (.getfield 12, 3) := by decide +kernel
theorem d_LB_most_4 : decode b_LB_most 4 = .ok (.getfield 94, 3) := by decide +kernel
theorem d_LB_most_7 : decode b_LB_most 7 = .ok (.getfield 98, 3) := by decide +kernel
theorem d_LB_most_10 : decode b_LB_most 10 = .ok (.ireturn, 1) := by decide +kernel
theorem d_LB_judge_0 : decode b_LB_judge 0 = .ok (.aload_n 0, 1) := by decide +kernel
theorem d_LB_judge_1 : decode b_LB_judge 1 = .ok (.getfield 19, 3) := by decide +kernel
theorem d_LB_judge_4 : decode b_LB_judge 4 = .ok (.aload_n 0, 1) := by decide +kernel
theorem d_LB_judge_5 : decode b_LB_judge 5 = .ok (.getfield 12, 3) := by decide +kernel
theorem d_LB_judge_8 : decode b_LB_judge 8 = .ok (.getfield 34, 3) := by decide +kernel
theorem d_LB_judge_11 : decode b_LB_judge 11 = .ok (.iload_n 1, 1) := by decide +kernel
theorem d_LB_judge_12 : decode b_LB_judge 12 = .ok (.aaload, 1) := by decide +kernel
theorem d_LB_judge_13 : decode b_LB_judge 13 = .ok (.invokevirtual 103, 3) := by decide +kernel
theorem d_LB_judge_16 : decode b_LB_judge 16 = .ok (.istore_n 2, 1) := by decide +kernel
theorem d_LB_judge_17 : decode b_LB_judge 17 = .ok (.aload_n 0, 1) := by decide +kernel
theorem d_LB_judge_18 : decode b_LB_judge 18 = .ok (.iload_n 2, 1) := by decide +kernel
theorem d_LB_judge_19 : decode b_LB_judge 19 = .ok (.iconst (-1), 1) := by decide +kernel
theorem d_LB_judge_20 : decode b_LB_judge 20 = .ok (.if_icmp .ne 7, 3) := by decide +kernel
theorem d_LB_judge_23 : decode b_LB_judge 23 = .ok (.iconst (-1), 1) := by decide +kernel
theorem d_LB_judge_24 : decode b_LB_judge 24 = .ok (.goto 9, 3) := by decide +kernel
theorem d_LB_judge_27 : decode b_LB_judge 27 = .ok (.bipush 32, 2) := by decide +kernel
theorem d_LB_judge_29 : decode b_LB_judge 29 = .ok (.iload_n 1, 1) := by decide +kernel
theorem d_LB_judge_30 : decode b_LB_judge 30 = .ok (.imul, 1) := by decide +kernel
theorem d_LB_judge_31 : decode b_LB_judge 31 = .ok (.iload_n 2, 1) := by decide +kernel
theorem d_LB_judge_32 : decode b_LB_judge 32 = .ok (.iadd, 1) := by decide +kernel
theorem d_LB_judge_33 : decode b_LB_judge 33 = .ok (.putfield 23, 3) := by decide +kernel
theorem d_LB_judge_36 : decode b_LB_judge 36 = .ok (.iload_n 2, 1) := by decide +kernel
theorem d_LB_judge_37 : decode b_LB_judge 37 = .ok (.iconst (-1), 1) := by decide +kernel
theorem d_LB_judge_38 : decode b_LB_judge 38 = .ok (.if_icmp .ne 7, 3) := by decide +kernel
theorem d_LB_judge_41 : decode b_LB_judge 41 = .ok (.iconst 0, 1) := by decide +kernel
theorem d_LB_judge_42 : decode b_LB_judge 42 = .ok (.goto 5, 3) := by decide +kernel
theorem d_LB_judge_45 : decode b_LB_judge 45 = .ok (.bipush (-3), 2) := by decide +kernel
theorem d_LB_judge_47 : decode b_LB_judge 47 = .ok (.ireturn, 1) := by decide +kernel
theorem d_LB_judgeAll_0 : decode b_LB_judgeAll 0 = .ok (.iconst 0, 1) := by decide +kernel
theorem d_LB_judgeAll_1 : decode b_LB_judgeAll 1 = .ok (.istore_n 2, 1) := by decide +kernel
theorem d_LB_judgeAll_2 : decode b_LB_judgeAll 2 = .ok (.iload_n 2, 1) := by decide +kernel
theorem d_LB_judgeAll_3 : decode b_LB_judgeAll 3 = .ok (.iconst 4, 1) := by decide +kernel
theorem d_LB_judgeAll_4 : decode b_LB_judgeAll 4 = .ok (.if_icmp .ge 42, 3) := by decide +kernel
theorem d_LB_judgeAll_7 : decode b_LB_judgeAll 7 = .ok (.iload_n 2, 1) := by decide +kernel
theorem d_LB_judgeAll_8 : decode b_LB_judgeAll 8 = .ok (.iload_n 1, 1) := by decide +kernel
theorem d_LB_judgeAll_9 : decode b_LB_judgeAll 9 = .ok (.if_icmp .eq 18, 3) := by decide +kernel
theorem d_LB_judgeAll_12 : decode b_LB_judgeAll 12 = .ok (.aload_n 0, 1) := by decide +kernel
theorem d_LB_judgeAll_13 : decode b_LB_judgeAll 13 = .ok (.getfield 12, 3) := by decide +kernel
theorem d_LB_judgeAll_16 : decode b_LB_judgeAll 16 = .ok (.getfield 34, 3) := by decide +kernel
theorem d_LB_judgeAll_19 : decode b_LB_judgeAll 19 = .ok (.iload_n 2, 1) := by decide +kernel
theorem d_LB_judgeAll_20 : decode b_LB_judgeAll 20 = .ok (.aaload, 1) := by decide +kernel
theorem d_LB_judgeAll_21 : decode b_LB_judgeAll 21 = .ok (.getfield 43, 3) := by decide +kernel
theorem d_LB_judgeAll_24 : decode b_LB_judgeAll 24 = .ok (.ifCond .le 16, 3) := by decide +kernel
theorem d_LB_judgeAll_27 : decode b_LB_judgeAll 27 = .ok (.aload_n 0, 1) := by decide +kernel
theorem d_LB_judgeAll_28 : decode b_LB_judgeAll 28 = .ok (.iload_n 2, 1) := by decide +kernel
theorem d_LB_judgeAll_29 : decode b_LB_judgeAll 29 = .ok (.invokevirtual 50, 3) := by decide +kernel
theorem d_LB_judgeAll_32 : decode b_LB_judgeAll 32 = .ok (.bipush (-3), 2) := by decide +kernel
theorem d_LB_judgeAll_34 : decode b_LB_judgeAll 34 = .ok (.if_icmp .ne 6, 3) := by decide +kernel
theorem d_LB_judgeAll_37 : decode b_LB_judgeAll 37 = .ok (.bipush (-3), 2) := by decide +kernel
theorem d_LB_judgeAll_39 : decode b_LB_judgeAll 39 = .ok (.ireturn, 1) := by decide +kernel
theorem d_LB_judgeAll_40 : decode b_LB_judgeAll 40 = .ok (.iinc 2 1, 3) := by decide +kernel
theorem d_LB_judgeAll_43 : decode b_LB_judgeAll 43 = .ok (.goto (-41), 3) := by decide +kernel
theorem d_LB_judgeAll_46 : decode b_LB_judgeAll 46 = .ok (.iconst 0, 1) := by decide +kernel
theorem d_LB_judgeAll_47 : decode b_LB_judgeAll 47 = .ok (.ireturn, 1) := by decide +kernel
theorem d_LB_isToken_0 : decode b_LB_isToken 0 = .ok (.iload_n 0, 1) := by decide +kernel
theorem d_LB_isToken_1 : decode b_LB_isToken 1 = .ok (.tableswitch 106 3 16 #[71, 106, 106, 106, 78, 78, 85, 94, 94, 94, 100, 106, 94, 78], 71) := by decide +kernel
theorem d_LB_isToken_72 : decode b_LB_isToken 72 = .ok (.iload_n 1, 1) := by decide +kernel
theorem d_LB_isToken_73 : decode b_LB_isToken 73 = .ok (.bipush 6, 2) := by decide +kernel
theorem d_LB_isToken_75 : decode b_LB_isToken 75 = .ok (.invokestatic 27, 3) := by decide +kernel
theorem d_LB_isToken_78 : decode b_LB_isToken 78 = .ok (.ireturn, 1) := by decide +kernel
theorem d_LB_isToken_79 : decode b_LB_isToken 79 = .ok (.iload_n 1, 1) := by decide +kernel
theorem d_LB_isToken_80 : decode b_LB_isToken 80 = .ok (.bipush 7, 2) := by decide +kernel
theorem d_LB_isToken_82 : decode b_LB_isToken 82 = .ok (.invokestatic 27, 3) := by decide +kernel
theorem d_LB_isToken_85 : decode b_LB_isToken 85 = .ok (.ireturn, 1) := by decide +kernel
theorem d_LB_isToken_86 : decode b_LB_isToken 86 = .ok (.iload_n 1, 1) := by decide +kernel
theorem d_LB_isToken_87 : decode b_LB_isToken 87 = .ok (.bipush (-5), 2) := by decide +kernel
theorem d_LB_isToken_89 : decode b_LB_isToken 89 = .ok (.iand, 1) := by decide +kernel
theorem d_LB_isToken_90 : decode b_LB_isToken 90 = .ok (.iconst 3, 1) := by decide +kernel
theorem d_LB_isToken_91 : decode b_LB_isToken 91 = .ok (.invokestatic 27, 3) := by decide +kernel
theorem d_LB_isToken_94 : decode b_LB_isToken 94 = .ok (.ireturn, 1) := by decide +kernel
theorem d_LB_isToken_95 : decode b_LB_isToken 95 = .ok (.iload_n 1, 1) := by decide +kernel
theorem d_LB_isToken_96 : decode b_LB_isToken 96 = .ok (.iconst 3, 1) := by decide +kernel
theorem d_LB_isToken_97 : decode b_LB_isToken 97 = .ok (.invokestatic 27, 3) := by decide +kernel
theorem d_LB_isToken_100 : decode b_LB_isToken 100 = .ok (.ireturn, 1) := by decide +kernel
theorem d_LB_isToken_101 : decode b_LB_isToken 101 = .ok (.iload_n 1, 1) := by decide +kernel
theorem d_LB_isToken_102 : decode b_LB_isToken 102 = .ok (.iconst 4, 1) := by decide +kernel
theorem d_LB_isToken_103 : decode b_LB_isToken 103 = .ok (.invokestatic 27, 3) := by decide +kernel
theorem d_LB_isToken_106 : decode b_LB_isToken 106 = .ok (.ireturn, 1) := by decide +kernel
theorem d_LB_isToken_107 : decode b_LB_isToken 107 = .ok (.iload_n 0, 1) := by decide +kernel
theorem d_LB_isToken_108 : decode b_LB_isToken 108 = .ok (.bipush 19, 2) := by decide +kernel
theorem d_LB_isToken_110 : decode b_LB_isToken 110 = .ok (.invokestatic 27, 3) := by decide +kernel
theorem d_LB_isToken_113 : decode b_LB_isToken 113 = .ok (.ireturn, 1) := by decide +kernel
theorem d_LB_isBelow_0 : decode b_LB_isBelow 0 = .ok (.iload_n 0, 1) := by decide +kernel
theorem d_LB_isBelow_1 : decode b_LB_isBelow 1 = .ok (.ifCond .lt 12, 3) := by decide +kernel
theorem d_LB_isBelow_4 : decode b_LB_isBelow 4 = .ok (.iload_n 0, 1) := by decide +kernel
theorem d_LB_isBelow_5 : decode b_LB_isBelow 5 = .ok (.iload_n 1, 1) := by decide +kernel
theorem d_LB_isBelow_6 : decode b_LB_isBelow 6 = .ok (.if_icmp .ge 7, 3) := by decide +kernel
theorem d_LB_isBelow_9 : decode b_LB_isBelow 9 = .ok (.iconst 1, 1) := by decide +kernel
theorem d_LB_isBelow_10 : decode b_LB_isBelow 10 = .ok (.goto 4, 3) := by decide +kernel
theorem d_LB_isBelow_13 : decode b_LB_isBelow 13 = .ok (.iconst 0, 1) := by decide +kernel
theorem d_LB_isBelow_14 : decode b_LB_isBelow 14 = .ok (.ireturn, 1) := by decide +kernel
theorem d_LB_isOfKind_0 : decode b_LB_isOfKind 0 = .ok (.iload_n 1, 1) := by decide +kernel
theorem d_LB_isOfKind_1 : decode b_LB_isOfKind 1 = .ok (.ifCond .eq 29, 3) := by decide +kernel
theorem d_LB_isOfKind_4 : decode b_LB_isOfKind 4 = .ok (.iload_n 0, 1) := by decide +kernel
theorem d_LB_isOfKind_5 : decode b_LB_isOfKind 5 = .ok (.iload_n 1, 1) := by decide +kernel
theorem d_LB_isOfKind_6 : decode b_LB_isOfKind 6 = .ok (.if_icmp .eq 24, 3) := by decide +kernel
theorem d_LB_isOfKind_9 : decode b_LB_isOfKind 9 = .ok (.iload_n 0, 1) := by decide +kernel
theorem d_LB_isOfKind_10 : decode b_LB_isOfKind 10 = .ok (.iconst 3, 1) := by decide +kernel
theorem d_LB_isOfKind_11 : decode b_LB_isOfKind 11 = .ok (.if_icmp .ne 8, 3) := by decide +kernel
theorem d_LB_isOfKind_14 : decode b_LB_isOfKind 14 = .ok (.iload_n 1, 1) := by decide +kernel
theorem d_LB_isOfKind_15 : decode b_LB_isOfKind 15 = .ok (.iconst 1, 1) := by decide +kernel
theorem d_LB_isOfKind_16 : decode b_LB_isOfKind 16 = .ok (.if_icmp .eq 14, 3) := by decide +kernel
theorem d_LB_isOfKind_19 : decode b_LB_isOfKind 19 = .ok (.iload_n 0, 1) := by decide +kernel
theorem d_LB_isOfKind_20 : decode b_LB_isOfKind 20 = .ok (.bipush 6, 2) := by decide +kernel
theorem d_LB_isOfKind_22 : decode b_LB_isOfKind 22 = .ok (.if_icmp .ne 12, 3) := by decide +kernel
theorem d_LB_isOfKind_25 : decode b_LB_isOfKind 25 = .ok (.iload_n 1, 1) := by decide +kernel
theorem d_LB_isOfKind_26 : decode b_LB_isOfKind 26 = .ok (.iconst 2, 1) := by decide +kernel
theorem d_LB_isOfKind_27 : decode b_LB_isOfKind 27 = .ok (.if_icmp .ne 7, 3) := by decide +kernel
theorem d_LB_isOfKind_30 : decode b_LB_isOfKind 30 = .ok (.iconst 1, 1) := by decide +kernel
theorem d_LB_isOfKind_31 : decode b_LB_isOfKind 31 = .ok (.goto 4, 3) := by decide +kernel
theorem d_LB_isOfKind_34 : decode b_LB_isOfKind 34 = .ok (.iconst 0, 1) := by decide +kernel
theorem d_LB_isOfKind_35 : decode b_LB_isOfKind 35 = .ok (.ireturn, 1) := by decide +kernel
theorem d_CH_init_0 : decode b_CH_init 0 = .ok (.aload_n 0, 1) := by decide +kernel
theorem d_CH_init_1 : decode b_CH_init 1 = .ok (.invokespecial 3, 3) := by decide +kernel
theorem d_CH_init_4 : decode b_CH_init 4 = .ok (.aload_n 0, 1) := by decide +kernel
theorem d_CH_init_5 : decode b_CH_init 5 = .ok (.bipush 7, 2) := by decide +kernel
theorem d_CH_init_7 : decode b_CH_init 7 = .ok (.newarray .int, 2) := by decide +kernel
theorem d_CH_init_9 : decode b_CH_init 9 = .ok (.putfield 9, 3) := by decide +kernel
theorem d_CH_init_12 : decode b_CH_init 12 = .ok (.aload_n 0, 1) := by decide +kernel
theorem d_CH_init_13 : decode b_CH_init 13 = .ok (.bipush 7, 2) := by decide +kernel
theorem d_CH_init_15 : decode b_CH_init 15 = .ok (.newarray .boolean, 2) := by decide +kernel
theorem d_CH_init_17 : decode b_CH_init 17 = .ok (.putfield 15, 3) := by decide +kernel
theorem d_CH_init_20 : decode b_CH_init 20 = .ok (.aload_n 0, 1) := by decide +kernel
theorem d_CH_init_21 : decode b_CH_init 21 = .ok (.bipush 7, 2) := by decide +kernel
theorem d_CH_init_23 : decode b_CH_init 23 = .ok (.newarray .boolean, 2) := by decide +kernel
theorem d_CH_init_25 : decode b_CH_init 25 = .ok (.putfield 19, 3) := by decide +kernel
theorem d_CH_init_28 : decode b_CH_init 28 = .ok (.aload_n 0, 1) := by decide +kernel
theorem d_CH_init_29 : decode b_CH_init 29 = .ok (.bipush 7, 2) := by decide +kernel
theorem d_CH_init_31 : decode b_CH_init 31 = .ok (.newarray .int, 2) := by decide +kernel
theorem d_CH_init_33 : decode b_CH_init 33 = .ok (.putfield 22, 3) := by decide +kernel
theorem d_CH_init_36 : decode b_CH_init 36 = .ok (.return_, 1) := by decide +kernel
theorem d_CH_firstWrong_0 : decode b_CH_firstWrong 0 = .ok (.aload_n 0, 1) := by decide +kernel
theorem d_CH_firstWrong_1 : decode b_CH_firstWrong 1 = .ok (.iconst 0, 1) := by decide +kernel
theorem d_CH_firstWrong_2 : decode b_CH_firstWrong 2 = .ok (.putfield 25, 3) := by decide +kernel
theorem d_CH_firstWrong_5 : decode b_CH_firstWrong 5 = .ok (.aload_n 0, 1) := by decide +kernel
theorem d_CH_firstWrong_6 : decode b_CH_firstWrong 6 = .ok (.iconst (-1), 1) := by decide +kernel
theorem d_CH_firstWrong_7 : decode b_CH_firstWrong 7 = .ok (.iconst 0, 1) := by decide +kernel
theorem d_CH_firstWrong_8 : decode b_CH_firstWrong 8 = .ok (.iconst 0, 1) := by decide +kernel
theorem d_CH_firstWrong_9 : decode b_CH_firstWrong 9 = .ok (.invokevirtual 29, 3) := by decide +kernel
theorem d_CH_firstWrong_12 : decode b_CH_firstWrong 12 = .ok (.iconst 0, 1) := by decide +kernel
theorem d_CH_firstWrong_13 : decode b_CH_firstWrong 13 = .ok (.istore_n 2, 1) := by decide +kernel
theorem d_CH_firstWrong_14 : decode b_CH_firstWrong 14 = .ok (.iload_n 2, 1) := by decide +kernel
theorem d_CH_firstWrong_15 : decode b_CH_firstWrong 15 = .ok (.aload_n 1, 1) := by decide +kernel
theorem d_CH_firstWrong_16 : decode b_CH_firstWrong 16 = .ok (.getfield 33, 3) := by decide +kernel
theorem d_CH_firstWrong_19 : decode b_CH_firstWrong 19 = .ok (.if_icmp .ge 37, 3) := by decide +kernel
theorem d_CH_firstWrong_22 : decode b_CH_firstWrong 22 = .ok (.aload_n 0, 1) := by decide +kernel
theorem d_CH_firstWrong_23 : decode b_CH_firstWrong 23 = .ok (.getfield 25, 3) := by decide +kernel
theorem d_CH_firstWrong_26 : decode b_CH_firstWrong 26 = .ok (.ifCond .eq 16, 3) := by decide +kernel
theorem d_CH_firstWrong_29 : decode b_CH_firstWrong 29 = .ok (.aload_n 0, 1) := by decide +kernel
theorem d_CH_firstWrong_30 : decode b_CH_firstWrong 30 = .ok (.aload_n 1, 1) := by decide +kernel
theorem d_CH_firstWrong_31 : decode b_CH_firstWrong 31 = .ok (.getfield 38, 3) := by decide +kernel
theorem d_CH_firstWrong_34 : decode b_CH_firstWrong 34 = .ok (.iload_n 2, 1) := by decide +kernel
theorem d_CH_firstWrong_35 : decode b_CH_firstWrong 35 = .ok (.iaload, 1) := by decide +kernel
theorem d_CH_firstWrong_36 : decode b_CH_firstWrong 36 = .ok (.invokevirtual 41, 3) := by decide +kernel
theorem d_CH_firstWrong_39 : decode b_CH_firstWrong 39 = .ok (.ifCond .ne 5, 3) := by decide +kernel
theorem d_CH_firstWrong_42 : decode b_CH_firstWrong 42 = .ok (.iload_n 2, 1) := by decide +kernel
theorem d_CH_firstWrong_43 : decode b_CH_firstWrong 43 = .ok (.ireturn, 1) := by decide +kernel
theorem d_CH_firstWrong_44 : decode b_CH_firstWrong 44 = .ok (.aload_n 0, 1) := by decide +kernel
theorem d_CH_firstWrong_45 : decode b_CH_firstWrong 45 = .ok (.aload_n 1, 1) := by decide +kernel
theorem d_CH_firstWrong_46 : decode b_CH_firstWrong 46 = .ok (.iload_n 2, 1) := by decide +kernel
theorem d_CH_firstWrong_47 : decode b_CH_firstWrong 47 = .ok (.invokevirtual 45, 3) := by decide +kernel
theorem d_CH_firstWrong_50 : decode b_CH_firstWrong 50 = .ok (.iinc 2 1, 3) := by decide +kernel
theorem d_CH_firstWrong_53 : decode b_CH_firstWrong 53 = .ok (.goto (-39), 3) := by decide +kernel
theorem d_CH_firstWrong_56 : decode b_CH_firstWrong 56 = .ok (.aload_n 0, 1) := by decide +kernel
theorem d_CH_firstWrong_57 : decode b_CH_firstWrong 57 = .ok (.getfield 25, 3) := by decide +kernel
theorem d_CH_firstWrong_60 : decode b_CH_firstWrong 60 = .ok (.ifCond .ne 7, 3) := by decide +kernel
theorem d_CH_firstWrong_63 : decode b_CH_firstWrong 63 = .ok (.iconst (-1), 1) := by decide +kernel
theorem d_CH_firstWrong_64 : decode b_CH_firstWrong 64 = .ok (.goto 7, 3) := by decide +kernel
theorem d_CH_firstWrong_67 : decode b_CH_firstWrong 67 = .ok (.aload_n 1, 1) := by decide +kernel
theorem d_CH_firstWrong_68 : decode b_CH_firstWrong 68 = .ok (.getfield 33, 3) := by decide +kernel
theorem d_CH_firstWrong_71 : decode b_CH_firstWrong 71 = .ok (.ireturn, 1) := by decide +kernel
theorem d_CH_mayStand_0 : decode b_CH_mayStand 0 = .ok (.aload_n 0, 1) := by decide +kernel
theorem d_CH_mayStand_1 : decode b_CH_mayStand 1 = .ok (.getfield 22, 3) := by decide +kernel
theorem d_CH_mayStand_4 : decode b_CH_mayStand 4 = .ok (.aload_n 0, 1) := by decide +kernel
theorem d_CH_mayStand_5 : decode b_CH_mayStand 5 = .ok (.getfield 25, 3) := by decide +kernel
theorem d_CH_mayStand_8 : decode b_CH_mayStand 8 = .ok (.iaload, 1) := by decide +kernel
theorem d_CH_mayStand_9 : decode b_CH_mayStand 9 = .ok (.ifCond .eq 34, 3) := by decide +kernel
theorem d_CH_mayStand_12 : decode b_CH_mayStand 12 = .ok (.iload_n 1, 1) := by decide +kernel
theorem d_CH_mayStand_13 : decode b_CH_mayStand 13 = .ok (.aload_n 0, 1) := by decide +kernel
theorem d_CH_mayStand_14 : decode b_CH_mayStand 14 = .ok (.getfield 22, 3) := by decide +kernel
theorem d_CH_mayStand_17 : decode b_CH_mayStand 17 = .ok (.aload_n 0, 1) := by decide +kernel
theorem d_CH_mayStand_18 : decode b_CH_mayStand 18 = .ok (.getfield 25, 3) := by decide +kernel
theorem d_CH_mayStand_21 : decode b_CH_mayStand 21 = .ok (.iaload, 1) := by decide +kernel
theorem d_CH_mayStand_22 : decode b_CH_mayStand 22 = .ok (.iconst 3, 1) := by decide +kernel
theorem d_CH_mayStand_23 : decode b_CH_mayStand 23 = .ok (.iand, 1) := by decide +kernel
theorem d_CH_mayStand_24 : decode b_CH_mayStand 24 = .ok (.ifCond .eq 8, 3) := by decide +kernel
theorem d_CH_mayStand_27 : decode b_CH_mayStand 27 = .ok (.bipush 16, 2) := by decide +kernel
theorem d_CH_mayStand_29 : decode b_CH_mayStand 29 = .ok (.goto 5, 3) := by decide +kernel
theorem d_CH_mayStand_32 : decode b_CH_mayStand 32 = .ok (.bipush 17, 2) := by decide +kernel
theorem d_CH_mayStand_34 : decode b_CH_mayStand 34 = .ok (.if_icmp .ne 7, 3) := by decide +kernel
theorem d_CH_mayStand_37 : decode b_CH_mayStand 37 = .ok (.iconst 1, 1) := by decide +kernel
theorem d_CH_mayStand_38 : decode b_CH_mayStand 38 = .ok (.goto 4, 3) := by decide +kernel
theorem d_CH_mayStand_41 : decode b_CH_mayStand 41 = .ok (.iconst 0, 1) := by decide +kernel
theorem d_CH_mayStand_42 : decode b_CH_mayStand 42 = .ok (.ireturn, 1) := by decide +kernel
theorem d_CH_mayStand_43 : decode b_CH_mayStand 43 = .ok (.iload_n 1, 1) := by decide +kernel
theorem d_CH_mayStand_44 : decode b_CH_mayStand 44 = .ok (.tableswitch 113 3 17 #[98, 78, 78, 113, 113, 88, 98, 98, 113, 113, 113, 98, 113, 76, 76], 76) := by decide +kernel
theorem d_CH_mayStand_120 : decode b_CH_mayStand 120 = .ok (.iconst 0, 1) := by decide +kernel
theorem d_CH_mayStand_121 : decode b_CH_mayStand 121 = .ok (.ireturn, 1) := by decide +kernel
theorem d_CH_mayStand_122 : decode b_CH_mayStand 122 = .ok (.aload_n 0, 1) := by decide +kernel
theorem d_CH_mayStand_123 : decode b_CH_mayStand 123 = .ok (.getfield 15, 3) := by decide +kernel
theorem d_CH_mayStand_126 : decode b_CH_mayStand 126 = .ok (.aload_n 0, 1) := by decide +kernel
theorem d_CH_mayStand_127 : decode b_CH_mayStand 127 = .ok (.getfield 25, 3) := by decide +kernel
theorem d_CH_mayStand_130 : decode b_CH_mayStand 130 = .ok (.baload, 1) := by decide +kernel
theorem d_CH_mayStand_131 : decode b_CH_mayStand 131 = .ok (.ireturn, 1) := by decide +kernel
theorem d_CH_mayStand_132 : decode b_CH_mayStand 132 = .ok (.aload_n 0, 1) := by decide +kernel
theorem d_CH_mayStand_133 : decode b_CH_mayStand 133 = .ok (.getfield 19, 3) := by decide +kernel
theorem d_CH_mayStand_136 : decode b_CH_mayStand 136 = .ok (.aload_n 0, 1) := by decide +kernel
theorem d_CH_mayStand_137 : decode b_CH_mayStand 137 = .ok (.getfield 25, 3) := by decide +kernel
theorem d_CH_mayStand_140 : decode b_CH_mayStand 140 = .ok (.baload, 1) := by decide +kernel
theorem d_CH_mayStand_141 : decode b_CH_mayStand 141 = .ok (.ireturn, 1) := by decide +kernel
theorem d_CH_mayStand_142 : decode b_CH_mayStand 142 = .ok (.aload_n 0, 1) := by decide +kernel
theorem d_CH_mayStand_143 : decode b_CH_mayStand 143 = .ok (.getfield 25, 3) := by decide +kernel
theorem d_CH_mayStand_146 : decode b_CH_mayStand 146 = .ok (.bipush 6, 2) := by decide +kernel
theorem d_CH_mayStand_148 : decode b_CH_mayStand 148 = .ok (.if_icmp .ge 7, 3) := by decide +kernel
theorem d_CH_mayStand_151 : decode b_CH_mayStand 151 = .ok (.iconst 1, 1) := by decide +kernel
theorem d_CH_mayStand_152 : decode b_CH_mayStand 152 = .ok (.goto 4, 3) := by decide +kernel
theorem d_CH_mayStand_155 : decode b_CH_mayStand 155 = .ok (.iconst 0, 1) := by decide +kernel
theorem d_CH_mayStand_156 : decode b_CH_mayStand 156 = .ok (.ireturn, 1) := by decide +kernel
theorem d_CH_mayStand_157 : decode b_CH_mayStand 157 = .ok (.iconst 1, 1) := by decide +kernel
theorem d_CH_mayStand_158 : decode b_CH_mayStand 158 = .ok (.ireturn, 1) := by decide +kernel
theorem d_CH_take_0 : decode b_CH_take 0 = .ok (.aload_n 1, 1) := by decide +kernel
theorem d_CH_take_1 : decode b_CH_take 1 = .ok (.getfield 49, 3) := by decide +kernel
theorem d_CH_take_4 : decode b_CH_take 4 = .ok (.iload_n 2, 1) := by decide +kernel
theorem d_CH_take_5 : decode b_CH_take 5 = .ok (.iload_n 2, 1) := by decide +kernel
theorem d_CH_take_6 : decode b_CH_take 6 = .ok (.iastore, 1) := by decide +kernel
theorem d_CH_take_7 : decode b_CH_take 7 = .ok (.aload_n 1, 1) := by decide +kernel
theorem d_CH_take_8 : decode b_CH_take 8 = .ok (.getfield 38, 3) := by decide +kernel
theorem d_CH_take_11 : decode b_CH_take 11 = .ok (.iload_n 2, 1) := by decide +kernel
theorem d_CH_take_12 : decode b_CH_take 12 = .ok (.iaload, 1) := by decide +kernel
theorem d_CH_take_13 : decode b_CH_take 13 = .ok (.tableswitch 176 3 18 #[156, 176, 176, 176, 176, 176, 88, 166, 176, 176, 176, 166, 176, 113, 136, 79], 79) := by decide +kernel
theorem d_CH_take_92 : decode b_CH_take 92 = .ok (.aload_n 0, 1) := by decide +kernel
theorem d_CH_take_93 : decode b_CH_take 93 = .ok (.aload_n 1, 1) := by decide +kernel
theorem d_CH_take_94 : decode b_CH_take 94 = .ok (.iload_n 2, 1) := by decide +kernel
theorem d_CH_take_95 : decode b_CH_take 95 = .ok (.invokevirtual 52, 3) := by decide +kernel
theorem d_CH_take_98 : decode b_CH_take 98 = .ok (.goto 91, 3) := by decide +kernel
theorem d_CH_take_101 : decode b_CH_take 101 = .ok (.aload_n 0, 1) := by decide +kernel
theorem d_CH_take_102 : decode b_CH_take 102 = .ok (.getfield 22, 3) := by decide +kernel
theorem d_CH_take_105 : decode b_CH_take 105 = .ok (.aload_n 0, 1) := by decide +kernel
theorem d_CH_take_106 : decode b_CH_take 106 = .ok (.getfield 25, 3) := by decide +kernel
theorem d_CH_take_109 : decode b_CH_take 109 = .ok (.aload_n 1, 1) := by decide +kernel
theorem d_CH_take_110 : decode b_CH_take 110 = .ok (.getfield 55, 3) := by decide +kernel
theorem d_CH_take_113 : decode b_CH_take 113 = .ok (.iload_n 2, 1) := by decide +kernel
theorem d_CH_take_114 : decode b_CH_take 114 = .ok (.iaload, 1) := by decide +kernel
theorem d_CH_take_115 : decode b_CH_take 115 = .ok (.iastore, 1) := by decide +kernel
theorem d_CH_take_116 : decode b_CH_take 116 = .ok (.aload_n 0, 1) := by decide +kernel
theorem d_CH_take_117 : decode b_CH_take 117 = .ok (.iload_n 2, 1) := by decide +kernel
theorem d_CH_take_118 : decode b_CH_take 118 = .ok (.iconst 0, 1) := by decide +kernel
theorem d_CH_take_119 : decode b_CH_take 119 = .ok (.iconst 0, 1) := by decide +kernel
theorem d_CH_take_120 : decode b_CH_take 120 = .ok (.invokevirtual 29, 3) := by decide +kernel
theorem d_CH_take_123 : decode b_CH_take 123 = .ok (.goto 66, 3) := by decide +kernel
theorem d_CH_take_126 : decode b_CH_take 126 = .ok (.aload_n 0, 1) := by decide +kernel
theorem d_CH_take_127 : decode b_CH_take 127 = .ok (.getfield 22, 3) := by decide +kernel
theorem d_CH_take_130 : decode b_CH_take 130 = .ok (.aload_n 0, 1) := by decide +kernel
theorem d_CH_take_131 : decode b_CH_take 131 = .ok (.getfield 25, 3) := by decide +kernel
theorem d_CH_take_134 : decode b_CH_take 134 = .ok (.dup2, 1) := by decide +kernel
theorem d_CH_take_135 : decode b_CH_take 135 = .ok (.iaload, 1) := by decide +kernel
theorem d_CH_take_136 : decode b_CH_take 136 = .ok (.iconst 1, 1) := by decide +kernel
theorem d_CH_take_137 : decode b_CH_take 137 = .ok (.isub, 1) := by decide +kernel
theorem d_CH_take_138 : decode b_CH_take 138 = .ok (.iastore, 1) := by decide +kernel
theorem d_CH_take_139 : decode b_CH_take 139 = .ok (.aload_n 0, 1) := by decide +kernel
theorem d_CH_take_140 : decode b_CH_take 140 = .ok (.iload_n 2, 1) := by decide +kernel
theorem d_CH_take_141 : decode b_CH_take 141 = .ok (.iconst 0, 1) := by decide +kernel
theorem d_CH_take_142 : decode b_CH_take 142 = .ok (.iconst 1, 1) := by decide +kernel
theorem d_CH_take_143 : decode b_CH_take 143 = .ok (.invokevirtual 29, 3) := by decide +kernel
theorem d_CH_take_146 : decode b_CH_take 146 = .ok (.goto 43, 3) := by decide +kernel
theorem d_CH_take_149 : decode b_CH_take 149 = .ok (.aload_n 0, 1) := by decide +kernel
theorem d_CH_take_150 : decode b_CH_take 150 = .ok (.getfield 22, 3) := by decide +kernel
theorem d_CH_take_153 : decode b_CH_take 153 = .ok (.aload_n 0, 1) := by decide +kernel
theorem d_CH_take_154 : decode b_CH_take 154 = .ok (.getfield 25, 3) := by decide +kernel
theorem d_CH_take_157 : decode b_CH_take 157 = .ok (.iconst 0, 1) := by decide +kernel
theorem d_CH_take_158 : decode b_CH_take 158 = .ok (.iastore, 1) := by decide +kernel
theorem d_CH_take_159 : decode b_CH_take 159 = .ok (.aload_n 0, 1) := by decide +kernel
theorem d_CH_take_160 : decode b_CH_take 160 = .ok (.iload_n 2, 1) := by decide +kernel
theorem d_CH_take_161 : decode b_CH_take 161 = .ok (.iconst 0, 1) := by decide +kernel
theorem d_CH_take_162 : decode b_CH_take 162 = .ok (.iconst 0, 1) := by decide +kernel
theorem d_CH_take_163 : decode b_CH_take 163 = .ok (.invokevirtual 29, 3) := by decide +kernel
theorem d_CH_take_166 : decode b_CH_take 166 = .ok (.goto 23, 3) := by decide +kernel
theorem d_CH_take_169 : decode b_CH_take 169 = .ok (.aload_n 0, 1) := by decide +kernel
theorem d_CH_take_170 : decode b_CH_take 170 = .ok (.iload_n 2, 1) := by decide +kernel
theorem d_CH_take_171 : decode b_CH_take 171 = .ok (.iconst 1, 1) := by decide +kernel
theorem d_CH_take_172 : decode b_CH_take 172 = .ok (.iconst 0, 1) := by decide +kernel
theorem d_CH_take_173 : decode b_CH_take 173 = .ok (.invokevirtual 29, 3) := by decide +kernel
theorem d_CH_take_176 : decode b_CH_take 176 = .ok (.goto 13, 3) := by decide +kernel
theorem d_CH_take_179 : decode b_CH_take 179 = .ok (.aload_n 0, 1) := by decide +kernel
theorem d_CH_take_180 : decode b_CH_take 180 = .ok (.iload_n 2, 1) := by decide +kernel
theorem d_CH_take_181 : decode b_CH_take 181 = .ok (.iconst 0, 1) := by decide +kernel
theorem d_CH_take_182 : decode b_CH_take 182 = .ok (.iconst 0, 1) := by decide +kernel
theorem d_CH_take_183 : decode b_CH_take 183 = .ok (.invokevirtual 29, 3) := by decide +kernel
theorem d_CH_take_186 : decode b_CH_take 186 = .ok (.goto 3, 3) := by decide +kernel
theorem d_CH_take_189 : decode b_CH_take 189 = .ok (.return_, 1) := by decide +kernel
theorem d_CH_open_0 : decode b_CH_open 0 = .ok (.aload_n 0, 1) := by decide +kernel
theorem d_CH_open_1 : decode b_CH_open 1 = .ok (.getfield 25, 3) := by decide +kernel
theorem d_CH_open_4 : decode b_CH_open 4 = .ok (.bipush 6, 2) := by decide +kernel
theorem d_CH_open_6 : decode b_CH_open 6 = .ok (.if_icmp .lt 4, 3) := by decide +kernel
theorem d_CH_open_9 : decode b_CH_open 9 = .ok (.return_, 1) := by decide +kernel
theorem d_CH_open_10 : decode b_CH_open 10 = .ok (.aload_n 0, 1) := by decide +kernel
theorem d_CH_open_11 : decode b_CH_open 11 = .ok (.getfield 15, 3) := by decide +kernel
theorem d_CH_open_14 : decode b_CH_open 14 = .ok (.aload_n 0, 1) := by decide +kernel
theorem d_CH_open_15 : decode b_CH_open 15 = .ok (.getfield 25, 3) := by decide +kernel
theorem d_CH_open_18 : decode b_CH_open 18 = .ok (.iconst 1, 1) := by decide +kernel
theorem d_CH_open_19 : decode b_CH_open 19 = .ok (.iadd, 1) := by decide +kernel
theorem d_CH_open_20 : decode b_CH_open 20 = .ok (.iload_n 2, 1) := by decide +kernel
theorem d_CH_open_21 : decode b_CH_open 21 = .ok (.ifCond .ne 15, 3) := by decide +kernel
theorem d_CH_open_24 : decode b_CH_open 24 = .ok (.aload_n 0, 1) := by decide +kernel
theorem d_CH_open_25 : decode b_CH_open 25 = .ok (.getfield 15, 3) := by decide +kernel
theorem d_CH_open_28 : decode b_CH_open 28 = .ok (.aload_n 0, 1) := by decide +kernel
theorem d_CH_open_29 : decode b_CH_open 29 = .ok (.getfield 25, 3) := by decide +kernel
theorem d_CH_open_32 : decode b_CH_open 32 = .ok (.baload, 1) := by decide +kernel
theorem d_CH_open_33 : decode b_CH_open 33 = .ok (.ifCond .eq 7, 3) := by decide +kernel
theorem d_CH_open_36 : decode b_CH_open 36 = .ok (.iconst 1, 1) := by decide +kernel
theorem d_CH_open_37 : decode b_CH_open 37 = .ok (.goto 4, 3) := by decide +kernel
theorem d_CH_open_40 : decode b_CH_open 40 = .ok (.iconst 0, 1) := by decide +kernel
theorem d_CH_open_41 : decode b_CH_open 41 = .ok (.bastore, 1) := by decide +kernel
theorem d_CH_open_42 : decode b_CH_open 42 = .ok (.aload_n 0, 1) := by decide +kernel
theorem d_CH_open_43 : decode b_CH_open 43 = .ok (.getfield 19, 3) := by decide +kernel
theorem d_CH_open_46 : decode b_CH_open 46 = .ok (.aload_n 0, 1) := by decide +kernel
theorem d_CH_open_47 : decode b_CH_open 47 = .ok (.getfield 25, 3) := by decide +kernel
theorem d_CH_open_50 : decode b_CH_open 50 = .ok (.iconst 1, 1) := by decide +kernel
theorem d_CH_open_51 : decode b_CH_open 51 = .ok (.iadd, 1) := by decide +kernel
theorem d_CH_open_52 : decode b_CH_open 52 = .ok (.iload_n 3, 1) := by decide +kernel
theorem d_CH_open_53 : decode b_CH_open 53 = .ok (.ifCond .ne 15, 3) := by decide +kernel
theorem d_CH_open_56 : decode b_CH_open 56 = .ok (.aload_n 0, 1) := by decide +kernel
theorem d_CH_open_57 : decode b_CH_open 57 = .ok (.getfield 19, 3) := by decide +kernel
theorem d_CH_open_60 : decode b_CH_open 60 = .ok (.aload_n 0, 1) := by decide +kernel
theorem d_CH_open_61 : decode b_CH_open 61 = .ok (.getfield 25, 3) := by decide +kernel
theorem d_CH_open_64 : decode b_CH_open 64 = .ok (.baload, 1) := by decide +kernel
theorem d_CH_open_65 : decode b_CH_open 65 = .ok (.ifCond .eq 7, 3) := by decide +kernel
theorem d_CH_open_68 : decode b_CH_open 68 = .ok (.iconst 1, 1) := by decide +kernel
theorem d_CH_open_69 : decode b_CH_open 69 = .ok (.goto 4, 3) := by decide +kernel
theorem d_CH_open_72 : decode b_CH_open 72 = .ok (.iconst 0, 1) := by decide +kernel
theorem d_CH_open_73 : decode b_CH_open 73 = .ok (.bastore, 1) := by decide +kernel
theorem d_CH_open_74 : decode b_CH_open 74 = .ok (.aload_n 0, 1) := by decide +kernel
theorem d_CH_open_75 : decode b_CH_open 75 = .ok (.dup, 1) := by decide +kernel
theorem d_CH_open_76 : decode b_CH_open 76 = .ok (.getfield 25, 3) := by decide +kernel
theorem d_CH_open_79 : decode b_CH_open 79 = .ok (.iconst 1, 1) := by decide +kernel
theorem d_CH_open_80 : decode b_CH_open 80 = .ok (.iadd, 1) := by decide +kernel
theorem d_CH_open_81 : decode b_CH_open 81 = .ok (.putfield 25, 3) := by decide +kernel
theorem d_CH_open_84 : decode b_CH_open 84 = .ok (.aload_n 0, 1) := by decide +kernel
theorem d_CH_open_85 : decode b_CH_open 85 = .ok (.getfield 9, 3) := by decide +kernel
theorem d_CH_open_88 : decode b_CH_open 88 = .ok (.aload_n 0, 1) := by decide +kernel
theorem d_CH_open_89 : decode b_CH_open 89 = .ok (.getfield 25, 3) := by decide +kernel
theorem d_CH_open_92 : decode b_CH_open 92 = .ok (.iload_n 1, 1) := by decide +kernel
theorem d_CH_open_93 : decode b_CH_open 93 = .ok (.iastore, 1) := by decide +kernel
theorem d_CH_open_94 : decode b_CH_open 94 = .ok (.aload_n 0, 1) := by decide +kernel
theorem d_CH_open_95 : decode b_CH_open 95 = .ok (.getfield 22, 3) := by decide +kernel
theorem d_CH_open_98 : decode b_CH_open 98 = .ok (.aload_n 0, 1) := by decide +kernel
theorem d_CH_open_99 : decode b_CH_open 99 = .ok (.getfield 25, 3) := by decide +kernel
theorem d_CH_open_102 : decode b_CH_open 102 = .ok (.iconst 0, 1) := by decide +kernel
theorem d_CH_open_103 : decode b_CH_open 103 = .ok (.iastore, 1) := by decide +kernel
theorem d_CH_open_104 : decode b_CH_open 104 = .ok (.return_, 1) := by decide +kernel
theorem d_CH_close_0 : decode b_CH_close 0 = .ok (.aload_n 0, 1) := by decide +kernel
theorem d_CH_close_1 : decode b_CH_close 1 = .ok (.getfield 9, 3) := by decide +kernel
theorem d_CH_close_4 : decode b_CH_close 4 = .ok (.aload_n 0, 1) := by decide +kernel
theorem d_CH_close_5 : decode b_CH_close 5 = .ok (.getfield 25, 3) := by decide +kernel
theorem d_CH_close_8 : decode b_CH_close 8 = .ok (.iaload, 1) := by decide +kernel
theorem d_CH_close_9 : decode b_CH_close 9 = .ok (.iconst (-1), 1) := by decide +kernel
theorem d_CH_close_10 : decode b_CH_close 10 = .ok (.if_icmp .eq 18, 3) := by decide +kernel
theorem d_CH_close_13 : decode b_CH_close 13 = .ok (.aload_n 1, 1) := by decide +kernel
theorem d_CH_close_14 : decode b_CH_close 14 = .ok (.getfield 49, 3) := by decide +kernel
theorem d_CH_close_17 : decode b_CH_close 17 = .ok (.aload_n 0, 1) := by decide +kernel
theorem d_CH_close_18 : decode b_CH_close 18 = .ok (.getfield 9, 3) := by decide +kernel
theorem d_CH_close_21 : decode b_CH_close 21 = .ok (.aload_n 0, 1) := by decide +kernel
theorem d_CH_close_22 : decode b_CH_close 22 = .ok (.getfield 25, 3) := by decide +kernel
theorem d_CH_close_25 : decode b_CH_close 25 = .ok (.iaload, 1) := by decide +kernel
theorem d_CH_close_26 : decode b_CH_close 26 = .ok (.iload_n 2, 1) := by decide +kernel
theorem d_CH_close_27 : decode b_CH_close 27 = .ok (.iastore, 1) := by decide +kernel
theorem d_CH_close_28 : decode b_CH_close 28 = .ok (.aload_n 0, 1) := by decide +kernel
theorem d_CH_close_29 : decode b_CH_close 29 = .ok (.dup, 1) := by decide +kernel
theorem d_CH_close_30 : decode b_CH_close 30 = .ok (.getfield 25, 3) := by decide +kernel
theorem d_CH_close_33 : decode b_CH_close 33 = .ok (.iconst 1, 1) := by decide +kernel
theorem d_CH_close_34 : decode b_CH_close 34 = .ok (.isub, 1) := by decide +kernel
theorem d_CH_close_35 : decode b_CH_close 35 = .ok (.putfield 25, 3) := by decide +kernel
theorem d_CH_close_38 : decode b_CH_close 38 = .ok (.return_, 1) := by decide +kernel
theorem d_EV_init_0 : decode b_EV_init 0 = .ok (.aload_n 0, 1) := by decide +kernel
theorem d_EV_init_1 : decode b_EV_init 1 = .ok (.invokespecial 3, 3) := by decide +kernel
theorem d_EV_init_4 : decode b_EV_init 4 = .ok (.aload_n 0, 1) := by decide +kernel
theorem d_EV_init_5 : decode b_EV_init 5 = .ok (.bipush 32, 2) := by decide +kernel
theorem d_EV_init_7 : decode b_EV_init 7 = .ok (.newarray .int, 2) := by decide +kernel
theorem d_EV_init_9 : decode b_EV_init 9 = .ok (.putfield 9, 3) := by decide +kernel
theorem d_EV_init_12 : decode b_EV_init 12 = .ok (.return_, 1) := by decide +kernel
theorem d_EV_note_0 : decode b_EV_note 0 = .ok (.aload_n 0, 1) := by decide +kernel
theorem d_EV_note_1 : decode b_EV_note 1 = .ok (.getfield 9, 3) := by decide +kernel
theorem d_EV_note_4 : decode b_EV_note 4 = .ok (.aload_n 0, 1) := by decide +kernel
theorem d_EV_note_5 : decode b_EV_note 5 = .ok (.getfield 15, 3) := by decide +kernel
theorem d_EV_note_8 : decode b_EV_note 8 = .ok (.bipush 32, 2) := by decide +kernel
theorem d_EV_note_10 : decode b_EV_note 10 = .ok (.invokestatic 19, 3) := by decide +kernel
theorem d_EV_note_13 : decode b_EV_note 13 = .ok (.iload_n 1, 1) := by decide +kernel
theorem d_EV_note_14 : decode b_EV_note 14 = .ok (.iastore, 1) := by decide +kernel
theorem d_EV_note_15 : decode b_EV_note 15 = .ok (.aload_n 0, 1) := by decide +kernel
theorem d_EV_note_16 : decode b_EV_note 16 = .ok (.dup, 1) := by decide +kernel
theorem d_EV_note_17 : decode b_EV_note 17 = .ok (.getfield 15, 3) := by decide +kernel
theorem d_EV_note_20 : decode b_EV_note 20 = .ok (.iconst 1, 1) := by decide +kernel
theorem d_EV_note_21 : decode b_EV_note 21 = .ok (.iadd, 1) := by decide +kernel
theorem d_EV_note_22 : decode b_EV_note 22 = .ok (.putfield 15, 3) := by decide +kernel
theorem d_EV_note_25 : decode b_EV_note 25 = .ok (.return_, 1) := by decide +kernel
theorem d_EV_fromLast_0 : decode b_EV_fromLast 0 = .ok (.iload_n 1, 1) := by decide +kernel
theorem d_EV_fromLast_1 : decode b_EV_fromLast 1 = .ok (.bipush 32, 2) := by decide +kernel
theorem d_EV_fromLast_3 : decode b_EV_fromLast 3 = .ok (.invokestatic 25, 3) := by decide +kernel
theorem d_EV_fromLast_6 : decode b_EV_fromLast 6 = .ok (.ifCond .eq 11, 3) := by decide +kernel
theorem d_EV_fromLast_9 : decode b_EV_fromLast 9 = .ok (.iload_n 1, 1) := by decide +kernel
theorem d_EV_fromLast_10 : decode b_EV_fromLast 10 = .ok (.aload_n 0, 1) := by decide +kernel
theorem d_EV_fromLast_11 : decode b_EV_fromLast 11 = .ok (.getfield 15, 3) := by decide +kernel
theorem d_EV_fromLast_14 : decode b_EV_fromLast 14 = .ok (.if_icmp .lt 5, 3) := by decide +kernel
theorem d_EV_fromLast_17 : decode b_EV_fromLast 17 = .ok (.iconst (-1), 1) := by decide +kernel
theorem d_EV_fromLast_18 : decode b_EV_fromLast 18 = .ok (.ireturn, 1) := by decide +kernel
theorem d_EV_fromLast_19 : decode b_EV_fromLast 19 = .ok (.aload_n 0, 1) := by decide +kernel
theorem d_EV_fromLast_20 : decode b_EV_fromLast 20 = .ok (.getfield 9, 3) := by decide +kernel
theorem d_EV_fromLast_23 : decode b_EV_fromLast 23 = .ok (.aload_n 0, 1) := by decide +kernel
theorem d_EV_fromLast_24 : decode b_EV_fromLast 24 = .ok (.getfield 15, 3) := by decide +kernel
theorem d_EV_fromLast_27 : decode b_EV_fromLast 27 = .ok (.iconst 1, 1) := by decide +kernel
theorem d_EV_fromLast_28 : decode b_EV_fromLast 28 = .ok (.isub, 1) := by decide +kernel
theorem d_EV_fromLast_29 : decode b_EV_fromLast 29 = .ok (.iload_n 1, 1) := by decide +kernel
theorem d_EV_fromLast_30 : decode b_EV_fromLast 30 = .ok (.isub, 1) := by decide +kernel
theorem d_EV_fromLast_31 : decode b_EV_fromLast 31 = .ok (.bipush 32, 2) := by decide +kernel
theorem d_EV_fromLast_33 : decode b_EV_fromLast 33 = .ok (.invokestatic 19, 3) := by decide +kernel
theorem d_EV_fromLast_36 : decode b_EV_fromLast 36 = .ok (.iaload, 1) := by decide +kernel
theorem d_EV_fromLast_37 : decode b_EV_fromLast 37 = .ok (.ireturn, 1) := by decide +kernel
theorem d_FA_init_0 : decode b_FA_init 0 = .ok (.aload_n 0, 1) := by decide +kernel
theorem d_FA_init_1 : decode b_FA_init 1 = .ok (.invokespecial 3, 3) := by decide +kernel
theorem d_FA_init_4 : decode b_FA_init 4 = .ok (.aload_n 0, 1) := by decide +kernel
theorem d_FA_init_5 : decode b_FA_init 5 = .ok (.sipush 301, 3) := by decide +kernel
theorem d_FA_init_8 : decode b_FA_init 8 = .ok (.newarray .int, 2) := by decide +kernel
theorem d_FA_init_10 : decode b_FA_init 10 = .ok (.putfield 9, 3) := by decide +kernel
theorem d_FA_init_13 : decode b_FA_init 13 = .ok (.aload_n 0, 1) := by decide +kernel
theorem d_FA_init_14 : decode b_FA_init 14 = .ok (.sipush 301, 3) := by decide +kernel
theorem d_FA_init_17 : decode b_FA_init 17 = .ok (.newarray .int, 2) := by decide +kernel
theorem d_FA_init_19 : decode b_FA_init 19 = .ok (.putfield 15, 3) := by decide +kernel
theorem d_FA_init_22 : decode b_FA_init 22 = .ok (.return_, 1) := by decide +kernel
theorem d_FA_forget_0 : decode b_FA_forget 0 = .ok (.aload_n 0, 1) := by decide +kernel
theorem d_FA_forget_1 : decode b_FA_forget 1 = .ok (.iconst 0, 1) := by decide +kernel
theorem d_FA_forget_2 : decode b_FA_forget 2 = .ok (.putfield 18, 3) := by decide +kernel
theorem d_FA_forget_5 : decode b_FA_forget 5 = .ok (.return_, 1) := by decide +kernel
theorem d_FA_make_0 : decode b_FA_make 0 = .ok (.aload_n 0, 1) := by decide +kernel
theorem d_FA_make_1 : decode b_FA_make 1 = .ok (.getfield 18, 3) := by decide +kernel
theorem d_FA_make_4 : decode b_FA_make 4 = .ok (.sipush 301, 3) := by decide +kernel
theorem d_FA_make_7 : decode b_FA_make 7 = .ok (.if_icmp .lt 5, 3) := by decide +kernel
theorem d_FA_make_10 : decode b_FA_make 10 = .ok (.iconst (-1), 1) := by decide +kernel
theorem d_FA_make_11 : decode b_FA_make 11 = .ok (.ireturn, 1) := by decide +kernel
theorem d_FA_make_12 : decode b_FA_make 12 = .ok (.aload_n 0, 1) := by decide +kernel
theorem d_FA_make_13 : decode b_FA_make 13 = .ok (.getfield 9, 3) := by decide +kernel
theorem d_FA_make_16 : decode b_FA_make 16 = .ok (.aload_n 0, 1) := by decide +kernel
theorem d_FA_make_17 : decode b_FA_make 17 = .ok (.getfield 18, 3) := by decide +kernel
theorem d_FA_make_20 : decode b_FA_make 20 = .ok (.iload_n 1, 1) := by decide +kernel
theorem d_FA_make_21 : decode b_FA_make 21 = .ok (.iastore, 1) := by decide +kernel
theorem d_FA_make_22 : decode b_FA_make 22 = .ok (.aload_n 0, 1) := by decide +kernel
theorem d_FA_make_23 : decode b_FA_make 23 = .ok (.getfield 15, 3) := by decide +kernel
theorem d_FA_make_26 : decode b_FA_make 26 = .ok (.aload_n 0, 1) := by decide +kernel
theorem d_FA_make_27 : decode b_FA_make 27 = .ok (.getfield 18, 3) := by decide +kernel
theorem d_FA_make_30 : decode b_FA_make 30 = .ok (.iload_n 2, 1) := by decide +kernel
theorem d_FA_make_31 : decode b_FA_make 31 = .ok (.iastore, 1) := by decide +kernel
theorem d_FA_make_32 : decode b_FA_make 32 = .ok (.aload_n 0, 1) := by decide +kernel
theorem d_FA_make_33 : decode b_FA_make 33 = .ok (.dup, 1) := by decide +kernel
theorem d_FA_make_34 : decode b_FA_make 34 = .ok (.getfield 18, 3) := by decide +kernel
theorem d_FA_make_37 : decode b_FA_make 37 = .ok (.iconst 1, 1) := by decide +kernel
theorem d_FA_make_38 : decode b_FA_make 38 = .ok (.iadd, 1) := by decide +kernel
theorem d_FA_make_39 : decode b_FA_make 39 = .ok (.putfield 18, 3) := by decide +kernel
theorem d_FA_make_42 : decode b_FA_make 42 = .ok (.aload_n 0, 1) := by decide +kernel
theorem d_FA_make_43 : decode b_FA_make 43 = .ok (.getfield 18, 3) := by decide +kernel
theorem d_FA_make_46 : decode b_FA_make 46 = .ok (.iconst 1, 1) := by decide +kernel
theorem d_FA_make_47 : decode b_FA_make 47 = .ok (.isub, 1) := by decide +kernel
theorem d_FA_make_48 : decode b_FA_make 48 = .ok (.ireturn, 1) := by decide +kernel
theorem d_FA_kindOf_0 : decode b_FA_kindOf 0 = .ok (.iload_n 1, 1) := by decide +kernel
theorem d_FA_kindOf_1 : decode b_FA_kindOf 1 = .ok (.aload_n 0, 1) := by decide +kernel
theorem d_FA_kindOf_2 : decode b_FA_kindOf 2 = .ok (.getfield 18, 3) := by decide +kernel
theorem d_FA_kindOf_5 : decode b_FA_kindOf 5 = .ok (.invokestatic 22, 3) := by decide +kernel
theorem d_FA_kindOf_8 : decode b_FA_kindOf 8 = .ok (.ifCond .eq 12, 3) := by decide +kernel
theorem d_FA_kindOf_11 : decode b_FA_kindOf 11 = .ok (.aload_n 0, 1) := by decide +kernel
theorem d_FA_kindOf_12 : decode b_FA_kindOf 12 = .ok (.getfield 9, 3) := by decide +kernel
theorem d_FA_kindOf_15 : decode b_FA_kindOf 15 = .ok (.iload_n 1, 1) := by decide +kernel
theorem d_FA_kindOf_16 : decode b_FA_kindOf 16 = .ok (.iaload, 1) := by decide +kernel
theorem d_FA_kindOf_17 : decode b_FA_kindOf 17 = .ok (.goto 4, 3) := by decide +kernel
theorem d_FA_kindOf_20 : decode b_FA_kindOf 20 = .ok (.iconst (-1), 1) := by decide +kernel
theorem d_FA_kindOf_21 : decode b_FA_kindOf 21 = .ok (.ireturn, 1) := by decide +kernel
theorem d_FA_causeOf_0 : decode b_FA_causeOf 0 = .ok (.iload_n 1, 1) := by decide +kernel
theorem d_FA_causeOf_1 : decode b_FA_causeOf 1 = .ok (.istore_n 3, 1) := by decide +kernel
theorem d_FA_causeOf_2 : decode b_FA_causeOf 2 = .ok (.iconst 0, 1) := by decide +kernel
theorem d_FA_causeOf_3 : decode b_FA_causeOf 3 = .ok (.istore 4, 2) := by decide +kernel
theorem d_FA_causeOf_5 : decode b_FA_causeOf 5 = .ok (.iload 4, 2) := by decide +kernel
theorem d_FA_causeOf_7 : decode b_FA_causeOf 7 = .ok (.iload_n 2, 1) := by decide +kernel
theorem d_FA_causeOf_8 : decode b_FA_causeOf 8 = .ok (.if_icmp .ge 27, 3) := by decide +kernel
theorem d_FA_causeOf_11 : decode b_FA_causeOf 11 = .ok (.iload_n 3, 1) := by decide +kernel
theorem d_FA_causeOf_12 : decode b_FA_causeOf 12 = .ok (.aload_n 0, 1) := by decide +kernel
theorem d_FA_causeOf_13 : decode b_FA_causeOf 13 = .ok (.getfield 18, 3) := by decide +kernel
theorem d_FA_causeOf_16 : decode b_FA_causeOf 16 = .ok (.invokestatic 22, 3) := by decide +kernel
theorem d_FA_causeOf_19 : decode b_FA_causeOf 19 = .ok (.ifCond .eq 16, 3) := by decide +kernel
theorem d_FA_causeOf_22 : decode b_FA_causeOf 22 = .ok (.aload_n 0, 1) := by decide +kernel
theorem d_FA_causeOf_23 : decode b_FA_causeOf 23 = .ok (.getfield 15, 3) := by decide +kernel
theorem d_FA_causeOf_26 : decode b_FA_causeOf 26 = .ok (.iload_n 3, 1) := by decide +kernel
theorem d_FA_causeOf_27 : decode b_FA_causeOf 27 = .ok (.iaload, 1) := by decide +kernel
theorem d_FA_causeOf_28 : decode b_FA_causeOf 28 = .ok (.istore_n 3, 1) := by decide +kernel
theorem d_FA_causeOf_29 : decode b_FA_causeOf 29 = .ok (.iinc 4 1, 3) := by decide +kernel
theorem d_FA_causeOf_32 : decode b_FA_causeOf 32 = .ok (.goto (-27), 3) := by decide +kernel
theorem d_FA_causeOf_35 : decode b_FA_causeOf 35 = .ok (.iload_n 3, 1) := by decide +kernel
theorem d_FA_causeOf_36 : decode b_FA_causeOf 36 = .ok (.ireturn, 1) := by decide +kernel
theorem d_FR_init_0 : decode b_FR_init 0 = .ok (.aload_n 0, 1) := by decide +kernel
theorem d_FR_init_1 : decode b_FR_init 1 = .ok (.invokespecial 3, 3) := by decide +kernel
theorem d_FR_init_4 : decode b_FR_init 4 = .ok (.aload_n 0, 1) := by decide +kernel
theorem d_FR_init_5 : decode b_FR_init 5 = .ok (.iconst 3, 1) := by decide +kernel
theorem d_FR_init_6 : decode b_FR_init 6 = .ok (.newarray .int, 2) := by decide +kernel
theorem d_FR_init_8 : decode b_FR_init 8 = .ok (.putfield 9, 3) := by decide +kernel
theorem d_FR_init_11 : decode b_FR_init 11 = .ok (.return_, 1) := by decide +kernel
theorem d_FR_begin_0 : decode b_FR_begin 0 = .ok (.aload_n 0, 1) := by decide +kernel
theorem d_FR_begin_1 : decode b_FR_begin 1 = .ok (.iload_n 1, 1) := by decide +kernel
theorem d_FR_begin_2 : decode b_FR_begin 2 = .ok (.putfield 15, 3) := by decide +kernel
theorem d_FR_begin_5 : decode b_FR_begin 5 = .ok (.aload_n 0, 1) := by decide +kernel
theorem d_FR_begin_6 : decode b_FR_begin 6 = .ok (.iload_n 2, 1) := by decide +kernel
theorem d_FR_begin_7 : decode b_FR_begin 7 = .ok (.putfield 19, 3) := by decide +kernel
theorem d_FR_begin_10 : decode b_FR_begin 10 = .ok (.aload_n 0, 1) := by decide +kernel
theorem d_FR_begin_11 : decode b_FR_begin 11 = .ok (.iconst 0, 1) := by decide +kernel
theorem d_FR_begin_12 : decode b_FR_begin 12 = .ok (.putfield 22, 3) := by decide +kernel
theorem d_FR_begin_15 : decode b_FR_begin 15 = .ok (.aload_n 0, 1) := by decide +kernel
theorem d_FR_begin_16 : decode b_FR_begin 16 = .ok (.iconst (-1), 1) := by decide +kernel
theorem d_FR_begin_17 : decode b_FR_begin 17 = .ok (.putfield 25, 3) := by decide +kernel
theorem d_FR_begin_20 : decode b_FR_begin 20 = .ok (.iconst 0, 1) := by decide +kernel
theorem d_FR_begin_21 : decode b_FR_begin 21 = .ok (.istore_n 3, 1) := by decide +kernel
theorem d_FR_begin_22 : decode b_FR_begin 22 = .ok (.iload_n 3, 1) := by decide +kernel
theorem d_FR_begin_23 : decode b_FR_begin 23 = .ok (.iconst 3, 1) := by decide +kernel
theorem d_FR_begin_24 : decode b_FR_begin 24 = .ok (.if_icmp .ge 16, 3) := by decide +kernel
theorem d_FR_begin_27 : decode b_FR_begin 27 = .ok (.aload_n 0, 1) := by decide +kernel
theorem d_FR_begin_28 : decode b_FR_begin 28 = .ok (.getfield 9, 3) := by decide +kernel
theorem d_FR_begin_31 : decode b_FR_begin 31 = .ok (.iload_n 3, 1) := by decide +kernel
theorem d_FR_begin_32 : decode b_FR_begin 32 = .ok (.iconst 0, 1) := by decide +kernel
theorem d_FR_begin_33 : decode b_FR_begin 33 = .ok (.iastore, 1) := by decide +kernel
theorem d_FR_begin_34 : decode b_FR_begin 34 = .ok (.iinc 3 1, 3) := by decide +kernel
theorem d_FR_begin_37 : decode b_FR_begin 37 = .ok (.goto (-15), 3) := by decide +kernel
theorem d_FR_begin_40 : decode b_FR_begin 40 = .ok (.return_, 1) := by decide +kernel
theorem d_LO_init_0 : decode b_LO_init 0 = .ok (.aload_n 0, 1) := by decide +kernel
theorem d_LO_init_1 : decode b_LO_init 1 = .ok (.invokespecial 3, 3) := by decide +kernel
theorem d_LO_init_4 : decode b_LO_init 4 = .ok (.aload_n 0, 1) := by decide +kernel
theorem d_LO_init_5 : decode b_LO_init 5 = .ok (.iconst 3, 1) := by decide +kernel
theorem d_LO_init_6 : decode b_LO_init 6 = .ok (.newarray .int, 2) := by decide +kernel
theorem d_LO_init_8 : decode b_LO_init 8 = .ok (.putfield 9, 3) := by decide +kernel
theorem d_LO_init_11 : decode b_LO_init 11 = .ok (.return_, 1) := by decide +kernel
theorem d_LO_free_0 : decode b_LO_free 0 = .ok (.iconst 0, 1) := by decide +kernel
theorem d_LO_free_1 : decode b_LO_free 1 = .ok (.istore_n 1, 1) := by decide +kernel
theorem d_LO_free_2 : decode b_LO_free 2 = .ok (.iload_n 1, 1) := by decide +kernel
theorem d_LO_free_3 : decode b_LO_free 3 = .ok (.iconst 3, 1) := by decide +kernel
theorem d_LO_free_4 : decode b_LO_free 4 = .ok (.if_icmp .ge 16, 3) := by decide +kernel
theorem d_LO_free_7 : decode b_LO_free 7 = .ok (.aload_n 0, 1) := by decide +kernel
theorem d_LO_free_8 : decode b_LO_free 8 = .ok (.getfield 9, 3) := by decide +kernel
theorem d_LO_free_11 : decode b_LO_free 11 = .ok (.iload_n 1, 1) := by decide +kernel
theorem d_LO_free_12 : decode b_LO_free 12 = .ok (.iconst 0, 1) := by decide +kernel
theorem d_LO_free_13 : decode b_LO_free 13 = .ok (.iastore, 1) := by decide +kernel
theorem d_LO_free_14 : decode b_LO_free 14 = .ok (.iinc 1 1, 3) := by decide +kernel
theorem d_LO_free_17 : decode b_LO_free 17 = .ok (.goto (-15), 3) := by decide +kernel
theorem d_LO_free_20 : decode b_LO_free 20 = .ok (.aload_n 0, 1) := by decide +kernel
theorem d_LO_free_21 : decode b_LO_free 21 = .ok (.iconst 0, 1) := by decide +kernel
theorem d_LO_free_22 : decode b_LO_free 22 = .ok (.putfield 15, 3) := by decide +kernel
theorem d_LO_free_25 : decode b_LO_free 25 = .ok (.aload_n 0, 1) := by decide +kernel
theorem d_LO_free_26 : decode b_LO_free 26 = .ok (.iconst 0, 1) := by decide +kernel
theorem d_LO_free_27 : decode b_LO_free 27 = .ok (.putfield 19, 3) := by decide +kernel
theorem d_LO_free_30 : decode b_LO_free 30 = .ok (.return_, 1) := by decide +kernel
theorem d_LO_hold_0 : decode b_LO_hold 0 = .ok (.aload_n 0, 1) := by decide +kernel
theorem d_LO_hold_1 : decode b_LO_hold 1 = .ok (.getfield 9, 3) := by decide +kernel
theorem d_LO_hold_4 : decode b_LO_hold 4 = .ok (.iload_n 1, 1) := by decide +kernel
theorem d_LO_hold_5 : decode b_LO_hold 5 = .ok (.dup2, 1) := by decide +kernel
theorem d_LO_hold_6 : decode b_LO_hold 6 = .ok (.iaload, 1) := by decide +kernel
theorem d_LO_hold_7 : decode b_LO_hold 7 = .ok (.iconst 1, 1) := by decide +kernel
theorem d_LO_hold_8 : decode b_LO_hold 8 = .ok (.iadd, 1) := by decide +kernel
theorem d_LO_hold_9 : decode b_LO_hold 9 = .ok (.iastore, 1) := by decide +kernel
theorem d_LO_hold_10 : decode b_LO_hold 10 = .ok (.aload_n 0, 1) := by decide +kernel
theorem d_LO_hold_11 : decode b_LO_hold 11 = .ok (.dup, 1) := by decide +kernel
theorem d_LO_hold_12 : decode b_LO_hold 12 = .ok (.getfield 15, 3) := by decide +kernel
theorem d_LO_hold_15 : decode b_LO_hold 15 = .ok (.iconst 1, 1) := by decide +kernel
theorem d_LO_hold_16 : decode b_LO_hold 16 = .ok (.iadd, 1) := by decide +kernel
theorem d_LO_hold_17 : decode b_LO_hold 17 = .ok (.putfield 15, 3) := by decide +kernel
theorem d_LO_hold_20 : decode b_LO_hold 20 = .ok (.aload_n 0, 1) := by decide +kernel
theorem d_LO_hold_21 : decode b_LO_hold 21 = .ok (.aload_n 0, 1) := by decide +kernel
theorem d_LO_hold_22 : decode b_LO_hold 22 = .ok (.getfield 19, 3) := by decide +kernel
theorem d_LO_hold_25 : decode b_LO_hold 25 = .ok (.aload_n 0, 1) := by decide +kernel
theorem d_LO_hold_26 : decode b_LO_hold 26 = .ok (.getfield 15, 3) := by decide +kernel
theorem d_LO_hold_29 : decode b_LO_hold 29 = .ok (.invokestatic 22, 3) := by decide +kernel
theorem d_LO_hold_32 : decode b_LO_hold 32 = .ok (.putfield 19, 3) := by decide +kernel
theorem d_LO_hold_35 : decode b_LO_hold 35 = .ok (.return_, 1) := by decide +kernel
theorem d_LO_release_0 : decode b_LO_release 0 = .ok (.aload_n 0, 1) := by decide +kernel
theorem d_LO_release_1 : decode b_LO_release 1 = .ok (.getfield 9, 3) := by decide +kernel
theorem d_LO_release_4 : decode b_LO_release 4 = .ok (.iload_n 1, 1) := by decide +kernel
theorem d_LO_release_5 : decode b_LO_release 5 = .ok (.dup2, 1) := by decide +kernel
theorem d_LO_release_6 : decode b_LO_release 6 = .ok (.iaload, 1) := by decide +kernel
theorem d_LO_release_7 : decode b_LO_release 7 = .ok (.iload_n 2, 1) := by decide +kernel
theorem d_LO_release_8 : decode b_LO_release 8 = .ok (.isub, 1) := by decide +kernel
theorem d_LO_release_9 : decode b_LO_release 9 = .ok (.iastore, 1) := by decide +kernel
theorem d_LO_release_10 : decode b_LO_release 10 = .ok (.aload_n 0, 1) := by decide +kernel
theorem d_LO_release_11 : decode b_LO_release 11 = .ok (.dup, 1) := by decide +kernel
theorem d_LO_release_12 : decode b_LO_release 12 = .ok (.getfield 15, 3) := by decide +kernel
theorem d_LO_release_15 : decode b_LO_release 15 = .ok (.iload_n 2, 1) := by decide +kernel
theorem d_LO_release_16 : decode b_LO_release 16 = .ok (.isub, 1) := by decide +kernel
theorem d_LO_release_17 : decode b_LO_release 17 = .ok (.putfield 15, 3) := by decide +kernel
theorem d_LO_release_20 : decode b_LO_release 20 = .ok (.return_, 1) := by decide +kernel
theorem d_LO_isHeld_0 : decode b_LO_isHeld 0 = .ok (.aload_n 0, 1) := by decide +kernel
theorem d_LO_isHeld_1 : decode b_LO_isHeld 1 = .ok (.getfield 9, 3) := by decide +kernel
theorem d_LO_isHeld_4 : decode b_LO_isHeld 4 = .ok (.iload_n 1, 1) := by decide +kernel
theorem d_LO_isHeld_5 : decode b_LO_isHeld 5 = .ok (.iaload, 1) := by decide +kernel
theorem d_LO_isHeld_6 : decode b_LO_isHeld 6 = .ok (.ifCond .le 7, 3) := by decide +kernel
theorem d_LO_isHeld_9 : decode b_LO_isHeld 9 = .ok (.iconst 1, 1) := by decide +kernel
theorem d_LO_isHeld_10 : decode b_LO_isHeld 10 = .ok (.goto 4, 3) := by decide +kernel
theorem d_LO_isHeld_13 : decode b_LO_isHeld 13 = .ok (.iconst 0, 1) := by decide +kernel
theorem d_LO_isHeld_14 : decode b_LO_isHeld 14 = .ok (.ireturn, 1) := by decide +kernel
theorem d_TE_init_0 : decode b_TE_init 0 = .ok (.aload_n 0, 1) := by decide +kernel
theorem d_TE_init_1 : decode b_TE_init 1 = .ok (.invokespecial 3, 3) := by decide +kernel
theorem d_TE_init_4 : decode b_TE_init 4 = .ok (.aload_n 0, 1) := by decide +kernel
theorem d_TE_init_5 : decode b_TE_init 5 = .ok (.bipush 32, 2) := by decide +kernel
theorem d_TE_init_7 : decode b_TE_init 7 = .ok (.newarray .int, 2) := by decide +kernel
theorem d_TE_init_9 : decode b_TE_init 9 = .ok (.putfield 9, 3) := by decide +kernel
theorem d_TE_init_12 : decode b_TE_init 12 = .ok (.aload_n 0, 1) := by decide +kernel
theorem d_TE_init_13 : decode b_TE_init 13 = .ok (.bipush 32, 2) := by decide +kernel
theorem d_TE_init_15 : decode b_TE_init 15 = .ok (.newarray .int, 2) := by decide +kernel
theorem d_TE_init_17 : decode b_TE_init 17 = .ok (.putfield 15, 3) := by decide +kernel
theorem d_TE_init_20 : decode b_TE_init 20 = .ok (.aload_n 0, 1) := by decide +kernel
theorem d_TE_init_21 : decode b_TE_init 21 = .ok (.bipush 32, 2) := by decide +kernel
theorem d_TE_init_23 : decode b_TE_init 23 = .ok (.newarray .int, 2) := by decide +kernel
theorem d_TE_init_25 : decode b_TE_init 25 = .ok (.putfield 18, 3) := by decide +kernel
theorem d_TE_init_28 : decode b_TE_init 28 = .ok (.return_, 1) := by decide +kernel
theorem d_TE_append_0 : decode b_TE_append 0 = .ok (.aload_n 0, 1) := by decide +kernel
theorem d_TE_append_1 : decode b_TE_append 1 = .ok (.getfield 21, 3) := by decide +kernel
theorem d_TE_append_4 : decode b_TE_append 4 = .ok (.bipush 32, 2) := by decide +kernel
theorem d_TE_append_6 : decode b_TE_append 6 = .ok (.if_icmp .lt 5, 3) := by decide +kernel
theorem d_TE_append_9 : decode b_TE_append 9 = .ok (.iconst 0, 1) := by decide +kernel
theorem d_TE_append_10 : decode b_TE_append 10 = .ok (.ireturn, 1) := by decide +kernel
theorem d_TE_append_11 : decode b_TE_append 11 = .ok (.aload_n 0, 1) := by decide +kernel
theorem d_TE_append_12 : decode b_TE_append 12 = .ok (.getfield 9, 3) := by decide +kernel
theorem d_TE_append_15 : decode b_TE_append 15 = .ok (.aload_n 0, 1) := by decide +kernel
theorem d_TE_append_16 : decode b_TE_append 16 = .ok (.getfield 21, 3) := by decide +kernel
theorem d_TE_append_19 : decode b_TE_append 19 = .ok (.iload_n 1, 1) := by decide +kernel
theorem d_TE_append_20 : decode b_TE_append 20 = .ok (.iastore, 1) := by decide +kernel
theorem d_TE_append_21 : decode b_TE_append 21 = .ok (.aload_n 0, 1) := by decide +kernel
theorem d_TE_append_22 : decode b_TE_append 22 = .ok (.getfield 15, 3) := by decide +kernel
theorem d_TE_append_25 : decode b_TE_append 25 = .ok (.aload_n 0, 1) := by decide +kernel
theorem d_TE_append_26 : decode b_TE_append 26 = .ok (.getfield 21, 3) := by decide +kernel
theorem d_TE_append_29 : decode b_TE_append 29 = .ok (.iload_n 2, 1) := by decide +kernel
theorem d_TE_append_30 : decode b_TE_append 30 = .ok (.iastore, 1) := by decide +kernel
theorem d_TE_append_31 : decode b_TE_append 31 = .ok (.aload_n 0, 1) := by decide +kernel
theorem d_TE_append_32 : decode b_TE_append 32 = .ok (.dup, 1) := by decide +kernel
theorem d_TE_append_33 : decode b_TE_append 33 = .ok (.getfield 21, 3) := by decide +kernel
theorem d_TE_append_36 : decode b_TE_append 36 = .ok (.iconst 1, 1) := by decide +kernel
theorem d_TE_append_37 : decode b_TE_append 37 = .ok (.iadd, 1) := by decide +kernel
theorem d_TE_append_38 : decode b_TE_append 38 = .ok (.putfield 21, 3) := by decide +kernel
theorem d_TE_append_41 : decode b_TE_append 41 = .ok (.iconst 1, 1) := by decide +kernel
theorem d_TE_append_42 : decode b_TE_append 42 = .ok (.ireturn, 1) := by decide +kernel
theorem d_TE_clear_0 : decode b_TE_clear 0 = .ok (.aload_n 0, 1) := by decide +kernel
theorem d_TE_clear_1 : decode b_TE_clear 1 = .ok (.getfield 21, 3) := by decide +kernel
theorem d_TE_clear_4 : decode b_TE_clear 4 = .ok (.istore_n 1, 1) := by decide +kernel
theorem d_TE_clear_5 : decode b_TE_clear 5 = .ok (.aload_n 0, 1) := by decide +kernel
theorem d_TE_clear_6 : decode b_TE_clear 6 = .ok (.iconst 0, 1) := by decide +kernel
theorem d_TE_clear_7 : decode b_TE_clear 7 = .ok (.putfield 21, 3) := by decide +kernel
theorem d_TE_clear_10 : decode b_TE_clear 10 = .ok (.iload_n 1, 1) := by decide +kernel
theorem d_TE_clear_11 : decode b_TE_clear 11 = .ok (.ireturn, 1) := by decide +kernel
theorem d_TE_catchesOf_0 : decode b_TE_catchesOf 0 = .ok (.aload_n 0, 1) := by decide +kernel
theorem d_TE_catchesOf_1 : decode b_TE_catchesOf 1 = .ok (.getfield 9, 3) := by decide +kernel
theorem d_TE_catchesOf_4 : decode b_TE_catchesOf 4 = .ok (.iload_n 1, 1) := by decide +kernel
theorem d_TE_catchesOf_5 : decode b_TE_catchesOf 5 = .ok (.iaload, 1) := by decide +kernel
theorem d_TE_catchesOf_6 : decode b_TE_catchesOf 6 = .ok (.bipush 9, 2) := by decide +kernel
theorem d_TE_catchesOf_8 : decode b_TE_catchesOf 8 = .ok (.if_icmp .ne 14, 3) := by decide +kernel
theorem d_TE_catchesOf_11 : decode b_TE_catchesOf 11 = .ok (.aload_n 0, 1) := by decide +kernel
theorem d_TE_catchesOf_12 : decode b_TE_catchesOf 12 = .ok (.getfield 15, 3) := by decide +kernel
theorem d_TE_catchesOf_15 : decode b_TE_catchesOf 15 = .ok (.iload_n 1, 1) := by decide +kernel
theorem d_TE_catchesOf_16 : decode b_TE_catchesOf 16 = .ok (.iaload, 1) := by decide +kernel
theorem d_TE_catchesOf_17 : decode b_TE_catchesOf 17 = .ok (.iconst 3, 1) := by decide +kernel
theorem d_TE_catchesOf_18 : decode b_TE_catchesOf 18 = .ok (.iand, 1) := by decide +kernel
theorem d_TE_catchesOf_19 : decode b_TE_catchesOf 19 = .ok (.goto 4, 3) := by decide +kernel
theorem d_TE_catchesOf_22 : decode b_TE_catchesOf 22 = .ok (.iconst 0, 1) := by decide +kernel
theorem d_TE_catchesOf_23 : decode b_TE_catchesOf 23 = .ok (.ireturn, 1) := by decide +kernel
theorem d_TE_hasLast_0 : decode b_TE_hasLast 0 = .ok (.aload_n 0, 1) := by decide +kernel
theorem d_TE_hasLast_1 : decode b_TE_hasLast 1 = .ok (.getfield 9, 3) := by decide +kernel
theorem d_TE_hasLast_4 : decode b_TE_hasLast 4 = .ok (.iload_n 1, 1) := by decide +kernel
theorem d_TE_hasLast_5 : decode b_TE_hasLast 5 = .ok (.iaload, 1) := by decide +kernel
theorem d_TE_hasLast_6 : decode b_TE_hasLast 6 = .ok (.bipush 9, 2) := by decide +kernel
theorem d_TE_hasLast_8 : decode b_TE_hasLast 8 = .ok (.if_icmp .ne 18, 3) := by decide +kernel
theorem d_TE_hasLast_11 : decode b_TE_hasLast 11 = .ok (.aload_n 0, 1) := by decide +kernel
theorem d_TE_hasLast_12 : decode b_TE_hasLast 12 = .ok (.getfield 15, 3) := by decide +kernel
theorem d_TE_hasLast_15 : decode b_TE_hasLast 15 = .ok (.iload_n 1, 1) := by decide +kernel
theorem d_TE_hasLast_16 : decode b_TE_hasLast 16 = .ok (.iaload, 1) := by decide +kernel
theorem d_TE_hasLast_17 : decode b_TE_hasLast 17 = .ok (.iconst 4, 1) := by decide +kernel
theorem d_TE_hasLast_18 : decode b_TE_hasLast 18 = .ok (.iand, 1) := by decide +kernel
theorem d_TE_hasLast_19 : decode b_TE_hasLast 19 = .ok (.ifCond .eq 7, 3) := by decide +kernel
theorem d_TE_hasLast_22 : decode b_TE_hasLast 22 = .ok (.iconst 1, 1) := by decide +kernel
theorem d_TE_hasLast_23 : decode b_TE_hasLast 23 = .ok (.goto 4, 3) := by decide +kernel
theorem d_TE_hasLast_26 : decode b_TE_hasLast 26 = .ok (.iconst 0, 1) := by decide +kernel
theorem d_TE_hasLast_27 : decode b_TE_hasLast 27 = .ok (.ireturn, 1) := by decide +kernel
theorem d_TE_behind_0 : decode b_TE_behind 0 = .ok (.aload_n 0, 1) := by decide +kernel
theorem d_TE_behind_1 : decode b_TE_behind 1 = .ok (.iload_n 1, 1) := by decide +kernel
theorem d_TE_behind_2 : decode b_TE_behind 2 = .ok (.invokevirtual 25, 3) := by decide +kernel
theorem d_TE_behind_5 : decode b_TE_behind 5 = .ok (.aload_n 0, 1) := by decide +kernel
theorem d_TE_behind_6 : decode b_TE_behind 6 = .ok (.iload_n 1, 1) := by decide +kernel
theorem d_TE_behind_7 : decode b_TE_behind 7 = .ok (.invokevirtual 29, 3) := by decide +kernel
theorem d_TE_behind_10 : decode b_TE_behind 10 = .ok (.ifCond .eq 7, 3) := by decide +kernel
theorem d_TE_behind_13 : decode b_TE_behind 13 = .ok (.iconst 1, 1) := by decide +kernel
theorem d_TE_behind_14 : decode b_TE_behind 14 = .ok (.goto 4, 3) := by decide +kernel
theorem d_TE_behind_17 : decode b_TE_behind 17 = .ok (.iconst 0, 1) := by decide +kernel
theorem d_TE_behind_18 : decode b_TE_behind 18 = .ok (.iadd, 1) := by decide +kernel
theorem d_TE_behind_19 : decode b_TE_behind 19 = .ok (.istore_n 2, 1) := by decide +kernel
theorem d_TE_behind_20 : decode b_TE_behind 20 = .ok (.aload_n 0, 1) := by decide +kernel
theorem d_TE_behind_21 : decode b_TE_behind 21 = .ok (.getfield 18, 3) := by decide +kernel
theorem d_TE_behind_24 : decode b_TE_behind 24 = .ok (.iload_n 1, 1) := by decide +kernel
theorem d_TE_behind_25 : decode b_TE_behind 25 = .ok (.iaload, 1) := by decide +kernel
theorem d_TE_behind_26 : decode b_TE_behind 26 = .ok (.istore_n 3, 1) := by decide +kernel
theorem d_TE_behind_27 : decode b_TE_behind 27 = .ok (.iconst 0, 1) := by decide +kernel
theorem d_TE_behind_28 : decode b_TE_behind 28 = .ok (.istore 4, 2) := by decide +kernel
theorem d_TE_behind_30 : decode b_TE_behind 30 = .ok (.iload 4, 2) := by decide +kernel
theorem d_TE_behind_32 : decode b_TE_behind 32 = .ok (.iload_n 2, 1) := by decide +kernel
theorem d_TE_behind_33 : decode b_TE_behind 33 = .ok (.if_icmp .ge 28, 3) := by decide +kernel
theorem d_TE_behind_36 : decode b_TE_behind 36 = .ok (.iload_n 3, 1) := by decide +kernel
theorem d_TE_behind_37 : decode b_TE_behind 37 = .ok (.iconst 1, 1) := by decide +kernel
theorem d_TE_behind_38 : decode b_TE_behind 38 = .ok (.iadd, 1) := by decide +kernel
theorem d_TE_behind_39 : decode b_TE_behind 39 = .ok (.aload_n 0, 1) := by decide +kernel
theorem d_TE_behind_40 : decode b_TE_behind 40 = .ok (.getfield 21, 3) := by decide +kernel
theorem d_TE_behind_43 : decode b_TE_behind 43 = .ok (.if_icmp .ge 18, 3) := by decide +kernel
theorem d_TE_behind_46 : decode b_TE_behind 46 = .ok (.aload_n 0, 1) := by decide +kernel
theorem d_TE_behind_47 : decode b_TE_behind 47 = .ok (.getfield 18, 3) := by decide +kernel
theorem d_TE_behind_50 : decode b_TE_behind 50 = .ok (.iload_n 3, 1) := by decide +kernel
theorem d_TE_behind_51 : decode b_TE_behind 51 = .ok (.iconst 1, 1) := by decide +kernel
theorem d_TE_behind_52 : decode b_TE_behind 52 = .ok (.iadd, 1) := by decide +kernel
theorem d_TE_behind_53 : decode b_TE_behind 53 = .ok (.iaload, 1) := by decide +kernel
theorem d_TE_behind_54 : decode b_TE_behind 54 = .ok (.istore_n 3, 1) := by decide +kernel
theorem d_TE_behind_55 : decode b_TE_behind 55 = .ok (.iinc 4 1, 3) := by decide +kernel
theorem d_TE_behind_58 : decode b_TE_behind 58 = .ok (.goto (-28), 3) := by decide +kernel
theorem d_TE_behind_61 : decode b_TE_behind 61 = .ok (.iload_n 3, 1) := by decide +kernel
theorem d_TE_behind_62 : decode b_TE_behind 62 = .ok (.iconst 1, 1) := by decide +kernel
theorem d_TE_behind_63 : decode b_TE_behind 63 = .ok (.iadd, 1) := by decide +kernel
theorem d_TE_behind_64 : decode b_TE_behind 64 = .ok (.ireturn, 1) := by decide +kernel
end
section
/-! decode rows, written by wip/gen/names.py -/
theorem d_MA_init_0 : decode b_MA_init 0 = .ok (.aload_n 0, 1) := by decide +kernel
theorem d_MA_init_1 : decode b_MA_init 1 = .ok (.invokespecial 3, 3) := by decide +kernel
theorem d_MA_init_4 : decode b_MA_init 4 = .ok (.aload_n 0, 1) := by decide +kernel
theorem d_MA_init_5 : decode b_MA_init 5 = .ok (.iconst 4, 1) := by decide +kernel
theorem d_MA_init_6 : decode b_MA_init 6 = .ok (.anewarray 9, 3) := by decide +kernel
theorem d_MA_init_9 : decode b_MA_init 9 = .ok (.putfield 11, 3) := by decide +kernel
theorem d_MA_init_12 : decode b_MA_init 12 = .ok (.aload_n 0, 1) := by decide +kernel
theorem d_MA_init_13 : decode b_MA_init 13 = .ok (.bipush 6, 2) := by decide +kernel
theorem d_MA_init_15 : decode b_MA_init 15 = .ok (.anewarray 17, 3) := by decide +kernel
theorem d_MA_init_18 : decode b_MA_init 18 = .ok (.putfield 19, 3) := by decide +kernel
theorem d_MA_init_21 : decode b_MA_init 21 = .ok (.aload_n 0, 1) := by decide +kernel
theorem d_MA_init_22 : decode b_MA_init 22 = .ok (.new 23, 3) := by decide +kernel
theorem d_MA_init_25 : decode b_MA_init 25 = .ok (.dup, 1) := by decide +kernel
theorem d_MA_init_26 : decode b_MA_init 26 = .ok (.invokespecial 25, 3) := by decide +kernel
theorem d_MA_init_29 : decode b_MA_init 29 = .ok (.putfield 26, 3) := by decide +kernel
theorem d_MA_init_32 : decode b_MA_init 32 = .ok (.aload_n 0, 1) := by decide +kernel
theorem d_MA_init_33 : decode b_MA_init 33 = .ok (.new 30, 3) := by decide +kernel
theorem d_MA_init_36 : decode b_MA_init 36 = .ok (.dup, 1) := by decide +kernel
theorem d_MA_init_37 : decode b_MA_init 37 = .ok (.invokespecial 32, 3) := by decide +kernel
theorem d_MA_init_40 : decode b_MA_init 40 = .ok (.putfield 33, 3) := by decide +kernel
theorem d_MA_init_43 : decode b_MA_init 43 = .ok (.aload_n 0, 1) := by decide +kernel
theorem d_MA_init_44 : decode b_MA_init 44 = .ok (.new 37, 3) := by decide +kernel
theorem d_MA_init_47 : decode b_MA_init 47 = .ok (.dup, 1) := by decide +kernel
theorem d_MA_init_48 : decode b_MA_init 48 = .ok (.invokespecial 39, 3) := by decide +kernel
theorem d_MA_init_51 : decode b_MA_init 51 = .ok (.putfield 40, 3) := by decide +kernel
theorem d_MA_init_54 : decode b_MA_init 54 = .ok (.aload_n 0, 1) := by decide +kernel
theorem d_MA_init_55 : decode b_MA_init 55 = .ok (.iconst (-1), 1) := by decide +kernel
theorem d_MA_init_56 : decode b_MA_init 56 = .ok (.putfield 44, 3) := by decide +kernel
theorem d_MA_init_59 : decode b_MA_init 59 = .ok (.iconst 0, 1) := by decide +kernel
theorem d_MA_init_60 : decode b_MA_init 60 = .ok (.istore_n 1, 1) := by decide +kernel
theorem d_MA_init_61 : decode b_MA_init 61 = .ok (.iload_n 1, 1) := by decide +kernel
theorem d_MA_init_62 : decode b_MA_init 62 = .ok (.iconst 4, 1) := by decide +kernel
theorem d_MA_init_63 : decode b_MA_init 63 = .ok (.if_icmp .ge 22, 3) := by decide +kernel
theorem d_MA_init_66 : decode b_MA_init 66 = .ok (.aload_n 0, 1) := by decide +kernel
theorem d_MA_init_67 : decode b_MA_init 67 = .ok (.getfield 11, 3) := by decide +kernel
theorem d_MA_init_70 : decode b_MA_init 70 = .ok (.iload_n 1, 1) := by decide +kernel
theorem d_MA_init_71 : decode b_MA_init 71 = .ok (.new 9, 3) := by decide +kernel
theorem d_MA_init_74 : decode b_MA_init 74 = .ok (.dup, 1) := by decide +kernel
theorem d_MA_init_75 : decode b_MA_init 75 = .ok (.invokespecial 48, 3) := by decide +kernel
theorem d_MA_init_78 : decode b_MA_init 78 = .ok (.aastore, 1) := by decide +kernel
theorem d_MA_init_79 : decode b_MA_init 79 = .ok (.iinc 1 1, 3) := by decide +kernel
theorem d_MA_init_82 : decode b_MA_init 82 = .ok (.goto (-21), 3) := by decide +kernel
theorem d_MA_init_85 : decode b_MA_init 85 = .ok (.iconst 0, 1) := by decide +kernel
theorem d_MA_init_86 : decode b_MA_init 86 = .ok (.istore_n 1, 1) := by decide +kernel
theorem d_MA_init_87 : decode b_MA_init 87 = .ok (.iload_n 1, 1) := by decide +kernel
theorem d_MA_init_88 : decode b_MA_init 88 = .ok (.iconst 5, 1) := by decide +kernel
theorem d_MA_init_89 : decode b_MA_init 89 = .ok (.if_icmp .gt 22, 3) := by decide +kernel
theorem d_MA_init_92 : decode b_MA_init 92 = .ok (.aload_n 0, 1) := by decide +kernel
theorem d_MA_init_93 : decode b_MA_init 93 = .ok (.getfield 19, 3) := by decide +kernel
theorem d_MA_init_96 : decode b_MA_init 96 = .ok (.iload_n 1, 1) := by decide +kernel
theorem d_MA_init_97 : decode b_MA_init 97 = .ok (.new 17, 3) := by decide +kernel
theorem d_MA_init_100 : decode b_MA_init 100 = .ok (.dup, 1) := by decide +kernel
theorem d_MA_init_101 : decode b_MA_init 101 = .ok (.invokespecial 49, 3) := by decide +kernel
theorem d_MA_init_104 : decode b_MA_init 104 = .ok (.aastore, 1) := by decide +kernel
theorem d_MA_init_105 : decode b_MA_init 105 = .ok (.iinc 1 1, 3) := by decide +kernel
theorem d_MA_init_108 : decode b_MA_init 108 = .ok (.goto (-21), 3) := by decide +kernel
theorem d_MA_init_111 : decode b_MA_init 111 = .ok (.return_, 1) := by decide +kernel
theorem d_MA_perform_0 : decode b_MA_perform 0 = .ok (.aload_n 0, 1) := by decide +kernel
theorem d_MA_perform_1 : decode b_MA_perform 1 = .ok (.getfield 26, 3) := by decide +kernel
theorem d_MA_perform_4 : decode b_MA_perform 4 = .ok (.invokevirtual 50, 3) := by decide +kernel
theorem d_MA_perform_7 : decode b_MA_perform 7 = .ok (.aload_n 0, 1) := by decide +kernel
theorem d_MA_perform_8 : decode b_MA_perform 8 = .ok (.getfield 33, 3) := by decide +kernel
theorem d_MA_perform_11 : decode b_MA_perform 11 = .ok (.invokevirtual 53, 3) := by decide +kernel
theorem d_MA_perform_14 : decode b_MA_perform 14 = .ok (.aload_n 0, 1) := by decide +kernel
theorem d_MA_perform_15 : decode b_MA_perform 15 = .ok (.iconst 0, 1) := by decide +kernel
theorem d_MA_perform_16 : decode b_MA_perform 16 = .ok (.putfield 56, 3) := by decide +kernel
theorem d_MA_perform_19 : decode b_MA_perform 19 = .ok (.aload_n 0, 1) := by decide +kernel
theorem d_MA_perform_20 : decode b_MA_perform 20 = .ok (.iconst (-1), 1) := by decide +kernel
theorem d_MA_perform_21 : decode b_MA_perform 21 = .ok (.putfield 44, 3) := by decide +kernel
theorem d_MA_perform_24 : decode b_MA_perform 24 = .ok (.aload_n 0, 1) := by decide +kernel
theorem d_MA_perform_25 : decode b_MA_perform 25 = .ok (.getfield 19, 3) := by decide +kernel
theorem d_MA_perform_28 : decode b_MA_perform 28 = .ok (.iconst 0, 1) := by decide +kernel
theorem d_MA_perform_29 : decode b_MA_perform 29 = .ok (.aaload, 1) := by decide +kernel
theorem d_MA_perform_30 : decode b_MA_perform 30 = .ok (.iload_n 1, 1) := by decide +kernel
theorem d_MA_perform_31 : decode b_MA_perform 31 = .ok (.iload_n 2, 1) := by decide +kernel
theorem d_MA_perform_32 : decode b_MA_perform 32 = .ok (.invokevirtual 59, 3) := by decide +kernel
theorem d_MA_perform_35 : decode b_MA_perform 35 = .ok (.aload_n 0, 1) := by decide +kernel
theorem d_MA_perform_36 : decode b_MA_perform 36 = .ok (.iconst 0, 1) := by decide +kernel
theorem d_MA_perform_37 : decode b_MA_perform 37 = .ok (.invokevirtual 63, 3) := by decide +kernel
theorem d_MA_perform_40 : decode b_MA_perform 40 = .ok (.astore_n 3, 1) := by decide +kernel
theorem d_MA_perform_41 : decode b_MA_perform 41 = .ok (.aload_n 3, 1) := by decide +kernel
theorem d_MA_perform_42 : decode b_MA_perform 42 = .ok (.getstatic 67, 3) := by decide +kernel
theorem d_MA_perform_45 : decode b_MA_perform 45 = .ok (.if_acmp .ne 5, 3) := by decide +kernel
theorem d_MA_perform_48 : decode b_MA_perform 48 = .ok (.iconst 2, 1) := by decide +kernel
theorem d_MA_perform_49 : decode b_MA_perform 49 = .ok (.ireturn, 1) := by decide +kernel
theorem d_MA_perform_50 : decode b_MA_perform 50 = .ok (.aload_n 3, 1) := by decide +kernel
theorem d_MA_perform_51 : decode b_MA_perform 51 = .ok (.getstatic 73, 3) := by decide +kernel
theorem d_MA_perform_54 : decode b_MA_perform 54 = .ok (.if_acmp .ne 18, 3) := by decide +kernel
theorem d_MA_perform_57 : decode b_MA_perform 57 = .ok (.aload_n 0, 1) := by decide +kernel
theorem d_MA_perform_58 : decode b_MA_perform 58 = .ok (.aload_n 0, 1) := by decide +kernel
theorem d_MA_perform_59 : decode b_MA_perform 59 = .ok (.getfield 19, 3) := by decide +kernel
theorem d_MA_perform_62 : decode b_MA_perform 62 = .ok (.iconst 0, 1) := by decide +kernel
theorem d_MA_perform_63 : decode b_MA_perform 63 = .ok (.aaload, 1) := by decide +kernel
theorem d_MA_perform_64 : decode b_MA_perform 64 = .ok (.getfield 76, 3) := by decide +kernel
theorem d_MA_perform_67 : decode b_MA_perform 67 = .ok (.putfield 44, 3) := by decide +kernel
theorem d_MA_perform_70 : decode b_MA_perform 70 = .ok (.iconst 1, 1) := by decide +kernel
theorem d_MA_perform_71 : decode b_MA_perform 71 = .ok (.ireturn, 1) := by decide +kernel
theorem d_MA_perform_72 : decode b_MA_perform 72 = .ok (.aload_n 0, 1) := by decide +kernel
theorem d_MA_perform_73 : decode b_MA_perform 73 = .ok (.aload_n 0, 1) := by decide +kernel
theorem d_MA_perform_74 : decode b_MA_perform 74 = .ok (.getfield 19, 3) := by decide +kernel
theorem d_MA_perform_77 : decode b_MA_perform 77 = .ok (.iconst 0, 1) := by decide +kernel
theorem d_MA_perform_78 : decode b_MA_perform 78 = .ok (.aaload, 1) := by decide +kernel
theorem d_MA_perform_79 : decode b_MA_perform 79 = .ok (.getfield 76, 3) := by decide +kernel
theorem d_MA_perform_82 : decode b_MA_perform 82 = .ok (.putfield 79, 3) := by decide +kernel
theorem d_MA_perform_85 : decode b_MA_perform 85 = .ok (.iconst 0, 1) := by decide +kernel
theorem d_MA_perform_86 : decode b_MA_perform 86 = .ok (.ireturn, 1) := by decide +kernel
theorem d_MA_doProcedure_0 : decode b_MA_doProcedure 0 = .ok (.aload_n 0, 1) := by decide +kernel
theorem d_MA_doProcedure_1 : decode b_MA_doProcedure 1 = .ok (.getfield 19, 3) := by decide +kernel
theorem d_MA_doProcedure_4 : decode b_MA_doProcedure 4 = .ok (.iload_n 1, 1) := by decide +kernel
theorem d_MA_doProcedure_5 : decode b_MA_doProcedure 5 = .ok (.aaload, 1) := by decide +kernel
theorem d_MA_doProcedure_6 : decode b_MA_doProcedure 6 = .ok (.astore_n 2, 1) := by decide +kernel
theorem d_MA_doProcedure_7 : decode b_MA_doProcedure 7 = .ok (.aload_n 0, 1) := by decide +kernel
theorem d_MA_doProcedure_8 : decode b_MA_doProcedure 8 = .ok (.iload_n 1, 1) := by decide +kernel
theorem d_MA_doProcedure_9 : decode b_MA_doProcedure 9 = .ok (.iconst (-1), 1) := by decide +kernel
theorem d_MA_doProcedure_10 : decode b_MA_doProcedure 10 = .ok (.invokevirtual 82, 3) := by decide +kernel
theorem d_MA_doProcedure_13 : decode b_MA_doProcedure 13 = .ok (.astore_n 3, 1) := by decide +kernel
theorem d_MA_doProcedure_14 : decode b_MA_doProcedure 14 = .ok (.aload_n 3, 1) := by decide +kernel
theorem d_MA_doProcedure_15 : decode b_MA_doProcedure 15 = .ok (.getstatic 67, 3) := by decide +kernel
theorem d_MA_doProcedure_18 : decode b_MA_doProcedure 18 = .ok (.if_acmp .ne 5, 3) := by decide +kernel
theorem d_MA_doProcedure_21 : decode b_MA_doProcedure 21 = .ok (.aload_n 3, 1) := by decide +kernel
theorem d_MA_doProcedure_22 : decode b_MA_doProcedure 22 = .ok (.areturn, 1) := by decide +kernel
theorem d_MA_doProcedure_23 : decode b_MA_doProcedure 23 = .ok (.aload_n 3, 1) := by decide +kernel
theorem d_MA_doProcedure_24 : decode b_MA_doProcedure 24 = .ok (.getstatic 86, 3) := by decide +kernel
theorem d_MA_doProcedure_27 : decode b_MA_doProcedure 27 = .ok (.if_acmp .ne 15, 3) := by decide +kernel
theorem d_MA_doProcedure_30 : decode b_MA_doProcedure 30 = .ok (.aload_n 2, 1) := by decide +kernel
theorem d_MA_doProcedure_31 : decode b_MA_doProcedure 31 = .ok (.aload_n 2, 1) := by decide +kernel
theorem d_MA_doProcedure_32 : decode b_MA_doProcedure 32 = .ok (.getfield 89, 3) := by decide +kernel
theorem d_MA_doProcedure_35 : decode b_MA_doProcedure 35 = .ok (.putfield 76, 3) := by decide +kernel
theorem d_MA_doProcedure_38 : decode b_MA_doProcedure 38 = .ok (.getstatic 92, 3) := by decide +kernel
theorem d_MA_doProcedure_41 : decode b_MA_doProcedure 41 = .ok (.astore_n 3, 1) := by decide +kernel
theorem d_MA_doProcedure_42 : decode b_MA_doProcedure 42 = .ok (.aload_n 0, 1) := by decide +kernel
theorem d_MA_doProcedure_43 : decode b_MA_doProcedure 43 = .ok (.aload_n 2, 1) := by decide +kernel
theorem d_MA_doProcedure_44 : decode b_MA_doProcedure 44 = .ok (.invokevirtual 95, 3) := by decide +kernel
theorem d_MA_doProcedure_47 : decode b_MA_doProcedure 47 = .ok (.ifCond .eq 25, 3) := by decide +kernel
theorem d_MA_doProcedure_50 : decode b_MA_doProcedure 50 = .ok (.aload_n 0, 1) := by decide +kernel
theorem d_MA_doProcedure_51 : decode b_MA_doProcedure 51 = .ok (.aload_n 2, 1) := by decide +kernel
theorem d_MA_doProcedure_52 : decode b_MA_doProcedure 52 = .ok (.iconst 4, 1) := by decide +kernel
theorem d_MA_doProcedure_53 : decode b_MA_doProcedure 53 = .ok (.aload_n 3, 1) := by decide +kernel
theorem d_MA_doProcedure_54 : decode b_MA_doProcedure 54 = .ok (.getstatic 73, 3) := by decide +kernel
theorem d_MA_doProcedure_57 : decode b_MA_doProcedure 57 = .ok (.if_acmp .ne 10, 3) := by decide +kernel
theorem d_MA_doProcedure_60 : decode b_MA_doProcedure 60 = .ok (.aload_n 2, 1) := by decide +kernel
theorem d_MA_doProcedure_61 : decode b_MA_doProcedure 61 = .ok (.getfield 76, 3) := by decide +kernel
theorem d_MA_doProcedure_64 : decode b_MA_doProcedure 64 = .ok (.goto 4, 3) := by decide +kernel
theorem d_MA_doProcedure_67 : decode b_MA_doProcedure 67 = .ok (.iconst (-1), 1) := by decide +kernel
theorem d_MA_doProcedure_68 : decode b_MA_doProcedure 68 = .ok (.invokevirtual 99, 3) := by decide +kernel
theorem d_MA_doProcedure_71 : decode b_MA_doProcedure 71 = .ok (.areturn, 1) := by decide +kernel
theorem d_MA_doProcedure_72 : decode b_MA_doProcedure 72 = .ok (.aload_n 3, 1) := by decide +kernel
theorem d_MA_doProcedure_73 : decode b_MA_doProcedure 73 = .ok (.areturn, 1) := by decide +kernel
theorem d_MA_releaseEntered_0 : decode b_MA_releaseEntered 0 = .ok (.iconst 0, 1) := by decide +kernel
theorem d_MA_releaseEntered_1 : decode b_MA_releaseEntered 1 = .ok (.istore_n 2, 1) := by decide +kernel
theorem d_MA_releaseEntered_2 : decode b_MA_releaseEntered 2 = .ok (.iconst 0, 1) := by decide +kernel
theorem d_MA_releaseEntered_3 : decode b_MA_releaseEntered 3 = .ok (.istore_n 3, 1) := by decide +kernel
theorem d_MA_releaseEntered_4 : decode b_MA_releaseEntered 4 = .ok (.iload_n 3, 1) := by decide +kernel
theorem d_MA_releaseEntered_5 : decode b_MA_releaseEntered 5 = .ok (.iconst 3, 1) := by decide +kernel
theorem d_MA_releaseEntered_6 : decode b_MA_releaseEntered 6 = .ok (.if_icmp .ge 34, 3) := by decide +kernel
theorem d_MA_releaseEntered_9 : decode b_MA_releaseEntered 9 = .ok (.aload_n 1, 1) := by decide +kernel
theorem d_MA_releaseEntered_10 : decode b_MA_releaseEntered 10 = .ok (.getfield 103, 3) := by decide +kernel
theorem d_MA_releaseEntered_13 : decode b_MA_releaseEntered 13 = .ok (.iload_n 3, 1) := by decide +kernel
theorem d_MA_releaseEntered_14 : decode b_MA_releaseEntered 14 = .ok (.iaload, 1) := by decide +kernel
theorem d_MA_releaseEntered_15 : decode b_MA_releaseEntered 15 = .ok (.ifCond .le 19, 3) := by decide +kernel
theorem d_MA_releaseEntered_18 : decode b_MA_releaseEntered 18 = .ok (.aload_n 0, 1) := by decide +kernel
theorem d_MA_releaseEntered_19 : decode b_MA_releaseEntered 19 = .ok (.getfield 33, 3) := by decide +kernel
theorem d_MA_releaseEntered_22 : decode b_MA_releaseEntered 22 = .ok (.iload_n 3, 1) := by decide +kernel
theorem d_MA_releaseEntered_23 : decode b_MA_releaseEntered 23 = .ok (.aload_n 1, 1) := by decide +kernel
theorem d_MA_releaseEntered_24 : decode b_MA_releaseEntered 24 = .ok (.getfield 103, 3) := by decide +kernel
theorem d_MA_releaseEntered_27 : decode b_MA_releaseEntered 27 = .ok (.iload_n 3, 1) := by decide +kernel
theorem d_MA_releaseEntered_28 : decode b_MA_releaseEntered 28 = .ok (.iaload, 1) := by decide +kernel
theorem d_MA_releaseEntered_29 : decode b_MA_releaseEntered 29 = .ok (.invokevirtual 107, 3) := by decide +kernel
theorem d_MA_releaseEntered_32 : decode b_MA_releaseEntered 32 = .ok (.iconst 1, 1) := by decide +kernel
theorem d_MA_releaseEntered_33 : decode b_MA_releaseEntered 33 = .ok (.istore_n 2, 1) := by decide +kernel
theorem d_MA_releaseEntered_34 : decode b_MA_releaseEntered 34 = .ok (.iinc 3 1, 3) := by decide +kernel
theorem d_MA_releaseEntered_37 : decode b_MA_releaseEntered 37 = .ok (.goto (-33), 3) := by decide +kernel
theorem d_MA_releaseEntered_40 : decode b_MA_releaseEntered 40 = .ok (.iload_n 2, 1) := by decide +kernel
theorem d_MA_releaseEntered_41 : decode b_MA_releaseEntered 41 = .ok (.ireturn, 1) := by decide +kernel
theorem d_MA_textOf_0 : decode b_MA_textOf 0 = .ok (.aload_n 0, 1) := by decide +kernel
theorem d_MA_textOf_1 : decode b_MA_textOf 1 = .ok (.getfield 11, 3) := by decide +kernel
theorem d_MA_textOf_4 : decode b_MA_textOf 4 = .ok (.aload_n 0, 1) := by decide +kernel
theorem d_MA_textOf_5 : decode b_MA_textOf 5 = .ok (.getfield 19, 3) := by decide +kernel
theorem d_MA_textOf_8 : decode b_MA_textOf 8 = .ok (.iload_n 1, 1) := by decide +kernel
theorem d_MA_textOf_9 : decode b_MA_textOf 9 = .ok (.aaload, 1) := by decide +kernel
theorem d_MA_textOf_10 : decode b_MA_textOf 10 = .ok (.getfield 110, 3) := by decide +kernel
theorem d_MA_textOf_13 : decode b_MA_textOf 13 = .ok (.aaload, 1) := by decide +kernel
theorem d_MA_textOf_14 : decode b_MA_textOf 14 = .ok (.areturn, 1) := by decide +kernel
theorem d_MA_doBlock_0 : decode b_MA_doBlock 0 = .ok (.aload_n 0, 1) := by decide +kernel
theorem d_MA_doBlock_1 : decode b_MA_doBlock 1 = .ok (.iload_n 1, 1) := by decide +kernel
theorem d_MA_doBlock_2 : decode b_MA_doBlock 2 = .ok (.invokevirtual 113, 3) := by decide +kernel
theorem d_MA_doBlock_5 : decode b_MA_doBlock 5 = .ok (.astore_n 3, 1) := by decide +kernel
theorem d_MA_doBlock_6 : decode b_MA_doBlock 6 = .ok (.iload_n 2, 1) := by decide +kernel
theorem d_MA_doBlock_7 : decode b_MA_doBlock 7 = .ok (.iconst (-1), 1) := by decide +kernel
theorem d_MA_doBlock_8 : decode b_MA_doBlock 8 = .ok (.if_icmp .ne 12, 3) := by decide +kernel
theorem d_MA_doBlock_11 : decode b_MA_doBlock 11 = .ok (.aload_n 3, 1) := by decide +kernel
theorem d_MA_doBlock_12 : decode b_MA_doBlock 12 = .ok (.getfield 117, 3) := by decide +kernel
theorem d_MA_doBlock_15 : decode b_MA_doBlock 15 = .ok (.iconst 1, 1) := by decide +kernel
theorem d_MA_doBlock_16 : decode b_MA_doBlock 16 = .ok (.isub, 1) := by decide +kernel
theorem d_MA_doBlock_17 : decode b_MA_doBlock 17 = .ok (.goto 9, 3) := by decide +kernel
theorem d_MA_doBlock_20 : decode b_MA_doBlock 20 = .ok (.aload_n 3, 1) := by decide +kernel
theorem d_MA_doBlock_21 : decode b_MA_doBlock 21 = .ok (.getfield 120, 3) := by decide +kernel
theorem d_MA_doBlock_24 : decode b_MA_doBlock 24 = .ok (.iload_n 2, 1) := by decide +kernel
theorem d_MA_doBlock_25 : decode b_MA_doBlock 25 = .ok (.iaload, 1) := by decide +kernel
theorem d_MA_doBlock_26 : decode b_MA_doBlock 26 = .ok (.istore 4, 2) := by decide +kernel
theorem d_MA_doBlock_28 : decode b_MA_doBlock 28 = .ok (.iload_n 2, 1) := by decide +kernel
theorem d_MA_doBlock_29 : decode b_MA_doBlock 29 = .ok (.iconst 1, 1) := by decide +kernel
theorem d_MA_doBlock_30 : decode b_MA_doBlock 30 = .ok (.iadd, 1) := by decide +kernel
theorem d_MA_doBlock_31 : decode b_MA_doBlock 31 = .ok (.istore 5, 2) := by decide +kernel
theorem d_MA_doBlock_33 : decode b_MA_doBlock 33 = .ok (.iconst 0, 1) := by decide +kernel
theorem d_MA_doBlock_34 : decode b_MA_doBlock 34 = .ok (.istore 6, 2) := by decide +kernel
theorem d_MA_doBlock_36 : decode b_MA_doBlock 36 = .ok (.iload 6, 2) := by decide +kernel
theorem d_MA_doBlock_38 : decode b_MA_doBlock 38 = .ok (.bipush 32, 2) := by decide +kernel
theorem d_MA_doBlock_40 : decode b_MA_doBlock 40 = .ok (.if_icmp .ge 44, 3) := by decide +kernel
theorem d_MA_doBlock_43 : decode b_MA_doBlock 43 = .ok (.iload 5, 2) := by decide +kernel
theorem d_MA_doBlock_45 : decode b_MA_doBlock 45 = .ok (.iload 4, 2) := by decide +kernel
theorem d_MA_doBlock_47 : decode b_MA_doBlock 47 = .ok (.if_icmp .ge 37, 3) := by decide +kernel
theorem d_MA_doBlock_50 : decode b_MA_doBlock 50 = .ok (.aload_n 0, 1) := by decide +kernel
theorem d_MA_doBlock_51 : decode b_MA_doBlock 51 = .ok (.iload_n 1, 1) := by decide +kernel
theorem d_MA_doBlock_52 : decode b_MA_doBlock 52 = .ok (.iload 5, 2) := by decide +kernel
theorem d_MA_doBlock_54 : decode b_MA_doBlock 54 = .ok (.invokevirtual 123, 3) := by decide +kernel
theorem d_MA_doBlock_57 : decode b_MA_doBlock 57 = .ok (.astore 7, 2) := by decide +kernel
theorem d_MA_doBlock_59 : decode b_MA_doBlock 59 = .ok (.aload 7, 2) := by decide +kernel
theorem d_MA_doBlock_61 : decode b_MA_doBlock 61 = .ok (.getstatic 86, 3) := by decide +kernel
theorem d_MA_doBlock_64 : decode b_MA_doBlock 64 = .ok (.if_acmp .eq 6, 3) := by decide +kernel
theorem d_MA_doBlock_67 : decode b_MA_doBlock 67 = .ok (.aload 7, 2) := by decide +kernel
theorem d_MA_doBlock_69 : decode b_MA_doBlock 69 = .ok (.areturn, 1) := by decide +kernel
theorem d_MA_doBlock_70 : decode b_MA_doBlock 70 = .ok (.aload_n 3, 1) := by decide +kernel
theorem d_MA_doBlock_71 : decode b_MA_doBlock 71 = .ok (.iload 5, 2) := by decide +kernel
theorem d_MA_doBlock_73 : decode b_MA_doBlock 73 = .ok (.invokevirtual 126, 3) := by decide +kernel
theorem d_MA_doBlock_76 : decode b_MA_doBlock 76 = .ok (.istore 5, 2) := by decide +kernel
theorem d_MA_doBlock_78 : decode b_MA_doBlock 78 = .ok (.iinc 6 1, 3) := by decide +kernel
theorem d_MA_doBlock_81 : decode b_MA_doBlock 81 = .ok (.goto (-45), 3) := by decide +kernel
theorem d_MA_doBlock_84 : decode b_MA_doBlock 84 = .ok (.getstatic 86, 3) := by decide +kernel
theorem d_MA_doBlock_87 : decode b_MA_doBlock 87 = .ok (.areturn, 1) := by decide +kernel
theorem d_MA_doItem_0 : decode b_MA_doItem 0 = .ok (.aload_n 0, 1) := by decide +kernel
theorem d_MA_doItem_1 : decode b_MA_doItem 1 = .ok (.getfield 56, 3) := by decide +kernel
theorem d_MA_doItem_4 : decode b_MA_doItem 4 = .ok (.sipush 300, 3) := by decide +kernel
theorem d_MA_doItem_7 : decode b_MA_doItem 7 = .ok (.if_icmp .lt 7, 3) := by decide +kernel
theorem d_MA_doItem_10 : decode b_MA_doItem 10 = .ok (.getstatic 67, 3) := by decide +kernel
theorem d_MA_doItem_13 : decode b_MA_doItem 13 = .ok (.areturn, 1) := by decide +kernel
theorem d_MA_doItem_14 : decode b_MA_doItem 14 = .ok (.aload_n 0, 1) := by decide +kernel
theorem d_MA_doItem_15 : decode b_MA_doItem 15 = .ok (.dup, 1) := by decide +kernel
theorem d_MA_doItem_16 : decode b_MA_doItem 16 = .ok (.getfield 56, 3) := by decide +kernel
theorem d_MA_doItem_19 : decode b_MA_doItem 19 = .ok (.iconst 1, 1) := by decide +kernel
theorem d_MA_doItem_20 : decode b_MA_doItem 20 = .ok (.iadd, 1) := by decide +kernel
theorem d_MA_doItem_21 : decode b_MA_doItem 21 = .ok (.putfield 56, 3) := by decide +kernel
theorem d_MA_doItem_24 : decode b_MA_doItem 24 = .ok (.aload_n 0, 1) := by decide +kernel
theorem d_MA_doItem_25 : decode b_MA_doItem 25 = .ok (.getfield 19, 3) := by decide +kernel
theorem d_MA_doItem_28 : decode b_MA_doItem 28 = .ok (.iload_n 1, 1) := by decide +kernel
theorem d_MA_doItem_29 : decode b_MA_doItem 29 = .ok (.aaload, 1) := by decide +kernel
theorem d_MA_doItem_30 : decode b_MA_doItem 30 = .ok (.astore_n 3, 1) := by decide +kernel
theorem d_MA_doItem_31 : decode b_MA_doItem 31 = .ok (.aload_n 0, 1) := by decide +kernel
theorem d_MA_doItem_32 : decode b_MA_doItem 32 = .ok (.iload_n 1, 1) := by decide +kernel
theorem d_MA_doItem_33 : decode b_MA_doItem 33 = .ok (.invokevirtual 113, 3) := by decide +kernel
theorem d_MA_doItem_36 : decode b_MA_doItem 36 = .ok (.astore 4, 2) := by decide +kernel
theorem d_MA_doItem_38 : decode b_MA_doItem 38 = .ok (.aload 4, 2) := by decide +kernel
theorem d_MA_doItem_40 : decode b_MA_doItem 40 = .ok (.getfield 130, 3) := by decide +kernel
theorem d_MA_doItem_43 : decode b_MA_doItem 43 = .ok (.iload_n 2, 1) := by decide +kernel
theorem d_MA_doItem_44 : decode b_MA_doItem 44 = .ok (.iaload, 1) := by decide +kernel
theorem d_MA_doItem_45 : decode b_MA_doItem 45 = .ok (.istore 5, 2) := by decide +kernel
theorem d_MA_doItem_47 : decode b_MA_doItem 47 = .ok (.aload 4, 2) := by decide +kernel
theorem d_MA_doItem_49 : decode b_MA_doItem 49 = .ok (.getfield 133, 3) := by decide +kernel
theorem d_MA_doItem_52 : decode b_MA_doItem 52 = .ok (.iload_n 2, 1) := by decide +kernel
theorem d_MA_doItem_53 : decode b_MA_doItem 53 = .ok (.iaload, 1) := by decide +kernel
theorem d_MA_doItem_54 : decode b_MA_doItem 54 = .ok (.tableswitch 254 0 15 #[78, 91, 106, 114, 123, 127, 131, 146, 155, 167, 174, 183, 191, 199, 207, 229], 78) := by decide +kernel
theorem d_MA_doItem_132 : decode b_MA_doItem 132 = .ok (.aload_n 0, 1) := by decide +kernel
theorem d_MA_doItem_133 : decode b_MA_doItem 133 = .ok (.getfield 40, 3) := by decide +kernel
theorem d_MA_doItem_136 : decode b_MA_doItem 136 = .ok (.iload 5, 2) := by decide +kernel
theorem d_MA_doItem_138 : decode b_MA_doItem 138 = .ok (.invokevirtual 136, 3) := by decide +kernel
theorem d_MA_doItem_141 : decode b_MA_doItem 141 = .ok (.getstatic 86, 3) := by decide +kernel
theorem d_MA_doItem_144 : decode b_MA_doItem 144 = .ok (.areturn, 1) := by decide +kernel
theorem d_MA_doItem_145 : decode b_MA_doItem 145 = .ok (.aload_n 3, 1) := by decide +kernel
theorem d_MA_doItem_146 : decode b_MA_doItem 146 = .ok (.dup, 1) := by decide +kernel
theorem d_MA_doItem_147 : decode b_MA_doItem 147 = .ok (.getfield 89, 3) := by decide +kernel
theorem d_MA_doItem_150 : decode b_MA_doItem 150 = .ok (.iload 5, 2) := by decide +kernel
theorem d_MA_doItem_152 : decode b_MA_doItem 152 = .ok (.iadd, 1) := by decide +kernel
theorem d_MA_doItem_153 : decode b_MA_doItem 153 = .ok (.putfield 89, 3) := by decide +kernel
theorem d_MA_doItem_156 : decode b_MA_doItem 156 = .ok (.getstatic 86, 3) := by decide +kernel
theorem d_MA_doItem_159 : decode b_MA_doItem 159 = .ok (.areturn, 1) := by decide +kernel
theorem d_MA_doItem_160 : decode b_MA_doItem 160 = .ok (.aload_n 0, 1) := by decide +kernel
theorem d_MA_doItem_161 : decode b_MA_doItem 161 = .ok (.aload_n 3, 1) := by decide +kernel
theorem d_MA_doItem_162 : decode b_MA_doItem 162 = .ok (.iload 5, 2) := by decide +kernel
theorem d_MA_doItem_164 : decode b_MA_doItem 164 = .ok (.invokevirtual 140, 3) := by decide +kernel
theorem d_MA_doItem_167 : decode b_MA_doItem 167 = .ok (.areturn, 1) := by decide +kernel
theorem d_MA_doItem_168 : decode b_MA_doItem 168 = .ok (.aload_n 0, 1) := by decide +kernel
theorem d_MA_doItem_169 : decode b_MA_doItem 169 = .ok (.iload_n 1, 1) := by decide +kernel
theorem d_MA_doItem_170 : decode b_MA_doItem 170 = .ok (.iload_n 2, 1) := by decide +kernel
theorem d_MA_doItem_171 : decode b_MA_doItem 171 = .ok (.iload 5, 2) := by decide +kernel
theorem d_MA_doItem_173 : decode b_MA_doItem 173 = .ok (.invokevirtual 144, 3) := by decide +kernel
theorem d_MA_doItem_176 : decode b_MA_doItem 176 = .ok (.areturn, 1) := by decide +kernel
theorem d_MA_doItem_177 : decode b_MA_doItem 177 = .ok (.getstatic 148, 3) := by decide +kernel
theorem d_MA_doItem_180 : decode b_MA_doItem 180 = .ok (.areturn, 1) := by decide +kernel
theorem d_MA_doItem_181 : decode b_MA_doItem 181 = .ok (.getstatic 151, 3) := by decide +kernel
theorem d_MA_doItem_184 : decode b_MA_doItem 184 = .ok (.areturn, 1) := by decide +kernel
theorem d_MA_doItem_185 : decode b_MA_doItem 185 = .ok (.aload_n 3, 1) := by decide +kernel
theorem d_MA_doItem_186 : decode b_MA_doItem 186 = .ok (.aload_n 3, 1) := by decide +kernel
theorem d_MA_doItem_187 : decode b_MA_doItem 187 = .ok (.getfield 89, 3) := by decide +kernel
theorem d_MA_doItem_190 : decode b_MA_doItem 190 = .ok (.iload 5, 2) := by decide +kernel
theorem d_MA_doItem_192 : decode b_MA_doItem 192 = .ok (.iadd, 1) := by decide +kernel
theorem d_MA_doItem_193 : decode b_MA_doItem 193 = .ok (.putfield 76, 3) := by decide +kernel
theorem d_MA_doItem_196 : decode b_MA_doItem 196 = .ok (.getstatic 92, 3) := by decide +kernel
theorem d_MA_doItem_199 : decode b_MA_doItem 199 = .ok (.areturn, 1) := by decide +kernel
theorem d_MA_doItem_200 : decode b_MA_doItem 200 = .ok (.aload_n 0, 1) := by decide +kernel
theorem d_MA_doItem_201 : decode b_MA_doItem 201 = .ok (.aload_n 3, 1) := by decide +kernel
theorem d_MA_doItem_202 : decode b_MA_doItem 202 = .ok (.iload 5, 2) := by decide +kernel
theorem d_MA_doItem_204 : decode b_MA_doItem 204 = .ok (.iconst (-1), 1) := by decide +kernel
theorem d_MA_doItem_205 : decode b_MA_doItem 205 = .ok (.invokevirtual 99, 3) := by decide +kernel
theorem d_MA_doItem_208 : decode b_MA_doItem 208 = .ok (.areturn, 1) := by decide +kernel
theorem d_MA_doItem_209 : decode b_MA_doItem 209 = .ok (.aload_n 0, 1) := by decide +kernel
theorem d_MA_doItem_210 : decode b_MA_doItem 210 = .ok (.aload_n 3, 1) := by decide +kernel
theorem d_MA_doItem_211 : decode b_MA_doItem 211 = .ok (.iload 5, 2) := by decide +kernel
theorem d_MA_doItem_213 : decode b_MA_doItem 213 = .ok (.aload_n 3, 1) := by decide +kernel
theorem d_MA_doItem_214 : decode b_MA_doItem 214 = .ok (.getfield 154, 3) := by decide +kernel
theorem d_MA_doItem_217 : decode b_MA_doItem 217 = .ok (.invokevirtual 99, 3) := by decide +kernel
theorem d_MA_doItem_220 : decode b_MA_doItem 220 = .ok (.areturn, 1) := by decide +kernel
theorem d_MA_doItem_221 : decode b_MA_doItem 221 = .ok (.aload_n 0, 1) := by decide +kernel
theorem d_MA_doItem_222 : decode b_MA_doItem 222 = .ok (.iload_n 1, 1) := by decide +kernel
theorem d_MA_doItem_223 : decode b_MA_doItem 223 = .ok (.iload_n 2, 1) := by decide +kernel
theorem d_MA_doItem_224 : decode b_MA_doItem 224 = .ok (.invokevirtual 157, 3) := by decide +kernel
theorem d_MA_doItem_227 : decode b_MA_doItem 227 = .ok (.areturn, 1) := by decide +kernel
theorem d_MA_doItem_228 : decode b_MA_doItem 228 = .ok (.aload_n 0, 1) := by decide +kernel
theorem d_MA_doItem_229 : decode b_MA_doItem 229 = .ok (.iload_n 1, 1) := by decide +kernel
theorem d_MA_doItem_230 : decode b_MA_doItem 230 = .ok (.iload_n 2, 1) := by decide +kernel
theorem d_MA_doItem_231 : decode b_MA_doItem 231 = .ok (.iload 5, 2) := by decide +kernel
theorem d_MA_doItem_233 : decode b_MA_doItem 233 = .ok (.invokevirtual 160, 3) := by decide +kernel
theorem d_MA_doItem_236 : decode b_MA_doItem 236 = .ok (.areturn, 1) := by decide +kernel
theorem d_MA_doItem_237 : decode b_MA_doItem 237 = .ok (.aload_n 0, 1) := by decide +kernel
theorem d_MA_doItem_238 : decode b_MA_doItem 238 = .ok (.aload_n 3, 1) := by decide +kernel
theorem d_MA_doItem_239 : decode b_MA_doItem 239 = .ok (.iload 5, 2) := by decide +kernel
theorem d_MA_doItem_241 : decode b_MA_doItem 241 = .ok (.invokevirtual 163, 3) := by decide +kernel
theorem d_MA_doItem_244 : decode b_MA_doItem 244 = .ok (.areturn, 1) := by decide +kernel
theorem d_MA_doItem_245 : decode b_MA_doItem 245 = .ok (.aload_n 0, 1) := by decide +kernel
theorem d_MA_doItem_246 : decode b_MA_doItem 246 = .ok (.aload_n 3, 1) := by decide +kernel
theorem d_MA_doItem_247 : decode b_MA_doItem 247 = .ok (.iload 5, 2) := by decide +kernel
theorem d_MA_doItem_249 : decode b_MA_doItem 249 = .ok (.invokevirtual 166, 3) := by decide +kernel
theorem d_MA_doItem_252 : decode b_MA_doItem 252 = .ok (.areturn, 1) := by decide +kernel
theorem d_MA_doItem_253 : decode b_MA_doItem 253 = .ok (.aload_n 0, 1) := by decide +kernel
theorem d_MA_doItem_254 : decode b_MA_doItem 254 = .ok (.iload_n 1, 1) := by decide +kernel
theorem d_MA_doItem_255 : decode b_MA_doItem 255 = .ok (.iload 5, 2) := by decide +kernel
theorem d_MA_doItem_257 : decode b_MA_doItem 257 = .ok (.invokevirtual 169, 3) := by decide +kernel
theorem d_MA_doItem_260 : decode b_MA_doItem 260 = .ok (.areturn, 1) := by decide +kernel
theorem d_MA_doItem_261 : decode b_MA_doItem 261 = .ok (.aload_n 3, 1) := by decide +kernel
theorem d_MA_doItem_262 : decode b_MA_doItem 262 = .ok (.getfield 89, 3) := by decide +kernel
theorem d_MA_doItem_265 : decode b_MA_doItem 265 = .ok (.iload 5, 2) := by decide +kernel
theorem d_MA_doItem_267 : decode b_MA_doItem 267 = .ok (.if_icmp .le 12, 3) := by decide +kernel
theorem d_MA_doItem_270 : decode b_MA_doItem 270 = .ok (.aload_n 0, 1) := by decide +kernel
theorem d_MA_doItem_271 : decode b_MA_doItem 271 = .ok (.iload_n 1, 1) := by decide +kernel
theorem d_MA_doItem_272 : decode b_MA_doItem 272 = .ok (.iload_n 2, 1) := by decide +kernel
theorem d_MA_doItem_273 : decode b_MA_doItem 273 = .ok (.invokevirtual 82, 3) := by decide +kernel
theorem d_MA_doItem_276 : decode b_MA_doItem 276 = .ok (.goto 6, 3) := by decide +kernel
theorem d_MA_doItem_279 : decode b_MA_doItem 279 = .ok (.getstatic 86, 3) := by decide +kernel
theorem d_MA_doItem_282 : decode b_MA_doItem 282 = .ok (.areturn, 1) := by decide +kernel
theorem d_MA_doItem_283 : decode b_MA_doItem 283 = .ok (.aload_n 3, 1) := by decide +kernel
theorem d_MA_doItem_284 : decode b_MA_doItem 284 = .ok (.aload_n 0, 1) := by decide +kernel
theorem d_MA_doItem_285 : decode b_MA_doItem 285 = .ok (.getfield 33, 3) := by decide +kernel
theorem d_MA_doItem_288 : decode b_MA_doItem 288 = .ok (.iload 5, 2) := by decide +kernel
theorem d_MA_doItem_290 : decode b_MA_doItem 290 = .ok (.invokevirtual 172, 3) := by decide +kernel
theorem d_MA_doItem_293 : decode b_MA_doItem 293 = .ok (.ifCond .eq 7, 3) := by decide +kernel
theorem d_MA_doItem_296 : decode b_MA_doItem 296 = .ok (.iconst 1, 1) := by decide +kernel
theorem d_MA_doItem_297 : decode b_MA_doItem 297 = .ok (.goto 4, 3) := by decide +kernel
theorem d_MA_doItem_300 : decode b_MA_doItem 300 = .ok (.iconst 0, 1) := by decide +kernel
theorem d_MA_doItem_301 : decode b_MA_doItem 301 = .ok (.putfield 89, 3) := by decide +kernel
theorem d_MA_doItem_304 : decode b_MA_doItem 304 = .ok (.getstatic 86, 3) := by decide +kernel
theorem d_MA_doItem_307 : decode b_MA_doItem 307 = .ok (.areturn, 1) := by decide +kernel
theorem d_MA_doItem_308 : decode b_MA_doItem 308 = .ok (.getstatic 86, 3) := by decide +kernel
theorem d_MA_doItem_311 : decode b_MA_doItem 311 = .ok (.areturn, 1) := by decide +kernel
theorem d_MA_raise_0 : decode b_MA_raise 0 = .ok (.aload_n 1, 1) := by decide +kernel
theorem d_MA_raise_1 : decode b_MA_raise 1 = .ok (.aload_n 0, 1) := by decide +kernel
theorem d_MA_raise_2 : decode b_MA_raise 2 = .ok (.getfield 26, 3) := by decide +kernel
theorem d_MA_raise_5 : decode b_MA_raise 5 = .ok (.iload_n 2, 1) := by decide +kernel
theorem d_MA_raise_6 : decode b_MA_raise 6 = .ok (.iload_n 3, 1) := by decide +kernel
theorem d_MA_raise_7 : decode b_MA_raise 7 = .ok (.invokevirtual 176, 3) := by decide +kernel
theorem d_MA_raise_10 : decode b_MA_raise 10 = .ok (.putfield 76, 3) := by decide +kernel
theorem d_MA_raise_13 : decode b_MA_raise 13 = .ok (.getstatic 73, 3) := by decide +kernel
theorem d_MA_raise_16 : decode b_MA_raise 16 = .ok (.areturn, 1) := by decide +kernel
theorem d_MA_doDivide_0 : decode b_MA_doDivide 0 = .ok (.iload_n 2, 1) := by decide +kernel
theorem d_MA_doDivide_1 : decode b_MA_doDivide 1 = .ok (.ifCond .ne 12, 3) := by decide +kernel
theorem d_MA_doDivide_4 : decode b_MA_doDivide 4 = .ok (.aload_n 0, 1) := by decide +kernel
theorem d_MA_doDivide_5 : decode b_MA_doDivide 5 = .ok (.aload_n 1, 1) := by decide +kernel
theorem d_MA_doDivide_6 : decode b_MA_doDivide 6 = .ok (.bipush 6, 2) := by decide +kernel
theorem d_MA_doDivide_8 : decode b_MA_doDivide 8 = .ok (.iconst (-1), 1) := by decide +kernel
theorem d_MA_doDivide_9 : decode b_MA_doDivide 9 = .ok (.invokevirtual 99, 3) := by decide +kernel
theorem d_MA_doDivide_12 : decode b_MA_doDivide 12 = .ok (.areturn, 1) := by decide +kernel
theorem d_MA_doDivide_13 : decode b_MA_doDivide 13 = .ok (.aload_n 1, 1) := by decide +kernel
theorem d_MA_doDivide_14 : decode b_MA_doDivide 14 = .ok (.dup, 1) := by decide +kernel
theorem d_MA_doDivide_15 : decode b_MA_doDivide 15 = .ok (.getfield 89, 3) := by decide +kernel
theorem d_MA_doDivide_18 : decode b_MA_doDivide 18 = .ok (.iload_n 2, 1) := by decide +kernel
theorem d_MA_doDivide_19 : decode b_MA_doDivide 19 = .ok (.idiv, 1) := by decide +kernel
theorem d_MA_doDivide_20 : decode b_MA_doDivide 20 = .ok (.putfield 89, 3) := by decide +kernel
theorem d_MA_doDivide_23 : decode b_MA_doDivide 23 = .ok (.getstatic 86, 3) := by decide +kernel
theorem d_MA_doDivide_26 : decode b_MA_doDivide 26 = .ok (.areturn, 1) := by decide +kernel
theorem d_MA_doTimes_0 : decode b_MA_doTimes 0 = .ok (.iconst 0, 1) := by decide +kernel
theorem d_MA_doTimes_1 : decode b_MA_doTimes 1 = .ok (.istore 4, 2) := by decide +kernel
theorem d_MA_doTimes_3 : decode b_MA_doTimes 3 = .ok (.iload 4, 2) := by decide +kernel
theorem d_MA_doTimes_5 : decode b_MA_doTimes 5 = .ok (.iload_n 3, 1) := by decide +kernel
theorem d_MA_doTimes_6 : decode b_MA_doTimes 6 = .ok (.if_icmp .ge 48, 3) := by decide +kernel
theorem d_MA_doTimes_9 : decode b_MA_doTimes 9 = .ok (.aload_n 0, 1) := by decide +kernel
theorem d_MA_doTimes_10 : decode b_MA_doTimes 10 = .ok (.iload_n 1, 1) := by decide +kernel
theorem d_MA_doTimes_11 : decode b_MA_doTimes 11 = .ok (.iload_n 2, 1) := by decide +kernel
theorem d_MA_doTimes_12 : decode b_MA_doTimes 12 = .ok (.invokevirtual 82, 3) := by decide +kernel
theorem d_MA_doTimes_15 : decode b_MA_doTimes 15 = .ok (.astore 5, 2) := by decide +kernel
theorem d_MA_doTimes_17 : decode b_MA_doTimes 17 = .ok (.aload 5, 2) := by decide +kernel
theorem d_MA_doTimes_19 : decode b_MA_doTimes 19 = .ok (.getstatic 148, 3) := by decide +kernel
theorem d_MA_doTimes_22 : decode b_MA_doTimes 22 = .ok (.if_acmp .ne 7, 3) := by decide +kernel
theorem d_MA_doTimes_25 : decode b_MA_doTimes 25 = .ok (.getstatic 86, 3) := by decide +kernel
theorem d_MA_doTimes_28 : decode b_MA_doTimes 28 = .ok (.areturn, 1) := by decide +kernel
theorem d_MA_doTimes_29 : decode b_MA_doTimes 29 = .ok (.aload 5, 2) := by decide +kernel
theorem d_MA_doTimes_31 : decode b_MA_doTimes 31 = .ok (.getstatic 86, 3) := by decide +kernel
theorem d_MA_doTimes_34 : decode b_MA_doTimes 34 = .ok (.if_acmp .eq 14, 3) := by decide +kernel
theorem d_MA_doTimes_37 : decode b_MA_doTimes 37 = .ok (.aload 5, 2) := by decide +kernel
theorem d_MA_doTimes_39 : decode b_MA_doTimes 39 = .ok (.getstatic 151, 3) := by decide +kernel
theorem d_MA_doTimes_42 : decode b_MA_doTimes 42 = .ok (.if_acmp .eq 6, 3) := by decide +kernel
theorem d_MA_doTimes_45 : decode b_MA_doTimes 45 = .ok (.aload 5, 2) := by decide +kernel
theorem d_MA_doTimes_47 : decode b_MA_doTimes 47 = .ok (.areturn, 1) := by decide +kernel
theorem d_MA_doTimes_48 : decode b_MA_doTimes 48 = .ok (.iinc 4 1, 3) := by decide +kernel
theorem d_MA_doTimes_51 : decode b_MA_doTimes 51 = .ok (.goto (-48), 3) := by decide +kernel
theorem d_MA_doTimes_54 : decode b_MA_doTimes 54 = .ok (.getstatic 86, 3) := by decide +kernel
theorem d_MA_doTimes_57 : decode b_MA_doTimes 57 = .ok (.areturn, 1) := by decide +kernel
theorem d_MA_doTry_0 : decode b_MA_doTry 0 = .ok (.aload_n 0, 1) := by decide +kernel
theorem d_MA_doTry_1 : decode b_MA_doTry 1 = .ok (.iload_n 1, 1) := by decide +kernel
theorem d_MA_doTry_2 : decode b_MA_doTry 2 = .ok (.invokevirtual 113, 3) := by decide +kernel
theorem d_MA_doTry_5 : decode b_MA_doTry 5 = .ok (.astore_n 3, 1) := by decide +kernel
theorem d_MA_doTry_6 : decode b_MA_doTry 6 = .ok (.aload_n 0, 1) := by decide +kernel
theorem d_MA_doTry_7 : decode b_MA_doTry 7 = .ok (.iload_n 1, 1) := by decide +kernel
theorem d_MA_doTry_8 : decode b_MA_doTry 8 = .ok (.iload_n 2, 1) := by decide +kernel
theorem d_MA_doTry_9 : decode b_MA_doTry 9 = .ok (.invokevirtual 82, 3) := by decide +kernel
theorem d_MA_doTry_12 : decode b_MA_doTry 12 = .ok (.astore 4, 2) := by decide +kernel
theorem d_MA_doTry_14 : decode b_MA_doTry 14 = .ok (.aload 4, 2) := by decide +kernel
theorem d_MA_doTry_16 : decode b_MA_doTry 16 = .ok (.getstatic 73, 3) := by decide +kernel
theorem d_MA_doTry_19 : decode b_MA_doTry 19 = .ok (.if_acmp .ne 7, 3) := by decide +kernel
theorem d_MA_doTry_22 : decode b_MA_doTry 22 = .ok (.iconst 1, 1) := by decide +kernel
theorem d_MA_doTry_23 : decode b_MA_doTry 23 = .ok (.goto 4, 3) := by decide +kernel
theorem d_MA_doTry_26 : decode b_MA_doTry 26 = .ok (.iconst 0, 1) := by decide +kernel
theorem d_MA_doTry_27 : decode b_MA_doTry 27 = .ok (.istore 5, 2) := by decide +kernel
theorem d_MA_doTry_29 : decode b_MA_doTry 29 = .ok (.aload_n 3, 1) := by decide +kernel
theorem d_MA_doTry_30 : decode b_MA_doTry 30 = .ok (.getfield 120, 3) := by decide +kernel
theorem d_MA_doTry_33 : decode b_MA_doTry 33 = .ok (.iload_n 2, 1) := by decide +kernel
theorem d_MA_doTry_34 : decode b_MA_doTry 34 = .ok (.iaload, 1) := by decide +kernel
theorem d_MA_doTry_35 : decode b_MA_doTry 35 = .ok (.iconst 1, 1) := by decide +kernel
theorem d_MA_doTry_36 : decode b_MA_doTry 36 = .ok (.iadd, 1) := by decide +kernel
theorem d_MA_doTry_37 : decode b_MA_doTry 37 = .ok (.istore 6, 2) := by decide +kernel
theorem d_MA_doTry_39 : decode b_MA_doTry 39 = .ok (.iconst 0, 1) := by decide +kernel
theorem d_MA_doTry_40 : decode b_MA_doTry 40 = .ok (.istore 7, 2) := by decide +kernel
theorem d_MA_doTry_42 : decode b_MA_doTry 42 = .ok (.iload 7, 2) := by decide +kernel
theorem d_MA_doTry_44 : decode b_MA_doTry 44 = .ok (.aload_n 3, 1) := by decide +kernel
theorem d_MA_doTry_45 : decode b_MA_doTry 45 = .ok (.iload_n 2, 1) := by decide +kernel
theorem d_MA_doTry_46 : decode b_MA_doTry 46 = .ok (.invokevirtual 180, 3) := by decide +kernel
theorem d_MA_doTry_49 : decode b_MA_doTry 49 = .ok (.if_icmp .ge 56, 3) := by decide +kernel
theorem d_MA_doTry_52 : decode b_MA_doTry 52 = .ok (.iload 6, 2) := by decide +kernel
theorem d_MA_doTry_54 : decode b_MA_doTry 54 = .ok (.aload_n 3, 1) := by decide +kernel
theorem d_MA_doTry_55 : decode b_MA_doTry 55 = .ok (.getfield 117, 3) := by decide +kernel
theorem d_MA_doTry_58 : decode b_MA_doTry 58 = .ok (.if_icmp .ge 47, 3) := by decide +kernel
theorem d_MA_doTry_61 : decode b_MA_doTry 61 = .ok (.iload 5, 2) := by decide +kernel
theorem d_MA_doTry_63 : decode b_MA_doTry 63 = .ok (.ifCond .eq 25, 3) := by decide +kernel
theorem d_MA_doTry_66 : decode b_MA_doTry 66 = .ok (.aload_n 0, 1) := by decide +kernel
theorem d_MA_doTry_67 : decode b_MA_doTry 67 = .ok (.iload_n 1, 1) := by decide +kernel
theorem d_MA_doTry_68 : decode b_MA_doTry 68 = .ok (.iload 6, 2) := by decide +kernel
theorem d_MA_doTry_70 : decode b_MA_doTry 70 = .ok (.invokevirtual 183, 3) := by decide +kernel
theorem d_MA_doTry_73 : decode b_MA_doTry 73 = .ok (.ifCond .eq 15, 3) := by decide +kernel
theorem d_MA_doTry_76 : decode b_MA_doTry 76 = .ok (.iconst 0, 1) := by decide +kernel
theorem d_MA_doTry_77 : decode b_MA_doTry 77 = .ok (.istore 5, 2) := by decide +kernel
theorem d_MA_doTry_79 : decode b_MA_doTry 79 = .ok (.aload_n 0, 1) := by decide +kernel
theorem d_MA_doTry_80 : decode b_MA_doTry 80 = .ok (.iload_n 1, 1) := by decide +kernel
theorem d_MA_doTry_81 : decode b_MA_doTry 81 = .ok (.iload 6, 2) := by decide +kernel
theorem d_MA_doTry_83 : decode b_MA_doTry 83 = .ok (.invokevirtual 187, 3) := by decide +kernel
theorem d_MA_doTry_86 : decode b_MA_doTry 86 = .ok (.astore 4, 2) := by decide +kernel
theorem d_MA_doTry_88 : decode b_MA_doTry 88 = .ok (.aload_n 3, 1) := by decide +kernel
theorem d_MA_doTry_89 : decode b_MA_doTry 89 = .ok (.getfield 120, 3) := by decide +kernel
theorem d_MA_doTry_92 : decode b_MA_doTry 92 = .ok (.iload 6, 2) := by decide +kernel
theorem d_MA_doTry_94 : decode b_MA_doTry 94 = .ok (.iaload, 1) := by decide +kernel
theorem d_MA_doTry_95 : decode b_MA_doTry 95 = .ok (.iconst 1, 1) := by decide +kernel
theorem d_MA_doTry_96 : decode b_MA_doTry 96 = .ok (.iadd, 1) := by decide +kernel
theorem d_MA_doTry_97 : decode b_MA_doTry 97 = .ok (.istore 6, 2) := by decide +kernel
theorem d_MA_doTry_99 : decode b_MA_doTry 99 = .ok (.iinc 7 1, 3) := by decide +kernel
theorem d_MA_doTry_102 : decode b_MA_doTry 102 = .ok (.goto (-60), 3) := by decide +kernel
theorem d_MA_doTry_105 : decode b_MA_doTry 105 = .ok (.aload 4, 2) := by decide +kernel
theorem d_MA_doTry_107 : decode b_MA_doTry 107 = .ok (.getstatic 67, 3) := by decide +kernel
theorem d_MA_doTry_110 : decode b_MA_doTry 110 = .ok (.if_acmp .eq 20, 3) := by decide +kernel
theorem d_MA_doTry_113 : decode b_MA_doTry 113 = .ok (.aload_n 3, 1) := by decide +kernel
theorem d_MA_doTry_114 : decode b_MA_doTry 114 = .ok (.iload_n 2, 1) := by decide +kernel
theorem d_MA_doTry_115 : decode b_MA_doTry 115 = .ok (.invokevirtual 190, 3) := by decide +kernel
theorem d_MA_doTry_118 : decode b_MA_doTry 118 = .ok (.ifCond .eq 12, 3) := by decide +kernel
theorem d_MA_doTry_121 : decode b_MA_doTry 121 = .ok (.iload 6, 2) := by decide +kernel
theorem d_MA_doTry_123 : decode b_MA_doTry 123 = .ok (.aload_n 3, 1) := by decide +kernel
theorem d_MA_doTry_124 : decode b_MA_doTry 124 = .ok (.getfield 117, 3) := by decide +kernel
theorem d_MA_doTry_127 : decode b_MA_doTry 127 = .ok (.if_icmp .lt 6, 3) := by decide +kernel
theorem d_MA_doTry_130 : decode b_MA_doTry 130 = .ok (.aload 4, 2) := by decide +kernel
theorem d_MA_doTry_132 : decode b_MA_doTry 132 = .ok (.areturn, 1) := by decide +kernel
theorem d_MA_doTry_133 : decode b_MA_doTry 133 = .ok (.aload_n 0, 1) := by decide +kernel
theorem d_MA_doTry_134 : decode b_MA_doTry 134 = .ok (.iload_n 1, 1) := by decide +kernel
theorem d_MA_doTry_135 : decode b_MA_doTry 135 = .ok (.iload 6, 2) := by decide +kernel
theorem d_MA_doTry_137 : decode b_MA_doTry 137 = .ok (.aload 4, 2) := by decide +kernel
theorem d_MA_doTry_139 : decode b_MA_doTry 139 = .ok (.invokevirtual 193, 3) := by decide +kernel
theorem d_MA_doTry_142 : decode b_MA_doTry 142 = .ok (.areturn, 1) := by decide +kernel
theorem d_MA_catches_0 : decode b_MA_catches 0 = .ok (.aload_n 0, 1) := by decide +kernel
theorem d_MA_catches_1 : decode b_MA_catches 1 = .ok (.getfield 26, 3) := by decide +kernel
theorem d_MA_catches_4 : decode b_MA_catches 4 = .ok (.aload_n 0, 1) := by decide +kernel
theorem d_MA_catches_5 : decode b_MA_catches 5 = .ok (.getfield 19, 3) := by decide +kernel
theorem d_MA_catches_8 : decode b_MA_catches 8 = .ok (.iload_n 1, 1) := by decide +kernel
theorem d_MA_catches_9 : decode b_MA_catches 9 = .ok (.aaload, 1) := by decide +kernel
theorem d_MA_catches_10 : decode b_MA_catches 10 = .ok (.getfield 76, 3) := by decide +kernel
theorem d_MA_catches_13 : decode b_MA_catches 13 = .ok (.invokevirtual 197, 3) := by decide +kernel
theorem d_MA_catches_16 : decode b_MA_catches 16 = .ok (.aload_n 0, 1) := by decide +kernel
theorem d_MA_catches_17 : decode b_MA_catches 17 = .ok (.iload_n 1, 1) := by decide +kernel
theorem d_MA_catches_18 : decode b_MA_catches 18 = .ok (.invokevirtual 113, 3) := by decide +kernel
theorem d_MA_catches_21 : decode b_MA_catches 21 = .ok (.getfield 130, 3) := by decide +kernel
theorem d_MA_catches_24 : decode b_MA_catches 24 = .ok (.iload_n 2, 1) := by decide +kernel
theorem d_MA_catches_25 : decode b_MA_catches 25 = .ok (.iaload, 1) := by decide +kernel
theorem d_MA_catches_26 : decode b_MA_catches 26 = .ok (.invokestatic 200, 3) := by decide +kernel
theorem d_MA_catches_29 : decode b_MA_catches 29 = .ok (.ireturn, 1) := by decide +kernel
theorem d_MA_doCatch_0 : decode b_MA_doCatch 0 = .ok (.aload_n 0, 1) := by decide +kernel
theorem d_MA_doCatch_1 : decode b_MA_doCatch 1 = .ok (.getfield 19, 3) := by decide +kernel
theorem d_MA_doCatch_4 : decode b_MA_doCatch 4 = .ok (.iload_n 1, 1) := by decide +kernel
theorem d_MA_doCatch_5 : decode b_MA_doCatch 5 = .ok (.aaload, 1) := by decide +kernel
theorem d_MA_doCatch_6 : decode b_MA_doCatch 6 = .ok (.astore_n 3, 1) := by decide +kernel
theorem d_MA_doCatch_7 : decode b_MA_doCatch 7 = .ok (.aload_n 3, 1) := by decide +kernel
theorem d_MA_doCatch_8 : decode b_MA_doCatch 8 = .ok (.getfield 154, 3) := by decide +kernel
theorem d_MA_doCatch_11 : decode b_MA_doCatch 11 = .ok (.istore 4, 2) := by decide +kernel
theorem d_MA_doCatch_13 : decode b_MA_doCatch 13 = .ok (.aload_n 3, 1) := by decide +kernel
theorem d_MA_doCatch_14 : decode b_MA_doCatch 14 = .ok (.aload_n 3, 1) := by decide +kernel
theorem d_MA_doCatch_15 : decode b_MA_doCatch 15 = .ok (.getfield 76, 3) := by decide +kernel
theorem d_MA_doCatch_18 : decode b_MA_doCatch 18 = .ok (.putfield 154, 3) := by decide +kernel
theorem d_MA_doCatch_21 : decode b_MA_doCatch 21 = .ok (.aload_n 0, 1) := by decide +kernel
theorem d_MA_doCatch_22 : decode b_MA_doCatch 22 = .ok (.iload_n 1, 1) := by decide +kernel
theorem d_MA_doCatch_23 : decode b_MA_doCatch 23 = .ok (.iload_n 2, 1) := by decide +kernel
theorem d_MA_doCatch_24 : decode b_MA_doCatch 24 = .ok (.invokevirtual 82, 3) := by decide +kernel
theorem d_MA_doCatch_27 : decode b_MA_doCatch 27 = .ok (.astore 5, 2) := by decide +kernel
theorem d_MA_doCatch_29 : decode b_MA_doCatch 29 = .ok (.aload_n 3, 1) := by decide +kernel
theorem d_MA_doCatch_30 : decode b_MA_doCatch 30 = .ok (.iload 4, 2) := by decide +kernel
theorem d_MA_doCatch_32 : decode b_MA_doCatch 32 = .ok (.putfield 154, 3) := by decide +kernel
theorem d_MA_doCatch_35 : decode b_MA_doCatch 35 = .ok (.aload 5, 2) := by decide +kernel
theorem d_MA_doCatch_37 : decode b_MA_doCatch 37 = .ok (.areturn, 1) := by decide +kernel
theorem d_MA_doLast_0 : decode b_MA_doLast 0 = .ok (.aload_n 0, 1) := by decide +kernel
theorem d_MA_doLast_1 : decode b_MA_doLast 1 = .ok (.getfield 19, 3) := by decide +kernel
theorem d_MA_doLast_4 : decode b_MA_doLast 4 = .ok (.iload_n 1, 1) := by decide +kernel
theorem d_MA_doLast_5 : decode b_MA_doLast 5 = .ok (.aaload, 1) := by decide +kernel
theorem d_MA_doLast_6 : decode b_MA_doLast 6 = .ok (.astore 4, 2) := by decide +kernel
theorem d_MA_doLast_8 : decode b_MA_doLast 8 = .ok (.aload 4, 2) := by decide +kernel
theorem d_MA_doLast_10 : decode b_MA_doLast 10 = .ok (.getfield 76, 3) := by decide +kernel
theorem d_MA_doLast_13 : decode b_MA_doLast 13 = .ok (.istore 5, 2) := by decide +kernel
theorem d_MA_doLast_15 : decode b_MA_doLast 15 = .ok (.aload_n 0, 1) := by decide +kernel
theorem d_MA_doLast_16 : decode b_MA_doLast 16 = .ok (.iload_n 1, 1) := by decide +kernel
theorem d_MA_doLast_17 : decode b_MA_doLast 17 = .ok (.iload_n 2, 1) := by decide +kernel
theorem d_MA_doLast_18 : decode b_MA_doLast 18 = .ok (.invokevirtual 82, 3) := by decide +kernel
theorem d_MA_doLast_21 : decode b_MA_doLast 21 = .ok (.astore 6, 2) := by decide +kernel
theorem d_MA_doLast_23 : decode b_MA_doLast 23 = .ok (.aload 6, 2) := by decide +kernel
theorem d_MA_doLast_25 : decode b_MA_doLast 25 = .ok (.getstatic 86, 3) := by decide +kernel
theorem d_MA_doLast_28 : decode b_MA_doLast 28 = .ok (.if_acmp .eq 6, 3) := by decide +kernel
theorem d_MA_doLast_31 : decode b_MA_doLast 31 = .ok (.aload 6, 2) := by decide +kernel
theorem d_MA_doLast_33 : decode b_MA_doLast 33 = .ok (.areturn, 1) := by decide +kernel
theorem d_MA_doLast_34 : decode b_MA_doLast 34 = .ok (.aload 4, 2) := by decide +kernel
theorem d_MA_doLast_36 : decode b_MA_doLast 36 = .ok (.iload 5, 2) := by decide +kernel
theorem d_MA_doLast_38 : decode b_MA_doLast 38 = .ok (.putfield 76, 3) := by decide +kernel
theorem d_MA_doLast_41 : decode b_MA_doLast 41 = .ok (.aload_n 3, 1) := by decide +kernel
theorem d_MA_doLast_42 : decode b_MA_doLast 42 = .ok (.areturn, 1) := by decide +kernel
theorem d_MA_doLock_0 : decode b_MA_doLock 0 = .ok (.aload_n 0, 1) := by decide +kernel
theorem d_MA_doLock_1 : decode b_MA_doLock 1 = .ok (.getfield 33, 3) := by decide +kernel
theorem d_MA_doLock_4 : decode b_MA_doLock 4 = .ok (.iload_n 3, 1) := by decide +kernel
theorem d_MA_doLock_5 : decode b_MA_doLock 5 = .ok (.invokevirtual 203, 3) := by decide +kernel
theorem d_MA_doLock_8 : decode b_MA_doLock 8 = .ok (.aload_n 0, 1) := by decide +kernel
theorem d_MA_doLock_9 : decode b_MA_doLock 9 = .ok (.iload_n 1, 1) := by decide +kernel
theorem d_MA_doLock_10 : decode b_MA_doLock 10 = .ok (.iload_n 2, 1) := by decide +kernel
theorem d_MA_doLock_11 : decode b_MA_doLock 11 = .ok (.invokevirtual 82, 3) := by decide +kernel
theorem d_MA_doLock_14 : decode b_MA_doLock 14 = .ok (.astore 4, 2) := by decide +kernel
theorem d_MA_doLock_16 : decode b_MA_doLock 16 = .ok (.aload_n 0, 1) := by decide +kernel
theorem d_MA_doLock_17 : decode b_MA_doLock 17 = .ok (.getfield 33, 3) := by decide +kernel
theorem d_MA_doLock_20 : decode b_MA_doLock 20 = .ok (.iload_n 3, 1) := by decide +kernel
theorem d_MA_doLock_21 : decode b_MA_doLock 21 = .ok (.iconst 1, 1) := by decide +kernel
theorem d_MA_doLock_22 : decode b_MA_doLock 22 = .ok (.invokevirtual 107, 3) := by decide +kernel
theorem d_MA_doLock_25 : decode b_MA_doLock 25 = .ok (.aload 4, 2) := by decide +kernel
theorem d_MA_doLock_27 : decode b_MA_doLock 27 = .ok (.areturn, 1) := by decide +kernel
theorem d_MA_doEnter_0 : decode b_MA_doEnter 0 = .ok (.aload_n 1, 1) := by decide +kernel
theorem d_MA_doEnter_1 : decode b_MA_doEnter 1 = .ok (.getfield 103, 3) := by decide +kernel
theorem d_MA_doEnter_4 : decode b_MA_doEnter 4 = .ok (.iload_n 2, 1) := by decide +kernel
theorem d_MA_doEnter_5 : decode b_MA_doEnter 5 = .ok (.dup2, 1) := by decide +kernel
theorem d_MA_doEnter_6 : decode b_MA_doEnter 6 = .ok (.iaload, 1) := by decide +kernel
theorem d_MA_doEnter_7 : decode b_MA_doEnter 7 = .ok (.iconst 1, 1) := by decide +kernel
theorem d_MA_doEnter_8 : decode b_MA_doEnter 8 = .ok (.iadd, 1) := by decide +kernel
theorem d_MA_doEnter_9 : decode b_MA_doEnter 9 = .ok (.iastore, 1) := by decide +kernel
theorem d_MA_doEnter_10 : decode b_MA_doEnter 10 = .ok (.aload_n 0, 1) := by decide +kernel
theorem d_MA_doEnter_11 : decode b_MA_doEnter 11 = .ok (.getfield 33, 3) := by decide +kernel
theorem d_MA_doEnter_14 : decode b_MA_doEnter 14 = .ok (.iload_n 2, 1) := by decide +kernel
theorem d_MA_doEnter_15 : decode b_MA_doEnter 15 = .ok (.invokevirtual 203, 3) := by decide +kernel
theorem d_MA_doEnter_18 : decode b_MA_doEnter 18 = .ok (.getstatic 86, 3) := by decide +kernel
theorem d_MA_doEnter_21 : decode b_MA_doEnter 21 = .ok (.areturn, 1) := by decide +kernel
theorem d_MA_doLeave_0 : decode b_MA_doLeave 0 = .ok (.aload_n 1, 1) := by decide +kernel
theorem d_MA_doLeave_1 : decode b_MA_doLeave 1 = .ok (.getfield 103, 3) := by decide +kernel
theorem d_MA_doLeave_4 : decode b_MA_doLeave 4 = .ok (.iload_n 2, 1) := by decide +kernel
theorem d_MA_doLeave_5 : decode b_MA_doLeave 5 = .ok (.iaload, 1) := by decide +kernel
theorem d_MA_doLeave_6 : decode b_MA_doLeave 6 = .ok (.ifCond .gt 11, 3) := by decide +kernel
theorem d_MA_doLeave_9 : decode b_MA_doLeave 9 = .ok (.aload_n 0, 1) := by decide +kernel
theorem d_MA_doLeave_10 : decode b_MA_doLeave 10 = .ok (.aload_n 1, 1) := by decide +kernel
theorem d_MA_doLeave_11 : decode b_MA_doLeave 11 = .ok (.iconst 4, 1) := by decide +kernel
theorem d_MA_doLeave_12 : decode b_MA_doLeave 12 = .ok (.iconst (-1), 1) := by decide +kernel
theorem d_MA_doLeave_13 : decode b_MA_doLeave 13 = .ok (.invokevirtual 99, 3) := by decide +kernel
theorem d_MA_doLeave_16 : decode b_MA_doLeave 16 = .ok (.areturn, 1) := by decide +kernel
theorem d_MA_doLeave_17 : decode b_MA_doLeave 17 = .ok (.aload_n 1, 1) := by decide +kernel
theorem d_MA_doLeave_18 : decode b_MA_doLeave 18 = .ok (.getfield 103, 3) := by decide +kernel
theorem d_MA_doLeave_21 : decode b_MA_doLeave 21 = .ok (.iload_n 2, 1) := by decide +kernel
theorem d_MA_doLeave_22 : decode b_MA_doLeave 22 = .ok (.dup2, 1) := by decide +kernel
theorem d_MA_doLeave_23 : decode b_MA_doLeave 23 = .ok (.iaload, 1) := by decide +kernel
theorem d_MA_doLeave_24 : decode b_MA_doLeave 24 = .ok (.iconst 1, 1) := by decide +kernel
theorem d_MA_doLeave_25 : decode b_MA_doLeave 25 = .ok (.isub, 1) := by decide +kernel
theorem d_MA_doLeave_26 : decode b_MA_doLeave 26 = .ok (.iastore, 1) := by decide +kernel
theorem d_MA_doLeave_27 : decode b_MA_doLeave 27 = .ok (.aload_n 0, 1) := by decide +kernel
theorem d_MA_doLeave_28 : decode b_MA_doLeave 28 = .ok (.getfield 33, 3) := by decide +kernel
theorem d_MA_doLeave_31 : decode b_MA_doLeave 31 = .ok (.iload_n 2, 1) := by decide +kernel
theorem d_MA_doLeave_32 : decode b_MA_doLeave 32 = .ok (.iconst 1, 1) := by decide +kernel
theorem d_MA_doLeave_33 : decode b_MA_doLeave 33 = .ok (.invokevirtual 107, 3) := by decide +kernel
theorem d_MA_doLeave_36 : decode b_MA_doLeave 36 = .ok (.getstatic 86, 3) := by decide +kernel
theorem d_MA_doLeave_39 : decode b_MA_doLeave 39 = .ok (.areturn, 1) := by decide +kernel
theorem d_MA_doCall_0 : decode b_MA_doCall 0 = .ok (.aload_n 0, 1) := by decide +kernel
theorem d_MA_doCall_1 : decode b_MA_doCall 1 = .ok (.getfield 19, 3) := by decide +kernel
theorem d_MA_doCall_4 : decode b_MA_doCall 4 = .ok (.iload_n 1, 1) := by decide +kernel
theorem d_MA_doCall_5 : decode b_MA_doCall 5 = .ok (.aaload, 1) := by decide +kernel
theorem d_MA_doCall_6 : decode b_MA_doCall 6 = .ok (.astore_n 3, 1) := by decide +kernel
theorem d_MA_doCall_7 : decode b_MA_doCall 7 = .ok (.iload_n 1, 1) := by decide +kernel
theorem d_MA_doCall_8 : decode b_MA_doCall 8 = .ok (.iconst 5, 1) := by decide +kernel
theorem d_MA_doCall_9 : decode b_MA_doCall 9 = .ok (.if_icmp .lt 11, 3) := by decide +kernel
theorem d_MA_doCall_12 : decode b_MA_doCall 12 = .ok (.aload_n 0, 1) := by decide +kernel
theorem d_MA_doCall_13 : decode b_MA_doCall 13 = .ok (.aload_n 3, 1) := by decide +kernel
theorem d_MA_doCall_14 : decode b_MA_doCall 14 = .ok (.iconst 5, 1) := by decide +kernel
theorem d_MA_doCall_15 : decode b_MA_doCall 15 = .ok (.iconst (-1), 1) := by decide +kernel
theorem d_MA_doCall_16 : decode b_MA_doCall 16 = .ok (.invokevirtual 99, 3) := by decide +kernel
theorem d_MA_doCall_19 : decode b_MA_doCall 19 = .ok (.areturn, 1) := by decide +kernel
theorem d_MA_doCall_20 : decode b_MA_doCall 20 = .ok (.aload_n 0, 1) := by decide +kernel
theorem d_MA_doCall_21 : decode b_MA_doCall 21 = .ok (.getfield 19, 3) := by decide +kernel
theorem d_MA_doCall_24 : decode b_MA_doCall 24 = .ok (.iload_n 1, 1) := by decide +kernel
theorem d_MA_doCall_25 : decode b_MA_doCall 25 = .ok (.iconst 1, 1) := by decide +kernel
theorem d_MA_doCall_26 : decode b_MA_doCall 26 = .ok (.iadd, 1) := by decide +kernel
theorem d_MA_doCall_27 : decode b_MA_doCall 27 = .ok (.aaload, 1) := by decide +kernel
theorem d_MA_doCall_28 : decode b_MA_doCall 28 = .ok (.astore 4, 2) := by decide +kernel
theorem d_MA_doCall_30 : decode b_MA_doCall 30 = .ok (.aload 4, 2) := by decide +kernel
theorem d_MA_doCall_32 : decode b_MA_doCall 32 = .ok (.iload_n 2, 1) := by decide +kernel
theorem d_MA_doCall_33 : decode b_MA_doCall 33 = .ok (.aload_n 3, 1) := by decide +kernel
theorem d_MA_doCall_34 : decode b_MA_doCall 34 = .ok (.getfield 89, 3) := by decide +kernel
theorem d_MA_doCall_37 : decode b_MA_doCall 37 = .ok (.invokevirtual 59, 3) := by decide +kernel
theorem d_MA_doCall_40 : decode b_MA_doCall 40 = .ok (.aload_n 0, 1) := by decide +kernel
theorem d_MA_doCall_41 : decode b_MA_doCall 41 = .ok (.iload_n 1, 1) := by decide +kernel
theorem d_MA_doCall_42 : decode b_MA_doCall 42 = .ok (.iconst 1, 1) := by decide +kernel
theorem d_MA_doCall_43 : decode b_MA_doCall 43 = .ok (.iadd, 1) := by decide +kernel
theorem d_MA_doCall_44 : decode b_MA_doCall 44 = .ok (.invokevirtual 63, 3) := by decide +kernel
theorem d_MA_doCall_47 : decode b_MA_doCall 47 = .ok (.astore 5, 2) := by decide +kernel
theorem d_MA_doCall_49 : decode b_MA_doCall 49 = .ok (.aload 5, 2) := by decide +kernel
theorem d_MA_doCall_51 : decode b_MA_doCall 51 = .ok (.getstatic 73, 3) := by decide +kernel
theorem d_MA_doCall_54 : decode b_MA_doCall 54 = .ok (.if_acmp .ne 12, 3) := by decide +kernel
theorem d_MA_doCall_57 : decode b_MA_doCall 57 = .ok (.aload_n 3, 1) := by decide +kernel
theorem d_MA_doCall_58 : decode b_MA_doCall 58 = .ok (.aload 4, 2) := by decide +kernel
theorem d_MA_doCall_60 : decode b_MA_doCall 60 = .ok (.getfield 76, 3) := by decide +kernel
theorem d_MA_doCall_63 : decode b_MA_doCall 63 = .ok (.putfield 76, 3) := by decide +kernel
theorem d_MA_doCall_66 : decode b_MA_doCall 66 = .ok (.aload 5, 2) := by decide +kernel
theorem d_MA_doCall_68 : decode b_MA_doCall 68 = .ok (.getstatic 92, 3) := by decide +kernel
theorem d_MA_doCall_71 : decode b_MA_doCall 71 = .ok (.if_acmp .eq 6, 3) := by decide +kernel
theorem d_MA_doCall_74 : decode b_MA_doCall 74 = .ok (.aload 5, 2) := by decide +kernel
theorem d_MA_doCall_76 : decode b_MA_doCall 76 = .ok (.areturn, 1) := by decide +kernel
theorem d_MA_doCall_77 : decode b_MA_doCall 77 = .ok (.aload_n 3, 1) := by decide +kernel
theorem d_MA_doCall_78 : decode b_MA_doCall 78 = .ok (.aload 4, 2) := by decide +kernel
theorem d_MA_doCall_80 : decode b_MA_doCall 80 = .ok (.getfield 76, 3) := by decide +kernel
theorem d_MA_doCall_83 : decode b_MA_doCall 83 = .ok (.putfield 89, 3) := by decide +kernel
theorem d_MA_doCall_86 : decode b_MA_doCall 86 = .ok (.getstatic 86, 3) := by decide +kernel
theorem d_MA_doCall_89 : decode b_MA_doCall 89 = .ok (.areturn, 1) := by decide +kernel
end
section
/-! decode rows, written by wip/gen/names.py -/
theorem d_MO_init_0 : decode b_MO_init 0 = .ok (.aload_n 0, 1) := by decide +kernel
theorem d_MO_init_1 : decode b_MO_init 1 = .ok (.invokespecial 1, 3) := by decide +kernel
theorem d_MO_init_4 : decode b_MO_init 4 = .ok (.aload_n 0, 1) := by decide +kernel
theorem d_MO_init_5 : decode b_MO_init 5 = .ok (.sipush 128, 3) := by decide +kernel
theorem d_MO_init_8 : decode b_MO_init 8 = .ok (.newarray .int, 2) := by decide +kernel
theorem d_MO_init_10 : decode b_MO_init 10 = .ok (.putfield 7, 3) := by decide +kernel
theorem d_MO_init_13 : decode b_MO_init 13 = .ok (.aload_n 0, 1) := by decide +kernel
theorem d_MO_init_14 : decode b_MO_init 14 = .ok (.sipush 128, 3) := by decide +kernel
theorem d_MO_init_17 : decode b_MO_init 17 = .ok (.newarray .int, 2) := by decide +kernel
theorem d_MO_init_19 : decode b_MO_init 19 = .ok (.putfield 13, 3) := by decide +kernel
theorem d_MO_init_22 : decode b_MO_init 22 = .ok (.aload_n 0, 1) := by decide +kernel
theorem d_MO_init_23 : decode b_MO_init 23 = .ok (.iconst 4, 1) := by decide +kernel
theorem d_MO_init_24 : decode b_MO_init 24 = .ok (.newarray .int, 2) := by decide +kernel
theorem d_MO_init_26 : decode b_MO_init 26 = .ok (.putfield 16, 3) := by decide +kernel
theorem d_MO_init_29 : decode b_MO_init 29 = .ok (.aload_n 0, 1) := by decide +kernel
theorem d_MO_init_30 : decode b_MO_init 30 = .ok (.iconst (-1), 1) := by decide +kernel
theorem d_MO_init_31 : decode b_MO_init 31 = .ok (.putfield 19, 3) := by decide +kernel
theorem d_MO_init_34 : decode b_MO_init 34 = .ok (.aload_n 0, 1) := by decide +kernel
theorem d_MO_init_35 : decode b_MO_init 35 = .ok (.bipush 80, 2) := by decide +kernel
theorem d_MO_init_37 : decode b_MO_init 37 = .ok (.newarray .int, 2) := by decide +kernel
theorem d_MO_init_39 : decode b_MO_init 39 = .ok (.putfield 23, 3) := by decide +kernel
theorem d_MO_init_42 : decode b_MO_init 42 = .ok (.aload_n 0, 1) := by decide +kernel
theorem d_MO_init_43 : decode b_MO_init 43 = .ok (.bipush 80, 2) := by decide +kernel
theorem d_MO_init_45 : decode b_MO_init 45 = .ok (.newarray .int, 2) := by decide +kernel
theorem d_MO_init_47 : decode b_MO_init 47 = .ok (.putfield 26, 3) := by decide +kernel
theorem d_MO_init_50 : decode b_MO_init 50 = .ok (.aload_n 0, 1) := by decide +kernel
theorem d_MO_init_51 : decode b_MO_init 51 = .ok (.bipush 80, 2) := by decide +kernel
theorem d_MO_init_53 : decode b_MO_init 53 = .ok (.newarray .int, 2) := by decide +kernel
theorem d_MO_init_55 : decode b_MO_init 55 = .ok (.putfield 29, 3) := by decide +kernel
theorem d_MO_init_58 : decode b_MO_init 58 = .ok (.aload_n 0, 1) := by decide +kernel
theorem d_MO_init_59 : decode b_MO_init 59 = .ok (.bipush 80, 2) := by decide +kernel
theorem d_MO_init_61 : decode b_MO_init 61 = .ok (.newarray .int, 2) := by decide +kernel
theorem d_MO_init_63 : decode b_MO_init 63 = .ok (.putfield 32, 3) := by decide +kernel
theorem d_MO_init_66 : decode b_MO_init 66 = .ok (.aload_n 0, 1) := by decide +kernel
theorem d_MO_init_67 : decode b_MO_init 67 = .ok (.bipush 18, 2) := by decide +kernel
theorem d_MO_init_69 : decode b_MO_init 69 = .ok (.newarray .int, 2) := by decide +kernel
theorem d_MO_init_71 : decode b_MO_init 71 = .ok (.putfield 35, 3) := by decide +kernel
theorem d_MO_init_74 : decode b_MO_init 74 = .ok (.aload_n 0, 1) := by decide +kernel
theorem d_MO_init_75 : decode b_MO_init 75 = .ok (.iconst 3, 1) := by decide +kernel
theorem d_MO_init_76 : decode b_MO_init 76 = .ok (.newarray .int, 2) := by decide +kernel
theorem d_MO_init_78 : decode b_MO_init 78 = .ok (.putfield 38, 3) := by decide +kernel
theorem d_MO_init_81 : decode b_MO_init 81 = .ok (.aload_n 0, 1) := by decide +kernel
theorem d_MO_init_82 : decode b_MO_init 82 = .ok (.sipush 700, 3) := by decide +kernel
theorem d_MO_init_85 : decode b_MO_init 85 = .ok (.newarray .int, 2) := by decide +kernel
theorem d_MO_init_87 : decode b_MO_init 87 = .ok (.putfield 41, 3) := by decide +kernel
theorem d_MO_init_90 : decode b_MO_init 90 = .ok (.aload_n 0, 1) := by decide +kernel
theorem d_MO_init_91 : decode b_MO_init 91 = .ok (.sipush 700, 3) := by decide +kernel
theorem d_MO_init_94 : decode b_MO_init 94 = .ok (.newarray .int, 2) := by decide +kernel
theorem d_MO_init_96 : decode b_MO_init 96 = .ok (.putfield 44, 3) := by decide +kernel
theorem d_MO_init_99 : decode b_MO_init 99 = .ok (.aload_n 0, 1) := by decide +kernel
theorem d_MO_init_100 : decode b_MO_init 100 = .ok (.bipush 32, 2) := by decide +kernel
theorem d_MO_init_102 : decode b_MO_init 102 = .ok (.newarray .int, 2) := by decide +kernel
theorem d_MO_init_104 : decode b_MO_init 104 = .ok (.putfield 47, 3) := by decide +kernel
theorem d_MO_init_107 : decode b_MO_init 107 = .ok (.return_, 1) := by decide +kernel
theorem d_MO_in_0 : decode b_MO_in 0 = .ok (.iload_n 0, 1) := by decide +kernel
theorem d_MO_in_1 : decode b_MO_in 1 = .ok (.iload_n 1, 1) := by decide +kernel
theorem d_MO_in_2 : decode b_MO_in 2 = .ok (.if_icmp .lt 12, 3) := by decide +kernel
theorem d_MO_in_5 : decode b_MO_in 5 = .ok (.iload_n 0, 1) := by decide +kernel
theorem d_MO_in_6 : decode b_MO_in 6 = .ok (.iload_n 2, 1) := by decide +kernel
theorem d_MO_in_7 : decode b_MO_in 7 = .ok (.if_icmp .gt 7, 3) := by decide +kernel
theorem d_MO_in_10 : decode b_MO_in 10 = .ok (.iconst 1, 1) := by decide +kernel
theorem d_MO_in_11 : decode b_MO_in 11 = .ok (.goto 4, 3) := by decide +kernel
theorem d_MO_in_14 : decode b_MO_in 14 = .ok (.iconst 0, 1) := by decide +kernel
theorem d_MO_in_15 : decode b_MO_in 15 = .ok (.ireturn, 1) := by decide +kernel
theorem d_MO_fits_0 : decode b_MO_fits 0 = .ok (.iload_n 0, 1) := by decide +kernel
theorem d_MO_fits_1 : decode b_MO_fits 1 = .ok (.tableswitch 121 3 16 #[71, 121, 121, 121, 78, 78, 86, 107, 107, 107, 114, 121, 107, 78], 71) := by decide +kernel
theorem d_MO_fits_72 : decode b_MO_fits 72 = .ok (.iload_n 1, 1) := by decide +kernel
theorem d_MO_fits_73 : decode b_MO_fits 73 = .ok (.iconst 0, 1) := by decide +kernel
theorem d_MO_fits_74 : decode b_MO_fits 74 = .ok (.iconst 5, 1) := by decide +kernel
theorem d_MO_fits_75 : decode b_MO_fits 75 = .ok (.invokestatic 50, 3) := by decide +kernel
theorem d_MO_fits_78 : decode b_MO_fits 78 = .ok (.ireturn, 1) := by decide +kernel
theorem d_MO_fits_79 : decode b_MO_fits 79 = .ok (.iload_n 1, 1) := by decide +kernel
theorem d_MO_fits_80 : decode b_MO_fits 80 = .ok (.iconst 0, 1) := by decide +kernel
theorem d_MO_fits_81 : decode b_MO_fits 81 = .ok (.bipush 6, 2) := by decide +kernel
theorem d_MO_fits_83 : decode b_MO_fits 83 = .ok (.invokestatic 50, 3) := by decide +kernel
theorem d_MO_fits_86 : decode b_MO_fits 86 = .ok (.ireturn, 1) := by decide +kernel
theorem d_MO_fits_87 : decode b_MO_fits 87 = .ok (.iload_n 1, 1) := by decide +kernel
theorem d_MO_fits_88 : decode b_MO_fits 88 = .ok (.iconst 0, 1) := by decide +kernel
theorem d_MO_fits_89 : decode b_MO_fits 89 = .ok (.bipush 6, 2) := by decide +kernel
theorem d_MO_fits_91 : decode b_MO_fits 91 = .ok (.invokestatic 50, 3) := by decide +kernel
theorem d_MO_fits_94 : decode b_MO_fits 94 = .ok (.ifCond .eq 12, 3) := by decide +kernel
theorem d_MO_fits_97 : decode b_MO_fits 97 = .ok (.iload_n 1, 1) := by decide +kernel
theorem d_MO_fits_98 : decode b_MO_fits 98 = .ok (.iconst 3, 1) := by decide +kernel
theorem d_MO_fits_99 : decode b_MO_fits 99 = .ok (.if_icmp .eq 7, 3) := by decide +kernel
theorem d_MO_fits_102 : decode b_MO_fits 102 = .ok (.iconst 1, 1) := by decide +kernel
theorem d_MO_fits_103 : decode b_MO_fits 103 = .ok (.goto 4, 3) := by decide +kernel
theorem d_MO_fits_106 : decode b_MO_fits 106 = .ok (.iconst 0, 1) := by decide +kernel
theorem d_MO_fits_107 : decode b_MO_fits 107 = .ok (.ireturn, 1) := by decide +kernel
theorem d_MO_fits_108 : decode b_MO_fits 108 = .ok (.iload_n 1, 1) := by decide +kernel
theorem d_MO_fits_109 : decode b_MO_fits 109 = .ok (.iconst 0, 1) := by decide +kernel
theorem d_MO_fits_110 : decode b_MO_fits 110 = .ok (.iconst 2, 1) := by decide +kernel
theorem d_MO_fits_111 : decode b_MO_fits 111 = .ok (.invokestatic 50, 3) := by decide +kernel
theorem d_MO_fits_114 : decode b_MO_fits 114 = .ok (.ireturn, 1) := by decide +kernel
theorem d_MO_fits_115 : decode b_MO_fits 115 = .ok (.iload_n 1, 1) := by decide +kernel
theorem d_MO_fits_116 : decode b_MO_fits 116 = .ok (.iconst 0, 1) := by decide +kernel
theorem d_MO_fits_117 : decode b_MO_fits 117 = .ok (.iconst 3, 1) := by decide +kernel
theorem d_MO_fits_118 : decode b_MO_fits 118 = .ok (.invokestatic 50, 3) := by decide +kernel
theorem d_MO_fits_121 : decode b_MO_fits 121 = .ok (.ireturn, 1) := by decide +kernel
theorem d_MO_fits_122 : decode b_MO_fits 122 = .ok (.iload_n 0, 1) := by decide +kernel
theorem d_MO_fits_123 : decode b_MO_fits 123 = .ok (.iconst 0, 1) := by decide +kernel
theorem d_MO_fits_124 : decode b_MO_fits 124 = .ok (.bipush 18, 2) := by decide +kernel
theorem d_MO_fits_126 : decode b_MO_fits 126 = .ok (.invokestatic 50, 3) := by decide +kernel
theorem d_MO_fits_129 : decode b_MO_fits 129 = .ok (.ireturn, 1) := by decide +kernel
theorem d_MO_token_0 : decode b_MO_token 0 = .ok (.iload_n 1, 1) := by decide +kernel
theorem d_MO_token_1 : decode b_MO_token 1 = .ok (.iconst 0, 1) := by decide +kernel
theorem d_MO_token_2 : decode b_MO_token 2 = .ok (.iconst 3, 1) := by decide +kernel
theorem d_MO_token_3 : decode b_MO_token 3 = .ok (.invokestatic 50, 3) := by decide +kernel
theorem d_MO_token_6 : decode b_MO_token 6 = .ok (.ifCond .eq 11, 3) := by decide +kernel
theorem d_MO_token_9 : decode b_MO_token 9 = .ok (.iload_n 2, 1) := by decide +kernel
theorem d_MO_token_10 : decode b_MO_token 10 = .ok (.iload_n 3, 1) := by decide +kernel
theorem d_MO_token_11 : decode b_MO_token 11 = .ok (.invokestatic 54, 3) := by decide +kernel
theorem d_MO_token_14 : decode b_MO_token 14 = .ok (.ifCond .ne 5, 3) := by decide +kernel
theorem d_MO_token_17 : decode b_MO_token 17 = .ok (.iconst (-1), 1) := by decide +kernel
theorem d_MO_token_18 : decode b_MO_token 18 = .ok (.ireturn, 1) := by decide +kernel
theorem d_MO_token_19 : decode b_MO_token 19 = .ok (.aload_n 0, 1) := by decide +kernel
theorem d_MO_token_20 : decode b_MO_token 20 = .ok (.getfield 16, 3) := by decide +kernel
theorem d_MO_token_23 : decode b_MO_token 23 = .ok (.iload_n 1, 1) := by decide +kernel
theorem d_MO_token_24 : decode b_MO_token 24 = .ok (.iaload, 1) := by decide +kernel
theorem d_MO_token_25 : decode b_MO_token 25 = .ok (.bipush 32, 2) := by decide +kernel
theorem d_MO_token_27 : decode b_MO_token 27 = .ok (.if_icmp .ne 6, 3) := by decide +kernel
theorem d_MO_token_30 : decode b_MO_token 30 = .ok (.bipush (-2), 2) := by decide +kernel
theorem d_MO_token_32 : decode b_MO_token 32 = .ok (.ireturn, 1) := by decide +kernel
theorem d_MO_token_33 : decode b_MO_token 33 = .ok (.aload_n 0, 1) := by decide +kernel
theorem d_MO_token_34 : decode b_MO_token 34 = .ok (.getfield 7, 3) := by decide +kernel
theorem d_MO_token_37 : decode b_MO_token 37 = .ok (.bipush 32, 2) := by decide +kernel
theorem d_MO_token_39 : decode b_MO_token 39 = .ok (.iload_n 1, 1) := by decide +kernel
theorem d_MO_token_40 : decode b_MO_token 40 = .ok (.imul, 1) := by decide +kernel
theorem d_MO_token_41 : decode b_MO_token 41 = .ok (.aload_n 0, 1) := by decide +kernel
theorem d_MO_token_42 : decode b_MO_token 42 = .ok (.getfield 16, 3) := by decide +kernel
theorem d_MO_token_45 : decode b_MO_token 45 = .ok (.iload_n 1, 1) := by decide +kernel
theorem d_MO_token_46 : decode b_MO_token 46 = .ok (.iaload, 1) := by decide +kernel
theorem d_MO_token_47 : decode b_MO_token 47 = .ok (.iadd, 1) := by decide +kernel
theorem d_MO_token_48 : decode b_MO_token 48 = .ok (.iload_n 2, 1) := by decide +kernel
theorem d_MO_token_49 : decode b_MO_token 49 = .ok (.iastore, 1) := by decide +kernel
theorem d_MO_token_50 : decode b_MO_token 50 = .ok (.aload_n 0, 1) := by decide +kernel
theorem d_MO_token_51 : decode b_MO_token 51 = .ok (.getfield 13, 3) := by decide +kernel
theorem d_MO_token_54 : decode b_MO_token 54 = .ok (.bipush 32, 2) := by decide +kernel
theorem d_MO_token_56 : decode b_MO_token 56 = .ok (.iload_n 1, 1) := by decide +kernel
theorem d_MO_token_57 : decode b_MO_token 57 = .ok (.imul, 1) := by decide +kernel
theorem d_MO_token_58 : decode b_MO_token 58 = .ok (.aload_n 0, 1) := by decide +kernel
theorem d_MO_token_59 : decode b_MO_token 59 = .ok (.getfield 16, 3) := by decide +kernel
theorem d_MO_token_62 : decode b_MO_token 62 = .ok (.iload_n 1, 1) := by decide +kernel
theorem d_MO_token_63 : decode b_MO_token 63 = .ok (.iaload, 1) := by decide +kernel
theorem d_MO_token_64 : decode b_MO_token 64 = .ok (.iadd, 1) := by decide +kernel
theorem d_MO_token_65 : decode b_MO_token 65 = .ok (.iload_n 3, 1) := by decide +kernel
theorem d_MO_token_66 : decode b_MO_token 66 = .ok (.iastore, 1) := by decide +kernel
theorem d_MO_token_67 : decode b_MO_token 67 = .ok (.aload_n 0, 1) := by decide +kernel
theorem d_MO_token_68 : decode b_MO_token 68 = .ok (.getfield 16, 3) := by decide +kernel
theorem d_MO_token_71 : decode b_MO_token 71 = .ok (.iload_n 1, 1) := by decide +kernel
theorem d_MO_token_72 : decode b_MO_token 72 = .ok (.dup2, 1) := by decide +kernel
theorem d_MO_token_73 : decode b_MO_token 73 = .ok (.iaload, 1) := by decide +kernel
theorem d_MO_token_74 : decode b_MO_token 74 = .ok (.iconst 1, 1) := by decide +kernel
theorem d_MO_token_75 : decode b_MO_token 75 = .ok (.iadd, 1) := by decide +kernel
theorem d_MO_token_76 : decode b_MO_token 76 = .ok (.iastore, 1) := by decide +kernel
theorem d_MO_token_77 : decode b_MO_token 77 = .ok (.aload_n 0, 1) := by decide +kernel
theorem d_MO_token_78 : decode b_MO_token 78 = .ok (.getfield 16, 3) := by decide +kernel
theorem d_MO_token_81 : decode b_MO_token 81 = .ok (.iload_n 1, 1) := by decide +kernel
theorem d_MO_token_82 : decode b_MO_token 82 = .ok (.iaload, 1) := by decide +kernel
theorem d_MO_token_83 : decode b_MO_token 83 = .ok (.ireturn, 1) := by decide +kernel
theorem d_MO_wipe_0 : decode b_MO_wipe 0 = .ok (.iload_n 1, 1) := by decide +kernel
theorem d_MO_wipe_1 : decode b_MO_wipe 1 = .ok (.iconst 0, 1) := by decide +kernel
theorem d_MO_wipe_2 : decode b_MO_wipe 2 = .ok (.iconst 3, 1) := by decide +kernel
theorem d_MO_wipe_3 : decode b_MO_wipe 3 = .ok (.invokestatic 50, 3) := by decide +kernel
theorem d_MO_wipe_6 : decode b_MO_wipe 6 = .ok (.ifCond .ne 5, 3) := by decide +kernel
theorem d_MO_wipe_9 : decode b_MO_wipe 9 = .ok (.iconst (-1), 1) := by decide +kernel
theorem d_MO_wipe_10 : decode b_MO_wipe 10 = .ok (.ireturn, 1) := by decide +kernel
theorem d_MO_wipe_11 : decode b_MO_wipe 11 = .ok (.aload_n 0, 1) := by decide +kernel
theorem d_MO_wipe_12 : decode b_MO_wipe 12 = .ok (.getfield 16, 3) := by decide +kernel
theorem d_MO_wipe_15 : decode b_MO_wipe 15 = .ok (.iload_n 1, 1) := by decide +kernel
theorem d_MO_wipe_16 : decode b_MO_wipe 16 = .ok (.iaload, 1) := by decide +kernel
theorem d_MO_wipe_17 : decode b_MO_wipe 17 = .ok (.istore_n 2, 1) := by decide +kernel
theorem d_MO_wipe_18 : decode b_MO_wipe 18 = .ok (.aload_n 0, 1) := by decide +kernel
theorem d_MO_wipe_19 : decode b_MO_wipe 19 = .ok (.getfield 16, 3) := by decide +kernel
theorem d_MO_wipe_22 : decode b_MO_wipe 22 = .ok (.iload_n 1, 1) := by decide +kernel
theorem d_MO_wipe_23 : decode b_MO_wipe 23 = .ok (.iconst 0, 1) := by decide +kernel
theorem d_MO_wipe_24 : decode b_MO_wipe 24 = .ok (.iastore, 1) := by decide +kernel
theorem d_MO_wipe_25 : decode b_MO_wipe 25 = .ok (.iload_n 2, 1) := by decide +kernel
theorem d_MO_wipe_26 : decode b_MO_wipe 26 = .ok (.ireturn, 1) := by decide +kernel
theorem d_MO_opens_0 : decode b_MO_opens 0 = .ok (.iload_n 0, 1) := by decide +kernel
theorem d_MO_opens_1 : decode b_MO_opens 1 = .ok (.iconst 3, 1) := by decide +kernel
theorem d_MO_opens_2 : decode b_MO_opens 2 = .ok (.if_icmp .eq 33, 3) := by decide +kernel
theorem d_MO_opens_5 : decode b_MO_opens 5 = .ok (.iload_n 0, 1) := by decide +kernel
theorem d_MO_opens_6 : decode b_MO_opens 6 = .ok (.bipush 9, 2) := by decide +kernel
theorem d_MO_opens_8 : decode b_MO_opens 8 = .ok (.if_icmp .eq 27, 3) := by decide +kernel
theorem d_MO_opens_11 : decode b_MO_opens 11 = .ok (.iload_n 0, 1) := by decide +kernel
theorem d_MO_opens_12 : decode b_MO_opens 12 = .ok (.bipush 10, 2) := by decide +kernel
theorem d_MO_opens_14 : decode b_MO_opens 14 = .ok (.if_icmp .eq 21, 3) := by decide +kernel
theorem d_MO_opens_17 : decode b_MO_opens 17 = .ok (.iload_n 0, 1) := by decide +kernel
theorem d_MO_opens_18 : decode b_MO_opens 18 = .ok (.bipush 14, 2) := by decide +kernel
theorem d_MO_opens_20 : decode b_MO_opens 20 = .ok (.if_icmp .eq 15, 3) := by decide +kernel
theorem d_MO_opens_23 : decode b_MO_opens 23 = .ok (.iload_n 0, 1) := by decide +kernel
theorem d_MO_opens_24 : decode b_MO_opens 24 = .ok (.bipush 16, 2) := by decide +kernel
theorem d_MO_opens_26 : decode b_MO_opens 26 = .ok (.if_icmp .eq 9, 3) := by decide +kernel
theorem d_MO_opens_29 : decode b_MO_opens 29 = .ok (.iload_n 0, 1) := by decide +kernel
theorem d_MO_opens_30 : decode b_MO_opens 30 = .ok (.bipush 17, 2) := by decide +kernel
theorem d_MO_opens_32 : decode b_MO_opens 32 = .ok (.if_icmp .ne 7, 3) := by decide +kernel
theorem d_MO_opens_35 : decode b_MO_opens 35 = .ok (.iconst 1, 1) := by decide +kernel
theorem d_MO_opens_36 : decode b_MO_opens 36 = .ok (.goto 4, 3) := by decide +kernel
theorem d_MO_opens_39 : decode b_MO_opens 39 = .ok (.iconst 0, 1) := by decide +kernel
theorem d_MO_opens_40 : decode b_MO_opens 40 = .ok (.ireturn, 1) := by decide +kernel
theorem d_MO_inside_0 : decode b_MO_inside 0 = .ok (.iconst 0, 1) := by decide +kernel
theorem d_MO_inside_1 : decode b_MO_inside 1 = .ok (.istore_n 2, 1) := by decide +kernel
theorem d_MO_inside_2 : decode b_MO_inside 2 = .ok (.iload_n 2, 1) := by decide +kernel
theorem d_MO_inside_3 : decode b_MO_inside 3 = .ok (.aload_n 0, 1) := by decide +kernel
theorem d_MO_inside_4 : decode b_MO_inside 4 = .ok (.getfield 58, 3) := by decide +kernel
theorem d_MO_inside_7 : decode b_MO_inside 7 = .ok (.if_icmp .ge 21, 3) := by decide +kernel
theorem d_MO_inside_10 : decode b_MO_inside 10 = .ok (.aload_n 0, 1) := by decide +kernel
theorem d_MO_inside_11 : decode b_MO_inside 11 = .ok (.getfield 23, 3) := by decide +kernel
theorem d_MO_inside_14 : decode b_MO_inside 14 = .ok (.iload_n 2, 1) := by decide +kernel
theorem d_MO_inside_15 : decode b_MO_inside 15 = .ok (.iaload, 1) := by decide +kernel
theorem d_MO_inside_16 : decode b_MO_inside 16 = .ok (.iload_n 1, 1) := by decide +kernel
theorem d_MO_inside_17 : decode b_MO_inside 17 = .ok (.if_icmp .ne 5, 3) := by decide +kernel
theorem d_MO_inside_20 : decode b_MO_inside 20 = .ok (.iconst 1, 1) := by decide +kernel
theorem d_MO_inside_21 : decode b_MO_inside 21 = .ok (.ireturn, 1) := by decide +kernel
theorem d_MO_inside_22 : decode b_MO_inside 22 = .ok (.iinc 2 1, 3) := by decide +kernel
theorem d_MO_inside_25 : decode b_MO_inside 25 = .ok (.goto (-23), 3) := by decide +kernel
theorem d_MO_inside_28 : decode b_MO_inside 28 = .ok (.iconst 0, 1) := by decide +kernel
theorem d_MO_inside_29 : decode b_MO_inside 29 = .ok (.ireturn, 1) := by decide +kernel
theorem d_MO_openBlock_0 : decode b_MO_openBlock 0 = .ok (.aload_n 0, 1) := by decide +kernel
theorem d_MO_openBlock_1 : decode b_MO_openBlock 1 = .ok (.getfield 23, 3) := by decide +kernel
theorem d_MO_openBlock_4 : decode b_MO_openBlock 4 = .ok (.aload_n 0, 1) := by decide +kernel
theorem d_MO_openBlock_5 : decode b_MO_openBlock 5 = .ok (.getfield 58, 3) := by decide +kernel
theorem d_MO_openBlock_8 : decode b_MO_openBlock 8 = .ok (.iload_n 1, 1) := by decide +kernel
theorem d_MO_openBlock_9 : decode b_MO_openBlock 9 = .ok (.iastore, 1) := by decide +kernel
theorem d_MO_openBlock_10 : decode b_MO_openBlock 10 = .ok (.aload_n 0, 1) := by decide +kernel
theorem d_MO_openBlock_11 : decode b_MO_openBlock 11 = .ok (.getfield 29, 3) := by decide +kernel
theorem d_MO_openBlock_14 : decode b_MO_openBlock 14 = .ok (.aload_n 0, 1) := by decide +kernel
theorem d_MO_openBlock_15 : decode b_MO_openBlock 15 = .ok (.getfield 58, 3) := by decide +kernel
theorem d_MO_openBlock_18 : decode b_MO_openBlock 18 = .ok (.iload_n 2, 1) := by decide +kernel
theorem d_MO_openBlock_19 : decode b_MO_openBlock 19 = .ok (.iastore, 1) := by decide +kernel
theorem d_MO_openBlock_20 : decode b_MO_openBlock 20 = .ok (.aload_n 0, 1) := by decide +kernel
theorem d_MO_openBlock_21 : decode b_MO_openBlock 21 = .ok (.dup, 1) := by decide +kernel
theorem d_MO_openBlock_22 : decode b_MO_openBlock 22 = .ok (.getfield 58, 3) := by decide +kernel
theorem d_MO_openBlock_25 : decode b_MO_openBlock 25 = .ok (.iconst 1, 1) := by decide +kernel
theorem d_MO_openBlock_26 : decode b_MO_openBlock 26 = .ok (.iadd, 1) := by decide +kernel
theorem d_MO_openBlock_27 : decode b_MO_openBlock 27 = .ok (.putfield 58, 3) := by decide +kernel
theorem d_MO_openBlock_30 : decode b_MO_openBlock 30 = .ok (.return_, 1) := by decide +kernel
theorem d_MO_firstWrong_0 : decode b_MO_firstWrong 0 = .ok (.aload_n 0, 1) := by decide +kernel
theorem d_MO_firstWrong_1 : decode b_MO_firstWrong 1 = .ok (.iconst 0, 1) := by decide +kernel
theorem d_MO_firstWrong_2 : decode b_MO_firstWrong 2 = .ok (.putfield 58, 3) := by decide +kernel
theorem d_MO_firstWrong_5 : decode b_MO_firstWrong 5 = .ok (.aload_n 0, 1) := by decide +kernel
theorem d_MO_firstWrong_6 : decode b_MO_firstWrong 6 = .ok (.bipush 20, 2) := by decide +kernel
theorem d_MO_firstWrong_8 : decode b_MO_firstWrong 8 = .ok (.iconst 0, 1) := by decide +kernel
theorem d_MO_firstWrong_9 : decode b_MO_firstWrong 9 = .ok (.invokevirtual 61, 3) := by decide +kernel
theorem d_MO_firstWrong_12 : decode b_MO_firstWrong 12 = .ok (.iconst 0, 1) := by decide +kernel
theorem d_MO_firstWrong_13 : decode b_MO_firstWrong 13 = .ok (.istore_n 2, 1) := by decide +kernel
theorem d_MO_firstWrong_14 : decode b_MO_firstWrong 14 = .ok (.iconst 0, 1) := by decide +kernel
theorem d_MO_firstWrong_15 : decode b_MO_firstWrong 15 = .ok (.istore_n 3, 1) := by decide +kernel
theorem d_MO_firstWrong_16 : decode b_MO_firstWrong 16 = .ok (.iconst 0, 1) := by decide +kernel
theorem d_MO_firstWrong_17 : decode b_MO_firstWrong 17 = .ok (.istore 4, 2) := by decide +kernel
theorem d_MO_firstWrong_19 : decode b_MO_firstWrong 19 = .ok (.iload 4, 2) := by decide +kernel
theorem d_MO_firstWrong_21 : decode b_MO_firstWrong 21 = .ok (.aload_n 0, 1) := by decide +kernel
theorem d_MO_firstWrong_22 : decode b_MO_firstWrong 22 = .ok (.getfield 16, 3) := by decide +kernel
theorem d_MO_firstWrong_25 : decode b_MO_firstWrong 25 = .ok (.iload_n 1, 1) := by decide +kernel
theorem d_MO_firstWrong_26 : decode b_MO_firstWrong 26 = .ok (.iaload, 1) := by decide +kernel
theorem d_MO_firstWrong_27 : decode b_MO_firstWrong 27 = .ok (.if_icmp .ge 277, 3) := by decide +kernel
theorem d_MO_firstWrong_30 : decode b_MO_firstWrong 30 = .ok (.aload_n 0, 1) := by decide +kernel
theorem d_MO_firstWrong_31 : decode b_MO_firstWrong 31 = .ok (.getfield 7, 3) := by decide +kernel
theorem d_MO_firstWrong_34 : decode b_MO_firstWrong 34 = .ok (.bipush 32, 2) := by decide +kernel
theorem d_MO_firstWrong_36 : decode b_MO_firstWrong 36 = .ok (.iload_n 1, 1) := by decide +kernel
theorem d_MO_firstWrong_37 : decode b_MO_firstWrong 37 = .ok (.imul, 1) := by decide +kernel
theorem d_MO_firstWrong_38 : decode b_MO_firstWrong 38 = .ok (.iload 4, 2) := by decide +kernel
theorem d_MO_firstWrong_40 : decode b_MO_firstWrong 40 = .ok (.iadd, 1) := by decide +kernel
theorem d_MO_firstWrong_41 : decode b_MO_firstWrong 41 = .ok (.iaload, 1) := by decide +kernel
theorem d_MO_firstWrong_42 : decode b_MO_firstWrong 42 = .ok (.istore 5, 2) := by decide +kernel
theorem d_MO_firstWrong_44 : decode b_MO_firstWrong 44 = .ok (.aload_n 0, 1) := by decide +kernel
theorem d_MO_firstWrong_45 : decode b_MO_firstWrong 45 = .ok (.getfield 13, 3) := by decide +kernel
theorem d_MO_firstWrong_48 : decode b_MO_firstWrong 48 = .ok (.bipush 32, 2) := by decide +kernel
theorem d_MO_firstWrong_50 : decode b_MO_firstWrong 50 = .ok (.iload_n 1, 1) := by decide +kernel
theorem d_MO_firstWrong_51 : decode b_MO_firstWrong 51 = .ok (.imul, 1) := by decide +kernel
theorem d_MO_firstWrong_52 : decode b_MO_firstWrong 52 = .ok (.iload 4, 2) := by decide +kernel
theorem d_MO_firstWrong_54 : decode b_MO_firstWrong 54 = .ok (.iadd, 1) := by decide +kernel
theorem d_MO_firstWrong_55 : decode b_MO_firstWrong 55 = .ok (.iaload, 1) := by decide +kernel
theorem d_MO_firstWrong_56 : decode b_MO_firstWrong 56 = .ok (.istore 6, 2) := by decide +kernel
theorem d_MO_firstWrong_58 : decode b_MO_firstWrong 58 = .ok (.aload_n 0, 1) := by decide +kernel
theorem d_MO_firstWrong_59 : decode b_MO_firstWrong 59 = .ok (.getfield 58, 3) := by decide +kernel
theorem d_MO_firstWrong_62 : decode b_MO_firstWrong 62 = .ok (.ifCond .ne 6, 3) := by decide +kernel
theorem d_MO_firstWrong_65 : decode b_MO_firstWrong 65 = .ok (.iload 4, 2) := by decide +kernel
theorem d_MO_firstWrong_67 : decode b_MO_firstWrong 67 = .ok (.ireturn, 1) := by decide +kernel
theorem d_MO_firstWrong_68 : decode b_MO_firstWrong 68 = .ok (.iload_n 2, 1) := by decide +kernel
theorem d_MO_firstWrong_69 : decode b_MO_firstWrong 69 = .ok (.ifCond .eq 37, 3) := by decide +kernel
theorem d_MO_firstWrong_72 : decode b_MO_firstWrong 72 = .ok (.iload 5, 2) := by decide +kernel
theorem d_MO_firstWrong_74 : decode b_MO_firstWrong 74 = .ok (.iload_n 2, 1) := by decide +kernel
theorem d_MO_firstWrong_75 : decode b_MO_firstWrong 75 = .ok (.if_icmp .eq 6, 3) := by decide +kernel
theorem d_MO_firstWrong_78 : decode b_MO_firstWrong 78 = .ok (.iload 4, 2) := by decide +kernel
theorem d_MO_firstWrong_80 : decode b_MO_firstWrong 80 = .ok (.ireturn, 1) := by decide +kernel
theorem d_MO_firstWrong_81 : decode b_MO_firstWrong 81 = .ok (.aload_n 0, 1) := by decide +kernel
theorem d_MO_firstWrong_82 : decode b_MO_firstWrong 82 = .ok (.iload 5, 2) := by decide +kernel
theorem d_MO_firstWrong_84 : decode b_MO_firstWrong 84 = .ok (.iload 5, 2) := by decide +kernel
theorem d_MO_firstWrong_86 : decode b_MO_firstWrong 86 = .ok (.bipush 16, 2) := by decide +kernel
theorem d_MO_firstWrong_88 : decode b_MO_firstWrong 88 = .ok (.if_icmp .ne 9, 3) := by decide +kernel
theorem d_MO_firstWrong_91 : decode b_MO_firstWrong 91 = .ok (.iload_n 3, 1) := by decide +kernel
theorem d_MO_firstWrong_92 : decode b_MO_firstWrong 92 = .ok (.iconst 1, 1) := by decide +kernel
theorem d_MO_firstWrong_93 : decode b_MO_firstWrong 93 = .ok (.isub, 1) := by decide +kernel
theorem d_MO_firstWrong_94 : decode b_MO_firstWrong 94 = .ok (.goto 4, 3) := by decide +kernel
theorem d_MO_firstWrong_97 : decode b_MO_firstWrong 97 = .ok (.iconst 0, 1) := by decide +kernel
theorem d_MO_firstWrong_98 : decode b_MO_firstWrong 98 = .ok (.invokevirtual 61, 3) := by decide +kernel
theorem d_MO_firstWrong_101 : decode b_MO_firstWrong 101 = .ok (.iconst 0, 1) := by decide +kernel
theorem d_MO_firstWrong_102 : decode b_MO_firstWrong 102 = .ok (.istore_n 2, 1) := by decide +kernel
theorem d_MO_firstWrong_103 : decode b_MO_firstWrong 103 = .ok (.goto 195, 3) := by decide +kernel
theorem d_MO_firstWrong_106 : decode b_MO_firstWrong 106 = .ok (.iload 5, 2) := by decide +kernel
theorem d_MO_firstWrong_108 : decode b_MO_firstWrong 108 = .ok (.bipush 18, 2) := by decide +kernel
theorem d_MO_firstWrong_110 : decode b_MO_firstWrong 110 = .ok (.if_icmp .ne 91, 3) := by decide +kernel
theorem d_MO_firstWrong_113 : decode b_MO_firstWrong 113 = .ok (.aload_n 0, 1) := by decide +kernel
theorem d_MO_firstWrong_114 : decode b_MO_firstWrong 114 = .ok (.dup, 1) := by decide +kernel
theorem d_MO_firstWrong_115 : decode b_MO_firstWrong 115 = .ok (.getfield 58, 3) := by decide +kernel
theorem d_MO_firstWrong_118 : decode b_MO_firstWrong 118 = .ok (.iconst 1, 1) := by decide +kernel
theorem d_MO_firstWrong_119 : decode b_MO_firstWrong 119 = .ok (.isub, 1) := by decide +kernel
theorem d_MO_firstWrong_120 : decode b_MO_firstWrong 120 = .ok (.putfield 58, 3) := by decide +kernel
theorem d_MO_firstWrong_123 : decode b_MO_firstWrong 123 = .ok (.aload_n 0, 1) := by decide +kernel
theorem d_MO_firstWrong_124 : decode b_MO_firstWrong 124 = .ok (.getfield 29, 3) := by decide +kernel
theorem d_MO_firstWrong_127 : decode b_MO_firstWrong 127 = .ok (.aload_n 0, 1) := by decide +kernel
theorem d_MO_firstWrong_128 : decode b_MO_firstWrong 128 = .ok (.getfield 58, 3) := by decide +kernel
theorem d_MO_firstWrong_131 : decode b_MO_firstWrong 131 = .ok (.iaload, 1) := by decide +kernel
theorem d_MO_firstWrong_132 : decode b_MO_firstWrong 132 = .ok (.istore_n 3, 1) := by decide +kernel
theorem d_MO_firstWrong_133 : decode b_MO_firstWrong 133 = .ok (.aload_n 0, 1) := by decide +kernel
theorem d_MO_firstWrong_134 : decode b_MO_firstWrong 134 = .ok (.getfield 23, 3) := by decide +kernel
theorem d_MO_firstWrong_137 : decode b_MO_firstWrong 137 = .ok (.aload_n 0, 1) := by decide +kernel
theorem d_MO_firstWrong_138 : decode b_MO_firstWrong 138 = .ok (.getfield 58, 3) := by decide +kernel
theorem d_MO_firstWrong_141 : decode b_MO_firstWrong 141 = .ok (.iaload, 1) := by decide +kernel
theorem d_MO_firstWrong_142 : decode b_MO_firstWrong 142 = .ok (.bipush 9, 2) := by decide +kernel
theorem d_MO_firstWrong_144 : decode b_MO_firstWrong 144 = .ok (.if_icmp .eq 17, 3) := by decide +kernel
theorem d_MO_firstWrong_147 : decode b_MO_firstWrong 147 = .ok (.aload_n 0, 1) := by decide +kernel
theorem d_MO_firstWrong_148 : decode b_MO_firstWrong 148 = .ok (.getfield 23, 3) := by decide +kernel
theorem d_MO_firstWrong_151 : decode b_MO_firstWrong 151 = .ok (.aload_n 0, 1) := by decide +kernel
theorem d_MO_firstWrong_152 : decode b_MO_firstWrong 152 = .ok (.getfield 58, 3) := by decide +kernel
theorem d_MO_firstWrong_155 : decode b_MO_firstWrong 155 = .ok (.iaload, 1) := by decide +kernel
theorem d_MO_firstWrong_156 : decode b_MO_firstWrong 156 = .ok (.bipush 16, 2) := by decide +kernel
theorem d_MO_firstWrong_158 : decode b_MO_firstWrong 158 = .ok (.if_icmp .ne 7, 3) := by decide +kernel
theorem d_MO_firstWrong_161 : decode b_MO_firstWrong 161 = .ok (.iconst 1, 1) := by decide +kernel
theorem d_MO_firstWrong_162 : decode b_MO_firstWrong 162 = .ok (.goto 4, 3) := by decide +kernel
theorem d_MO_firstWrong_165 : decode b_MO_firstWrong 165 = .ok (.iconst 0, 1) := by decide +kernel
theorem d_MO_firstWrong_166 : decode b_MO_firstWrong 166 = .ok (.istore 7, 2) := by decide +kernel
theorem d_MO_firstWrong_168 : decode b_MO_firstWrong 168 = .ok (.iload 7, 2) := by decide +kernel
theorem d_MO_firstWrong_170 : decode b_MO_firstWrong 170 = .ok (.ifCond .eq 15, 3) := by decide +kernel
theorem d_MO_firstWrong_173 : decode b_MO_firstWrong 173 = .ok (.iload_n 3, 1) := by decide +kernel
theorem d_MO_firstWrong_174 : decode b_MO_firstWrong 174 = .ok (.iconst 3, 1) := by decide +kernel
theorem d_MO_firstWrong_175 : decode b_MO_firstWrong 175 = .ok (.iand, 1) := by decide +kernel
theorem d_MO_firstWrong_176 : decode b_MO_firstWrong 176 = .ok (.ifCond .le 9, 3) := by decide +kernel
theorem d_MO_firstWrong_179 : decode b_MO_firstWrong 179 = .ok (.bipush 16, 2) := by decide +kernel
theorem d_MO_firstWrong_181 : decode b_MO_firstWrong 181 = .ok (.istore_n 2, 1) := by decide +kernel
theorem d_MO_firstWrong_182 : decode b_MO_firstWrong 182 = .ok (.goto 16, 3) := by decide +kernel
theorem d_MO_firstWrong_185 : decode b_MO_firstWrong 185 = .ok (.iload 7, 2) := by decide +kernel
theorem d_MO_firstWrong_187 : decode b_MO_firstWrong 187 = .ok (.ifCond .eq 11, 3) := by decide +kernel
theorem d_MO_firstWrong_190 : decode b_MO_firstWrong 190 = .ok (.iload_n 3, 1) := by decide +kernel
theorem d_MO_firstWrong_191 : decode b_MO_firstWrong 191 = .ok (.iconst 4, 1) := by decide +kernel
theorem d_MO_firstWrong_192 : decode b_MO_firstWrong 192 = .ok (.if_icmp .lt 6, 3) := by decide +kernel
theorem d_MO_firstWrong_195 : decode b_MO_firstWrong 195 = .ok (.bipush 17, 2) := by decide +kernel
theorem d_MO_firstWrong_197 : decode b_MO_firstWrong 197 = .ok (.istore_n 2, 1) := by decide +kernel
theorem d_MO_firstWrong_198 : decode b_MO_firstWrong 198 = .ok (.goto 100, 3) := by decide +kernel
theorem d_MO_firstWrong_201 : decode b_MO_firstWrong 201 = .ok (.iload 5, 2) := by decide +kernel
theorem d_MO_firstWrong_203 : decode b_MO_firstWrong 203 = .ok (.bipush 16, 2) := by decide +kernel
theorem d_MO_firstWrong_205 : decode b_MO_firstWrong 205 = .ok (.if_icmp .eq 63, 3) := by decide +kernel
theorem d_MO_firstWrong_208 : decode b_MO_firstWrong 208 = .ok (.iload 5, 2) := by decide +kernel
theorem d_MO_firstWrong_210 : decode b_MO_firstWrong 210 = .ok (.bipush 17, 2) := by decide +kernel
theorem d_MO_firstWrong_212 : decode b_MO_firstWrong 212 = .ok (.if_icmp .eq 56, 3) := by decide +kernel
theorem d_MO_firstWrong_215 : decode b_MO_firstWrong 215 = .ok (.iload 5, 2) := by decide +kernel
theorem d_MO_firstWrong_217 : decode b_MO_firstWrong 217 = .ok (.iconst 4, 1) := by decide +kernel
theorem d_MO_firstWrong_218 : decode b_MO_firstWrong 218 = .ok (.if_icmp .eq 9, 3) := by decide +kernel
theorem d_MO_firstWrong_221 : decode b_MO_firstWrong 221 = .ok (.iload 5, 2) := by decide +kernel
theorem d_MO_firstWrong_223 : decode b_MO_firstWrong 223 = .ok (.iconst 5, 1) := by decide +kernel
theorem d_MO_firstWrong_224 : decode b_MO_firstWrong 224 = .ok (.if_icmp .ne 11, 3) := by decide +kernel
theorem d_MO_firstWrong_227 : decode b_MO_firstWrong 227 = .ok (.aload_n 0, 1) := by decide +kernel
theorem d_MO_firstWrong_228 : decode b_MO_firstWrong 228 = .ok (.iconst 3, 1) := by decide +kernel
theorem d_MO_firstWrong_229 : decode b_MO_firstWrong 229 = .ok (.invokevirtual 65, 3) := by decide +kernel
theorem d_MO_firstWrong_232 : decode b_MO_firstWrong 232 = .ok (.ifCond .eq 36, 3) := by decide +kernel
theorem d_MO_firstWrong_235 : decode b_MO_firstWrong 235 = .ok (.iload 5, 2) := by decide +kernel
theorem d_MO_firstWrong_237 : decode b_MO_firstWrong 237 = .ok (.bipush 8, 2) := by decide +kernel
theorem d_MO_firstWrong_239 : decode b_MO_firstWrong 239 = .ok (.if_icmp .ne 12, 3) := by decide +kernel
theorem d_MO_firstWrong_242 : decode b_MO_firstWrong 242 = .ok (.aload_n 0, 1) := by decide +kernel
theorem d_MO_firstWrong_243 : decode b_MO_firstWrong 243 = .ok (.bipush 16, 2) := by decide +kernel
theorem d_MO_firstWrong_245 : decode b_MO_firstWrong 245 = .ok (.invokevirtual 65, 3) := by decide +kernel
theorem d_MO_firstWrong_248 : decode b_MO_firstWrong 248 = .ok (.ifCond .eq 20, 3) := by decide +kernel
theorem d_MO_firstWrong_251 : decode b_MO_firstWrong 251 = .ok (.iload 5, 2) := by decide +kernel
theorem d_MO_firstWrong_253 : decode b_MO_firstWrong 253 = .ok (.invokestatic 69, 3) := by decide +kernel
theorem d_MO_firstWrong_256 : decode b_MO_firstWrong 256 = .ok (.ifCond .eq 15, 3) := by decide +kernel
theorem d_MO_firstWrong_259 : decode b_MO_firstWrong 259 = .ok (.aload_n 0, 1) := by decide +kernel
theorem d_MO_firstWrong_260 : decode b_MO_firstWrong 260 = .ok (.getfield 58, 3) := by decide +kernel
theorem d_MO_firstWrong_263 : decode b_MO_firstWrong 263 = .ok (.bipush 6, 2) := by decide +kernel
theorem d_MO_firstWrong_265 : decode b_MO_firstWrong 265 = .ok (.if_icmp .ne 6, 3) := by decide +kernel
theorem d_MO_firstWrong_268 : decode b_MO_firstWrong 268 = .ok (.iload 4, 2) := by decide +kernel
theorem d_MO_firstWrong_270 : decode b_MO_firstWrong 270 = .ok (.ireturn, 1) := by decide +kernel
theorem d_MO_firstWrong_271 : decode b_MO_firstWrong 271 = .ok (.iload 5, 2) := by decide +kernel
theorem d_MO_firstWrong_273 : decode b_MO_firstWrong 273 = .ok (.invokestatic 69, 3) := by decide +kernel
theorem d_MO_firstWrong_276 : decode b_MO_firstWrong 276 = .ok (.ifCond .eq 22, 3) := by decide +kernel
theorem d_MO_firstWrong_279 : decode b_MO_firstWrong 279 = .ok (.aload_n 0, 1) := by decide +kernel
theorem d_MO_firstWrong_280 : decode b_MO_firstWrong 280 = .ok (.iload 5, 2) := by decide +kernel
theorem d_MO_firstWrong_282 : decode b_MO_firstWrong 282 = .ok (.iload 5, 2) := by decide +kernel
theorem d_MO_firstWrong_284 : decode b_MO_firstWrong 284 = .ok (.bipush 9, 2) := by decide +kernel
theorem d_MO_firstWrong_286 : decode b_MO_firstWrong 286 = .ok (.if_icmp .ne 8, 3) := by decide +kernel
theorem d_MO_firstWrong_289 : decode b_MO_firstWrong 289 = .ok (.iload 6, 2) := by decide +kernel
theorem d_MO_firstWrong_291 : decode b_MO_firstWrong 291 = .ok (.goto 4, 3) := by decide +kernel
theorem d_MO_firstWrong_294 : decode b_MO_firstWrong 294 = .ok (.iconst 0, 1) := by decide +kernel
theorem d_MO_firstWrong_295 : decode b_MO_firstWrong 295 = .ok (.invokevirtual 61, 3) := by decide +kernel
theorem d_MO_firstWrong_298 : decode b_MO_firstWrong 298 = .ok (.iinc 4 1, 3) := by decide +kernel
theorem d_MO_firstWrong_301 : decode b_MO_firstWrong 301 = .ok (.goto (-282), 3) := by decide +kernel
theorem d_MO_firstWrong_304 : decode b_MO_firstWrong 304 = .ok (.aload_n 0, 1) := by decide +kernel
theorem d_MO_firstWrong_305 : decode b_MO_firstWrong 305 = .ok (.getfield 58, 3) := by decide +kernel
theorem d_MO_firstWrong_308 : decode b_MO_firstWrong 308 = .ok (.ifCond .ne 11, 3) := by decide +kernel
theorem d_MO_firstWrong_311 : decode b_MO_firstWrong 311 = .ok (.iload_n 2, 1) := by decide +kernel
theorem d_MO_firstWrong_312 : decode b_MO_firstWrong 312 = .ok (.ifCond .ne 7, 3) := by decide +kernel
theorem d_MO_firstWrong_315 : decode b_MO_firstWrong 315 = .ok (.iconst (-1), 1) := by decide +kernel
theorem d_MO_firstWrong_316 : decode b_MO_firstWrong 316 = .ok (.goto 9, 3) := by decide +kernel
theorem d_MO_firstWrong_319 : decode b_MO_firstWrong 319 = .ok (.aload_n 0, 1) := by decide +kernel
theorem d_MO_firstWrong_320 : decode b_MO_firstWrong 320 = .ok (.getfield 16, 3) := by decide +kernel
theorem d_MO_firstWrong_323 : decode b_MO_firstWrong 323 = .ok (.iload_n 1, 1) := by decide +kernel
theorem d_MO_firstWrong_324 : decode b_MO_firstWrong 324 = .ok (.iaload, 1) := by decide +kernel
theorem d_MO_firstWrong_325 : decode b_MO_firstWrong 325 = .ok (.ireturn, 1) := by decide +kernel
theorem d_MO_good_0 : decode b_MO_good 0 = .ok (.aload_n 0, 1) := by decide +kernel
theorem d_MO_good_1 : decode b_MO_good 1 = .ok (.iload_n 1, 1) := by decide +kernel
theorem d_MO_good_2 : decode b_MO_good 2 = .ok (.invokevirtual 72, 3) := by decide +kernel
theorem d_MO_good_5 : decode b_MO_good 5 = .ok (.istore_n 2, 1) := by decide +kernel
theorem d_MO_good_6 : decode b_MO_good 6 = .ok (.iload_n 2, 1) := by decide +kernel
theorem d_MO_good_7 : decode b_MO_good 7 = .ok (.ifCond .ge 5, 3) := by decide +kernel
theorem d_MO_good_10 : decode b_MO_good 10 = .ok (.iconst 1, 1) := by decide +kernel
theorem d_MO_good_11 : decode b_MO_good 11 = .ok (.ireturn, 1) := by decide +kernel
theorem d_MO_good_12 : decode b_MO_good 12 = .ok (.aload_n 0, 1) := by decide +kernel
theorem d_MO_good_13 : decode b_MO_good 13 = .ok (.bipush 32, 2) := by decide +kernel
theorem d_MO_good_15 : decode b_MO_good 15 = .ok (.iload_n 1, 1) := by decide +kernel
theorem d_MO_good_16 : decode b_MO_good 16 = .ok (.imul, 1) := by decide +kernel
theorem d_MO_good_17 : decode b_MO_good 17 = .ok (.iload_n 2, 1) := by decide +kernel
theorem d_MO_good_18 : decode b_MO_good 18 = .ok (.iadd, 1) := by decide +kernel
theorem d_MO_good_19 : decode b_MO_good 19 = .ok (.putfield 19, 3) := by decide +kernel
theorem d_MO_good_22 : decode b_MO_good 22 = .ok (.iconst 0, 1) := by decide +kernel
theorem d_MO_good_23 : decode b_MO_good 23 = .ok (.ireturn, 1) := by decide +kernel
theorem d_MO_check_0 : decode b_MO_check 0 = .ok (.iload_n 1, 1) := by decide +kernel
theorem d_MO_check_1 : decode b_MO_check 1 = .ok (.iconst 0, 1) := by decide +kernel
theorem d_MO_check_2 : decode b_MO_check 2 = .ok (.iconst 3, 1) := by decide +kernel
theorem d_MO_check_3 : decode b_MO_check 3 = .ok (.invokestatic 50, 3) := by decide +kernel
theorem d_MO_check_6 : decode b_MO_check 6 = .ok (.ifCond .ne 5, 3) := by decide +kernel
theorem d_MO_check_9 : decode b_MO_check 9 = .ok (.iconst (-1), 1) := by decide +kernel
theorem d_MO_check_10 : decode b_MO_check 10 = .ok (.ireturn, 1) := by decide +kernel
theorem d_MO_check_11 : decode b_MO_check 11 = .ok (.aload_n 0, 1) := by decide +kernel
theorem d_MO_check_12 : decode b_MO_check 12 = .ok (.iconst (-1), 1) := by decide +kernel
theorem d_MO_check_13 : decode b_MO_check 13 = .ok (.putfield 19, 3) := by decide +kernel
theorem d_MO_check_16 : decode b_MO_check 16 = .ok (.aload_n 0, 1) := by decide +kernel
theorem d_MO_check_17 : decode b_MO_check 17 = .ok (.iload_n 1, 1) := by decide +kernel
theorem d_MO_check_18 : decode b_MO_check 18 = .ok (.invokevirtual 76, 3) := by decide +kernel
theorem d_MO_check_21 : decode b_MO_check 21 = .ok (.ifCond .eq 7, 3) := by decide +kernel
theorem d_MO_check_24 : decode b_MO_check 24 = .ok (.iconst 0, 1) := by decide +kernel
theorem d_MO_check_25 : decode b_MO_check 25 = .ok (.goto 5, 3) := by decide +kernel
theorem d_MO_check_28 : decode b_MO_check 28 = .ok (.bipush (-3), 2) := by decide +kernel
theorem d_MO_check_30 : decode b_MO_check 30 = .ok (.ireturn, 1) := by decide +kernel
theorem d_MO_place_0 : decode b_MO_place 0 = .ok (.aload_n 0, 1) := by decide +kernel
theorem d_MO_place_1 : decode b_MO_place 1 = .ok (.getfield 19, 3) := by decide +kernel
theorem d_MO_place_4 : decode b_MO_place 4 = .ok (.ireturn, 1) := by decide +kernel
theorem d_MO_behind_0 : decode b_MO_behind 0 = .ok (.iconst 1, 1) := by decide +kernel
theorem d_MO_behind_1 : decode b_MO_behind 1 = .ok (.istore_n 2, 1) := by decide +kernel
theorem d_MO_behind_2 : decode b_MO_behind 2 = .ok (.iload_n 1, 1) := by decide +kernel
theorem d_MO_behind_3 : decode b_MO_behind 3 = .ok (.istore_n 3, 1) := by decide +kernel
theorem d_MO_behind_4 : decode b_MO_behind 4 = .ok (.iload_n 2, 1) := by decide +kernel
theorem d_MO_behind_5 : decode b_MO_behind 5 = .ok (.ifCond .le 38, 3) := by decide +kernel
theorem d_MO_behind_8 : decode b_MO_behind 8 = .ok (.aload_n 0, 1) := by decide +kernel
theorem d_MO_behind_9 : decode b_MO_behind 9 = .ok (.getfield 7, 3) := by decide +kernel
theorem d_MO_behind_12 : decode b_MO_behind 12 = .ok (.iload_n 3, 1) := by decide +kernel
theorem d_MO_behind_13 : decode b_MO_behind 13 = .ok (.iaload, 1) := by decide +kernel
theorem d_MO_behind_14 : decode b_MO_behind 14 = .ok (.invokestatic 69, 3) := by decide +kernel
theorem d_MO_behind_17 : decode b_MO_behind 17 = .ok (.ifCond .eq 6, 3) := by decide +kernel
theorem d_MO_behind_20 : decode b_MO_behind 20 = .ok (.iinc 2 1, 3) := by decide +kernel
theorem d_MO_behind_23 : decode b_MO_behind 23 = .ok (.aload_n 0, 1) := by decide +kernel
theorem d_MO_behind_24 : decode b_MO_behind 24 = .ok (.getfield 7, 3) := by decide +kernel
theorem d_MO_behind_27 : decode b_MO_behind 27 = .ok (.iload_n 3, 1) := by decide +kernel
theorem d_MO_behind_28 : decode b_MO_behind 28 = .ok (.iaload, 1) := by decide +kernel
theorem d_MO_behind_29 : decode b_MO_behind 29 = .ok (.bipush 18, 2) := by decide +kernel
theorem d_MO_behind_31 : decode b_MO_behind 31 = .ok (.if_icmp .ne 6, 3) := by decide +kernel
theorem d_MO_behind_34 : decode b_MO_behind 34 = .ok (.iinc 2 (-1), 3) := by decide +kernel
theorem d_MO_behind_37 : decode b_MO_behind 37 = .ok (.iinc 3 1, 3) := by decide +kernel
theorem d_MO_behind_40 : decode b_MO_behind 40 = .ok (.goto (-36), 3) := by decide +kernel
theorem d_MO_behind_43 : decode b_MO_behind 43 = .ok (.iload_n 3, 1) := by decide +kernel
theorem d_MO_behind_44 : decode b_MO_behind 44 = .ok (.ireturn, 1) := by decide +kernel
theorem d_MO_part_0 : decode b_MO_part 0 = .ok (.aload_n 0, 1) := by decide +kernel
theorem d_MO_part_1 : decode b_MO_part 1 = .ok (.iload_n 1, 1) := by decide +kernel
theorem d_MO_part_2 : decode b_MO_part 2 = .ok (.iconst 1, 1) := by decide +kernel
theorem d_MO_part_3 : decode b_MO_part 3 = .ok (.iadd, 1) := by decide +kernel
theorem d_MO_part_4 : decode b_MO_part 4 = .ok (.invokevirtual 79, 3) := by decide +kernel
theorem d_MO_part_7 : decode b_MO_part 7 = .ok (.istore_n 3, 1) := by decide +kernel
theorem d_MO_part_8 : decode b_MO_part 8 = .ok (.iconst 0, 1) := by decide +kernel
theorem d_MO_part_9 : decode b_MO_part 9 = .ok (.istore 4, 2) := by decide +kernel
theorem d_MO_part_11 : decode b_MO_part 11 = .ok (.iload 4, 2) := by decide +kernel
theorem d_MO_part_13 : decode b_MO_part 13 = .ok (.iload_n 2, 1) := by decide +kernel
theorem d_MO_part_14 : decode b_MO_part 14 = .ok (.if_icmp .ge 17, 3) := by decide +kernel
theorem d_MO_part_17 : decode b_MO_part 17 = .ok (.aload_n 0, 1) := by decide +kernel
theorem d_MO_part_18 : decode b_MO_part 18 = .ok (.iload_n 3, 1) := by decide +kernel
theorem d_MO_part_19 : decode b_MO_part 19 = .ok (.iconst 1, 1) := by decide +kernel
theorem d_MO_part_20 : decode b_MO_part 20 = .ok (.iadd, 1) := by decide +kernel
theorem d_MO_part_21 : decode b_MO_part 21 = .ok (.invokevirtual 79, 3) := by decide +kernel
theorem d_MO_part_24 : decode b_MO_part 24 = .ok (.istore_n 3, 1) := by decide +kernel
theorem d_MO_part_25 : decode b_MO_part 25 = .ok (.iinc 4 1, 3) := by decide +kernel
theorem d_MO_part_28 : decode b_MO_part 28 = .ok (.goto (-17), 3) := by decide +kernel
theorem d_MO_part_31 : decode b_MO_part 31 = .ok (.iload_n 3, 1) := by decide +kernel
theorem d_MO_part_32 : decode b_MO_part 32 = .ok (.ireturn, 1) := by decide +kernel
theorem d_MO_behindTry_0 : decode b_MO_behindTry 0 = .ok (.aload_n 0, 1) := by decide +kernel
theorem d_MO_behindTry_1 : decode b_MO_behindTry 1 = .ok (.iload_n 1, 1) := by decide +kernel
theorem d_MO_behindTry_2 : decode b_MO_behindTry 2 = .ok (.aload_n 0, 1) := by decide +kernel
theorem d_MO_behindTry_3 : decode b_MO_behindTry 3 = .ok (.getfield 13, 3) := by decide +kernel
theorem d_MO_behindTry_6 : decode b_MO_behindTry 6 = .ok (.iload_n 1, 1) := by decide +kernel
theorem d_MO_behindTry_7 : decode b_MO_behindTry 7 = .ok (.iaload, 1) := by decide +kernel
theorem d_MO_behindTry_8 : decode b_MO_behindTry 8 = .ok (.iconst 3, 1) := by decide +kernel
theorem d_MO_behindTry_9 : decode b_MO_behindTry 9 = .ok (.iand, 1) := by decide +kernel
theorem d_MO_behindTry_10 : decode b_MO_behindTry 10 = .ok (.invokevirtual 82, 3) := by decide +kernel
theorem d_MO_behindTry_13 : decode b_MO_behindTry 13 = .ok (.istore_n 2, 1) := by decide +kernel
theorem d_MO_behindTry_14 : decode b_MO_behindTry 14 = .ok (.aload_n 0, 1) := by decide +kernel
theorem d_MO_behindTry_15 : decode b_MO_behindTry 15 = .ok (.getfield 13, 3) := by decide +kernel
theorem d_MO_behindTry_18 : decode b_MO_behindTry 18 = .ok (.iload_n 1, 1) := by decide +kernel
theorem d_MO_behindTry_19 : decode b_MO_behindTry 19 = .ok (.iaload, 1) := by decide +kernel
theorem d_MO_behindTry_20 : decode b_MO_behindTry 20 = .ok (.iconst 4, 1) := by decide +kernel
theorem d_MO_behindTry_21 : decode b_MO_behindTry 21 = .ok (.if_icmp .lt 13, 3) := by decide +kernel
theorem d_MO_behindTry_24 : decode b_MO_behindTry 24 = .ok (.aload_n 0, 1) := by decide +kernel
theorem d_MO_behindTry_25 : decode b_MO_behindTry 25 = .ok (.iload_n 2, 1) := by decide +kernel
theorem d_MO_behindTry_26 : decode b_MO_behindTry 26 = .ok (.iconst 1, 1) := by decide +kernel
theorem d_MO_behindTry_27 : decode b_MO_behindTry 27 = .ok (.iadd, 1) := by decide +kernel
theorem d_MO_behindTry_28 : decode b_MO_behindTry 28 = .ok (.invokevirtual 79, 3) := by decide +kernel
theorem d_MO_behindTry_31 : decode b_MO_behindTry 31 = .ok (.goto 4, 3) := by decide +kernel
theorem d_MO_behindTry_34 : decode b_MO_behindTry 34 = .ok (.iload_n 2, 1) := by decide +kernel
theorem d_MO_behindTry_35 : decode b_MO_behindTry 35 = .ok (.ireturn, 1) := by decide +kernel
theorem d_MO_enter_0 : decode b_MO_enter 0 = .ok (.aload_n 0, 1) := by decide +kernel
theorem d_MO_enter_1 : decode b_MO_enter 1 = .ok (.getfield 23, 3) := by decide +kernel
theorem d_MO_enter_4 : decode b_MO_enter 4 = .ok (.aload_n 0, 1) := by decide +kernel
theorem d_MO_enter_5 : decode b_MO_enter 5 = .ok (.getfield 58, 3) := by decide +kernel
theorem d_MO_enter_8 : decode b_MO_enter 8 = .ok (.iload_n 1, 1) := by decide +kernel
theorem d_MO_enter_9 : decode b_MO_enter 9 = .ok (.iastore, 1) := by decide +kernel
theorem d_MO_enter_10 : decode b_MO_enter 10 = .ok (.aload_n 0, 1) := by decide +kernel
theorem d_MO_enter_11 : decode b_MO_enter 11 = .ok (.getfield 26, 3) := by decide +kernel
theorem d_MO_enter_14 : decode b_MO_enter 14 = .ok (.aload_n 0, 1) := by decide +kernel
theorem d_MO_enter_15 : decode b_MO_enter 15 = .ok (.getfield 58, 3) := by decide +kernel
theorem d_MO_enter_18 : decode b_MO_enter 18 = .ok (.iload_n 2, 1) := by decide +kernel
theorem d_MO_enter_19 : decode b_MO_enter 19 = .ok (.iastore, 1) := by decide +kernel
theorem d_MO_enter_20 : decode b_MO_enter 20 = .ok (.aload_n 0, 1) := by decide +kernel
theorem d_MO_enter_21 : decode b_MO_enter 21 = .ok (.getfield 29, 3) := by decide +kernel
theorem d_MO_enter_24 : decode b_MO_enter 24 = .ok (.aload_n 0, 1) := by decide +kernel
theorem d_MO_enter_25 : decode b_MO_enter 25 = .ok (.getfield 58, 3) := by decide +kernel
theorem d_MO_enter_28 : decode b_MO_enter 28 = .ok (.iload_n 3, 1) := by decide +kernel
theorem d_MO_enter_29 : decode b_MO_enter 29 = .ok (.iastore, 1) := by decide +kernel
theorem d_MO_enter_30 : decode b_MO_enter 30 = .ok (.aload_n 0, 1) := by decide +kernel
theorem d_MO_enter_31 : decode b_MO_enter 31 = .ok (.getfield 32, 3) := by decide +kernel
theorem d_MO_enter_34 : decode b_MO_enter 34 = .ok (.aload_n 0, 1) := by decide +kernel
theorem d_MO_enter_35 : decode b_MO_enter 35 = .ok (.getfield 58, 3) := by decide +kernel
theorem d_MO_enter_38 : decode b_MO_enter 38 = .ok (.iconst 0, 1) := by decide +kernel
theorem d_MO_enter_39 : decode b_MO_enter 39 = .ok (.iastore, 1) := by decide +kernel
theorem d_MO_enter_40 : decode b_MO_enter 40 = .ok (.aload_n 0, 1) := by decide +kernel
theorem d_MO_enter_41 : decode b_MO_enter 41 = .ok (.dup, 1) := by decide +kernel
theorem d_MO_enter_42 : decode b_MO_enter 42 = .ok (.getfield 58, 3) := by decide +kernel
theorem d_MO_enter_45 : decode b_MO_enter 45 = .ok (.iconst 1, 1) := by decide +kernel
theorem d_MO_enter_46 : decode b_MO_enter 46 = .ok (.iadd, 1) := by decide +kernel
theorem d_MO_enter_47 : decode b_MO_enter 47 = .ok (.putfield 58, 3) := by decide +kernel
theorem d_MO_enter_50 : decode b_MO_enter 50 = .ok (.aload_n 0, 1) := by decide +kernel
theorem d_MO_enter_51 : decode b_MO_enter 51 = .ok (.iload_n 2, 1) := by decide +kernel
theorem d_MO_enter_52 : decode b_MO_enter 52 = .ok (.iconst 1, 1) := by decide +kernel
theorem d_MO_enter_53 : decode b_MO_enter 53 = .ok (.iadd, 1) := by decide +kernel
theorem d_MO_enter_54 : decode b_MO_enter 54 = .ok (.putfield 86, 3) := by decide +kernel
theorem d_MO_enter_57 : decode b_MO_enter 57 = .ok (.return_, 1) := by decide +kernel
theorem d_MO_made_0 : decode b_MO_made 0 = .ok (.aload_n 0, 1) := by decide +kernel
theorem d_MO_made_1 : decode b_MO_made 1 = .ok (.dup, 1) := by decide +kernel
theorem d_MO_made_2 : decode b_MO_made 2 = .ok (.getfield 89, 3) := by decide +kernel
theorem d_MO_made_5 : decode b_MO_made 5 = .ok (.iconst 1, 1) := by decide +kernel
theorem d_MO_made_6 : decode b_MO_made 6 = .ok (.iadd, 1) := by decide +kernel
theorem d_MO_made_7 : decode b_MO_made 7 = .ok (.putfield 89, 3) := by decide +kernel
theorem d_MO_made_10 : decode b_MO_made 10 = .ok (.aload_n 0, 1) := by decide +kernel
theorem d_MO_made_11 : decode b_MO_made 11 = .ok (.getfield 41, 3) := by decide +kernel
theorem d_MO_made_14 : decode b_MO_made 14 = .ok (.aload_n 0, 1) := by decide +kernel
theorem d_MO_made_15 : decode b_MO_made 15 = .ok (.getfield 89, 3) := by decide +kernel
theorem d_MO_made_18 : decode b_MO_made 18 = .ok (.iload_n 1, 1) := by decide +kernel
theorem d_MO_made_19 : decode b_MO_made 19 = .ok (.iastore, 1) := by decide +kernel
theorem d_MO_made_20 : decode b_MO_made 20 = .ok (.aload_n 0, 1) := by decide +kernel
theorem d_MO_made_21 : decode b_MO_made 21 = .ok (.getfield 44, 3) := by decide +kernel
theorem d_MO_made_24 : decode b_MO_made 24 = .ok (.aload_n 0, 1) := by decide +kernel
theorem d_MO_made_25 : decode b_MO_made 25 = .ok (.getfield 89, 3) := by decide +kernel
theorem d_MO_made_28 : decode b_MO_made 28 = .ok (.iload_n 2, 1) := by decide +kernel
theorem d_MO_made_29 : decode b_MO_made 29 = .ok (.iastore, 1) := by decide +kernel
theorem d_MO_made_30 : decode b_MO_made 30 = .ok (.aload_n 0, 1) := by decide +kernel
theorem d_MO_made_31 : decode b_MO_made 31 = .ok (.getfield 89, 3) := by decide +kernel
theorem d_MO_made_34 : decode b_MO_made 34 = .ok (.ireturn, 1) := by decide +kernel
theorem d_MO_ends_0 : decode b_MO_ends 0 = .ok (.aload_n 0, 1) := by decide +kernel
theorem d_MO_ends_1 : decode b_MO_ends 1 = .ok (.iload_n 1, 1) := by decide +kernel
theorem d_MO_ends_2 : decode b_MO_ends 2 = .ok (.putfield 92, 3) := by decide +kernel
theorem d_MO_ends_5 : decode b_MO_ends 5 = .ok (.aload_n 0, 1) := by decide +kernel
theorem d_MO_ends_6 : decode b_MO_ends 6 = .ok (.iload_n 2, 1) := by decide +kernel
theorem d_MO_ends_7 : decode b_MO_ends 7 = .ok (.putfield 95, 3) := by decide +kernel
theorem d_MO_ends_10 : decode b_MO_ends 10 = .ok (.return_, 1) := by decide +kernel
theorem d_MO_raise_0 : decode b_MO_raise 0 = .ok (.aload_n 0, 1) := by decide +kernel
theorem d_MO_raise_1 : decode b_MO_raise 1 = .ok (.iconst 4, 1) := by decide +kernel
theorem d_MO_raise_2 : decode b_MO_raise 2 = .ok (.aload_n 0, 1) := by decide +kernel
theorem d_MO_raise_3 : decode b_MO_raise 3 = .ok (.iload_n 1, 1) := by decide +kernel
theorem d_MO_raise_4 : decode b_MO_raise 4 = .ok (.iload_n 2, 1) := by decide +kernel
theorem d_MO_raise_5 : decode b_MO_raise 5 = .ok (.invokevirtual 98, 3) := by decide +kernel
theorem d_MO_raise_8 : decode b_MO_raise 8 = .ok (.invokevirtual 101, 3) := by decide +kernel
theorem d_MO_raise_11 : decode b_MO_raise 11 = .ok (.return_, 1) := by decide +kernel
end
section
/-! decode rows, written by wip/gen/names.py -/
theorem d_MO_is_0 : decode b_MO_is 0 = .ok (.iload_n 1, 1) := by decide +kernel
theorem d_MO_is_1 : decode b_MO_is 1 = .ok (.ifCond .eq 29, 3) := by decide +kernel
theorem d_MO_is_4 : decode b_MO_is 4 = .ok (.iload_n 0, 1) := by decide +kernel
theorem d_MO_is_5 : decode b_MO_is 5 = .ok (.iload_n 1, 1) := by decide +kernel
theorem d_MO_is_6 : decode b_MO_is 6 = .ok (.if_icmp .eq 24, 3) := by decide +kernel
theorem d_MO_is_9 : decode b_MO_is 9 = .ok (.iload_n 1, 1) := by decide +kernel
theorem d_MO_is_10 : decode b_MO_is 10 = .ok (.iconst 1, 1) := by decide +kernel
theorem d_MO_is_11 : decode b_MO_is 11 = .ok (.if_icmp .ne 8, 3) := by decide +kernel
theorem d_MO_is_14 : decode b_MO_is 14 = .ok (.iload_n 0, 1) := by decide +kernel
theorem d_MO_is_15 : decode b_MO_is 15 = .ok (.iconst 3, 1) := by decide +kernel
theorem d_MO_is_16 : decode b_MO_is 16 = .ok (.if_icmp .eq 14, 3) := by decide +kernel
theorem d_MO_is_19 : decode b_MO_is 19 = .ok (.iload_n 1, 1) := by decide +kernel
theorem d_MO_is_20 : decode b_MO_is 20 = .ok (.iconst 2, 1) := by decide +kernel
theorem d_MO_is_21 : decode b_MO_is 21 = .ok (.if_icmp .ne 13, 3) := by decide +kernel
theorem d_MO_is_24 : decode b_MO_is 24 = .ok (.iload_n 0, 1) := by decide +kernel
theorem d_MO_is_25 : decode b_MO_is 25 = .ok (.bipush 6, 2) := by decide +kernel
theorem d_MO_is_27 : decode b_MO_is 27 = .ok (.if_icmp .ne 7, 3) := by decide +kernel
theorem d_MO_is_30 : decode b_MO_is 30 = .ok (.iconst 1, 1) := by decide +kernel
theorem d_MO_is_31 : decode b_MO_is 31 = .ok (.goto 4, 3) := by decide +kernel
theorem d_MO_is_34 : decode b_MO_is 34 = .ok (.iconst 0, 1) := by decide +kernel
theorem d_MO_is_35 : decode b_MO_is 35 = .ok (.ireturn, 1) := by decide +kernel
theorem d_MO_hold_0 : decode b_MO_hold 0 = .ok (.aload_n 0, 1) := by decide +kernel
theorem d_MO_hold_1 : decode b_MO_hold 1 = .ok (.getfield 38, 3) := by decide +kernel
theorem d_MO_hold_4 : decode b_MO_hold 4 = .ok (.iload_n 1, 1) := by decide +kernel
theorem d_MO_hold_5 : decode b_MO_hold 5 = .ok (.dup2, 1) := by decide +kernel
theorem d_MO_hold_6 : decode b_MO_hold 6 = .ok (.iaload, 1) := by decide +kernel
theorem d_MO_hold_7 : decode b_MO_hold 7 = .ok (.iconst 1, 1) := by decide +kernel
theorem d_MO_hold_8 : decode b_MO_hold 8 = .ok (.iadd, 1) := by decide +kernel
theorem d_MO_hold_9 : decode b_MO_hold 9 = .ok (.iastore, 1) := by decide +kernel
theorem d_MO_hold_10 : decode b_MO_hold 10 = .ok (.aload_n 0, 1) := by decide +kernel
theorem d_MO_hold_11 : decode b_MO_hold 11 = .ok (.getfield 38, 3) := by decide +kernel
theorem d_MO_hold_14 : decode b_MO_hold 14 = .ok (.iconst 0, 1) := by decide +kernel
theorem d_MO_hold_15 : decode b_MO_hold 15 = .ok (.iaload, 1) := by decide +kernel
theorem d_MO_hold_16 : decode b_MO_hold 16 = .ok (.aload_n 0, 1) := by decide +kernel
theorem d_MO_hold_17 : decode b_MO_hold 17 = .ok (.getfield 38, 3) := by decide +kernel
theorem d_MO_hold_20 : decode b_MO_hold 20 = .ok (.iconst 1, 1) := by decide +kernel
theorem d_MO_hold_21 : decode b_MO_hold 21 = .ok (.iaload, 1) := by decide +kernel
theorem d_MO_hold_22 : decode b_MO_hold 22 = .ok (.iadd, 1) := by decide +kernel
theorem d_MO_hold_23 : decode b_MO_hold 23 = .ok (.aload_n 0, 1) := by decide +kernel
theorem d_MO_hold_24 : decode b_MO_hold 24 = .ok (.getfield 38, 3) := by decide +kernel
theorem d_MO_hold_27 : decode b_MO_hold 27 = .ok (.iconst 2, 1) := by decide +kernel
theorem d_MO_hold_28 : decode b_MO_hold 28 = .ok (.iaload, 1) := by decide +kernel
theorem d_MO_hold_29 : decode b_MO_hold 29 = .ok (.iadd, 1) := by decide +kernel
theorem d_MO_hold_30 : decode b_MO_hold 30 = .ok (.istore_n 2, 1) := by decide +kernel
theorem d_MO_hold_31 : decode b_MO_hold 31 = .ok (.iload_n 2, 1) := by decide +kernel
theorem d_MO_hold_32 : decode b_MO_hold 32 = .ok (.aload_n 0, 1) := by decide +kernel
theorem d_MO_hold_33 : decode b_MO_hold 33 = .ok (.getfield 104, 3) := by decide +kernel
theorem d_MO_hold_36 : decode b_MO_hold 36 = .ok (.if_icmp .le 8, 3) := by decide +kernel
theorem d_MO_hold_39 : decode b_MO_hold 39 = .ok (.aload_n 0, 1) := by decide +kernel
theorem d_MO_hold_40 : decode b_MO_hold 40 = .ok (.iload_n 2, 1) := by decide +kernel
theorem d_MO_hold_41 : decode b_MO_hold 41 = .ok (.putfield 104, 3) := by decide +kernel
theorem d_MO_hold_44 : decode b_MO_hold 44 = .ok (.return_, 1) := by decide +kernel
theorem d_MO_begin_0 : decode b_MO_begin 0 = .ok (.aload_n 0, 1) := by decide +kernel
theorem d_MO_begin_1 : decode b_MO_begin 1 = .ok (.bipush 20, 2) := by decide +kernel
theorem d_MO_begin_3 : decode b_MO_begin 3 = .ok (.bipush 32, 2) := by decide +kernel
theorem d_MO_begin_5 : decode b_MO_begin 5 = .ok (.iload_n 1, 1) := by decide +kernel
theorem d_MO_begin_6 : decode b_MO_begin 6 = .ok (.imul, 1) := by decide +kernel
theorem d_MO_begin_7 : decode b_MO_begin 7 = .ok (.iconst 1, 1) := by decide +kernel
theorem d_MO_begin_8 : decode b_MO_begin 8 = .ok (.isub, 1) := by decide +kernel
theorem d_MO_begin_9 : decode b_MO_begin 9 = .ok (.iload_n 2, 1) := by decide +kernel
theorem d_MO_begin_10 : decode b_MO_begin 10 = .ok (.invokevirtual 107, 3) := by decide +kernel
theorem d_MO_begin_13 : decode b_MO_begin 13 = .ok (.iconst 0, 1) := by decide +kernel
theorem d_MO_begin_14 : decode b_MO_begin 14 = .ok (.istore_n 3, 1) := by decide +kernel
theorem d_MO_begin_15 : decode b_MO_begin 15 = .ok (.iload_n 3, 1) := by decide +kernel
theorem d_MO_begin_16 : decode b_MO_begin 16 = .ok (.iconst 3, 1) := by decide +kernel
theorem d_MO_begin_17 : decode b_MO_begin 17 = .ok (.if_icmp .ge 23, 3) := by decide +kernel
theorem d_MO_begin_20 : decode b_MO_begin 20 = .ok (.aload_n 0, 1) := by decide +kernel
theorem d_MO_begin_21 : decode b_MO_begin 21 = .ok (.getfield 35, 3) := by decide +kernel
theorem d_MO_begin_24 : decode b_MO_begin 24 = .ok (.iconst 3, 1) := by decide +kernel
theorem d_MO_begin_25 : decode b_MO_begin 25 = .ok (.aload_n 0, 1) := by decide +kernel
theorem d_MO_begin_26 : decode b_MO_begin 26 = .ok (.getfield 111, 3) := by decide +kernel
theorem d_MO_begin_29 : decode b_MO_begin 29 = .ok (.imul, 1) := by decide +kernel
theorem d_MO_begin_30 : decode b_MO_begin 30 = .ok (.iload_n 3, 1) := by decide +kernel
theorem d_MO_begin_31 : decode b_MO_begin 31 = .ok (.iadd, 1) := by decide +kernel
theorem d_MO_begin_32 : decode b_MO_begin 32 = .ok (.iconst 0, 1) := by decide +kernel
theorem d_MO_begin_33 : decode b_MO_begin 33 = .ok (.iastore, 1) := by decide +kernel
theorem d_MO_begin_34 : decode b_MO_begin 34 = .ok (.iinc 3 1, 3) := by decide +kernel
theorem d_MO_begin_37 : decode b_MO_begin 37 = .ok (.goto (-22), 3) := by decide +kernel
theorem d_MO_begin_40 : decode b_MO_begin 40 = .ok (.aload_n 0, 1) := by decide +kernel
theorem d_MO_begin_41 : decode b_MO_begin 41 = .ok (.dup, 1) := by decide +kernel
theorem d_MO_begin_42 : decode b_MO_begin 42 = .ok (.getfield 111, 3) := by decide +kernel
theorem d_MO_begin_45 : decode b_MO_begin 45 = .ok (.iconst 1, 1) := by decide +kernel
theorem d_MO_begin_46 : decode b_MO_begin 46 = .ok (.iadd, 1) := by decide +kernel
theorem d_MO_begin_47 : decode b_MO_begin 47 = .ok (.putfield 111, 3) := by decide +kernel
theorem d_MO_begin_50 : decode b_MO_begin 50 = .ok (.return_, 1) := by decide +kernel
theorem d_MO_caught_0 : decode b_MO_caught 0 = .ok (.aload_n 0, 1) := by decide +kernel
theorem d_MO_caught_1 : decode b_MO_caught 1 = .ok (.getfield 58, 3) := by decide +kernel
theorem d_MO_caught_4 : decode b_MO_caught 4 = .ok (.iconst 1, 1) := by decide +kernel
theorem d_MO_caught_5 : decode b_MO_caught 5 = .ok (.isub, 1) := by decide +kernel
theorem d_MO_caught_6 : decode b_MO_caught 6 = .ok (.istore_n 1, 1) := by decide +kernel
theorem d_MO_caught_7 : decode b_MO_caught 7 = .ok (.aload_n 0, 1) := by decide +kernel
theorem d_MO_caught_8 : decode b_MO_caught 8 = .ok (.getfield 23, 3) := by decide +kernel
theorem d_MO_caught_11 : decode b_MO_caught 11 = .ok (.iload_n 1, 1) := by decide +kernel
theorem d_MO_caught_12 : decode b_MO_caught 12 = .ok (.iaload, 1) := by decide +kernel
theorem d_MO_caught_13 : decode b_MO_caught 13 = .ok (.bipush 16, 2) := by decide +kernel
theorem d_MO_caught_15 : decode b_MO_caught 15 = .ok (.if_icmp .eq 9, 3) := by decide +kernel
theorem d_MO_caught_18 : decode b_MO_caught 18 = .ok (.iinc 1 (-1), 3) := by decide +kernel
theorem d_MO_caught_21 : decode b_MO_caught 21 = .ok (.goto (-14), 3) := by decide +kernel
theorem d_MO_caught_24 : decode b_MO_caught 24 = .ok (.aload_n 0, 1) := by decide +kernel
theorem d_MO_caught_25 : decode b_MO_caught 25 = .ok (.getfield 29, 3) := by decide +kernel
theorem d_MO_caught_28 : decode b_MO_caught 28 = .ok (.iload_n 1, 1) := by decide +kernel
theorem d_MO_caught_29 : decode b_MO_caught 29 = .ok (.iaload, 1) := by decide +kernel
theorem d_MO_caught_30 : decode b_MO_caught 30 = .ok (.ireturn, 1) := by decide +kernel
theorem d_MO_item_0 : decode b_MO_item 0 = .ok (.aload_n 0, 1) := by decide +kernel
theorem d_MO_item_1 : decode b_MO_item 1 = .ok (.getfield 86, 3) := by decide +kernel
theorem d_MO_item_4 : decode b_MO_item 4 = .ok (.istore_n 1, 1) := by decide +kernel
theorem d_MO_item_5 : decode b_MO_item 5 = .ok (.aload_n 0, 1) := by decide +kernel
theorem d_MO_item_6 : decode b_MO_item 6 = .ok (.getfield 13, 3) := by decide +kernel
theorem d_MO_item_9 : decode b_MO_item 9 = .ok (.iload_n 1, 1) := by decide +kernel
theorem d_MO_item_10 : decode b_MO_item 10 = .ok (.iaload, 1) := by decide +kernel
theorem d_MO_item_11 : decode b_MO_item 11 = .ok (.istore_n 2, 1) := by decide +kernel
theorem d_MO_item_12 : decode b_MO_item 12 = .ok (.aload_n 0, 1) := by decide +kernel
theorem d_MO_item_13 : decode b_MO_item 13 = .ok (.dup, 1) := by decide +kernel
theorem d_MO_item_14 : decode b_MO_item 14 = .ok (.getfield 114, 3) := by decide +kernel
theorem d_MO_item_17 : decode b_MO_item 17 = .ok (.iconst 1, 1) := by decide +kernel
theorem d_MO_item_18 : decode b_MO_item 18 = .ok (.iadd, 1) := by decide +kernel
theorem d_MO_item_19 : decode b_MO_item 19 = .ok (.putfield 114, 3) := by decide +kernel
theorem d_MO_item_22 : decode b_MO_item 22 = .ok (.aload_n 0, 1) := by decide +kernel
theorem d_MO_item_23 : decode b_MO_item 23 = .ok (.dup, 1) := by decide +kernel
theorem d_MO_item_24 : decode b_MO_item 24 = .ok (.getfield 86, 3) := by decide +kernel
theorem d_MO_item_27 : decode b_MO_item 27 = .ok (.iconst 1, 1) := by decide +kernel
theorem d_MO_item_28 : decode b_MO_item 28 = .ok (.iadd, 1) := by decide +kernel
theorem d_MO_item_29 : decode b_MO_item 29 = .ok (.putfield 86, 3) := by decide +kernel
theorem d_MO_item_32 : decode b_MO_item 32 = .ok (.aload_n 0, 1) := by decide +kernel
theorem d_MO_item_33 : decode b_MO_item 33 = .ok (.getfield 7, 3) := by decide +kernel
theorem d_MO_item_36 : decode b_MO_item 36 = .ok (.iload_n 1, 1) := by decide +kernel
theorem d_MO_item_37 : decode b_MO_item 37 = .ok (.iaload, 1) := by decide +kernel
theorem d_MO_item_38 : decode b_MO_item 38 = .ok (.tableswitch 333 0 14 #[74, 82, 95, 122, 150, 159, 168, 182, 191, 203, 214, 230, 257, 265, 300], 74) := by decide +kernel
theorem d_MO_item_112 : decode b_MO_item 112 = .ok (.aload_n 0, 1) := by decide +kernel
theorem d_MO_item_113 : decode b_MO_item 113 = .ok (.iload_n 2, 1) := by decide +kernel
theorem d_MO_item_114 : decode b_MO_item 114 = .ok (.invokevirtual 117, 3) := by decide +kernel
theorem d_MO_item_117 : decode b_MO_item 117 = .ok (.goto 272, 3) := by decide +kernel
theorem d_MO_item_120 : decode b_MO_item 120 = .ok (.aload_n 0, 1) := by decide +kernel
theorem d_MO_item_121 : decode b_MO_item 121 = .ok (.dup, 1) := by decide +kernel
theorem d_MO_item_122 : decode b_MO_item 122 = .ok (.getfield 121, 3) := by decide +kernel
theorem d_MO_item_125 : decode b_MO_item 125 = .ok (.iload_n 2, 1) := by decide +kernel
theorem d_MO_item_126 : decode b_MO_item 126 = .ok (.iadd, 1) := by decide +kernel
theorem d_MO_item_127 : decode b_MO_item 127 = .ok (.putfield 121, 3) := by decide +kernel
theorem d_MO_item_130 : decode b_MO_item 130 = .ok (.goto 259, 3) := by decide +kernel
theorem d_MO_item_133 : decode b_MO_item 133 = .ok (.iload_n 2, 1) := by decide +kernel
theorem d_MO_item_134 : decode b_MO_item 134 = .ok (.ifCond .ne 13, 3) := by decide +kernel
theorem d_MO_item_137 : decode b_MO_item 137 = .ok (.aload_n 0, 1) := by decide +kernel
theorem d_MO_item_138 : decode b_MO_item 138 = .ok (.bipush 6, 2) := by decide +kernel
theorem d_MO_item_140 : decode b_MO_item 140 = .ok (.iconst 0, 1) := by decide +kernel
theorem d_MO_item_141 : decode b_MO_item 141 = .ok (.invokevirtual 124, 3) := by decide +kernel
theorem d_MO_item_144 : decode b_MO_item 144 = .ok (.goto 245, 3) := by decide +kernel
theorem d_MO_item_147 : decode b_MO_item 147 = .ok (.aload_n 0, 1) := by decide +kernel
theorem d_MO_item_148 : decode b_MO_item 148 = .ok (.dup, 1) := by decide +kernel
theorem d_MO_item_149 : decode b_MO_item 149 = .ok (.getfield 121, 3) := by decide +kernel
theorem d_MO_item_152 : decode b_MO_item 152 = .ok (.iload_n 2, 1) := by decide +kernel
theorem d_MO_item_153 : decode b_MO_item 153 = .ok (.idiv, 1) := by decide +kernel
theorem d_MO_item_154 : decode b_MO_item 154 = .ok (.putfield 121, 3) := by decide +kernel
theorem d_MO_item_157 : decode b_MO_item 157 = .ok (.goto 232, 3) := by decide +kernel
theorem d_MO_item_160 : decode b_MO_item 160 = .ok (.iload_n 2, 1) := by decide +kernel
theorem d_MO_item_161 : decode b_MO_item 161 = .ok (.ifCond .ne 17, 3) := by decide +kernel
theorem d_MO_item_164 : decode b_MO_item 164 = .ok (.aload_n 0, 1) := by decide +kernel
theorem d_MO_item_165 : decode b_MO_item 165 = .ok (.aload_n 0, 1) := by decide +kernel
theorem d_MO_item_166 : decode b_MO_item 166 = .ok (.iload_n 1, 1) := by decide +kernel
theorem d_MO_item_167 : decode b_MO_item 167 = .ok (.iconst 1, 1) := by decide +kernel
theorem d_MO_item_168 : decode b_MO_item 168 = .ok (.iadd, 1) := by decide +kernel
theorem d_MO_item_169 : decode b_MO_item 169 = .ok (.invokevirtual 79, 3) := by decide +kernel
theorem d_MO_item_172 : decode b_MO_item 172 = .ok (.putfield 86, 3) := by decide +kernel
theorem d_MO_item_175 : decode b_MO_item 175 = .ok (.goto 214, 3) := by decide +kernel
theorem d_MO_item_178 : decode b_MO_item 178 = .ok (.aload_n 0, 1) := by decide +kernel
theorem d_MO_item_179 : decode b_MO_item 179 = .ok (.iconst 3, 1) := by decide +kernel
theorem d_MO_item_180 : decode b_MO_item 180 = .ok (.iload_n 1, 1) := by decide +kernel
theorem d_MO_item_181 : decode b_MO_item 181 = .ok (.iload_n 2, 1) := by decide +kernel
theorem d_MO_item_182 : decode b_MO_item 182 = .ok (.invokevirtual 107, 3) := by decide +kernel
theorem d_MO_item_185 : decode b_MO_item 185 = .ok (.goto 204, 3) := by decide +kernel
theorem d_MO_item_188 : decode b_MO_item 188 = .ok (.aload_n 0, 1) := by decide +kernel
theorem d_MO_item_189 : decode b_MO_item 189 = .ok (.iconst 1, 1) := by decide +kernel
theorem d_MO_item_190 : decode b_MO_item 190 = .ok (.iconst 0, 1) := by decide +kernel
theorem d_MO_item_191 : decode b_MO_item 191 = .ok (.invokevirtual 101, 3) := by decide +kernel
theorem d_MO_item_194 : decode b_MO_item 194 = .ok (.goto 195, 3) := by decide +kernel
theorem d_MO_item_197 : decode b_MO_item 197 = .ok (.aload_n 0, 1) := by decide +kernel
theorem d_MO_item_198 : decode b_MO_item 198 = .ok (.iconst 2, 1) := by decide +kernel
theorem d_MO_item_199 : decode b_MO_item 199 = .ok (.iconst 0, 1) := by decide +kernel
theorem d_MO_item_200 : decode b_MO_item 200 = .ok (.invokevirtual 101, 3) := by decide +kernel
theorem d_MO_item_203 : decode b_MO_item 203 = .ok (.goto 186, 3) := by decide +kernel
theorem d_MO_item_206 : decode b_MO_item 206 = .ok (.aload_n 0, 1) := by decide +kernel
theorem d_MO_item_207 : decode b_MO_item 207 = .ok (.iconst 3, 1) := by decide +kernel
theorem d_MO_item_208 : decode b_MO_item 208 = .ok (.aload_n 0, 1) := by decide +kernel
theorem d_MO_item_209 : decode b_MO_item 209 = .ok (.getfield 121, 3) := by decide +kernel
theorem d_MO_item_212 : decode b_MO_item 212 = .ok (.iload_n 2, 1) := by decide +kernel
theorem d_MO_item_213 : decode b_MO_item 213 = .ok (.iadd, 1) := by decide +kernel
theorem d_MO_item_214 : decode b_MO_item 214 = .ok (.invokevirtual 101, 3) := by decide +kernel
theorem d_MO_item_217 : decode b_MO_item 217 = .ok (.goto 172, 3) := by decide +kernel
theorem d_MO_item_220 : decode b_MO_item 220 = .ok (.aload_n 0, 1) := by decide +kernel
theorem d_MO_item_221 : decode b_MO_item 221 = .ok (.iload_n 2, 1) := by decide +kernel
theorem d_MO_item_222 : decode b_MO_item 222 = .ok (.iconst 0, 1) := by decide +kernel
theorem d_MO_item_223 : decode b_MO_item 223 = .ok (.invokevirtual 124, 3) := by decide +kernel
theorem d_MO_item_226 : decode b_MO_item 226 = .ok (.goto 163, 3) := by decide +kernel
theorem d_MO_item_229 : decode b_MO_item 229 = .ok (.aload_n 0, 1) := by decide +kernel
theorem d_MO_item_230 : decode b_MO_item 230 = .ok (.iload_n 2, 1) := by decide +kernel
theorem d_MO_item_231 : decode b_MO_item 231 = .ok (.aload_n 0, 1) := by decide +kernel
theorem d_MO_item_232 : decode b_MO_item 232 = .ok (.invokevirtual 127, 3) := by decide +kernel
theorem d_MO_item_235 : decode b_MO_item 235 = .ok (.invokevirtual 124, 3) := by decide +kernel
theorem d_MO_item_238 : decode b_MO_item 238 = .ok (.goto 151, 3) := by decide +kernel
theorem d_MO_item_241 : decode b_MO_item 241 = .ok (.aload_n 0, 1) := by decide +kernel
theorem d_MO_item_242 : decode b_MO_item 242 = .ok (.bipush 9, 2) := by decide +kernel
theorem d_MO_item_244 : decode b_MO_item 244 = .ok (.iload_n 1, 1) := by decide +kernel
theorem d_MO_item_245 : decode b_MO_item 245 = .ok (.iconst 0, 1) := by decide +kernel
theorem d_MO_item_246 : decode b_MO_item 246 = .ok (.invokevirtual 107, 3) := by decide +kernel
theorem d_MO_item_249 : decode b_MO_item 249 = .ok (.goto 140, 3) := by decide +kernel
theorem d_MO_item_252 : decode b_MO_item 252 = .ok (.aload_n 0, 1) := by decide +kernel
theorem d_MO_item_253 : decode b_MO_item 253 = .ok (.iload_n 2, 1) := by decide +kernel
theorem d_MO_item_254 : decode b_MO_item 254 = .ok (.invokevirtual 131, 3) := by decide +kernel
theorem d_MO_item_257 : decode b_MO_item 257 = .ok (.aload_n 0, 1) := by decide +kernel
theorem d_MO_item_258 : decode b_MO_item 258 = .ok (.bipush 10, 2) := by decide +kernel
theorem d_MO_item_260 : decode b_MO_item 260 = .ok (.iload_n 1, 1) := by decide +kernel
theorem d_MO_item_261 : decode b_MO_item 261 = .ok (.iload_n 2, 1) := by decide +kernel
theorem d_MO_item_262 : decode b_MO_item 262 = .ok (.invokevirtual 107, 3) := by decide +kernel
theorem d_MO_item_265 : decode b_MO_item 265 = .ok (.goto 124, 3) := by decide +kernel
theorem d_MO_item_268 : decode b_MO_item 268 = .ok (.aload_n 0, 1) := by decide +kernel
theorem d_MO_item_269 : decode b_MO_item 269 = .ok (.iload_n 2, 1) := by decide +kernel
theorem d_MO_item_270 : decode b_MO_item 270 = .ok (.invokevirtual 131, 3) := by decide +kernel
theorem d_MO_item_273 : decode b_MO_item 273 = .ok (.aload_n 0, 1) := by decide +kernel
theorem d_MO_item_274 : decode b_MO_item 274 = .ok (.getfield 35, 3) := by decide +kernel
theorem d_MO_item_277 : decode b_MO_item 277 = .ok (.iconst 3, 1) := by decide +kernel
theorem d_MO_item_278 : decode b_MO_item 278 = .ok (.aload_n 0, 1) := by decide +kernel
theorem d_MO_item_279 : decode b_MO_item 279 = .ok (.getfield 111, 3) := by decide +kernel
theorem d_MO_item_282 : decode b_MO_item 282 = .ok (.imul, 1) := by decide +kernel
theorem d_MO_item_283 : decode b_MO_item 283 = .ok (.iconst 3, 1) := by decide +kernel
theorem d_MO_item_284 : decode b_MO_item 284 = .ok (.isub, 1) := by decide +kernel
theorem d_MO_item_285 : decode b_MO_item 285 = .ok (.iload_n 2, 1) := by decide +kernel
theorem d_MO_item_286 : decode b_MO_item 286 = .ok (.iadd, 1) := by decide +kernel
theorem d_MO_item_287 : decode b_MO_item 287 = .ok (.dup2, 1) := by decide +kernel
theorem d_MO_item_288 : decode b_MO_item 288 = .ok (.iaload, 1) := by decide +kernel
theorem d_MO_item_289 : decode b_MO_item 289 = .ok (.iconst 1, 1) := by decide +kernel
theorem d_MO_item_290 : decode b_MO_item 290 = .ok (.iadd, 1) := by decide +kernel
theorem d_MO_item_291 : decode b_MO_item 291 = .ok (.iastore, 1) := by decide +kernel
theorem d_MO_item_292 : decode b_MO_item 292 = .ok (.goto 97, 3) := by decide +kernel
theorem d_MO_item_295 : decode b_MO_item 295 = .ok (.aload_n 0, 1) := by decide +kernel
theorem d_MO_item_296 : decode b_MO_item 296 = .ok (.iload_n 2, 1) := by decide +kernel
theorem d_MO_item_297 : decode b_MO_item 297 = .ok (.invokevirtual 134, 3) := by decide +kernel
theorem d_MO_item_300 : decode b_MO_item 300 = .ok (.goto 89, 3) := by decide +kernel
theorem d_MO_item_303 : decode b_MO_item 303 = .ok (.aload_n 0, 1) := by decide +kernel
theorem d_MO_item_304 : decode b_MO_item 304 = .ok (.getfield 111, 3) := by decide +kernel
theorem d_MO_item_307 : decode b_MO_item 307 = .ok (.bipush 6, 2) := by decide +kernel
theorem d_MO_item_309 : decode b_MO_item 309 = .ok (.if_icmp .ne 12, 3) := by decide +kernel
theorem d_MO_item_312 : decode b_MO_item 312 = .ok (.aload_n 0, 1) := by decide +kernel
theorem d_MO_item_313 : decode b_MO_item 313 = .ok (.iconst 5, 1) := by decide +kernel
theorem d_MO_item_314 : decode b_MO_item 314 = .ok (.iconst 0, 1) := by decide +kernel
theorem d_MO_item_315 : decode b_MO_item 315 = .ok (.invokevirtual 124, 3) := by decide +kernel
theorem d_MO_item_318 : decode b_MO_item 318 = .ok (.goto 71, 3) := by decide +kernel
theorem d_MO_item_321 : decode b_MO_item 321 = .ok (.aload_n 0, 1) := by decide +kernel
theorem d_MO_item_322 : decode b_MO_item 322 = .ok (.getfield 16, 3) := by decide +kernel
theorem d_MO_item_325 : decode b_MO_item 325 = .ok (.iload_n 2, 1) := by decide +kernel
theorem d_MO_item_326 : decode b_MO_item 326 = .ok (.iaload, 1) := by decide +kernel
theorem d_MO_item_327 : decode b_MO_item 327 = .ok (.ifCond .le 62, 3) := by decide +kernel
theorem d_MO_item_330 : decode b_MO_item 330 = .ok (.aload_n 0, 1) := by decide +kernel
theorem d_MO_item_331 : decode b_MO_item 331 = .ok (.iload_n 2, 1) := by decide +kernel
theorem d_MO_item_332 : decode b_MO_item 332 = .ok (.invokevirtual 137, 3) := by decide +kernel
theorem d_MO_item_335 : decode b_MO_item 335 = .ok (.goto 54, 3) := by decide +kernel
theorem d_MO_item_338 : decode b_MO_item 338 = .ok (.aload_n 0, 1) := by decide +kernel
theorem d_MO_item_339 : decode b_MO_item 339 = .ok (.getfield 121, 3) := by decide +kernel
theorem d_MO_item_342 : decode b_MO_item 342 = .ok (.iload_n 2, 1) := by decide +kernel
theorem d_MO_item_343 : decode b_MO_item 343 = .ok (.if_icmp .le 14, 3) := by decide +kernel
theorem d_MO_item_346 : decode b_MO_item 346 = .ok (.aload_n 0, 1) := by decide +kernel
theorem d_MO_item_347 : decode b_MO_item 347 = .ok (.bipush 14, 2) := by decide +kernel
theorem d_MO_item_349 : decode b_MO_item 349 = .ok (.iload_n 1, 1) := by decide +kernel
theorem d_MO_item_350 : decode b_MO_item 350 = .ok (.iconst 0, 1) := by decide +kernel
theorem d_MO_item_351 : decode b_MO_item 351 = .ok (.invokevirtual 107, 3) := by decide +kernel
theorem d_MO_item_354 : decode b_MO_item 354 = .ok (.goto 35, 3) := by decide +kernel
theorem d_MO_item_357 : decode b_MO_item 357 = .ok (.aload_n 0, 1) := by decide +kernel
theorem d_MO_item_358 : decode b_MO_item 358 = .ok (.aload_n 0, 1) := by decide +kernel
theorem d_MO_item_359 : decode b_MO_item 359 = .ok (.iload_n 1, 1) := by decide +kernel
theorem d_MO_item_360 : decode b_MO_item 360 = .ok (.iconst 1, 1) := by decide +kernel
theorem d_MO_item_361 : decode b_MO_item 361 = .ok (.iadd, 1) := by decide +kernel
theorem d_MO_item_362 : decode b_MO_item 362 = .ok (.invokevirtual 79, 3) := by decide +kernel
theorem d_MO_item_365 : decode b_MO_item 365 = .ok (.putfield 86, 3) := by decide +kernel
theorem d_MO_item_368 : decode b_MO_item 368 = .ok (.goto 21, 3) := by decide +kernel
theorem d_MO_item_371 : decode b_MO_item 371 = .ok (.aload_n 0, 1) := by decide +kernel
theorem d_MO_item_372 : decode b_MO_item 372 = .ok (.aload_n 0, 1) := by decide +kernel
theorem d_MO_item_373 : decode b_MO_item 373 = .ok (.getfield 38, 3) := by decide +kernel
theorem d_MO_item_376 : decode b_MO_item 376 = .ok (.iload_n 2, 1) := by decide +kernel
theorem d_MO_item_377 : decode b_MO_item 377 = .ok (.iaload, 1) := by decide +kernel
theorem d_MO_item_378 : decode b_MO_item 378 = .ok (.ifCond .le 7, 3) := by decide +kernel
theorem d_MO_item_381 : decode b_MO_item 381 = .ok (.iconst 1, 1) := by decide +kernel
theorem d_MO_item_382 : decode b_MO_item 382 = .ok (.goto 4, 3) := by decide +kernel
theorem d_MO_item_385 : decode b_MO_item 385 = .ok (.iconst 0, 1) := by decide +kernel
theorem d_MO_item_386 : decode b_MO_item 386 = .ok (.putfield 121, 3) := by decide +kernel
theorem d_MO_item_389 : decode b_MO_item 389 = .ok (.return_, 1) := by decide +kernel
theorem d_MO_call_0 : decode b_MO_call 0 = .ok (.aload_n 0, 1) := by decide +kernel
theorem d_MO_call_1 : decode b_MO_call 1 = .ok (.getfield 86, 3) := by decide +kernel
theorem d_MO_call_4 : decode b_MO_call 4 = .ok (.istore_n 2, 1) := by decide +kernel
theorem d_MO_call_5 : decode b_MO_call 5 = .ok (.aload_n 0, 1) := by decide +kernel
theorem d_MO_call_6 : decode b_MO_call 6 = .ok (.iload_n 1, 1) := by decide +kernel
theorem d_MO_call_7 : decode b_MO_call 7 = .ok (.aload_n 0, 1) := by decide +kernel
theorem d_MO_call_8 : decode b_MO_call 8 = .ok (.getfield 121, 3) := by decide +kernel
theorem d_MO_call_11 : decode b_MO_call 11 = .ok (.invokevirtual 140, 3) := by decide +kernel
theorem d_MO_call_14 : decode b_MO_call 14 = .ok (.aload_n 0, 1) := by decide +kernel
theorem d_MO_call_15 : decode b_MO_call 15 = .ok (.getfield 32, 3) := by decide +kernel
theorem d_MO_call_18 : decode b_MO_call 18 = .ok (.aload_n 0, 1) := by decide +kernel
theorem d_MO_call_19 : decode b_MO_call 19 = .ok (.getfield 58, 3) := by decide +kernel
theorem d_MO_call_22 : decode b_MO_call 22 = .ok (.iconst 1, 1) := by decide +kernel
theorem d_MO_call_23 : decode b_MO_call 23 = .ok (.isub, 1) := by decide +kernel
theorem d_MO_call_24 : decode b_MO_call 24 = .ok (.iload_n 2, 1) := by decide +kernel
theorem d_MO_call_25 : decode b_MO_call 25 = .ok (.iastore, 1) := by decide +kernel
theorem d_MO_call_26 : decode b_MO_call 26 = .ok (.return_, 1) := by decide +kernel
theorem d_MO_leave_0 : decode b_MO_leave 0 = .ok (.iconst 3, 1) := by decide +kernel
theorem d_MO_leave_1 : decode b_MO_leave 1 = .ok (.aload_n 0, 1) := by decide +kernel
theorem d_MO_leave_2 : decode b_MO_leave 2 = .ok (.getfield 111, 3) := by decide +kernel
theorem d_MO_leave_5 : decode b_MO_leave 5 = .ok (.imul, 1) := by decide +kernel
theorem d_MO_leave_6 : decode b_MO_leave 6 = .ok (.iconst 3, 1) := by decide +kernel
theorem d_MO_leave_7 : decode b_MO_leave 7 = .ok (.isub, 1) := by decide +kernel
theorem d_MO_leave_8 : decode b_MO_leave 8 = .ok (.iload_n 1, 1) := by decide +kernel
theorem d_MO_leave_9 : decode b_MO_leave 9 = .ok (.iadd, 1) := by decide +kernel
theorem d_MO_leave_10 : decode b_MO_leave 10 = .ok (.istore_n 2, 1) := by decide +kernel
theorem d_MO_leave_11 : decode b_MO_leave 11 = .ok (.aload_n 0, 1) := by decide +kernel
theorem d_MO_leave_12 : decode b_MO_leave 12 = .ok (.getfield 35, 3) := by decide +kernel
theorem d_MO_leave_15 : decode b_MO_leave 15 = .ok (.iload_n 2, 1) := by decide +kernel
theorem d_MO_leave_16 : decode b_MO_leave 16 = .ok (.iaload, 1) := by decide +kernel
theorem d_MO_leave_17 : decode b_MO_leave 17 = .ok (.ifCond .ne 10, 3) := by decide +kernel
theorem d_MO_leave_20 : decode b_MO_leave 20 = .ok (.aload_n 0, 1) := by decide +kernel
theorem d_MO_leave_21 : decode b_MO_leave 21 = .ok (.iconst 4, 1) := by decide +kernel
theorem d_MO_leave_22 : decode b_MO_leave 22 = .ok (.iconst 0, 1) := by decide +kernel
theorem d_MO_leave_23 : decode b_MO_leave 23 = .ok (.invokevirtual 124, 3) := by decide +kernel
theorem d_MO_leave_26 : decode b_MO_leave 26 = .ok (.return_, 1) := by decide +kernel
theorem d_MO_leave_27 : decode b_MO_leave 27 = .ok (.aload_n 0, 1) := by decide +kernel
theorem d_MO_leave_28 : decode b_MO_leave 28 = .ok (.getfield 35, 3) := by decide +kernel
theorem d_MO_leave_31 : decode b_MO_leave 31 = .ok (.iload_n 2, 1) := by decide +kernel
theorem d_MO_leave_32 : decode b_MO_leave 32 = .ok (.dup2, 1) := by decide +kernel
theorem d_MO_leave_33 : decode b_MO_leave 33 = .ok (.iaload, 1) := by decide +kernel
theorem d_MO_leave_34 : decode b_MO_leave 34 = .ok (.iconst 1, 1) := by decide +kernel
theorem d_MO_leave_35 : decode b_MO_leave 35 = .ok (.isub, 1) := by decide +kernel
theorem d_MO_leave_36 : decode b_MO_leave 36 = .ok (.iastore, 1) := by decide +kernel
theorem d_MO_leave_37 : decode b_MO_leave 37 = .ok (.aload_n 0, 1) := by decide +kernel
theorem d_MO_leave_38 : decode b_MO_leave 38 = .ok (.getfield 38, 3) := by decide +kernel
theorem d_MO_leave_41 : decode b_MO_leave 41 = .ok (.iload_n 1, 1) := by decide +kernel
theorem d_MO_leave_42 : decode b_MO_leave 42 = .ok (.dup2, 1) := by decide +kernel
theorem d_MO_leave_43 : decode b_MO_leave 43 = .ok (.iaload, 1) := by decide +kernel
theorem d_MO_leave_44 : decode b_MO_leave 44 = .ok (.iconst 1, 1) := by decide +kernel
theorem d_MO_leave_45 : decode b_MO_leave 45 = .ok (.isub, 1) := by decide +kernel
theorem d_MO_leave_46 : decode b_MO_leave 46 = .ok (.iastore, 1) := by decide +kernel
theorem d_MO_leave_47 : decode b_MO_leave 47 = .ok (.return_, 1) := by decide +kernel
theorem d_MO_note_0 : decode b_MO_note 0 = .ok (.bipush 31, 2) := by decide +kernel
theorem d_MO_note_2 : decode b_MO_note 2 = .ok (.istore_n 2, 1) := by decide +kernel
theorem d_MO_note_3 : decode b_MO_note 3 = .ok (.iload_n 2, 1) := by decide +kernel
theorem d_MO_note_4 : decode b_MO_note 4 = .ok (.ifCond .le 23, 3) := by decide +kernel
theorem d_MO_note_7 : decode b_MO_note 7 = .ok (.aload_n 0, 1) := by decide +kernel
theorem d_MO_note_8 : decode b_MO_note 8 = .ok (.getfield 47, 3) := by decide +kernel
theorem d_MO_note_11 : decode b_MO_note 11 = .ok (.iload_n 2, 1) := by decide +kernel
theorem d_MO_note_12 : decode b_MO_note 12 = .ok (.aload_n 0, 1) := by decide +kernel
theorem d_MO_note_13 : decode b_MO_note 13 = .ok (.getfield 47, 3) := by decide +kernel
theorem d_MO_note_16 : decode b_MO_note 16 = .ok (.iload_n 2, 1) := by decide +kernel
theorem d_MO_note_17 : decode b_MO_note 17 = .ok (.iconst 1, 1) := by decide +kernel
theorem d_MO_note_18 : decode b_MO_note 18 = .ok (.isub, 1) := by decide +kernel
theorem d_MO_note_19 : decode b_MO_note 19 = .ok (.iaload, 1) := by decide +kernel
theorem d_MO_note_20 : decode b_MO_note 20 = .ok (.iastore, 1) := by decide +kernel
theorem d_MO_note_21 : decode b_MO_note 21 = .ok (.iinc 2 (-1), 3) := by decide +kernel
theorem d_MO_note_24 : decode b_MO_note 24 = .ok (.goto (-21), 3) := by decide +kernel
theorem d_MO_note_27 : decode b_MO_note 27 = .ok (.aload_n 0, 1) := by decide +kernel
theorem d_MO_note_28 : decode b_MO_note 28 = .ok (.getfield 47, 3) := by decide +kernel
theorem d_MO_note_31 : decode b_MO_note 31 = .ok (.iconst 0, 1) := by decide +kernel
theorem d_MO_note_32 : decode b_MO_note 32 = .ok (.iload_n 1, 1) := by decide +kernel
theorem d_MO_note_33 : decode b_MO_note 33 = .ok (.iastore, 1) := by decide +kernel
theorem d_MO_note_34 : decode b_MO_note 34 = .ok (.aload_n 0, 1) := by decide +kernel
theorem d_MO_note_35 : decode b_MO_note 35 = .ok (.dup, 1) := by decide +kernel
theorem d_MO_note_36 : decode b_MO_note 36 = .ok (.getfield 143, 3) := by decide +kernel
theorem d_MO_note_39 : decode b_MO_note 39 = .ok (.iconst 1, 1) := by decide +kernel
theorem d_MO_note_40 : decode b_MO_note 40 = .ok (.iadd, 1) := by decide +kernel
theorem d_MO_note_41 : decode b_MO_note 41 = .ok (.putfield 143, 3) := by decide +kernel
theorem d_MO_note_44 : decode b_MO_note 44 = .ok (.return_, 1) := by decide +kernel
theorem d_MO_lastOf_0 : decode b_MO_lastOf 0 = .ok (.aload_n 0, 1) := by decide +kernel
theorem d_MO_lastOf_1 : decode b_MO_lastOf 1 = .ok (.getfield 13, 3) := by decide +kernel
theorem d_MO_lastOf_4 : decode b_MO_lastOf 4 = .ok (.iload_n 1, 1) := by decide +kernel
theorem d_MO_lastOf_5 : decode b_MO_lastOf 5 = .ok (.iaload, 1) := by decide +kernel
theorem d_MO_lastOf_6 : decode b_MO_lastOf 6 = .ok (.iconst 4, 1) := by decide +kernel
theorem d_MO_lastOf_7 : decode b_MO_lastOf 7 = .ok (.if_icmp .ge 20, 3) := by decide +kernel
theorem d_MO_lastOf_10 : decode b_MO_lastOf 10 = .ok (.aload_n 0, 1) := by decide +kernel
theorem d_MO_lastOf_11 : decode b_MO_lastOf 11 = .ok (.getfield 92, 3) := by decide +kernel
theorem d_MO_lastOf_14 : decode b_MO_lastOf 14 = .ok (.ifCond .ne 12, 3) := by decide +kernel
theorem d_MO_lastOf_17 : decode b_MO_lastOf 17 = .ok (.aload_n 0, 1) := by decide +kernel
theorem d_MO_lastOf_18 : decode b_MO_lastOf 18 = .ok (.aload_n 0, 1) := by decide +kernel
theorem d_MO_lastOf_19 : decode b_MO_lastOf 19 = .ok (.iload_n 1, 1) := by decide +kernel
theorem d_MO_lastOf_20 : decode b_MO_lastOf 20 = .ok (.invokevirtual 146, 3) := by decide +kernel
theorem d_MO_lastOf_23 : decode b_MO_lastOf 23 = .ok (.putfield 86, 3) := by decide +kernel
theorem d_MO_lastOf_26 : decode b_MO_lastOf 26 = .ok (.return_, 1) := by decide +kernel
theorem d_MO_lastOf_27 : decode b_MO_lastOf 27 = .ok (.aload_n 0, 1) := by decide +kernel
theorem d_MO_lastOf_28 : decode b_MO_lastOf 28 = .ok (.getfield 92, 3) := by decide +kernel
theorem d_MO_lastOf_31 : decode b_MO_lastOf 31 = .ok (.istore_n 2, 1) := by decide +kernel
theorem d_MO_lastOf_32 : decode b_MO_lastOf 32 = .ok (.aload_n 0, 1) := by decide +kernel
theorem d_MO_lastOf_33 : decode b_MO_lastOf 33 = .ok (.getfield 95, 3) := by decide +kernel
theorem d_MO_lastOf_36 : decode b_MO_lastOf 36 = .ok (.istore_n 3, 1) := by decide +kernel
theorem d_MO_lastOf_37 : decode b_MO_lastOf 37 = .ok (.aload_n 0, 1) := by decide +kernel
theorem d_MO_lastOf_38 : decode b_MO_lastOf 38 = .ok (.bipush 17, 2) := by decide +kernel
theorem d_MO_lastOf_40 : decode b_MO_lastOf 40 = .ok (.aload_n 0, 1) := by decide +kernel
theorem d_MO_lastOf_41 : decode b_MO_lastOf 41 = .ok (.iload_n 1, 1) := by decide +kernel
theorem d_MO_lastOf_42 : decode b_MO_lastOf 42 = .ok (.aload_n 0, 1) := by decide +kernel
theorem d_MO_lastOf_43 : decode b_MO_lastOf 43 = .ok (.getfield 13, 3) := by decide +kernel
theorem d_MO_lastOf_46 : decode b_MO_lastOf 46 = .ok (.iload_n 1, 1) := by decide +kernel
theorem d_MO_lastOf_47 : decode b_MO_lastOf 47 = .ok (.iaload, 1) := by decide +kernel
theorem d_MO_lastOf_48 : decode b_MO_lastOf 48 = .ok (.iconst 3, 1) := by decide +kernel
theorem d_MO_lastOf_49 : decode b_MO_lastOf 49 = .ok (.iand, 1) := by decide +kernel
theorem d_MO_lastOf_50 : decode b_MO_lastOf 50 = .ok (.invokevirtual 82, 3) := by decide +kernel
theorem d_MO_lastOf_53 : decode b_MO_lastOf 53 = .ok (.iload_n 3, 1) := by decide +kernel
theorem d_MO_lastOf_54 : decode b_MO_lastOf 54 = .ok (.invokevirtual 107, 3) := by decide +kernel
theorem d_MO_lastOf_57 : decode b_MO_lastOf 57 = .ok (.aload_n 0, 1) := by decide +kernel
theorem d_MO_lastOf_58 : decode b_MO_lastOf 58 = .ok (.getfield 32, 3) := by decide +kernel
theorem d_MO_lastOf_61 : decode b_MO_lastOf 61 = .ok (.aload_n 0, 1) := by decide +kernel
theorem d_MO_lastOf_62 : decode b_MO_lastOf 62 = .ok (.getfield 58, 3) := by decide +kernel
theorem d_MO_lastOf_65 : decode b_MO_lastOf 65 = .ok (.iconst 1, 1) := by decide +kernel
theorem d_MO_lastOf_66 : decode b_MO_lastOf 66 = .ok (.isub, 1) := by decide +kernel
theorem d_MO_lastOf_67 : decode b_MO_lastOf 67 = .ok (.iload_n 2, 1) := by decide +kernel
theorem d_MO_lastOf_68 : decode b_MO_lastOf 68 = .ok (.bipush 8, 2) := by decide +kernel
theorem d_MO_lastOf_70 : decode b_MO_lastOf 70 = .ok (.iload_n 1, 1) := by decide +kernel
theorem d_MO_lastOf_71 : decode b_MO_lastOf 71 = .ok (.imul, 1) := by decide +kernel
theorem d_MO_lastOf_72 : decode b_MO_lastOf 72 = .ok (.iadd, 1) := by decide +kernel
theorem d_MO_lastOf_73 : decode b_MO_lastOf 73 = .ok (.iastore, 1) := by decide +kernel
theorem d_MO_lastOf_74 : decode b_MO_lastOf 74 = .ok (.aload_n 0, 1) := by decide +kernel
theorem d_MO_lastOf_75 : decode b_MO_lastOf 75 = .ok (.iconst 0, 1) := by decide +kernel
theorem d_MO_lastOf_76 : decode b_MO_lastOf 76 = .ok (.putfield 92, 3) := by decide +kernel
theorem d_MO_lastOf_79 : decode b_MO_lastOf 79 = .ok (.return_, 1) := by decide +kernel
theorem d_MO_close_0 : decode b_MO_close 0 = .ok (.aload_n 0, 1) := by decide +kernel
theorem d_MO_close_1 : decode b_MO_close 1 = .ok (.dup, 1) := by decide +kernel
theorem d_MO_close_2 : decode b_MO_close 2 = .ok (.getfield 58, 3) := by decide +kernel
theorem d_MO_close_5 : decode b_MO_close 5 = .ok (.iconst 1, 1) := by decide +kernel
theorem d_MO_close_6 : decode b_MO_close 6 = .ok (.isub, 1) := by decide +kernel
theorem d_MO_close_7 : decode b_MO_close 7 = .ok (.putfield 58, 3) := by decide +kernel
theorem d_MO_close_10 : decode b_MO_close 10 = .ok (.aload_n 0, 1) := by decide +kernel
theorem d_MO_close_11 : decode b_MO_close 11 = .ok (.getfield 23, 3) := by decide +kernel
theorem d_MO_close_14 : decode b_MO_close 14 = .ok (.aload_n 0, 1) := by decide +kernel
theorem d_MO_close_15 : decode b_MO_close 15 = .ok (.getfield 58, 3) := by decide +kernel
theorem d_MO_close_18 : decode b_MO_close 18 = .ok (.iaload, 1) := by decide +kernel
theorem d_MO_close_19 : decode b_MO_close 19 = .ok (.istore_n 1, 1) := by decide +kernel
theorem d_MO_close_20 : decode b_MO_close 20 = .ok (.aload_n 0, 1) := by decide +kernel
theorem d_MO_close_21 : decode b_MO_close 21 = .ok (.getfield 26, 3) := by decide +kernel
theorem d_MO_close_24 : decode b_MO_close 24 = .ok (.aload_n 0, 1) := by decide +kernel
theorem d_MO_close_25 : decode b_MO_close 25 = .ok (.getfield 58, 3) := by decide +kernel
theorem d_MO_close_28 : decode b_MO_close 28 = .ok (.iaload, 1) := by decide +kernel
theorem d_MO_close_29 : decode b_MO_close 29 = .ok (.istore_n 2, 1) := by decide +kernel
theorem d_MO_close_30 : decode b_MO_close 30 = .ok (.aload_n 0, 1) := by decide +kernel
theorem d_MO_close_31 : decode b_MO_close 31 = .ok (.getfield 29, 3) := by decide +kernel
theorem d_MO_close_34 : decode b_MO_close 34 = .ok (.aload_n 0, 1) := by decide +kernel
theorem d_MO_close_35 : decode b_MO_close 35 = .ok (.getfield 58, 3) := by decide +kernel
theorem d_MO_close_38 : decode b_MO_close 38 = .ok (.iaload, 1) := by decide +kernel
theorem d_MO_close_39 : decode b_MO_close 39 = .ok (.istore_n 3, 1) := by decide +kernel
theorem d_MO_close_40 : decode b_MO_close 40 = .ok (.iload_n 1, 1) := by decide +kernel
theorem d_MO_close_41 : decode b_MO_close 41 = .ok (.iconst 3, 1) := by decide +kernel
theorem d_MO_close_42 : decode b_MO_close 42 = .ok (.if_icmp .ne 75, 3) := by decide +kernel
theorem d_MO_close_45 : decode b_MO_close 45 = .ok (.aload_n 0, 1) := by decide +kernel
theorem d_MO_close_46 : decode b_MO_close 46 = .ok (.getfield 92, 3) := by decide +kernel
theorem d_MO_close_49 : decode b_MO_close 49 = .ok (.ifCond .ne 8, 3) := by decide +kernel
theorem d_MO_close_52 : decode b_MO_close 52 = .ok (.iload_n 3, 1) := by decide +kernel
theorem d_MO_close_53 : decode b_MO_close 53 = .ok (.iconst 1, 1) := by decide +kernel
theorem d_MO_close_54 : decode b_MO_close 54 = .ok (.if_icmp .gt 16, 3) := by decide +kernel
theorem d_MO_close_57 : decode b_MO_close 57 = .ok (.aload_n 0, 1) := by decide +kernel
theorem d_MO_close_58 : decode b_MO_close 58 = .ok (.getfield 92, 3) := by decide +kernel
theorem d_MO_close_61 : decode b_MO_close 61 = .ok (.iconst 2, 1) := by decide +kernel
theorem d_MO_close_62 : decode b_MO_close 62 = .ok (.if_icmp .ne 20, 3) := by decide +kernel
theorem d_MO_close_65 : decode b_MO_close 65 = .ok (.iload_n 3, 1) := by decide +kernel
theorem d_MO_close_66 : decode b_MO_close 66 = .ok (.iconst 1, 1) := by decide +kernel
theorem d_MO_close_67 : decode b_MO_close 67 = .ok (.if_icmp .le 15, 3) := by decide +kernel
theorem d_MO_close_70 : decode b_MO_close 70 = .ok (.aload_n 0, 1) := by decide +kernel
theorem d_MO_close_71 : decode b_MO_close 71 = .ok (.iconst 3, 1) := by decide +kernel
theorem d_MO_close_72 : decode b_MO_close 72 = .ok (.iload_n 2, 1) := by decide +kernel
theorem d_MO_close_73 : decode b_MO_close 73 = .ok (.iload_n 3, 1) := by decide +kernel
theorem d_MO_close_74 : decode b_MO_close 74 = .ok (.iconst 1, 1) := by decide +kernel
theorem d_MO_close_75 : decode b_MO_close 75 = .ok (.isub, 1) := by decide +kernel
theorem d_MO_close_76 : decode b_MO_close 76 = .ok (.invokevirtual 107, 3) := by decide +kernel
theorem d_MO_close_79 : decode b_MO_close 79 = .ok (.goto 22, 3) := by decide +kernel
theorem d_MO_close_82 : decode b_MO_close 82 = .ok (.aload_n 0, 1) := by decide +kernel
theorem d_MO_close_83 : decode b_MO_close 83 = .ok (.getfield 92, 3) := by decide +kernel
theorem d_MO_close_86 : decode b_MO_close 86 = .ok (.iconst 2, 1) := by decide +kernel
theorem d_MO_close_87 : decode b_MO_close 87 = .ok (.if_icmp .gt 14, 3) := by decide +kernel
theorem d_MO_close_90 : decode b_MO_close 90 = .ok (.aload_n 0, 1) := by decide +kernel
theorem d_MO_close_91 : decode b_MO_close 91 = .ok (.aload_n 0, 1) := by decide +kernel
theorem d_MO_close_92 : decode b_MO_close 92 = .ok (.iload_n 2, 1) := by decide +kernel
theorem d_MO_close_93 : decode b_MO_close 93 = .ok (.iconst 1, 1) := by decide +kernel
theorem d_MO_close_94 : decode b_MO_close 94 = .ok (.iadd, 1) := by decide +kernel
theorem d_MO_close_95 : decode b_MO_close 95 = .ok (.invokevirtual 79, 3) := by decide +kernel
theorem d_MO_close_98 : decode b_MO_close 98 = .ok (.putfield 86, 3) := by decide +kernel
theorem d_MO_close_101 : decode b_MO_close 101 = .ok (.aload_n 0, 1) := by decide +kernel
theorem d_MO_close_102 : decode b_MO_close 102 = .ok (.getfield 92, 3) := by decide +kernel
theorem d_MO_close_105 : decode b_MO_close 105 = .ok (.iconst 2, 1) := by decide +kernel
theorem d_MO_close_106 : decode b_MO_close 106 = .ok (.if_icmp .gt 224, 3) := by decide +kernel
theorem d_MO_close_109 : decode b_MO_close 109 = .ok (.aload_n 0, 1) := by decide +kernel
theorem d_MO_close_110 : decode b_MO_close 110 = .ok (.iconst 0, 1) := by decide +kernel
theorem d_MO_close_111 : decode b_MO_close 111 = .ok (.putfield 92, 3) := by decide +kernel
theorem d_MO_close_114 : decode b_MO_close 114 = .ok (.goto 216, 3) := by decide +kernel
theorem d_MO_close_117 : decode b_MO_close 117 = .ok (.iload_n 1, 1) := by decide +kernel
theorem d_MO_close_118 : decode b_MO_close 118 = .ok (.bipush 10, 2) := by decide +kernel
theorem d_MO_close_120 : decode b_MO_close 120 = .ok (.if_icmp .ne 34, 3) := by decide +kernel
theorem d_MO_close_123 : decode b_MO_close 123 = .ok (.aload_n 0, 1) := by decide +kernel
theorem d_MO_close_124 : decode b_MO_close 124 = .ok (.getfield 38, 3) := by decide +kernel
theorem d_MO_close_127 : decode b_MO_close 127 = .ok (.iload_n 3, 1) := by decide +kernel
theorem d_MO_close_128 : decode b_MO_close 128 = .ok (.dup2, 1) := by decide +kernel
theorem d_MO_close_129 : decode b_MO_close 129 = .ok (.iaload, 1) := by decide +kernel
theorem d_MO_close_130 : decode b_MO_close 130 = .ok (.iconst 1, 1) := by decide +kernel
theorem d_MO_close_131 : decode b_MO_close 131 = .ok (.isub, 1) := by decide +kernel
theorem d_MO_close_132 : decode b_MO_close 132 = .ok (.iastore, 1) := by decide +kernel
theorem d_MO_close_133 : decode b_MO_close 133 = .ok (.aload_n 0, 1) := by decide +kernel
theorem d_MO_close_134 : decode b_MO_close 134 = .ok (.getfield 92, 3) := by decide +kernel
theorem d_MO_close_137 : decode b_MO_close 137 = .ok (.ifCond .ne 193, 3) := by decide +kernel
theorem d_MO_close_140 : decode b_MO_close 140 = .ok (.aload_n 0, 1) := by decide +kernel
theorem d_MO_close_141 : decode b_MO_close 141 = .ok (.aload_n 0, 1) := by decide +kernel
theorem d_MO_close_142 : decode b_MO_close 142 = .ok (.iload_n 2, 1) := by decide +kernel
theorem d_MO_close_143 : decode b_MO_close 143 = .ok (.iconst 1, 1) := by decide +kernel
theorem d_MO_close_144 : decode b_MO_close 144 = .ok (.iadd, 1) := by decide +kernel
theorem d_MO_close_145 : decode b_MO_close 145 = .ok (.invokevirtual 79, 3) := by decide +kernel
theorem d_MO_close_148 : decode b_MO_close 148 = .ok (.putfield 86, 3) := by decide +kernel
theorem d_MO_close_151 : decode b_MO_close 151 = .ok (.goto 179, 3) := by decide +kernel
theorem d_MO_close_154 : decode b_MO_close 154 = .ok (.iload_n 1, 1) := by decide +kernel
theorem d_MO_close_155 : decode b_MO_close 155 = .ok (.bipush 14, 2) := by decide +kernel
theorem d_MO_close_157 : decode b_MO_close 157 = .ok (.if_icmp .ne 24, 3) := by decide +kernel
theorem d_MO_close_160 : decode b_MO_close 160 = .ok (.aload_n 0, 1) := by decide +kernel
theorem d_MO_close_161 : decode b_MO_close 161 = .ok (.getfield 92, 3) := by decide +kernel
theorem d_MO_close_164 : decode b_MO_close 164 = .ok (.ifCond .ne 166, 3) := by decide +kernel
theorem d_MO_close_167 : decode b_MO_close 167 = .ok (.aload_n 0, 1) := by decide +kernel
theorem d_MO_close_168 : decode b_MO_close 168 = .ok (.aload_n 0, 1) := by decide +kernel
theorem d_MO_close_169 : decode b_MO_close 169 = .ok (.iload_n 2, 1) := by decide +kernel
theorem d_MO_close_170 : decode b_MO_close 170 = .ok (.iconst 1, 1) := by decide +kernel
theorem d_MO_close_171 : decode b_MO_close 171 = .ok (.iadd, 1) := by decide +kernel
theorem d_MO_close_172 : decode b_MO_close 172 = .ok (.invokevirtual 79, 3) := by decide +kernel
theorem d_MO_close_175 : decode b_MO_close 175 = .ok (.putfield 86, 3) := by decide +kernel
theorem d_MO_close_178 : decode b_MO_close 178 = .ok (.goto 152, 3) := by decide +kernel
theorem d_MO_close_181 : decode b_MO_close 181 = .ok (.iload_n 1, 1) := by decide +kernel
theorem d_MO_close_182 : decode b_MO_close 182 = .ok (.bipush 9, 2) := by decide +kernel
theorem d_MO_close_184 : decode b_MO_close 184 = .ok (.if_icmp .ne 72, 3) := by decide +kernel
theorem d_MO_close_187 : decode b_MO_close 187 = .ok (.aload_n 0, 1) := by decide +kernel
theorem d_MO_close_188 : decode b_MO_close 188 = .ok (.getfield 92, 3) := by decide +kernel
theorem d_MO_close_191 : decode b_MO_close 191 = .ok (.iconst 4, 1) := by decide +kernel
theorem d_MO_close_192 : decode b_MO_close 192 = .ok (.if_icmp .ne 11, 3) := by decide +kernel
theorem d_MO_close_195 : decode b_MO_close 195 = .ok (.aload_n 0, 1) := by decide +kernel
theorem d_MO_close_196 : decode b_MO_close 196 = .ok (.iload_n 2, 1) := by decide +kernel
theorem d_MO_close_197 : decode b_MO_close 197 = .ok (.invokevirtual 149, 3) := by decide +kernel
theorem d_MO_close_200 : decode b_MO_close 200 = .ok (.goto 4, 3) := by decide +kernel
theorem d_MO_close_203 : decode b_MO_close 203 = .ok (.iconst (-1), 1) := by decide +kernel
theorem d_MO_close_204 : decode b_MO_close 204 = .ok (.istore 4, 2) := by decide +kernel
theorem d_MO_close_206 : decode b_MO_close 206 = .ok (.iload 4, 2) := by decide +kernel
theorem d_MO_close_208 : decode b_MO_close 208 = .ok (.ifCond .ge 11, 3) := by decide +kernel
theorem d_MO_close_211 : decode b_MO_close 211 = .ok (.aload_n 0, 1) := by decide +kernel
theorem d_MO_close_212 : decode b_MO_close 212 = .ok (.iload_n 2, 1) := by decide +kernel
theorem d_MO_close_213 : decode b_MO_close 213 = .ok (.invokevirtual 152, 3) := by decide +kernel
theorem d_MO_close_216 : decode b_MO_close 216 = .ok (.goto 37, 3) := by decide +kernel
theorem d_MO_close_219 : decode b_MO_close 219 = .ok (.aload_n 0, 1) := by decide +kernel
theorem d_MO_close_220 : decode b_MO_close 220 = .ok (.iconst 0, 1) := by decide +kernel
theorem d_MO_close_221 : decode b_MO_close 221 = .ok (.putfield 92, 3) := by decide +kernel
theorem d_MO_close_224 : decode b_MO_close 224 = .ok (.aload_n 0, 1) := by decide +kernel
theorem d_MO_close_225 : decode b_MO_close 225 = .ok (.bipush 16, 2) := by decide +kernel
theorem d_MO_close_227 : decode b_MO_close 227 = .ok (.aload_n 0, 1) := by decide +kernel
theorem d_MO_close_228 : decode b_MO_close 228 = .ok (.iload_n 2, 1) := by decide +kernel
theorem d_MO_close_229 : decode b_MO_close 229 = .ok (.iload 4, 2) := by decide +kernel
theorem d_MO_close_231 : decode b_MO_close 231 = .ok (.invokevirtual 82, 3) := by decide +kernel
theorem d_MO_close_234 : decode b_MO_close 234 = .ok (.aload_n 0, 1) := by decide +kernel
theorem d_MO_close_235 : decode b_MO_close 235 = .ok (.getfield 95, 3) := by decide +kernel
theorem d_MO_close_238 : decode b_MO_close 238 = .ok (.invokevirtual 107, 3) := by decide +kernel
theorem d_MO_close_241 : decode b_MO_close 241 = .ok (.aload_n 0, 1) := by decide +kernel
theorem d_MO_close_242 : decode b_MO_close 242 = .ok (.getfield 32, 3) := by decide +kernel
theorem d_MO_close_245 : decode b_MO_close 245 = .ok (.aload_n 0, 1) := by decide +kernel
theorem d_MO_close_246 : decode b_MO_close 246 = .ok (.getfield 58, 3) := by decide +kernel
theorem d_MO_close_249 : decode b_MO_close 249 = .ok (.iconst 1, 1) := by decide +kernel
theorem d_MO_close_250 : decode b_MO_close 250 = .ok (.isub, 1) := by decide +kernel
theorem d_MO_close_251 : decode b_MO_close 251 = .ok (.iload_n 2, 1) := by decide +kernel
theorem d_MO_close_252 : decode b_MO_close 252 = .ok (.iastore, 1) := by decide +kernel
theorem d_MO_close_253 : decode b_MO_close 253 = .ok (.goto 77, 3) := by decide +kernel
theorem d_MO_close_256 : decode b_MO_close 256 = .ok (.iload_n 1, 1) := by decide +kernel
theorem d_MO_close_257 : decode b_MO_close 257 = .ok (.bipush 16, 2) := by decide +kernel
theorem d_MO_close_259 : decode b_MO_close 259 = .ok (.if_icmp .ne 19, 3) := by decide +kernel
theorem d_MO_close_262 : decode b_MO_close 262 = .ok (.aload_n 0, 1) := by decide +kernel
theorem d_MO_close_263 : decode b_MO_close 263 = .ok (.aload_n 0, 1) := by decide +kernel
theorem d_MO_close_264 : decode b_MO_close 264 = .ok (.getfield 32, 3) := by decide +kernel
theorem d_MO_close_267 : decode b_MO_close 267 = .ok (.aload_n 0, 1) := by decide +kernel
theorem d_MO_close_268 : decode b_MO_close 268 = .ok (.getfield 58, 3) := by decide +kernel
theorem d_MO_close_271 : decode b_MO_close 271 = .ok (.iaload, 1) := by decide +kernel
theorem d_MO_close_272 : decode b_MO_close 272 = .ok (.invokevirtual 152, 3) := by decide +kernel
theorem d_MO_close_275 : decode b_MO_close 275 = .ok (.goto 55, 3) := by decide +kernel
theorem d_MO_close_278 : decode b_MO_close 278 = .ok (.iload_n 1, 1) := by decide +kernel
theorem d_MO_close_279 : decode b_MO_close 279 = .ok (.bipush 17, 2) := by decide +kernel
theorem d_MO_close_281 : decode b_MO_close 281 = .ok (.if_icmp .ne 35, 3) := by decide +kernel
theorem d_MO_close_284 : decode b_MO_close 284 = .ok (.aload_n 0, 1) := by decide +kernel
theorem d_MO_close_285 : decode b_MO_close 285 = .ok (.aload_n 0, 1) := by decide +kernel
theorem d_MO_close_286 : decode b_MO_close 286 = .ok (.getfield 32, 3) := by decide +kernel
theorem d_MO_close_289 : decode b_MO_close 289 = .ok (.aload_n 0, 1) := by decide +kernel
theorem d_MO_close_290 : decode b_MO_close 290 = .ok (.getfield 58, 3) := by decide +kernel
theorem d_MO_close_293 : decode b_MO_close 293 = .ok (.iaload, 1) := by decide +kernel
theorem d_MO_close_294 : decode b_MO_close 294 = .ok (.bipush 8, 2) := by decide +kernel
theorem d_MO_close_296 : decode b_MO_close 296 = .ok (.idiv, 1) := by decide +kernel
theorem d_MO_close_297 : decode b_MO_close 297 = .ok (.aload_n 0, 1) := by decide +kernel
theorem d_MO_close_298 : decode b_MO_close 298 = .ok (.getfield 32, 3) := by decide +kernel
theorem d_MO_close_301 : decode b_MO_close 301 = .ok (.aload_n 0, 1) := by decide +kernel
theorem d_MO_close_302 : decode b_MO_close 302 = .ok (.getfield 58, 3) := by decide +kernel
theorem d_MO_close_305 : decode b_MO_close 305 = .ok (.iaload, 1) := by decide +kernel
theorem d_MO_close_306 : decode b_MO_close 306 = .ok (.bipush 8, 2) := by decide +kernel
theorem d_MO_close_308 : decode b_MO_close 308 = .ok (.irem, 1) := by decide +kernel
theorem d_MO_close_309 : decode b_MO_close 309 = .ok (.iload_n 3, 1) := by decide +kernel
theorem d_MO_close_310 : decode b_MO_close 310 = .ok (.invokevirtual 155, 3) := by decide +kernel
theorem d_MO_close_313 : decode b_MO_close 313 = .ok (.goto 17, 3) := by decide +kernel
theorem d_MO_close_316 : decode b_MO_close 316 = .ok (.aload_n 0, 1) := by decide +kernel
theorem d_MO_close_317 : decode b_MO_close 317 = .ok (.aload_n 0, 1) := by decide +kernel
theorem d_MO_close_318 : decode b_MO_close 318 = .ok (.getfield 32, 3) := by decide +kernel
theorem d_MO_close_321 : decode b_MO_close 321 = .ok (.aload_n 0, 1) := by decide +kernel
theorem d_MO_close_322 : decode b_MO_close 322 = .ok (.getfield 58, 3) := by decide +kernel
theorem d_MO_close_325 : decode b_MO_close 325 = .ok (.iaload, 1) := by decide +kernel
theorem d_MO_close_326 : decode b_MO_close 326 = .ok (.iload_n 3, 1) := by decide +kernel
theorem d_MO_close_327 : decode b_MO_close 327 = .ok (.invokevirtual 158, 3) := by decide +kernel
theorem d_MO_close_330 : decode b_MO_close 330 = .ok (.return_, 1) := by decide +kernel
theorem d_MO_catcher_0 : decode b_MO_catcher 0 = .ok (.iconst 0, 1) := by decide +kernel
theorem d_MO_catcher_1 : decode b_MO_catcher 1 = .ok (.istore_n 2, 1) := by decide +kernel
theorem d_MO_catcher_2 : decode b_MO_catcher 2 = .ok (.iload_n 2, 1) := by decide +kernel
theorem d_MO_catcher_3 : decode b_MO_catcher 3 = .ok (.aload_n 0, 1) := by decide +kernel
theorem d_MO_catcher_4 : decode b_MO_catcher 4 = .ok (.getfield 13, 3) := by decide +kernel
theorem d_MO_catcher_7 : decode b_MO_catcher 7 = .ok (.iload_n 1, 1) := by decide +kernel
theorem d_MO_catcher_8 : decode b_MO_catcher 8 = .ok (.iaload, 1) := by decide +kernel
theorem d_MO_catcher_9 : decode b_MO_catcher 9 = .ok (.iconst 3, 1) := by decide +kernel
theorem d_MO_catcher_10 : decode b_MO_catcher 10 = .ok (.iand, 1) := by decide +kernel
theorem d_MO_catcher_11 : decode b_MO_catcher 11 = .ok (.if_icmp .ge 37, 3) := by decide +kernel
theorem d_MO_catcher_14 : decode b_MO_catcher 14 = .ok (.aload_n 0, 1) := by decide +kernel
theorem d_MO_catcher_15 : decode b_MO_catcher 15 = .ok (.getfield 41, 3) := by decide +kernel
theorem d_MO_catcher_18 : decode b_MO_catcher 18 = .ok (.aload_n 0, 1) := by decide +kernel
theorem d_MO_catcher_19 : decode b_MO_catcher 19 = .ok (.getfield 95, 3) := by decide +kernel
theorem d_MO_catcher_22 : decode b_MO_catcher 22 = .ok (.iaload, 1) := by decide +kernel
theorem d_MO_catcher_23 : decode b_MO_catcher 23 = .ok (.aload_n 0, 1) := by decide +kernel
theorem d_MO_catcher_24 : decode b_MO_catcher 24 = .ok (.getfield 13, 3) := by decide +kernel
theorem d_MO_catcher_27 : decode b_MO_catcher 27 = .ok (.aload_n 0, 1) := by decide +kernel
theorem d_MO_catcher_28 : decode b_MO_catcher 28 = .ok (.iload_n 1, 1) := by decide +kernel
theorem d_MO_catcher_29 : decode b_MO_catcher 29 = .ok (.iload_n 2, 1) := by decide +kernel
theorem d_MO_catcher_30 : decode b_MO_catcher 30 = .ok (.invokevirtual 82, 3) := by decide +kernel
theorem d_MO_catcher_33 : decode b_MO_catcher 33 = .ok (.iaload, 1) := by decide +kernel
theorem d_MO_catcher_34 : decode b_MO_catcher 34 = .ok (.invokestatic 161, 3) := by decide +kernel
theorem d_MO_catcher_37 : decode b_MO_catcher 37 = .ok (.ifCond .eq 5, 3) := by decide +kernel
theorem d_MO_catcher_40 : decode b_MO_catcher 40 = .ok (.iload_n 2, 1) := by decide +kernel
theorem d_MO_catcher_41 : decode b_MO_catcher 41 = .ok (.ireturn, 1) := by decide +kernel
theorem d_MO_catcher_42 : decode b_MO_catcher 42 = .ok (.iinc 2 1, 3) := by decide +kernel
theorem d_MO_catcher_45 : decode b_MO_catcher 45 = .ok (.goto (-43), 3) := by decide +kernel
theorem d_MO_catcher_48 : decode b_MO_catcher 48 = .ok (.iconst (-1), 1) := by decide +kernel
theorem d_MO_catcher_49 : decode b_MO_catcher 49 = .ok (.ireturn, 1) := by decide +kernel
theorem d_MO_closeLast_0 : decode b_MO_closeLast 0 = .ok (.aload_n 0, 1) := by decide +kernel
theorem d_MO_closeLast_1 : decode b_MO_closeLast 1 = .ok (.getfield 92, 3) := by decide +kernel
theorem d_MO_closeLast_4 : decode b_MO_closeLast 4 = .ok (.ifCond .eq 4, 3) := by decide +kernel
theorem d_MO_closeLast_7 : decode b_MO_closeLast 7 = .ok (.return_, 1) := by decide +kernel
theorem d_MO_closeLast_8 : decode b_MO_closeLast 8 = .ok (.aload_n 0, 1) := by decide +kernel
theorem d_MO_closeLast_9 : decode b_MO_closeLast 9 = .ok (.iload_n 2, 1) := by decide +kernel
theorem d_MO_closeLast_10 : decode b_MO_closeLast 10 = .ok (.iload_n 3, 1) := by decide +kernel
theorem d_MO_closeLast_11 : decode b_MO_closeLast 11 = .ok (.invokevirtual 101, 3) := by decide +kernel
theorem d_MO_closeLast_14 : decode b_MO_closeLast 14 = .ok (.iload_n 2, 1) := by decide +kernel
theorem d_MO_closeLast_15 : decode b_MO_closeLast 15 = .ok (.ifCond .ne 12, 3) := by decide +kernel
theorem d_MO_closeLast_18 : decode b_MO_closeLast 18 = .ok (.aload_n 0, 1) := by decide +kernel
theorem d_MO_closeLast_19 : decode b_MO_closeLast 19 = .ok (.aload_n 0, 1) := by decide +kernel
theorem d_MO_closeLast_20 : decode b_MO_closeLast 20 = .ok (.iload_n 1, 1) := by decide +kernel
theorem d_MO_closeLast_21 : decode b_MO_closeLast 21 = .ok (.invokevirtual 146, 3) := by decide +kernel
theorem d_MO_closeLast_24 : decode b_MO_closeLast 24 = .ok (.putfield 86, 3) := by decide +kernel
theorem d_MO_closeLast_27 : decode b_MO_closeLast 27 = .ok (.return_, 1) := by decide +kernel
theorem d_MO_closeRun_0 : decode b_MO_closeRun 0 = .ok (.aload_n 0, 1) := by decide +kernel
theorem d_MO_closeRun_1 : decode b_MO_closeRun 1 = .ok (.getfield 92, 3) := by decide +kernel
theorem d_MO_closeRun_4 : decode b_MO_closeRun 4 = .ok (.iconst 3, 1) := by decide +kernel
theorem d_MO_closeRun_5 : decode b_MO_closeRun 5 = .ok (.if_icmp .ne 10, 3) := by decide +kernel
theorem d_MO_closeRun_8 : decode b_MO_closeRun 8 = .ok (.aload_n 0, 1) := by decide +kernel
theorem d_MO_closeRun_9 : decode b_MO_closeRun 9 = .ok (.getfield 95, 3) := by decide +kernel
theorem d_MO_closeRun_12 : decode b_MO_closeRun 12 = .ok (.goto 7, 3) := by decide +kernel
theorem d_MO_closeRun_15 : decode b_MO_closeRun 15 = .ok (.aload_n 0, 1) := by decide +kernel
theorem d_MO_closeRun_16 : decode b_MO_closeRun 16 = .ok (.getfield 121, 3) := by decide +kernel
theorem d_MO_closeRun_19 : decode b_MO_closeRun 19 = .ok (.istore_n 3, 1) := by decide +kernel
theorem d_MO_closeRun_20 : decode b_MO_closeRun 20 = .ok (.iconst 0, 1) := by decide +kernel
theorem d_MO_closeRun_21 : decode b_MO_closeRun 21 = .ok (.istore 4, 2) := by decide +kernel
theorem d_MO_closeRun_23 : decode b_MO_closeRun 23 = .ok (.aload_n 0, 1) := by decide +kernel
theorem d_MO_closeRun_24 : decode b_MO_closeRun 24 = .ok (.dup, 1) := by decide +kernel
theorem d_MO_closeRun_25 : decode b_MO_closeRun 25 = .ok (.getfield 111, 3) := by decide +kernel
theorem d_MO_closeRun_28 : decode b_MO_closeRun 28 = .ok (.iconst 1, 1) := by decide +kernel
theorem d_MO_closeRun_29 : decode b_MO_closeRun 29 = .ok (.isub, 1) := by decide +kernel
theorem d_MO_closeRun_30 : decode b_MO_closeRun 30 = .ok (.putfield 111, 3) := by decide +kernel
theorem d_MO_closeRun_33 : decode b_MO_closeRun 33 = .ok (.iconst 0, 1) := by decide +kernel
theorem d_MO_closeRun_34 : decode b_MO_closeRun 34 = .ok (.istore 5, 2) := by decide +kernel
theorem d_MO_closeRun_36 : decode b_MO_closeRun 36 = .ok (.iload 5, 2) := by decide +kernel
theorem d_MO_closeRun_38 : decode b_MO_closeRun 38 = .ok (.iconst 3, 1) := by decide +kernel
theorem d_MO_closeRun_39 : decode b_MO_closeRun 39 = .ok (.if_icmp .ge 53, 3) := by decide +kernel
theorem d_MO_closeRun_42 : decode b_MO_closeRun 42 = .ok (.aload_n 0, 1) := by decide +kernel
theorem d_MO_closeRun_43 : decode b_MO_closeRun 43 = .ok (.getfield 38, 3) := by decide +kernel
theorem d_MO_closeRun_46 : decode b_MO_closeRun 46 = .ok (.iload 5, 2) := by decide +kernel
theorem d_MO_closeRun_48 : decode b_MO_closeRun 48 = .ok (.dup2, 1) := by decide +kernel
theorem d_MO_closeRun_49 : decode b_MO_closeRun 49 = .ok (.iaload, 1) := by decide +kernel
theorem d_MO_closeRun_50 : decode b_MO_closeRun 50 = .ok (.aload_n 0, 1) := by decide +kernel
theorem d_MO_closeRun_51 : decode b_MO_closeRun 51 = .ok (.getfield 35, 3) := by decide +kernel
theorem d_MO_closeRun_54 : decode b_MO_closeRun 54 = .ok (.iconst 3, 1) := by decide +kernel
theorem d_MO_closeRun_55 : decode b_MO_closeRun 55 = .ok (.aload_n 0, 1) := by decide +kernel
theorem d_MO_closeRun_56 : decode b_MO_closeRun 56 = .ok (.getfield 111, 3) := by decide +kernel
theorem d_MO_closeRun_59 : decode b_MO_closeRun 59 = .ok (.imul, 1) := by decide +kernel
theorem d_MO_closeRun_60 : decode b_MO_closeRun 60 = .ok (.iload 5, 2) := by decide +kernel
theorem d_MO_closeRun_62 : decode b_MO_closeRun 62 = .ok (.iadd, 1) := by decide +kernel
theorem d_MO_closeRun_63 : decode b_MO_closeRun 63 = .ok (.iaload, 1) := by decide +kernel
theorem d_MO_closeRun_64 : decode b_MO_closeRun 64 = .ok (.isub, 1) := by decide +kernel
theorem d_MO_closeRun_65 : decode b_MO_closeRun 65 = .ok (.iastore, 1) := by decide +kernel
theorem d_MO_closeRun_66 : decode b_MO_closeRun 66 = .ok (.aload_n 0, 1) := by decide +kernel
theorem d_MO_closeRun_67 : decode b_MO_closeRun 67 = .ok (.getfield 35, 3) := by decide +kernel
theorem d_MO_closeRun_70 : decode b_MO_closeRun 70 = .ok (.iconst 3, 1) := by decide +kernel
theorem d_MO_closeRun_71 : decode b_MO_closeRun 71 = .ok (.aload_n 0, 1) := by decide +kernel
theorem d_MO_closeRun_72 : decode b_MO_closeRun 72 = .ok (.getfield 111, 3) := by decide +kernel
theorem d_MO_closeRun_75 : decode b_MO_closeRun 75 = .ok (.imul, 1) := by decide +kernel
theorem d_MO_closeRun_76 : decode b_MO_closeRun 76 = .ok (.iload 5, 2) := by decide +kernel
theorem d_MO_closeRun_78 : decode b_MO_closeRun 78 = .ok (.iadd, 1) := by decide +kernel
theorem d_MO_closeRun_79 : decode b_MO_closeRun 79 = .ok (.iaload, 1) := by decide +kernel
theorem d_MO_closeRun_80 : decode b_MO_closeRun 80 = .ok (.ifCond .le 6, 3) := by decide +kernel
theorem d_MO_closeRun_83 : decode b_MO_closeRun 83 = .ok (.iconst 1, 1) := by decide +kernel
theorem d_MO_closeRun_84 : decode b_MO_closeRun 84 = .ok (.istore 4, 2) := by decide +kernel
theorem d_MO_closeRun_86 : decode b_MO_closeRun 86 = .ok (.iinc 5 1, 3) := by decide +kernel
theorem d_MO_closeRun_89 : decode b_MO_closeRun 89 = .ok (.goto (-53), 3) := by decide +kernel
theorem d_MO_closeRun_92 : decode b_MO_closeRun 92 = .ok (.iload 4, 2) := by decide +kernel
theorem d_MO_closeRun_94 : decode b_MO_closeRun 94 = .ok (.ifCond .eq 24, 3) := by decide +kernel
theorem d_MO_closeRun_97 : decode b_MO_closeRun 97 = .ok (.aload_n 0, 1) := by decide +kernel
theorem d_MO_closeRun_98 : decode b_MO_closeRun 98 = .ok (.iconst 4, 1) := by decide +kernel
theorem d_MO_closeRun_99 : decode b_MO_closeRun 99 = .ok (.aload_n 0, 1) := by decide +kernel
theorem d_MO_closeRun_100 : decode b_MO_closeRun 100 = .ok (.getfield 92, 3) := by decide +kernel
theorem d_MO_closeRun_103 : decode b_MO_closeRun 103 = .ok (.iconst 4, 1) := by decide +kernel
theorem d_MO_closeRun_104 : decode b_MO_closeRun 104 = .ok (.if_icmp .ne 10, 3) := by decide +kernel
theorem d_MO_closeRun_107 : decode b_MO_closeRun 107 = .ok (.aload_n 0, 1) := by decide +kernel
theorem d_MO_closeRun_108 : decode b_MO_closeRun 108 = .ok (.getfield 95, 3) := by decide +kernel
theorem d_MO_closeRun_111 : decode b_MO_closeRun 111 = .ok (.goto 4, 3) := by decide +kernel
theorem d_MO_closeRun_114 : decode b_MO_closeRun 114 = .ok (.iconst 0, 1) := by decide +kernel
theorem d_MO_closeRun_115 : decode b_MO_closeRun 115 = .ok (.invokevirtual 124, 3) := by decide +kernel
theorem d_MO_closeRun_118 : decode b_MO_closeRun 118 = .ok (.aload_n 0, 1) := by decide +kernel
theorem d_MO_closeRun_119 : decode b_MO_closeRun 119 = .ok (.getfield 92, 3) := by decide +kernel
theorem d_MO_closeRun_122 : decode b_MO_closeRun 122 = .ok (.iconst 4, 1) := by decide +kernel
theorem d_MO_closeRun_123 : decode b_MO_closeRun 123 = .ok (.if_icmp .ne 9, 3) := by decide +kernel
theorem d_MO_closeRun_126 : decode b_MO_closeRun 126 = .ok (.aload_n 0, 1) := by decide +kernel
theorem d_MO_closeRun_127 : decode b_MO_closeRun 127 = .ok (.iload_n 2, 1) := by decide +kernel
theorem d_MO_closeRun_128 : decode b_MO_closeRun 128 = .ok (.putfield 121, 3) := by decide +kernel
theorem d_MO_closeRun_131 : decode b_MO_closeRun 131 = .ok (.return_, 1) := by decide +kernel
theorem d_MO_closeRun_132 : decode b_MO_closeRun 132 = .ok (.aload_n 0, 1) := by decide +kernel
theorem d_MO_closeRun_133 : decode b_MO_closeRun 133 = .ok (.iconst 0, 1) := by decide +kernel
theorem d_MO_closeRun_134 : decode b_MO_closeRun 134 = .ok (.putfield 92, 3) := by decide +kernel
theorem d_MO_closeRun_137 : decode b_MO_closeRun 137 = .ok (.aload_n 0, 1) := by decide +kernel
theorem d_MO_closeRun_138 : decode b_MO_closeRun 138 = .ok (.iload_n 3, 1) := by decide +kernel
theorem d_MO_closeRun_139 : decode b_MO_closeRun 139 = .ok (.putfield 121, 3) := by decide +kernel
theorem d_MO_closeRun_142 : decode b_MO_closeRun 142 = .ok (.aload_n 0, 1) := by decide +kernel
theorem d_MO_closeRun_143 : decode b_MO_closeRun 143 = .ok (.iload_n 1, 1) := by decide +kernel
theorem d_MO_closeRun_144 : decode b_MO_closeRun 144 = .ok (.putfield 86, 3) := by decide +kernel
theorem d_MO_closeRun_147 : decode b_MO_closeRun 147 = .ok (.return_, 1) := by decide +kernel
theorem d_MO_run_0 : decode b_MO_run 0 = .ok (.iload_n 1, 1) := by decide +kernel
theorem d_MO_run_1 : decode b_MO_run 1 = .ok (.iconst 0, 1) := by decide +kernel
theorem d_MO_run_2 : decode b_MO_run 2 = .ok (.iconst 3, 1) := by decide +kernel
theorem d_MO_run_3 : decode b_MO_run 3 = .ok (.invokestatic 50, 3) := by decide +kernel
theorem d_MO_run_6 : decode b_MO_run 6 = .ok (.ifCond .ne 5, 3) := by decide +kernel
theorem d_MO_run_9 : decode b_MO_run 9 = .ok (.iconst (-1), 1) := by decide +kernel
theorem d_MO_run_10 : decode b_MO_run 10 = .ok (.ireturn, 1) := by decide +kernel
theorem d_MO_run_11 : decode b_MO_run 11 = .ok (.aload_n 0, 1) := by decide +kernel
theorem d_MO_run_12 : decode b_MO_run 12 = .ok (.iconst (-1), 1) := by decide +kernel
theorem d_MO_run_13 : decode b_MO_run 13 = .ok (.putfield 19, 3) := by decide +kernel
theorem d_MO_run_16 : decode b_MO_run 16 = .ok (.iconst 0, 1) := by decide +kernel
theorem d_MO_run_17 : decode b_MO_run 17 = .ok (.istore 4, 2) := by decide +kernel
theorem d_MO_run_19 : decode b_MO_run 19 = .ok (.iload 4, 2) := by decide +kernel
theorem d_MO_run_21 : decode b_MO_run 21 = .ok (.iconst 4, 1) := by decide +kernel
theorem d_MO_run_22 : decode b_MO_run 22 = .ok (.if_icmp .ge 37, 3) := by decide +kernel
theorem d_MO_run_25 : decode b_MO_run 25 = .ok (.aload_n 0, 1) := by decide +kernel
theorem d_MO_run_26 : decode b_MO_run 26 = .ok (.getfield 16, 3) := by decide +kernel
theorem d_MO_run_29 : decode b_MO_run 29 = .ok (.iload 4, 2) := by decide +kernel
theorem d_MO_run_31 : decode b_MO_run 31 = .ok (.iaload, 1) := by decide +kernel
theorem d_MO_run_32 : decode b_MO_run 32 = .ok (.ifCond .gt 9, 3) := by decide +kernel
theorem d_MO_run_35 : decode b_MO_run 35 = .ok (.iload 4, 2) := by decide +kernel
theorem d_MO_run_37 : decode b_MO_run 37 = .ok (.iload_n 1, 1) := by decide +kernel
theorem d_MO_run_38 : decode b_MO_run 38 = .ok (.if_icmp .ne 15, 3) := by decide +kernel
theorem d_MO_run_41 : decode b_MO_run 41 = .ok (.aload_n 0, 1) := by decide +kernel
theorem d_MO_run_42 : decode b_MO_run 42 = .ok (.iload 4, 2) := by decide +kernel
theorem d_MO_run_44 : decode b_MO_run 44 = .ok (.invokevirtual 76, 3) := by decide +kernel
theorem d_MO_run_47 : decode b_MO_run 47 = .ok (.ifCond .ne 6, 3) := by decide +kernel
theorem d_MO_run_50 : decode b_MO_run 50 = .ok (.bipush (-3), 2) := by decide +kernel
theorem d_MO_run_52 : decode b_MO_run 52 = .ok (.ireturn, 1) := by decide +kernel
theorem d_MO_run_53 : decode b_MO_run 53 = .ok (.iinc 4 1, 3) := by decide +kernel
theorem d_MO_run_56 : decode b_MO_run 56 = .ok (.goto (-37), 3) := by decide +kernel
theorem d_MO_run_59 : decode b_MO_run 59 = .ok (.aload_n 0, 1) := by decide +kernel
theorem d_MO_run_60 : decode b_MO_run 60 = .ok (.iconst 0, 1) := by decide +kernel
theorem d_MO_run_61 : decode b_MO_run 61 = .ok (.putfield 58, 3) := by decide +kernel
theorem d_MO_run_64 : decode b_MO_run 64 = .ok (.aload_n 0, 1) := by decide +kernel
theorem d_MO_run_65 : decode b_MO_run 65 = .ok (.iconst 0, 1) := by decide +kernel
theorem d_MO_run_66 : decode b_MO_run 66 = .ok (.putfield 111, 3) := by decide +kernel
theorem d_MO_run_69 : decode b_MO_run 69 = .ok (.aload_n 0, 1) := by decide +kernel
theorem d_MO_run_70 : decode b_MO_run 70 = .ok (.iconst 0, 1) := by decide +kernel
theorem d_MO_run_71 : decode b_MO_run 71 = .ok (.putfield 89, 3) := by decide +kernel
theorem d_MO_run_74 : decode b_MO_run 74 = .ok (.aload_n 0, 1) := by decide +kernel
theorem d_MO_run_75 : decode b_MO_run 75 = .ok (.iconst 0, 1) := by decide +kernel
theorem d_MO_run_76 : decode b_MO_run 76 = .ok (.putfield 114, 3) := by decide +kernel
theorem d_MO_run_79 : decode b_MO_run 79 = .ok (.aload_n 0, 1) := by decide +kernel
theorem d_MO_run_80 : decode b_MO_run 80 = .ok (.iconst 0, 1) := by decide +kernel
theorem d_MO_run_81 : decode b_MO_run 81 = .ok (.putfield 104, 3) := by decide +kernel
theorem d_MO_run_84 : decode b_MO_run 84 = .ok (.aload_n 0, 1) := by decide +kernel
theorem d_MO_run_85 : decode b_MO_run 85 = .ok (.iconst 0, 1) := by decide +kernel
theorem d_MO_run_86 : decode b_MO_run 86 = .ok (.putfield 164, 3) := by decide +kernel
theorem d_MO_run_89 : decode b_MO_run 89 = .ok (.aload_n 0, 1) := by decide +kernel
theorem d_MO_run_90 : decode b_MO_run 90 = .ok (.iconst 0, 1) := by decide +kernel
theorem d_MO_run_91 : decode b_MO_run 91 = .ok (.putfield 92, 3) := by decide +kernel
theorem d_MO_run_94 : decode b_MO_run 94 = .ok (.aload_n 0, 1) := by decide +kernel
theorem d_MO_run_95 : decode b_MO_run 95 = .ok (.iload_n 2, 1) := by decide +kernel
theorem d_MO_run_96 : decode b_MO_run 96 = .ok (.putfield 121, 3) := by decide +kernel
theorem d_MO_run_99 : decode b_MO_run 99 = .ok (.iconst 0, 1) := by decide +kernel
theorem d_MO_run_100 : decode b_MO_run 100 = .ok (.istore 4, 2) := by decide +kernel
theorem d_MO_run_102 : decode b_MO_run 102 = .ok (.iload 4, 2) := by decide +kernel
theorem d_MO_run_104 : decode b_MO_run 104 = .ok (.iconst 3, 1) := by decide +kernel
theorem d_MO_run_105 : decode b_MO_run 105 = .ok (.if_icmp .ge 17, 3) := by decide +kernel
theorem d_MO_run_108 : decode b_MO_run 108 = .ok (.aload_n 0, 1) := by decide +kernel
theorem d_MO_run_109 : decode b_MO_run 109 = .ok (.getfield 38, 3) := by decide +kernel
theorem d_MO_run_112 : decode b_MO_run 112 = .ok (.iload 4, 2) := by decide +kernel
theorem d_MO_run_114 : decode b_MO_run 114 = .ok (.iconst 0, 1) := by decide +kernel
theorem d_MO_run_115 : decode b_MO_run 115 = .ok (.iastore, 1) := by decide +kernel
theorem d_MO_run_116 : decode b_MO_run 116 = .ok (.iinc 4 1, 3) := by decide +kernel
theorem d_MO_run_119 : decode b_MO_run 119 = .ok (.goto (-17), 3) := by decide +kernel
theorem d_MO_run_122 : decode b_MO_run 122 = .ok (.aload_n 0, 1) := by decide +kernel
theorem d_MO_run_123 : decode b_MO_run 123 = .ok (.iload_n 1, 1) := by decide +kernel
theorem d_MO_run_124 : decode b_MO_run 124 = .ok (.iload_n 2, 1) := by decide +kernel
theorem d_MO_run_125 : decode b_MO_run 125 = .ok (.invokevirtual 140, 3) := by decide +kernel
theorem d_MO_run_128 : decode b_MO_run 128 = .ok (.aload_n 0, 1) := by decide +kernel
theorem d_MO_run_129 : decode b_MO_run 129 = .ok (.getfield 58, 3) := by decide +kernel
theorem d_MO_run_132 : decode b_MO_run 132 = .ok (.ifCond .le 50, 3) := by decide +kernel
theorem d_MO_run_135 : decode b_MO_run 135 = .ok (.aload_n 0, 1) := by decide +kernel
theorem d_MO_run_136 : decode b_MO_run 136 = .ok (.getfield 92, 3) := by decide +kernel
theorem d_MO_run_139 : decode b_MO_run 139 = .ok (.ifCond .ne 17, 3) := by decide +kernel
theorem d_MO_run_142 : decode b_MO_run 142 = .ok (.aload_n 0, 1) := by decide +kernel
theorem d_MO_run_143 : decode b_MO_run 143 = .ok (.getfield 7, 3) := by decide +kernel
theorem d_MO_run_146 : decode b_MO_run 146 = .ok (.aload_n 0, 1) := by decide +kernel
theorem d_MO_run_147 : decode b_MO_run 147 = .ok (.getfield 86, 3) := by decide +kernel
theorem d_MO_run_150 : decode b_MO_run 150 = .ok (.iaload, 1) := by decide +kernel
theorem d_MO_run_151 : decode b_MO_run 151 = .ok (.bipush 18, 2) := by decide +kernel
theorem d_MO_run_153 : decode b_MO_run 153 = .ok (.if_icmp .ne 10, 3) := by decide +kernel
theorem d_MO_run_156 : decode b_MO_run 156 = .ok (.aload_n 0, 1) := by decide +kernel
theorem d_MO_run_157 : decode b_MO_run 157 = .ok (.invokevirtual 167, 3) := by decide +kernel
theorem d_MO_run_160 : decode b_MO_run 160 = .ok (.goto (-32), 3) := by decide +kernel
theorem d_MO_run_163 : decode b_MO_run 163 = .ok (.aload_n 0, 1) := by decide +kernel
theorem d_MO_run_164 : decode b_MO_run 164 = .ok (.getfield 114, 3) := by decide +kernel
theorem d_MO_run_167 : decode b_MO_run 167 = .ok (.sipush 300, 3) := by decide +kernel
theorem d_MO_run_170 : decode b_MO_run 170 = .ok (.if_icmp .ne 5, 3) := by decide +kernel
theorem d_MO_run_173 : decode b_MO_run 173 = .ok (.iconst 2, 1) := by decide +kernel
theorem d_MO_run_174 : decode b_MO_run 174 = .ok (.ireturn, 1) := by decide +kernel
theorem d_MO_run_175 : decode b_MO_run 175 = .ok (.aload_n 0, 1) := by decide +kernel
theorem d_MO_run_176 : decode b_MO_run 176 = .ok (.invokevirtual 170, 3) := by decide +kernel
theorem d_MO_run_179 : decode b_MO_run 179 = .ok (.goto (-51), 3) := by decide +kernel
theorem d_MO_run_182 : decode b_MO_run 182 = .ok (.aload_n 0, 1) := by decide +kernel
theorem d_MO_run_183 : decode b_MO_run 183 = .ok (.getfield 92, 3) := by decide +kernel
theorem d_MO_run_186 : decode b_MO_run 186 = .ok (.iconst 4, 1) := by decide +kernel
theorem d_MO_run_187 : decode b_MO_run 187 = .ok (.if_icmp .ne 13, 3) := by decide +kernel
theorem d_MO_run_190 : decode b_MO_run 190 = .ok (.aload_n 0, 1) := by decide +kernel
theorem d_MO_run_191 : decode b_MO_run 191 = .ok (.aload_n 0, 1) := by decide +kernel
theorem d_MO_run_192 : decode b_MO_run 192 = .ok (.getfield 95, 3) := by decide +kernel
theorem d_MO_run_195 : decode b_MO_run 195 = .ok (.putfield 164, 3) := by decide +kernel
theorem d_MO_run_198 : decode b_MO_run 198 = .ok (.iconst 1, 1) := by decide +kernel
theorem d_MO_run_199 : decode b_MO_run 199 = .ok (.ireturn, 1) := by decide +kernel
theorem d_MO_run_200 : decode b_MO_run 200 = .ok (.aload_n 0, 1) := by decide +kernel
theorem d_MO_run_201 : decode b_MO_run 201 = .ok (.aload_n 0, 1) := by decide +kernel
theorem d_MO_run_202 : decode b_MO_run 202 = .ok (.getfield 121, 3) := by decide +kernel
theorem d_MO_run_205 : decode b_MO_run 205 = .ok (.putfield 173, 3) := by decide +kernel
theorem d_MO_run_208 : decode b_MO_run 208 = .ok (.iconst 0, 1) := by decide +kernel
theorem d_MO_run_209 : decode b_MO_run 209 = .ok (.ireturn, 1) := by decide +kernel
theorem d_MO_value_0 : decode b_MO_value 0 = .ok (.aload_n 0, 1) := by decide +kernel
theorem d_MO_value_1 : decode b_MO_value 1 = .ok (.getfield 173, 3) := by decide +kernel
theorem d_MO_value_4 : decode b_MO_value 4 = .ok (.ireturn, 1) := by decide +kernel
theorem d_MO_fault_0 : decode b_MO_fault 0 = .ok (.iload_n 1, 1) := by decide +kernel
theorem d_MO_fault_1 : decode b_MO_fault 1 = .ok (.ifCond .ge 7, 3) := by decide +kernel
theorem d_MO_fault_4 : decode b_MO_fault 4 = .ok (.iconst 0, 1) := by decide +kernel
theorem d_MO_fault_5 : decode b_MO_fault 5 = .ok (.goto 7, 3) := by decide +kernel
theorem d_MO_fault_8 : decode b_MO_fault 8 = .ok (.aload_n 0, 1) := by decide +kernel
theorem d_MO_fault_9 : decode b_MO_fault 9 = .ok (.getfield 164, 3) := by decide +kernel
theorem d_MO_fault_12 : decode b_MO_fault 12 = .ok (.istore_n 2, 1) := by decide +kernel
theorem d_MO_fault_13 : decode b_MO_fault 13 = .ok (.iconst 0, 1) := by decide +kernel
theorem d_MO_fault_14 : decode b_MO_fault 14 = .ok (.istore_n 3, 1) := by decide +kernel
theorem d_MO_fault_15 : decode b_MO_fault 15 = .ok (.iload_n 3, 1) := by decide +kernel
theorem d_MO_fault_16 : decode b_MO_fault 16 = .ok (.iload_n 1, 1) := by decide +kernel
theorem d_MO_fault_17 : decode b_MO_fault 17 = .ok (.if_icmp .ge 20, 3) := by decide +kernel
theorem d_MO_fault_20 : decode b_MO_fault 20 = .ok (.iload_n 2, 1) := by decide +kernel
theorem d_MO_fault_21 : decode b_MO_fault 21 = .ok (.ifCond .le 16, 3) := by decide +kernel
theorem d_MO_fault_24 : decode b_MO_fault 24 = .ok (.aload_n 0, 1) := by decide +kernel
theorem d_MO_fault_25 : decode b_MO_fault 25 = .ok (.getfield 44, 3) := by decide +kernel
theorem d_MO_fault_28 : decode b_MO_fault 28 = .ok (.iload_n 2, 1) := by decide +kernel
theorem d_MO_fault_29 : decode b_MO_fault 29 = .ok (.iaload, 1) := by decide +kernel
theorem d_MO_fault_30 : decode b_MO_fault 30 = .ok (.istore_n 2, 1) := by decide +kernel
theorem d_MO_fault_31 : decode b_MO_fault 31 = .ok (.iinc 3 1, 3) := by decide +kernel
theorem d_MO_fault_34 : decode b_MO_fault 34 = .ok (.goto (-19), 3) := by decide +kernel
theorem d_MO_fault_37 : decode b_MO_fault 37 = .ok (.iload_n 2, 1) := by decide +kernel
theorem d_MO_fault_38 : decode b_MO_fault 38 = .ok (.ifCond .le 12, 3) := by decide +kernel
theorem d_MO_fault_41 : decode b_MO_fault 41 = .ok (.aload_n 0, 1) := by decide +kernel
theorem d_MO_fault_42 : decode b_MO_fault 42 = .ok (.getfield 41, 3) := by decide +kernel
theorem d_MO_fault_45 : decode b_MO_fault 45 = .ok (.iload_n 2, 1) := by decide +kernel
theorem d_MO_fault_46 : decode b_MO_fault 46 = .ok (.iaload, 1) := by decide +kernel
theorem d_MO_fault_47 : decode b_MO_fault 47 = .ok (.goto 4, 3) := by decide +kernel
theorem d_MO_fault_50 : decode b_MO_fault 50 = .ok (.iconst (-1), 1) := by decide +kernel
theorem d_MO_fault_51 : decode b_MO_fault 51 = .ok (.ireturn, 1) := by decide +kernel
theorem d_MO_steps_0 : decode b_MO_steps 0 = .ok (.aload_n 0, 1) := by decide +kernel
theorem d_MO_steps_1 : decode b_MO_steps 1 = .ok (.getfield 114, 3) := by decide +kernel
theorem d_MO_steps_4 : decode b_MO_steps 4 = .ok (.ireturn, 1) := by decide +kernel
theorem d_MO_events_0 : decode b_MO_events 0 = .ok (.aload_n 0, 1) := by decide +kernel
theorem d_MO_events_1 : decode b_MO_events 1 = .ok (.getfield 143, 3) := by decide +kernel
theorem d_MO_events_4 : decode b_MO_events 4 = .ok (.ireturn, 1) := by decide +kernel
theorem d_MO_event_0 : decode b_MO_event 0 = .ok (.iload_n 1, 1) := by decide +kernel
theorem d_MO_event_1 : decode b_MO_event 1 = .ok (.iconst 0, 1) := by decide +kernel
theorem d_MO_event_2 : decode b_MO_event 2 = .ok (.bipush 31, 2) := by decide +kernel
theorem d_MO_event_4 : decode b_MO_event 4 = .ok (.invokestatic 50, 3) := by decide +kernel
theorem d_MO_event_7 : decode b_MO_event 7 = .ok (.ifCond .eq 20, 3) := by decide +kernel
theorem d_MO_event_10 : decode b_MO_event 10 = .ok (.iload_n 1, 1) := by decide +kernel
theorem d_MO_event_11 : decode b_MO_event 11 = .ok (.aload_n 0, 1) := by decide +kernel
theorem d_MO_event_12 : decode b_MO_event 12 = .ok (.getfield 143, 3) := by decide +kernel
theorem d_MO_event_15 : decode b_MO_event 15 = .ok (.if_icmp .ge 12, 3) := by decide +kernel
theorem d_MO_event_18 : decode b_MO_event 18 = .ok (.aload_n 0, 1) := by decide +kernel
theorem d_MO_event_19 : decode b_MO_event 19 = .ok (.getfield 47, 3) := by decide +kernel
theorem d_MO_event_22 : decode b_MO_event 22 = .ok (.iload_n 1, 1) := by decide +kernel
theorem d_MO_event_23 : decode b_MO_event 23 = .ok (.iaload, 1) := by decide +kernel
theorem d_MO_event_24 : decode b_MO_event 24 = .ok (.goto 4, 3) := by decide +kernel
theorem d_MO_event_27 : decode b_MO_event 27 = .ok (.iconst (-1), 1) := by decide +kernel
theorem d_MO_event_28 : decode b_MO_event 28 = .ok (.ireturn, 1) := by decide +kernel
theorem d_MO_most_0 : decode b_MO_most 0 = .ok (.aload_n 0, 1) := by decide +kernel
theorem d_MO_most_1 : decode b_MO_most 1 = .ok (.getfield 104, 3) := by decide +kernel
theorem d_MO_most_4 : decode b_MO_most 4 = .ok (.ireturn, 1) := by decide +kernel
end
section
/-! decode rows, written by wip/gen/names.py -/
theorem d_LA_law_0 : decode code 0 = .ok (.new 7, 3) := by decide +kernel
theorem d_LA_law_3 : decode code 3 = .ok (.dup, 1) := by decide +kernel
theorem d_LA_law_4 : decode code 4 = .ok (.invokespecial 9, 3) := by decide +kernel
theorem d_LA_law_7 : decode code 7 = .ok (.astore_n 1, 1) := by decide +kernel
theorem d_LA_law_8 : decode code 8 = .ok (.new 10, 3) := by decide +kernel
theorem d_LA_law_11 : decode code 11 = .ok (.dup, 1) := by decide +kernel
theorem d_LA_law_12 : decode code 12 = .ok (.invokespecial 12, 3) := by decide +kernel
theorem d_LA_law_15 : decode code 15 = .ok (.astore_n 2, 1) := by decide +kernel
theorem d_LA_law_16 : decode code 16 = .ok (.iconst 0, 1) := by decide +kernel
theorem d_LA_law_17 : decode code 17 = .ok (.istore_n 3, 1) := by decide +kernel
theorem d_LA_law_18 : decode code 18 = .ok (.iload_n 3, 1) := by decide +kernel
theorem d_LA_law_19 : decode code 19 = .ok (.aload_n 0, 1) := by decide +kernel
theorem d_LA_law_20 : decode code 20 = .ok (.arraylength, 1) := by decide +kernel
theorem d_LA_law_21 : decode code 21 = .ok (.iconst 4, 1) := by decide +kernel
theorem d_LA_law_22 : decode code 22 = .ok (.isub, 1) := by decide +kernel
theorem d_LA_law_23 : decode code 23 = .ok (.if_icmp .gt 334, 3) := by decide +kernel
theorem d_LA_law_26 : decode code 26 = .ok (.aload_n 0, 1) := by decide +kernel
theorem d_LA_law_27 : decode code 27 = .ok (.iload_n 3, 1) := by decide +kernel
theorem d_LA_law_28 : decode code 28 = .ok (.iaload, 1) := by decide +kernel
theorem d_LA_law_29 : decode code 29 = .ok (.bipush 15, 2) := by decide +kernel
theorem d_LA_law_31 : decode code 31 = .ok (.iand, 1) := by decide +kernel
theorem d_LA_law_32 : decode code 32 = .ok (.tableswitch 319 0 10 #[60, 103, 126, 149, 162, 221, 234, 257, 270, 283, 306], 60) := by decide +kernel
theorem d_LA_law_92 : decode code 92 = .ok (.aload_n 1, 1) := by decide +kernel
theorem d_LA_law_93 : decode code 93 = .ok (.aload_n 0, 1) := by decide +kernel
theorem d_LA_law_94 : decode code 94 = .ok (.iload_n 3, 1) := by decide +kernel
theorem d_LA_law_95 : decode code 95 = .ok (.iconst 1, 1) := by decide +kernel
theorem d_LA_law_96 : decode code 96 = .ok (.iadd, 1) := by decide +kernel
theorem d_LA_law_97 : decode code 97 = .ok (.iaload, 1) := by decide +kernel
theorem d_LA_law_98 : decode code 98 = .ok (.aload_n 0, 1) := by decide +kernel
theorem d_LA_law_99 : decode code 99 = .ok (.iload_n 3, 1) := by decide +kernel
theorem d_LA_law_100 : decode code 100 = .ok (.iconst 2, 1) := by decide +kernel
theorem d_LA_law_101 : decode code 101 = .ok (.iadd, 1) := by decide +kernel
theorem d_LA_law_102 : decode code 102 = .ok (.iaload, 1) := by decide +kernel
theorem d_LA_law_103 : decode code 103 = .ok (.aload_n 0, 1) := by decide +kernel
theorem d_LA_law_104 : decode code 104 = .ok (.iload_n 3, 1) := by decide +kernel
theorem d_LA_law_105 : decode code 105 = .ok (.iconst 3, 1) := by decide +kernel
theorem d_LA_law_106 : decode code 106 = .ok (.iadd, 1) := by decide +kernel
theorem d_LA_law_107 : decode code 107 = .ok (.iaload, 1) := by decide +kernel
theorem d_LA_law_108 : decode code 108 = .ok (.invokevirtual 13, 3) := by decide +kernel
theorem d_LA_law_111 : decode code 111 = .ok (.aload_n 2, 1) := by decide +kernel
theorem d_LA_law_112 : decode code 112 = .ok (.aload_n 0, 1) := by decide +kernel
theorem d_LA_law_113 : decode code 113 = .ok (.iload_n 3, 1) := by decide +kernel
theorem d_LA_law_114 : decode code 114 = .ok (.iconst 1, 1) := by decide +kernel
theorem d_LA_law_115 : decode code 115 = .ok (.iadd, 1) := by decide +kernel
theorem d_LA_law_116 : decode code 116 = .ok (.iaload, 1) := by decide +kernel
theorem d_LA_law_117 : decode code 117 = .ok (.aload_n 0, 1) := by decide +kernel
theorem d_LA_law_118 : decode code 118 = .ok (.iload_n 3, 1) := by decide +kernel
theorem d_LA_law_119 : decode code 119 = .ok (.iconst 2, 1) := by decide +kernel
theorem d_LA_law_120 : decode code 120 = .ok (.iadd, 1) := by decide +kernel
theorem d_LA_law_121 : decode code 121 = .ok (.iaload, 1) := by decide +kernel
theorem d_LA_law_122 : decode code 122 = .ok (.aload_n 0, 1) := by decide +kernel
theorem d_LA_law_123 : decode code 123 = .ok (.iload_n 3, 1) := by decide +kernel
theorem d_LA_law_124 : decode code 124 = .ok (.iconst 3, 1) := by decide +kernel
theorem d_LA_law_125 : decode code 125 = .ok (.iadd, 1) := by decide +kernel
theorem d_LA_law_126 : decode code 126 = .ok (.iaload, 1) := by decide +kernel
theorem d_LA_law_127 : decode code 127 = .ok (.invokevirtual 17, 3) := by decide +kernel
theorem d_LA_law_130 : decode code 130 = .ok (.if_icmp .eq 221, 3) := by decide +kernel
theorem d_LA_law_133 : decode code 133 = .ok (.iconst 0, 1) := by decide +kernel
theorem d_LA_law_134 : decode code 134 = .ok (.ireturn, 1) := by decide +kernel
theorem d_LA_law_135 : decode code 135 = .ok (.aload_n 1, 1) := by decide +kernel
theorem d_LA_law_136 : decode code 136 = .ok (.aload_n 0, 1) := by decide +kernel
theorem d_LA_law_137 : decode code 137 = .ok (.iload_n 3, 1) := by decide +kernel
theorem d_LA_law_138 : decode code 138 = .ok (.iconst 1, 1) := by decide +kernel
theorem d_LA_law_139 : decode code 139 = .ok (.iadd, 1) := by decide +kernel
theorem d_LA_law_140 : decode code 140 = .ok (.iaload, 1) := by decide +kernel
theorem d_LA_law_141 : decode code 141 = .ok (.invokevirtual 18, 3) := by decide +kernel
theorem d_LA_law_144 : decode code 144 = .ok (.aload_n 2, 1) := by decide +kernel
theorem d_LA_law_145 : decode code 145 = .ok (.aload_n 0, 1) := by decide +kernel
theorem d_LA_law_146 : decode code 146 = .ok (.iload_n 3, 1) := by decide +kernel
theorem d_LA_law_147 : decode code 147 = .ok (.iconst 1, 1) := by decide +kernel
theorem d_LA_law_148 : decode code 148 = .ok (.iadd, 1) := by decide +kernel
theorem d_LA_law_149 : decode code 149 = .ok (.iaload, 1) := by decide +kernel
theorem d_LA_law_150 : decode code 150 = .ok (.invokevirtual 22, 3) := by decide +kernel
theorem d_LA_law_153 : decode code 153 = .ok (.if_icmp .eq 198, 3) := by decide +kernel
theorem d_LA_law_156 : decode code 156 = .ok (.iconst 0, 1) := by decide +kernel
theorem d_LA_law_157 : decode code 157 = .ok (.ireturn, 1) := by decide +kernel
theorem d_LA_law_158 : decode code 158 = .ok (.aload_n 1, 1) := by decide +kernel
theorem d_LA_law_159 : decode code 159 = .ok (.aload_n 0, 1) := by decide +kernel
theorem d_LA_law_160 : decode code 160 = .ok (.iload_n 3, 1) := by decide +kernel
theorem d_LA_law_161 : decode code 161 = .ok (.iconst 1, 1) := by decide +kernel
theorem d_LA_law_162 : decode code 162 = .ok (.iadd, 1) := by decide +kernel
theorem d_LA_law_163 : decode code 163 = .ok (.iaload, 1) := by decide +kernel
theorem d_LA_law_164 : decode code 164 = .ok (.invokevirtual 23, 3) := by decide +kernel
theorem d_LA_law_167 : decode code 167 = .ok (.aload_n 2, 1) := by decide +kernel
theorem d_LA_law_168 : decode code 168 = .ok (.aload_n 0, 1) := by decide +kernel
theorem d_LA_law_169 : decode code 169 = .ok (.iload_n 3, 1) := by decide +kernel
theorem d_LA_law_170 : decode code 170 = .ok (.iconst 1, 1) := by decide +kernel
theorem d_LA_law_171 : decode code 171 = .ok (.iadd, 1) := by decide +kernel
theorem d_LA_law_172 : decode code 172 = .ok (.iaload, 1) := by decide +kernel
theorem d_LA_law_173 : decode code 173 = .ok (.invokevirtual 26, 3) := by decide +kernel
theorem d_LA_law_176 : decode code 176 = .ok (.if_icmp .eq 175, 3) := by decide +kernel
theorem d_LA_law_179 : decode code 179 = .ok (.iconst 0, 1) := by decide +kernel
theorem d_LA_law_180 : decode code 180 = .ok (.ireturn, 1) := by decide +kernel
theorem d_LA_law_181 : decode code 181 = .ok (.aload_n 1, 1) := by decide +kernel
theorem d_LA_law_182 : decode code 182 = .ok (.invokevirtual 27, 3) := by decide +kernel
theorem d_LA_law_185 : decode code 185 = .ok (.aload_n 2, 1) := by decide +kernel
theorem d_LA_law_186 : decode code 186 = .ok (.invokevirtual 31, 3) := by decide +kernel
theorem d_LA_law_189 : decode code 189 = .ok (.if_icmp .eq 162, 3) := by decide +kernel
theorem d_LA_law_192 : decode code 192 = .ok (.iconst 0, 1) := by decide +kernel
theorem d_LA_law_193 : decode code 193 = .ok (.ireturn, 1) := by decide +kernel
theorem d_LA_law_194 : decode code 194 = .ok (.aload_n 1, 1) := by decide +kernel
theorem d_LA_law_195 : decode code 195 = .ok (.aload_n 0, 1) := by decide +kernel
theorem d_LA_law_196 : decode code 196 = .ok (.iload_n 3, 1) := by decide +kernel
theorem d_LA_law_197 : decode code 197 = .ok (.iconst 1, 1) := by decide +kernel
theorem d_LA_law_198 : decode code 198 = .ok (.iadd, 1) := by decide +kernel
theorem d_LA_law_199 : decode code 199 = .ok (.iaload, 1) := by decide +kernel
theorem d_LA_law_200 : decode code 200 = .ok (.aload_n 0, 1) := by decide +kernel
theorem d_LA_law_201 : decode code 201 = .ok (.iload_n 3, 1) := by decide +kernel
theorem d_LA_law_202 : decode code 202 = .ok (.iconst 2, 1) := by decide +kernel
theorem d_LA_law_203 : decode code 203 = .ok (.iadd, 1) := by decide +kernel
theorem d_LA_law_204 : decode code 204 = .ok (.iaload, 1) := by decide +kernel
theorem d_LA_law_205 : decode code 205 = .ok (.aload_n 0, 1) := by decide +kernel
theorem d_LA_law_206 : decode code 206 = .ok (.iload_n 3, 1) := by decide +kernel
theorem d_LA_law_207 : decode code 207 = .ok (.iconst 3, 1) := by decide +kernel
theorem d_LA_law_208 : decode code 208 = .ok (.iadd, 1) := by decide +kernel
theorem d_LA_law_209 : decode code 209 = .ok (.iaload, 1) := by decide +kernel
theorem d_LA_law_210 : decode code 210 = .ok (.ifCond .eq 7, 3) := by decide +kernel
theorem d_LA_law_213 : decode code 213 = .ok (.iconst 1, 1) := by decide +kernel
theorem d_LA_law_214 : decode code 214 = .ok (.goto 4, 3) := by decide +kernel
theorem d_LA_law_217 : decode code 217 = .ok (.iconst 0, 1) := by decide +kernel
theorem d_LA_law_218 : decode code 218 = .ok (.invokevirtual 32, 3) := by decide +kernel
theorem d_LA_law_221 : decode code 221 = .ok (.aload_n 2, 1) := by decide +kernel
theorem d_LA_law_222 : decode code 222 = .ok (.aload_n 0, 1) := by decide +kernel
theorem d_LA_law_223 : decode code 223 = .ok (.iload_n 3, 1) := by decide +kernel
theorem d_LA_law_224 : decode code 224 = .ok (.iconst 1, 1) := by decide +kernel
theorem d_LA_law_225 : decode code 225 = .ok (.iadd, 1) := by decide +kernel
theorem d_LA_law_226 : decode code 226 = .ok (.iaload, 1) := by decide +kernel
theorem d_LA_law_227 : decode code 227 = .ok (.aload_n 0, 1) := by decide +kernel
theorem d_LA_law_228 : decode code 228 = .ok (.iload_n 3, 1) := by decide +kernel
theorem d_LA_law_229 : decode code 229 = .ok (.iconst 2, 1) := by decide +kernel
theorem d_LA_law_230 : decode code 230 = .ok (.iadd, 1) := by decide +kernel
theorem d_LA_law_231 : decode code 231 = .ok (.iaload, 1) := by decide +kernel
theorem d_LA_law_232 : decode code 232 = .ok (.aload_n 0, 1) := by decide +kernel
theorem d_LA_law_233 : decode code 233 = .ok (.iload_n 3, 1) := by decide +kernel
theorem d_LA_law_234 : decode code 234 = .ok (.iconst 3, 1) := by decide +kernel
theorem d_LA_law_235 : decode code 235 = .ok (.iadd, 1) := by decide +kernel
theorem d_LA_law_236 : decode code 236 = .ok (.iaload, 1) := by decide +kernel
theorem d_LA_law_237 : decode code 237 = .ok (.ifCond .eq 7, 3) := by decide +kernel
theorem d_LA_law_240 : decode code 240 = .ok (.iconst 1, 1) := by decide +kernel
theorem d_LA_law_241 : decode code 241 = .ok (.goto 4, 3) := by decide +kernel
theorem d_LA_law_244 : decode code 244 = .ok (.iconst 0, 1) := by decide +kernel
theorem d_LA_law_245 : decode code 245 = .ok (.invokevirtual 36, 3) := by decide +kernel
theorem d_LA_law_248 : decode code 248 = .ok (.if_icmp .eq 103, 3) := by decide +kernel
theorem d_LA_law_251 : decode code 251 = .ok (.iconst 0, 1) := by decide +kernel
theorem d_LA_law_252 : decode code 252 = .ok (.ireturn, 1) := by decide +kernel
theorem d_LA_law_253 : decode code 253 = .ok (.aload_n 1, 1) := by decide +kernel
theorem d_LA_law_254 : decode code 254 = .ok (.invokevirtual 37, 3) := by decide +kernel
theorem d_LA_law_257 : decode code 257 = .ok (.aload_n 2, 1) := by decide +kernel
theorem d_LA_law_258 : decode code 258 = .ok (.invokevirtual 40, 3) := by decide +kernel
theorem d_LA_law_261 : decode code 261 = .ok (.if_icmp .eq 90, 3) := by decide +kernel
theorem d_LA_law_264 : decode code 264 = .ok (.iconst 0, 1) := by decide +kernel
theorem d_LA_law_265 : decode code 265 = .ok (.ireturn, 1) := by decide +kernel
theorem d_LA_law_266 : decode code 266 = .ok (.aload_n 1, 1) := by decide +kernel
theorem d_LA_law_267 : decode code 267 = .ok (.aload_n 0, 1) := by decide +kernel
theorem d_LA_law_268 : decode code 268 = .ok (.iload_n 3, 1) := by decide +kernel
theorem d_LA_law_269 : decode code 269 = .ok (.iconst 1, 1) := by decide +kernel
theorem d_LA_law_270 : decode code 270 = .ok (.iadd, 1) := by decide +kernel
theorem d_LA_law_271 : decode code 271 = .ok (.iaload, 1) := by decide +kernel
theorem d_LA_law_272 : decode code 272 = .ok (.invokevirtual 41, 3) := by decide +kernel
theorem d_LA_law_275 : decode code 275 = .ok (.aload_n 2, 1) := by decide +kernel
theorem d_LA_law_276 : decode code 276 = .ok (.aload_n 0, 1) := by decide +kernel
theorem d_LA_law_277 : decode code 277 = .ok (.iload_n 3, 1) := by decide +kernel
theorem d_LA_law_278 : decode code 278 = .ok (.iconst 1, 1) := by decide +kernel
theorem d_LA_law_279 : decode code 279 = .ok (.iadd, 1) := by decide +kernel
theorem d_LA_law_280 : decode code 280 = .ok (.iaload, 1) := by decide +kernel
theorem d_LA_law_281 : decode code 281 = .ok (.invokevirtual 44, 3) := by decide +kernel
theorem d_LA_law_284 : decode code 284 = .ok (.if_icmp .eq 67, 3) := by decide +kernel
theorem d_LA_law_287 : decode code 287 = .ok (.iconst 0, 1) := by decide +kernel
theorem d_LA_law_288 : decode code 288 = .ok (.ireturn, 1) := by decide +kernel
theorem d_LA_law_289 : decode code 289 = .ok (.aload_n 1, 1) := by decide +kernel
theorem d_LA_law_290 : decode code 290 = .ok (.invokevirtual 45, 3) := by decide +kernel
theorem d_LA_law_293 : decode code 293 = .ok (.aload_n 2, 1) := by decide +kernel
theorem d_LA_law_294 : decode code 294 = .ok (.invokevirtual 48, 3) := by decide +kernel
theorem d_LA_law_297 : decode code 297 = .ok (.if_icmp .eq 54, 3) := by decide +kernel
theorem d_LA_law_300 : decode code 300 = .ok (.iconst 0, 1) := by decide +kernel
theorem d_LA_law_301 : decode code 301 = .ok (.ireturn, 1) := by decide +kernel
theorem d_LA_law_302 : decode code 302 = .ok (.aload_n 1, 1) := by decide +kernel
theorem d_LA_law_303 : decode code 303 = .ok (.invokevirtual 49, 3) := by decide +kernel
theorem d_LA_law_306 : decode code 306 = .ok (.aload_n 2, 1) := by decide +kernel
theorem d_LA_law_307 : decode code 307 = .ok (.invokevirtual 52, 3) := by decide +kernel
theorem d_LA_law_310 : decode code 310 = .ok (.if_icmp .eq 41, 3) := by decide +kernel
theorem d_LA_law_313 : decode code 313 = .ok (.iconst 0, 1) := by decide +kernel
theorem d_LA_law_314 : decode code 314 = .ok (.ireturn, 1) := by decide +kernel
theorem d_LA_law_315 : decode code 315 = .ok (.aload_n 1, 1) := by decide +kernel
theorem d_LA_law_316 : decode code 316 = .ok (.aload_n 0, 1) := by decide +kernel
theorem d_LA_law_317 : decode code 317 = .ok (.iload_n 3, 1) := by decide +kernel
theorem d_LA_law_318 : decode code 318 = .ok (.iconst 1, 1) := by decide +kernel
theorem d_LA_law_319 : decode code 319 = .ok (.iadd, 1) := by decide +kernel
theorem d_LA_law_320 : decode code 320 = .ok (.iaload, 1) := by decide +kernel
theorem d_LA_law_321 : decode code 321 = .ok (.invokevirtual 53, 3) := by decide +kernel
theorem d_LA_law_324 : decode code 324 = .ok (.aload_n 2, 1) := by decide +kernel
theorem d_LA_law_325 : decode code 325 = .ok (.aload_n 0, 1) := by decide +kernel
theorem d_LA_law_326 : decode code 326 = .ok (.iload_n 3, 1) := by decide +kernel
theorem d_LA_law_327 : decode code 327 = .ok (.iconst 1, 1) := by decide +kernel
theorem d_LA_law_328 : decode code 328 = .ok (.iadd, 1) := by decide +kernel
theorem d_LA_law_329 : decode code 329 = .ok (.iaload, 1) := by decide +kernel
theorem d_LA_law_330 : decode code 330 = .ok (.invokevirtual 56, 3) := by decide +kernel
theorem d_LA_law_333 : decode code 333 = .ok (.if_icmp .eq 18, 3) := by decide +kernel
theorem d_LA_law_336 : decode code 336 = .ok (.iconst 0, 1) := by decide +kernel
theorem d_LA_law_337 : decode code 337 = .ok (.ireturn, 1) := by decide +kernel
theorem d_LA_law_338 : decode code 338 = .ok (.aload_n 1, 1) := by decide +kernel
theorem d_LA_law_339 : decode code 339 = .ok (.invokevirtual 57, 3) := by decide +kernel
theorem d_LA_law_342 : decode code 342 = .ok (.aload_n 2, 1) := by decide +kernel
theorem d_LA_law_343 : decode code 343 = .ok (.invokevirtual 60, 3) := by decide +kernel
theorem d_LA_law_346 : decode code 346 = .ok (.if_icmp .eq 5, 3) := by decide +kernel
theorem d_LA_law_349 : decode code 349 = .ok (.iconst 0, 1) := by decide +kernel
theorem d_LA_law_350 : decode code 350 = .ok (.ireturn, 1) := by decide +kernel
theorem d_LA_law_351 : decode code 351 = .ok (.iinc 3 4, 3) := by decide +kernel
theorem d_LA_law_354 : decode code 354 = .ok (.goto (-336), 3) := by decide +kernel
theorem d_LA_law_357 : decode code 357 = .ok (.iconst 1, 1) := by decide +kernel
theorem d_LA_law_358 : decode code 358 = .ok (.ireturn, 1) := by decide +kernel
end
section
/-! THE WORLD BY PLACES: cell k of 57 stands at the address gA G k; 0 .. 43 are the class's, 44 .. 56 the reference's. All that changes are ints: S k j is int j of cell k. -/
def wl (ad : Nat → Nat) (N : Nat) (f : Nat → va_E) : va_W := (List.range N).map (fun k => (ad k, f k))
theorem wl_get {ad : Nat → Nat} {N k : Nat} {f : Nat → va_E} (h : k < N) : (wl ad N f)[k]? = some (ad k, f k) := by
  simp [wl, h]
theorem wl_at {ad : Nat → Nat} {N k : Nat} {f : Nat → va_E} {e : va_E} (h : k < N) (he : f k = e) : (wl ad N f)[k]? = some (ad k, e) := by
  rw [wl_get h, he]
theorem wl_in {ad : Nat → Nat} {N k : Nat} {f : Nat → va_E} {q : Nat × va_E} (h : (wl ad N f)[k]? = some q) : k < N ∧ q = (ad k, f k) := by
  have hl : k < (wl ad N f).length := (List.getElem?_eq_some_iff.mp h).1
  have hk : k < N := by simpa [wl] using hl
  rw [wl_get hk] at h
  exact ⟨hk, (Option.some.inj h).symm⟩
theorem wl_set {ad : Nat → Nat} {N k : Nat} {f : Nat → va_E} {e : va_E} : (wl ad N f).set k (ad k, e) = wl ad N (va_up f k e) := by
  apply List.ext_getElem?
  intro j
  by_cases hN : j < N
  · rw [wl_get hN]
    by_cases hj : k = j
    · subst hj
      rw [List.getElem?_set_self (by simpa [wl] using hN), va_up_self]
    · rw [List.getElem?_set_ne hj, wl_get hN, va_up_ne _ _ (Ne.symm hj)]
  · rw [List.getElem?_eq_none (by simp [wl]; omega), List.getElem?_eq_none (by simp [wl]; omega)]
def wl_inj (ad : Nat → Nat) (N : Nat) : Prop := ∀ i j, i < N → j < N → ad i = ad j → i = j
theorem wl_D {ad : Nat → Nat} {N : Nat} {f : Nat → va_E} {A : Nat → Prop} (h : wl_inj ad N) (hA : ∀ k, k < N → A (ad k)) : va_D A (wl ad N f) := by
  refine ⟨fun i j p q hp hq e => ?_, fun k q hq => ?_⟩
  · obtain ⟨h1, rfl⟩ := wl_in hp
    obtain ⟨h2, rfl⟩ := wl_in hq
    exact h i j h1 h2 e
  · obtain ⟨h1, rfl⟩ := wl_in hq
    exact hA k h1
/-- the world's fixed data: class numbers and slots; the array classes; the addresses of the cells; of the enum's constants -/
abbrev WG : Type := va_G × (ClassId × ClassId × ClassId × ClassId) × (Nat → Nat) × (Nat → Nat)
def gD (G : WG) : va_G := G.1
def gI (G : WG) : ClassId := G.2.1.1
def gZ (G : WG) : ClassId := G.2.1.2.1
def gT (G : WG) : ClassId := G.2.1.2.2.1
def gF (G : WG) : ClassId := G.2.1.2.2.2
def gA (G : WG) : Nat → Nat := G.2.2.1
def gE (G : WG) : Nat → Nat := G.2.2.2
abbrev SS : Type := Nat → Nat → Int32
def sh (G : WG) (k : Nat) (r : Nat → Int32) : va_E := match k with
  | 0 => .inr (0, [.ref (gA G 1), .ref (gA G 39), .int (r 2)])
  | 1 => .inr (1, [.ref (gA G 2), .ref (gA G 3), .ref (gA G 4), .ref (gA G 7), .ref (gA G 9), .int (r 5), .int (r 6), .int (r 7)])
  | 2 => .inl (gT G, 4, .inr (.inr (.inr (.inr (fun j => some (gA G (11 + 4 * j)))))))
  | 3 => .inl (gF G, 6, .inr (.inr (.inr (.inr (fun j => some (gA G (27 + 2 * j)))))))
  | 4 => .inr (2, [.ref (gA G 5), .ref (gA G 6), .int (r 2)])
  | 5 => .inl (gI G, 301, .inl r)
  | 6 => .inl (gI G, 301, .inl r)
  | 7 => .inr (3, [.ref (gA G 8), .int (r 1), .int (r 2)])
  | 8 => .inl (gI G, 3, .inl r)
  | 9 => .inr (4, [.ref (gA G 10), .int (r 1)])
  | 10 => .inl (gI G, 32, .inl r)
  | 11 => .inr (5, [.ref (gA G 12), .ref (gA G 13), .ref (gA G 14), .int (r 3)])
  | 15 => .inr (5, [.ref (gA G 16), .ref (gA G 17), .ref (gA G 18), .int (r 3)])
  | 19 => .inr (5, [.ref (gA G 20), .ref (gA G 21), .ref (gA G 22), .int (r 3)])
  | 23 => .inr (5, [.ref (gA G 24), .ref (gA G 25), .ref (gA G 26), .int (r 3)])
  | 12 | 13 | 14 | 16 | 17 | 18 | 20 | 21 | 22 | 24 | 25 | 26 => .inl (gI G, 32, .inl r)
  | 27 => .inr (6, [.ref (gA G 28), .int (r 1), .int (r 2), .int (r 3), .int (r 4)])
  | 29 => .inr (6, [.ref (gA G 30), .int (r 1), .int (r 2), .int (r 3), .int (r 4)])
  | 31 => .inr (6, [.ref (gA G 32), .int (r 1), .int (r 2), .int (r 3), .int (r 4)])
  | 33 => .inr (6, [.ref (gA G 34), .int (r 1), .int (r 2), .int (r 3), .int (r 4)])
  | 35 => .inr (6, [.ref (gA G 36), .int (r 1), .int (r 2), .int (r 3), .int (r 4)])
  | 37 => .inr (6, [.ref (gA G 38), .int (r 1), .int (r 2), .int (r 3), .int (r 4)])
  | 28 | 30 | 32 | 34 | 36 | 38 => .inl (gI G, 3, .inl r)
  | 39 => .inr (7, [.ref (gA G 40), .ref (gA G 41), .ref (gA G 42), .ref (gA G 43), .int (r 4)])
  | 40 => .inl (gI G, 7, .inl r)
  | 41 => .inl (gZ G, 7, .inl r)
  | 42 => .inl (gZ G, 7, .inl r)
  | 43 => .inl (gI G, 7, .inl r)
  | 44 => .inr (8, [.ref (gA G 45), .ref (gA G 46), .ref (gA G 47), .int (r 3), .ref (gA G 48), .ref (gA G 49), .ref (gA G 50), .ref (gA G 51), .int (r 8), .int (r 9), .int (r 10), .int (r 11), .int (r 12), .int (r 13), .ref (gA G 52), .ref (gA G 53), .ref (gA G 54), .ref (gA G 55), .int (r 18), .int (r 19), .int (r 20), .int (r 21), .int (r 22), .ref (gA G 56), .int (r 24)])
  | 45 | 46 => .inl (gI G, 128, .inl r)
  | 47 => .inl (gI G, 4, .inl r)
  | 48 | 49 | 50 | 51 => .inl (gI G, 80, .inl r)
  | 52 => .inl (gI G, 18, .inl r)
  | 53 => .inl (gI G, 3, .inl r)
  | 54 | 55 => .inl (gI G, 700, .inl r)
  | _ => .inl (gI G, 32, .inl r)
def fS (G : WG) (S : SS) : Nat → va_E := fun k => sh G k (S k)
def su (S : SS) (k j : Nat) (v : Int32) : SS := va_up S k (upd (S k) j v)
theorem su_same (S : SS) (k j : Nat) (v : Int32) : su S k j v k j = v := by simp [su, va_up, upd]
theorem su_cell (S : SS) {k a : Nat} (j : Nat) (v : Int32) (h : a ≠ k) : su S k j v a = S a := by simp [su, va_up, h]
theorem su_int (S : SS) {k j b : Nat} (a : Nat) (v : Int32) (h : b ≠ j) : su S k j v a b = S a b := by
  by_cases ha : a = k
  · subst ha
    simp [su, va_up, upd, h]
  · simp [su, va_up, ha]
theorem fS_up {G : WG} {S : SS} {k : Nat} {r : Nat → Int32} {e : va_E} (h : sh G k r = e) : va_up (fS G S) k e = fS G (va_up S k r) := by
  funext a
  by_cases ha : a = k
  · subst ha
    simp [va_up, fS, h]
  · simp [va_up, fS, ha]
theorem sh_T (G : WG) (r : Nat → Int32) {p : Nat} (h : p < 4) : sh G (11 + 4 * p) r = .inr (5, [.ref (gA G (12 + 4 * p)), .ref (gA G (13 + 4 * p)), .ref (gA G (14 + 4 * p)), .int (r 3)]) := by
  rcases (show p = 0 ∨ p = 1 ∨ p = 2 ∨ p = 3 by omega) with rfl | rfl | rfl | rfl <;> rfl
theorem sh_T1 (G : WG) (r : Nat → Int32) {p : Nat} (h : p < 4) : sh G (12 + 4 * p) r = .inl (gI G, 32, .inl r) := by
  rcases (show p = 0 ∨ p = 1 ∨ p = 2 ∨ p = 3 by omega) with rfl | rfl | rfl | rfl <;> rfl
theorem sh_T2 (G : WG) (r : Nat → Int32) {p : Nat} (h : p < 4) : sh G (13 + 4 * p) r = .inl (gI G, 32, .inl r) := by
  rcases (show p = 0 ∨ p = 1 ∨ p = 2 ∨ p = 3 by omega) with rfl | rfl | rfl | rfl <;> rfl
theorem sh_T3 (G : WG) (r : Nat → Int32) {p : Nat} (h : p < 4) : sh G (14 + 4 * p) r = .inl (gI G, 32, .inl r) := by
  rcases (show p = 0 ∨ p = 1 ∨ p = 2 ∨ p = 3 by omega) with rfl | rfl | rfl | rfl <;> rfl
theorem sh_F (G : WG) (r : Nat → Int32) {p : Nat} (h : p < 6) : sh G (27 + 2 * p) r = .inr (6, [.ref (gA G (28 + 2 * p)), .int (r 1), .int (r 2), .int (r 3), .int (r 4)]) := by
  rcases (show p = 0 ∨ p = 1 ∨ p = 2 ∨ p = 3 ∨ p = 4 ∨ p = 5 by omega) with rfl | rfl | rfl | rfl | rfl | rfl <;> rfl
theorem sh_F1 (G : WG) (r : Nat → Int32) {p : Nat} (h : p < 6) : sh G (28 + 2 * p) r = .inl (gI G, 3, .inl r) := by
  rcases (show p = 0 ∨ p = 1 ∨ p = 2 ∨ p = 3 ∨ p = 4 ∨ p = 5 by omega) with rfl | rfl | rfl | rfl | rfl | rfl <;> rfl
abbrev tyL (G : WG) : List (ClassId × FieldType) := [(gI G, .int), (gZ G, .boolean), (gT G, .object "EndingsLab$Text"), (gF G, .object "EndingsLab$Frame")]
abbrev enL : List String := ["ON", "BROKEN", "NEXT_TIME", "VALUE", "FAULT", "TOO_LATE"]
def AA (G : WG) : Nat → Prop := fun q => ∃ k, k < 57 ∧ gA G k = q
theorem AA_in (G : WG) : ∀ k, k < 57 → AA G (gA G k) := fun k h => ⟨k, h, rfl⟩
def isNest : Cond → Bool
  | .fieldLinkNest .. => true
  | .methodLinkNest .. => true
  | _ => false
theorem nw_nest : NW.all isNest = true := by decide +kernel
theorem nw_warm {w : Cond} (hw : isNest w = true) {s U : State} (hW : s.WarmedH U.vm) (h : va_Nw w s) : va_Nw w U := by
  cases w <;> first | exact va_Nw.warmF hW h | exact va_Nw.warmM hW h | (exfalso; revert hw; simp [isNest])
theorem nw_same {w : Cond} (hw : isNest w = true) {s U : State} (hW : s.vm = U.vm) (h : va_Nw w s) : va_Nw w U := by
  cases w <;> first | exact va_Nw.same rfl hW h | (exfalso; revert hw; simp [isNest])
/-- what stays the same all through: classes, array classes, the nest's links, the enum's constants; the cells are apart -/
def KK (G : WG) (U : State) : Prop := va_K (gD G) clsL (tyL G) U ∧ wl_inj (gA G) 57 ∧ (∀ w ∈ NW, va_Nw w U) ∧ va_En "EndingsLab$Ending" "LEndingsLab$Ending;" enL [] (gE G) (AA G) U U.heap
theorem KK.warm {G : WG} {s U : State} (h : KK G s) (hW : s.WarmedH U.vm) (hq : ∀ a : Nat, a < s.heap.size → ¬ AA G a → U.heap[a]? = s.heap[a]?) : KK G U :=
  ⟨va_K.moved hW.alike h.1, h.2.1, fun w hw => nw_warm (List.all_eq_true.mp nw_nest w hw) hW (h.2.2.1 w hw), (h.2.2.2.kept hq).moved hW.alike⟩
theorem KK.same {G : WG} {s U : State} (h : KK G s) (hv : s.vm = U.vm) (hh : s.heap = U.heap) : KK G U := by
  have ha : s.vm.Alike U.vm := by rw [hv]; exact Vm.Alike.refl _
  exact ⟨va_K.moved ha h.1, h.2.1, fun w hw => nw_same (List.all_eq_true.mp nw_nest w hw) hv (h.2.2.1 w hw), by rw [← hh]; exact h.2.2.2.moved ha⟩
def WD (G : WG) (S : SS) (U : State) : Prop := va_P (gD G) clsL (wl (gA G) 57 (fS G S)) U.heap ∧ KK G U
def Pw (G : WG) (as : List Value) (S : SS) : Array Value → State → Prop := va_Pc as (WD G S)
theorem Pw_blind (G : WG) (as : List Value) (S : SS) : FrameBlind (Pw G as S) := by
  intro a U g mk h
  exact ⟨h.1, h.2.1, h.2.2.same (U := U.calling g mk a) rfl rfl⟩
def rmF (n : Nat) : Room := { frames := n, cells := 0, slots := 0, locals := 40 * n }
theorem good_gw {w : Cond} {l : List Cond} (h : w ∈ GW) : GoodIn GW (w :: GW) := by
  intro x hx
  rcases List.mem_cons.mp hx with rfl | hx
  · exact ⟨h, good_of_word (gw_good h)⟩
  · exact ⟨hx, good_of_word (gw_good hx)⟩
end
section
/-! DERIVED ROWS over the world by places -/
def CC (G : WG) (own : String) (s : State) (m : MethodId) (args : Array Value) (A : Nat → Prop) : Prop := s.vm.findClass own = some m.cls ∧ (∀ w ∈ GW, w.before args s = true) ∧ KK G s ∧ (∀ q, AA G q → A q) ∧ (∀ q, q < s.heap.size → A q → AA G q)
section RW
variable {p : Program} {l : Launch} {e : Env} {R : Room} {s : State} {m : MethodId} {args : Array Value} {below : List Frame} {meth : Method} {c : Code} {H : Heap} {locs : List Loc} {cells slots : Nat} {Q : State → Prop}
variable {cc : ByteArray} {pc : Nat} {ls : Array Slot} {rest : List Value} {A : Nat → Prop} {G : WG} {S : SS} {own : String}
theorem CC.D (hC : CC G own s m args A) {f : Nat → va_E} : va_D A (wl (gA G) 57 f) := wl_D hC.2.2.1.2.1 (fun k h => hC.2.2.2.1 _ (AA_in G k h))
theorem CC.pre {S : SS} {as : List Value} (hC : CC G own s m args A) (hP : va_P (gD G) clsL (wl (gA G) 57 (fS G S)) H) (hS : va_S A s.heap H locs) : PreS s H (Pw G as S) as := by
  refine ⟨Pw_blind G as S, fun U hU hW => ⟨rfl, by rw [hU]; exact hP, hC.2.2.1.warm hW (fun a h1 h2 => ?_)⟩⟩
  rw [hU]
  exact hS.2.1 a h1 (fun h => h2 (hC.2.2.2.2 a h1 h))
theorem r_get (hx : p.tables.exec = Jvm.exec) (hb : c.code = cc) (hC : CC G own s m args A) (hP : va_P (gD G) clsL (wl (gA G) 57 (fS G S)) H) {C : String} {T : u_T} {N ci index : Nat} (hin : ∀ w ∈ u_ws C T N, w ∈ GW) (k : Nat) (hk : k < 57) {fs : List Value} (he : sh G k (S k) = .inr (ci, fs)) (hc : clsL[ci]? = some (C, T, N)) (j : Nat) (hj : j < N) (hl : Cond.fieldLink own index (T j).1 (T j).2.1 (T j).2.2.1 ∈ GW) {v : Value} (hv : fs[j]? = some v) (hd : decode cc pc = .ok (.getfield index, 3))
    (kk : W p l e R s m args below meth c H locs cells slots Q (F0 m (pc + 3) ls (v :: rest))) : W p l e R s m args below meth c H locs cells slots Q (F0 m pc ls (.ref (gA G k) :: rest)) :=
  va_get (D := gD G) (ci := ci) (C := C) (T := T) (N := N) hx hb hC.2.1 hin hC.1 hC.2.2.1.1 hP k (wl_at hk he) hc j hj (hC.2.1 _ hl) (fun _ h => h) hv hd kk
theorem r_getN (hx : p.tables.exec = Jvm.exec) (hb : c.code = cc) (hC : CC G own s m args A) (hP : va_P (gD G) clsL (wl (gA G) 57 (fS G S)) H) {C host : String} {T : u_T} {N ci index : Nat} (hin : ∀ w ∈ u_ws C T N, w ∈ GW) (k : Nat) (hk : k < 57) {fs : List Value} (he : sh G k (S k) = .inr (ci, fs)) (hc : clsL[ci]? = some (C, T, N)) (j : Nat) (hj : j < N) (hl : Cond.fieldLinkNest own index (T j).1 (T j).2.1 (T j).2.2.1 host ∈ NW) {v : Value} (hv : fs[j]? = some v) (hd : decode cc pc = .ok (.getfield index, 3))
    (kk : W p l e R s m args below meth c H locs cells slots Q (F0 m (pc + 3) ls (v :: rest))) : W p l e R s m args below meth c H locs cells slots Q (F0 m pc ls (.ref (gA G k) :: rest)) :=
  va_getN (D := gD G) (ci := ci) (C := C) (T := T) (N := N) hx hb hC.2.1 hin hC.1 hC.2.2.1.1 hP k (wl_at hk he) hc j hj (va_Nw.use rfl (hC.2.2.1.2.2.1 _ hl)) (fun _ h => h) hv hd kk
theorem r_put (hx : p.tables.exec = Jvm.exec) (hb : c.code = cc) (hC : CC G own s m args A) (hP : va_P (gD G) clsL (wl (gA G) 57 (fS G S)) H) (hS : va_S A s.heap H locs) {C : String} {T : u_T} {N ci index : Nat} (hin : ∀ w ∈ u_ws C T N, w ∈ GW) (ty0 : Nat → FieldType) (hty : ∀ k, k < N → parseFieldDescriptor (T k).2.2.1 = some (ty0 k)) (hnm : ∀ a, a < N → ∀ b, b < N → a ≠ b → (T a).2.1 ≠ (T b).2.1) (k : Nat) (hk : k < 57) {fs : List Value} (he : sh G k (S k) = .inr (ci, fs)) (hc : clsL[ci]? = some (C, T, N)) (j : Nat) (hj : j < N) (hl : Cond.fieldLink own index (T j).1 (T j).2.1 (T j).2.2.1 ∈ GW) (hfin : (T j).2.2.2 = false) (htI : ty0 j = .int) {v : Int32} (he2 : sh G k (upd (S k) j v) = .inr (ci, fs.set j (.int v))) (hlen : j < fs.length) (hd : decode cc pc = .ok (.putfield index, 3))
    (kk : ∀ (H1 : Heap) (locs1 : List Loc), va_P (gD G) clsL (wl (gA G) 57 (fS G (su S k j v))) H1 → va_S A s.heap H1 locs1 → W p l e R s m args below meth c H1 locs1 cells slots Q (F0 m (pc + 3) ls rest)) : W p l e R s m args below meth c H locs cells slots Q (F0 m pc ls (.int v :: .ref (gA G k) :: rest)) := by
  refine va_put (D := gD G) (ci := ci) (v := .int v) (ty := .int) (C := C) (T := T) (N := N) hx hb hC.2.1 hin ty0 hty hnm hC.1 hC.2.2.1.1 hP hC.D hS k (wl_at hk he) hc j hj (hC.2.1 _ hl) (fun _ h => h) hfin (by rw [hty j hj, htI]) rfl rfl hlen hd (fun H1 locs1 hP1 _ hS1 => kk H1 locs1 ?_ hS1)
  rw [wl_set, fS_up he2] at hP1
  exact hP1
theorem r_putN (hx : p.tables.exec = Jvm.exec) (hb : c.code = cc) (hC : CC G own s m args A) (hP : va_P (gD G) clsL (wl (gA G) 57 (fS G S)) H) (hS : va_S A s.heap H locs) {C host : String} {T : u_T} {N ci index : Nat} (hin : ∀ w ∈ u_ws C T N, w ∈ GW) (ty0 : Nat → FieldType) (hty : ∀ k, k < N → parseFieldDescriptor (T k).2.2.1 = some (ty0 k)) (hnm : ∀ a, a < N → ∀ b, b < N → a ≠ b → (T a).2.1 ≠ (T b).2.1) (k : Nat) (hk : k < 57) {fs : List Value} (he : sh G k (S k) = .inr (ci, fs)) (hc : clsL[ci]? = some (C, T, N)) (j : Nat) (hj : j < N) (hl : Cond.fieldLinkNest own index (T j).1 (T j).2.1 (T j).2.2.1 host ∈ NW) (hfin : (T j).2.2.2 = false) (htI : ty0 j = .int) {v : Int32} (he2 : sh G k (upd (S k) j v) = .inr (ci, fs.set j (.int v))) (hlen : j < fs.length) (hd : decode cc pc = .ok (.putfield index, 3))
    (kk : ∀ (H1 : Heap) (locs1 : List Loc), va_P (gD G) clsL (wl (gA G) 57 (fS G (su S k j v))) H1 → va_S A s.heap H1 locs1 → W p l e R s m args below meth c H1 locs1 cells slots Q (F0 m (pc + 3) ls rest)) : W p l e R s m args below meth c H locs cells slots Q (F0 m pc ls (.int v :: .ref (gA G k) :: rest)) := by
  refine va_putN (D := gD G) (ci := ci) (v := .int v) (ty := .int) (C := C) (T := T) (N := N) hx hb hC.2.1 hin ty0 hty hnm hC.1 hC.2.2.1.1 hP hC.D hS k (wl_at hk he) hc j hj (va_Nw.use rfl (hC.2.2.1.2.2.1 _ hl)) (fun _ h => h) hfin (by rw [hty j hj, htI]) rfl rfl hlen hd (fun H1 locs1 hP1 _ hS1 => kk H1 locs1 ?_ hS1)
  rw [wl_set, fS_up he2] at hP1
  exact hP1
theorem r_ild (hx : p.tables.exec = Jvm.exec) (hb : c.code = cc) (hC : CC G own s m args A) (hP : va_P (gD G) clsL (wl (gA G) 57 (fS G S)) H) (k : Nat) (hk : k < 57) {n : Nat} (he : sh G k (S k) = .inl (gI G, n, .inl (S k))) {i : Int32} (j : Nat) (hi : i = nI j) (hj : j < n) (hn : n < 2 ^ 31) (hd : decode cc pc = .ok (.iaload, 1))
    (kk : W p l e R s m args below meth c H locs cells slots Q (F0 m (pc + 1) ls (.int (S k j) :: rest))) : W p l e R s m args below meth c H locs cells slots Q (F0 m pc ls (.int i :: .ref (gA G k) :: rest)) := by
  subst hi
  refine va_iald (D := gD G) hx hb hC.2.2.1.1 hP k 0 (wl_at hk he) rfl (vp_in_nI hj hn) hd ?_
  rw [nI_clamp (Nat.lt_trans hj hn)]
  exact kk
theorem r_zld (hx : p.tables.exec = Jvm.exec) (hb : c.code = cc) (hC : CC G own s m args A) (hP : va_P (gD G) clsL (wl (gA G) 57 (fS G S)) H) (k : Nat) (hk : k < 57) {n : Nat} (he : sh G k (S k) = .inl (gZ G, n, .inl (S k))) {i : Int32} (j : Nat) (hi : i = nI j) (hj : j < n) (hn : n < 2 ^ 31) (hd : decode cc pc = .ok (.baload, 1))
    (kk : W p l e R s m args below meth c H locs cells slots Q (F0 m (pc + 1) ls (.int (S k j) :: rest))) : W p l e R s m args below meth c H locs cells slots Q (F0 m pc ls (.int i :: .ref (gA G k) :: rest)) := by
  subst hi
  refine va_zald (D := gD G) hx hb hC.2.2.1.1 hP k 1 (wl_at hk he) rfl (vp_in_nI hj hn) hd ?_
  rw [nI_clamp (Nat.lt_trans hj hn)]
  exact kk
theorem r_ist (hx : p.tables.exec = Jvm.exec) (hb : c.code = cc) (hC : CC G own s m args A) (hP : va_P (gD G) clsL (wl (gA G) 57 (fS G S)) H) (hS : va_S A s.heap H locs) (k : Nat) (hk : k < 57) {n : Nat} (he : ∀ r : Nat → Int32, sh G k r = .inl (gI G, n, .inl r)) {i v : Int32} (j : Nat) (hi : i = nI j) (hj : j < n) (hn : n < 2 ^ 31) (hd : decode cc pc = .ok (.iastore, 1))
    (kk : ∀ (H1 : Heap) (locs1 : List Loc), va_P (gD G) clsL (wl (gA G) 57 (fS G (su S k j v))) H1 → va_S A s.heap H1 locs1 → W p l e R s m args below meth c H1 locs1 cells slots Q (F0 m (pc + 1) ls rest)) : W p l e R s m args below meth c H locs cells slots Q (F0 m pc ls (.int v :: .int i :: .ref (gA G k) :: rest)) := by
  subst hi
  refine va_iast (D := gD G) hx hb hC.2.2.1.1 hP hC.D hS k 0 (wl_at hk (he (S k))) rfl (vp_in_nI hj hn) hd (fun H1 locs1 hP1 _ hS1 => kk H1 locs1 ?_ hS1)
  rw [nI_clamp (Nat.lt_trans hj hn), wl_set, fS_up (he _)] at hP1
  exact hP1
theorem r_zst (hx : p.tables.exec = Jvm.exec) (hb : c.code = cc) (hC : CC G own s m args A) (hP : va_P (gD G) clsL (wl (gA G) 57 (fS G S)) H) (hS : va_S A s.heap H locs) (k : Nat) (hk : k < 57) {n : Nat} (he : ∀ r : Nat → Int32, sh G k r = .inl (gZ G, n, .inl r)) {i v : Int32} (j : Nat) (hi : i = nI j) (hj : j < n) (hn : n < 2 ^ 31) (hv : vp_nar .boolean v = v) (hd : decode cc pc = .ok (.bastore, 1))
    (kk : ∀ (H1 : Heap) (locs1 : List Loc), va_P (gD G) clsL (wl (gA G) 57 (fS G (su S k j v))) H1 → va_S A s.heap H1 locs1 → W p l e R s m args below meth c H1 locs1 cells slots Q (F0 m (pc + 1) ls rest)) : W p l e R s m args below meth c H locs cells slots Q (F0 m pc ls (.int v :: .int i :: .ref (gA G k) :: rest)) := by
  subst hi
  refine va_zast (D := gD G) hx hb hC.2.2.1.1 hP hC.D hS k 1 (wl_at hk (he (S k))) rfl (vp_in_nI hj hn) hd (fun H1 locs1 hP1 _ hS1 => kk H1 locs1 ?_ hS1)
  rw [hv, nI_clamp (Nat.lt_trans hj hn), wl_set, fS_up (he _)] at hP1
  exact hP1
theorem r_text (hx : p.tables.exec = Jvm.exec) (hb : c.code = cc) (hC : CC G own s m args A) (hP : va_P (gD G) clsL (wl (gA G) 57 (fS G S)) H) {i : Int32} (j : Nat) (hi : i = nI j) (hj : j < 4) (hd : decode cc pc = .ok (.aaload, 1))
    (kk : W p l e R s m args below meth c H locs cells slots Q (F0 m (pc + 1) ls (.ref (gA G (11 + 4 * j)) :: rest))) : W p l e R s m args below meth c H locs cells slots Q (F0 m pc ls (.int i :: .ref (gA G 2) :: rest)) := by
  subst hi
  refine va_aldq (D := gD G) (C := "EndingsLab$Text") hx hb hC.2.2.1.1 hP 2 2 (wl_at (by decide) rfl) rfl (vp_in_nI hj (by decide)) hd ?_
  rw [nI_clamp (Nat.lt_trans hj (by decide))]
  exact kk
theorem r_frame (hx : p.tables.exec = Jvm.exec) (hb : c.code = cc) (hC : CC G own s m args A) (hP : va_P (gD G) clsL (wl (gA G) 57 (fS G S)) H) {i : Int32} (j : Nat) (hi : i = nI j) (hj : j < 6) (hd : decode cc pc = .ok (.aaload, 1))
    (kk : W p l e R s m args below meth c H locs cells slots Q (F0 m (pc + 1) ls (.ref (gA G (27 + 2 * j)) :: rest))) : W p l e R s m args below meth c H locs cells slots Q (F0 m pc ls (.int i :: .ref (gA G 3) :: rest)) := by
  subst hi
  refine va_aldq (D := gD G) (C := "EndingsLab$Frame") hx hb hC.2.2.1.1 hP 3 3 (wl_at (by decide) rfl) rfl (vp_in_nI hj (by decide)) hd ?_
  rw [nI_clamp (Nat.lt_trans hj (by decide))]
  exact kk
theorem r_enum (hx : p.tables.exec = Jvm.exec) (hb : c.code = cc) (hC : CC G own s m args A) (hS : va_S A s.heap H locs) (i : Nat) (hi : i < 6) {index : Nat} (hl : Cond.fieldLink own index "EndingsLab$Ending" (enL.getD i "") "LEndingsLab$Ending;" ∈ GW) (hd : decode cc pc = .ok (.getstatic index, 3))
    (kk : W p l e R s m args below meth c H locs cells slots Q (F0 m (pc + 3) ls (.ref (gE G i) :: rest))) : W p l e R s m args below meth c H locs cells slots Q (F0 m pc ls rest) := by
  have hZ := ((hC.2.2.1.2.2.2).1 i hi).1
  obtain ⟨cf, kf, fi, f, a, cell, h1, h2, h3, h4, h5, h6, h7, h8⟩ := hZ
  have hlt := (Array.getElem?_eq_some_iff.mp h5).1
  exact va_gets (C := "EndingsLab$Ending") hx hb ⟨cf, kf, fi, f, a, cell, h1, h2, h3, h4, h5, h6, h7, fun z => h8 (hC.2.2.2.2 a hlt z)⟩ hS hC.1 (hC.2.1 _ hl) (fun _ h => h) hd kk

theorem r_recv (hC : CC G own s m args A) (hP : va_P (gD G) clsL (wl (gA G) 57 (fS G S)) H) {k ci : Nat} {fs : List Value} {C : String} {T : u_T} {N : Nat} (hk : k < 57) (he : sh G k (S k) = .inr (ci, fs)) (hc : clsL[ci]? = some (C, T, N)) : ∃ cell : Cell, H[gA G k]? = some cell ∧ cell.vm.isStatics = false ∧ s.vm.findClass C = some cell.cls :=
  va_recv hC.2.2.1.1 hP hc (wl_at hk he)
theorem r_runV {y : MethodName} {bb : ByteArray} {n nL h idx np : Nat} {rt : Option FieldType} {As : List Value} {Qc : Array Value → State → Outcome → State → Prop} (hx : p.tables.exec = Jvm.exec) (hb : c.code = cc) (hml : c.maxLocals = nL) (hC : CC G own s m args A) (hP : va_P (gD G) clsL (wl (gA G) 57 (fS G S)) H) (hS : va_S A s.heap H locs) {k ci : Nat} {fs : List Value} {T : u_T} {N : Nat} (hk : k < 57) (he : sh G k (S k) = .inr (ci, fs)) (hc : clsL[ci]? = some (y.cls, T, N)) (hM : Met l y (wsM y bb n rt) (rmF h) (Pw G (.ref (gA G k) :: As) S) Qc 0 0 (AA G)) (hl : Cond.methodLink own idx y ∈ GW) (him : Cond.instanceMethod y ∈ GW) (hse : Cond.selects y.cls y y ∈ GW) (hini : Cond.initialized y.cls ∈ GW) (hco : Cond.code y bb n rt ∈ GW) (hy : y.cls ≠ "java/lang/invoke/MethodHandle" ∧ y.cls ≠ "java/lang/invoke/VarHandle" ∧ (parseMethodDescriptor y.desc).map (fun d => d.parameters.length) = some np) (hR : h + 1 ≤ R.frames ∧ 8 + (n + 11) + 40 * h ≤ R.locals) (hnp : As.length = np) (hls : ls.size = nL) (hrs : (rest.map fun v => v.category).sum ≤ 8) (hd : decode cc pc = .ok (.invokevirtual idx, 3)) (hcs : cells ≤ R.cells ∧ slots ≤ R.slots) :
    va_Run p l e R s m args below meth c H locs cells slots 0 0 (F0 m pc ls (As.reverse ++ .ref (gA G k) :: rest)) rest (Qc (Value.ref (gA G k) :: As).toArray) (AA G) := by
  have hGI : GoodIn GW (wsM y bb n rt) := good_gw (l := []) hco
  have hcb : CallB R s args own idx y bb n rt (wsM y bb n rt) (rmF h) 0 0 np := callB_of np hC.2.1 hGI rfl rfl rfl (hC.2.1 _ hini) (hC.2.1 _ hl) hy hR
  exact va_runV (C := y.cls) ⟨hx, hb, hml, hC.1, hC.2.1⟩ hM ⟨hcb, hC.2.1 _ him, hC.2.1 _ hse⟩ ⟨Pw_blind _ _ _, r_recv hC hP hk he hc, (hC.pre hP hS).2⟩ rfl hnp hls rfl (lv_room hrs) hd hcs
theorem r_runS {y : MethodName} {bb : ByteArray} {n nL h idx np : Nat} {rt : Option FieldType} {As : List Value} {Qc : Array Value → State → Outcome → State → Prop} (hx : p.tables.exec = Jvm.exec) (hb : c.code = cc) (hml : c.maxLocals = nL) (hC : CC G own s m args A) (hP : va_P (gD G) clsL (wl (gA G) 57 (fS G S)) H) (hS : va_S A s.heap H locs) (hM : Met l y (wsM y bb n rt) (rmF h) (Pw G As S) Qc 0 0 (AA G)) (hl : Cond.methodLink own idx y ∈ GW) (hst : Cond.static y ∈ GW) (hini : Cond.initialized y.cls ∈ GW) (hco : Cond.code y bb n rt ∈ GW) (hy : y.cls ≠ "java/lang/invoke/MethodHandle" ∧ y.cls ≠ "java/lang/invoke/VarHandle" ∧ (parseMethodDescriptor y.desc).map (fun d => d.parameters.length) = some np) (hR : h + 1 ≤ R.frames ∧ 8 + (n + 11) + 40 * h ≤ R.locals) (hnp : As.length = np) (hls : ls.size = nL) (hrs : (rest.map fun v => v.category).sum ≤ 8) (hd : decode cc pc = .ok (.invokestatic idx, 3)) (hcs : cells ≤ R.cells ∧ slots ≤ R.slots) :
    va_Run p l e R s m args below meth c H locs cells slots 0 0 (F0 m pc ls (As.reverse ++ rest)) rest (Qc As.toArray) (AA G) := by
  have hGI : GoodIn GW (wsM y bb n rt) := good_gw (l := []) hco
  have hcb : CallB R s args own idx y bb n rt (wsM y bb n rt) (rmF h) 0 0 np := callB_of np hC.2.1 hGI rfl rfl rfl (hC.2.1 _ hini) (hC.2.1 _ hl) hy hR
  exact va_runS ⟨hx, hb, hml, hC.1, hC.2.1⟩ hM ⟨hcb, hC.2.1 _ hst⟩ (hC.pre hP hS) rfl hnp hls rfl (lv_room hrs) hd hcs
theorem r_runSN {y : MethodName} {bb : ByteArray} {n nL h idx np : Nat} {rt : Option FieldType} {As : List Value} {Qc : Array Value → State → Outcome → State → Prop} {host : String} (hx : p.tables.exec = Jvm.exec) (hb : c.code = cc) (hml : c.maxLocals = nL) (hC : CC G own s m args A) (hP : va_P (gD G) clsL (wl (gA G) 57 (fS G S)) H) (hS : va_S A s.heap H locs) (hM : Met l y (wsM y bb n rt) (rmF h) (Pw G As S) Qc 0 0 (AA G)) (hl : Cond.methodLinkNest own idx y host ∈ NW) (hst : Cond.static y ∈ GW) (hini : Cond.initialized y.cls ∈ GW) (hco : Cond.code y bb n rt ∈ GW) (hy : y.cls ≠ "java/lang/invoke/MethodHandle" ∧ y.cls ≠ "java/lang/invoke/VarHandle" ∧ (parseMethodDescriptor y.desc).map (fun d => d.parameters.length) = some np) (hR : h + 1 ≤ R.frames ∧ 8 + (n + 11) + 40 * h ≤ R.locals) (hnp : As.length = np) (hls : ls.size = nL) (hrs : (rest.map fun v => v.category).sum ≤ 8) (hd : decode cc pc = .ok (.invokestatic idx, 3)) (hcs : cells ≤ R.cells ∧ slots ≤ R.slots) :
    va_Run p l e R s m args below meth c H locs cells slots 0 0 (F0 m pc ls (As.reverse ++ rest)) rest (Qc As.toArray) (AA G) := by
  have hGI : GoodIn GW (wsM y bb n rt) := good_gw (l := []) hco
  have hcn := va_cnB (R := R) (host := host) (index := idx) np hC.2.1 hGI rfl (rm := rmF h) rfl rfl (hC.2.2.1.2.2.1 _ hl) (hC.2.1 _ hini) hy hR
  exact va_runSN ⟨hx, hb, hml, hC.1, hC.2.1⟩ hM ⟨hcn, hC.2.1 _ hst, trivial⟩ (hC.pre hP hS) rfl hnp hls rfl (lv_room hrs) hd hcs
theorem r_i {a : Array Value} {st0 : List Value} {post : Int32 → SS → Prop} (hC : CC G own s m args A) (hS : va_S A s.heap H locs) (hr : va_Run p l e R s m args below meth c H locs cells slots 0 0 (F0 m pc ls st0) rest (va_Qi post (WD G) (AA G) a) (AA G))
    (kk : ∀ (r : Int32) (S1 : SS) (H1 : Heap) (locs1 : List Loc), post r S1 → va_P (gD G) clsL (wl (gA G) 57 (fS G S1)) H1 → va_S A s.heap H1 locs1 → W p l e R s m args below meth c H1 locs1 cells slots Q (F0 m (pc + 3) ls (.int r :: rest))) : W p l e R s m args below meth c H locs cells slots Q (F0 m pc ls st0) :=
  va_calli hr hS (fun q _ h => hC.2.2.2.1 q h) hC.2.2.2.1 (fun r u t H1 locs1 ht _ hw hB _ _ hS1 => kk r u H1 locs1 hw (by rw [← ht]; exact hB.1) hS1)
theorem r_v {a : Array Value} {st0 : List Value} {post : SS → Prop} (hC : CC G own s m args A) (hS : va_S A s.heap H locs) (hr : va_Run p l e R s m args below meth c H locs cells slots 0 0 (F0 m pc ls st0) rest (va_Qv post (WD G) (AA G) a) (AA G))
    (kk : ∀ (S1 : SS) (H1 : Heap) (locs1 : List Loc), post S1 → va_P (gD G) clsL (wl (gA G) 57 (fS G S1)) H1 → va_S A s.heap H1 locs1 → W p l e R s m args below meth c H1 locs1 cells slots Q (F0 m (pc + 3) ls rest)) : W p l e R s m args below meth c H locs cells slots Q (F0 m pc ls st0) :=
  va_callv hr hS (fun q _ h => hC.2.2.2.1 q h) hC.2.2.2.1 (fun u t H1 locs1 ht _ hw hB _ _ hS1 => kk u H1 locs1 hw (by rw [← ht]; exact hB.1) hS1)
theorem r_e {a : Array Value} {st0 : List Value} {post : Nat → SS → Prop} (hC : CC G own s m args A) (hS : va_S A s.heap H locs) (hr : va_Run p l e R s m args below meth c H locs cells slots 0 0 (F0 m pc ls st0) rest (va_Qr (S := Nat × SS) (fun u => u.1 < 6 ∧ post u.1 u.2) (fun u b t => b = gE G u.1 ∧ WD G u.2 t) (AA G) a) (AA G))
    (kk : ∀ (i : Nat) (S1 : SS) (H1 : Heap) (locs1 : List Loc), i < 6 → post i S1 → va_P (gD G) clsL (wl (gA G) 57 (fS G S1)) H1 → va_S A s.heap H1 locs1 → W p l e R s m args below meth c H1 locs1 cells slots Q (F0 m (pc + 3) ls (.ref (gE G i) :: rest))) : W p l e R s m args below meth c H locs cells slots Q (F0 m pc ls st0) :=
  va_callr hr hS (fun q _ h => hC.2.2.2.1 q h) hC.2.2.2.1 (fun u b t H1 locs1 ht _ hw hB _ _ hS1 => by
    obtain ⟨rfl, hB1, hB2⟩ := hB
    exact kk u.1 u.2 H1 locs1 hw.1 hw.2 (by rw [← ht]; exact hB1) hS1)
theorem r_r {a : Array Value} {st0 : List Value} {post : Nat → SS → Prop} (hC : CC G own s m args A) (hS : va_S A s.heap H locs) (hr : va_Run p l e R s m args below meth c H locs cells slots 0 0 (F0 m pc ls st0) rest (va_Qr (S := Nat × SS) (fun u => post u.1 u.2) (fun u b t => b = gA G u.1 ∧ WD G u.2 t) (AA G) a) (AA G))
    (kk : ∀ (i : Nat) (S1 : SS) (H1 : Heap) (locs1 : List Loc), post i S1 → va_P (gD G) clsL (wl (gA G) 57 (fS G S1)) H1 → va_S A s.heap H1 locs1 → W p l e R s m args below meth c H1 locs1 cells slots Q (F0 m (pc + 3) ls (.ref (gA G i) :: rest))) : W p l e R s m args below meth c H locs cells slots Q (F0 m pc ls st0) :=
  va_callr hr hS (fun q _ h => hC.2.2.2.1 q h) hC.2.2.2.1 (fun u b t H1 locs1 ht _ hw hB _ _ hS1 => by
    obtain ⟨rfl, hB1, hB2⟩ := hB
    exact kk u.1 u.2 H1 locs1 hw (by rw [← ht]; exact hB1) hS1)

theorem CC.wd (hC : CC G own s m args A) (hP : va_P (gD G) clsL (wl (gA G) 57 (fS G S)) H) (hS : va_S A s.heap H locs) {t : State} (ht : t.heap = H) (hW : s.WarmedH t.vm) : WD G S t := by
  refine ⟨by rw [ht]; exact hP, hC.2.2.1.warm hW (fun a h1 h2 => ?_)⟩
  rw [ht]
  exact hS.2.1 a h1 (fun h => h2 (hC.2.2.2.2 a h1 h))
end RW
section RE
variable {p : Program} {l : Launch} {e : Env} {R : Room} {s : State} {m : MethodId} {args : Array Value} {below : List Frame} {meth : Method} {c : Code} {H : Heap} {locs : List Loc} {cells slots : Nat}
variable {cc : ByteArray} {pc : Nat} {ls : Array Slot} {G : WG} {S : SS} {own : String}
theorem e_i {v : Int32} {post : Int32 → SS → Prop} (hx : p.tables.exec = Jvm.exec) (hb : c.code = cc) (hr : meth.sig.returnType = some .int) (hlk : meth.locks = false) (hC : CC G own s m args (AA G)) (hP : va_P (gD G) clsL (wl (gA G) 57 (fS G S)) H) (hS : va_S (AA G) s.heap H locs) (hd : decode cc pc = .ok (.ireturn, 1)) (hp : post v S) : W p l e R s m args below meth c H locs cells slots (MQ below (va_Qi post (WD G) (AA G)) args s cells slots (AA G)) (F0 m pc ls [.int v]) :=
  W.iret (v := v) hx hb hr (fun t ht hW => ⟨⟨v, S, rfl, hp, hC.wd hP hS ht hW⟩, hS.F ht⟩) hS.2.2 hd hlk
theorem e_z {v : Int32} {post : Int32 → SS → Prop} (hx : p.tables.exec = Jvm.exec) (hb : c.code = cc) (hr : meth.sig.returnType = some .boolean) (hlk : meth.locks = false) (hC : CC G own s m args (AA G)) (hP : va_P (gD G) clsL (wl (gA G) 57 (fS G S)) H) (hS : va_S (AA G) s.heap H locs) (hd : decode cc pc = .ok (.ireturn, 1)) (hn : narrow .boolean (.int v) = .int v) (hp : post v S) : W p l e R s m args below meth c H locs cells slots (MQ below (va_Qi post (WD G) (AA G)) args s cells slots (AA G)) (F0 m pc ls [.int v]) :=
  W.zret (v := v) hx hb hr hn (fun t ht hW => ⟨⟨v, S, rfl, hp, hC.wd hP hS ht hW⟩, hS.F ht⟩) hS.2.2 hd hlk
theorem e_v {post : SS → Prop} (hx : p.tables.exec = Jvm.exec) (hb : c.code = cc) (hr : meth.sig.returnType = none) (hlk : meth.locks = false) (hC : CC G own s m args (AA G)) (hP : va_P (gD G) clsL (wl (gA G) 57 (fS G S)) H) (hS : va_S (AA G) s.heap H locs) (hd : decode cc pc = .ok (.return_, 1)) (hp : post S) : W p l e R s m args below meth c H locs cells slots (MQ below (va_Qv post (WD G) (AA G)) args s cells slots (AA G)) (F0 m pc ls []) :=
  W.vret hx hb hr (fun t ht hW => ⟨⟨S, rfl, hp, hC.wd hP hS ht hW⟩, hS.F ht⟩) hS.2.2 hd hlk
theorem e_e {i : Nat} {n : String} {post : Nat → SS → Prop} (hx : p.tables.exec = Jvm.exec) (hb : c.code = cc) (hr : meth.sig.returnType = some (.object n)) (hlk : meth.locks = false) (hC : CC G own s m args (AA G)) (hP : va_P (gD G) clsL (wl (gA G) 57 (fS G S)) H) (hS : va_S (AA G) s.heap H locs) (hd : decode cc pc = .ok (.areturn, 1)) (hi : i < 6) (hp : post i S) : W p l e R s m args below meth c H locs cells slots (MQ below (va_Qr (S := Nat × SS) (fun u => u.1 < 6 ∧ post u.1 u.2) (fun u b t => b = gE G u.1 ∧ WD G u.2 t) (AA G)) args s cells slots (AA G)) (F0 m pc ls [.ref (gE G i)]) :=
  W.aret (v := .ref (gE G i)) hx hb hr (Or.inl ⟨_, rfl⟩) (Or.inr ⟨_, rfl⟩) (fun t ht hW => ⟨⟨(i, S), gE G i, rfl, ⟨hi, hp⟩, rfl, hC.wd hP hS ht hW⟩, hS.F ht⟩) hS.2.2 hd hlk
theorem e_r {i : Nat} {n : String} {post : Nat → SS → Prop} (hx : p.tables.exec = Jvm.exec) (hb : c.code = cc) (hr : meth.sig.returnType = some (.object n)) (hlk : meth.locks = false) (hC : CC G own s m args (AA G)) (hP : va_P (gD G) clsL (wl (gA G) 57 (fS G S)) H) (hS : va_S (AA G) s.heap H locs) (hd : decode cc pc = .ok (.areturn, 1)) (hp : post i S) : W p l e R s m args below meth c H locs cells slots (MQ below (va_Qr (S := Nat × SS) (fun u => post u.1 u.2) (fun u b t => b = gA G u.1 ∧ WD G u.2 t) (AA G)) args s cells slots (AA G)) (F0 m pc ls [.ref (gA G i)]) :=
  W.aret (v := .ref (gA G i)) hx hb hr (Or.inl ⟨_, rfl⟩) (Or.inr ⟨_, rfl⟩) (fun t ht hW => ⟨⟨(i, S), gA G i, rfl, hp, rfl, hC.wd hP hS ht hW⟩, hS.F ht⟩) hS.2.2 hd hlk
end RE
/-- contracts: an int, nothing, a constant of the enum, a cell -/
def Ci (l : Launch) (y : MethodName) (bb : ByteArray) (n : Nat) (rt : Option FieldType) (h : Nat) (G : WG) (as : List Value) (S : SS) (post : Int32 → SS → Prop) : Prop := Met l y (wsM y bb n rt) (rmF h) (Pw G as S) (va_Qi post (WD G) (AA G)) 0 0 (AA G)
def Cv (l : Launch) (y : MethodName) (bb : ByteArray) (n : Nat) (h : Nat) (G : WG) (as : List Value) (S : SS) (post : SS → Prop) : Prop := Met l y (wsM y bb n none) (rmF h) (Pw G as S) (va_Qv post (WD G) (AA G)) 0 0 (AA G)
def Ce (l : Launch) (y : MethodName) (bb : ByteArray) (n : Nat) (h : Nat) (G : WG) (as : List Value) (S : SS) (post : Nat → SS → Prop) : Prop := Met l y (wsM y bb n (some (.object "EndingsLab$Ending"))) (rmF h) (Pw G as S) (va_Qr (S := Nat × SS) (fun u => u.1 < 6 ∧ post u.1 u.2) (fun u b t => b = gE G u.1 ∧ WD G u.2 t) (AA G)) 0 0 (AA G)
def Cr (l : Launch) (y : MethodName) (bb : ByteArray) (n : Nat) (rt : Option FieldType) (h : Nat) (G : WG) (as : List Value) (S : SS) (post : Nat → SS → Prop) : Prop := Met l y (wsM y bb n rt) (rmF h) (Pw G as S) (va_Qr (S := Nat × SS) (fun u => post u.1 u.2) (fun u b t => b = gA G u.1 ∧ WD G u.2 t) (AA G)) 0 0 (AA G)
end
section
/-! A contract from its walk; booleans; the enum's constants apart -/
theorem mk (l : Launch) {y : MethodName} {bb : ByteArray} {n h : Nat} {rt : Option FieldType} {G : WG} {as : List Value} {S : SS} {Qc : Array Value → State → Outcome → State → Prop} (hy : plainName y.cls = true) (hn : (lg_sl as).length ≤ n)
    (body : ∀ (p : Program) (e : Env) (s : State) (m : MethodId) (below : List Frame) (meth : Method) (c : Code) (ls : Array Slot), p.tables.exec = Jvm.exec → c.code = bb → meth.sig.returnType = rt → meth.locks = false → c.maxLocals = n → CC G y.cls s m as.toArray (AA G) → va_P (gD G) clsL (wl (gA G) 57 (fS G S)) s.heap → va_S (AA G) s.heap s.heap [] → lv_has ls n (lv_args 0 as) →
      W p l e (rmF h) s m as.toArray below meth c s.heap [] 0 0 (MQ below Qc as.toArray s 0 0 (AA G)) (F0 m 0 ls [])) : Met l y (wsM y bb n rt) (rmF h) (Pw G as S) Qc 0 0 (AA G) := by
  refine Met.ofW (cc := bb) (maxL := n) (ret := rt) hy rfl ?_
  intro p e s m args below meth c s₁ B hml hv
  obtain ⟨rfl, hP, hKK⟩ := hv
  have hC : CC G y.cls s m as.toArray (AA G) := ⟨findClass_of_methodNamed B.named, fun w h => atoms_spec (ws := wsM y bb n rt) B.pre w (List.mem_cons_of_mem _ h), hKK, fun _ h => h, fun _ _ h => h⟩
  have hl := lv_entry as (n := n) hn
  rw [lg_entry_eq]
  generalize (lg_sl as ++ List.replicate (n - (lg_sl as).length) Slot.unset).toArray = ls at hl ⊢
  exact body p e s m below meth c ls B.exec B.bytes B.returns B.notSynchronized hml hC hP va_S.rf hl
def b2i (b : Bool) : Int32 := if b then 1 else 0
theorem b2i_nar (b : Bool) : narrow .boolean (.int (b2i b)) = .int (b2i b) := by cases b <;> rfl
theorem b2i_vn (b : Bool) : vp_nar .boolean (b2i b) = b2i b := by cases b <;> rfl
theorem b2i_f {b : Bool} (h : b2i b = 0) : b = false := by cases b <;> first | rfl | exact absurd h (by decide)
theorem b2i_t {b : Bool} (h : ¬ b2i b = 0) : b = true := by cases b <;> first | rfl | exact absurd rfl h
theorem gE_eq {G : WG} {U : State} (h : KK G U) {i j : Nat} (hi : i < 6) (hj : j < 6) (e : some (gE G i) = some (gE G j)) : i = j := h.2.2.2.2 i j hi hj (Option.some.inj e)
theorem gE_ne {G : WG} {i j : Nat} (e : ¬ some (gE G i) = some (gE G j)) : i ≠ j := fun h => e (by rw [h])
theorem i32_le_of {a b : Int32} (h : ¬ a < b) : b ≤ a := Int32.not_lt.mp h
theorem q_le {x y : Int32} {a b : Nat} (hx : x = nI a) (hy : y = nI b) (ha : a < 2 ^ 31) (hb : b < 2 ^ 31) : x ≤ y ↔ a ≤ b := by
  subst hx; subst hy
  exact nI_leI ha hb
theorem q_lt {x y : Int32} {a b : Nat} (hx : x = nI a) (hy : y = nI b) (ha : a < 2 ^ 31) (hb : b < 2 ^ 31) : x < y ↔ a < b := by
  subst hx; subst hy
  exact nI_ltI ha hb
theorem q_eq {x y : Int32} {a b : Nat} (hx : x = nI a) (hy : y = nI b) (ha : a < 2 ^ 31) (hb : b < 2 ^ 31) : x = y ↔ a = b := by
  subst hx; subst hy
  exact nI_eq ha hb
def isB (n b : Int32) : Bool := decide (0 ≤ n) && decide (n < b)
theorem isB_1 {n b : Int32} (h : n < 0) : isB n b = false := by
  have h2 : ¬ 0 ≤ n := Int32.not_le.mpr h
  simp [isB, h2]
theorem isB_2 {n b : Int32} (h : b ≤ n) : isB n b = false := by
  have h2 : ¬ n < b := Int32.not_lt.mpr h
  simp [isB, h2]
theorem isB_3 {n b : Int32} (h1 : ¬ n < 0) (h2 : ¬ b ≤ n) : isB n b = true := by
  have h3 : 0 ≤ n := Int32.not_lt.mp h1
  have h4 : n < b := Int32.not_le.mp h2
  simp [isB, h3, h4]
theorem isB_nI {n : Int32} {b : Nat} (hb : b < 2 ^ 31) (h : isB n (nI b) = true) : ∃ j : Nat, j < b ∧ n = nI j := by
  have h0 := (Bool.and_eq_true _ _).mp h
  have h1 : 0 ≤ n := of_decide_eq_true h0.1
  have h2 : n < nI b := of_decide_eq_true h0.2
  obtain ⟨j, hj, rfl⟩ := nI_of (Int32.not_lt.mpr h1)
  exact ⟨j, (nI_ltI hj hb).mp h2, rfl⟩
theorem isB_of {n b : Nat} (hb : b < 2 ^ 31) (h : n < b) : isB (nI n) (nI b) = true := by
  have h1 : 0 ≤ nI n := nI_pos' (by omega)
  have h2 : nI n < nI b := nI_lt h hb
  simp [isB, h1, h2]
theorem isB_no {n b : Nat} (hn : n < 2 ^ 31) (hb : b < 2 ^ 31) (h : ¬ n < b) : isB (nI n) (nI b) = false := by
  have h2 : ¬ nI n < nI b := fun q => h ((nI_ltI hn hb).mp q)
  simp [isB, h2]
def isK (k w : Int32) : Bool := decide (w = 0) || decide (k = w) || (decide (k = 3) && decide (w = 1)) || (decide (k = 6) && decide (w = 2))
end
section
/-! leaves of the class: written by wip/gen/p20.py -/
set_option maxHeartbeats 4000000 in
set_option maxRecDepth 100000 in
theorem m_LB_isBelow (l : Launch) (G : WG) (S : SS) (n b : Int32) : Ci l y_LB_isBelow b_LB_isBelow 2 (some (.boolean)) 0 G [.int n, .int b] S (fun r S1 => r = b2i (isB n b) ∧ S1 = S) := by
  refine mk l (by decide +kernel) (Nat.le_of_ble_eq_true rfl) ?_
  intro pp_ ee_ ss_ mm_ be_ me_ co_ ls hx hb hr hlk hml hC hP hS hl
  have hl : lv_has ls 2 [(0, .int n), (1, .int b)] := hl
  refine lv_iload_n hx hb d_LB_isBelow_0 rfl (lv_at hl 0 rfl) ?_
  refine lv_if_lt (tgt := 13) hx hb d_LB_isBelow_1 (by decide) (fun c_1 => ?_) (fun c_1 => ?_)
  · refine lv_iconst (v := 0) hx hb d_LB_isBelow_13 (by decide) ?_
    exact e_z hx hb hr hlk hC hP hS d_LB_isBelow_14 (by decide) ⟨by first | (rw [isB_1 c_1]; rfl) | (rw [isB_2 c_6]; rfl) | (rw [isB_3 c_1 c_6]; rfl), rfl⟩
  · refine lv_iload_n hx hb d_LB_isBelow_4 rfl (lv_at hl 0 rfl) ?_
    refine lv_iload_n hx hb d_LB_isBelow_5 rfl (lv_at hl 1 rfl) ?_
    refine lv_icmp_ge (tgt := 13) hx hb d_LB_isBelow_6 (by decide) (fun c_6 => ?_) (fun c_6 => ?_)
    · refine lv_iconst (v := 0) hx hb d_LB_isBelow_13 (by decide) ?_
      exact e_z hx hb hr hlk hC hP hS d_LB_isBelow_14 (by decide) ⟨by first | (rw [isB_1 c_1]; rfl) | (rw [isB_2 c_6]; rfl) | (rw [isB_3 c_1 c_6]; rfl), rfl⟩
    · refine lv_iconst (v := 1) hx hb d_LB_isBelow_9 (by decide) ?_
      refine lv_goto (tgt := 14) hx hb d_LB_isBelow_10 (by decide) ?_
      exact e_z hx hb hr hlk hC hP hS d_LB_isBelow_14 (by decide) ⟨by first | (rw [isB_1 c_1]; rfl) | (rw [isB_2 c_6]; rfl) | (rw [isB_3 c_1 c_6]; rfl), rfl⟩

set_option maxHeartbeats 4000000 in
set_option maxRecDepth 100000 in
theorem m_LB_isOfKind (l : Launch) (G : WG) (S : SS) (a b : Int32) : Ci l y_LB_isOfKind b_LB_isOfKind 2 (some (.boolean)) 0 G [.int a, .int b] S (fun r S1 => r = b2i (isK a b) ∧ S1 = S) := by
  refine mk l (by decide +kernel) (Nat.le_of_ble_eq_true rfl) ?_
  intro pp_ ee_ ss_ mm_ be_ me_ co_ ls hx hb hr hlk hml hC hP hS hl
  have hl : lv_has ls 2 [(0, .int a), (1, .int b)] := hl
  refine lv_iload_n hx hb d_LB_isOfKind_0 rfl (lv_at hl 1 rfl) ?_
  refine lv_if_eq (tgt := 30) hx hb d_LB_isOfKind_1 (by decide) (fun c_1 => ?_) (fun c_1 => ?_)
  · refine lv_iconst (v := 1) hx hb d_LB_isOfKind_30 (by decide) ?_
    refine lv_goto (tgt := 35) hx hb d_LB_isOfKind_31 (by decide) ?_
    exact e_z hx hb hr hlk hC hP hS d_LB_isOfKind_35 (by decide) ⟨by simp_all [isK, b2i], rfl⟩
  · refine lv_iload_n hx hb d_LB_isOfKind_4 rfl (lv_at hl 0 rfl) ?_
    refine lv_iload_n hx hb d_LB_isOfKind_5 rfl (lv_at hl 1 rfl) ?_
    refine lv_icmp_eq (tgt := 30) hx hb d_LB_isOfKind_6 (by decide) (fun c_6 => ?_) (fun c_6 => ?_)
    · refine lv_iconst (v := 1) hx hb d_LB_isOfKind_30 (by decide) ?_
      refine lv_goto (tgt := 35) hx hb d_LB_isOfKind_31 (by decide) ?_
      exact e_z hx hb hr hlk hC hP hS d_LB_isOfKind_35 (by decide) ⟨by simp_all [isK, b2i], rfl⟩
    · refine lv_iload_n hx hb d_LB_isOfKind_9 rfl (lv_at hl 0 rfl) ?_
      refine lv_iconst (v := 3) hx hb d_LB_isOfKind_10 (by decide) ?_
      refine lv_icmp_ne (tgt := 19) hx hb d_LB_isOfKind_11 (by decide) (fun c_11 => ?_) (fun c_11 => ?_)
      · refine lv_iload_n hx hb d_LB_isOfKind_19 rfl (lv_at hl 0 rfl) ?_
        refine lv_bipush (v := 6) hx hb d_LB_isOfKind_20 (by decide) ?_
        refine lv_icmp_ne (tgt := 34) hx hb d_LB_isOfKind_22 (by decide) (fun c_22 => ?_) (fun c_22 => ?_)
        · refine lv_iconst (v := 0) hx hb d_LB_isOfKind_34 (by decide) ?_
          exact e_z hx hb hr hlk hC hP hS d_LB_isOfKind_35 (by decide) ⟨by simp_all [isK, b2i], rfl⟩
        · refine lv_iload_n hx hb d_LB_isOfKind_25 rfl (lv_at hl 1 rfl) ?_
          refine lv_iconst (v := 2) hx hb d_LB_isOfKind_26 (by decide) ?_
          refine lv_icmp_ne (tgt := 34) hx hb d_LB_isOfKind_27 (by decide) (fun c_27 => ?_) (fun c_27 => ?_)
          · refine lv_iconst (v := 0) hx hb d_LB_isOfKind_34 (by decide) ?_
            exact e_z hx hb hr hlk hC hP hS d_LB_isOfKind_35 (by decide) ⟨by simp_all [isK, b2i], rfl⟩
          · refine lv_iconst (v := 1) hx hb d_LB_isOfKind_30 (by decide) ?_
            refine lv_goto (tgt := 35) hx hb d_LB_isOfKind_31 (by decide) ?_
            exact e_z hx hb hr hlk hC hP hS d_LB_isOfKind_35 (by decide) ⟨by simp_all [isK, b2i], rfl⟩
      · refine lv_iload_n hx hb d_LB_isOfKind_14 rfl (lv_at hl 1 rfl) ?_
        refine lv_iconst (v := 1) hx hb d_LB_isOfKind_15 (by decide) ?_
        refine lv_icmp_eq (tgt := 30) hx hb d_LB_isOfKind_16 (by decide) (fun c_16 => ?_) (fun c_16 => ?_)
        · refine lv_iconst (v := 1) hx hb d_LB_isOfKind_30 (by decide) ?_
          refine lv_goto (tgt := 35) hx hb d_LB_isOfKind_31 (by decide) ?_
          exact e_z hx hb hr hlk hC hP hS d_LB_isOfKind_35 (by decide) ⟨by simp_all [isK, b2i], rfl⟩
        · refine lv_iload_n hx hb d_LB_isOfKind_19 rfl (lv_at hl 0 rfl) ?_
          refine lv_bipush (v := 6) hx hb d_LB_isOfKind_20 (by decide) ?_
          refine lv_icmp_ne (tgt := 34) hx hb d_LB_isOfKind_22 (by decide) (fun c_22 => ?_) (fun c_22 => ?_)
          · refine lv_iconst (v := 0) hx hb d_LB_isOfKind_34 (by decide) ?_
            exact e_z hx hb hr hlk hC hP hS d_LB_isOfKind_35 (by decide) ⟨by simp_all [isK, b2i], rfl⟩
          · refine lv_iload_n hx hb d_LB_isOfKind_25 rfl (lv_at hl 1 rfl) ?_
            refine lv_iconst (v := 2) hx hb d_LB_isOfKind_26 (by decide) ?_
            refine lv_icmp_ne (tgt := 34) hx hb d_LB_isOfKind_27 (by decide) (fun c_27 => ?_) (fun c_27 => ?_)
            · refine lv_iconst (v := 0) hx hb d_LB_isOfKind_34 (by decide) ?_
              exact e_z hx hb hr hlk hC hP hS d_LB_isOfKind_35 (by decide) ⟨by simp_all [isK, b2i], rfl⟩
            · refine lv_iconst (v := 1) hx hb d_LB_isOfKind_30 (by decide) ?_
              refine lv_goto (tgt := 35) hx hb d_LB_isOfKind_31 (by decide) ?_
              exact e_z hx hb hr hlk hC hP hS d_LB_isOfKind_35 (by decide) ⟨by simp_all [isK, b2i], rfl⟩

def tApp (S : SS) (p n : Nat) (o a : Int32) : SS := su (su (su S (12 + 4 * p) n o) (13 + 4 * p) n a) (11 + 4 * p) 3 (nI (n + 1))
set_option maxHeartbeats 4000000 in
set_option maxRecDepth 100000 in
theorem m_TE_append (l : Launch) (G : WG) (S : SS) (p n : Nat) (hp : p < 4) (hn : n ≤ 32) (hs : S (11 + 4 * p) 3 = nI n) (o a : Int32) : Ci l y_TE_append b_TE_append 3 (some (.boolean)) 0 G [.ref (gA G (11 + 4 * p)), .int o, .int a] S (fun r S1 => r = b2i (decide (n < 32)) ∧ S1 = if n < 32 then tApp S p n o a else S) := by
  refine mk l (by decide +kernel) (Nat.le_of_ble_eq_true rfl) ?_
  intro pp_ ee_ ss_ mm_ be_ me_ co_ ls hx hb hr hlk hml hC hP hS hl
  have hl : lv_has ls 3 [(0, .ref (gA G (11 + 4 * p))), (1, .int o), (2, .int a)] := hl
  refine lv_aload_n hx hb d_TE_append_0 rfl (lv_at hl 0 rfl) ?_
  refine r_get hx hb hC hP i_TE (11 + 4 * p) (by omega) (sh_T G _ hp) rfl 3 (by decide) l_TE_21 rfl d_TE_append_1 ?_
  rw [show S (11 + 4 * p) 3 = nI n from hs]
  refine lv_bipush (v := 32) hx hb d_TE_append_4 (by decide) ?_
  refine lv_icmp_lt (tgt := 11) hx hb d_TE_append_6 (by decide) (fun c_6 => ?_) (fun c_6 => ?_)
  · have c_6 : n < 32 := (q_lt (a := n) (b := 32) rfl rfl (by omega) (by omega)).mp c_6
    refine lv_aload_n hx hb d_TE_append_11 rfl (lv_at hl 0 rfl) ?_
    refine r_get hx hb hC hP i_TE (11 + 4 * p) (by omega) (sh_T G _ hp) rfl 0 (by decide) l_TE_9 rfl d_TE_append_12 ?_
    refine lv_aload_n hx hb d_TE_append_15 rfl (lv_at hl 0 rfl) ?_
    refine r_get hx hb hC hP i_TE (11 + 4 * p) (by omega) (sh_T G _ hp) rfl 3 (by decide) l_TE_21 rfl d_TE_append_16 ?_
    rw [show S (11 + 4 * p) 3 = nI n from hs]
    refine lv_iload_n hx hb d_TE_append_19 rfl (lv_at hl 1 rfl) ?_
    refine r_ist hx hb hC hP hS (12 + 4 * p) (by omega) (fun r => sh_T1 G r hp) n rfl (by omega) (by decide) d_TE_append_20 (fun H locs hP hS => ?_)
    refine lv_aload_n hx hb d_TE_append_21 rfl (lv_at hl 0 rfl) ?_
    refine r_get hx hb hC hP i_TE (11 + 4 * p) (by omega) (sh_T G _ hp) rfl 1 (by decide) l_TE_15 rfl d_TE_append_22 ?_
    refine lv_aload_n hx hb d_TE_append_25 rfl (lv_at hl 0 rfl) ?_
    refine r_get hx hb hC hP i_TE (11 + 4 * p) (by omega) (sh_T G _ hp) rfl 3 (by decide) l_TE_21 rfl d_TE_append_26 ?_
    rw [show (su S (12 + 4 * p) n o) (11 + 4 * p) 3 = S (11 + 4 * p) 3 from by rw [su_cell _ _ _ (by omega)]]
    rw [show S (11 + 4 * p) 3 = nI n from hs]
    refine lv_iload_n hx hb d_TE_append_29 rfl (lv_at hl 2 rfl) ?_
    refine r_ist hx hb hC hP hS (13 + 4 * p) (by omega) (fun r => sh_T2 G r hp) n rfl (by omega) (by decide) d_TE_append_30 (fun H locs hP hS => ?_)
    refine lv_aload_n hx hb d_TE_append_31 rfl (lv_at hl 0 rfl) ?_
    refine lv_dup hx hb d_TE_append_32 rfl ?_
    refine r_get hx hb hC hP i_TE (11 + 4 * p) (by omega) (sh_T G _ hp) rfl 3 (by decide) l_TE_21 rfl d_TE_append_33 ?_
    rw [show (su (su S (12 + 4 * p) n o) (13 + 4 * p) n a) (11 + 4 * p) 3 = S (11 + 4 * p) 3 from by rw [su_cell _ _ _ (by omega), su_cell _ _ _ (by omega)]]
    rw [show S (11 + 4 * p) 3 = nI n from hs]
    refine lv_iconst (v := 1) hx hb d_TE_append_36 (by decide) ?_
    refine lv_iadd hx hb d_TE_append_37 ?_
    rw [show (nI n) + 1 = nI (n + 1) from nI_1 n]
    refine r_put hx hb hC hP hS i_TE t_TE t_TE_ok n_TE (11 + 4 * p) (by omega) (sh_T G _ hp) rfl 3 (by decide) l_TE_21 rfl rfl (by rw [sh_T G _ hp]; rfl) (Nat.le_of_ble_eq_true rfl) d_TE_append_38 (fun H locs hP hS => ?_)
    refine lv_iconst (v := 1) hx hb d_TE_append_41 (by decide) ?_
    exact e_z hx hb hr hlk hC hP hS d_TE_append_42 (by decide) ⟨by rw [decide_eq_true (by omega)]; rfl, (if_pos (by omega)).symm⟩
  · have c_6 : ¬ n < 32 := fun h => c_6 ((q_lt (a := n) (b := 32) rfl rfl (by omega) (by omega)).mpr h)
    refine lv_iconst (v := 0) hx hb d_TE_append_9 (by decide) ?_
    exact e_z hx hb hr hlk hC hP hS d_TE_append_10 (by decide) ⟨by rw [decide_eq_false (by omega)]; rfl, (if_neg (by omega)).symm⟩

set_option maxHeartbeats 4000000 in
set_option maxRecDepth 100000 in
theorem m_TE_clear (l : Launch) (G : WG) (S : SS) (p : Nat) (hp : p < 4) : Ci l y_TE_clear b_TE_clear 2 (some (.int)) 0 G [.ref (gA G (11 + 4 * p))] S (fun r S1 => r = S (11 + 4 * p) 3 ∧ S1 = su S (11 + 4 * p) 3 0) := by
  refine mk l (by decide +kernel) (Nat.le_of_ble_eq_true rfl) ?_
  intro pp_ ee_ ss_ mm_ be_ me_ co_ ls hx hb hr hlk hml hC hP hS hl
  have hl : lv_has ls 2 [(0, .ref (gA G (11 + 4 * p)))] := hl
  refine lv_aload_n hx hb d_TE_clear_0 rfl (lv_at hl 0 rfl) ?_
  refine r_get hx hb hC hP i_TE (11 + 4 * p) (by omega) (sh_T G _ hp) rfl 3 (by decide) l_TE_21 rfl d_TE_clear_1 ?_
  refine lv_istore_n (lv' := [(1, .int (S (11 + 4 * p) 3)), (0, .ref (gA G (11 + 4 * p)))]) hx hb d_TE_clear_4 rfl hl (by decide) rfl (fun ls hl => ?_)
  refine lv_aload_n hx hb d_TE_clear_5 rfl (lv_at hl 1 rfl) ?_
  refine lv_iconst (v := 0) hx hb d_TE_clear_6 (by decide) ?_
  refine r_put hx hb hC hP hS i_TE t_TE t_TE_ok n_TE (11 + 4 * p) (by omega) (sh_T G _ hp) rfl 3 (by decide) l_TE_21 rfl rfl (by rw [sh_T G _ hp]; rfl) (Nat.le_of_ble_eq_true rfl) d_TE_clear_7 (fun H locs hP hS => ?_)
  refine lv_iload_n hx hb d_TE_clear_10 rfl (lv_at hl 0 rfl) ?_
  exact e_i hx hb hr hlk hC hP hS d_TE_clear_11 ⟨rfl, rfl⟩

def tCat (S : SS) (p i : Nat) : Int32 := if S (12 + 4 * p) i = 9 then S (13 + 4 * p) i &&& 3 else 0
def tLast (S : SS) (p i : Nat) : Bool := decide (S (12 + 4 * p) i = 9) && decide (¬ S (13 + 4 * p) i &&& 4 = 0)
set_option maxHeartbeats 4000000 in
set_option maxRecDepth 100000 in
theorem m_TE_catchesOf (l : Launch) (G : WG) (S : SS) (p i : Nat) (hp : p < 4) (hi : i < 32) : Ci l y_TE_catchesOf b_TE_catchesOf 2 (some (.int)) 0 G [.ref (gA G (11 + 4 * p)), .int (nI i)] S (fun r S1 => r = tCat S p i ∧ S1 = S) := by
  refine mk l (by decide +kernel) (Nat.le_of_ble_eq_true rfl) ?_
  intro pp_ ee_ ss_ mm_ be_ me_ co_ ls hx hb hr hlk hml hC hP hS hl
  have hl : lv_has ls 2 [(0, .ref (gA G (11 + 4 * p))), (1, .int (nI i))] := hl
  refine lv_aload_n hx hb d_TE_catchesOf_0 rfl (lv_at hl 0 rfl) ?_
  refine r_get hx hb hC hP i_TE (11 + 4 * p) (by omega) (sh_T G _ hp) rfl 0 (by decide) l_TE_9 rfl d_TE_catchesOf_1 ?_
  refine lv_iload_n hx hb d_TE_catchesOf_4 rfl (lv_at hl 1 rfl) ?_
  refine r_ild hx hb hC hP (12 + 4 * p) (by omega) (sh_T1 G _ hp) i rfl (by omega) (by decide) d_TE_catchesOf_5 ?_
  refine lv_bipush (v := 9) hx hb d_TE_catchesOf_6 (by decide) ?_
  refine lv_icmp_ne (tgt := 22) hx hb d_TE_catchesOf_8 (by decide) (fun c_8 => ?_) (fun c_8 => ?_)
  · refine lv_iconst (v := 0) hx hb d_TE_catchesOf_22 (by decide) ?_
    exact e_i hx hb hr hlk hC hP hS d_TE_catchesOf_23 ⟨by simp_all [tCat], rfl⟩
  · refine lv_aload_n hx hb d_TE_catchesOf_11 rfl (lv_at hl 0 rfl) ?_
    refine r_get hx hb hC hP i_TE (11 + 4 * p) (by omega) (sh_T G _ hp) rfl 1 (by decide) l_TE_15 rfl d_TE_catchesOf_12 ?_
    refine lv_iload_n hx hb d_TE_catchesOf_15 rfl (lv_at hl 1 rfl) ?_
    refine r_ild hx hb hC hP (13 + 4 * p) (by omega) (sh_T2 G _ hp) i rfl (by omega) (by decide) d_TE_catchesOf_16 ?_
    refine lv_iconst (v := 3) hx hb d_TE_catchesOf_17 (by decide) ?_
    refine lv_iand hx hb d_TE_catchesOf_18 ?_
    refine lv_goto (tgt := 23) hx hb d_TE_catchesOf_19 (by decide) ?_
    exact e_i hx hb hr hlk hC hP hS d_TE_catchesOf_23 ⟨by simp_all [tCat], rfl⟩

set_option maxHeartbeats 4000000 in
set_option maxRecDepth 100000 in
theorem m_TE_hasLast (l : Launch) (G : WG) (S : SS) (p i : Nat) (hp : p < 4) (hi : i < 32) : Ci l y_TE_hasLast b_TE_hasLast 2 (some (.boolean)) 0 G [.ref (gA G (11 + 4 * p)), .int (nI i)] S (fun r S1 => r = b2i (tLast S p i) ∧ S1 = S) := by
  refine mk l (by decide +kernel) (Nat.le_of_ble_eq_true rfl) ?_
  intro pp_ ee_ ss_ mm_ be_ me_ co_ ls hx hb hr hlk hml hC hP hS hl
  have hl : lv_has ls 2 [(0, .ref (gA G (11 + 4 * p))), (1, .int (nI i))] := hl
  refine lv_aload_n hx hb d_TE_hasLast_0 rfl (lv_at hl 0 rfl) ?_
  refine r_get hx hb hC hP i_TE (11 + 4 * p) (by omega) (sh_T G _ hp) rfl 0 (by decide) l_TE_9 rfl d_TE_hasLast_1 ?_
  refine lv_iload_n hx hb d_TE_hasLast_4 rfl (lv_at hl 1 rfl) ?_
  refine r_ild hx hb hC hP (12 + 4 * p) (by omega) (sh_T1 G _ hp) i rfl (by omega) (by decide) d_TE_hasLast_5 ?_
  refine lv_bipush (v := 9) hx hb d_TE_hasLast_6 (by decide) ?_
  refine lv_icmp_ne (tgt := 26) hx hb d_TE_hasLast_8 (by decide) (fun c_8 => ?_) (fun c_8 => ?_)
  · refine lv_iconst (v := 0) hx hb d_TE_hasLast_26 (by decide) ?_
    exact e_z hx hb hr hlk hC hP hS d_TE_hasLast_27 (by decide) ⟨by simp_all [tLast, b2i], rfl⟩
  · refine lv_aload_n hx hb d_TE_hasLast_11 rfl (lv_at hl 0 rfl) ?_
    refine r_get hx hb hC hP i_TE (11 + 4 * p) (by omega) (sh_T G _ hp) rfl 1 (by decide) l_TE_15 rfl d_TE_hasLast_12 ?_
    refine lv_iload_n hx hb d_TE_hasLast_15 rfl (lv_at hl 1 rfl) ?_
    refine r_ild hx hb hC hP (13 + 4 * p) (by omega) (sh_T2 G _ hp) i rfl (by omega) (by decide) d_TE_hasLast_16 ?_
    refine lv_iconst (v := 4) hx hb d_TE_hasLast_17 (by decide) ?_
    refine lv_iand hx hb d_TE_hasLast_18 ?_
    refine lv_if_eq (tgt := 26) hx hb d_TE_hasLast_19 (by decide) (fun c_19 => ?_) (fun c_19 => ?_)
    · refine lv_iconst (v := 0) hx hb d_TE_hasLast_26 (by decide) ?_
      exact e_z hx hb hr hlk hC hP hS d_TE_hasLast_27 (by decide) ⟨by simp_all [tLast, b2i], rfl⟩
    · refine lv_iconst (v := 1) hx hb d_TE_hasLast_22 (by decide) ?_
      refine lv_goto (tgt := 27) hx hb d_TE_hasLast_23 (by decide) ?_
      exact e_z hx hb hr hlk hC hP hS d_TE_hasLast_27 (by decide) ⟨by simp_all [tLast, b2i], rfl⟩

set_option maxHeartbeats 4000000 in
set_option maxRecDepth 100000 in
theorem m_FA_forget (l : Launch) (G : WG) (S : SS)  : Cv l y_FA_forget b_FA_forget 1 0 G [.ref (gA G 4)] S (fun S1 => S1 = su S 4 2 0) := by
  refine mk l (by decide +kernel) (Nat.le_of_ble_eq_true rfl) ?_
  intro pp_ ee_ ss_ mm_ be_ me_ co_ ls hx hb hr hlk hml hC hP hS hl
  have hl : lv_has ls 1 [(0, .ref (gA G 4))] := hl
  refine lv_aload_n hx hb d_FA_forget_0 rfl (lv_at hl 0 rfl) ?_
  refine lv_iconst (v := 0) hx hb d_FA_forget_1 (by decide) ?_
  refine r_put hx hb hC hP hS i_FA t_FA t_FA_ok n_FA (4) (by decide) rfl rfl 2 (by decide) l_FA_18 rfl rfl rfl (Nat.le_of_ble_eq_true rfl) d_FA_forget_2 (fun H locs hP hS => ?_)
  exact e_v hx hb hr hlk hC hP hS d_FA_forget_5 rfl

def fMk (S : SS) (n : Nat) (k c : Int32) : SS := su (su (su S 5 n k) 6 n c) 4 2 (nI (n + 1))
set_option maxHeartbeats 4000000 in
set_option maxRecDepth 100000 in
theorem m_FA_make (l : Launch) (G : WG) (S : SS) (n : Nat) (hn : n < 301) (hs : S 4 2 = nI n) (a b : Int32) : Ci l y_FA_make b_FA_make 3 (some (.int)) 0 G [.ref (gA G 4), .int a, .int b] S (fun r S1 => r = nI n ∧ S1 = fMk S n a b) := by
  refine mk l (by decide +kernel) (Nat.le_of_ble_eq_true rfl) ?_
  intro pp_ ee_ ss_ mm_ be_ me_ co_ ls hx hb hr hlk hml hC hP hS hl
  have hl : lv_has ls 3 [(0, .ref (gA G 4)), (1, .int a), (2, .int b)] := hl
  refine lv_aload_n hx hb d_FA_make_0 rfl (lv_at hl 0 rfl) ?_
  refine r_get hx hb hC hP i_FA (4) (by decide) rfl rfl 2 (by decide) l_FA_18 rfl d_FA_make_1 ?_
  rw [show S 4 2 = nI n from hs]
  refine lv_sipush (v := 301) hx hb d_FA_make_4 (by decide) ?_
  refine lv_icmp_lt (tgt := 12) hx hb d_FA_make_7 (by decide) (fun c_7 => ?_) (fun c_7 => ?_)
  · have c_7 : n < 301 := (q_lt (a := n) (b := 301) rfl rfl (by omega) (by omega)).mp c_7
    refine lv_aload_n hx hb d_FA_make_12 rfl (lv_at hl 0 rfl) ?_
    refine r_get hx hb hC hP i_FA (4) (by decide) rfl rfl 0 (by decide) l_FA_9 rfl d_FA_make_13 ?_
    refine lv_aload_n hx hb d_FA_make_16 rfl (lv_at hl 0 rfl) ?_
    refine r_get hx hb hC hP i_FA (4) (by decide) rfl rfl 2 (by decide) l_FA_18 rfl d_FA_make_17 ?_
    rw [show S 4 2 = nI n from hs]
    refine lv_iload_n hx hb d_FA_make_20 rfl (lv_at hl 1 rfl) ?_
    refine r_ist hx hb hC hP hS (5) (by decide) (fun _ => rfl) n rfl (by omega) (by decide) d_FA_make_21 (fun H locs hP hS => ?_)
    refine lv_aload_n hx hb d_FA_make_22 rfl (lv_at hl 0 rfl) ?_
    refine r_get hx hb hC hP i_FA (4) (by decide) rfl rfl 1 (by decide) l_FA_15 rfl d_FA_make_23 ?_
    refine lv_aload_n hx hb d_FA_make_26 rfl (lv_at hl 0 rfl) ?_
    refine r_get hx hb hC hP i_FA (4) (by decide) rfl rfl 2 (by decide) l_FA_18 rfl d_FA_make_27 ?_
    rw [show (su S 5 n a) 4 2 = S 4 2 from by rw [su_cell _ _ _ (by decide)]]
    rw [show S 4 2 = nI n from hs]
    refine lv_iload_n hx hb d_FA_make_30 rfl (lv_at hl 2 rfl) ?_
    refine r_ist hx hb hC hP hS (6) (by decide) (fun _ => rfl) n rfl (by omega) (by decide) d_FA_make_31 (fun H locs hP hS => ?_)
    refine lv_aload_n hx hb d_FA_make_32 rfl (lv_at hl 0 rfl) ?_
    refine lv_dup hx hb d_FA_make_33 rfl ?_
    refine r_get hx hb hC hP i_FA (4) (by decide) rfl rfl 2 (by decide) l_FA_18 rfl d_FA_make_34 ?_
    rw [show (su (su S 5 n a) 6 n b) 4 2 = S 4 2 from by rw [su_cell _ _ _ (by decide), su_cell _ _ _ (by decide)]]
    rw [show S 4 2 = nI n from hs]
    refine lv_iconst (v := 1) hx hb d_FA_make_37 (by decide) ?_
    refine lv_iadd hx hb d_FA_make_38 ?_
    rw [show (nI n) + 1 = nI (n + 1) from nI_1 n]
    refine r_put hx hb hC hP hS i_FA t_FA t_FA_ok n_FA (4) (by decide) rfl rfl 2 (by decide) l_FA_18 rfl rfl rfl (Nat.le_of_ble_eq_true rfl) d_FA_make_39 (fun H locs hP hS => ?_)
    refine lv_aload_n hx hb d_FA_make_42 rfl (lv_at hl 0 rfl) ?_
    refine r_get hx hb hC hP i_FA (4) (by decide) rfl rfl 2 (by decide) l_FA_18 rfl d_FA_make_43 ?_
    rw [show (su (su (su S 5 n a) 6 n b) 4 2 (nI (n + 1))) 4 2 = nI (n + 1) from by rw [su_same]]
    refine lv_iconst (v := 1) hx hb d_FA_make_46 (by decide) ?_
    refine lv_isub hx hb d_FA_make_47 ?_
    exact e_i hx hb hr hlk hC hP hS d_FA_make_48 ⟨nI_pred n, rfl⟩
  · have c_7 : ¬ n < 301 := fun h => c_7 ((q_lt (a := n) (b := 301) rfl rfl (by omega) (by omega)).mpr h)
    refine lv_iconst (v := (-1)) hx hb d_FA_make_10 (by decide) ?_
    exact e_i hx hb hr hlk hC hP hS d_FA_make_11 (by exfalso; omega)

def fKind (S : SS) (i : Int32) (n : Nat) : Int32 := if isB i (nI n) = true then S 5 i.toNatClampNeg else -1
set_option maxHeartbeats 4000000 in
set_option maxRecDepth 100000 in
theorem m_FA_kindOf (l : Launch) (G : WG) (S : SS) (n : Nat) (hn : n ≤ 301) (hs : S 4 2 = nI n) (i : Int32) : Ci l y_FA_kindOf b_FA_kindOf 2 (some (.int)) 1 G [.ref (gA G 4), .int i] S (fun r S1 => r = fKind S i n ∧ S1 = S) := by
  refine mk l (by decide +kernel) (Nat.le_of_ble_eq_true rfl) ?_
  intro pp_ ee_ ss_ mm_ be_ me_ co_ ls hx hb hr hlk hml hC hP hS hl
  have hl : lv_has ls 2 [(0, .ref (gA G 4)), (1, .int i)] := hl
  refine lv_iload_n hx hb d_FA_kindOf_0 rfl (lv_at hl 1 rfl) ?_
  refine lv_aload_n hx hb d_FA_kindOf_1 rfl (lv_at hl 0 rfl) ?_
  refine r_get hx hb hC hP i_FA (4) (by decide) rfl rfl 2 (by decide) l_FA_18 rfl d_FA_kindOf_2 ?_
  rw [show S 4 2 = nI n from hs]
  refine r_i hC hS (r_runSN (np := 2) (As := [.int i, .int (nI n)]) (rest := []) hx hb hml hC hP hS (m_LB_isBelow l G S i (nI n)) k_FA_22 st_LB_isBelow in_LB c_LB_isBelow_in (by decide +kernel) ⟨by simp only [rmF]; omega, by simp only [rmF]; omega⟩ rfl hl.1 (Nat.le_of_ble_eq_true rfl) d_FA_kindOf_5 ⟨Nat.le_refl _, Nat.le_refl _⟩) (fun r_5 S_5 H locs hw hP hS => ?_)
  obtain ⟨rfl, hSe⟩ := hw
  rw [hSe] at hP
  refine lv_if_eq (tgt := 20) hx hb d_FA_kindOf_8 (by decide) (fun c_8 => ?_) (fun c_8 => ?_)
  · have c_8 := b2i_f c_8
    refine lv_iconst (v := (-1)) hx hb d_FA_kindOf_20 (by decide) ?_
    exact e_i hx hb hr hlk hC hP hS d_FA_kindOf_21 ⟨by rw [fKind, if_neg (by simp_all)], rfl⟩
  · have c_8 := b2i_t c_8
    obtain ⟨j, hjn, hj⟩ := isB_nI (by omega) c_8
    refine lv_aload_n hx hb d_FA_kindOf_11 rfl (lv_at hl 0 rfl) ?_
    refine r_get hx hb hC hP i_FA (4) (by decide) rfl rfl 0 (by decide) l_FA_9 rfl d_FA_kindOf_12 ?_
    refine lv_iload_n hx hb d_FA_kindOf_15 rfl (lv_at hl 1 rfl) ?_
    refine r_ild hx hb hC hP (5) (by decide) rfl j hj (by omega) (by decide) d_FA_kindOf_16 ?_
    refine lv_goto (tgt := 21) hx hb d_FA_kindOf_17 (by decide) ?_
    exact e_i hx hb hr hlk hC hP hS d_FA_kindOf_21 ⟨by rw [fKind, if_pos (by assumption), hj, nI_clamp (by omega)], rfl⟩

def lFree (S : SS) : SS := su (su (su (su (su S 8 0 0) 8 1 0) 8 2 0) 7 1 0) 7 2 0
set_option maxHeartbeats 4000000 in
set_option maxRecDepth 100000 in
theorem m_LO_free (l : Launch) (G : WG) (S : SS)  : Cv l y_LO_free b_LO_free 2 0 G [.ref (gA G 7)] S (fun S1 => S1 = lFree S) := by
  refine mk l (by decide +kernel) (Nat.le_of_ble_eq_true rfl) ?_
  intro pp_ ee_ ss_ mm_ be_ me_ co_ ls hx hb hr hlk hml hC hP hS hl
  have hl : lv_has ls 2 [(0, .ref (gA G 7))] := hl
  refine lv_iconst (v := 0) hx hb d_LO_free_0 (by decide) ?_
  refine lv_istore_n (lv' := [(1, .int 0), (0, .ref (gA G 7))]) hx hb d_LO_free_1 rfl hl (by decide) rfl (fun ls hl => ?_)
  refine lv_iload_n hx hb d_LO_free_2 rfl (lv_at hl 0 rfl) ?_
  refine lv_iconst (v := 3) hx hb d_LO_free_3 (by decide) ?_
  refine lv_icmp_ge (tgt := 20) hx hb d_LO_free_4 (by decide) (fun h => absurd h (by decide)) (fun _ => ?_)
  refine lv_aload_n hx hb d_LO_free_7 rfl (lv_at hl 1 rfl) ?_
  refine r_get hx hb hC hP i_LO (7) (by decide) rfl rfl 0 (by decide) l_LO_9 rfl d_LO_free_8 ?_
  refine lv_iload_n hx hb d_LO_free_11 rfl (lv_at hl 0 rfl) ?_
  refine lv_iconst (v := 0) hx hb d_LO_free_12 (by decide) ?_
  refine r_ist hx hb hC hP hS (8) (by decide) (fun _ => rfl) 0 rfl (by decide) (by decide) d_LO_free_13 (fun H locs hP hS => ?_)
  refine lv_iinc (v := 1) (lv' := [(1, .int 1), (0, .ref (gA G 7))]) hx hb d_LO_free_14 hl (k := 0) rfl (by decide) (by decide) rfl (fun ls hl => ?_)
  refine lv_goto (tgt := 2) hx hb d_LO_free_17 (by decide) ?_
  refine lv_iload_n hx hb d_LO_free_2 rfl (lv_at hl 0 rfl) ?_
  refine lv_iconst (v := 3) hx hb d_LO_free_3 (by decide) ?_
  refine lv_icmp_ge (tgt := 20) hx hb d_LO_free_4 (by decide) (fun h => absurd h (by decide)) (fun _ => ?_)
  refine lv_aload_n hx hb d_LO_free_7 rfl (lv_at hl 1 rfl) ?_
  refine r_get hx hb hC hP i_LO (7) (by decide) rfl rfl 0 (by decide) l_LO_9 rfl d_LO_free_8 ?_
  refine lv_iload_n hx hb d_LO_free_11 rfl (lv_at hl 0 rfl) ?_
  refine lv_iconst (v := 0) hx hb d_LO_free_12 (by decide) ?_
  refine r_ist hx hb hC hP hS (8) (by decide) (fun _ => rfl) 1 rfl (by decide) (by decide) d_LO_free_13 (fun H locs hP hS => ?_)
  refine lv_iinc (v := 2) (lv' := [(1, .int 2), (0, .ref (gA G 7))]) hx hb d_LO_free_14 hl (k := 0) rfl (by decide) (by decide) rfl (fun ls hl => ?_)
  refine lv_goto (tgt := 2) hx hb d_LO_free_17 (by decide) ?_
  refine lv_iload_n hx hb d_LO_free_2 rfl (lv_at hl 0 rfl) ?_
  refine lv_iconst (v := 3) hx hb d_LO_free_3 (by decide) ?_
  refine lv_icmp_ge (tgt := 20) hx hb d_LO_free_4 (by decide) (fun h => absurd h (by decide)) (fun _ => ?_)
  refine lv_aload_n hx hb d_LO_free_7 rfl (lv_at hl 1 rfl) ?_
  refine r_get hx hb hC hP i_LO (7) (by decide) rfl rfl 0 (by decide) l_LO_9 rfl d_LO_free_8 ?_
  refine lv_iload_n hx hb d_LO_free_11 rfl (lv_at hl 0 rfl) ?_
  refine lv_iconst (v := 0) hx hb d_LO_free_12 (by decide) ?_
  refine r_ist hx hb hC hP hS (8) (by decide) (fun _ => rfl) 2 rfl (by decide) (by decide) d_LO_free_13 (fun H locs hP hS => ?_)
  refine lv_iinc (v := 3) (lv' := [(1, .int 3), (0, .ref (gA G 7))]) hx hb d_LO_free_14 hl (k := 0) rfl (by decide) (by decide) rfl (fun ls hl => ?_)
  refine lv_goto (tgt := 2) hx hb d_LO_free_17 (by decide) ?_
  refine lv_iload_n hx hb d_LO_free_2 rfl (lv_at hl 0 rfl) ?_
  refine lv_iconst (v := 3) hx hb d_LO_free_3 (by decide) ?_
  refine lv_icmp_ge (tgt := 20) hx hb d_LO_free_4 (by decide) (fun _ => ?_) (fun h => absurd h (by decide))
  refine lv_aload_n hx hb d_LO_free_20 rfl (lv_at hl 1 rfl) ?_
  refine lv_iconst (v := 0) hx hb d_LO_free_21 (by decide) ?_
  refine r_put hx hb hC hP hS i_LO t_LO t_LO_ok n_LO (7) (by decide) rfl rfl 1 (by decide) l_LO_15 rfl rfl rfl (Nat.le_of_ble_eq_true rfl) d_LO_free_22 (fun H locs hP hS => ?_)
  refine lv_aload_n hx hb d_LO_free_25 rfl (lv_at hl 1 rfl) ?_
  refine lv_iconst (v := 0) hx hb d_LO_free_26 (by decide) ?_
  refine r_put hx hb hC hP hS i_LO t_LO t_LO_ok n_LO (7) (by decide) rfl rfl 2 (by decide) l_LO_19 rfl rfl rfl (Nat.le_of_ble_eq_true rfl) d_LO_free_27 (fun H locs hP hS => ?_)
  exact e_v hx hb hr hlk hC hP hS d_LO_free_30 rfl

def lHold (S : SS) (i : Nat) : SS := su (su (su S 8 i (S 8 i + 1)) 7 1 (S 7 1 + 1)) 7 2 (if S 7 2 < S 7 1 + 1 then S 7 1 + 1 else S 7 2)
def lRel (S : SS) (i : Nat) (n : Int32) : SS := su (su S 8 i (S 8 i - n)) 7 1 (S 7 1 - n)
set_option maxHeartbeats 4000000 in
set_option maxRecDepth 100000 in
theorem m_LO_hold (l : Launch) (G : WG) (S : SS) (i : Nat) (hi : i < 3) : Cv l y_LO_hold b_LO_hold 2 1 G [.ref (gA G 7), .int (nI i)] S (fun S1 => S1 = lHold S i) := by
  refine mk l (by decide +kernel) (Nat.le_of_ble_eq_true rfl) ?_
  intro pp_ ee_ ss_ mm_ be_ me_ co_ ls hx hb hr hlk hml hC hP hS hl
  have hl : lv_has ls 2 [(0, .ref (gA G 7)), (1, .int (nI i))] := hl
  refine lv_aload_n hx hb d_LO_hold_0 rfl (lv_at hl 0 rfl) ?_
  refine r_get hx hb hC hP i_LO (7) (by decide) rfl rfl 0 (by decide) l_LO_9 rfl d_LO_hold_1 ?_
  refine lv_iload_n hx hb d_LO_hold_4 rfl (lv_at hl 1 rfl) ?_
  refine lv_dup2_11 hx hb d_LO_hold_5 rfl rfl ?_
  refine r_ild hx hb hC hP (8) (by decide) rfl i rfl (by omega) (by decide) d_LO_hold_6 ?_
  refine lv_iconst (v := 1) hx hb d_LO_hold_7 (by decide) ?_
  refine lv_iadd hx hb d_LO_hold_8 ?_
  refine r_ist hx hb hC hP hS (8) (by decide) (fun _ => rfl) i rfl (by omega) (by decide) d_LO_hold_9 (fun H locs hP hS => ?_)
  refine lv_aload_n hx hb d_LO_hold_10 rfl (lv_at hl 0 rfl) ?_
  refine lv_dup hx hb d_LO_hold_11 rfl ?_
  refine r_get hx hb hC hP i_LO (7) (by decide) rfl rfl 1 (by decide) l_LO_15 rfl d_LO_hold_12 ?_
  rw [show (su S 8 i ((S 8 i) + 1)) 7 1 = S 7 1 from by rw [su_cell _ _ _ (by decide)]]
  refine lv_iconst (v := 1) hx hb d_LO_hold_15 (by decide) ?_
  refine lv_iadd hx hb d_LO_hold_16 ?_
  refine r_put hx hb hC hP hS i_LO t_LO t_LO_ok n_LO (7) (by decide) rfl rfl 1 (by decide) l_LO_15 rfl rfl rfl (Nat.le_of_ble_eq_true rfl) d_LO_hold_17 (fun H locs hP hS => ?_)
  refine lv_aload_n hx hb d_LO_hold_20 rfl (lv_at hl 0 rfl) ?_
  refine lv_aload_n hx hb d_LO_hold_21 rfl (lv_at hl 0 rfl) ?_
  refine r_get hx hb hC hP i_LO (7) (by decide) rfl rfl 2 (by decide) l_LO_19 rfl d_LO_hold_22 ?_
  rw [show (su (su S 8 i ((S 8 i) + 1)) 7 1 ((S 7 1) + 1)) 7 2 = S 7 2 from by rw [su_int _ _ _ (by decide), su_cell _ _ _ (by decide)]]
  refine lv_aload_n hx hb d_LO_hold_25 rfl (lv_at hl 0 rfl) ?_
  refine r_get hx hb hC hP i_LO (7) (by decide) rfl rfl 1 (by decide) l_LO_15 rfl d_LO_hold_26 ?_
  rw [show (su (su S 8 i ((S 8 i) + 1)) 7 1 ((S 7 1) + 1)) 7 1 = (S 7 1) + 1 from by rw [su_same]]
  refine va_mmax hx hb (hml.trans hl.1.symm) hC.1 (hC.2.1 _ l_LO_22) (hC.2.1 _ st_JM_max) (hC.2.1 _ in_JM) (hC.2.1 _ c_JM_max_in) (by simp only [rmF]; omega) (Nat.le_of_ble_eq_true rfl) (Nat.le_refl _) (Nat.le_refl _) d_LO_hold_29 ?_
  refine r_put hx hb hC hP hS i_LO t_LO t_LO_ok n_LO (7) (by decide) rfl rfl 2 (by decide) l_LO_19 rfl rfl rfl (Nat.le_of_ble_eq_true rfl) d_LO_hold_32 (fun H locs hP hS => ?_)
  exact e_v hx hb hr hlk hC hP hS d_LO_hold_35 rfl

set_option maxHeartbeats 4000000 in
set_option maxRecDepth 100000 in
theorem m_LO_release (l : Launch) (G : WG) (S : SS) (i : Nat) (hi : i < 3) (n : Int32) : Cv l y_LO_release b_LO_release 3 0 G [.ref (gA G 7), .int (nI i), .int n] S (fun S1 => S1 = lRel S i n) := by
  refine mk l (by decide +kernel) (Nat.le_of_ble_eq_true rfl) ?_
  intro pp_ ee_ ss_ mm_ be_ me_ co_ ls hx hb hr hlk hml hC hP hS hl
  have hl : lv_has ls 3 [(0, .ref (gA G 7)), (1, .int (nI i)), (2, .int n)] := hl
  refine lv_aload_n hx hb d_LO_release_0 rfl (lv_at hl 0 rfl) ?_
  refine r_get hx hb hC hP i_LO (7) (by decide) rfl rfl 0 (by decide) l_LO_9 rfl d_LO_release_1 ?_
  refine lv_iload_n hx hb d_LO_release_4 rfl (lv_at hl 1 rfl) ?_
  refine lv_dup2_11 hx hb d_LO_release_5 rfl rfl ?_
  refine r_ild hx hb hC hP (8) (by decide) rfl i rfl (by omega) (by decide) d_LO_release_6 ?_
  refine lv_iload_n hx hb d_LO_release_7 rfl (lv_at hl 2 rfl) ?_
  refine lv_isub hx hb d_LO_release_8 ?_
  refine r_ist hx hb hC hP hS (8) (by decide) (fun _ => rfl) i rfl (by omega) (by decide) d_LO_release_9 (fun H locs hP hS => ?_)
  refine lv_aload_n hx hb d_LO_release_10 rfl (lv_at hl 0 rfl) ?_
  refine lv_dup hx hb d_LO_release_11 rfl ?_
  refine r_get hx hb hC hP i_LO (7) (by decide) rfl rfl 1 (by decide) l_LO_15 rfl d_LO_release_12 ?_
  rw [show (su S 8 i ((S 8 i) - n)) 7 1 = S 7 1 from by rw [su_cell _ _ _ (by decide)]]
  refine lv_iload_n hx hb d_LO_release_15 rfl (lv_at hl 2 rfl) ?_
  refine lv_isub hx hb d_LO_release_16 ?_
  refine r_put hx hb hC hP hS i_LO t_LO t_LO_ok n_LO (7) (by decide) rfl rfl 1 (by decide) l_LO_15 rfl rfl rfl (Nat.le_of_ble_eq_true rfl) d_LO_release_17 (fun H locs hP hS => ?_)
  exact e_v hx hb hr hlk hC hP hS d_LO_release_20 rfl

set_option maxHeartbeats 4000000 in
set_option maxRecDepth 100000 in
theorem m_LO_isHeld (l : Launch) (G : WG) (S : SS) (i : Nat) (hi : i < 3) : Ci l y_LO_isHeld b_LO_isHeld 2 (some (.boolean)) 0 G [.ref (gA G 7), .int (nI i)] S (fun r S1 => r = b2i (decide (0 < S 8 i)) ∧ S1 = S) := by
  refine mk l (by decide +kernel) (Nat.le_of_ble_eq_true rfl) ?_
  intro pp_ ee_ ss_ mm_ be_ me_ co_ ls hx hb hr hlk hml hC hP hS hl
  have hl : lv_has ls 2 [(0, .ref (gA G 7)), (1, .int (nI i))] := hl
  refine lv_aload_n hx hb d_LO_isHeld_0 rfl (lv_at hl 0 rfl) ?_
  refine r_get hx hb hC hP i_LO (7) (by decide) rfl rfl 0 (by decide) l_LO_9 rfl d_LO_isHeld_1 ?_
  refine lv_iload_n hx hb d_LO_isHeld_4 rfl (lv_at hl 1 rfl) ?_
  refine r_ild hx hb hC hP (8) (by decide) rfl i rfl (by omega) (by decide) d_LO_isHeld_5 ?_
  refine lv_if_le (tgt := 13) hx hb d_LO_isHeld_6 (by decide) (fun c_6 => ?_) (fun c_6 => ?_)
  · refine lv_iconst (v := 0) hx hb d_LO_isHeld_13 (by decide) ?_
    exact e_z hx hb hr hlk hC hP hS d_LO_isHeld_14 (by decide) ⟨by simp_all [b2i, Int32.not_le, Int32.not_lt], rfl⟩
  · refine lv_iconst (v := 1) hx hb d_LO_isHeld_9 (by decide) ?_
    refine lv_goto (tgt := 14) hx hb d_LO_isHeld_10 (by decide) ?_
    exact e_z hx hb hr hlk hC hP hS d_LO_isHeld_14 (by decide) ⟨by simp_all [b2i, Int32.not_le, Int32.not_lt], rfl⟩

def frBegin (S : SS) (q : Nat) (pr nu : Int32) : SS := su (su (su (su (su (su (su S (27 + 2 * q) 1 pr) (27 + 2 * q) 2 nu) (27 + 2 * q) 3 0) (27 + 2 * q) 4 (-1)) (28 + 2 * q) 0 0) (28 + 2 * q) 1 0) (28 + 2 * q) 2 0
set_option maxHeartbeats 4000000 in
set_option maxRecDepth 100000 in
theorem m_FR_begin (l : Launch) (G : WG) (S : SS) (q : Nat) (hq : q < 6) (a b : Int32) : Cv l y_FR_begin b_FR_begin 4 0 G [.ref (gA G (27 + 2 * q)), .int a, .int b] S (fun S1 => S1 = frBegin S q a b) := by
  refine mk l (by decide +kernel) (Nat.le_of_ble_eq_true rfl) ?_
  intro pp_ ee_ ss_ mm_ be_ me_ co_ ls hx hb hr hlk hml hC hP hS hl
  have hl : lv_has ls 4 [(0, .ref (gA G (27 + 2 * q))), (1, .int a), (2, .int b)] := hl
  refine lv_aload_n hx hb d_FR_begin_0 rfl (lv_at hl 0 rfl) ?_
  refine lv_iload_n hx hb d_FR_begin_1 rfl (lv_at hl 1 rfl) ?_
  refine r_put hx hb hC hP hS i_FR t_FR t_FR_ok n_FR (27 + 2 * q) (by omega) (sh_F G _ hq) rfl 1 (by decide) l_FR_15 rfl rfl (by rw [sh_F G _ hq]; rfl) (Nat.le_of_ble_eq_true rfl) d_FR_begin_2 (fun H locs hP hS => ?_)
  refine lv_aload_n hx hb d_FR_begin_5 rfl (lv_at hl 0 rfl) ?_
  refine lv_iload_n hx hb d_FR_begin_6 rfl (lv_at hl 2 rfl) ?_
  refine r_put hx hb hC hP hS i_FR t_FR t_FR_ok n_FR (27 + 2 * q) (by omega) (sh_F G _ hq) rfl 2 (by decide) l_FR_19 rfl rfl (by rw [sh_F G _ hq]; rfl) (Nat.le_of_ble_eq_true rfl) d_FR_begin_7 (fun H locs hP hS => ?_)
  refine lv_aload_n hx hb d_FR_begin_10 rfl (lv_at hl 0 rfl) ?_
  refine lv_iconst (v := 0) hx hb d_FR_begin_11 (by decide) ?_
  refine r_put hx hb hC hP hS i_FR t_FR t_FR_ok n_FR (27 + 2 * q) (by omega) (sh_F G _ hq) rfl 3 (by decide) l_FR_22 rfl rfl (by rw [sh_F G _ hq]; rfl) (Nat.le_of_ble_eq_true rfl) d_FR_begin_12 (fun H locs hP hS => ?_)
  refine lv_aload_n hx hb d_FR_begin_15 rfl (lv_at hl 0 rfl) ?_
  refine lv_iconst (v := (-1)) hx hb d_FR_begin_16 (by decide) ?_
  refine r_put hx hb hC hP hS i_FR t_FR t_FR_ok n_FR (27 + 2 * q) (by omega) (sh_F G _ hq) rfl 4 (by decide) l_FR_25 rfl rfl (by rw [sh_F G _ hq]; rfl) (Nat.le_of_ble_eq_true rfl) d_FR_begin_17 (fun H locs hP hS => ?_)
  refine lv_iconst (v := 0) hx hb d_FR_begin_20 (by decide) ?_
  refine lv_istore_n (lv' := [(3, .int 0), (0, .ref (gA G (27 + 2 * q))), (1, .int a), (2, .int b)]) hx hb d_FR_begin_21 rfl hl (by decide) rfl (fun ls hl => ?_)
  refine lv_iload_n hx hb d_FR_begin_22 rfl (lv_at hl 0 rfl) ?_
  refine lv_iconst (v := 3) hx hb d_FR_begin_23 (by decide) ?_
  refine lv_icmp_ge (tgt := 40) hx hb d_FR_begin_24 (by decide) (fun h => absurd h (by decide)) (fun _ => ?_)
  refine lv_aload_n hx hb d_FR_begin_27 rfl (lv_at hl 1 rfl) ?_
  refine r_get hx hb hC hP i_FR (27 + 2 * q) (by omega) (sh_F G _ hq) rfl 0 (by decide) l_FR_9 rfl d_FR_begin_28 ?_
  refine lv_iload_n hx hb d_FR_begin_31 rfl (lv_at hl 0 rfl) ?_
  refine lv_iconst (v := 0) hx hb d_FR_begin_32 (by decide) ?_
  refine r_ist hx hb hC hP hS (28 + 2 * q) (by omega) (fun r => sh_F1 G r hq) 0 rfl (by decide) (by decide) d_FR_begin_33 (fun H locs hP hS => ?_)
  refine lv_iinc (v := 1) (lv' := [(3, .int 1), (0, .ref (gA G (27 + 2 * q))), (1, .int a), (2, .int b)]) hx hb d_FR_begin_34 hl (k := 0) rfl (by decide) (by decide) rfl (fun ls hl => ?_)
  refine lv_goto (tgt := 22) hx hb d_FR_begin_37 (by decide) ?_
  refine lv_iload_n hx hb d_FR_begin_22 rfl (lv_at hl 0 rfl) ?_
  refine lv_iconst (v := 3) hx hb d_FR_begin_23 (by decide) ?_
  refine lv_icmp_ge (tgt := 40) hx hb d_FR_begin_24 (by decide) (fun h => absurd h (by decide)) (fun _ => ?_)
  refine lv_aload_n hx hb d_FR_begin_27 rfl (lv_at hl 1 rfl) ?_
  refine r_get hx hb hC hP i_FR (27 + 2 * q) (by omega) (sh_F G _ hq) rfl 0 (by decide) l_FR_9 rfl d_FR_begin_28 ?_
  refine lv_iload_n hx hb d_FR_begin_31 rfl (lv_at hl 0 rfl) ?_
  refine lv_iconst (v := 0) hx hb d_FR_begin_32 (by decide) ?_
  refine r_ist hx hb hC hP hS (28 + 2 * q) (by omega) (fun r => sh_F1 G r hq) 1 rfl (by decide) (by decide) d_FR_begin_33 (fun H locs hP hS => ?_)
  refine lv_iinc (v := 2) (lv' := [(3, .int 2), (0, .ref (gA G (27 + 2 * q))), (1, .int a), (2, .int b)]) hx hb d_FR_begin_34 hl (k := 0) rfl (by decide) (by decide) rfl (fun ls hl => ?_)
  refine lv_goto (tgt := 22) hx hb d_FR_begin_37 (by decide) ?_
  refine lv_iload_n hx hb d_FR_begin_22 rfl (lv_at hl 0 rfl) ?_
  refine lv_iconst (v := 3) hx hb d_FR_begin_23 (by decide) ?_
  refine lv_icmp_ge (tgt := 40) hx hb d_FR_begin_24 (by decide) (fun h => absurd h (by decide)) (fun _ => ?_)
  refine lv_aload_n hx hb d_FR_begin_27 rfl (lv_at hl 1 rfl) ?_
  refine r_get hx hb hC hP i_FR (27 + 2 * q) (by omega) (sh_F G _ hq) rfl 0 (by decide) l_FR_9 rfl d_FR_begin_28 ?_
  refine lv_iload_n hx hb d_FR_begin_31 rfl (lv_at hl 0 rfl) ?_
  refine lv_iconst (v := 0) hx hb d_FR_begin_32 (by decide) ?_
  refine r_ist hx hb hC hP hS (28 + 2 * q) (by omega) (fun r => sh_F1 G r hq) 2 rfl (by decide) (by decide) d_FR_begin_33 (fun H locs hP hS => ?_)
  refine lv_iinc (v := 3) (lv' := [(3, .int 3), (0, .ref (gA G (27 + 2 * q))), (1, .int a), (2, .int b)]) hx hb d_FR_begin_34 hl (k := 0) rfl (by decide) (by decide) rfl (fun ls hl => ?_)
  refine lv_goto (tgt := 22) hx hb d_FR_begin_37 (by decide) ?_
  refine lv_iload_n hx hb d_FR_begin_22 rfl (lv_at hl 0 rfl) ?_
  refine lv_iconst (v := 3) hx hb d_FR_begin_23 (by decide) ?_
  refine lv_icmp_ge (tgt := 40) hx hb d_FR_begin_24 (by decide) (fun _ => ?_) (fun h => absurd h (by decide))
  exact e_v hx hb hr hlk hC hP hS d_FR_begin_40 rfl
end
section
/-! more leaves of the class: written by wip/gen/p21.py -/
theorem d_JM_floorMod_0 : decode b_JM_floorMod 0 = .ok (.iload_n 0, 1) := by decide +kernel
theorem d_JM_floorMod_1 : decode b_JM_floorMod 1 = .ok (.iload_n 1, 1) := by decide +kernel
theorem d_JM_floorMod_2 : decode b_JM_floorMod 2 = .ok (.irem, 1) := by decide +kernel
theorem d_JM_floorMod_3 : decode b_JM_floorMod 3 = .ok (.istore_n 2, 1) := by decide +kernel
theorem d_JM_floorMod_4 : decode b_JM_floorMod 4 = .ok (.iload_n 0, 1) := by decide +kernel
theorem d_JM_floorMod_5 : decode b_JM_floorMod 5 = .ok (.iload_n 1, 1) := by decide +kernel
theorem d_JM_floorMod_6 : decode b_JM_floorMod 6 = .ok (.ixor, 1) := by decide +kernel
theorem d_JM_floorMod_7 : decode b_JM_floorMod 7 = .ok (.ifCond .ge 11, 3) := by decide +kernel
theorem d_JM_floorMod_10 : decode b_JM_floorMod 10 = .ok (.iload_n 2, 1) := by decide +kernel
theorem d_JM_floorMod_11 : decode b_JM_floorMod 11 = .ok (.ifCond .eq 7, 3) := by decide +kernel
theorem d_JM_floorMod_14 : decode b_JM_floorMod 14 = .ok (.iload_n 2, 1) := by decide +kernel
theorem d_JM_floorMod_15 : decode b_JM_floorMod 15 = .ok (.iload_n 1, 1) := by decide +kernel
theorem d_JM_floorMod_16 : decode b_JM_floorMod 16 = .ok (.iadd, 1) := by decide +kernel
theorem d_JM_floorMod_17 : decode b_JM_floorMod 17 = .ok (.ireturn, 1) := by decide +kernel
theorem d_JM_floorMod_18 : decode b_JM_floorMod 18 = .ok (.iload_n 2, 1) := by decide +kernel
theorem d_JM_floorMod_19 : decode b_JM_floorMod 19 = .ok (.ireturn, 1) := by decide +kernel
theorem xorN (a b : Nat) : nI a ^^^ nI b = nI (a ^^^ b) := by
  apply Int32.toBitVec_inj.mp
  show BitVec.ofInt 32 a ^^^ BitVec.ofInt 32 b = BitVec.ofInt 32 ((a ^^^ b : Nat) : Int)
  simp only [BitVec.ofInt_natCast]
  apply BitVec.eq_of_toNat_eq
  simp [Nat.xor_mod_two_pow]
theorem xor32 {n : Nat} (h : n < 2 ^ 31) : ¬ (nI n ^^^ (32 : Int32)) < 0 := by
  rw [show (32 : Int32) = nI 32 from rfl, xorN]
  exact nI_pos (Nat.xor_lt_two_pow h (by decide))
theorem mkF (l : Launch) {y : MethodName} {bb : ByteArray} {n h : Nat} {rt : Option FieldType} {G : WG} {as : List Value} {S : SS} {Qc : Array Value → State → Outcome → State → Prop} (hy : plainFor y = true) (hn : (lg_sl as).length ≤ n)
    (body : ∀ (p : Program) (e : Env) (s : State) (m : MethodId) (below : List Frame) (meth : Method) (c : Code) (ls : Array Slot), p.tables.exec = Jvm.exec → c.code = bb → meth.sig.returnType = rt → meth.locks = false → c.maxLocals = n → CC G y.cls s m as.toArray (AA G) → va_P (gD G) clsL (wl (gA G) 57 (fS G S)) s.heap → va_S (AA G) s.heap s.heap [] → lv_has ls n (lv_args 0 as) →
      W p l e (rmF h) s m as.toArray below meth c s.heap [] 0 0 (MQ below Qc as.toArray s 0 0 (AA G)) (F0 m 0 ls [])) : Met l y (wsM y bb n rt) (rmF h) (Pw G as S) Qc 0 0 (AA G) := by
  refine va_MetF (cc := bb) (maxL := n) (ret := rt) hy rfl ?_
  intro p e s m args below meth c s₁ B hml hv
  obtain ⟨rfl, hP, hKK⟩ := hv
  have hC : CC G y.cls s m as.toArray (AA G) := ⟨findClass_of_methodNamed B.named, fun w h => atoms_spec (ws := wsM y bb n rt) B.pre w (List.mem_cons_of_mem _ h), hKK, fun _ h => h, fun _ _ h => h⟩
  have hl := lv_entry as (n := n) hn
  rw [lg_entry_eq]
  generalize (lg_sl as ++ List.replicate (n - (lg_sl as).length) Slot.unset).toArray = ls at hl ⊢
  exact body p e s m below meth c ls B.exec B.bytes B.returns B.notSynchronized hml hC hP va_S.rf hl
set_option maxHeartbeats 4000000 in
set_option maxRecDepth 100000 in
theorem m_JM_floorMod (l : Launch) (G : WG) (S : SS) (n : Nat) (hn : n < 2 ^ 31) : Ci l y_JM_floorMod b_JM_floorMod 3 (some (.int)) 0 G [.int (nI n), .int 32] S (fun r S1 => r = nI (n % 32) ∧ S1 = S) := by
  refine mkF l (by decide +kernel) (Nat.le_of_ble_eq_true rfl) ?_
  intro pp_ ee_ ss_ mm_ be_ me_ co_ ls hx hb hr hlk hml hC hP hS hl
  have hl : lv_has ls 3 [(0, .int (nI n)), (1, .int 32)] := hl
  refine lv_iload_n hx hb d_JM_floorMod_0 rfl (lv_at hl 0 rfl) ?_
  refine lv_iload_n hx hb d_JM_floorMod_1 rfl (lv_at hl 1 rfl) ?_
  refine lv_irem hx hb d_JM_floorMod_2 (by decide) ?_
  rw [show (nI n) - (nI n) / 32 * 32 = nI (n % 32) from pk_rem (d := 32) hn (by decide) (by decide)]
  refine lv_istore_n (lv' := [(2, .int (nI (n % 32))), (0, .int (nI n)), (1, .int 32)]) hx hb d_JM_floorMod_3 rfl hl (by decide) rfl (fun ls hl => ?_)
  refine lv_iload_n hx hb d_JM_floorMod_4 rfl (lv_at hl 1 rfl) ?_
  refine lv_iload_n hx hb d_JM_floorMod_5 rfl (lv_at hl 2 rfl) ?_
  refine lv_ixor hx hb d_JM_floorMod_6 ?_
  refine lv_if_ge (tgt := 18) hx hb d_JM_floorMod_7 (by decide) (fun c_7 => ?_) (fun c_7 => absurd (Int32.not_lt.mp (xor32 hn)) c_7)
  refine lv_iload_n hx hb d_JM_floorMod_18 rfl (lv_at hl 0 rfl) ?_
  exact e_i hx hb hr hlk hC hP hS d_JM_floorMod_19 ⟨rfl, rfl⟩

def eNote (S : SS) (n : Nat) (a : Int32) : SS := su (su S 10 (n % 32) a) 9 1 (nI (n + 1))
set_option maxHeartbeats 4000000 in
set_option maxRecDepth 100000 in
theorem m_EV_note (l : Launch) (G : WG) (S : SS) (n : Nat) (hn : n < 2 ^ 31) (hs : S 9 1 = nI n) (a : Int32) : Cv l y_EV_note b_EV_note 2 1 G [.ref (gA G 9), .int a] S (fun S1 => S1 = eNote S n a) := by
  refine mk l (by decide +kernel) (Nat.le_of_ble_eq_true rfl) ?_
  intro pp_ ee_ ss_ mm_ be_ me_ co_ ls hx hb hr hlk hml hC hP hS hl
  have hl : lv_has ls 2 [(0, .ref (gA G 9)), (1, .int a)] := hl
  refine lv_aload_n hx hb d_EV_note_0 rfl (lv_at hl 0 rfl) ?_
  refine r_get hx hb hC hP i_EV (9) (by decide) rfl rfl 0 (by decide) l_EV_9 rfl d_EV_note_1 ?_
  refine lv_aload_n hx hb d_EV_note_4 rfl (lv_at hl 0 rfl) ?_
  refine r_get hx hb hC hP i_EV (9) (by decide) rfl rfl 1 (by decide) l_EV_15 rfl d_EV_note_5 ?_
  rw [show S 9 1 = nI n from hs]
  refine lv_bipush (v := 32) hx hb d_EV_note_8 (by decide) ?_
  refine r_i hC hS (r_runS (np := 2) (As := [.int (nI n), .int 32]) (rest := [.ref (gA G 10)]) hx hb hml hC hP hS (m_JM_floorMod l G S n (by omega)) l_EV_19 st_JM_floorMod in_JM c_JM_floorMod_in (by decide +kernel) ⟨by simp only [rmF]; omega, by simp only [rmF]; omega⟩ rfl hl.1 (Nat.le_of_ble_eq_true rfl) d_EV_note_10 ⟨Nat.le_refl _, Nat.le_refl _⟩) (fun r_10 S_10 H locs hw hP hS => ?_)
  obtain ⟨rfl, hSe⟩ := hw
  rw [hSe] at hP
  refine lv_iload_n hx hb d_EV_note_13 rfl (lv_at hl 1 rfl) ?_
  refine r_ist hx hb hC hP hS (10) (by decide) (fun _ => rfl) (n % 32) rfl (by omega) (by decide) d_EV_note_14 (fun H locs hP hS => ?_)
  refine lv_aload_n hx hb d_EV_note_15 rfl (lv_at hl 0 rfl) ?_
  refine lv_dup hx hb d_EV_note_16 rfl ?_
  refine r_get hx hb hC hP i_EV (9) (by decide) rfl rfl 1 (by decide) l_EV_15 rfl d_EV_note_17 ?_
  rw [show (su S 10 (n % 32) a) 9 1 = S 9 1 from by rw [su_cell _ _ _ (by decide)]]
  rw [show S 9 1 = nI n from hs]
  refine lv_iconst (v := 1) hx hb d_EV_note_20 (by decide) ?_
  refine lv_iadd hx hb d_EV_note_21 ?_
  rw [show (nI n) + 1 = nI (n + 1) from nI_1 n]
  refine r_put hx hb hC hP hS i_EV t_EV t_EV_ok n_EV (9) (by decide) rfl rfl 1 (by decide) l_EV_15 rfl rfl rfl (Nat.le_of_ble_eq_true rfl) d_EV_note_22 (fun H locs hP hS => ?_)
  exact e_v hx hb hr hlk hC hP hS d_EV_note_25 rfl

def eAt (S : SS) (n : Nat) (i : Int32) : Int32 := if isB i 32 = true ∧ i < nI n then S 10 ((n - 1 - i.toNatClampNeg) % 32) else -1
set_option maxHeartbeats 4000000 in
set_option maxRecDepth 100000 in
theorem m_EV_fromLast (l : Launch) (G : WG) (S : SS) (n : Nat) (hn : n < 2 ^ 31) (hs : S 9 1 = nI n) (i : Int32) : Ci l y_EV_fromLast b_EV_fromLast 2 (some (.int)) 1 G [.ref (gA G 9), .int i] S (fun r S1 => r = eAt S n i ∧ S1 = S) := by
  refine mk l (by decide +kernel) (Nat.le_of_ble_eq_true rfl) ?_
  intro pp_ ee_ ss_ mm_ be_ me_ co_ ls hx hb hr hlk hml hC hP hS hl
  have hl : lv_has ls 2 [(0, .ref (gA G 9)), (1, .int i)] := hl
  refine lv_iload_n hx hb d_EV_fromLast_0 rfl (lv_at hl 1 rfl) ?_
  refine lv_bipush (v := 32) hx hb d_EV_fromLast_1 (by decide) ?_
  refine r_i hC hS (r_runSN (np := 2) (As := [.int i, .int 32]) (rest := []) hx hb hml hC hP hS (m_LB_isBelow l G S i 32) k_EV_25 st_LB_isBelow in_LB c_LB_isBelow_in (by decide +kernel) ⟨by simp only [rmF]; omega, by simp only [rmF]; omega⟩ rfl hl.1 (Nat.le_of_ble_eq_true rfl) d_EV_fromLast_3 ⟨Nat.le_refl _, Nat.le_refl _⟩) (fun r_3 S_3 H locs hw hP hS => ?_)
  obtain ⟨rfl, hSe⟩ := hw
  rw [hSe] at hP
  refine lv_if_eq (tgt := 17) hx hb d_EV_fromLast_6 (by decide) (fun c_6 => ?_) (fun c_6 => ?_)
  · have c_6 := b2i_f c_6
    refine lv_iconst (v := (-1)) hx hb d_EV_fromLast_17 (by decide) ?_
    exact e_i hx hb hr hlk hC hP hS d_EV_fromLast_18 ⟨by rw [eAt, if_neg (by intro h; first | (exact absurd h.2 c_14) | (have h1 := h.1; rw [c_6] at h1; exact absurd h1 (by decide)))], rfl⟩
  · have c_6 := b2i_t c_6
    obtain ⟨j, hj32, hj⟩ := isB_nI (b := 32) (by omega) c_6
    refine lv_iload_n hx hb d_EV_fromLast_9 rfl (lv_at hl 1 rfl) ?_
    refine lv_aload_n hx hb d_EV_fromLast_10 rfl (lv_at hl 0 rfl) ?_
    refine r_get hx hb hC hP i_EV (9) (by decide) rfl rfl 1 (by decide) l_EV_15 rfl d_EV_fromLast_11 ?_
    rw [show S 9 1 = nI n from hs]
    refine lv_icmp_lt (tgt := 19) hx hb d_EV_fromLast_14 (by decide) (fun c_14 => ?_) (fun c_14 => ?_)
    · have hjn : j < n := by rw [hj] at c_14; exact (nI_ltI (by omega) (by omega)).mp c_14
      refine lv_aload_n hx hb d_EV_fromLast_19 rfl (lv_at hl 0 rfl) ?_
      refine r_get hx hb hC hP i_EV (9) (by decide) rfl rfl 0 (by decide) l_EV_9 rfl d_EV_fromLast_20 ?_
      refine lv_aload_n hx hb d_EV_fromLast_23 rfl (lv_at hl 0 rfl) ?_
      refine r_get hx hb hC hP i_EV (9) (by decide) rfl rfl 1 (by decide) l_EV_15 rfl d_EV_fromLast_24 ?_
      rw [show S 9 1 = nI n from hs]
      refine lv_iconst (v := 1) hx hb d_EV_fromLast_27 (by decide) ?_
      refine lv_isub hx hb d_EV_fromLast_28 ?_
      rw [show (nI n) - 1 = nI (n - 1) from (by rw [show (1 : Int32) = nI 1 from rfl]; exact pk_sub (by omega))]
      refine lv_iload_n hx hb d_EV_fromLast_29 rfl (lv_at hl 1 rfl) ?_
      refine lv_isub hx hb d_EV_fromLast_30 ?_
      rw [show (nI (n - 1)) - i = nI (n - 1 - j) from (by rw [hj]; exact pk_sub (by omega))]
      refine lv_bipush (v := 32) hx hb d_EV_fromLast_31 (by decide) ?_
      refine r_i hC hS (r_runS (np := 2) (As := [.int (nI (n - 1 - j)), .int 32]) (rest := [.ref (gA G 10)]) hx hb hml hC hP hS (m_JM_floorMod l G S (n - 1 - j) (by omega)) l_EV_19 st_JM_floorMod in_JM c_JM_floorMod_in (by decide +kernel) ⟨by simp only [rmF]; omega, by simp only [rmF]; omega⟩ rfl hl.1 (Nat.le_of_ble_eq_true rfl) d_EV_fromLast_33 ⟨Nat.le_refl _, Nat.le_refl _⟩) (fun r_33 S_33 H locs hw hP hS => ?_)
      obtain ⟨rfl, hSe⟩ := hw
      rw [hSe] at hP
      refine r_ild hx hb hC hP (10) (by decide) rfl ((n - 1 - j) % 32) rfl (by omega) (by decide) d_EV_fromLast_36 ?_
      exact e_i hx hb hr hlk hC hP hS d_EV_fromLast_37 ⟨by rw [eAt, if_pos ⟨by assumption, by rw [hj]; exact nI_lt hjn (by omega)⟩, hj, nI_clamp (by omega)], rfl⟩
    · refine lv_iconst (v := (-1)) hx hb d_EV_fromLast_17 (by decide) ?_
      exact e_i hx hb hr hlk hC hP hS d_EV_fromLast_18 ⟨by rw [eAt, if_neg (by intro h; first | (exact absurd h.2 c_14) | (have h1 := h.1; rw [c_6] at h1; exact absurd h1 (by decide)))], rfl⟩

set_option maxHeartbeats 4000000 in
set_option maxRecDepth 100000 in
theorem m_MA_textOf (l : Launch) (G : WG) (S : SS) (q p : Nat) (hq : q < 6) (hp : p < 4) (hs : S (27 + 2 * q) 1 = nI p) : Cr l y_MA_textOf b_MA_textOf 2 (some (.object "EndingsLab$Text")) 0 G [.ref (gA G 1), .int (nI q)] S (fun i S1 => i = 11 + 4 * p ∧ S1 = S) := by
  refine mk l (by decide +kernel) (Nat.le_of_ble_eq_true rfl) ?_
  intro pp_ ee_ ss_ mm_ be_ me_ co_ ls hx hb hr hlk hml hC hP hS hl
  have hl : lv_has ls 2 [(0, .ref (gA G 1)), (1, .int (nI q))] := hl
  refine lv_aload_n hx hb d_MA_textOf_0 rfl (lv_at hl 0 rfl) ?_
  refine r_get hx hb hC hP i_MA (1) (by decide) rfl rfl 0 (by decide) l_MA_11 rfl d_MA_textOf_1 ?_
  refine lv_aload_n hx hb d_MA_textOf_4 rfl (lv_at hl 0 rfl) ?_
  refine r_get hx hb hC hP i_MA (1) (by decide) rfl rfl 1 (by decide) l_MA_19 rfl d_MA_textOf_5 ?_
  refine lv_iload_n hx hb d_MA_textOf_8 rfl (lv_at hl 1 rfl) ?_
  refine r_frame hx hb hC hP q rfl (by omega) d_MA_textOf_9 ?_
  refine r_getN hx hb hC hP i_FR (27 + 2 * q) (by omega) (sh_F G _ hq) rfl 1 (by decide) k_MA_110 rfl d_MA_textOf_10 ?_
  rw [show S (27 + 2 * q) 1 = nI p from hs]
  refine r_text hx hb hC hP p rfl (by omega) d_MA_textOf_13 ?_
  exact e_r (post := fun i S1 => i = 11 + 4 * p ∧ S1 = S) hx hb hr hlk hC hP hS d_MA_textOf_14 ⟨rfl, rfl⟩

def mRaise (S : SS) (n q : Nat) (k c : Int32) : SS := su (fMk S n k c) (27 + 2 * q) 3 (nI n)
set_option maxHeartbeats 4000000 in
set_option maxRecDepth 100000 in
theorem m_MA_raise (l : Launch) (G : WG) (S : SS) (n q : Nat) (hn : n < 301) (hq : q < 6) (hs : S 4 2 = nI n) (a b : Int32) : Ce l y_MA_raise b_MA_raise 4 1 G [.ref (gA G 1), .ref (gA G (27 + 2 * q)), .int a, .int b] S (fun e S1 => e = 4 ∧ S1 = mRaise S n q a b) := by
  refine mk l (by decide +kernel) (Nat.le_of_ble_eq_true rfl) ?_
  intro pp_ ee_ ss_ mm_ be_ me_ co_ ls hx hb hr hlk hml hC hP hS hl
  have hl : lv_has ls 4 [(0, .ref (gA G 1)), (1, .ref (gA G (27 + 2 * q))), (2, .int a), (3, .int b)] := hl
  refine lv_aload_n hx hb d_MA_raise_0 rfl (lv_at hl 1 rfl) ?_
  refine lv_aload_n hx hb d_MA_raise_1 rfl (lv_at hl 0 rfl) ?_
  refine r_get hx hb hC hP i_MA (1) (by decide) rfl rfl 2 (by decide) l_MA_26 rfl d_MA_raise_2 ?_
  refine lv_iload_n hx hb d_MA_raise_5 rfl (lv_at hl 2 rfl) ?_
  refine lv_iload_n hx hb d_MA_raise_6 rfl (lv_at hl 3 rfl) ?_
  refine r_i hC hS (r_runV (np := 2) (As := [.int a, .int b]) (rest := [.ref (gA G (27 + 2 * q))]) hx hb hml hC hP hS (by decide) rfl rfl (m_FA_make l G S n (by omega) hs a b) l_MA_176 im_FA_make se_FA_make in_FA c_FA_make_in (by decide +kernel) ⟨by simp only [rmF]; omega, by simp only [rmF]; omega⟩ rfl hl.1 (Nat.le_of_ble_eq_true rfl) d_MA_raise_7 ⟨Nat.le_refl _, Nat.le_refl _⟩) (fun r_7 S_7 H locs hw hP hS => ?_)
  obtain ⟨rfl, hSe⟩ := hw
  rw [hSe] at hP
  refine r_putN hx hb hC hP hS i_FR t_FR t_FR_ok n_FR (27 + 2 * q) (by omega) (sh_F G _ hq) rfl 3 (by decide) k_MA_76 rfl rfl (by rw [sh_F G _ hq]; rfl) (Nat.le_of_ble_eq_true rfl) d_MA_raise_10 (fun H locs hP hS => ?_)
  refine r_enum hx hb hC hS 4 (by decide) l_MA_73 d_MA_raise_13 ?_
  exact e_e (post := fun e S1 => e = 4 ∧ S1 = mRaise S n q a b) hx hb hr hlk hC hP hS d_MA_raise_16 (by decide) ⟨rfl, rfl⟩

set_option maxHeartbeats 4000000 in
set_option maxRecDepth 100000 in
theorem m_MA_doDivide (l : Launch) (G : WG) (S : SS) (n q : Nat) (hn : n < 301) (hq : q < 6) (hs : S 4 2 = nI n) (a : Int32) : Ce l y_MA_doDivide b_MA_doDivide 3 2 G [.ref (gA G 1), .ref (gA G (27 + 2 * q)), .int a] S (fun e S1 => (e = if a = 0 then 4 else 0) ∧ S1 = if a = 0 then mRaise S n q 6 (-1) else su S (27 + 2 * q) 2 (S (27 + 2 * q) 2 / a)) := by
  refine mk l (by decide +kernel) (Nat.le_of_ble_eq_true rfl) ?_
  intro pp_ ee_ ss_ mm_ be_ me_ co_ ls hx hb hr hlk hml hC hP hS hl
  have hl : lv_has ls 3 [(0, .ref (gA G 1)), (1, .ref (gA G (27 + 2 * q))), (2, .int a)] := hl
  refine lv_iload_n hx hb d_MA_doDivide_0 rfl (lv_at hl 2 rfl) ?_
  refine lv_if_ne (tgt := 13) hx hb d_MA_doDivide_1 (by decide) (fun c_1 => ?_) (fun c_1 => ?_)
  · refine lv_aload_n hx hb d_MA_doDivide_13 rfl (lv_at hl 1 rfl) ?_
    refine lv_dup hx hb d_MA_doDivide_14 rfl ?_
    refine r_getN hx hb hC hP i_FR (27 + 2 * q) (by omega) (sh_F G _ hq) rfl 2 (by decide) k_MA_89 rfl d_MA_doDivide_15 ?_
    refine lv_iload_n hx hb d_MA_doDivide_18 rfl (lv_at hl 2 rfl) ?_
    refine lv_idiv hx hb d_MA_doDivide_19 c_1 ?_
    refine r_putN hx hb hC hP hS i_FR t_FR t_FR_ok n_FR (27 + 2 * q) (by omega) (sh_F G _ hq) rfl 2 (by decide) k_MA_89 rfl rfl (by rw [sh_F G _ hq]; rfl) (Nat.le_of_ble_eq_true rfl) d_MA_doDivide_20 (fun H locs hP hS => ?_)
    refine r_enum hx hb hC hS 0 (by decide) l_MA_86 d_MA_doDivide_23 ?_
    exact e_e (post := fun e S1 => (e = if a = 0 then 4 else 0) ∧ S1 = if a = 0 then mRaise S n q 6 (-1) else su S (27 + 2 * q) 2 (S (27 + 2 * q) 2 / a)) hx hb hr hlk hC hP hS d_MA_doDivide_26 (by decide) ⟨by simp_all, by simp_all⟩
  · refine lv_aload_n hx hb d_MA_doDivide_4 rfl (lv_at hl 0 rfl) ?_
    refine lv_aload_n hx hb d_MA_doDivide_5 rfl (lv_at hl 1 rfl) ?_
    refine lv_bipush (v := 6) hx hb d_MA_doDivide_6 (by decide) ?_
    refine lv_iconst (v := (-1)) hx hb d_MA_doDivide_8 (by decide) ?_
    refine r_e (post := fun e S1 => e = 4 ∧ S1 = mRaise S n q 6 (-1)) hC hS (r_runV (np := 3) (As := [.ref (gA G (27 + 2 * q)), .int 6, .int (-1)]) (rest := []) hx hb hml hC hP hS (by decide) rfl rfl (m_MA_raise l G S n q (by omega) (by omega) hs 6 (-1)) l_MA_99 im_MA_raise se_MA_raise in_MA c_MA_raise_in (by decide +kernel) ⟨by simp only [rmF]; omega, by simp only [rmF]; omega⟩ rfl hl.1 (Nat.le_of_ble_eq_true rfl) d_MA_doDivide_9 ⟨Nat.le_refl _, Nat.le_refl _⟩) (fun i_9 S_9 H locs hi_9 hw hP hS => ?_)
    obtain ⟨rfl, hSe⟩ := hw
    rw [hSe] at hP
    exact e_e (post := fun e S1 => (e = if a = 0 then 4 else 0) ∧ S1 = if a = 0 then mRaise S n q 6 (-1) else su S (27 + 2 * q) 2 (S (27 + 2 * q) 2 / a)) hx hb hr hlk hC hP hS d_MA_doDivide_12 (by decide) ⟨by simp_all, by simp_all⟩

def mEnter (S : SS) (q i : Nat) : SS := lHold (su S (28 + 2 * q) i (S (28 + 2 * q) i + 1)) i
def mLeave (S : SS) (q i : Nat) : SS := lRel (su S (28 + 2 * q) i (S (28 + 2 * q) i - 1)) i 1
set_option maxHeartbeats 4000000 in
set_option maxRecDepth 100000 in
theorem m_MA_doEnter (l : Launch) (G : WG) (S : SS) (q i : Nat) (hq : q < 6) (hi : i < 3) : Ce l y_MA_doEnter b_MA_doEnter 3 2 G [.ref (gA G 1), .ref (gA G (27 + 2 * q)), .int (nI i)] S (fun e S1 => e = 0 ∧ S1 = mEnter S q i) := by
  refine mk l (by decide +kernel) (Nat.le_of_ble_eq_true rfl) ?_
  intro pp_ ee_ ss_ mm_ be_ me_ co_ ls hx hb hr hlk hml hC hP hS hl
  have hl : lv_has ls 3 [(0, .ref (gA G 1)), (1, .ref (gA G (27 + 2 * q))), (2, .int (nI i))] := hl
  refine lv_aload_n hx hb d_MA_doEnter_0 rfl (lv_at hl 1 rfl) ?_
  refine r_getN hx hb hC hP i_FR (27 + 2 * q) (by omega) (sh_F G _ hq) rfl 0 (by decide) k_MA_103 rfl d_MA_doEnter_1 ?_
  refine lv_iload_n hx hb d_MA_doEnter_4 rfl (lv_at hl 2 rfl) ?_
  refine lv_dup2_11 hx hb d_MA_doEnter_5 rfl rfl ?_
  refine r_ild hx hb hC hP (28 + 2 * q) (by omega) (sh_F1 G _ hq) i rfl (by omega) (by decide) d_MA_doEnter_6 ?_
  refine lv_iconst (v := 1) hx hb d_MA_doEnter_7 (by decide) ?_
  refine lv_iadd hx hb d_MA_doEnter_8 ?_
  refine r_ist hx hb hC hP hS (28 + 2 * q) (by omega) (fun r => sh_F1 G r hq) i rfl (by omega) (by decide) d_MA_doEnter_9 (fun H locs hP hS => ?_)
  refine lv_aload_n hx hb d_MA_doEnter_10 rfl (lv_at hl 0 rfl) ?_
  refine r_get hx hb hC hP i_MA (1) (by decide) rfl rfl 3 (by decide) l_MA_33 rfl d_MA_doEnter_11 ?_
  refine lv_iload_n hx hb d_MA_doEnter_14 rfl (lv_at hl 2 rfl) ?_
  refine r_v hC hS (r_runV (np := 1) (As := [.int (nI i)]) (rest := []) hx hb hml hC hP hS (by decide) rfl rfl (m_LO_hold l G (su S (28 + 2 * q) i ((S (28 + 2 * q) i) + 1)) i (by omega)) l_MA_203 im_LO_hold se_LO_hold in_LO c_LO_hold_in (by decide +kernel) ⟨by simp only [rmF]; omega, by simp only [rmF]; omega⟩ rfl hl.1 (Nat.le_of_ble_eq_true rfl) d_MA_doEnter_15 ⟨Nat.le_refl _, Nat.le_refl _⟩) (fun S_15 H locs hw hP hS => ?_)
  rw [hw] at hP
  refine r_enum hx hb hC hS 0 (by decide) l_MA_86 d_MA_doEnter_18 ?_
  exact e_e (post := fun e S1 => e = 0 ∧ S1 = mEnter S q i) hx hb hr hlk hC hP hS d_MA_doEnter_21 (by decide) ⟨rfl, rfl⟩

set_option maxHeartbeats 4000000 in
set_option maxRecDepth 100000 in
theorem m_MA_doLeave (l : Launch) (G : WG) (S : SS) (n q i : Nat) (hn : n < 301) (hq : q < 6) (hs : S 4 2 = nI n) (hi : i < 3) : Ce l y_MA_doLeave b_MA_doLeave 3 2 G [.ref (gA G 1), .ref (gA G (27 + 2 * q)), .int (nI i)] S (fun e S1 => (e = if S (28 + 2 * q) i ≤ 0 then 4 else 0) ∧ S1 = if S (28 + 2 * q) i ≤ 0 then mRaise S n q 4 (-1) else mLeave S q i) := by
  refine mk l (by decide +kernel) (Nat.le_of_ble_eq_true rfl) ?_
  intro pp_ ee_ ss_ mm_ be_ me_ co_ ls hx hb hr hlk hml hC hP hS hl
  have hl : lv_has ls 3 [(0, .ref (gA G 1)), (1, .ref (gA G (27 + 2 * q))), (2, .int (nI i))] := hl
  refine lv_aload_n hx hb d_MA_doLeave_0 rfl (lv_at hl 1 rfl) ?_
  refine r_getN hx hb hC hP i_FR (27 + 2 * q) (by omega) (sh_F G _ hq) rfl 0 (by decide) k_MA_103 rfl d_MA_doLeave_1 ?_
  refine lv_iload_n hx hb d_MA_doLeave_4 rfl (lv_at hl 2 rfl) ?_
  refine r_ild hx hb hC hP (28 + 2 * q) (by omega) (sh_F1 G _ hq) i rfl (by omega) (by decide) d_MA_doLeave_5 ?_
  refine lv_if_gt (tgt := 17) hx hb d_MA_doLeave_6 (by decide) (fun c_6 => ?_) (fun c_6 => ?_)
  · refine lv_aload_n hx hb d_MA_doLeave_17 rfl (lv_at hl 1 rfl) ?_
    refine r_getN hx hb hC hP i_FR (27 + 2 * q) (by omega) (sh_F G _ hq) rfl 0 (by decide) k_MA_103 rfl d_MA_doLeave_18 ?_
    refine lv_iload_n hx hb d_MA_doLeave_21 rfl (lv_at hl 2 rfl) ?_
    refine lv_dup2_11 hx hb d_MA_doLeave_22 rfl rfl ?_
    refine r_ild hx hb hC hP (28 + 2 * q) (by omega) (sh_F1 G _ hq) i rfl (by omega) (by decide) d_MA_doLeave_23 ?_
    refine lv_iconst (v := 1) hx hb d_MA_doLeave_24 (by decide) ?_
    refine lv_isub hx hb d_MA_doLeave_25 ?_
    refine r_ist hx hb hC hP hS (28 + 2 * q) (by omega) (fun r => sh_F1 G r hq) i rfl (by omega) (by decide) d_MA_doLeave_26 (fun H locs hP hS => ?_)
    refine lv_aload_n hx hb d_MA_doLeave_27 rfl (lv_at hl 0 rfl) ?_
    refine r_get hx hb hC hP i_MA (1) (by decide) rfl rfl 3 (by decide) l_MA_33 rfl d_MA_doLeave_28 ?_
    refine lv_iload_n hx hb d_MA_doLeave_31 rfl (lv_at hl 2 rfl) ?_
    refine lv_iconst (v := 1) hx hb d_MA_doLeave_32 (by decide) ?_
    refine r_v hC hS (r_runV (np := 2) (As := [.int (nI i), .int 1]) (rest := []) hx hb hml hC hP hS (by decide) rfl rfl (m_LO_release l G (su S (28 + 2 * q) i ((S (28 + 2 * q) i) - 1)) i (by omega) 1) l_MA_107 im_LO_release se_LO_release in_LO c_LO_release_in (by decide +kernel) ⟨by simp only [rmF]; omega, by simp only [rmF]; omega⟩ rfl hl.1 (Nat.le_of_ble_eq_true rfl) d_MA_doLeave_33 ⟨Nat.le_refl _, Nat.le_refl _⟩) (fun S_33 H locs hw hP hS => ?_)
    rw [hw] at hP
    refine r_enum hx hb hC hS 0 (by decide) l_MA_86 d_MA_doLeave_36 ?_
    exact e_e (post := fun e S1 => (e = if S (28 + 2 * q) i ≤ 0 then 4 else 0) ∧ S1 = if S (28 + 2 * q) i ≤ 0 then mRaise S n q 4 (-1) else mLeave S q i) hx hb hr hlk hC hP hS d_MA_doLeave_39 (by decide) ⟨by simp_all [Int32.not_le, Int32.not_lt], by first | exact (if_pos (by assumption)).symm | exact (if_neg (by assumption)).symm | exact (if_neg (Int32.not_le.mpr (by assumption))).symm | exact (if_pos (Int32.not_lt.mp (by assumption))).symm⟩
  · refine lv_aload_n hx hb d_MA_doLeave_9 rfl (lv_at hl 0 rfl) ?_
    refine lv_aload_n hx hb d_MA_doLeave_10 rfl (lv_at hl 1 rfl) ?_
    refine lv_iconst (v := 4) hx hb d_MA_doLeave_11 (by decide) ?_
    refine lv_iconst (v := (-1)) hx hb d_MA_doLeave_12 (by decide) ?_
    refine r_e (post := fun e S1 => e = 4 ∧ S1 = mRaise S n q 4 (-1)) hC hS (r_runV (np := 3) (As := [.ref (gA G (27 + 2 * q)), .int 4, .int (-1)]) (rest := []) hx hb hml hC hP hS (by decide) rfl rfl (m_MA_raise l G S n q (by omega) (by omega) hs 4 (-1)) l_MA_99 im_MA_raise se_MA_raise in_MA c_MA_raise_in (by decide +kernel) ⟨by simp only [rmF]; omega, by simp only [rmF]; omega⟩ rfl hl.1 (Nat.le_of_ble_eq_true rfl) d_MA_doLeave_13 ⟨Nat.le_refl _, Nat.le_refl _⟩) (fun i_13 S_13 H locs hi_13 hw hP hS => ?_)
    obtain ⟨rfl, hSe⟩ := hw
    rw [hSe] at hP
    exact e_e (post := fun e S1 => (e = if S (28 + 2 * q) i ≤ 0 then 4 else 0) ∧ S1 = if S (28 + 2 * q) i ≤ 0 then mRaise S n q 4 (-1) else mLeave S q i) hx hb hr hlk hC hP hS d_MA_doLeave_16 (by decide) ⟨by simp_all [Int32.not_le, Int32.not_lt], by first | exact (if_pos (by assumption)).symm | exact (if_neg (by assumption)).symm | exact (if_neg (Int32.not_le.mpr (by assumption))).symm | exact (if_pos (Int32.not_lt.mp (by assumption))).symm⟩
end
section
/-! Text.behind, Faults.causeOf, catches, releaseEntered, the lab's short methods: written by wip/gen/p22.py -/
def pe (E : Nat → Nat) (i : Nat) : Nat → Nat
  | 0 => E i
  | k + 1 => E (pe E i k + 1)
set_option maxHeartbeats 4000000 in
set_option maxRecDepth 100000 in
theorem m_TE_behind_loop (l : Launch) (G : WG) (S : SS) (p i n np : Nat) (hp : p < 4) (hn : n ≤ 32) (hi : i < n) (hs : S (11 + 4 * p) 3 = nI n) (E : Nat → Nat) (hE : ∀ j, j < n → S (14 + 4 * p) j = nI (E j) ∧ E j < 32) (hnp : np ≤ 3) (hc : tCat S p i + b2i (tLast S p i) = nI np) (hb9 : ∀ k, k < np → pe E i k + 1 < n) {pp_ : Program} {ee_ : Env} {ss_ : State} {mm_ : MethodId} {be_ : List Frame} {me_ : Method} {co_ : Code} (hx : pp_.tables.exec = Jvm.exec) (hb : co_.code = b_TE_behind) (hr : me_.sig.returnType = (some (.int))) (hlk : me_.locks = false) (hml : co_.maxLocals = 5) (hC : CC G "EndingsLab$Text" ss_ mm_ ([.ref (gA G (11 + 4 * p)), .int (nI i)] : List Value).toArray (AA G)) :
    ∀ (f : Nat) (k : Nat), k ≤ np → np < k + f → pe E i k < 32 →  ∀ (H : Heap) (locs : List Loc) (ls : Array Slot), va_P (gD G) clsL (wl (gA G) 57 (fS G S)) H → va_S (AA G) ss_.heap H locs → lv_has ls 5 [(0, .ref (gA G (11 + 4 * p))), (1, .int (nI i)), (2, .int (nI np)), (3, .int (nI (pe E i k))), (4, .int (nI k))] → W pp_ l ee_ (rmF 1) ss_ mm_ ([.ref (gA G (11 + 4 * p)), .int (nI i)] : List Value).toArray be_ me_ co_ H locs 0 0 (MQ be_ (va_Qi (fun r S1 => r = nI (pe E i np + 1) ∧ S1 = S) (WD G) (AA G)) ([.ref (gA G (11 + 4 * p)), .int (nI i)] : List Value).toArray ss_ 0 0 (AA G)) (F0 mm_ 30 ls []) := by
  intro f
  induction f with
  | zero =>
    intro k hk hf hpe H locs ls hP hS hl
    exact absurd hf (by omega)
  | succ f ih =>
    intro k hk hf hpe H locs ls hP hS hl
    refine lv_iload hx hb d_TE_behind_30 (lv_at hl 4 rfl) ?_
    refine lv_iload_n hx hb d_TE_behind_32 rfl (lv_at hl 2 rfl) ?_
    refine lv_icmp_ge (tgt := 61) hx hb d_TE_behind_33 (by decide) (fun c_33 => ?_) (fun c_33 => ?_)
    · have c_33 : np ≤ k := (q_le (a := np) (b := k) rfl rfl (by omega) (by omega)).mp c_33
      refine lv_iload_n hx hb d_TE_behind_61 rfl (lv_at hl 3 rfl) ?_
      refine lv_iconst (v := 1) hx hb d_TE_behind_62 (by decide) ?_
      refine lv_iadd hx hb d_TE_behind_63 ?_
      rw [show (nI (pe E i k)) + 1 = nI (pe E i k + 1) from nI_1 _]
      exact e_i hx hb hr hlk hC hP hS d_TE_behind_64 ⟨by first | (rw [show k = np by omega]) | (exfalso; have := hb9 k (by omega); omega), rfl⟩
    · have c_33 : ¬ np ≤ k := fun h => c_33 ((q_le (a := np) (b := k) rfl rfl (by omega) (by omega)).mpr h)
      refine lv_iload_n hx hb d_TE_behind_36 rfl (lv_at hl 3 rfl) ?_
      refine lv_iconst (v := 1) hx hb d_TE_behind_37 (by decide) ?_
      refine lv_iadd hx hb d_TE_behind_38 ?_
      rw [show (nI (pe E i k)) + 1 = nI (pe E i k + 1) from nI_1 _]
      refine lv_aload_n hx hb d_TE_behind_39 rfl (lv_at hl 0 rfl) ?_
      refine r_get hx hb hC hP i_TE (11 + 4 * p) (by omega) (sh_T G _ hp) rfl 3 (by decide) l_TE_21 rfl d_TE_behind_40 ?_
      rw [show S (11 + 4 * p) 3 = nI n from hs]
      refine lv_icmp_ge (tgt := 61) hx hb d_TE_behind_43 (by decide) (fun c_43 => ?_) (fun c_43 => ?_)
      · have c_43 : n ≤ pe E i k + 1 := (q_le (a := n) (b := pe E i k + 1) rfl rfl (by omega) (by omega)).mp c_43
        refine lv_iload_n hx hb d_TE_behind_61 rfl (lv_at hl 3 rfl) ?_
        refine lv_iconst (v := 1) hx hb d_TE_behind_62 (by decide) ?_
        refine lv_iadd hx hb d_TE_behind_63 ?_
        rw [show (nI (pe E i k)) + 1 = nI (pe E i k + 1) from nI_1 _]
        exact e_i hx hb hr hlk hC hP hS d_TE_behind_64 ⟨by first | (rw [show k = np by omega]) | (exfalso; have := hb9 k (by omega); omega), rfl⟩
      · have c_43 : ¬ n ≤ pe E i k + 1 := fun h => c_43 ((q_le (a := n) (b := pe E i k + 1) rfl rfl (by omega) (by omega)).mpr h)
        refine lv_aload_n hx hb d_TE_behind_46 rfl (lv_at hl 0 rfl) ?_
        refine r_get hx hb hC hP i_TE (11 + 4 * p) (by omega) (sh_T G _ hp) rfl 2 (by decide) l_TE_18 rfl d_TE_behind_47 ?_
        refine lv_iload_n hx hb d_TE_behind_50 rfl (lv_at hl 3 rfl) ?_
        refine lv_iconst (v := 1) hx hb d_TE_behind_51 (by decide) ?_
        refine lv_iadd hx hb d_TE_behind_52 ?_
        rw [show (nI (pe E i k)) + 1 = nI (pe E i k + 1) from nI_1 _]
        refine r_ild hx hb hC hP (14 + 4 * p) (by omega) (sh_T3 G _ hp) (pe E i k + 1) rfl (by omega) (by decide) d_TE_behind_53 ?_
        rw [show S (14 + 4 * p) (pe E i k + 1) = nI (pe E i (k + 1)) from (hE _ (by omega)).1]
        refine lv_istore_n (lv' := [(3, .int (nI (pe E i (k + 1)))), (0, .ref (gA G (11 + 4 * p))), (1, .int (nI i)), (2, .int (nI np)), (4, .int (nI k))]) hx hb d_TE_behind_54 rfl hl (by decide) rfl (fun ls hl => ?_)
        refine lv_iinc (v := nI (k + 1)) (lv' := [(4, .int (nI (k + 1))), (3, .int (nI (pe E i (k + 1)))), (0, .ref (gA G (11 + 4 * p))), (1, .int (nI i)), (2, .int (nI np))]) hx hb d_TE_behind_55 hl (k := 4) rfl (nI_1 _) (by decide) rfl (fun ls hl => ?_)
        refine lv_goto (tgt := 30) hx hb d_TE_behind_58 (by decide) ?_
        exact ih (k + 1) (by omega) (by omega) (hE _ (by omega)).2 _ _ _ hP hS (lv_sub hl [2, 3, 4, 1, 0] rfl)

set_option maxHeartbeats 4000000 in
set_option maxRecDepth 100000 in
theorem m_TE_behind (l : Launch) (G : WG) (S : SS) (p i n np : Nat) (hp : p < 4) (hn : n ≤ 32) (hi : i < n) (hs : S (11 + 4 * p) 3 = nI n) (E : Nat → Nat) (hE : ∀ j, j < n → S (14 + 4 * p) j = nI (E j) ∧ E j < 32) (hnp : np ≤ 3) (hc : tCat S p i + b2i (tLast S p i) = nI np) (hb9 : ∀ k, k < np → pe E i k + 1 < n) : Ci l y_TE_behind b_TE_behind 5 (some (.int)) 1 G [.ref (gA G (11 + 4 * p)), .int (nI i)] S (fun r S1 => r = nI (pe E i np + 1) ∧ S1 = S) := by
  refine mk l (by decide +kernel) (Nat.le_of_ble_eq_true rfl) ?_
  intro pp_ ee_ ss_ mm_ be_ me_ co_ ls hx hb hr hlk hml hC hP hS hl
  have hl : lv_has ls 5 [(0, .ref (gA G (11 + 4 * p))), (1, .int (nI i))] := hl
  refine lv_aload_n hx hb d_TE_behind_0 rfl (lv_at hl 0 rfl) ?_
  refine lv_iload_n hx hb d_TE_behind_1 rfl (lv_at hl 1 rfl) ?_
  refine r_i hC hS (r_runV (np := 1) (As := [.int (nI i)]) (rest := []) hx hb hml hC hP hS (by omega) (sh_T G _ hp) rfl (m_TE_catchesOf l G S p i hp (by omega)) l_TE_25 im_TE_catchesOf se_TE_catchesOf in_TE c_TE_catchesOf_in (by decide +kernel) ⟨by simp only [rmF]; omega, by simp only [rmF]; omega⟩ rfl hl.1 (Nat.le_of_ble_eq_true rfl) d_TE_behind_2 ⟨Nat.le_refl _, Nat.le_refl _⟩) (fun r_2 S_2 H locs hw hP hS => ?_)
  obtain ⟨rfl, hSe⟩ := hw
  rw [hSe] at hP
  refine lv_aload_n hx hb d_TE_behind_5 rfl (lv_at hl 0 rfl) ?_
  refine lv_iload_n hx hb d_TE_behind_6 rfl (lv_at hl 1 rfl) ?_
  refine r_i hC hS (r_runV (np := 1) (As := [.int (nI i)]) (rest := [.int (tCat S p i)]) hx hb hml hC hP hS (by omega) (sh_T G _ hp) rfl (m_TE_hasLast l G S p i hp (by omega)) l_TE_29 im_TE_hasLast se_TE_hasLast in_TE c_TE_hasLast_in (by decide +kernel) ⟨by simp only [rmF]; omega, by simp only [rmF]; omega⟩ rfl hl.1 (Nat.le_of_ble_eq_true rfl) d_TE_behind_7 ⟨Nat.le_refl _, Nat.le_refl _⟩) (fun r_7 S_7 H locs hw hP hS => ?_)
  obtain ⟨rfl, hSe⟩ := hw
  rw [hSe] at hP
  refine lv_if_eq (tgt := 17) hx hb d_TE_behind_10 (by decide) (fun c_10 => ?_) (fun c_10 => ?_)
  · have c_10 := b2i_f c_10
    refine lv_iconst (v := 0) hx hb d_TE_behind_17 (by decide) ?_
    refine lv_iadd hx hb d_TE_behind_18 ?_
    rw [show (tCat S p i) + 0 = nI np from (by have h := hc; rw [c_10] at h; exact h)]
    refine lv_istore_n (lv' := [(2, .int (nI np)), (0, .ref (gA G (11 + 4 * p))), (1, .int (nI i))]) hx hb d_TE_behind_19 rfl hl (by decide) rfl (fun ls hl => ?_)
    refine lv_aload_n hx hb d_TE_behind_20 rfl (lv_at hl 1 rfl) ?_
    refine r_get hx hb hC hP i_TE (11 + 4 * p) (by omega) (sh_T G _ hp) rfl 2 (by decide) l_TE_18 rfl d_TE_behind_21 ?_
    refine lv_iload_n hx hb d_TE_behind_24 rfl (lv_at hl 2 rfl) ?_
    refine r_ild hx hb hC hP (14 + 4 * p) (by omega) (sh_T3 G _ hp) i rfl (by omega) (by decide) d_TE_behind_25 ?_
    rw [show S (14 + 4 * p) i = nI (pe E i 0) from (hE _ (by omega)).1]
    refine lv_istore_n (lv' := [(3, .int (nI (pe E i 0))), (2, .int (nI np)), (0, .ref (gA G (11 + 4 * p))), (1, .int (nI i))]) hx hb d_TE_behind_26 rfl hl (by decide) rfl (fun ls hl => ?_)
    refine lv_iconst (v := 0) hx hb d_TE_behind_27 (by decide) ?_
    refine lv_istore (lv' := [(4, .int 0), (3, .int (nI (pe E i 0))), (2, .int (nI np)), (0, .ref (gA G (11 + 4 * p))), (1, .int (nI i))]) hx hb d_TE_behind_28 hl (by decide) rfl (fun ls hl => ?_)
    exact m_TE_behind_loop l G S p i n np hp hn hi hs E hE hnp hc hb9 hx hb hr hlk hml hC (np + 1) 0 (Nat.zero_le _) (by omega) (hE _ (by omega)).2 _ _ _ hP hS (lv_sub hl [3, 4, 2, 1, 0] rfl)
  · have c_10 := b2i_t c_10
    refine lv_iconst (v := 1) hx hb d_TE_behind_13 (by decide) ?_
    refine lv_goto (tgt := 18) hx hb d_TE_behind_14 (by decide) ?_
    refine lv_iadd hx hb d_TE_behind_18 ?_
    rw [show (tCat S p i) + 1 = nI np from (by have h := hc; rw [c_10] at h; exact h)]
    refine lv_istore_n (lv' := [(2, .int (nI np)), (0, .ref (gA G (11 + 4 * p))), (1, .int (nI i))]) hx hb d_TE_behind_19 rfl hl (by decide) rfl (fun ls hl => ?_)
    refine lv_aload_n hx hb d_TE_behind_20 rfl (lv_at hl 1 rfl) ?_
    refine r_get hx hb hC hP i_TE (11 + 4 * p) (by omega) (sh_T G _ hp) rfl 2 (by decide) l_TE_18 rfl d_TE_behind_21 ?_
    refine lv_iload_n hx hb d_TE_behind_24 rfl (lv_at hl 2 rfl) ?_
    refine r_ild hx hb hC hP (14 + 4 * p) (by omega) (sh_T3 G _ hp) i rfl (by omega) (by decide) d_TE_behind_25 ?_
    rw [show S (14 + 4 * p) i = nI (pe E i 0) from (hE _ (by omega)).1]
    refine lv_istore_n (lv' := [(3, .int (nI (pe E i 0))), (2, .int (nI np)), (0, .ref (gA G (11 + 4 * p))), (1, .int (nI i))]) hx hb d_TE_behind_26 rfl hl (by decide) rfl (fun ls hl => ?_)
    refine lv_iconst (v := 0) hx hb d_TE_behind_27 (by decide) ?_
    refine lv_istore (lv' := [(4, .int 0), (3, .int (nI (pe E i 0))), (2, .int (nI np)), (0, .ref (gA G (11 + 4 * p))), (1, .int (nI i))]) hx hb d_TE_behind_28 hl (by decide) rfl (fun ls hl => ?_)
    exact m_TE_behind_loop l G S p i n np hp hn hi hs E hE hnp hc hb9 hx hb hr hlk hml hC (np + 1) 0 (Nat.zero_le _) (by omega) (hE _ (by omega)).2 _ _ _ hP hS (lv_sub hl [3, 4, 2, 1, 0] rfl)

/-- the k-th cause, class's numbers: i from 0, -1 is none -/
def cz (S : SS) (n : Nat) (i : Int32) : Nat → Int32
  | 0 => i
  | k + 1 => if isB (cz S n i k) (nI n) = true then S 6 (cz S n i k).toNatClampNeg else cz S n i k
theorem cz_out {S : SS} {n : Nat} {i : Int32} {k : Nat} (h : isB (cz S n i k) (nI n) = false) : ∀ m, k ≤ m → cz S n i m = cz S n i k := by
  intro m hm
  induction m with
  | zero => rw [show k = 0 by omega]
  | succ m ih =>
    rcases (show k = m + 1 ∨ k ≤ m by omega) with h1 | h1
    · rw [h1]
    · show (if isB (cz S n i m) (nI n) = true then _ else _) = _
      rw [ih h1, h]
      rfl
theorem cz_down {S : SS} {n : Nat} {i : Int32} (hn : n ≤ 301) (hi : i < nI n) (hc : ∀ j, j < n → -1 ≤ S 6 j ∧ S 6 j < nI j) : ∀ k, isB (cz S n i k) (nI n) = true → (cz S n i k).toNatClampNeg + k < n := by
  intro k
  induction k with
  | zero =>
    intro h
    obtain ⟨j, hj, e⟩ := isB_nI (by omega) h
    rw [e, nI_clamp (by omega)]
    exact hj
  | succ k ih =>
    intro h
    by_cases hk : isB (cz S n i k) (nI n) = true
    · have h1 := ih hk
      obtain ⟨j, hj, e⟩ := isB_nI (by omega) hk
      rw [e, nI_clamp (by omega)] at h1
      obtain ⟨j2, hj2, e2⟩ := isB_nI (by omega) h
      have e3 : cz S n i (k + 1) = S 6 j := by
        show (if isB (cz S n i k) (nI n) = true then S 6 (cz S n i k).toNatClampNeg else _) = _
        rw [if_pos hk, e, nI_clamp (by omega)]
      have h4 := (hc j hj).2
      rw [← e3, e2] at h4
      have h5 := (nI_ltI (by omega) (by omega)).mp h4
      rw [e2, nI_clamp (by omega)]
      omega
    · have e3 : cz S n i (k + 1) = cz S n i k := by
        show (if isB (cz S n i k) (nI n) = true then _ else _) = _
        rw [if_neg hk]
      rw [e3] at h
      exact absurd h hk
set_option maxHeartbeats 4000000 in
set_option maxRecDepth 100000 in
theorem m_FA_causeOf_loop (l : Launch) (G : WG) (S : SS) (n kk : Nat) (hn : n ≤ 301) (hk : kk < 2 ^ 31) (hs : S 4 2 = nI n) (i : Int32) (hi : i < nI n) (hc : ∀ j, j < n → -1 ≤ S 6 j ∧ S 6 j < nI j) {pp_ : Program} {ee_ : Env} {ss_ : State} {mm_ : MethodId} {be_ : List Frame} {me_ : Method} {co_ : Code} (hx : pp_.tables.exec = Jvm.exec) (hb : co_.code = b_FA_causeOf) (hr : me_.sig.returnType = (some (.int))) (hlk : me_.locks = false) (hml : co_.maxLocals = 5) (hC : CC G "EndingsLab$Faults" ss_ mm_ ([.ref (gA G 4), .int i, .int (nI kk)] : List Value).toArray (AA G)) :
    ∀ (f : Nat) (j : Nat), j ≤ kk → j ≤ 301 → 301 < j + f →  ∀ (H : Heap) (locs : List Loc) (ls : Array Slot), va_P (gD G) clsL (wl (gA G) 57 (fS G S)) H → va_S (AA G) ss_.heap H locs → lv_has ls 5 [(0, .ref (gA G 4)), (1, .int i), (2, .int (nI kk)), (3, .int (cz S n i j)), (4, .int (nI j))] → W pp_ l ee_ (rmF 1) ss_ mm_ ([.ref (gA G 4), .int i, .int (nI kk)] : List Value).toArray be_ me_ co_ H locs 0 0 (MQ be_ (va_Qi (fun r S1 => r = cz S n i kk ∧ S1 = S) (WD G) (AA G)) ([.ref (gA G 4), .int i, .int (nI kk)] : List Value).toArray ss_ 0 0 (AA G)) (F0 mm_ 5 ls []) := by
  intro f
  induction f with
  | zero =>
    intro j hj hj3 hf H locs ls hP hS hl
    exact absurd hf (by omega)
  | succ f ih =>
    intro j hj hj3 hf H locs ls hP hS hl
    refine lv_iload hx hb d_FA_causeOf_5 (lv_at hl 4 rfl) ?_
    refine lv_iload_n hx hb d_FA_causeOf_7 rfl (lv_at hl 2 rfl) ?_
    refine lv_icmp_ge (tgt := 35) hx hb d_FA_causeOf_8 (by decide) (fun c_8 => ?_) (fun c_8 => ?_)
    · have c_8 : kk ≤ j := (q_le (a := kk) (b := j) rfl rfl (by omega) (by omega)).mp c_8
      refine lv_iload_n hx hb d_FA_causeOf_35 rfl (lv_at hl 3 rfl) ?_
      exact e_i hx hb hr hlk hC hP hS d_FA_causeOf_36 ⟨by first | (rw [show j = kk by omega]; done) | exact (cz_out c_19 kk (by omega)).symm, rfl⟩
    · have c_8 : ¬ kk ≤ j := fun h => c_8 ((q_le (a := kk) (b := j) rfl rfl (by omega) (by omega)).mpr h)
      refine lv_iload_n hx hb d_FA_causeOf_11 rfl (lv_at hl 3 rfl) ?_
      refine lv_aload_n hx hb d_FA_causeOf_12 rfl (lv_at hl 0 rfl) ?_
      refine r_get hx hb hC hP i_FA (4) (by decide) rfl rfl 2 (by decide) l_FA_18 rfl d_FA_causeOf_13 ?_
      rw [show S 4 2 = nI n from hs]
      refine r_i hC hS (r_runSN (np := 2) (As := [.int (cz S n i j), .int (nI n)]) (rest := []) hx hb hml hC hP hS (m_LB_isBelow l G S (cz S n i j) (nI n)) k_FA_22 st_LB_isBelow in_LB c_LB_isBelow_in (by decide +kernel) ⟨by simp only [rmF]; omega, by simp only [rmF]; omega⟩ rfl hl.1 (Nat.le_of_ble_eq_true rfl) d_FA_causeOf_16 ⟨Nat.le_refl _, Nat.le_refl _⟩) (fun r_16 S_16 H locs hw hP hS => ?_)
      obtain ⟨rfl, hSe⟩ := hw
      rw [hSe] at hP
      refine lv_if_eq (tgt := 35) hx hb d_FA_causeOf_19 (by decide) (fun c_19 => ?_) (fun c_19 => ?_)
      · have c_19 := b2i_f c_19
        refine lv_iload_n hx hb d_FA_causeOf_35 rfl (lv_at hl 3 rfl) ?_
        exact e_i hx hb hr hlk hC hP hS d_FA_causeOf_36 ⟨by first | (rw [show j = kk by omega]; done) | exact (cz_out c_19 kk (by omega)).symm, rfl⟩
      · have c_19 := b2i_t c_19
        obtain ⟨c, hcn, hce⟩ := isB_nI (by omega) c_19
        have hdn := cz_down hn hi hc j c_19
        refine lv_aload_n hx hb d_FA_causeOf_22 rfl (lv_at hl 0 rfl) ?_
        refine r_get hx hb hC hP i_FA (4) (by decide) rfl rfl 1 (by decide) l_FA_15 rfl d_FA_causeOf_23 ?_
        refine lv_iload_n hx hb d_FA_causeOf_26 rfl (lv_at hl 3 rfl) ?_
        refine r_ild hx hb hC hP (6) (by decide) rfl c hce (by omega) (by decide) d_FA_causeOf_27 ?_
        rw [show S 6 c = cz S n i (j + 1) from (by show _ = (if isB (cz S n i j) (nI n) = true then S 6 (cz S n i j).toNatClampNeg else _); rw [if_pos c_19, hce, nI_clamp (by omega)])]
        refine lv_istore_n (lv' := [(3, .int (cz S n i (j + 1))), (0, .ref (gA G 4)), (1, .int i), (2, .int (nI kk)), (4, .int (nI j))]) hx hb d_FA_causeOf_28 rfl hl (by decide) rfl (fun ls hl => ?_)
        refine lv_iinc (v := nI (j + 1)) (lv' := [(4, .int (nI (j + 1))), (3, .int (cz S n i (j + 1))), (0, .ref (gA G 4)), (1, .int i), (2, .int (nI kk))]) hx hb d_FA_causeOf_29 hl (k := 4) rfl (nI_1 _) (by decide) rfl (fun ls hl => ?_)
        refine lv_goto (tgt := 5) hx hb d_FA_causeOf_32 (by decide) ?_
        exact ih (j + 1) (by omega) (by omega) (by omega) _ _ _ hP hS (lv_sub hl [2, 3, 4, 1, 0] rfl)

set_option maxHeartbeats 4000000 in
set_option maxRecDepth 100000 in
theorem m_FA_causeOf (l : Launch) (G : WG) (S : SS) (n kk : Nat) (hn : n ≤ 301) (hk : kk < 2 ^ 31) (hs : S 4 2 = nI n) (i : Int32) (hi : i < nI n) (hc : ∀ j, j < n → -1 ≤ S 6 j ∧ S 6 j < nI j) : Ci l y_FA_causeOf b_FA_causeOf 5 (some (.int)) 1 G [.ref (gA G 4), .int i, .int (nI kk)] S (fun r S1 => r = cz S n i kk ∧ S1 = S) := by
  refine mk l (by decide +kernel) (Nat.le_of_ble_eq_true rfl) ?_
  intro pp_ ee_ ss_ mm_ be_ me_ co_ ls hx hb hr hlk hml hC hP hS hl
  have hl : lv_has ls 5 [(0, .ref (gA G 4)), (1, .int i), (2, .int (nI kk))] := hl
  refine lv_iload_n hx hb d_FA_causeOf_0 rfl (lv_at hl 1 rfl) ?_
  refine lv_istore_n (lv' := [(3, .int i), (0, .ref (gA G 4)), (1, .int i), (2, .int (nI kk))]) hx hb d_FA_causeOf_1 rfl hl (by decide) rfl (fun ls hl => ?_)
  refine lv_iconst (v := 0) hx hb d_FA_causeOf_2 (by decide) ?_
  refine lv_istore (lv' := [(4, .int 0), (3, .int i), (0, .ref (gA G 4)), (1, .int i), (2, .int (nI kk))]) hx hb d_FA_causeOf_3 hl (by decide) rfl (fun ls hl => ?_)
  exact m_FA_causeOf_loop l G S n kk hn hk hs i hi hc hx hb hr hlk hml hC 302 0 (Nat.zero_le _) (by omega) (by omega) _ _ _ hP hS (lv_sub hl [2, 3, 4, 1, 0] rfl)

set_option maxHeartbeats 4000000 in
set_option maxRecDepth 100000 in
theorem m_LB_value (l : Launch) (G : WG) (S : SS)  : Ci l y_LB_value b_LB_value 1 (some (.int)) 0 G [.ref (gA G 0)] S (fun r S1 => r = S 1 6 ∧ S1 = S) := by
  refine mk l (by decide +kernel) (Nat.le_of_ble_eq_true rfl) ?_
  intro pp_ ee_ ss_ mm_ be_ me_ co_ ls hx hb hr hlk hml hC hP hS hl
  have hl : lv_has ls 1 [(0, .ref (gA G 0))] := hl
  refine lv_aload_n hx hb d_LB_value_0 rfl (lv_at hl 0 rfl) ?_
  refine r_get hx hb hC hP i_LB (0) (by decide) rfl rfl 0 (by decide) l_LB_12 rfl d_LB_value_1 ?_
  refine r_getN hx hb hC hP i_MA (1) (by decide) rfl rfl 6 (by decide) k_LB_61 rfl d_LB_value_4 ?_
  exact e_i hx hb hr hlk hC hP hS d_LB_value_7 ⟨rfl, rfl⟩

set_option maxHeartbeats 4000000 in
set_option maxRecDepth 100000 in
theorem m_LB_steps (l : Launch) (G : WG) (S : SS)  : Ci l y_LB_steps b_LB_steps 1 (some (.int)) 0 G [.ref (gA G 0)] S (fun r S1 => r = S 1 5 ∧ S1 = S) := by
  refine mk l (by decide +kernel) (Nat.le_of_ble_eq_true rfl) ?_
  intro pp_ ee_ ss_ mm_ be_ me_ co_ ls hx hb hr hlk hml hC hP hS hl
  have hl : lv_has ls 1 [(0, .ref (gA G 0))] := hl
  refine lv_aload_n hx hb d_LB_steps_0 rfl (lv_at hl 0 rfl) ?_
  refine r_get hx hb hC hP i_LB (0) (by decide) rfl rfl 0 (by decide) l_LB_12 rfl d_LB_steps_1 ?_
  refine r_getN hx hb hC hP i_MA (1) (by decide) rfl rfl 5 (by decide) k_LB_79 rfl d_LB_steps_4 ?_
  exact e_i hx hb hr hlk hC hP hS d_LB_steps_7 ⟨rfl, rfl⟩

set_option maxHeartbeats 4000000 in
set_option maxRecDepth 100000 in
theorem m_LB_events (l : Launch) (G : WG) (S : SS)  : Ci l y_LB_events b_LB_events 1 (some (.int)) 0 G [.ref (gA G 0)] S (fun r S1 => r = S 9 1 ∧ S1 = S) := by
  refine mk l (by decide +kernel) (Nat.le_of_ble_eq_true rfl) ?_
  intro pp_ ee_ ss_ mm_ be_ me_ co_ ls hx hb hr hlk hml hC hP hS hl
  have hl : lv_has ls 1 [(0, .ref (gA G 0))] := hl
  refine lv_aload_n hx hb d_LB_events_0 rfl (lv_at hl 0 rfl) ?_
  refine r_get hx hb hC hP i_LB (0) (by decide) rfl rfl 0 (by decide) l_LB_12 rfl d_LB_events_1 ?_
  refine r_getN hx hb hC hP i_MA (1) (by decide) rfl rfl 4 (by decide) k_LB_82 rfl d_LB_events_4 ?_
  refine r_getN hx hb hC hP i_EV (9) (by decide) rfl rfl 1 (by decide) k_LB_86 rfl d_LB_events_7 ?_
  exact e_i hx hb hr hlk hC hP hS d_LB_events_10 ⟨rfl, rfl⟩

set_option maxHeartbeats 4000000 in
set_option maxRecDepth 100000 in
theorem m_LB_most (l : Launch) (G : WG) (S : SS)  : Ci l y_LB_most b_LB_most 1 (some (.int)) 0 G [.ref (gA G 0)] S (fun r S1 => r = S 7 2 ∧ S1 = S) := by
  refine mk l (by decide +kernel) (Nat.le_of_ble_eq_true rfl) ?_
  intro pp_ ee_ ss_ mm_ be_ me_ co_ ls hx hb hr hlk hml hC hP hS hl
  have hl : lv_has ls 1 [(0, .ref (gA G 0))] := hl
  refine lv_aload_n hx hb d_LB_most_0 rfl (lv_at hl 0 rfl) ?_
  refine r_get hx hb hC hP i_LB (0) (by decide) rfl rfl 0 (by decide) l_LB_12 rfl d_LB_most_1 ?_
  refine r_getN hx hb hC hP i_MA (1) (by decide) rfl rfl 3 (by decide) k_LB_94 rfl d_LB_most_4 ?_
  refine r_getN hx hb hC hP i_LO (7) (by decide) rfl rfl 2 (by decide) k_LB_98 rfl d_LB_most_7 ?_
  exact e_i hx hb hr hlk hC hP hS d_LB_most_10 ⟨rfl, rfl⟩

set_option maxHeartbeats 4000000 in
set_option maxRecDepth 100000 in
theorem m_LB_place (l : Launch) (G : WG) (S : SS)  : Ci l y_LB_place b_LB_place 1 (some (.int)) 0 G [.ref (gA G 0)] S (fun r S1 => r = S 0 2 ∧ S1 = S) := by
  refine mk l (by decide +kernel) (Nat.le_of_ble_eq_true rfl) ?_
  intro pp_ ee_ ss_ mm_ be_ me_ co_ ls hx hb hr hlk hml hC hP hS hl
  have hl : lv_has ls 1 [(0, .ref (gA G 0))] := hl
  refine lv_aload_n hx hb d_LB_place_0 rfl (lv_at hl 0 rfl) ?_
  refine r_get hx hb hC hP i_LB (0) (by decide) rfl rfl 2 (by decide) l_LB_23 rfl d_LB_place_1 ?_
  exact e_i hx hb hr hlk hC hP hS d_LB_place_4 ⟨rfl, rfl⟩

set_option maxHeartbeats 4000000 in
set_option maxRecDepth 100000 in
theorem m_LB_event (l : Launch) (G : WG) (S : SS) (n : Nat) (hn : n < 2 ^ 31) (hs : S 9 1 = nI n) (i : Int32) : Ci l y_LB_event b_LB_event 2 (some (.int)) 2 G [.ref (gA G 0), .int i] S (fun r S1 => r = eAt S n i ∧ S1 = S) := by
  refine mk l (by decide +kernel) (Nat.le_of_ble_eq_true rfl) ?_
  intro pp_ ee_ ss_ mm_ be_ me_ co_ ls hx hb hr hlk hml hC hP hS hl
  have hl : lv_has ls 2 [(0, .ref (gA G 0)), (1, .int i)] := hl
  refine lv_aload_n hx hb d_LB_event_0 rfl (lv_at hl 0 rfl) ?_
  refine r_get hx hb hC hP i_LB (0) (by decide) rfl rfl 0 (by decide) l_LB_12 rfl d_LB_event_1 ?_
  refine r_getN hx hb hC hP i_MA (1) (by decide) rfl rfl 4 (by decide) k_LB_82 rfl d_LB_event_4 ?_
  refine lv_iload_n hx hb d_LB_event_7 rfl (lv_at hl 1 rfl) ?_
  refine r_i hC hS (r_runV (np := 1) (As := [.int i]) (rest := []) hx hb hml hC hP hS (by decide) rfl rfl (m_EV_fromLast l G S n (by omega) hs i) l_LB_91 im_EV_fromLast se_EV_fromLast in_EV c_EV_fromLast_in (by decide +kernel) ⟨by simp only [rmF]; omega, by simp only [rmF]; omega⟩ rfl hl.1 (Nat.le_of_ble_eq_true rfl) d_LB_event_8 ⟨Nat.le_refl _, Nat.le_refl _⟩) (fun r_8 S_8 H locs hw hP hS => ?_)
  obtain ⟨rfl, hSe⟩ := hw
  rw [hSe] at hP
  exact e_i hx hb hr hlk hC hP hS d_LB_event_11 ⟨rfl, rfl⟩

def fAt (S : SS) (n : Nat) (k : Int32) : Int32 := if k < 0 then -1 else fKind S (cz S n (S 1 7) k.toNatClampNeg) n
set_option maxHeartbeats 4000000 in
set_option maxRecDepth 100000 in
theorem m_LB_fault (l : Launch) (G : WG) (S : SS) (n : Nat) (hn : n ≤ 301) (hs : S 4 2 = nI n) (hi : S 1 7 < nI n) (hc : ∀ j, j < n → -1 ≤ S 6 j ∧ S 6 j < nI j) (k : Int32) : Ci l y_LB_fault b_LB_fault 2 (some (.int)) 2 G [.ref (gA G 0), .int k] S (fun r S1 => r = fAt S n k ∧ S1 = S) := by
  refine mk l (by decide +kernel) (Nat.le_of_ble_eq_true rfl) ?_
  intro pp_ ee_ ss_ mm_ be_ me_ co_ ls hx hb hr hlk hml hC hP hS hl
  have hl : lv_has ls 2 [(0, .ref (gA G 0)), (1, .int k)] := hl
  refine lv_iload_n hx hb d_LB_fault_0 rfl (lv_at hl 1 rfl) ?_
  refine lv_if_ge (tgt := 8) hx hb d_LB_fault_1 (by decide) (fun c_1 => ?_) (fun c_1 => ?_)
  · obtain ⟨kk, hkk, hke⟩ := nI_of (x := k) (by first | assumption | exact Int32.not_lt.mpr (by assumption))
    subst hke
    refine lv_aload_n hx hb d_LB_fault_8 rfl (lv_at hl 0 rfl) ?_
    refine r_get hx hb hC hP i_LB (0) (by decide) rfl rfl 0 (by decide) l_LB_12 rfl d_LB_fault_9 ?_
    refine r_getN hx hb hC hP i_MA (1) (by decide) rfl rfl 2 (by decide) k_LB_64 rfl d_LB_fault_12 ?_
    refine lv_aload_n hx hb d_LB_fault_15 rfl (lv_at hl 0 rfl) ?_
    refine r_get hx hb hC hP i_LB (0) (by decide) rfl rfl 0 (by decide) l_LB_12 rfl d_LB_fault_16 ?_
    refine r_getN hx hb hC hP i_MA (1) (by decide) rfl rfl 2 (by decide) k_LB_64 rfl d_LB_fault_19 ?_
    refine lv_aload_n hx hb d_LB_fault_22 rfl (lv_at hl 0 rfl) ?_
    refine r_get hx hb hC hP i_LB (0) (by decide) rfl rfl 0 (by decide) l_LB_12 rfl d_LB_fault_23 ?_
    refine r_getN hx hb hC hP i_MA (1) (by decide) rfl rfl 7 (by decide) k_LB_68 rfl d_LB_fault_26 ?_
    refine lv_iload_n hx hb d_LB_fault_29 rfl (lv_at hl 1 rfl) ?_
    refine r_i hC hS (r_runV (np := 2) (As := [.int (S 1 7), .int (nI kk)]) (rest := [.ref (gA G 4)]) hx hb hml hC hP hS (by decide) rfl rfl (m_FA_causeOf l G S n kk (by omega) (by omega) hs (S 1 7) hi hc) l_LB_71 im_FA_causeOf se_FA_causeOf in_FA c_FA_causeOf_in (by decide +kernel) ⟨by simp only [rmF]; omega, by simp only [rmF]; omega⟩ rfl hl.1 (Nat.le_of_ble_eq_true rfl) d_LB_fault_30 ⟨Nat.le_refl _, Nat.le_refl _⟩) (fun r_30 S_30 H locs hw hP hS => ?_)
    obtain ⟨rfl, hSe⟩ := hw
    rw [hSe] at hP
    refine r_i hC hS (r_runV (np := 1) (As := [.int (cz S n (S 1 7) kk)]) (rest := []) hx hb hml hC hP hS (by decide) rfl rfl (m_FA_kindOf l G S n (by omega) hs (cz S n (S 1 7) kk)) l_LB_76 im_FA_kindOf se_FA_kindOf in_FA c_FA_kindOf_in (by decide +kernel) ⟨by simp only [rmF]; omega, by simp only [rmF]; omega⟩ rfl hl.1 (Nat.le_of_ble_eq_true rfl) d_LB_fault_33 ⟨Nat.le_refl _, Nat.le_refl _⟩) (fun r_33 S_33 H locs hw hP hS => ?_)
    obtain ⟨rfl, hSe⟩ := hw
    rw [hSe] at hP
    exact e_i hx hb hr hlk hC hP hS d_LB_fault_36 ⟨by rw [fAt, if_neg (nI_pos hkk), nI_clamp hkk], rfl⟩
  · refine lv_iconst (v := (-1)) hx hb d_LB_fault_4 (by decide) ?_
    refine lv_goto (tgt := 36) hx hb d_LB_fault_5 (by decide) ?_
    exact e_i hx hb hr hlk hC hP hS d_LB_fault_36 ⟨(if_pos (by first | assumption | exact Int32.not_le.mp (by assumption))).symm, rfl⟩

def rel1 (S : SS) (q i : Nat) : SS := if 0 < S (28 + 2 * q) i then lRel S i (S (28 + 2 * q) i) else S
theorem lRel_keep (S : SS) (i : Nat) (n : Int32) {a : Nat} (h7 : a ≠ 7) (h8 : a ≠ 8) : lRel S i n a = S a := by
  unfold lRel
  rw [su_cell _ _ _ h7, su_cell _ _ _ h8]
def owes (S : SS) (q : Nat) : Bool := decide (0 < S (28 + 2 * q) 0) || decide (0 < S (28 + 2 * q) 1) || decide (0 < S (28 + 2 * q) 2)
def relF (S : SS) (q i : Nat) (X : SS) : SS := if 0 < S (28 + 2 * q) i then lRel X i (S (28 + 2 * q) i) else X
def relE (S : SS) (q : Nat) : SS := relF S q 2 (relF S q 1 (relF S q 0 S))
end
section
/-! releaseEntered, catches, isToken, token, wipe: written by wip/gen/p23.py -/
set_option maxHeartbeats 4000000 in
set_option maxRecDepth 100000 in
theorem m_MA_releaseEntered (l : Launch) (G : WG) (S : SS) (q : Nat) (hq : q < 6) : Ci l y_MA_releaseEntered b_MA_releaseEntered 4 (some (.boolean)) 1 G [.ref (gA G 1), .ref (gA G (27 + 2 * q))] S (fun r S1 => r = b2i (owes S q) ∧ S1 = relE S q) := by
  refine mk l (by decide +kernel) (Nat.le_of_ble_eq_true rfl) ?_
  intro pp_ ee_ ss_ mm_ be_ me_ co_ ls hx hb hr hlk hml hC hP hS hl
  have hl : lv_has ls 4 [(0, .ref (gA G 1)), (1, .ref (gA G (27 + 2 * q)))] := hl
  refine lv_iconst (v := 0) hx hb d_MA_releaseEntered_0 (by decide) ?_
  refine lv_istore_n (lv' := [(2, .int 0), (0, .ref (gA G 1)), (1, .ref (gA G (27 + 2 * q)))]) hx hb d_MA_releaseEntered_1 rfl hl (by decide) rfl (fun ls hl => ?_)
  refine lv_iconst (v := 0) hx hb d_MA_releaseEntered_2 (by decide) ?_
  refine lv_istore_n (lv' := [(3, .int 0), (2, .int 0), (0, .ref (gA G 1)), (1, .ref (gA G (27 + 2 * q)))]) hx hb d_MA_releaseEntered_3 rfl hl (by decide) rfl (fun ls hl => ?_)
  refine lv_iload_n hx hb d_MA_releaseEntered_4 rfl (lv_at hl 0 rfl) ?_
  refine lv_iconst (v := 3) hx hb d_MA_releaseEntered_5 (by decide) ?_
  refine lv_icmp_ge (tgt := 40) hx hb d_MA_releaseEntered_6 (by decide) (fun h => absurd h (by decide)) (fun _ => ?_)
  refine lv_aload_n hx hb d_MA_releaseEntered_9 rfl (lv_at hl 3 rfl) ?_
  refine r_getN hx hb hC hP i_FR (27 + 2 * q) (by omega) (sh_F G _ hq) rfl 0 (by decide) k_MA_103 rfl d_MA_releaseEntered_10 ?_
  refine lv_iload_n hx hb d_MA_releaseEntered_13 rfl (lv_at hl 0 rfl) ?_
  refine r_ild hx hb hC hP (28 + 2 * q) (by omega) (sh_F1 G _ hq) 0 rfl (by decide) (by decide) d_MA_releaseEntered_14 ?_
  refine lv_if_le (tgt := 34) hx hb d_MA_releaseEntered_15 (by decide) (fun c_15 => ?_) (fun c_15 => ?_)
  · refine lv_iinc (v := 1) (lv' := [(3, .int 1), (2, .int 0), (0, .ref (gA G 1)), (1, .ref (gA G (27 + 2 * q)))]) hx hb d_MA_releaseEntered_34 hl (k := 0) rfl (by decide) (by decide) rfl (fun ls hl => ?_)
    refine lv_goto (tgt := 4) hx hb d_MA_releaseEntered_37 (by decide) ?_
    refine lv_iload_n hx hb d_MA_releaseEntered_4 rfl (lv_at hl 0 rfl) ?_
    refine lv_iconst (v := 3) hx hb d_MA_releaseEntered_5 (by decide) ?_
    refine lv_icmp_ge (tgt := 40) hx hb d_MA_releaseEntered_6 (by decide) (fun h => absurd h (by decide)) (fun _ => ?_)
    refine lv_aload_n hx hb d_MA_releaseEntered_9 rfl (lv_at hl 3 rfl) ?_
    refine r_getN hx hb hC hP i_FR (27 + 2 * q) (by omega) (sh_F G _ hq) rfl 0 (by decide) k_MA_103 rfl d_MA_releaseEntered_10 ?_
    refine lv_iload_n hx hb d_MA_releaseEntered_13 rfl (lv_at hl 0 rfl) ?_
    refine r_ild hx hb hC hP (28 + 2 * q) (by omega) (sh_F1 G _ hq) 1 rfl (by decide) (by decide) d_MA_releaseEntered_14 ?_
    refine lv_if_le (tgt := 34) hx hb d_MA_releaseEntered_15 (by decide) (fun c_15x => ?_) (fun c_15x => ?_)
    · refine lv_iinc (v := 2) (lv' := [(3, .int 2), (2, .int 0), (0, .ref (gA G 1)), (1, .ref (gA G (27 + 2 * q)))]) hx hb d_MA_releaseEntered_34 hl (k := 0) rfl (by decide) (by decide) rfl (fun ls hl => ?_)
      refine lv_goto (tgt := 4) hx hb d_MA_releaseEntered_37 (by decide) ?_
      refine lv_iload_n hx hb d_MA_releaseEntered_4 rfl (lv_at hl 0 rfl) ?_
      refine lv_iconst (v := 3) hx hb d_MA_releaseEntered_5 (by decide) ?_
      refine lv_icmp_ge (tgt := 40) hx hb d_MA_releaseEntered_6 (by decide) (fun h => absurd h (by decide)) (fun _ => ?_)
      refine lv_aload_n hx hb d_MA_releaseEntered_9 rfl (lv_at hl 3 rfl) ?_
      refine r_getN hx hb hC hP i_FR (27 + 2 * q) (by omega) (sh_F G _ hq) rfl 0 (by decide) k_MA_103 rfl d_MA_releaseEntered_10 ?_
      refine lv_iload_n hx hb d_MA_releaseEntered_13 rfl (lv_at hl 0 rfl) ?_
      refine r_ild hx hb hC hP (28 + 2 * q) (by omega) (sh_F1 G _ hq) 2 rfl (by decide) (by decide) d_MA_releaseEntered_14 ?_
      refine lv_if_le (tgt := 34) hx hb d_MA_releaseEntered_15 (by decide) (fun c_15xx => ?_) (fun c_15xx => ?_)
      · refine lv_iinc (v := 3) (lv' := [(3, .int 3), (2, .int 0), (0, .ref (gA G 1)), (1, .ref (gA G (27 + 2 * q)))]) hx hb d_MA_releaseEntered_34 hl (k := 0) rfl (by decide) (by decide) rfl (fun ls hl => ?_)
        refine lv_goto (tgt := 4) hx hb d_MA_releaseEntered_37 (by decide) ?_
        refine lv_iload_n hx hb d_MA_releaseEntered_4 rfl (lv_at hl 0 rfl) ?_
        refine lv_iconst (v := 3) hx hb d_MA_releaseEntered_5 (by decide) ?_
        refine lv_icmp_ge (tgt := 40) hx hb d_MA_releaseEntered_6 (by decide) (fun _ => ?_) (fun h => absurd h (by decide))
        refine lv_iload_n hx hb d_MA_releaseEntered_40 rfl (lv_at hl 1 rfl) ?_
        exact e_z hx hb hr hlk hC hP hS d_MA_releaseEntered_41 (by decide) ⟨by rw [owes, decide_eq_false (Int32.not_lt.mpr c_15), decide_eq_false (Int32.not_lt.mpr c_15x), decide_eq_false (Int32.not_lt.mpr c_15xx)]; rfl, by rw [relE, relF, relF, relF, if_neg (Int32.not_lt.mpr c_15), if_neg (Int32.not_lt.mpr c_15x), if_neg (Int32.not_lt.mpr c_15xx)] <;> rfl⟩
      · refine lv_aload_n hx hb d_MA_releaseEntered_18 rfl (lv_at hl 2 rfl) ?_
        refine r_get hx hb hC hP i_MA (1) (by decide) rfl rfl 3 (by decide) l_MA_33 rfl d_MA_releaseEntered_19 ?_
        refine lv_iload_n hx hb d_MA_releaseEntered_22 rfl (lv_at hl 0 rfl) ?_
        refine lv_aload_n hx hb d_MA_releaseEntered_23 rfl (lv_at hl 3 rfl) ?_
        refine r_getN hx hb hC hP i_FR (27 + 2 * q) (by omega) (sh_F G _ hq) rfl 0 (by decide) k_MA_103 rfl d_MA_releaseEntered_24 ?_
        refine lv_iload_n hx hb d_MA_releaseEntered_27 rfl (lv_at hl 0 rfl) ?_
        refine r_ild hx hb hC hP (28 + 2 * q) (by omega) (sh_F1 G _ hq) 2 rfl (by decide) (by decide) d_MA_releaseEntered_28 ?_
        refine r_v hC hS (r_runV (np := 2) (As := [.int 2, .int (S (28 + 2 * q) 2)]) (rest := []) hx hb hml hC hP hS (by decide) rfl rfl (m_LO_release l G S 2 (by omega) (S (28 + 2 * q) 2)) l_MA_107 im_LO_release se_LO_release in_LO c_LO_release_in (by decide +kernel) ⟨by simp only [rmF]; omega, by simp only [rmF]; omega⟩ rfl hl.1 (Nat.le_of_ble_eq_true rfl) d_MA_releaseEntered_29 ⟨Nat.le_refl _, Nat.le_refl _⟩) (fun S_29 H locs hw hP hS => ?_)
        rw [hw] at hP
        unfold lRel at hP
        refine lv_iconst (v := 1) hx hb d_MA_releaseEntered_32 (by decide) ?_
        refine lv_istore_n (lv' := [(2, .int 1), (3, .int 2), (0, .ref (gA G 1)), (1, .ref (gA G (27 + 2 * q)))]) hx hb d_MA_releaseEntered_33 rfl hl (by decide) rfl (fun ls hl => ?_)
        refine lv_iinc (v := 3) (lv' := [(3, .int 3), (2, .int 1), (0, .ref (gA G 1)), (1, .ref (gA G (27 + 2 * q)))]) hx hb d_MA_releaseEntered_34 hl (k := 1) rfl (by decide) (by decide) rfl (fun ls hl => ?_)
        refine lv_goto (tgt := 4) hx hb d_MA_releaseEntered_37 (by decide) ?_
        refine lv_iload_n hx hb d_MA_releaseEntered_4 rfl (lv_at hl 0 rfl) ?_
        refine lv_iconst (v := 3) hx hb d_MA_releaseEntered_5 (by decide) ?_
        refine lv_icmp_ge (tgt := 40) hx hb d_MA_releaseEntered_6 (by decide) (fun _ => ?_) (fun h => absurd h (by decide))
        refine lv_iload_n hx hb d_MA_releaseEntered_40 rfl (lv_at hl 1 rfl) ?_
        exact e_z hx hb hr hlk hC hP hS d_MA_releaseEntered_41 (by decide) ⟨by rw [owes, decide_eq_false (Int32.not_lt.mpr c_15), decide_eq_false (Int32.not_lt.mpr c_15x), decide_eq_true (Int32.not_le.mp c_15xx)]; rfl, by rw [relE, relF, relF, relF, if_neg (Int32.not_lt.mpr c_15), if_neg (Int32.not_lt.mpr c_15x), if_pos (Int32.not_le.mp c_15xx)] <;> rfl⟩
    · refine lv_aload_n hx hb d_MA_releaseEntered_18 rfl (lv_at hl 2 rfl) ?_
      refine r_get hx hb hC hP i_MA (1) (by decide) rfl rfl 3 (by decide) l_MA_33 rfl d_MA_releaseEntered_19 ?_
      refine lv_iload_n hx hb d_MA_releaseEntered_22 rfl (lv_at hl 0 rfl) ?_
      refine lv_aload_n hx hb d_MA_releaseEntered_23 rfl (lv_at hl 3 rfl) ?_
      refine r_getN hx hb hC hP i_FR (27 + 2 * q) (by omega) (sh_F G _ hq) rfl 0 (by decide) k_MA_103 rfl d_MA_releaseEntered_24 ?_
      refine lv_iload_n hx hb d_MA_releaseEntered_27 rfl (lv_at hl 0 rfl) ?_
      refine r_ild hx hb hC hP (28 + 2 * q) (by omega) (sh_F1 G _ hq) 1 rfl (by decide) (by decide) d_MA_releaseEntered_28 ?_
      refine r_v hC hS (r_runV (np := 2) (As := [.int 1, .int (S (28 + 2 * q) 1)]) (rest := []) hx hb hml hC hP hS (by decide) rfl rfl (m_LO_release l G S 1 (by omega) (S (28 + 2 * q) 1)) l_MA_107 im_LO_release se_LO_release in_LO c_LO_release_in (by decide +kernel) ⟨by simp only [rmF]; omega, by simp only [rmF]; omega⟩ rfl hl.1 (Nat.le_of_ble_eq_true rfl) d_MA_releaseEntered_29 ⟨Nat.le_refl _, Nat.le_refl _⟩) (fun S_29 H locs hw hP hS => ?_)
      rw [hw] at hP
      unfold lRel at hP
      refine lv_iconst (v := 1) hx hb d_MA_releaseEntered_32 (by decide) ?_
      refine lv_istore_n (lv' := [(2, .int 1), (3, .int 1), (0, .ref (gA G 1)), (1, .ref (gA G (27 + 2 * q)))]) hx hb d_MA_releaseEntered_33 rfl hl (by decide) rfl (fun ls hl => ?_)
      refine lv_iinc (v := 2) (lv' := [(3, .int 2), (2, .int 1), (0, .ref (gA G 1)), (1, .ref (gA G (27 + 2 * q)))]) hx hb d_MA_releaseEntered_34 hl (k := 1) rfl (by decide) (by decide) rfl (fun ls hl => ?_)
      refine lv_goto (tgt := 4) hx hb d_MA_releaseEntered_37 (by decide) ?_
      refine lv_iload_n hx hb d_MA_releaseEntered_4 rfl (lv_at hl 0 rfl) ?_
      refine lv_iconst (v := 3) hx hb d_MA_releaseEntered_5 (by decide) ?_
      refine lv_icmp_ge (tgt := 40) hx hb d_MA_releaseEntered_6 (by decide) (fun h => absurd h (by decide)) (fun _ => ?_)
      refine lv_aload_n hx hb d_MA_releaseEntered_9 rfl (lv_at hl 3 rfl) ?_
      refine r_getN hx hb hC hP i_FR (27 + 2 * q) (by omega) (sh_F G _ hq) rfl 0 (by decide) k_MA_103 rfl d_MA_releaseEntered_10 ?_
      refine lv_iload_n hx hb d_MA_releaseEntered_13 rfl (lv_at hl 0 rfl) ?_
      refine r_ild hx hb hC hP (28 + 2 * q) (by omega) (sh_F1 G _ hq) 2 rfl (by decide) (by decide) d_MA_releaseEntered_14 ?_
      rw [show (su (su S 8 1 (S 8 1 - (S (28 + 2 * q) 1))) 7 1 (S 7 1 - (S (28 + 2 * q) 1))) (28 + 2 * q) 2 = S (28 + 2 * q) 2 from by rw [su_cell _ _ _ (by omega), su_cell _ _ _ (by omega)]]
      refine lv_if_le (tgt := 34) hx hb d_MA_releaseEntered_15 (by decide) (fun c_15xx => ?_) (fun c_15xx => ?_)
      · refine lv_iinc (v := 3) (lv' := [(3, .int 3), (2, .int 1), (0, .ref (gA G 1)), (1, .ref (gA G (27 + 2 * q)))]) hx hb d_MA_releaseEntered_34 hl (k := 0) rfl (by decide) (by decide) rfl (fun ls hl => ?_)
        refine lv_goto (tgt := 4) hx hb d_MA_releaseEntered_37 (by decide) ?_
        refine lv_iload_n hx hb d_MA_releaseEntered_4 rfl (lv_at hl 0 rfl) ?_
        refine lv_iconst (v := 3) hx hb d_MA_releaseEntered_5 (by decide) ?_
        refine lv_icmp_ge (tgt := 40) hx hb d_MA_releaseEntered_6 (by decide) (fun _ => ?_) (fun h => absurd h (by decide))
        refine lv_iload_n hx hb d_MA_releaseEntered_40 rfl (lv_at hl 1 rfl) ?_
        exact e_z hx hb hr hlk hC hP hS d_MA_releaseEntered_41 (by decide) ⟨by rw [owes, decide_eq_false (Int32.not_lt.mpr c_15), decide_eq_true (Int32.not_le.mp c_15x), decide_eq_false (Int32.not_lt.mpr c_15xx)]; rfl, by rw [relE, relF, relF, relF, if_neg (Int32.not_lt.mpr c_15), if_pos (Int32.not_le.mp c_15x), if_neg (Int32.not_lt.mpr c_15xx)] <;> rfl⟩
      · refine lv_aload_n hx hb d_MA_releaseEntered_18 rfl (lv_at hl 2 rfl) ?_
        refine r_get hx hb hC hP i_MA (1) (by decide) rfl rfl 3 (by decide) l_MA_33 rfl d_MA_releaseEntered_19 ?_
        refine lv_iload_n hx hb d_MA_releaseEntered_22 rfl (lv_at hl 0 rfl) ?_
        refine lv_aload_n hx hb d_MA_releaseEntered_23 rfl (lv_at hl 3 rfl) ?_
        refine r_getN hx hb hC hP i_FR (27 + 2 * q) (by omega) (sh_F G _ hq) rfl 0 (by decide) k_MA_103 rfl d_MA_releaseEntered_24 ?_
        refine lv_iload_n hx hb d_MA_releaseEntered_27 rfl (lv_at hl 0 rfl) ?_
        refine r_ild hx hb hC hP (28 + 2 * q) (by omega) (sh_F1 G _ hq) 2 rfl (by decide) (by decide) d_MA_releaseEntered_28 ?_
        rw [show (su (su S 8 1 (S 8 1 - (S (28 + 2 * q) 1))) 7 1 (S 7 1 - (S (28 + 2 * q) 1))) (28 + 2 * q) 2 = S (28 + 2 * q) 2 from by rw [su_cell _ _ _ (by omega), su_cell _ _ _ (by omega)]]
        refine r_v hC hS (r_runV (np := 2) (As := [.int 2, .int (S (28 + 2 * q) 2)]) (rest := []) hx hb hml hC hP hS (by decide) rfl rfl (m_LO_release l G (su (su S 8 1 (S 8 1 - (S (28 + 2 * q) 1))) 7 1 (S 7 1 - (S (28 + 2 * q) 1))) 2 (by omega) (S (28 + 2 * q) 2)) l_MA_107 im_LO_release se_LO_release in_LO c_LO_release_in (by decide +kernel) ⟨by simp only [rmF]; omega, by simp only [rmF]; omega⟩ rfl hl.1 (Nat.le_of_ble_eq_true rfl) d_MA_releaseEntered_29 ⟨Nat.le_refl _, Nat.le_refl _⟩) (fun S_29 H locs hw hP hS => ?_)
        rw [hw] at hP
        unfold lRel at hP
        refine lv_iconst (v := 1) hx hb d_MA_releaseEntered_32 (by decide) ?_
        refine lv_istore_n (lv' := [(2, .int 1), (3, .int 2), (0, .ref (gA G 1)), (1, .ref (gA G (27 + 2 * q)))]) hx hb d_MA_releaseEntered_33 rfl hl (by decide) rfl (fun ls hl => ?_)
        refine lv_iinc (v := 3) (lv' := [(3, .int 3), (2, .int 1), (0, .ref (gA G 1)), (1, .ref (gA G (27 + 2 * q)))]) hx hb d_MA_releaseEntered_34 hl (k := 1) rfl (by decide) (by decide) rfl (fun ls hl => ?_)
        refine lv_goto (tgt := 4) hx hb d_MA_releaseEntered_37 (by decide) ?_
        refine lv_iload_n hx hb d_MA_releaseEntered_4 rfl (lv_at hl 0 rfl) ?_
        refine lv_iconst (v := 3) hx hb d_MA_releaseEntered_5 (by decide) ?_
        refine lv_icmp_ge (tgt := 40) hx hb d_MA_releaseEntered_6 (by decide) (fun _ => ?_) (fun h => absurd h (by decide))
        refine lv_iload_n hx hb d_MA_releaseEntered_40 rfl (lv_at hl 1 rfl) ?_
        exact e_z hx hb hr hlk hC hP hS d_MA_releaseEntered_41 (by decide) ⟨by rw [owes, decide_eq_false (Int32.not_lt.mpr c_15), decide_eq_true (Int32.not_le.mp c_15x), decide_eq_true (Int32.not_le.mp c_15xx)]; rfl, by rw [relE, relF, relF, relF, if_neg (Int32.not_lt.mpr c_15), if_pos (Int32.not_le.mp c_15x), if_pos (Int32.not_le.mp c_15xx)] <;> rfl⟩
  · refine lv_aload_n hx hb d_MA_releaseEntered_18 rfl (lv_at hl 2 rfl) ?_
    refine r_get hx hb hC hP i_MA (1) (by decide) rfl rfl 3 (by decide) l_MA_33 rfl d_MA_releaseEntered_19 ?_
    refine lv_iload_n hx hb d_MA_releaseEntered_22 rfl (lv_at hl 0 rfl) ?_
    refine lv_aload_n hx hb d_MA_releaseEntered_23 rfl (lv_at hl 3 rfl) ?_
    refine r_getN hx hb hC hP i_FR (27 + 2 * q) (by omega) (sh_F G _ hq) rfl 0 (by decide) k_MA_103 rfl d_MA_releaseEntered_24 ?_
    refine lv_iload_n hx hb d_MA_releaseEntered_27 rfl (lv_at hl 0 rfl) ?_
    refine r_ild hx hb hC hP (28 + 2 * q) (by omega) (sh_F1 G _ hq) 0 rfl (by decide) (by decide) d_MA_releaseEntered_28 ?_
    refine r_v hC hS (r_runV (np := 2) (As := [.int 0, .int (S (28 + 2 * q) 0)]) (rest := []) hx hb hml hC hP hS (by decide) rfl rfl (m_LO_release l G S 0 (by omega) (S (28 + 2 * q) 0)) l_MA_107 im_LO_release se_LO_release in_LO c_LO_release_in (by decide +kernel) ⟨by simp only [rmF]; omega, by simp only [rmF]; omega⟩ rfl hl.1 (Nat.le_of_ble_eq_true rfl) d_MA_releaseEntered_29 ⟨Nat.le_refl _, Nat.le_refl _⟩) (fun S_29 H locs hw hP hS => ?_)
    rw [hw] at hP
    unfold lRel at hP
    refine lv_iconst (v := 1) hx hb d_MA_releaseEntered_32 (by decide) ?_
    refine lv_istore_n (lv' := [(2, .int 1), (3, .int 0), (0, .ref (gA G 1)), (1, .ref (gA G (27 + 2 * q)))]) hx hb d_MA_releaseEntered_33 rfl hl (by decide) rfl (fun ls hl => ?_)
    refine lv_iinc (v := 1) (lv' := [(3, .int 1), (2, .int 1), (0, .ref (gA G 1)), (1, .ref (gA G (27 + 2 * q)))]) hx hb d_MA_releaseEntered_34 hl (k := 1) rfl (by decide) (by decide) rfl (fun ls hl => ?_)
    refine lv_goto (tgt := 4) hx hb d_MA_releaseEntered_37 (by decide) ?_
    refine lv_iload_n hx hb d_MA_releaseEntered_4 rfl (lv_at hl 0 rfl) ?_
    refine lv_iconst (v := 3) hx hb d_MA_releaseEntered_5 (by decide) ?_
    refine lv_icmp_ge (tgt := 40) hx hb d_MA_releaseEntered_6 (by decide) (fun h => absurd h (by decide)) (fun _ => ?_)
    refine lv_aload_n hx hb d_MA_releaseEntered_9 rfl (lv_at hl 3 rfl) ?_
    refine r_getN hx hb hC hP i_FR (27 + 2 * q) (by omega) (sh_F G _ hq) rfl 0 (by decide) k_MA_103 rfl d_MA_releaseEntered_10 ?_
    refine lv_iload_n hx hb d_MA_releaseEntered_13 rfl (lv_at hl 0 rfl) ?_
    refine r_ild hx hb hC hP (28 + 2 * q) (by omega) (sh_F1 G _ hq) 1 rfl (by decide) (by decide) d_MA_releaseEntered_14 ?_
    rw [show (su (su S 8 0 (S 8 0 - (S (28 + 2 * q) 0))) 7 1 (S 7 1 - (S (28 + 2 * q) 0))) (28 + 2 * q) 1 = S (28 + 2 * q) 1 from by rw [su_cell _ _ _ (by omega), su_cell _ _ _ (by omega)]]
    refine lv_if_le (tgt := 34) hx hb d_MA_releaseEntered_15 (by decide) (fun c_15x => ?_) (fun c_15x => ?_)
    · refine lv_iinc (v := 2) (lv' := [(3, .int 2), (2, .int 1), (0, .ref (gA G 1)), (1, .ref (gA G (27 + 2 * q)))]) hx hb d_MA_releaseEntered_34 hl (k := 0) rfl (by decide) (by decide) rfl (fun ls hl => ?_)
      refine lv_goto (tgt := 4) hx hb d_MA_releaseEntered_37 (by decide) ?_
      refine lv_iload_n hx hb d_MA_releaseEntered_4 rfl (lv_at hl 0 rfl) ?_
      refine lv_iconst (v := 3) hx hb d_MA_releaseEntered_5 (by decide) ?_
      refine lv_icmp_ge (tgt := 40) hx hb d_MA_releaseEntered_6 (by decide) (fun h => absurd h (by decide)) (fun _ => ?_)
      refine lv_aload_n hx hb d_MA_releaseEntered_9 rfl (lv_at hl 3 rfl) ?_
      refine r_getN hx hb hC hP i_FR (27 + 2 * q) (by omega) (sh_F G _ hq) rfl 0 (by decide) k_MA_103 rfl d_MA_releaseEntered_10 ?_
      refine lv_iload_n hx hb d_MA_releaseEntered_13 rfl (lv_at hl 0 rfl) ?_
      refine r_ild hx hb hC hP (28 + 2 * q) (by omega) (sh_F1 G _ hq) 2 rfl (by decide) (by decide) d_MA_releaseEntered_14 ?_
      rw [show (su (su S 8 0 (S 8 0 - (S (28 + 2 * q) 0))) 7 1 (S 7 1 - (S (28 + 2 * q) 0))) (28 + 2 * q) 2 = S (28 + 2 * q) 2 from by rw [su_cell _ _ _ (by omega), su_cell _ _ _ (by omega)]]
      refine lv_if_le (tgt := 34) hx hb d_MA_releaseEntered_15 (by decide) (fun c_15xx => ?_) (fun c_15xx => ?_)
      · refine lv_iinc (v := 3) (lv' := [(3, .int 3), (2, .int 1), (0, .ref (gA G 1)), (1, .ref (gA G (27 + 2 * q)))]) hx hb d_MA_releaseEntered_34 hl (k := 0) rfl (by decide) (by decide) rfl (fun ls hl => ?_)
        refine lv_goto (tgt := 4) hx hb d_MA_releaseEntered_37 (by decide) ?_
        refine lv_iload_n hx hb d_MA_releaseEntered_4 rfl (lv_at hl 0 rfl) ?_
        refine lv_iconst (v := 3) hx hb d_MA_releaseEntered_5 (by decide) ?_
        refine lv_icmp_ge (tgt := 40) hx hb d_MA_releaseEntered_6 (by decide) (fun _ => ?_) (fun h => absurd h (by decide))
        refine lv_iload_n hx hb d_MA_releaseEntered_40 rfl (lv_at hl 1 rfl) ?_
        exact e_z hx hb hr hlk hC hP hS d_MA_releaseEntered_41 (by decide) ⟨by rw [owes, decide_eq_true (Int32.not_le.mp c_15), decide_eq_false (Int32.not_lt.mpr c_15x), decide_eq_false (Int32.not_lt.mpr c_15xx)]; rfl, by rw [relE, relF, relF, relF, if_pos (Int32.not_le.mp c_15), if_neg (Int32.not_lt.mpr c_15x), if_neg (Int32.not_lt.mpr c_15xx)] <;> rfl⟩
      · refine lv_aload_n hx hb d_MA_releaseEntered_18 rfl (lv_at hl 2 rfl) ?_
        refine r_get hx hb hC hP i_MA (1) (by decide) rfl rfl 3 (by decide) l_MA_33 rfl d_MA_releaseEntered_19 ?_
        refine lv_iload_n hx hb d_MA_releaseEntered_22 rfl (lv_at hl 0 rfl) ?_
        refine lv_aload_n hx hb d_MA_releaseEntered_23 rfl (lv_at hl 3 rfl) ?_
        refine r_getN hx hb hC hP i_FR (27 + 2 * q) (by omega) (sh_F G _ hq) rfl 0 (by decide) k_MA_103 rfl d_MA_releaseEntered_24 ?_
        refine lv_iload_n hx hb d_MA_releaseEntered_27 rfl (lv_at hl 0 rfl) ?_
        refine r_ild hx hb hC hP (28 + 2 * q) (by omega) (sh_F1 G _ hq) 2 rfl (by decide) (by decide) d_MA_releaseEntered_28 ?_
        rw [show (su (su S 8 0 (S 8 0 - (S (28 + 2 * q) 0))) 7 1 (S 7 1 - (S (28 + 2 * q) 0))) (28 + 2 * q) 2 = S (28 + 2 * q) 2 from by rw [su_cell _ _ _ (by omega), su_cell _ _ _ (by omega)]]
        refine r_v hC hS (r_runV (np := 2) (As := [.int 2, .int (S (28 + 2 * q) 2)]) (rest := []) hx hb hml hC hP hS (by decide) rfl rfl (m_LO_release l G (su (su S 8 0 (S 8 0 - (S (28 + 2 * q) 0))) 7 1 (S 7 1 - (S (28 + 2 * q) 0))) 2 (by omega) (S (28 + 2 * q) 2)) l_MA_107 im_LO_release se_LO_release in_LO c_LO_release_in (by decide +kernel) ⟨by simp only [rmF]; omega, by simp only [rmF]; omega⟩ rfl hl.1 (Nat.le_of_ble_eq_true rfl) d_MA_releaseEntered_29 ⟨Nat.le_refl _, Nat.le_refl _⟩) (fun S_29 H locs hw hP hS => ?_)
        rw [hw] at hP
        unfold lRel at hP
        refine lv_iconst (v := 1) hx hb d_MA_releaseEntered_32 (by decide) ?_
        refine lv_istore_n (lv' := [(2, .int 1), (3, .int 2), (0, .ref (gA G 1)), (1, .ref (gA G (27 + 2 * q)))]) hx hb d_MA_releaseEntered_33 rfl hl (by decide) rfl (fun ls hl => ?_)
        refine lv_iinc (v := 3) (lv' := [(3, .int 3), (2, .int 1), (0, .ref (gA G 1)), (1, .ref (gA G (27 + 2 * q)))]) hx hb d_MA_releaseEntered_34 hl (k := 1) rfl (by decide) (by decide) rfl (fun ls hl => ?_)
        refine lv_goto (tgt := 4) hx hb d_MA_releaseEntered_37 (by decide) ?_
        refine lv_iload_n hx hb d_MA_releaseEntered_4 rfl (lv_at hl 0 rfl) ?_
        refine lv_iconst (v := 3) hx hb d_MA_releaseEntered_5 (by decide) ?_
        refine lv_icmp_ge (tgt := 40) hx hb d_MA_releaseEntered_6 (by decide) (fun _ => ?_) (fun h => absurd h (by decide))
        refine lv_iload_n hx hb d_MA_releaseEntered_40 rfl (lv_at hl 1 rfl) ?_
        exact e_z hx hb hr hlk hC hP hS d_MA_releaseEntered_41 (by decide) ⟨by rw [owes, decide_eq_true (Int32.not_le.mp c_15), decide_eq_false (Int32.not_lt.mpr c_15x), decide_eq_true (Int32.not_le.mp c_15xx)]; rfl, by rw [relE, relF, relF, relF, if_pos (Int32.not_le.mp c_15), if_neg (Int32.not_lt.mpr c_15x), if_pos (Int32.not_le.mp c_15xx)] <;> rfl⟩
    · refine lv_aload_n hx hb d_MA_releaseEntered_18 rfl (lv_at hl 2 rfl) ?_
      refine r_get hx hb hC hP i_MA (1) (by decide) rfl rfl 3 (by decide) l_MA_33 rfl d_MA_releaseEntered_19 ?_
      refine lv_iload_n hx hb d_MA_releaseEntered_22 rfl (lv_at hl 0 rfl) ?_
      refine lv_aload_n hx hb d_MA_releaseEntered_23 rfl (lv_at hl 3 rfl) ?_
      refine r_getN hx hb hC hP i_FR (27 + 2 * q) (by omega) (sh_F G _ hq) rfl 0 (by decide) k_MA_103 rfl d_MA_releaseEntered_24 ?_
      refine lv_iload_n hx hb d_MA_releaseEntered_27 rfl (lv_at hl 0 rfl) ?_
      refine r_ild hx hb hC hP (28 + 2 * q) (by omega) (sh_F1 G _ hq) 1 rfl (by decide) (by decide) d_MA_releaseEntered_28 ?_
      rw [show (su (su S 8 0 (S 8 0 - (S (28 + 2 * q) 0))) 7 1 (S 7 1 - (S (28 + 2 * q) 0))) (28 + 2 * q) 1 = S (28 + 2 * q) 1 from by rw [su_cell _ _ _ (by omega), su_cell _ _ _ (by omega)]]
      refine r_v hC hS (r_runV (np := 2) (As := [.int 1, .int (S (28 + 2 * q) 1)]) (rest := []) hx hb hml hC hP hS (by decide) rfl rfl (m_LO_release l G (su (su S 8 0 (S 8 0 - (S (28 + 2 * q) 0))) 7 1 (S 7 1 - (S (28 + 2 * q) 0))) 1 (by omega) (S (28 + 2 * q) 1)) l_MA_107 im_LO_release se_LO_release in_LO c_LO_release_in (by decide +kernel) ⟨by simp only [rmF]; omega, by simp only [rmF]; omega⟩ rfl hl.1 (Nat.le_of_ble_eq_true rfl) d_MA_releaseEntered_29 ⟨Nat.le_refl _, Nat.le_refl _⟩) (fun S_29 H locs hw hP hS => ?_)
      rw [hw] at hP
      unfold lRel at hP
      refine lv_iconst (v := 1) hx hb d_MA_releaseEntered_32 (by decide) ?_
      refine lv_istore_n (lv' := [(2, .int 1), (3, .int 1), (0, .ref (gA G 1)), (1, .ref (gA G (27 + 2 * q)))]) hx hb d_MA_releaseEntered_33 rfl hl (by decide) rfl (fun ls hl => ?_)
      refine lv_iinc (v := 2) (lv' := [(3, .int 2), (2, .int 1), (0, .ref (gA G 1)), (1, .ref (gA G (27 + 2 * q)))]) hx hb d_MA_releaseEntered_34 hl (k := 1) rfl (by decide) (by decide) rfl (fun ls hl => ?_)
      refine lv_goto (tgt := 4) hx hb d_MA_releaseEntered_37 (by decide) ?_
      refine lv_iload_n hx hb d_MA_releaseEntered_4 rfl (lv_at hl 0 rfl) ?_
      refine lv_iconst (v := 3) hx hb d_MA_releaseEntered_5 (by decide) ?_
      refine lv_icmp_ge (tgt := 40) hx hb d_MA_releaseEntered_6 (by decide) (fun h => absurd h (by decide)) (fun _ => ?_)
      refine lv_aload_n hx hb d_MA_releaseEntered_9 rfl (lv_at hl 3 rfl) ?_
      refine r_getN hx hb hC hP i_FR (27 + 2 * q) (by omega) (sh_F G _ hq) rfl 0 (by decide) k_MA_103 rfl d_MA_releaseEntered_10 ?_
      refine lv_iload_n hx hb d_MA_releaseEntered_13 rfl (lv_at hl 0 rfl) ?_
      refine r_ild hx hb hC hP (28 + 2 * q) (by omega) (sh_F1 G _ hq) 2 rfl (by decide) (by decide) d_MA_releaseEntered_14 ?_
      rw [show (su (su (su (su S 8 0 (S 8 0 - (S (28 + 2 * q) 0))) 7 1 (S 7 1 - (S (28 + 2 * q) 0))) 8 1 ((su (su S 8 0 (S 8 0 - (S (28 + 2 * q) 0))) 7 1 (S 7 1 - (S (28 + 2 * q) 0))) 8 1 - (S (28 + 2 * q) 1))) 7 1 ((su (su S 8 0 (S 8 0 - (S (28 + 2 * q) 0))) 7 1 (S 7 1 - (S (28 + 2 * q) 0))) 7 1 - (S (28 + 2 * q) 1))) (28 + 2 * q) 2 = S (28 + 2 * q) 2 from by rw [su_cell _ _ _ (by omega), su_cell _ _ _ (by omega), su_cell _ _ _ (by omega), su_cell _ _ _ (by omega)]]
      refine lv_if_le (tgt := 34) hx hb d_MA_releaseEntered_15 (by decide) (fun c_15xx => ?_) (fun c_15xx => ?_)
      · refine lv_iinc (v := 3) (lv' := [(3, .int 3), (2, .int 1), (0, .ref (gA G 1)), (1, .ref (gA G (27 + 2 * q)))]) hx hb d_MA_releaseEntered_34 hl (k := 0) rfl (by decide) (by decide) rfl (fun ls hl => ?_)
        refine lv_goto (tgt := 4) hx hb d_MA_releaseEntered_37 (by decide) ?_
        refine lv_iload_n hx hb d_MA_releaseEntered_4 rfl (lv_at hl 0 rfl) ?_
        refine lv_iconst (v := 3) hx hb d_MA_releaseEntered_5 (by decide) ?_
        refine lv_icmp_ge (tgt := 40) hx hb d_MA_releaseEntered_6 (by decide) (fun _ => ?_) (fun h => absurd h (by decide))
        refine lv_iload_n hx hb d_MA_releaseEntered_40 rfl (lv_at hl 1 rfl) ?_
        exact e_z hx hb hr hlk hC hP hS d_MA_releaseEntered_41 (by decide) ⟨by rw [owes, decide_eq_true (Int32.not_le.mp c_15), decide_eq_true (Int32.not_le.mp c_15x), decide_eq_false (Int32.not_lt.mpr c_15xx)]; rfl, by rw [relE, relF, relF, relF, if_pos (Int32.not_le.mp c_15), if_pos (Int32.not_le.mp c_15x), if_neg (Int32.not_lt.mpr c_15xx)] <;> rfl⟩
      · refine lv_aload_n hx hb d_MA_releaseEntered_18 rfl (lv_at hl 2 rfl) ?_
        refine r_get hx hb hC hP i_MA (1) (by decide) rfl rfl 3 (by decide) l_MA_33 rfl d_MA_releaseEntered_19 ?_
        refine lv_iload_n hx hb d_MA_releaseEntered_22 rfl (lv_at hl 0 rfl) ?_
        refine lv_aload_n hx hb d_MA_releaseEntered_23 rfl (lv_at hl 3 rfl) ?_
        refine r_getN hx hb hC hP i_FR (27 + 2 * q) (by omega) (sh_F G _ hq) rfl 0 (by decide) k_MA_103 rfl d_MA_releaseEntered_24 ?_
        refine lv_iload_n hx hb d_MA_releaseEntered_27 rfl (lv_at hl 0 rfl) ?_
        refine r_ild hx hb hC hP (28 + 2 * q) (by omega) (sh_F1 G _ hq) 2 rfl (by decide) (by decide) d_MA_releaseEntered_28 ?_
        rw [show (su (su (su (su S 8 0 (S 8 0 - (S (28 + 2 * q) 0))) 7 1 (S 7 1 - (S (28 + 2 * q) 0))) 8 1 ((su (su S 8 0 (S 8 0 - (S (28 + 2 * q) 0))) 7 1 (S 7 1 - (S (28 + 2 * q) 0))) 8 1 - (S (28 + 2 * q) 1))) 7 1 ((su (su S 8 0 (S 8 0 - (S (28 + 2 * q) 0))) 7 1 (S 7 1 - (S (28 + 2 * q) 0))) 7 1 - (S (28 + 2 * q) 1))) (28 + 2 * q) 2 = S (28 + 2 * q) 2 from by rw [su_cell _ _ _ (by omega), su_cell _ _ _ (by omega), su_cell _ _ _ (by omega), su_cell _ _ _ (by omega)]]
        refine r_v hC hS (r_runV (np := 2) (As := [.int 2, .int (S (28 + 2 * q) 2)]) (rest := []) hx hb hml hC hP hS (by decide) rfl rfl (m_LO_release l G (su (su (su (su S 8 0 (S 8 0 - (S (28 + 2 * q) 0))) 7 1 (S 7 1 - (S (28 + 2 * q) 0))) 8 1 ((su (su S 8 0 (S 8 0 - (S (28 + 2 * q) 0))) 7 1 (S 7 1 - (S (28 + 2 * q) 0))) 8 1 - (S (28 + 2 * q) 1))) 7 1 ((su (su S 8 0 (S 8 0 - (S (28 + 2 * q) 0))) 7 1 (S 7 1 - (S (28 + 2 * q) 0))) 7 1 - (S (28 + 2 * q) 1))) 2 (by omega) (S (28 + 2 * q) 2)) l_MA_107 im_LO_release se_LO_release in_LO c_LO_release_in (by decide +kernel) ⟨by simp only [rmF]; omega, by simp only [rmF]; omega⟩ rfl hl.1 (Nat.le_of_ble_eq_true rfl) d_MA_releaseEntered_29 ⟨Nat.le_refl _, Nat.le_refl _⟩) (fun S_29 H locs hw hP hS => ?_)
        rw [hw] at hP
        unfold lRel at hP
        refine lv_iconst (v := 1) hx hb d_MA_releaseEntered_32 (by decide) ?_
        refine lv_istore_n (lv' := [(2, .int 1), (3, .int 2), (0, .ref (gA G 1)), (1, .ref (gA G (27 + 2 * q)))]) hx hb d_MA_releaseEntered_33 rfl hl (by decide) rfl (fun ls hl => ?_)
        refine lv_iinc (v := 3) (lv' := [(3, .int 3), (2, .int 1), (0, .ref (gA G 1)), (1, .ref (gA G (27 + 2 * q)))]) hx hb d_MA_releaseEntered_34 hl (k := 1) rfl (by decide) (by decide) rfl (fun ls hl => ?_)
        refine lv_goto (tgt := 4) hx hb d_MA_releaseEntered_37 (by decide) ?_
        refine lv_iload_n hx hb d_MA_releaseEntered_4 rfl (lv_at hl 0 rfl) ?_
        refine lv_iconst (v := 3) hx hb d_MA_releaseEntered_5 (by decide) ?_
        refine lv_icmp_ge (tgt := 40) hx hb d_MA_releaseEntered_6 (by decide) (fun _ => ?_) (fun h => absurd h (by decide))
        refine lv_iload_n hx hb d_MA_releaseEntered_40 rfl (lv_at hl 1 rfl) ?_
        exact e_z hx hb hr hlk hC hP hS d_MA_releaseEntered_41 (by decide) ⟨by rw [owes, decide_eq_true (Int32.not_le.mp c_15), decide_eq_true (Int32.not_le.mp c_15x), decide_eq_true (Int32.not_le.mp c_15xx)]; rfl, by rw [relE, relF, relF, relF, if_pos (Int32.not_le.mp c_15), if_pos (Int32.not_le.mp c_15x), if_pos (Int32.not_le.mp c_15xx)] <;> rfl⟩

set_option maxHeartbeats 4000000 in
set_option maxRecDepth 100000 in
theorem m_MA_catches (l : Launch) (G : WG) (S : SS) (n q p j : Nat) (hn : n ≤ 301) (hq : q < 6) (hp : p < 4) (hj : j < 32) (hs : S 4 2 = nI n) (hpr : S (27 + 2 * q) 1 = nI p) : Ci l y_MA_catches b_MA_catches 3 (some (.boolean)) 2 G [.ref (gA G 1), .int (nI q), .int (nI j)] S (fun r S1 => r = b2i (isK (fKind S (S (27 + 2 * q) 3) n) (S (13 + 4 * p) j)) ∧ S1 = S) := by
  refine mk l (by decide +kernel) (Nat.le_of_ble_eq_true rfl) ?_
  intro pp_ ee_ ss_ mm_ be_ me_ co_ ls hx hb hr hlk hml hC hP hS hl
  have hl : lv_has ls 3 [(0, .ref (gA G 1)), (1, .int (nI q)), (2, .int (nI j))] := hl
  refine lv_aload_n hx hb d_MA_catches_0 rfl (lv_at hl 0 rfl) ?_
  refine r_get hx hb hC hP i_MA (1) (by decide) rfl rfl 2 (by decide) l_MA_26 rfl d_MA_catches_1 ?_
  refine lv_aload_n hx hb d_MA_catches_4 rfl (lv_at hl 0 rfl) ?_
  refine r_get hx hb hC hP i_MA (1) (by decide) rfl rfl 1 (by decide) l_MA_19 rfl d_MA_catches_5 ?_
  refine lv_iload_n hx hb d_MA_catches_8 rfl (lv_at hl 1 rfl) ?_
  refine r_frame hx hb hC hP q rfl (by omega) d_MA_catches_9 ?_
  refine r_getN hx hb hC hP i_FR (27 + 2 * q) (by omega) (sh_F G _ hq) rfl 3 (by decide) k_MA_76 rfl d_MA_catches_10 ?_
  refine r_i hC hS (r_runV (np := 1) (As := [.int (S (27 + 2 * q) 3)]) (rest := []) hx hb hml hC hP hS (by decide) rfl rfl (m_FA_kindOf l G S n (by omega) hs (S (27 + 2 * q) 3)) l_MA_197 im_FA_kindOf se_FA_kindOf in_FA c_FA_kindOf_in (by decide +kernel) ⟨by simp only [rmF]; omega, by simp only [rmF]; omega⟩ rfl hl.1 (Nat.le_of_ble_eq_true rfl) d_MA_catches_13 ⟨Nat.le_refl _, Nat.le_refl _⟩) (fun r_13 S_13 H locs hw hP hS => ?_)
  obtain ⟨rfl, hSe⟩ := hw
  rw [hSe] at hP
  refine lv_aload_n hx hb d_MA_catches_16 rfl (lv_at hl 0 rfl) ?_
  refine lv_iload_n hx hb d_MA_catches_17 rfl (lv_at hl 1 rfl) ?_
  refine r_r (post := fun i S1 => i = 11 + 4 * p ∧ S1 = S) hC hS (r_runV (np := 1) (As := [.int (nI q)]) (rest := [.int (fKind S (S (27 + 2 * q) 3) n)]) hx hb hml hC hP hS (by decide) rfl rfl (m_MA_textOf l G S q p (by omega) hp hpr) l_MA_113 im_MA_textOf se_MA_textOf in_MA c_MA_textOf_in (by decide +kernel) ⟨by simp only [rmF]; omega, by simp only [rmF]; omega⟩ rfl hl.1 (Nat.le_of_ble_eq_true rfl) d_MA_catches_18 ⟨Nat.le_refl _, Nat.le_refl _⟩) (fun i_18 S_18 H locs hw hP hS => ?_)
  obtain ⟨rfl, hSe⟩ := hw
  rw [hSe] at hP
  refine r_getN hx hb hC hP i_TE (11 + 4 * p) (by omega) (sh_T G _ hp) rfl 1 (by decide) k_MA_130 rfl d_MA_catches_21 ?_
  refine lv_iload_n hx hb d_MA_catches_24 rfl (lv_at hl 2 rfl) ?_
  refine r_ild hx hb hC hP (13 + 4 * p) (by omega) (sh_T2 G _ hp) j rfl (by omega) (by decide) d_MA_catches_25 ?_
  refine r_i hC hS (r_runSN (np := 2) (As := [.int (fKind S (S (27 + 2 * q) 3) n), .int (S (13 + 4 * p) j)]) (rest := []) hx hb hml hC hP hS (m_LB_isOfKind l G S (fKind S (S (27 + 2 * q) 3) n) (S (13 + 4 * p) j)) k_MA_200 st_LB_isOfKind in_LB c_LB_isOfKind_in (by decide +kernel) ⟨by simp only [rmF]; omega, by simp only [rmF]; omega⟩ rfl hl.1 (Nat.le_of_ble_eq_true rfl) d_MA_catches_26 ⟨Nat.le_refl _, Nat.le_refl _⟩) (fun r_26 S_26 H locs hw hP hS => ?_)
  obtain ⟨rfl, hSe⟩ := hw
  rw [hSe] at hP
  exact e_z hx hb hr hlk hC hP hS d_MA_catches_29 (b2i_nar _) ⟨rfl, rfl⟩

def isTokC (o a : Int32) : Bool := if o.toInt = 3 then isB a 6 else if o.toInt = 7 ∨ o.toInt = 8 ∨ o.toInt = 16 then isB a 7 else if o.toInt = 9 then isB (a &&& (-5)) 3 else if o.toInt = 10 ∨ o.toInt = 11 ∨ o.toInt = 12 ∨ o.toInt = 15 then isB a 3 else if o.toInt = 13 then isB a 4 else isB o 19
set_option maxHeartbeats 4000000 in
set_option maxRecDepth 100000 in
theorem m_LB_isToken (l : Launch) (G : WG) (S : SS) (o a : Int32) : Ci l y_LB_isToken b_LB_isToken 2 (some (.boolean)) 1 G [.int o, .int a] S (fun r S1 => r = b2i (isTokC o a) ∧ S1 = S) := by
  refine mk l (by decide +kernel) (Nat.le_of_ble_eq_true rfl) ?_
  intro pp_ ee_ ss_ mm_ be_ me_ co_ ls hx hb hr hlk hml hC hP hS hl
  have hl : lv_has ls 2 [(0, .int o), (1, .int a)] := hl
  refine lv_iload_n hx hb d_LB_isToken_0 rfl (lv_at hl 0 rfl) ?_
  by_cases hlo_1 : (o).toInt < 3 ∨ 16 < (o).toInt
  · refine lv_tableOut (tgt := 107) hx hb d_LB_isToken_1 hlo_1 (by decide) ?_
    refine lv_iload_n hx hb d_LB_isToken_107 rfl (lv_at hl 0 rfl) ?_
    refine lv_bipush (v := 19) hx hb d_LB_isToken_108 (by decide) ?_
    refine r_i hC hS (r_runS (np := 2) (As := [.int o, .int 19]) (rest := []) hx hb hml hC hP hS (m_LB_isBelow l G S o 19) l_LB_27 st_LB_isBelow in_LB c_LB_isBelow_in (by decide +kernel) ⟨by simp only [rmF]; omega, by simp only [rmF]; omega⟩ rfl hl.1 (Nat.le_of_ble_eq_true rfl) d_LB_isToken_110 ⟨Nat.le_refl _, Nat.le_refl _⟩) (fun r_110 S_110 H locs hw hP hS => ?_)
    obtain ⟨rfl, hSe⟩ := hw
    rw [hSe] at hP
    exact e_z hx hb hr hlk hC hP hS d_LB_isToken_113 (b2i_nar _) ⟨by first | (simp only [isTokC, hk_1]; rfl) | (rw [isTokC, if_neg (by omega), if_neg (by omega), if_neg (by omega), if_neg (by omega), if_neg (by omega)]), rfl⟩
  · obtain ⟨h1_1, h2_1⟩ := not_or.mp hlo_1
    rcases (show (o).toInt = 3 ∨ (o).toInt = 4 ∨ (o).toInt = 5 ∨ (o).toInt = 6 ∨ (o).toInt = 7 ∨ (o).toInt = 8 ∨ (o).toInt = 9 ∨ (o).toInt = 10 ∨ (o).toInt = 11 ∨ (o).toInt = 12 ∨ (o).toInt = 13 ∨ (o).toInt = 14 ∨ (o).toInt = 15 ∨ (o).toInt = 16 by omega) with hk_1 | hk_1 | hk_1 | hk_1 | hk_1 | hk_1 | hk_1 | hk_1 | hk_1 | hk_1 | hk_1 | hk_1 | hk_1 | hk_1
    · refine lv_tableIn (off := 71) (tgt := 72) hx hb d_LB_isToken_1 h1_1 h2_1 (by rw [hk_1]; rfl) (by decide) ?_
      refine lv_iload_n hx hb d_LB_isToken_72 rfl (lv_at hl 1 rfl) ?_
      refine lv_bipush (v := 6) hx hb d_LB_isToken_73 (by decide) ?_
      refine r_i hC hS (r_runS (np := 2) (As := [.int a, .int 6]) (rest := []) hx hb hml hC hP hS (m_LB_isBelow l G S a 6) l_LB_27 st_LB_isBelow in_LB c_LB_isBelow_in (by decide +kernel) ⟨by simp only [rmF]; omega, by simp only [rmF]; omega⟩ rfl hl.1 (Nat.le_of_ble_eq_true rfl) d_LB_isToken_75 ⟨Nat.le_refl _, Nat.le_refl _⟩) (fun r_75 S_75 H locs hw hP hS => ?_)
      obtain ⟨rfl, hSe⟩ := hw
      rw [hSe] at hP
      exact e_z hx hb hr hlk hC hP hS d_LB_isToken_78 (b2i_nar _) ⟨by first | (simp only [isTokC, hk_1]; rfl) | (rw [isTokC, if_neg (by omega), if_neg (by omega), if_neg (by omega), if_neg (by omega), if_neg (by omega)]), rfl⟩
    · refine lv_tableIn (off := 106) (tgt := 107) hx hb d_LB_isToken_1 h1_1 h2_1 (by rw [hk_1]; rfl) (by decide) ?_
      refine lv_iload_n hx hb d_LB_isToken_107 rfl (lv_at hl 0 rfl) ?_
      refine lv_bipush (v := 19) hx hb d_LB_isToken_108 (by decide) ?_
      refine r_i hC hS (r_runS (np := 2) (As := [.int o, .int 19]) (rest := []) hx hb hml hC hP hS (m_LB_isBelow l G S o 19) l_LB_27 st_LB_isBelow in_LB c_LB_isBelow_in (by decide +kernel) ⟨by simp only [rmF]; omega, by simp only [rmF]; omega⟩ rfl hl.1 (Nat.le_of_ble_eq_true rfl) d_LB_isToken_110 ⟨Nat.le_refl _, Nat.le_refl _⟩) (fun r_110 S_110 H locs hw hP hS => ?_)
      obtain ⟨rfl, hSe⟩ := hw
      rw [hSe] at hP
      exact e_z hx hb hr hlk hC hP hS d_LB_isToken_113 (b2i_nar _) ⟨by first | (simp only [isTokC, hk_1]; rfl) | (rw [isTokC, if_neg (by omega), if_neg (by omega), if_neg (by omega), if_neg (by omega), if_neg (by omega)]), rfl⟩
    · refine lv_tableIn (off := 106) (tgt := 107) hx hb d_LB_isToken_1 h1_1 h2_1 (by rw [hk_1]; rfl) (by decide) ?_
      refine lv_iload_n hx hb d_LB_isToken_107 rfl (lv_at hl 0 rfl) ?_
      refine lv_bipush (v := 19) hx hb d_LB_isToken_108 (by decide) ?_
      refine r_i hC hS (r_runS (np := 2) (As := [.int o, .int 19]) (rest := []) hx hb hml hC hP hS (m_LB_isBelow l G S o 19) l_LB_27 st_LB_isBelow in_LB c_LB_isBelow_in (by decide +kernel) ⟨by simp only [rmF]; omega, by simp only [rmF]; omega⟩ rfl hl.1 (Nat.le_of_ble_eq_true rfl) d_LB_isToken_110 ⟨Nat.le_refl _, Nat.le_refl _⟩) (fun r_110 S_110 H locs hw hP hS => ?_)
      obtain ⟨rfl, hSe⟩ := hw
      rw [hSe] at hP
      exact e_z hx hb hr hlk hC hP hS d_LB_isToken_113 (b2i_nar _) ⟨by first | (simp only [isTokC, hk_1]; rfl) | (rw [isTokC, if_neg (by omega), if_neg (by omega), if_neg (by omega), if_neg (by omega), if_neg (by omega)]), rfl⟩
    · refine lv_tableIn (off := 106) (tgt := 107) hx hb d_LB_isToken_1 h1_1 h2_1 (by rw [hk_1]; rfl) (by decide) ?_
      refine lv_iload_n hx hb d_LB_isToken_107 rfl (lv_at hl 0 rfl) ?_
      refine lv_bipush (v := 19) hx hb d_LB_isToken_108 (by decide) ?_
      refine r_i hC hS (r_runS (np := 2) (As := [.int o, .int 19]) (rest := []) hx hb hml hC hP hS (m_LB_isBelow l G S o 19) l_LB_27 st_LB_isBelow in_LB c_LB_isBelow_in (by decide +kernel) ⟨by simp only [rmF]; omega, by simp only [rmF]; omega⟩ rfl hl.1 (Nat.le_of_ble_eq_true rfl) d_LB_isToken_110 ⟨Nat.le_refl _, Nat.le_refl _⟩) (fun r_110 S_110 H locs hw hP hS => ?_)
      obtain ⟨rfl, hSe⟩ := hw
      rw [hSe] at hP
      exact e_z hx hb hr hlk hC hP hS d_LB_isToken_113 (b2i_nar _) ⟨by first | (simp only [isTokC, hk_1]; rfl) | (rw [isTokC, if_neg (by omega), if_neg (by omega), if_neg (by omega), if_neg (by omega), if_neg (by omega)]), rfl⟩
    · refine lv_tableIn (off := 78) (tgt := 79) hx hb d_LB_isToken_1 h1_1 h2_1 (by rw [hk_1]; rfl) (by decide) ?_
      refine lv_iload_n hx hb d_LB_isToken_79 rfl (lv_at hl 1 rfl) ?_
      refine lv_bipush (v := 7) hx hb d_LB_isToken_80 (by decide) ?_
      refine r_i hC hS (r_runS (np := 2) (As := [.int a, .int 7]) (rest := []) hx hb hml hC hP hS (m_LB_isBelow l G S a 7) l_LB_27 st_LB_isBelow in_LB c_LB_isBelow_in (by decide +kernel) ⟨by simp only [rmF]; omega, by simp only [rmF]; omega⟩ rfl hl.1 (Nat.le_of_ble_eq_true rfl) d_LB_isToken_82 ⟨Nat.le_refl _, Nat.le_refl _⟩) (fun r_82 S_82 H locs hw hP hS => ?_)
      obtain ⟨rfl, hSe⟩ := hw
      rw [hSe] at hP
      exact e_z hx hb hr hlk hC hP hS d_LB_isToken_85 (b2i_nar _) ⟨by first | (simp only [isTokC, hk_1]; rfl) | (rw [isTokC, if_neg (by omega), if_neg (by omega), if_neg (by omega), if_neg (by omega), if_neg (by omega)]), rfl⟩
    · refine lv_tableIn (off := 78) (tgt := 79) hx hb d_LB_isToken_1 h1_1 h2_1 (by rw [hk_1]; rfl) (by decide) ?_
      refine lv_iload_n hx hb d_LB_isToken_79 rfl (lv_at hl 1 rfl) ?_
      refine lv_bipush (v := 7) hx hb d_LB_isToken_80 (by decide) ?_
      refine r_i hC hS (r_runS (np := 2) (As := [.int a, .int 7]) (rest := []) hx hb hml hC hP hS (m_LB_isBelow l G S a 7) l_LB_27 st_LB_isBelow in_LB c_LB_isBelow_in (by decide +kernel) ⟨by simp only [rmF]; omega, by simp only [rmF]; omega⟩ rfl hl.1 (Nat.le_of_ble_eq_true rfl) d_LB_isToken_82 ⟨Nat.le_refl _, Nat.le_refl _⟩) (fun r_82 S_82 H locs hw hP hS => ?_)
      obtain ⟨rfl, hSe⟩ := hw
      rw [hSe] at hP
      exact e_z hx hb hr hlk hC hP hS d_LB_isToken_85 (b2i_nar _) ⟨by first | (simp only [isTokC, hk_1]; rfl) | (rw [isTokC, if_neg (by omega), if_neg (by omega), if_neg (by omega), if_neg (by omega), if_neg (by omega)]), rfl⟩
    · refine lv_tableIn (off := 85) (tgt := 86) hx hb d_LB_isToken_1 h1_1 h2_1 (by rw [hk_1]; rfl) (by decide) ?_
      refine lv_iload_n hx hb d_LB_isToken_86 rfl (lv_at hl 1 rfl) ?_
      refine lv_bipush (v := (-5)) hx hb d_LB_isToken_87 (by decide) ?_
      refine lv_iand hx hb d_LB_isToken_89 ?_
      refine lv_iconst (v := 3) hx hb d_LB_isToken_90 (by decide) ?_
      refine r_i hC hS (r_runS (np := 2) (As := [.int (a &&& (-5)), .int 3]) (rest := []) hx hb hml hC hP hS (m_LB_isBelow l G S (a &&& (-5)) 3) l_LB_27 st_LB_isBelow in_LB c_LB_isBelow_in (by decide +kernel) ⟨by simp only [rmF]; omega, by simp only [rmF]; omega⟩ rfl hl.1 (Nat.le_of_ble_eq_true rfl) d_LB_isToken_91 ⟨Nat.le_refl _, Nat.le_refl _⟩) (fun r_91 S_91 H locs hw hP hS => ?_)
      obtain ⟨rfl, hSe⟩ := hw
      rw [hSe] at hP
      exact e_z hx hb hr hlk hC hP hS d_LB_isToken_94 (b2i_nar _) ⟨by first | (simp only [isTokC, hk_1]; rfl) | (rw [isTokC, if_neg (by omega), if_neg (by omega), if_neg (by omega), if_neg (by omega), if_neg (by omega)]), rfl⟩
    · refine lv_tableIn (off := 94) (tgt := 95) hx hb d_LB_isToken_1 h1_1 h2_1 (by rw [hk_1]; rfl) (by decide) ?_
      refine lv_iload_n hx hb d_LB_isToken_95 rfl (lv_at hl 1 rfl) ?_
      refine lv_iconst (v := 3) hx hb d_LB_isToken_96 (by decide) ?_
      refine r_i hC hS (r_runS (np := 2) (As := [.int a, .int 3]) (rest := []) hx hb hml hC hP hS (m_LB_isBelow l G S a 3) l_LB_27 st_LB_isBelow in_LB c_LB_isBelow_in (by decide +kernel) ⟨by simp only [rmF]; omega, by simp only [rmF]; omega⟩ rfl hl.1 (Nat.le_of_ble_eq_true rfl) d_LB_isToken_97 ⟨Nat.le_refl _, Nat.le_refl _⟩) (fun r_97 S_97 H locs hw hP hS => ?_)
      obtain ⟨rfl, hSe⟩ := hw
      rw [hSe] at hP
      exact e_z hx hb hr hlk hC hP hS d_LB_isToken_100 (b2i_nar _) ⟨by first | (simp only [isTokC, hk_1]; rfl) | (rw [isTokC, if_neg (by omega), if_neg (by omega), if_neg (by omega), if_neg (by omega), if_neg (by omega)]), rfl⟩
    · refine lv_tableIn (off := 94) (tgt := 95) hx hb d_LB_isToken_1 h1_1 h2_1 (by rw [hk_1]; rfl) (by decide) ?_
      refine lv_iload_n hx hb d_LB_isToken_95 rfl (lv_at hl 1 rfl) ?_
      refine lv_iconst (v := 3) hx hb d_LB_isToken_96 (by decide) ?_
      refine r_i hC hS (r_runS (np := 2) (As := [.int a, .int 3]) (rest := []) hx hb hml hC hP hS (m_LB_isBelow l G S a 3) l_LB_27 st_LB_isBelow in_LB c_LB_isBelow_in (by decide +kernel) ⟨by simp only [rmF]; omega, by simp only [rmF]; omega⟩ rfl hl.1 (Nat.le_of_ble_eq_true rfl) d_LB_isToken_97 ⟨Nat.le_refl _, Nat.le_refl _⟩) (fun r_97 S_97 H locs hw hP hS => ?_)
      obtain ⟨rfl, hSe⟩ := hw
      rw [hSe] at hP
      exact e_z hx hb hr hlk hC hP hS d_LB_isToken_100 (b2i_nar _) ⟨by first | (simp only [isTokC, hk_1]; rfl) | (rw [isTokC, if_neg (by omega), if_neg (by omega), if_neg (by omega), if_neg (by omega), if_neg (by omega)]), rfl⟩
    · refine lv_tableIn (off := 94) (tgt := 95) hx hb d_LB_isToken_1 h1_1 h2_1 (by rw [hk_1]; rfl) (by decide) ?_
      refine lv_iload_n hx hb d_LB_isToken_95 rfl (lv_at hl 1 rfl) ?_
      refine lv_iconst (v := 3) hx hb d_LB_isToken_96 (by decide) ?_
      refine r_i hC hS (r_runS (np := 2) (As := [.int a, .int 3]) (rest := []) hx hb hml hC hP hS (m_LB_isBelow l G S a 3) l_LB_27 st_LB_isBelow in_LB c_LB_isBelow_in (by decide +kernel) ⟨by simp only [rmF]; omega, by simp only [rmF]; omega⟩ rfl hl.1 (Nat.le_of_ble_eq_true rfl) d_LB_isToken_97 ⟨Nat.le_refl _, Nat.le_refl _⟩) (fun r_97 S_97 H locs hw hP hS => ?_)
      obtain ⟨rfl, hSe⟩ := hw
      rw [hSe] at hP
      exact e_z hx hb hr hlk hC hP hS d_LB_isToken_100 (b2i_nar _) ⟨by first | (simp only [isTokC, hk_1]; rfl) | (rw [isTokC, if_neg (by omega), if_neg (by omega), if_neg (by omega), if_neg (by omega), if_neg (by omega)]), rfl⟩
    · refine lv_tableIn (off := 100) (tgt := 101) hx hb d_LB_isToken_1 h1_1 h2_1 (by rw [hk_1]; rfl) (by decide) ?_
      refine lv_iload_n hx hb d_LB_isToken_101 rfl (lv_at hl 1 rfl) ?_
      refine lv_iconst (v := 4) hx hb d_LB_isToken_102 (by decide) ?_
      refine r_i hC hS (r_runS (np := 2) (As := [.int a, .int 4]) (rest := []) hx hb hml hC hP hS (m_LB_isBelow l G S a 4) l_LB_27 st_LB_isBelow in_LB c_LB_isBelow_in (by decide +kernel) ⟨by simp only [rmF]; omega, by simp only [rmF]; omega⟩ rfl hl.1 (Nat.le_of_ble_eq_true rfl) d_LB_isToken_103 ⟨Nat.le_refl _, Nat.le_refl _⟩) (fun r_103 S_103 H locs hw hP hS => ?_)
      obtain ⟨rfl, hSe⟩ := hw
      rw [hSe] at hP
      exact e_z hx hb hr hlk hC hP hS d_LB_isToken_106 (b2i_nar _) ⟨by first | (simp only [isTokC, hk_1]; rfl) | (rw [isTokC, if_neg (by omega), if_neg (by omega), if_neg (by omega), if_neg (by omega), if_neg (by omega)]), rfl⟩
    · refine lv_tableIn (off := 106) (tgt := 107) hx hb d_LB_isToken_1 h1_1 h2_1 (by rw [hk_1]; rfl) (by decide) ?_
      refine lv_iload_n hx hb d_LB_isToken_107 rfl (lv_at hl 0 rfl) ?_
      refine lv_bipush (v := 19) hx hb d_LB_isToken_108 (by decide) ?_
      refine r_i hC hS (r_runS (np := 2) (As := [.int o, .int 19]) (rest := []) hx hb hml hC hP hS (m_LB_isBelow l G S o 19) l_LB_27 st_LB_isBelow in_LB c_LB_isBelow_in (by decide +kernel) ⟨by simp only [rmF]; omega, by simp only [rmF]; omega⟩ rfl hl.1 (Nat.le_of_ble_eq_true rfl) d_LB_isToken_110 ⟨Nat.le_refl _, Nat.le_refl _⟩) (fun r_110 S_110 H locs hw hP hS => ?_)
      obtain ⟨rfl, hSe⟩ := hw
      rw [hSe] at hP
      exact e_z hx hb hr hlk hC hP hS d_LB_isToken_113 (b2i_nar _) ⟨by first | (simp only [isTokC, hk_1]; rfl) | (rw [isTokC, if_neg (by omega), if_neg (by omega), if_neg (by omega), if_neg (by omega), if_neg (by omega)]), rfl⟩
    · refine lv_tableIn (off := 94) (tgt := 95) hx hb d_LB_isToken_1 h1_1 h2_1 (by rw [hk_1]; rfl) (by decide) ?_
      refine lv_iload_n hx hb d_LB_isToken_95 rfl (lv_at hl 1 rfl) ?_
      refine lv_iconst (v := 3) hx hb d_LB_isToken_96 (by decide) ?_
      refine r_i hC hS (r_runS (np := 2) (As := [.int a, .int 3]) (rest := []) hx hb hml hC hP hS (m_LB_isBelow l G S a 3) l_LB_27 st_LB_isBelow in_LB c_LB_isBelow_in (by decide +kernel) ⟨by simp only [rmF]; omega, by simp only [rmF]; omega⟩ rfl hl.1 (Nat.le_of_ble_eq_true rfl) d_LB_isToken_97 ⟨Nat.le_refl _, Nat.le_refl _⟩) (fun r_97 S_97 H locs hw hP hS => ?_)
      obtain ⟨rfl, hSe⟩ := hw
      rw [hSe] at hP
      exact e_z hx hb hr hlk hC hP hS d_LB_isToken_100 (b2i_nar _) ⟨by first | (simp only [isTokC, hk_1]; rfl) | (rw [isTokC, if_neg (by omega), if_neg (by omega), if_neg (by omega), if_neg (by omega), if_neg (by omega)]), rfl⟩
    · refine lv_tableIn (off := 78) (tgt := 79) hx hb d_LB_isToken_1 h1_1 h2_1 (by rw [hk_1]; rfl) (by decide) ?_
      refine lv_iload_n hx hb d_LB_isToken_79 rfl (lv_at hl 1 rfl) ?_
      refine lv_bipush (v := 7) hx hb d_LB_isToken_80 (by decide) ?_
      refine r_i hC hS (r_runS (np := 2) (As := [.int a, .int 7]) (rest := []) hx hb hml hC hP hS (m_LB_isBelow l G S a 7) l_LB_27 st_LB_isBelow in_LB c_LB_isBelow_in (by decide +kernel) ⟨by simp only [rmF]; omega, by simp only [rmF]; omega⟩ rfl hl.1 (Nat.le_of_ble_eq_true rfl) d_LB_isToken_82 ⟨Nat.le_refl _, Nat.le_refl _⟩) (fun r_82 S_82 H locs hw hP hS => ?_)
      obtain ⟨rfl, hSe⟩ := hw
      rw [hSe] at hP
      exact e_z hx hb hr hlk hC hP hS d_LB_isToken_85 (b2i_nar _) ⟨by first | (simp only [isTokC, hk_1]; rfl) | (rw [isTokC, if_neg (by omega), if_neg (by omega), if_neg (by omega), if_neg (by omega), if_neg (by omega)]), rfl⟩

set_option maxHeartbeats 4000000 in
set_option maxRecDepth 100000 in
theorem m_LB_wipe (l : Launch) (G : WG) (S : SS) (p_ : Int32) : Ci l y_LB_wipe b_LB_wipe 2 (some (.int)) 1 G [.ref (gA G 0), .int p_] S (fun r S1 => (isB p_ 4 = false ∧ r = -1 ∧ S1 = S) ∨ ∃ p, p < 4 ∧ p_ = nI p ∧ r = S (11 + 4 * p) 3 ∧ S1 = su S (11 + 4 * p) 3 0) := by
  refine mk l (by decide +kernel) (Nat.le_of_ble_eq_true rfl) ?_
  intro pp_ ee_ ss_ mm_ be_ me_ co_ ls hx hb hr hlk hml hC hP hS hl
  have hl : lv_has ls 2 [(0, .ref (gA G 0)), (1, .int p_)] := hl
  refine lv_iload_n hx hb d_LB_wipe_0 rfl (lv_at hl 1 rfl) ?_
  refine lv_iconst (v := 4) hx hb d_LB_wipe_1 (by decide) ?_
  refine r_i hC hS (r_runS (np := 2) (As := [.int p_, .int 4]) (rest := []) hx hb hml hC hP hS (m_LB_isBelow l G S p_ 4) l_LB_27 st_LB_isBelow in_LB c_LB_isBelow_in (by decide +kernel) ⟨by simp only [rmF]; omega, by simp only [rmF]; omega⟩ rfl hl.1 (Nat.le_of_ble_eq_true rfl) d_LB_wipe_2 ⟨Nat.le_refl _, Nat.le_refl _⟩) (fun r_2 S_2 H locs hw hP hS => ?_)
  obtain ⟨rfl, hSe⟩ := hw
  rw [hSe] at hP
  refine lv_if_ne (tgt := 10) hx hb d_LB_wipe_5 (by decide) (fun c_5 => ?_) (fun c_5 => ?_)
  · have c_5 := b2i_t c_5
    obtain ⟨p, hp, rfl⟩ := isB_nI (b := 4) (by omega) c_5
    refine lv_aload_n hx hb d_LB_wipe_10 rfl (lv_at hl 0 rfl) ?_
    refine r_get hx hb hC hP i_LB (0) (by decide) rfl rfl 0 (by decide) l_LB_12 rfl d_LB_wipe_11 ?_
    refine r_getN hx hb hC hP i_MA (1) (by decide) rfl rfl 0 (by decide) k_LB_34 rfl d_LB_wipe_14 ?_
    refine lv_iload_n hx hb d_LB_wipe_17 rfl (lv_at hl 1 rfl) ?_
    refine r_text hx hb hC hP p rfl (by omega) d_LB_wipe_18 ?_
    refine r_i hC hS (r_runV (np := 0) (As := []) (rest := []) hx hb hml hC hP hS (by omega) (sh_T G _ hp) rfl (m_TE_clear l G S p hp) l_LB_46 im_TE_clear se_TE_clear in_TE c_TE_clear_in (by decide +kernel) ⟨by simp only [rmF]; omega, by simp only [rmF]; omega⟩ rfl hl.1 (Nat.le_of_ble_eq_true rfl) d_LB_wipe_19 ⟨Nat.le_refl _, Nat.le_refl _⟩) (fun r_19 S_19 H locs hw hP hS => ?_)
    obtain ⟨rfl, hSe⟩ := hw
    rw [hSe] at hP
    exact e_i hx hb hr hlk hC hP hS d_LB_wipe_22 (Or.inr ⟨p, hp, rfl, rfl, rfl⟩)
  · have c_5 := b2i_f c_5
    refine lv_iconst (v := (-1)) hx hb d_LB_wipe_8 (by decide) ?_
    exact e_i hx hb hr hlk hC hP hS d_LB_wipe_9 (Or.inl ⟨by assumption, rfl, rfl⟩)

def tokPost (S : SS) (nn : Nat → Nat) (p_ o a r : Int32) (S1 : SS) : Prop := ((isB p_ 4 = false ∨ isTokC o a = false) ∧ r = -1 ∧ S1 = S) ∨ ∃ p, p < 4 ∧ p_ = nI p ∧ isTokC o a = true ∧ ((¬ nn p < 32 ∧ r = -2 ∧ S1 = S) ∨ (nn p < 32 ∧ r = nI (nn p + 1) ∧ S1 = tApp S p (nn p) o a))
set_option maxHeartbeats 4000000 in
set_option maxRecDepth 100000 in
theorem m_LB_token (l : Launch) (G : WG) (S : SS) (nn : Nat → Nat) (hnn : ∀ p, p < 4 → nn p ≤ 32 ∧ S (11 + 4 * p) 3 = nI (nn p)) (p_ o a : Int32) : Ci l y_LB_token b_LB_token 5 (some (.int)) 2 G [.ref (gA G 0), .int p_, .int o, .int a] S (tokPost S nn p_ o a) := by
  refine mk l (by decide +kernel) (Nat.le_of_ble_eq_true rfl) ?_
  intro pp_ ee_ ss_ mm_ be_ me_ co_ ls hx hb hr hlk hml hC hP hS hl
  have hl : lv_has ls 5 [(0, .ref (gA G 0)), (1, .int p_), (2, .int o), (3, .int a)] := hl
  refine lv_iload_n hx hb d_LB_token_0 rfl (lv_at hl 1 rfl) ?_
  refine lv_iconst (v := 4) hx hb d_LB_token_1 (by decide) ?_
  refine r_i hC hS (r_runS (np := 2) (As := [.int p_, .int 4]) (rest := []) hx hb hml hC hP hS (m_LB_isBelow l G S p_ 4) l_LB_27 st_LB_isBelow in_LB c_LB_isBelow_in (by decide +kernel) ⟨by simp only [rmF]; omega, by simp only [rmF]; omega⟩ rfl hl.1 (Nat.le_of_ble_eq_true rfl) d_LB_token_2 ⟨Nat.le_refl _, Nat.le_refl _⟩) (fun r_2 S_2 H locs hw hP hS => ?_)
  obtain ⟨rfl, hSe⟩ := hw
  rw [hSe] at hP
  refine lv_if_eq (tgt := 16) hx hb d_LB_token_5 (by decide) (fun c_5 => ?_) (fun c_5 => ?_)
  · have c_5 := b2i_f c_5
    refine lv_iconst (v := (-1)) hx hb d_LB_token_16 (by decide) ?_
    exact e_i hx hb hr hlk hC hP hS d_LB_token_17 (Or.inl ⟨by first | exact Or.inl (by assumption) | exact Or.inr (by assumption), rfl, rfl⟩)
  · have c_5 := b2i_t c_5
    obtain ⟨p, hp, rfl⟩ := isB_nI (b := 4) (by omega) c_5
    refine lv_iload_n hx hb d_LB_token_8 rfl (lv_at hl 2 rfl) ?_
    refine lv_iload_n hx hb d_LB_token_9 rfl (lv_at hl 3 rfl) ?_
    refine r_i hC hS (r_runS (np := 2) (As := [.int o, .int a]) (rest := []) hx hb hml hC hP hS (m_LB_isToken l G S o a) l_LB_31 st_LB_isToken in_LB c_LB_isToken_in (by decide +kernel) ⟨by simp only [rmF]; omega, by simp only [rmF]; omega⟩ rfl hl.1 (Nat.le_of_ble_eq_true rfl) d_LB_token_10 ⟨Nat.le_refl _, Nat.le_refl _⟩) (fun r_10 S_10 H locs hw hP hS => ?_)
    obtain ⟨rfl, hSe⟩ := hw
    rw [hSe] at hP
    refine lv_if_ne (tgt := 18) hx hb d_LB_token_13 (by decide) (fun c_13 => ?_) (fun c_13 => ?_)
    · have c_13 := b2i_t c_13
      refine lv_aload_n hx hb d_LB_token_18 rfl (lv_at hl 0 rfl) ?_
      refine r_get hx hb hC hP i_LB (0) (by decide) rfl rfl 0 (by decide) l_LB_12 rfl d_LB_token_19 ?_
      refine r_getN hx hb hC hP i_MA (1) (by decide) rfl rfl 0 (by decide) k_LB_34 rfl d_LB_token_22 ?_
      refine lv_iload_n hx hb d_LB_token_25 rfl (lv_at hl 1 rfl) ?_
      refine r_text hx hb hC hP p rfl (by omega) d_LB_token_26 ?_
      refine lv_astore (lv' := [(4, .ref (gA G (11 + 4 * p))), (0, .ref (gA G 0)), (1, .int (nI p)), (2, .int o), (3, .int a)]) hx hb d_LB_token_27 hl (by decide) rfl (fun ls hl => ?_)
      refine lv_aload hx hb d_LB_token_29 (lv_at hl 0 rfl) ?_
      refine lv_iload_n hx hb d_LB_token_31 rfl (lv_at hl 3 rfl) ?_
      refine lv_iload_n hx hb d_LB_token_32 rfl (lv_at hl 4 rfl) ?_
      refine r_i hC hS (r_runV (np := 2) (As := [.int o, .int a]) (rest := []) hx hb hml hC hP hS (by omega) (sh_T G _ hp) rfl (m_TE_append l G S p (nn p) hp (hnn _ hp).1 (hnn _ hp).2 o a) l_LB_38 im_TE_append se_TE_append in_TE c_TE_append_in (by decide +kernel) ⟨by simp only [rmF]; omega, by simp only [rmF]; omega⟩ rfl hl.1 (Nat.le_of_ble_eq_true rfl) d_LB_token_33 ⟨Nat.le_refl _, Nat.le_refl _⟩) (fun r_33 S_33 H locs hw hP hS => ?_)
      obtain ⟨rfl, hSe⟩ := hw
      rw [hSe] at hP
      refine lv_if_eq (tgt := 47) hx hb d_LB_token_36 (by decide) (fun c_36 => ?_) (fun c_36 => ?_)
      · have c_36 := b2i_f c_36
        have c_36 := of_decide_eq_false c_36
        rw [if_neg c_36] at hP
        refine lv_bipush (v := (-2)) hx hb d_LB_token_47 (by decide) ?_
        exact e_i hx hb hr hlk hC hP hS d_LB_token_49 (Or.inr ⟨p, hp, rfl, by assumption, Or.inl ⟨by assumption, rfl, rfl⟩⟩)
      · have c_36 := b2i_t c_36
        have c_36 := of_decide_eq_true c_36
        rw [if_pos c_36] at hP
        refine lv_aload hx hb d_LB_token_39 (lv_at hl 0 rfl) ?_
        refine r_getN hx hb hC hP i_TE (11 + 4 * p) (by omega) (sh_T G _ hp) rfl 3 (by decide) k_LB_43 rfl d_LB_token_41 ?_
        refine lv_goto (tgt := 49) hx hb d_LB_token_44 (by decide) ?_
        exact e_i hx hb hr hlk hC hP hS d_LB_token_49 (Or.inr ⟨p, hp, rfl, by assumption, Or.inr ⟨by assumption, by rw [tApp, su_same], rfl⟩⟩)
    · have c_13 := b2i_f c_13
      refine lv_iconst (v := (-1)) hx hb d_LB_token_16 (by decide) ?_
      exact e_i hx hb hr hlk hC hP hS d_LB_token_17 (Or.inl ⟨by first | exact Or.inl (by assumption) | exact Or.inr (by assumption), rfl, rfl⟩)
end
section
/-! leaves of the reference: written by wip/gen/p30.py -/
def inB (v a b : Int32) : Bool := decide (a ≤ v) && decide (v ≤ b)
set_option maxHeartbeats 4000000 in
set_option maxRecDepth 100000 in
theorem m_MO_in (l : Launch) (G : WG) (S : SS) (v a b : Int32) : Ci l y_MO_in b_MO_in 3 (some (.boolean)) 0 G [.int v, .int a, .int b] S (fun r S1 => r = b2i (inB v a b) ∧ S1 = S) := by
  refine mk l (by decide +kernel) (Nat.le_of_ble_eq_true rfl) ?_
  intro pp_ ee_ ss_ mm_ be_ me_ co_ ls hx hb hr hlk hml hC hP hS hl
  have hl : lv_has ls 3 [(0, .int v), (1, .int a), (2, .int b)] := hl
  refine lv_iload_n hx hb d_MO_in_0 rfl (lv_at hl 0 rfl) ?_
  refine lv_iload_n hx hb d_MO_in_1 rfl (lv_at hl 1 rfl) ?_
  refine lv_icmp_lt (tgt := 14) hx hb d_MO_in_2 (by decide) (fun c_2 => ?_) (fun c_2 => ?_)
  · refine lv_iconst (v := 0) hx hb d_MO_in_14 (by decide) ?_
    exact e_z hx hb hr hlk hC hP hS d_MO_in_15 (by decide) ⟨by first | (rw [inB, decide_eq_false (Int32.not_le.mpr (by assumption))]; rfl) | (rw [inB, decide_eq_true (Int32.not_lt.mp (by assumption)), decide_eq_false (Int32.not_le.mpr (by assumption))]; rfl) | (rw [inB, decide_eq_true (Int32.not_lt.mp (by assumption)), decide_eq_true (Int32.not_lt.mp (by assumption))]; rfl), rfl⟩
  · refine lv_iload_n hx hb d_MO_in_5 rfl (lv_at hl 0 rfl) ?_
    refine lv_iload_n hx hb d_MO_in_6 rfl (lv_at hl 2 rfl) ?_
    refine lv_icmp_gt (tgt := 14) hx hb d_MO_in_7 (by decide) (fun c_7 => ?_) (fun c_7 => ?_)
    · refine lv_iconst (v := 0) hx hb d_MO_in_14 (by decide) ?_
      exact e_z hx hb hr hlk hC hP hS d_MO_in_15 (by decide) ⟨by first | (rw [inB, decide_eq_false (Int32.not_le.mpr (by assumption))]; rfl) | (rw [inB, decide_eq_true (Int32.not_lt.mp (by assumption)), decide_eq_false (Int32.not_le.mpr (by assumption))]; rfl) | (rw [inB, decide_eq_true (Int32.not_lt.mp (by assumption)), decide_eq_true (Int32.not_lt.mp (by assumption))]; rfl), rfl⟩
    · refine lv_iconst (v := 1) hx hb d_MO_in_10 (by decide) ?_
      refine lv_goto (tgt := 15) hx hb d_MO_in_11 (by decide) ?_
      exact e_z hx hb hr hlk hC hP hS d_MO_in_15 (by decide) ⟨by first | (rw [inB, decide_eq_false (Int32.not_le.mpr (by assumption))]; rfl) | (rw [inB, decide_eq_true (Int32.not_lt.mp (by assumption)), decide_eq_false (Int32.not_le.mpr (by assumption))]; rfl) | (rw [inB, decide_eq_true (Int32.not_lt.mp (by assumption)), decide_eq_true (Int32.not_lt.mp (by assumption))]; rfl), rfl⟩

set_option maxHeartbeats 4000000 in
set_option maxRecDepth 100000 in
theorem m_MO_is (l : Launch) (G : WG) (S : SS) (a b : Int32) : Ci l y_MO_is b_MO_is 2 (some (.boolean)) 0 G [.int a, .int b] S (fun r S1 => r = b2i (isK a b) ∧ S1 = S) := by
  refine mk l (by decide +kernel) (Nat.le_of_ble_eq_true rfl) ?_
  intro pp_ ee_ ss_ mm_ be_ me_ co_ ls hx hb hr hlk hml hC hP hS hl
  have hl : lv_has ls 2 [(0, .int a), (1, .int b)] := hl
  refine lv_iload_n hx hb d_MO_is_0 rfl (lv_at hl 1 rfl) ?_
  refine lv_if_eq (tgt := 30) hx hb d_MO_is_1 (by decide) (fun c_1 => ?_) (fun c_1 => ?_)
  · refine lv_iconst (v := 1) hx hb d_MO_is_30 (by decide) ?_
    refine lv_goto (tgt := 35) hx hb d_MO_is_31 (by decide) ?_
    exact e_z hx hb hr hlk hC hP hS d_MO_is_35 (by decide) ⟨by simp_all [isK, b2i], rfl⟩
  · refine lv_iload_n hx hb d_MO_is_4 rfl (lv_at hl 0 rfl) ?_
    refine lv_iload_n hx hb d_MO_is_5 rfl (lv_at hl 1 rfl) ?_
    refine lv_icmp_eq (tgt := 30) hx hb d_MO_is_6 (by decide) (fun c_6 => ?_) (fun c_6 => ?_)
    · refine lv_iconst (v := 1) hx hb d_MO_is_30 (by decide) ?_
      refine lv_goto (tgt := 35) hx hb d_MO_is_31 (by decide) ?_
      exact e_z hx hb hr hlk hC hP hS d_MO_is_35 (by decide) ⟨by simp_all [isK, b2i], rfl⟩
    · refine lv_iload_n hx hb d_MO_is_9 rfl (lv_at hl 1 rfl) ?_
      refine lv_iconst (v := 1) hx hb d_MO_is_10 (by decide) ?_
      refine lv_icmp_ne (tgt := 19) hx hb d_MO_is_11 (by decide) (fun c_11 => ?_) (fun c_11 => ?_)
      · refine lv_iload_n hx hb d_MO_is_19 rfl (lv_at hl 1 rfl) ?_
        refine lv_iconst (v := 2) hx hb d_MO_is_20 (by decide) ?_
        refine lv_icmp_ne (tgt := 34) hx hb d_MO_is_21 (by decide) (fun c_21 => ?_) (fun c_21 => ?_)
        · refine lv_iconst (v := 0) hx hb d_MO_is_34 (by decide) ?_
          exact e_z hx hb hr hlk hC hP hS d_MO_is_35 (by decide) ⟨by simp_all [isK, b2i], rfl⟩
        · refine lv_iload_n hx hb d_MO_is_24 rfl (lv_at hl 0 rfl) ?_
          refine lv_bipush (v := 6) hx hb d_MO_is_25 (by decide) ?_
          refine lv_icmp_ne (tgt := 34) hx hb d_MO_is_27 (by decide) (fun c_27 => ?_) (fun c_27 => ?_)
          · refine lv_iconst (v := 0) hx hb d_MO_is_34 (by decide) ?_
            exact e_z hx hb hr hlk hC hP hS d_MO_is_35 (by decide) ⟨by simp_all [isK, b2i], rfl⟩
          · refine lv_iconst (v := 1) hx hb d_MO_is_30 (by decide) ?_
            refine lv_goto (tgt := 35) hx hb d_MO_is_31 (by decide) ?_
            exact e_z hx hb hr hlk hC hP hS d_MO_is_35 (by decide) ⟨by simp_all [isK, b2i], rfl⟩
      · refine lv_iload_n hx hb d_MO_is_14 rfl (lv_at hl 0 rfl) ?_
        refine lv_iconst (v := 3) hx hb d_MO_is_15 (by decide) ?_
        refine lv_icmp_eq (tgt := 30) hx hb d_MO_is_16 (by decide) (fun c_16 => ?_) (fun c_16 => ?_)
        · refine lv_iconst (v := 1) hx hb d_MO_is_30 (by decide) ?_
          refine lv_goto (tgt := 35) hx hb d_MO_is_31 (by decide) ?_
          exact e_z hx hb hr hlk hC hP hS d_MO_is_35 (by decide) ⟨by simp_all [isK, b2i], rfl⟩
        · refine lv_iload_n hx hb d_MO_is_19 rfl (lv_at hl 1 rfl) ?_
          refine lv_iconst (v := 2) hx hb d_MO_is_20 (by decide) ?_
          refine lv_icmp_ne (tgt := 34) hx hb d_MO_is_21 (by decide) (fun c_21 => ?_) (fun c_21 => ?_)
          · refine lv_iconst (v := 0) hx hb d_MO_is_34 (by decide) ?_
            exact e_z hx hb hr hlk hC hP hS d_MO_is_35 (by decide) ⟨by simp_all [isK, b2i], rfl⟩
          · refine lv_iload_n hx hb d_MO_is_24 rfl (lv_at hl 0 rfl) ?_
            refine lv_bipush (v := 6) hx hb d_MO_is_25 (by decide) ?_
            refine lv_icmp_ne (tgt := 34) hx hb d_MO_is_27 (by decide) (fun c_27 => ?_) (fun c_27 => ?_)
            · refine lv_iconst (v := 0) hx hb d_MO_is_34 (by decide) ?_
              exact e_z hx hb hr hlk hC hP hS d_MO_is_35 (by decide) ⟨by simp_all [isK, b2i], rfl⟩
            · refine lv_iconst (v := 1) hx hb d_MO_is_30 (by decide) ?_
              refine lv_goto (tgt := 35) hx hb d_MO_is_31 (by decide) ?_
              exact e_z hx hb hr hlk hC hP hS d_MO_is_35 (by decide) ⟨by simp_all [isK, b2i], rfl⟩

def opB (o : Int32) : Bool := decide (o = 3) || decide (o = 9) || decide (o = 10) || decide (o = 14) || decide (o = 16) || decide (o = 17)
set_option maxHeartbeats 4000000 in
set_option maxRecDepth 100000 in
theorem m_MO_opens (l : Launch) (G : WG) (S : SS) (o : Int32) : Ci l y_MO_opens b_MO_opens 1 (some (.boolean)) 0 G [.int o] S (fun r S1 => r = b2i (opB o) ∧ S1 = S) := by
  refine mk l (by decide +kernel) (Nat.le_of_ble_eq_true rfl) ?_
  intro pp_ ee_ ss_ mm_ be_ me_ co_ ls hx hb hr hlk hml hC hP hS hl
  have hl : lv_has ls 1 [(0, .int o)] := hl
  refine lv_iload_n hx hb d_MO_opens_0 rfl (lv_at hl 0 rfl) ?_
  refine lv_iconst (v := 3) hx hb d_MO_opens_1 (by decide) ?_
  refine lv_icmp_eq (tgt := 35) hx hb d_MO_opens_2 (by decide) (fun c_2 => ?_) (fun c_2 => ?_)
  · refine lv_iconst (v := 1) hx hb d_MO_opens_35 (by decide) ?_
    refine lv_goto (tgt := 40) hx hb d_MO_opens_36 (by decide) ?_
    exact e_z hx hb hr hlk hC hP hS d_MO_opens_40 (by decide) ⟨by simp_all [opB, b2i], rfl⟩
  · refine lv_iload_n hx hb d_MO_opens_5 rfl (lv_at hl 0 rfl) ?_
    refine lv_bipush (v := 9) hx hb d_MO_opens_6 (by decide) ?_
    refine lv_icmp_eq (tgt := 35) hx hb d_MO_opens_8 (by decide) (fun c_8 => ?_) (fun c_8 => ?_)
    · refine lv_iconst (v := 1) hx hb d_MO_opens_35 (by decide) ?_
      refine lv_goto (tgt := 40) hx hb d_MO_opens_36 (by decide) ?_
      exact e_z hx hb hr hlk hC hP hS d_MO_opens_40 (by decide) ⟨by simp_all [opB, b2i], rfl⟩
    · refine lv_iload_n hx hb d_MO_opens_11 rfl (lv_at hl 0 rfl) ?_
      refine lv_bipush (v := 10) hx hb d_MO_opens_12 (by decide) ?_
      refine lv_icmp_eq (tgt := 35) hx hb d_MO_opens_14 (by decide) (fun c_14 => ?_) (fun c_14 => ?_)
      · refine lv_iconst (v := 1) hx hb d_MO_opens_35 (by decide) ?_
        refine lv_goto (tgt := 40) hx hb d_MO_opens_36 (by decide) ?_
        exact e_z hx hb hr hlk hC hP hS d_MO_opens_40 (by decide) ⟨by simp_all [opB, b2i], rfl⟩
      · refine lv_iload_n hx hb d_MO_opens_17 rfl (lv_at hl 0 rfl) ?_
        refine lv_bipush (v := 14) hx hb d_MO_opens_18 (by decide) ?_
        refine lv_icmp_eq (tgt := 35) hx hb d_MO_opens_20 (by decide) (fun c_20 => ?_) (fun c_20 => ?_)
        · refine lv_iconst (v := 1) hx hb d_MO_opens_35 (by decide) ?_
          refine lv_goto (tgt := 40) hx hb d_MO_opens_36 (by decide) ?_
          exact e_z hx hb hr hlk hC hP hS d_MO_opens_40 (by decide) ⟨by simp_all [opB, b2i], rfl⟩
        · refine lv_iload_n hx hb d_MO_opens_23 rfl (lv_at hl 0 rfl) ?_
          refine lv_bipush (v := 16) hx hb d_MO_opens_24 (by decide) ?_
          refine lv_icmp_eq (tgt := 35) hx hb d_MO_opens_26 (by decide) (fun c_26 => ?_) (fun c_26 => ?_)
          · refine lv_iconst (v := 1) hx hb d_MO_opens_35 (by decide) ?_
            refine lv_goto (tgt := 40) hx hb d_MO_opens_36 (by decide) ?_
            exact e_z hx hb hr hlk hC hP hS d_MO_opens_40 (by decide) ⟨by simp_all [opB, b2i], rfl⟩
          · refine lv_iload_n hx hb d_MO_opens_29 rfl (lv_at hl 0 rfl) ?_
            refine lv_bipush (v := 17) hx hb d_MO_opens_30 (by decide) ?_
            refine lv_icmp_ne (tgt := 39) hx hb d_MO_opens_32 (by decide) (fun c_32 => ?_) (fun c_32 => ?_)
            · refine lv_iconst (v := 0) hx hb d_MO_opens_39 (by decide) ?_
              exact e_z hx hb hr hlk hC hP hS d_MO_opens_40 (by decide) ⟨by simp_all [opB, b2i], rfl⟩
            · refine lv_iconst (v := 1) hx hb d_MO_opens_35 (by decide) ?_
              refine lv_goto (tgt := 40) hx hb d_MO_opens_36 (by decide) ?_
              exact e_z hx hb hr hlk hC hP hS d_MO_opens_40 (by decide) ⟨by simp_all [opB, b2i], rfl⟩

def fitM (o a : Int32) : Bool := if o.toInt = 3 then inB a 0 5 else if o.toInt = 7 ∨ o.toInt = 8 ∨ o.toInt = 16 then inB a 0 6 else if o.toInt = 9 then inB a 0 6 && decide (¬ a = 3) else if o.toInt = 10 ∨ o.toInt = 11 ∨ o.toInt = 12 ∨ o.toInt = 15 then inB a 0 2 else if o.toInt = 13 then inB a 0 3 else inB o 0 18
set_option maxHeartbeats 4000000 in
set_option maxRecDepth 100000 in
theorem m_MO_fits (l : Launch) (G : WG) (S : SS) (o a : Int32) : Ci l y_MO_fits b_MO_fits 2 (some (.boolean)) 1 G [.int o, .int a] S (fun r S1 => r = b2i (fitM o a) ∧ S1 = S) := by
  refine mk l (by decide +kernel) (Nat.le_of_ble_eq_true rfl) ?_
  intro pp_ ee_ ss_ mm_ be_ me_ co_ ls hx hb hr hlk hml hC hP hS hl
  have hl : lv_has ls 2 [(0, .int o), (1, .int a)] := hl
  refine lv_iload_n hx hb d_MO_fits_0 rfl (lv_at hl 0 rfl) ?_
  by_cases hlo_1 : (o).toInt < 3 ∨ 16 < (o).toInt
  · refine lv_tableOut (tgt := 122) hx hb d_MO_fits_1 hlo_1 (by decide) ?_
    refine lv_iload_n hx hb d_MO_fits_122 rfl (lv_at hl 0 rfl) ?_
    refine lv_iconst (v := 0) hx hb d_MO_fits_123 (by decide) ?_
    refine lv_bipush (v := 18) hx hb d_MO_fits_124 (by decide) ?_
    refine r_i hC hS (r_runS (np := 3) (As := [.int o, .int 0, .int 18]) (rest := []) hx hb hml hC hP hS (m_MO_in l G S o 0 18) l_MO_50 st_MO_in in_MO c_MO_in_in (by decide +kernel) ⟨by simp only [rmF]; omega, by simp only [rmF]; omega⟩ rfl hl.1 (Nat.le_of_ble_eq_true rfl) d_MO_fits_126 ⟨Nat.le_refl _, Nat.le_refl _⟩) (fun r_126 S_126 H locs hw hP hS => ?_)
    obtain ⟨rfl, hSe⟩ := hw
    rw [hSe] at hP
    exact e_z hx hb hr hlk hC hP hS d_MO_fits_129 (b2i_nar _) ⟨by first | (simp only [fitM, hk_1]; rfl) | (rw [fitM, if_neg (by omega), if_neg (by omega), if_neg (by omega), if_neg (by omega), if_neg (by omega)]; done) | simp_all [fitM, b2i], rfl⟩
  · obtain ⟨h1_1, h2_1⟩ := not_or.mp hlo_1
    rcases (show (o).toInt = 3 ∨ (o).toInt = 4 ∨ (o).toInt = 5 ∨ (o).toInt = 6 ∨ (o).toInt = 7 ∨ (o).toInt = 8 ∨ (o).toInt = 9 ∨ (o).toInt = 10 ∨ (o).toInt = 11 ∨ (o).toInt = 12 ∨ (o).toInt = 13 ∨ (o).toInt = 14 ∨ (o).toInt = 15 ∨ (o).toInt = 16 by omega) with hk_1 | hk_1 | hk_1 | hk_1 | hk_1 | hk_1 | hk_1 | hk_1 | hk_1 | hk_1 | hk_1 | hk_1 | hk_1 | hk_1
    · refine lv_tableIn (off := 71) (tgt := 72) hx hb d_MO_fits_1 h1_1 h2_1 (by rw [hk_1]; rfl) (by decide) ?_
      refine lv_iload_n hx hb d_MO_fits_72 rfl (lv_at hl 1 rfl) ?_
      refine lv_iconst (v := 0) hx hb d_MO_fits_73 (by decide) ?_
      refine lv_iconst (v := 5) hx hb d_MO_fits_74 (by decide) ?_
      refine r_i hC hS (r_runS (np := 3) (As := [.int a, .int 0, .int 5]) (rest := []) hx hb hml hC hP hS (m_MO_in l G S a 0 5) l_MO_50 st_MO_in in_MO c_MO_in_in (by decide +kernel) ⟨by simp only [rmF]; omega, by simp only [rmF]; omega⟩ rfl hl.1 (Nat.le_of_ble_eq_true rfl) d_MO_fits_75 ⟨Nat.le_refl _, Nat.le_refl _⟩) (fun r_75 S_75 H locs hw hP hS => ?_)
      obtain ⟨rfl, hSe⟩ := hw
      rw [hSe] at hP
      exact e_z hx hb hr hlk hC hP hS d_MO_fits_78 (b2i_nar _) ⟨by first | (simp only [fitM, hk_1]; rfl) | (rw [fitM, if_neg (by omega), if_neg (by omega), if_neg (by omega), if_neg (by omega), if_neg (by omega)]; done) | simp_all [fitM, b2i], rfl⟩
    · refine lv_tableIn (off := 121) (tgt := 122) hx hb d_MO_fits_1 h1_1 h2_1 (by rw [hk_1]; rfl) (by decide) ?_
      refine lv_iload_n hx hb d_MO_fits_122 rfl (lv_at hl 0 rfl) ?_
      refine lv_iconst (v := 0) hx hb d_MO_fits_123 (by decide) ?_
      refine lv_bipush (v := 18) hx hb d_MO_fits_124 (by decide) ?_
      refine r_i hC hS (r_runS (np := 3) (As := [.int o, .int 0, .int 18]) (rest := []) hx hb hml hC hP hS (m_MO_in l G S o 0 18) l_MO_50 st_MO_in in_MO c_MO_in_in (by decide +kernel) ⟨by simp only [rmF]; omega, by simp only [rmF]; omega⟩ rfl hl.1 (Nat.le_of_ble_eq_true rfl) d_MO_fits_126 ⟨Nat.le_refl _, Nat.le_refl _⟩) (fun r_126 S_126 H locs hw hP hS => ?_)
      obtain ⟨rfl, hSe⟩ := hw
      rw [hSe] at hP
      exact e_z hx hb hr hlk hC hP hS d_MO_fits_129 (b2i_nar _) ⟨by first | (simp only [fitM, hk_1]; rfl) | (rw [fitM, if_neg (by omega), if_neg (by omega), if_neg (by omega), if_neg (by omega), if_neg (by omega)]; done) | simp_all [fitM, b2i], rfl⟩
    · refine lv_tableIn (off := 121) (tgt := 122) hx hb d_MO_fits_1 h1_1 h2_1 (by rw [hk_1]; rfl) (by decide) ?_
      refine lv_iload_n hx hb d_MO_fits_122 rfl (lv_at hl 0 rfl) ?_
      refine lv_iconst (v := 0) hx hb d_MO_fits_123 (by decide) ?_
      refine lv_bipush (v := 18) hx hb d_MO_fits_124 (by decide) ?_
      refine r_i hC hS (r_runS (np := 3) (As := [.int o, .int 0, .int 18]) (rest := []) hx hb hml hC hP hS (m_MO_in l G S o 0 18) l_MO_50 st_MO_in in_MO c_MO_in_in (by decide +kernel) ⟨by simp only [rmF]; omega, by simp only [rmF]; omega⟩ rfl hl.1 (Nat.le_of_ble_eq_true rfl) d_MO_fits_126 ⟨Nat.le_refl _, Nat.le_refl _⟩) (fun r_126 S_126 H locs hw hP hS => ?_)
      obtain ⟨rfl, hSe⟩ := hw
      rw [hSe] at hP
      exact e_z hx hb hr hlk hC hP hS d_MO_fits_129 (b2i_nar _) ⟨by first | (simp only [fitM, hk_1]; rfl) | (rw [fitM, if_neg (by omega), if_neg (by omega), if_neg (by omega), if_neg (by omega), if_neg (by omega)]; done) | simp_all [fitM, b2i], rfl⟩
    · refine lv_tableIn (off := 121) (tgt := 122) hx hb d_MO_fits_1 h1_1 h2_1 (by rw [hk_1]; rfl) (by decide) ?_
      refine lv_iload_n hx hb d_MO_fits_122 rfl (lv_at hl 0 rfl) ?_
      refine lv_iconst (v := 0) hx hb d_MO_fits_123 (by decide) ?_
      refine lv_bipush (v := 18) hx hb d_MO_fits_124 (by decide) ?_
      refine r_i hC hS (r_runS (np := 3) (As := [.int o, .int 0, .int 18]) (rest := []) hx hb hml hC hP hS (m_MO_in l G S o 0 18) l_MO_50 st_MO_in in_MO c_MO_in_in (by decide +kernel) ⟨by simp only [rmF]; omega, by simp only [rmF]; omega⟩ rfl hl.1 (Nat.le_of_ble_eq_true rfl) d_MO_fits_126 ⟨Nat.le_refl _, Nat.le_refl _⟩) (fun r_126 S_126 H locs hw hP hS => ?_)
      obtain ⟨rfl, hSe⟩ := hw
      rw [hSe] at hP
      exact e_z hx hb hr hlk hC hP hS d_MO_fits_129 (b2i_nar _) ⟨by first | (simp only [fitM, hk_1]; rfl) | (rw [fitM, if_neg (by omega), if_neg (by omega), if_neg (by omega), if_neg (by omega), if_neg (by omega)]; done) | simp_all [fitM, b2i], rfl⟩
    · refine lv_tableIn (off := 78) (tgt := 79) hx hb d_MO_fits_1 h1_1 h2_1 (by rw [hk_1]; rfl) (by decide) ?_
      refine lv_iload_n hx hb d_MO_fits_79 rfl (lv_at hl 1 rfl) ?_
      refine lv_iconst (v := 0) hx hb d_MO_fits_80 (by decide) ?_
      refine lv_bipush (v := 6) hx hb d_MO_fits_81 (by decide) ?_
      refine r_i hC hS (r_runS (np := 3) (As := [.int a, .int 0, .int 6]) (rest := []) hx hb hml hC hP hS (m_MO_in l G S a 0 6) l_MO_50 st_MO_in in_MO c_MO_in_in (by decide +kernel) ⟨by simp only [rmF]; omega, by simp only [rmF]; omega⟩ rfl hl.1 (Nat.le_of_ble_eq_true rfl) d_MO_fits_83 ⟨Nat.le_refl _, Nat.le_refl _⟩) (fun r_83 S_83 H locs hw hP hS => ?_)
      obtain ⟨rfl, hSe⟩ := hw
      rw [hSe] at hP
      exact e_z hx hb hr hlk hC hP hS d_MO_fits_86 (b2i_nar _) ⟨by first | (simp only [fitM, hk_1]; rfl) | (rw [fitM, if_neg (by omega), if_neg (by omega), if_neg (by omega), if_neg (by omega), if_neg (by omega)]; done) | simp_all [fitM, b2i], rfl⟩
    · refine lv_tableIn (off := 78) (tgt := 79) hx hb d_MO_fits_1 h1_1 h2_1 (by rw [hk_1]; rfl) (by decide) ?_
      refine lv_iload_n hx hb d_MO_fits_79 rfl (lv_at hl 1 rfl) ?_
      refine lv_iconst (v := 0) hx hb d_MO_fits_80 (by decide) ?_
      refine lv_bipush (v := 6) hx hb d_MO_fits_81 (by decide) ?_
      refine r_i hC hS (r_runS (np := 3) (As := [.int a, .int 0, .int 6]) (rest := []) hx hb hml hC hP hS (m_MO_in l G S a 0 6) l_MO_50 st_MO_in in_MO c_MO_in_in (by decide +kernel) ⟨by simp only [rmF]; omega, by simp only [rmF]; omega⟩ rfl hl.1 (Nat.le_of_ble_eq_true rfl) d_MO_fits_83 ⟨Nat.le_refl _, Nat.le_refl _⟩) (fun r_83 S_83 H locs hw hP hS => ?_)
      obtain ⟨rfl, hSe⟩ := hw
      rw [hSe] at hP
      exact e_z hx hb hr hlk hC hP hS d_MO_fits_86 (b2i_nar _) ⟨by first | (simp only [fitM, hk_1]; rfl) | (rw [fitM, if_neg (by omega), if_neg (by omega), if_neg (by omega), if_neg (by omega), if_neg (by omega)]; done) | simp_all [fitM, b2i], rfl⟩
    · refine lv_tableIn (off := 86) (tgt := 87) hx hb d_MO_fits_1 h1_1 h2_1 (by rw [hk_1]; rfl) (by decide) ?_
      refine lv_iload_n hx hb d_MO_fits_87 rfl (lv_at hl 1 rfl) ?_
      refine lv_iconst (v := 0) hx hb d_MO_fits_88 (by decide) ?_
      refine lv_bipush (v := 6) hx hb d_MO_fits_89 (by decide) ?_
      refine r_i hC hS (r_runS (np := 3) (As := [.int a, .int 0, .int 6]) (rest := []) hx hb hml hC hP hS (m_MO_in l G S a 0 6) l_MO_50 st_MO_in in_MO c_MO_in_in (by decide +kernel) ⟨by simp only [rmF]; omega, by simp only [rmF]; omega⟩ rfl hl.1 (Nat.le_of_ble_eq_true rfl) d_MO_fits_91 ⟨Nat.le_refl _, Nat.le_refl _⟩) (fun r_91 S_91 H locs hw hP hS => ?_)
      obtain ⟨rfl, hSe⟩ := hw
      rw [hSe] at hP
      refine lv_if_eq (tgt := 106) hx hb d_MO_fits_94 (by decide) (fun c_94 => ?_) (fun c_94 => ?_)
      · have c_94 := b2i_f c_94
        refine lv_iconst (v := 0) hx hb d_MO_fits_106 (by decide) ?_
        exact e_z hx hb hr hlk hC hP hS d_MO_fits_107 (by decide) ⟨by first | (simp only [fitM, hk_1]; rfl) | (rw [fitM, if_neg (by omega), if_neg (by omega), if_neg (by omega), if_neg (by omega), if_neg (by omega)]; done) | simp_all [fitM, b2i], rfl⟩
      · have c_94 := b2i_t c_94
        refine lv_iload_n hx hb d_MO_fits_97 rfl (lv_at hl 1 rfl) ?_
        refine lv_iconst (v := 3) hx hb d_MO_fits_98 (by decide) ?_
        refine lv_icmp_eq (tgt := 106) hx hb d_MO_fits_99 (by decide) (fun c_99 => ?_) (fun c_99 => ?_)
        · refine lv_iconst (v := 0) hx hb d_MO_fits_106 (by decide) ?_
          exact e_z hx hb hr hlk hC hP hS d_MO_fits_107 (by decide) ⟨by first | (simp only [fitM, hk_1]; rfl) | (rw [fitM, if_neg (by omega), if_neg (by omega), if_neg (by omega), if_neg (by omega), if_neg (by omega)]; done) | simp_all [fitM, b2i], rfl⟩
        · refine lv_iconst (v := 1) hx hb d_MO_fits_102 (by decide) ?_
          refine lv_goto (tgt := 107) hx hb d_MO_fits_103 (by decide) ?_
          exact e_z hx hb hr hlk hC hP hS d_MO_fits_107 (by decide) ⟨by first | (simp only [fitM, hk_1]; rfl) | (rw [fitM, if_neg (by omega), if_neg (by omega), if_neg (by omega), if_neg (by omega), if_neg (by omega)]; done) | simp_all [fitM, b2i], rfl⟩
    · refine lv_tableIn (off := 107) (tgt := 108) hx hb d_MO_fits_1 h1_1 h2_1 (by rw [hk_1]; rfl) (by decide) ?_
      refine lv_iload_n hx hb d_MO_fits_108 rfl (lv_at hl 1 rfl) ?_
      refine lv_iconst (v := 0) hx hb d_MO_fits_109 (by decide) ?_
      refine lv_iconst (v := 2) hx hb d_MO_fits_110 (by decide) ?_
      refine r_i hC hS (r_runS (np := 3) (As := [.int a, .int 0, .int 2]) (rest := []) hx hb hml hC hP hS (m_MO_in l G S a 0 2) l_MO_50 st_MO_in in_MO c_MO_in_in (by decide +kernel) ⟨by simp only [rmF]; omega, by simp only [rmF]; omega⟩ rfl hl.1 (Nat.le_of_ble_eq_true rfl) d_MO_fits_111 ⟨Nat.le_refl _, Nat.le_refl _⟩) (fun r_111 S_111 H locs hw hP hS => ?_)
      obtain ⟨rfl, hSe⟩ := hw
      rw [hSe] at hP
      exact e_z hx hb hr hlk hC hP hS d_MO_fits_114 (b2i_nar _) ⟨by first | (simp only [fitM, hk_1]; rfl) | (rw [fitM, if_neg (by omega), if_neg (by omega), if_neg (by omega), if_neg (by omega), if_neg (by omega)]; done) | simp_all [fitM, b2i], rfl⟩
    · refine lv_tableIn (off := 107) (tgt := 108) hx hb d_MO_fits_1 h1_1 h2_1 (by rw [hk_1]; rfl) (by decide) ?_
      refine lv_iload_n hx hb d_MO_fits_108 rfl (lv_at hl 1 rfl) ?_
      refine lv_iconst (v := 0) hx hb d_MO_fits_109 (by decide) ?_
      refine lv_iconst (v := 2) hx hb d_MO_fits_110 (by decide) ?_
      refine r_i hC hS (r_runS (np := 3) (As := [.int a, .int 0, .int 2]) (rest := []) hx hb hml hC hP hS (m_MO_in l G S a 0 2) l_MO_50 st_MO_in in_MO c_MO_in_in (by decide +kernel) ⟨by simp only [rmF]; omega, by simp only [rmF]; omega⟩ rfl hl.1 (Nat.le_of_ble_eq_true rfl) d_MO_fits_111 ⟨Nat.le_refl _, Nat.le_refl _⟩) (fun r_111 S_111 H locs hw hP hS => ?_)
      obtain ⟨rfl, hSe⟩ := hw
      rw [hSe] at hP
      exact e_z hx hb hr hlk hC hP hS d_MO_fits_114 (b2i_nar _) ⟨by first | (simp only [fitM, hk_1]; rfl) | (rw [fitM, if_neg (by omega), if_neg (by omega), if_neg (by omega), if_neg (by omega), if_neg (by omega)]; done) | simp_all [fitM, b2i], rfl⟩
    · refine lv_tableIn (off := 107) (tgt := 108) hx hb d_MO_fits_1 h1_1 h2_1 (by rw [hk_1]; rfl) (by decide) ?_
      refine lv_iload_n hx hb d_MO_fits_108 rfl (lv_at hl 1 rfl) ?_
      refine lv_iconst (v := 0) hx hb d_MO_fits_109 (by decide) ?_
      refine lv_iconst (v := 2) hx hb d_MO_fits_110 (by decide) ?_
      refine r_i hC hS (r_runS (np := 3) (As := [.int a, .int 0, .int 2]) (rest := []) hx hb hml hC hP hS (m_MO_in l G S a 0 2) l_MO_50 st_MO_in in_MO c_MO_in_in (by decide +kernel) ⟨by simp only [rmF]; omega, by simp only [rmF]; omega⟩ rfl hl.1 (Nat.le_of_ble_eq_true rfl) d_MO_fits_111 ⟨Nat.le_refl _, Nat.le_refl _⟩) (fun r_111 S_111 H locs hw hP hS => ?_)
      obtain ⟨rfl, hSe⟩ := hw
      rw [hSe] at hP
      exact e_z hx hb hr hlk hC hP hS d_MO_fits_114 (b2i_nar _) ⟨by first | (simp only [fitM, hk_1]; rfl) | (rw [fitM, if_neg (by omega), if_neg (by omega), if_neg (by omega), if_neg (by omega), if_neg (by omega)]; done) | simp_all [fitM, b2i], rfl⟩
    · refine lv_tableIn (off := 114) (tgt := 115) hx hb d_MO_fits_1 h1_1 h2_1 (by rw [hk_1]; rfl) (by decide) ?_
      refine lv_iload_n hx hb d_MO_fits_115 rfl (lv_at hl 1 rfl) ?_
      refine lv_iconst (v := 0) hx hb d_MO_fits_116 (by decide) ?_
      refine lv_iconst (v := 3) hx hb d_MO_fits_117 (by decide) ?_
      refine r_i hC hS (r_runS (np := 3) (As := [.int a, .int 0, .int 3]) (rest := []) hx hb hml hC hP hS (m_MO_in l G S a 0 3) l_MO_50 st_MO_in in_MO c_MO_in_in (by decide +kernel) ⟨by simp only [rmF]; omega, by simp only [rmF]; omega⟩ rfl hl.1 (Nat.le_of_ble_eq_true rfl) d_MO_fits_118 ⟨Nat.le_refl _, Nat.le_refl _⟩) (fun r_118 S_118 H locs hw hP hS => ?_)
      obtain ⟨rfl, hSe⟩ := hw
      rw [hSe] at hP
      exact e_z hx hb hr hlk hC hP hS d_MO_fits_121 (b2i_nar _) ⟨by first | (simp only [fitM, hk_1]; rfl) | (rw [fitM, if_neg (by omega), if_neg (by omega), if_neg (by omega), if_neg (by omega), if_neg (by omega)]; done) | simp_all [fitM, b2i], rfl⟩
    · refine lv_tableIn (off := 121) (tgt := 122) hx hb d_MO_fits_1 h1_1 h2_1 (by rw [hk_1]; rfl) (by decide) ?_
      refine lv_iload_n hx hb d_MO_fits_122 rfl (lv_at hl 0 rfl) ?_
      refine lv_iconst (v := 0) hx hb d_MO_fits_123 (by decide) ?_
      refine lv_bipush (v := 18) hx hb d_MO_fits_124 (by decide) ?_
      refine r_i hC hS (r_runS (np := 3) (As := [.int o, .int 0, .int 18]) (rest := []) hx hb hml hC hP hS (m_MO_in l G S o 0 18) l_MO_50 st_MO_in in_MO c_MO_in_in (by decide +kernel) ⟨by simp only [rmF]; omega, by simp only [rmF]; omega⟩ rfl hl.1 (Nat.le_of_ble_eq_true rfl) d_MO_fits_126 ⟨Nat.le_refl _, Nat.le_refl _⟩) (fun r_126 S_126 H locs hw hP hS => ?_)
      obtain ⟨rfl, hSe⟩ := hw
      rw [hSe] at hP
      exact e_z hx hb hr hlk hC hP hS d_MO_fits_129 (b2i_nar _) ⟨by first | (simp only [fitM, hk_1]; rfl) | (rw [fitM, if_neg (by omega), if_neg (by omega), if_neg (by omega), if_neg (by omega), if_neg (by omega)]; done) | simp_all [fitM, b2i], rfl⟩
    · refine lv_tableIn (off := 107) (tgt := 108) hx hb d_MO_fits_1 h1_1 h2_1 (by rw [hk_1]; rfl) (by decide) ?_
      refine lv_iload_n hx hb d_MO_fits_108 rfl (lv_at hl 1 rfl) ?_
      refine lv_iconst (v := 0) hx hb d_MO_fits_109 (by decide) ?_
      refine lv_iconst (v := 2) hx hb d_MO_fits_110 (by decide) ?_
      refine r_i hC hS (r_runS (np := 3) (As := [.int a, .int 0, .int 2]) (rest := []) hx hb hml hC hP hS (m_MO_in l G S a 0 2) l_MO_50 st_MO_in in_MO c_MO_in_in (by decide +kernel) ⟨by simp only [rmF]; omega, by simp only [rmF]; omega⟩ rfl hl.1 (Nat.le_of_ble_eq_true rfl) d_MO_fits_111 ⟨Nat.le_refl _, Nat.le_refl _⟩) (fun r_111 S_111 H locs hw hP hS => ?_)
      obtain ⟨rfl, hSe⟩ := hw
      rw [hSe] at hP
      exact e_z hx hb hr hlk hC hP hS d_MO_fits_114 (b2i_nar _) ⟨by first | (simp only [fitM, hk_1]; rfl) | (rw [fitM, if_neg (by omega), if_neg (by omega), if_neg (by omega), if_neg (by omega), if_neg (by omega)]; done) | simp_all [fitM, b2i], rfl⟩
    · refine lv_tableIn (off := 78) (tgt := 79) hx hb d_MO_fits_1 h1_1 h2_1 (by rw [hk_1]; rfl) (by decide) ?_
      refine lv_iload_n hx hb d_MO_fits_79 rfl (lv_at hl 1 rfl) ?_
      refine lv_iconst (v := 0) hx hb d_MO_fits_80 (by decide) ?_
      refine lv_bipush (v := 6) hx hb d_MO_fits_81 (by decide) ?_
      refine r_i hC hS (r_runS (np := 3) (As := [.int a, .int 0, .int 6]) (rest := []) hx hb hml hC hP hS (m_MO_in l G S a 0 6) l_MO_50 st_MO_in in_MO c_MO_in_in (by decide +kernel) ⟨by simp only [rmF]; omega, by simp only [rmF]; omega⟩ rfl hl.1 (Nat.le_of_ble_eq_true rfl) d_MO_fits_83 ⟨Nat.le_refl _, Nat.le_refl _⟩) (fun r_83 S_83 H locs hw hP hS => ?_)
      obtain ⟨rfl, hSe⟩ := hw
      rw [hSe] at hP
      exact e_z hx hb hr hlk hC hP hS d_MO_fits_86 (b2i_nar _) ⟨by first | (simp only [fitM, hk_1]; rfl) | (rw [fitM, if_neg (by omega), if_neg (by omega), if_neg (by omega), if_neg (by omega), if_neg (by omega)]; done) | simp_all [fitM, b2i], rfl⟩

set_option maxHeartbeats 4000000 in
set_option maxRecDepth 100000 in
theorem m_MO_place (l : Launch) (G : WG) (S : SS)  : Ci l y_MO_place b_MO_place 1 (some (.int)) 0 G [.ref (gA G 44)] S (fun r S1 => r = S 44 3 ∧ S1 = S) := by
  refine mk l (by decide +kernel) (Nat.le_of_ble_eq_true rfl) ?_
  intro pp_ ee_ ss_ mm_ be_ me_ co_ ls hx hb hr hlk hml hC hP hS hl
  have hl : lv_has ls 1 [(0, .ref (gA G 44))] := hl
  refine lv_aload_n hx hb d_MO_place_0 rfl (lv_at hl 0 rfl) ?_
  refine r_get hx hb hC hP i_MO (44) (by decide) rfl rfl 3 (by decide) l_MO_19 rfl d_MO_place_1 ?_
  exact e_i hx hb hr hlk hC hP hS d_MO_place_4 ⟨rfl, rfl⟩

set_option maxHeartbeats 4000000 in
set_option maxRecDepth 100000 in
theorem m_MO_value (l : Launch) (G : WG) (S : SS)  : Ci l y_MO_value b_MO_value 1 (some (.int)) 0 G [.ref (gA G 44)] S (fun r S1 => r = S 44 21 ∧ S1 = S) := by
  refine mk l (by decide +kernel) (Nat.le_of_ble_eq_true rfl) ?_
  intro pp_ ee_ ss_ mm_ be_ me_ co_ ls hx hb hr hlk hml hC hP hS hl
  have hl : lv_has ls 1 [(0, .ref (gA G 44))] := hl
  refine lv_aload_n hx hb d_MO_value_0 rfl (lv_at hl 0 rfl) ?_
  refine r_get hx hb hC hP i_MO (44) (by decide) rfl rfl 21 (by decide) l_MO_173 rfl d_MO_value_1 ?_
  exact e_i hx hb hr hlk hC hP hS d_MO_value_4 ⟨rfl, rfl⟩

set_option maxHeartbeats 4000000 in
set_option maxRecDepth 100000 in
theorem m_MO_steps (l : Launch) (G : WG) (S : SS)  : Ci l y_MO_steps b_MO_steps 1 (some (.int)) 0 G [.ref (gA G 44)] S (fun r S1 => r = S 44 19 ∧ S1 = S) := by
  refine mk l (by decide +kernel) (Nat.le_of_ble_eq_true rfl) ?_
  intro pp_ ee_ ss_ mm_ be_ me_ co_ ls hx hb hr hlk hml hC hP hS hl
  have hl : lv_has ls 1 [(0, .ref (gA G 44))] := hl
  refine lv_aload_n hx hb d_MO_steps_0 rfl (lv_at hl 0 rfl) ?_
  refine r_get hx hb hC hP i_MO (44) (by decide) rfl rfl 19 (by decide) l_MO_114 rfl d_MO_steps_1 ?_
  exact e_i hx hb hr hlk hC hP hS d_MO_steps_4 ⟨rfl, rfl⟩

set_option maxHeartbeats 4000000 in
set_option maxRecDepth 100000 in
theorem m_MO_events (l : Launch) (G : WG) (S : SS)  : Ci l y_MO_events b_MO_events 1 (some (.int)) 0 G [.ref (gA G 44)] S (fun r S1 => r = S 44 24 ∧ S1 = S) := by
  refine mk l (by decide +kernel) (Nat.le_of_ble_eq_true rfl) ?_
  intro pp_ ee_ ss_ mm_ be_ me_ co_ ls hx hb hr hlk hml hC hP hS hl
  have hl : lv_has ls 1 [(0, .ref (gA G 44))] := hl
  refine lv_aload_n hx hb d_MO_events_0 rfl (lv_at hl 0 rfl) ?_
  refine r_get hx hb hC hP i_MO (44) (by decide) rfl rfl 24 (by decide) l_MO_143 rfl d_MO_events_1 ?_
  exact e_i hx hb hr hlk hC hP hS d_MO_events_4 ⟨rfl, rfl⟩

set_option maxHeartbeats 4000000 in
set_option maxRecDepth 100000 in
theorem m_MO_most (l : Launch) (G : WG) (S : SS)  : Ci l y_MO_most b_MO_most 1 (some (.int)) 0 G [.ref (gA G 44)] S (fun r S1 => r = S 44 20 ∧ S1 = S) := by
  refine mk l (by decide +kernel) (Nat.le_of_ble_eq_true rfl) ?_
  intro pp_ ee_ ss_ mm_ be_ me_ co_ ls hx hb hr hlk hml hC hP hS hl
  have hl : lv_has ls 1 [(0, .ref (gA G 44))] := hl
  refine lv_aload_n hx hb d_MO_most_0 rfl (lv_at hl 0 rfl) ?_
  refine r_get hx hb hC hP i_MO (44) (by decide) rfl rfl 20 (by decide) l_MO_104 rfl d_MO_most_1 ?_
  exact e_i hx hb hr hlk hC hP hS d_MO_most_4 ⟨rfl, rfl⟩

def moOpen (S : SS) (D : Nat) (a b : Int32) : SS := su (su (su S 48 D a) 50 D b) 44 8 (nI (D + 1))
def moEnter (S : SS) (D : Nat) (a b c : Int32) : SS := su (su (su (su (su (su S 48 D a) 49 D b) 50 D c) 51 D 0) 44 8 (nI (D + 1))) 44 9 (b + 1)
def moEnds (S : SS) (a b : Int32) : SS := su (su S 44 11 a) 44 12 b
def moMade (S : SS) (n : Nat) (a b : Int32) : SS := su (su (su S 44 18 (nI (n + 1))) 54 (n + 1) a) 55 (n + 1) b
def moRaise (S : SS) (n : Nat) (a b : Int32) : SS := moEnds (moMade S n a b) 4 (nI (n + 1))
set_option maxHeartbeats 4000000 in
set_option maxRecDepth 100000 in
theorem m_MO_openBlock (l : Launch) (G : WG) (S : SS) (D : Nat) (hD8 : D < 80) (hD : S 44 8 = nI D) (a b : Int32) : Cv l y_MO_openBlock b_MO_openBlock 3 0 G [.ref (gA G 44), .int a, .int b] S (fun S1 => S1 = moOpen S D a b) := by
  refine mk l (by decide +kernel) (Nat.le_of_ble_eq_true rfl) ?_
  intro pp_ ee_ ss_ mm_ be_ me_ co_ ls hx hb hr hlk hml hC hP hS hl
  have hl : lv_has ls 3 [(0, .ref (gA G 44)), (1, .int a), (2, .int b)] := hl
  refine lv_aload_n hx hb d_MO_openBlock_0 rfl (lv_at hl 0 rfl) ?_
  refine r_get hx hb hC hP i_MO (44) (by decide) rfl rfl 4 (by decide) l_MO_23 rfl d_MO_openBlock_1 ?_
  refine lv_aload_n hx hb d_MO_openBlock_4 rfl (lv_at hl 0 rfl) ?_
  refine r_get hx hb hC hP i_MO (44) (by decide) rfl rfl 8 (by decide) l_MO_58 rfl d_MO_openBlock_5 ?_
  rw [show S 44 8 = nI D from hD]
  refine lv_iload_n hx hb d_MO_openBlock_8 rfl (lv_at hl 1 rfl) ?_
  refine r_ist hx hb hC hP hS (48) (by decide) (fun _ => rfl) D rfl (by omega) (by decide) d_MO_openBlock_9 (fun H locs hP hS => ?_)
  refine lv_aload_n hx hb d_MO_openBlock_10 rfl (lv_at hl 0 rfl) ?_
  refine r_get hx hb hC hP i_MO (44) (by decide) rfl rfl 6 (by decide) l_MO_29 rfl d_MO_openBlock_11 ?_
  refine lv_aload_n hx hb d_MO_openBlock_14 rfl (lv_at hl 0 rfl) ?_
  refine r_get hx hb hC hP i_MO (44) (by decide) rfl rfl 8 (by decide) l_MO_58 rfl d_MO_openBlock_15 ?_
  rw [show (su S 48 D a) 44 8 = S 44 8 from by rw [su_cell _ _ _ (by decide)]]
  rw [show S 44 8 = nI D from hD]
  refine lv_iload_n hx hb d_MO_openBlock_18 rfl (lv_at hl 2 rfl) ?_
  refine r_ist hx hb hC hP hS (50) (by decide) (fun _ => rfl) D rfl (by omega) (by decide) d_MO_openBlock_19 (fun H locs hP hS => ?_)
  refine lv_aload_n hx hb d_MO_openBlock_20 rfl (lv_at hl 0 rfl) ?_
  refine lv_dup hx hb d_MO_openBlock_21 rfl ?_
  refine r_get hx hb hC hP i_MO (44) (by decide) rfl rfl 8 (by decide) l_MO_58 rfl d_MO_openBlock_22 ?_
  rw [show (su (su S 48 D a) 50 D b) 44 8 = S 44 8 from by rw [su_cell _ _ _ (by decide), su_cell _ _ _ (by decide)]]
  rw [show S 44 8 = nI D from hD]
  refine lv_iconst (v := 1) hx hb d_MO_openBlock_25 (by decide) ?_
  refine lv_iadd hx hb d_MO_openBlock_26 ?_
  rw [show (nI D) + 1 = nI (D + 1) from nI_1 D]
  refine r_put hx hb hC hP hS i_MO t_MO t_MO_ok n_MO (44) (by decide) rfl rfl 8 (by decide) l_MO_58 rfl rfl rfl (Nat.le_of_ble_eq_true rfl) d_MO_openBlock_27 (fun H locs hP hS => ?_)
  exact e_v hx hb hr hlk hC hP hS d_MO_openBlock_30 rfl

set_option maxHeartbeats 4000000 in
set_option maxRecDepth 100000 in
theorem m_MO_enter (l : Launch) (G : WG) (S : SS) (D : Nat) (hD8 : D < 80) (hD : S 44 8 = nI D) (a b c : Int32) : Cv l y_MO_enter b_MO_enter 4 0 G [.ref (gA G 44), .int a, .int b, .int c] S (fun S1 => S1 = moEnter S D a b c) := by
  refine mk l (by decide +kernel) (Nat.le_of_ble_eq_true rfl) ?_
  intro pp_ ee_ ss_ mm_ be_ me_ co_ ls hx hb hr hlk hml hC hP hS hl
  have hl : lv_has ls 4 [(0, .ref (gA G 44)), (1, .int a), (2, .int b), (3, .int c)] := hl
  refine lv_aload_n hx hb d_MO_enter_0 rfl (lv_at hl 0 rfl) ?_
  refine r_get hx hb hC hP i_MO (44) (by decide) rfl rfl 4 (by decide) l_MO_23 rfl d_MO_enter_1 ?_
  refine lv_aload_n hx hb d_MO_enter_4 rfl (lv_at hl 0 rfl) ?_
  refine r_get hx hb hC hP i_MO (44) (by decide) rfl rfl 8 (by decide) l_MO_58 rfl d_MO_enter_5 ?_
  rw [show S 44 8 = nI D from hD]
  refine lv_iload_n hx hb d_MO_enter_8 rfl (lv_at hl 1 rfl) ?_
  refine r_ist hx hb hC hP hS (48) (by decide) (fun _ => rfl) D rfl (by omega) (by decide) d_MO_enter_9 (fun H locs hP hS => ?_)
  refine lv_aload_n hx hb d_MO_enter_10 rfl (lv_at hl 0 rfl) ?_
  refine r_get hx hb hC hP i_MO (44) (by decide) rfl rfl 5 (by decide) l_MO_26 rfl d_MO_enter_11 ?_
  refine lv_aload_n hx hb d_MO_enter_14 rfl (lv_at hl 0 rfl) ?_
  refine r_get hx hb hC hP i_MO (44) (by decide) rfl rfl 8 (by decide) l_MO_58 rfl d_MO_enter_15 ?_
  rw [show (su S 48 D a) 44 8 = S 44 8 from by rw [su_cell _ _ _ (by decide)]]
  rw [show S 44 8 = nI D from hD]
  refine lv_iload_n hx hb d_MO_enter_18 rfl (lv_at hl 2 rfl) ?_
  refine r_ist hx hb hC hP hS (49) (by decide) (fun _ => rfl) D rfl (by omega) (by decide) d_MO_enter_19 (fun H locs hP hS => ?_)
  refine lv_aload_n hx hb d_MO_enter_20 rfl (lv_at hl 0 rfl) ?_
  refine r_get hx hb hC hP i_MO (44) (by decide) rfl rfl 6 (by decide) l_MO_29 rfl d_MO_enter_21 ?_
  refine lv_aload_n hx hb d_MO_enter_24 rfl (lv_at hl 0 rfl) ?_
  refine r_get hx hb hC hP i_MO (44) (by decide) rfl rfl 8 (by decide) l_MO_58 rfl d_MO_enter_25 ?_
  rw [show (su (su S 48 D a) 49 D b) 44 8 = S 44 8 from by rw [su_cell _ _ _ (by decide), su_cell _ _ _ (by decide)]]
  rw [show S 44 8 = nI D from hD]
  refine lv_iload_n hx hb d_MO_enter_28 rfl (lv_at hl 3 rfl) ?_
  refine r_ist hx hb hC hP hS (50) (by decide) (fun _ => rfl) D rfl (by omega) (by decide) d_MO_enter_29 (fun H locs hP hS => ?_)
  refine lv_aload_n hx hb d_MO_enter_30 rfl (lv_at hl 0 rfl) ?_
  refine r_get hx hb hC hP i_MO (44) (by decide) rfl rfl 7 (by decide) l_MO_32 rfl d_MO_enter_31 ?_
  refine lv_aload_n hx hb d_MO_enter_34 rfl (lv_at hl 0 rfl) ?_
  refine r_get hx hb hC hP i_MO (44) (by decide) rfl rfl 8 (by decide) l_MO_58 rfl d_MO_enter_35 ?_
  rw [show (su (su (su S 48 D a) 49 D b) 50 D c) 44 8 = S 44 8 from by rw [su_cell _ _ _ (by decide), su_cell _ _ _ (by decide), su_cell _ _ _ (by decide)]]
  rw [show S 44 8 = nI D from hD]
  refine lv_iconst (v := 0) hx hb d_MO_enter_38 (by decide) ?_
  refine r_ist hx hb hC hP hS (51) (by decide) (fun _ => rfl) D rfl (by omega) (by decide) d_MO_enter_39 (fun H locs hP hS => ?_)
  refine lv_aload_n hx hb d_MO_enter_40 rfl (lv_at hl 0 rfl) ?_
  refine lv_dup hx hb d_MO_enter_41 rfl ?_
  refine r_get hx hb hC hP i_MO (44) (by decide) rfl rfl 8 (by decide) l_MO_58 rfl d_MO_enter_42 ?_
  rw [show (su (su (su (su S 48 D a) 49 D b) 50 D c) 51 D 0) 44 8 = S 44 8 from by rw [su_cell _ _ _ (by decide), su_cell _ _ _ (by decide), su_cell _ _ _ (by decide), su_cell _ _ _ (by decide)]]
  rw [show S 44 8 = nI D from hD]
  refine lv_iconst (v := 1) hx hb d_MO_enter_45 (by decide) ?_
  refine lv_iadd hx hb d_MO_enter_46 ?_
  rw [show (nI D) + 1 = nI (D + 1) from nI_1 D]
  refine r_put hx hb hC hP hS i_MO t_MO t_MO_ok n_MO (44) (by decide) rfl rfl 8 (by decide) l_MO_58 rfl rfl rfl (Nat.le_of_ble_eq_true rfl) d_MO_enter_47 (fun H locs hP hS => ?_)
  refine lv_aload_n hx hb d_MO_enter_50 rfl (lv_at hl 0 rfl) ?_
  refine lv_iload_n hx hb d_MO_enter_51 rfl (lv_at hl 2 rfl) ?_
  refine lv_iconst (v := 1) hx hb d_MO_enter_52 (by decide) ?_
  refine lv_iadd hx hb d_MO_enter_53 ?_
  refine r_put hx hb hC hP hS i_MO t_MO t_MO_ok n_MO (44) (by decide) rfl rfl 9 (by decide) l_MO_86 rfl rfl rfl (Nat.le_of_ble_eq_true rfl) d_MO_enter_54 (fun H locs hP hS => ?_)
  exact e_v hx hb hr hlk hC hP hS d_MO_enter_57 rfl

set_option maxHeartbeats 4000000 in
set_option maxRecDepth 100000 in
theorem m_MO_made (l : Launch) (G : WG) (S : SS) (n : Nat) (hn6 : n < 600) (hn : S 44 18 = nI n) (a b : Int32) : Ci l y_MO_made b_MO_made 3 (some (.int)) 0 G [.ref (gA G 44), .int a, .int b] S (fun r S1 => r = nI (n + 1) ∧ S1 = moMade S n a b) := by
  refine mk l (by decide +kernel) (Nat.le_of_ble_eq_true rfl) ?_
  intro pp_ ee_ ss_ mm_ be_ me_ co_ ls hx hb hr hlk hml hC hP hS hl
  have hl : lv_has ls 3 [(0, .ref (gA G 44)), (1, .int a), (2, .int b)] := hl
  refine lv_aload_n hx hb d_MO_made_0 rfl (lv_at hl 0 rfl) ?_
  refine lv_dup hx hb d_MO_made_1 rfl ?_
  refine r_get hx hb hC hP i_MO (44) (by decide) rfl rfl 18 (by decide) l_MO_89 rfl d_MO_made_2 ?_
  rw [show S 44 18 = nI n from hn]
  refine lv_iconst (v := 1) hx hb d_MO_made_5 (by decide) ?_
  refine lv_iadd hx hb d_MO_made_6 ?_
  rw [show (nI n) + 1 = nI (n + 1) from nI_1 n]
  refine r_put hx hb hC hP hS i_MO t_MO t_MO_ok n_MO (44) (by decide) rfl rfl 18 (by decide) l_MO_89 rfl rfl rfl (Nat.le_of_ble_eq_true rfl) d_MO_made_7 (fun H locs hP hS => ?_)
  refine lv_aload_n hx hb d_MO_made_10 rfl (lv_at hl 0 rfl) ?_
  refine r_get hx hb hC hP i_MO (44) (by decide) rfl rfl 16 (by decide) l_MO_41 rfl d_MO_made_11 ?_
  refine lv_aload_n hx hb d_MO_made_14 rfl (lv_at hl 0 rfl) ?_
  refine r_get hx hb hC hP i_MO (44) (by decide) rfl rfl 18 (by decide) l_MO_89 rfl d_MO_made_15 ?_
  rw [show (su S 44 18 (nI (n + 1))) 44 18 = nI (n + 1) from by rw [su_same]]
  refine lv_iload_n hx hb d_MO_made_18 rfl (lv_at hl 1 rfl) ?_
  refine r_ist hx hb hC hP hS (54) (by decide) (fun _ => rfl) (n + 1) rfl (by omega) (by decide) d_MO_made_19 (fun H locs hP hS => ?_)
  refine lv_aload_n hx hb d_MO_made_20 rfl (lv_at hl 0 rfl) ?_
  refine r_get hx hb hC hP i_MO (44) (by decide) rfl rfl 17 (by decide) l_MO_44 rfl d_MO_made_21 ?_
  refine lv_aload_n hx hb d_MO_made_24 rfl (lv_at hl 0 rfl) ?_
  refine r_get hx hb hC hP i_MO (44) (by decide) rfl rfl 18 (by decide) l_MO_89 rfl d_MO_made_25 ?_
  rw [show (su (su S 44 18 (nI (n + 1))) 54 (n + 1) a) 44 18 = nI (n + 1) from by rw [su_cell _ _ _ (by decide), su_same]]
  refine lv_iload_n hx hb d_MO_made_28 rfl (lv_at hl 2 rfl) ?_
  refine r_ist hx hb hC hP hS (55) (by decide) (fun _ => rfl) (n + 1) rfl (by omega) (by decide) d_MO_made_29 (fun H locs hP hS => ?_)
  refine lv_aload_n hx hb d_MO_made_30 rfl (lv_at hl 0 rfl) ?_
  refine r_get hx hb hC hP i_MO (44) (by decide) rfl rfl 18 (by decide) l_MO_89 rfl d_MO_made_31 ?_
  rw [show (su (su (su S 44 18 (nI (n + 1))) 54 (n + 1) a) 55 (n + 1) b) 44 18 = nI (n + 1) from by rw [su_cell _ _ _ (by decide), su_cell _ _ _ (by decide), su_same]]
  exact e_i hx hb hr hlk hC hP hS d_MO_made_34 ⟨rfl, rfl⟩

set_option maxHeartbeats 4000000 in
set_option maxRecDepth 100000 in
theorem m_MO_ends (l : Launch) (G : WG) (S : SS) (a b : Int32) : Cv l y_MO_ends b_MO_ends 3 0 G [.ref (gA G 44), .int a, .int b] S (fun S1 => S1 = moEnds S a b) := by
  refine mk l (by decide +kernel) (Nat.le_of_ble_eq_true rfl) ?_
  intro pp_ ee_ ss_ mm_ be_ me_ co_ ls hx hb hr hlk hml hC hP hS hl
  have hl : lv_has ls 3 [(0, .ref (gA G 44)), (1, .int a), (2, .int b)] := hl
  refine lv_aload_n hx hb d_MO_ends_0 rfl (lv_at hl 0 rfl) ?_
  refine lv_iload_n hx hb d_MO_ends_1 rfl (lv_at hl 1 rfl) ?_
  refine r_put hx hb hC hP hS i_MO t_MO t_MO_ok n_MO (44) (by decide) rfl rfl 11 (by decide) l_MO_92 rfl rfl rfl (Nat.le_of_ble_eq_true rfl) d_MO_ends_2 (fun H locs hP hS => ?_)
  refine lv_aload_n hx hb d_MO_ends_5 rfl (lv_at hl 0 rfl) ?_
  refine lv_iload_n hx hb d_MO_ends_6 rfl (lv_at hl 2 rfl) ?_
  refine r_put hx hb hC hP hS i_MO t_MO t_MO_ok n_MO (44) (by decide) rfl rfl 12 (by decide) l_MO_95 rfl rfl rfl (Nat.le_of_ble_eq_true rfl) d_MO_ends_7 (fun H locs hP hS => ?_)
  exact e_v hx hb hr hlk hC hP hS d_MO_ends_10 rfl

set_option maxHeartbeats 4000000 in
set_option maxRecDepth 100000 in
theorem m_MO_raise (l : Launch) (G : WG) (S : SS) (n : Nat) (hn6 : n < 600) (hn : S 44 18 = nI n) (a b : Int32) : Cv l y_MO_raise b_MO_raise 3 1 G [.ref (gA G 44), .int a, .int b] S (fun S1 => S1 = moRaise S n a b) := by
  refine mk l (by decide +kernel) (Nat.le_of_ble_eq_true rfl) ?_
  intro pp_ ee_ ss_ mm_ be_ me_ co_ ls hx hb hr hlk hml hC hP hS hl
  have hl : lv_has ls 3 [(0, .ref (gA G 44)), (1, .int a), (2, .int b)] := hl
  refine lv_aload_n hx hb d_MO_raise_0 rfl (lv_at hl 0 rfl) ?_
  refine lv_iconst (v := 4) hx hb d_MO_raise_1 (by decide) ?_
  refine lv_aload_n hx hb d_MO_raise_2 rfl (lv_at hl 0 rfl) ?_
  refine lv_iload_n hx hb d_MO_raise_3 rfl (lv_at hl 1 rfl) ?_
  refine lv_iload_n hx hb d_MO_raise_4 rfl (lv_at hl 2 rfl) ?_
  refine r_i hC hS (r_runV (np := 2) (As := [.int a, .int b]) (rest := [.int 4, .ref (gA G 44)]) hx hb hml hC hP hS (by decide) rfl rfl (m_MO_made l G S n (by omega) hn a b) l_MO_98 im_MO_made se_MO_made in_MO c_MO_made_in (by decide +kernel) ⟨by simp only [rmF]; omega, by simp only [rmF]; omega⟩ rfl hl.1 (Nat.le_of_ble_eq_true rfl) d_MO_raise_5 ⟨Nat.le_refl _, Nat.le_refl _⟩) (fun r_5 S_5 H locs hw hP hS => ?_)
  obtain ⟨rfl, hSe⟩ := hw
  rw [hSe] at hP
  refine r_v hC hS (r_runV (np := 2) (As := [.int 4, .int (nI (n + 1))]) (rest := []) hx hb hml hC hP hS (by decide) rfl rfl (m_MO_ends l G (moMade S n a b) 4 (nI (n + 1))) l_MO_101 im_MO_ends se_MO_ends in_MO c_MO_ends_in (by decide +kernel) ⟨by simp only [rmF]; omega, by simp only [rmF]; omega⟩ rfl hl.1 (Nat.le_of_ble_eq_true rfl) d_MO_raise_8 ⟨Nat.le_refl _, Nat.le_refl _⟩) (fun S_8 H locs hw hP hS => ?_)
  rw [hw] at hP
  exact e_v hx hb hr hlk hC hP hS d_MO_raise_11 rfl
end
section
/-! reference: hold, begin, caught, call, leave, note, inside, behind, part, behindTry: written by wip/gen/p31.py -/
def moHold (S : SS) (i : Nat) : SS :=
  if su S 53 i (S 53 i + 1) 44 20 < su S 53 i (S 53 i + 1) 53 0 + su S 53 i (S 53 i + 1) 53 1 + su S 53 i (S 53 i + 1) 53 2 then su (su S 53 i (S 53 i + 1)) 44 20 (su S 53 i (S 53 i + 1) 53 0 + su S 53 i (S 53 i + 1) 53 1 + su S 53 i (S 53 i + 1) 53 2) else su S 53 i (S 53 i + 1)
set_option maxHeartbeats 4000000 in
set_option maxRecDepth 100000 in
theorem m_MO_hold (l : Launch) (G : WG) (S : SS) (i : Nat) (hi : i < 3) : Cv l y_MO_hold b_MO_hold 3 0 G [.ref (gA G 44), .int (nI i)] S (fun S1 => S1 = moHold S i) := by
  refine mk l (by decide +kernel) (Nat.le_of_ble_eq_true rfl) ?_
  intro pp_ ee_ ss_ mm_ be_ me_ co_ ls hx hb hr hlk hml hC hP hS hl
  have hl : lv_has ls 3 [(0, .ref (gA G 44)), (1, .int (nI i))] := hl
  refine lv_aload_n hx hb d_MO_hold_0 rfl (lv_at hl 0 rfl) ?_
  refine r_get hx hb hC hP i_MO (44) (by decide) rfl rfl 15 (by decide) l_MO_38 rfl d_MO_hold_1 ?_
  refine lv_iload_n hx hb d_MO_hold_4 rfl (lv_at hl 1 rfl) ?_
  refine lv_dup2_11 hx hb d_MO_hold_5 rfl rfl ?_
  refine r_ild hx hb hC hP (53) (by decide) rfl i rfl (by omega) (by decide) d_MO_hold_6 ?_
  refine lv_iconst (v := 1) hx hb d_MO_hold_7 (by decide) ?_
  refine lv_iadd hx hb d_MO_hold_8 ?_
  refine r_ist hx hb hC hP hS (53) (by decide) (fun _ => rfl) i rfl (by omega) (by decide) d_MO_hold_9 (fun H locs hP hS => ?_)
  refine lv_aload_n hx hb d_MO_hold_10 rfl (lv_at hl 0 rfl) ?_
  refine r_get hx hb hC hP i_MO (44) (by decide) rfl rfl 15 (by decide) l_MO_38 rfl d_MO_hold_11 ?_
  refine lv_iconst (v := 0) hx hb d_MO_hold_14 (by decide) ?_
  refine r_ild hx hb hC hP (53) (by decide) rfl 0 rfl (by decide) (by decide) d_MO_hold_15 ?_
  refine lv_aload_n hx hb d_MO_hold_16 rfl (lv_at hl 0 rfl) ?_
  refine r_get hx hb hC hP i_MO (44) (by decide) rfl rfl 15 (by decide) l_MO_38 rfl d_MO_hold_17 ?_
  refine lv_iconst (v := 1) hx hb d_MO_hold_20 (by decide) ?_
  refine r_ild hx hb hC hP (53) (by decide) rfl 1 rfl (by decide) (by decide) d_MO_hold_21 ?_
  refine lv_iadd hx hb d_MO_hold_22 ?_
  refine lv_aload_n hx hb d_MO_hold_23 rfl (lv_at hl 0 rfl) ?_
  refine r_get hx hb hC hP i_MO (44) (by decide) rfl rfl 15 (by decide) l_MO_38 rfl d_MO_hold_24 ?_
  refine lv_iconst (v := 2) hx hb d_MO_hold_27 (by decide) ?_
  refine r_ild hx hb hC hP (53) (by decide) rfl 2 rfl (by decide) (by decide) d_MO_hold_28 ?_
  refine lv_iadd hx hb d_MO_hold_29 ?_
  refine lv_istore_n (lv' := [(2, .int ((((su S 53 i ((S 53 i) + 1)) 53 0) + ((su S 53 i ((S 53 i) + 1)) 53 1)) + ((su S 53 i ((S 53 i) + 1)) 53 2))), (0, .ref (gA G 44)), (1, .int (nI i))]) hx hb d_MO_hold_30 rfl hl (by decide) rfl (fun ls hl => ?_)
  refine lv_iload_n hx hb d_MO_hold_31 rfl (lv_at hl 0 rfl) ?_
  refine lv_aload_n hx hb d_MO_hold_32 rfl (lv_at hl 1 rfl) ?_
  refine r_get hx hb hC hP i_MO (44) (by decide) rfl rfl 20 (by decide) l_MO_104 rfl d_MO_hold_33 ?_
  rw [show (su S 53 i ((S 53 i) + 1)) 44 20 = S 44 20 from by rw [su_cell _ _ _ (by decide)]]
  refine lv_icmp_le (tgt := 44) hx hb d_MO_hold_36 (by decide) (fun c_36 => ?_) (fun c_36 => ?_)
  · exact e_v hx hb hr hlk hC hP hS d_MO_hold_44 (by first | exact (if_neg (by first | assumption | exact Int32.not_lt.mpr (by assumption))).symm | exact (if_pos (by first | assumption | exact Int32.not_le.mp (by assumption))).symm)
  · refine lv_aload_n hx hb d_MO_hold_39 rfl (lv_at hl 1 rfl) ?_
    refine lv_iload_n hx hb d_MO_hold_40 rfl (lv_at hl 0 rfl) ?_
    refine r_put hx hb hC hP hS i_MO t_MO t_MO_ok n_MO (44) (by decide) rfl rfl 20 (by decide) l_MO_104 rfl rfl rfl (Nat.le_of_ble_eq_true rfl) d_MO_hold_41 (fun H locs hP hS => ?_)
    exact e_v hx hb hr hlk hC hP hS d_MO_hold_44 (by first | exact (if_neg (by first | assumption | exact Int32.not_lt.mpr (by assumption))).symm | exact (if_pos (by first | assumption | exact Int32.not_le.mp (by assumption))).symm)

def moBegin (S : SS) (D q : Nat) (p x : Int32) : SS := su (su (su (su (moEnter S D 20 (32 * p - 1) x) 52 (3 * q) 0) 52 (3 * q + 1) 0) 52 (3 * q + 2) 0) 44 13 (nI (q + 1))
theorem moEnter_44 (S : SS) (D : Nat) (a b c : Int32) {j : Nat} (h8 : j ≠ 8) (h9 : j ≠ 9) : moEnter S D a b c 44 j = S 44 j := by
  unfold moEnter
  rw [su_int _ _ _ h9, su_int _ _ _ h8, su_cell _ _ _ (by decide), su_cell _ _ _ (by decide), su_cell _ _ _ (by decide), su_cell _ _ _ (by decide)]
theorem nI_m3 (q j : Nat) : (3 : Int32) * nI q + nI j = nI (3 * q + j) := by
  rw [show (3 : Int32) = nI 3 from rfl, pk_mul, nI_add]
set_option maxHeartbeats 4000000 in
set_option maxRecDepth 100000 in
theorem m_MO_begin (l : Launch) (G : WG) (S : SS) (D q : Nat) (hD8 : D < 80) (hD : S 44 8 = nI D) (hq6 : q < 6) (hq : S 44 13 = nI q) (p x : Int32) : Cv l y_MO_begin b_MO_begin 4 1 G [.ref (gA G 44), .int p, .int x] S (fun S1 => S1 = moBegin S D q p x) := by
  refine mk l (by decide +kernel) (Nat.le_of_ble_eq_true rfl) ?_
  intro pp_ ee_ ss_ mm_ be_ me_ co_ ls hx hb hr hlk hml hC hP hS hl
  have hl : lv_has ls 4 [(0, .ref (gA G 44)), (1, .int p), (2, .int x)] := hl
  refine lv_aload_n hx hb d_MO_begin_0 rfl (lv_at hl 0 rfl) ?_
  refine lv_bipush (v := 20) hx hb d_MO_begin_1 (by decide) ?_
  refine lv_bipush (v := 32) hx hb d_MO_begin_3 (by decide) ?_
  refine lv_iload_n hx hb d_MO_begin_5 rfl (lv_at hl 1 rfl) ?_
  refine lv_imul hx hb d_MO_begin_6 ?_
  refine lv_iconst (v := 1) hx hb d_MO_begin_7 (by decide) ?_
  refine lv_isub hx hb d_MO_begin_8 ?_
  refine lv_iload_n hx hb d_MO_begin_9 rfl (lv_at hl 2 rfl) ?_
  refine r_v hC hS (r_runV (np := 3) (As := [.int 20, .int ((32 * p) - 1), .int x]) (rest := []) hx hb hml hC hP hS (by decide) rfl rfl (m_MO_enter l G S D (by omega) hD 20 ((32 * p) - 1) x) l_MO_107 im_MO_enter se_MO_enter in_MO c_MO_enter_in (by decide +kernel) ⟨by simp only [rmF]; omega, by simp only [rmF]; omega⟩ rfl hl.1 (Nat.le_of_ble_eq_true rfl) d_MO_begin_10 ⟨Nat.le_refl _, Nat.le_refl _⟩) (fun S_10 H locs hw hP hS => ?_)
  rw [hw] at hP
  refine lv_iconst (v := 0) hx hb d_MO_begin_13 (by decide) ?_
  refine lv_istore_n (lv' := [(3, .int 0), (0, .ref (gA G 44)), (1, .int p), (2, .int x)]) hx hb d_MO_begin_14 rfl hl (by decide) rfl (fun ls hl => ?_)
  refine lv_iload_n hx hb d_MO_begin_15 rfl (lv_at hl 0 rfl) ?_
  refine lv_iconst (v := 3) hx hb d_MO_begin_16 (by decide) ?_
  refine lv_icmp_ge (tgt := 40) hx hb d_MO_begin_17 (by decide) (fun h => absurd h (by decide)) (fun _ => ?_)
  refine lv_aload_n hx hb d_MO_begin_20 rfl (lv_at hl 1 rfl) ?_
  refine r_get hx hb hC hP i_MO (44) (by decide) rfl rfl 14 (by decide) l_MO_35 rfl d_MO_begin_21 ?_
  refine lv_iconst (v := 3) hx hb d_MO_begin_24 (by decide) ?_
  refine lv_aload_n hx hb d_MO_begin_25 rfl (lv_at hl 1 rfl) ?_
  refine r_get hx hb hC hP i_MO (44) (by decide) rfl rfl 13 (by decide) l_MO_111 rfl d_MO_begin_26 ?_
  rw [show (moEnter S D 20 ((32 * p) - 1) x) 44 13 = nI q from (by rw [moEnter_44 _ _ _ _ _ (by decide) (by decide)]; exact hq)]
  refine lv_imul hx hb d_MO_begin_29 ?_
  refine lv_iload_n hx hb d_MO_begin_30 rfl (lv_at hl 0 rfl) ?_
  refine lv_iadd hx hb d_MO_begin_31 ?_
  rw [show (3 * (nI q)) + 0 = nI (3 * q) from (nI_m3 q 0)]
  refine lv_iconst (v := 0) hx hb d_MO_begin_32 (by decide) ?_
  refine r_ist hx hb hC hP hS (52) (by decide) (fun _ => rfl) (3 * q) rfl (by omega) (by decide) d_MO_begin_33 (fun H locs hP hS => ?_)
  refine lv_iinc (v := 1) (lv' := [(3, .int 1), (0, .ref (gA G 44)), (1, .int p), (2, .int x)]) hx hb d_MO_begin_34 hl (k := 0) rfl (by decide) (by decide) rfl (fun ls hl => ?_)
  refine lv_goto (tgt := 15) hx hb d_MO_begin_37 (by decide) ?_
  refine lv_iload_n hx hb d_MO_begin_15 rfl (lv_at hl 0 rfl) ?_
  refine lv_iconst (v := 3) hx hb d_MO_begin_16 (by decide) ?_
  refine lv_icmp_ge (tgt := 40) hx hb d_MO_begin_17 (by decide) (fun h => absurd h (by decide)) (fun _ => ?_)
  refine lv_aload_n hx hb d_MO_begin_20 rfl (lv_at hl 1 rfl) ?_
  refine r_get hx hb hC hP i_MO (44) (by decide) rfl rfl 14 (by decide) l_MO_35 rfl d_MO_begin_21 ?_
  refine lv_iconst (v := 3) hx hb d_MO_begin_24 (by decide) ?_
  refine lv_aload_n hx hb d_MO_begin_25 rfl (lv_at hl 1 rfl) ?_
  refine r_get hx hb hC hP i_MO (44) (by decide) rfl rfl 13 (by decide) l_MO_111 rfl d_MO_begin_26 ?_
  rw [show (su (moEnter S D 20 ((32 * p) - 1) x) 52 (3 * q) 0) 44 13 = (moEnter S D 20 ((32 * p) - 1) x) 44 13 from by rw [su_cell _ _ _ (by decide)]]
  rw [show (moEnter S D 20 ((32 * p) - 1) x) 44 13 = nI q from (by rw [moEnter_44 _ _ _ _ _ (by decide) (by decide)]; exact hq)]
  refine lv_imul hx hb d_MO_begin_29 ?_
  refine lv_iload_n hx hb d_MO_begin_30 rfl (lv_at hl 0 rfl) ?_
  refine lv_iadd hx hb d_MO_begin_31 ?_
  rw [show (3 * (nI q)) + 1 = nI (3 * q + 1) from (nI_m3 q 1)]
  refine lv_iconst (v := 0) hx hb d_MO_begin_32 (by decide) ?_
  refine r_ist hx hb hC hP hS (52) (by decide) (fun _ => rfl) (3 * q + 1) rfl (by omega) (by decide) d_MO_begin_33 (fun H locs hP hS => ?_)
  refine lv_iinc (v := 2) (lv' := [(3, .int 2), (0, .ref (gA G 44)), (1, .int p), (2, .int x)]) hx hb d_MO_begin_34 hl (k := 0) rfl (by decide) (by decide) rfl (fun ls hl => ?_)
  refine lv_goto (tgt := 15) hx hb d_MO_begin_37 (by decide) ?_
  refine lv_iload_n hx hb d_MO_begin_15 rfl (lv_at hl 0 rfl) ?_
  refine lv_iconst (v := 3) hx hb d_MO_begin_16 (by decide) ?_
  refine lv_icmp_ge (tgt := 40) hx hb d_MO_begin_17 (by decide) (fun h => absurd h (by decide)) (fun _ => ?_)
  refine lv_aload_n hx hb d_MO_begin_20 rfl (lv_at hl 1 rfl) ?_
  refine r_get hx hb hC hP i_MO (44) (by decide) rfl rfl 14 (by decide) l_MO_35 rfl d_MO_begin_21 ?_
  refine lv_iconst (v := 3) hx hb d_MO_begin_24 (by decide) ?_
  refine lv_aload_n hx hb d_MO_begin_25 rfl (lv_at hl 1 rfl) ?_
  refine r_get hx hb hC hP i_MO (44) (by decide) rfl rfl 13 (by decide) l_MO_111 rfl d_MO_begin_26 ?_
  rw [show (su (su (moEnter S D 20 ((32 * p) - 1) x) 52 (3 * q) 0) 52 (3 * q + 1) 0) 44 13 = (moEnter S D 20 ((32 * p) - 1) x) 44 13 from by rw [su_cell _ _ _ (by decide), su_cell _ _ _ (by decide)]]
  rw [show (moEnter S D 20 ((32 * p) - 1) x) 44 13 = nI q from (by rw [moEnter_44 _ _ _ _ _ (by decide) (by decide)]; exact hq)]
  refine lv_imul hx hb d_MO_begin_29 ?_
  refine lv_iload_n hx hb d_MO_begin_30 rfl (lv_at hl 0 rfl) ?_
  refine lv_iadd hx hb d_MO_begin_31 ?_
  rw [show (3 * (nI q)) + 2 = nI (3 * q + 2) from (nI_m3 q 2)]
  refine lv_iconst (v := 0) hx hb d_MO_begin_32 (by decide) ?_
  refine r_ist hx hb hC hP hS (52) (by decide) (fun _ => rfl) (3 * q + 2) rfl (by omega) (by decide) d_MO_begin_33 (fun H locs hP hS => ?_)
  refine lv_iinc (v := 3) (lv' := [(3, .int 3), (0, .ref (gA G 44)), (1, .int p), (2, .int x)]) hx hb d_MO_begin_34 hl (k := 0) rfl (by decide) (by decide) rfl (fun ls hl => ?_)
  refine lv_goto (tgt := 15) hx hb d_MO_begin_37 (by decide) ?_
  refine lv_iload_n hx hb d_MO_begin_15 rfl (lv_at hl 0 rfl) ?_
  refine lv_iconst (v := 3) hx hb d_MO_begin_16 (by decide) ?_
  refine lv_icmp_ge (tgt := 40) hx hb d_MO_begin_17 (by decide) (fun _ => ?_) (fun h => absurd h (by decide))
  refine lv_aload_n hx hb d_MO_begin_40 rfl (lv_at hl 1 rfl) ?_
  refine lv_dup hx hb d_MO_begin_41 rfl ?_
  refine r_get hx hb hC hP i_MO (44) (by decide) rfl rfl 13 (by decide) l_MO_111 rfl d_MO_begin_42 ?_
  rw [show (su (su (su (moEnter S D 20 ((32 * p) - 1) x) 52 (3 * q) 0) 52 (3 * q + 1) 0) 52 (3 * q + 2) 0) 44 13 = (moEnter S D 20 ((32 * p) - 1) x) 44 13 from by rw [su_cell _ _ _ (by decide), su_cell _ _ _ (by decide), su_cell _ _ _ (by decide)]]
  rw [show (moEnter S D 20 ((32 * p) - 1) x) 44 13 = nI q from (by rw [moEnter_44 _ _ _ _ _ (by decide) (by decide)]; exact hq)]
  refine lv_iconst (v := 1) hx hb d_MO_begin_45 (by decide) ?_
  refine lv_iadd hx hb d_MO_begin_46 ?_
  rw [show (nI q) + 1 = nI (q + 1) from nI_1 q]
  refine r_put hx hb hC hP hS i_MO t_MO t_MO_ok n_MO (44) (by decide) rfl rfl 13 (by decide) l_MO_111 rfl rfl rfl (Nat.le_of_ble_eq_true rfl) d_MO_begin_47 (fun H locs hP hS => ?_)
  exact e_v hx hb hr hlk hC hP hS d_MO_begin_50 rfl

theorem moBegin_8 (S : SS) (D q : Nat) (p x : Int32) : moBegin S D q p x 44 8 = nI (D + 1) := by
  unfold moBegin moEnter
  rw [su_int _ _ _ (by decide), su_cell _ _ _ (by decide), su_cell _ _ _ (by decide), su_cell _ _ _ (by decide), su_int _ _ _ (by decide), su_same]
def moCall (S : SS) (D q : Nat) (p : Int32) : SS := su (moBegin S D q p (S 44 10)) 51 D (S 44 9)
set_option maxHeartbeats 4000000 in
set_option maxRecDepth 100000 in
theorem m_MO_call (l : Launch) (G : WG) (S : SS) (D q : Nat) (hD8 : D < 80) (hD : S 44 8 = nI D) (hq6 : q < 6) (hq : S 44 13 = nI q) (p : Int32) : Cv l y_MO_call b_MO_call 3 2 G [.ref (gA G 44), .int p] S (fun S1 => S1 = moCall S D q p) := by
  refine mk l (by decide +kernel) (Nat.le_of_ble_eq_true rfl) ?_
  intro pp_ ee_ ss_ mm_ be_ me_ co_ ls hx hb hr hlk hml hC hP hS hl
  have hl : lv_has ls 3 [(0, .ref (gA G 44)), (1, .int p)] := hl
  refine lv_aload_n hx hb d_MO_call_0 rfl (lv_at hl 0 rfl) ?_
  refine r_get hx hb hC hP i_MO (44) (by decide) rfl rfl 9 (by decide) l_MO_86 rfl d_MO_call_1 ?_
  refine lv_istore_n (lv' := [(2, .int (S 44 9)), (0, .ref (gA G 44)), (1, .int p)]) hx hb d_MO_call_4 rfl hl (by decide) rfl (fun ls hl => ?_)
  refine lv_aload_n hx hb d_MO_call_5 rfl (lv_at hl 1 rfl) ?_
  refine lv_iload_n hx hb d_MO_call_6 rfl (lv_at hl 2 rfl) ?_
  refine lv_aload_n hx hb d_MO_call_7 rfl (lv_at hl 1 rfl) ?_
  refine r_get hx hb hC hP i_MO (44) (by decide) rfl rfl 10 (by decide) l_MO_121 rfl d_MO_call_8 ?_
  refine r_v hC hS (r_runV (np := 2) (As := [.int p, .int (S 44 10)]) (rest := []) hx hb hml hC hP hS (by decide) rfl rfl (m_MO_begin l G S D q (by omega) hD (by omega) hq p (S 44 10)) l_MO_140 im_MO_begin se_MO_begin in_MO c_MO_begin_in (by decide +kernel) ⟨by simp only [rmF]; omega, by simp only [rmF]; omega⟩ rfl hl.1 (Nat.le_of_ble_eq_true rfl) d_MO_call_11 ⟨Nat.le_refl _, Nat.le_refl _⟩) (fun S_11 H locs hw hP hS => ?_)
  rw [hw] at hP
  refine lv_aload_n hx hb d_MO_call_14 rfl (lv_at hl 1 rfl) ?_
  refine r_get hx hb hC hP i_MO (44) (by decide) rfl rfl 7 (by decide) l_MO_32 rfl d_MO_call_15 ?_
  refine lv_aload_n hx hb d_MO_call_18 rfl (lv_at hl 1 rfl) ?_
  refine r_get hx hb hC hP i_MO (44) (by decide) rfl rfl 8 (by decide) l_MO_58 rfl d_MO_call_19 ?_
  rw [show (moBegin S D q p (S 44 10)) 44 8 = nI (D + 1) from (moBegin_8 _ _ _ _ _)]
  refine lv_iconst (v := 1) hx hb d_MO_call_22 (by decide) ?_
  refine lv_isub hx hb d_MO_call_23 ?_
  rw [show (nI (D + 1)) - 1 = nI D from nI_pred D]
  refine lv_iload_n hx hb d_MO_call_24 rfl (lv_at hl 0 rfl) ?_
  refine r_ist hx hb hC hP hS (51) (by decide) (fun _ => rfl) D rfl (by omega) (by decide) d_MO_call_25 (fun H locs hP hS => ?_)
  exact e_v hx hb hr hlk hC hP hS d_MO_call_26 rfl

theorem nI_lv (q i : Nat) : (3 : Int32) * nI (q + 1) - 3 + nI i = nI (3 * q + i) := by
  rw [show (3 : Int32) = nI 3 from rfl, pk_mul, pk_sub (by omega), nI_add]
  congr 1
def moLeave (S : SS) (q i n : Nat) : SS := if S 52 (3 * q + i) = 0 then moRaise S n 4 0 else su (su S 52 (3 * q + i) (S 52 (3 * q + i) - 1)) 53 i (S 53 i - 1)
set_option maxHeartbeats 4000000 in
set_option maxRecDepth 100000 in
theorem m_MO_leave (l : Launch) (G : WG) (S : SS) (q i n : Nat) (hn6 : n < 600) (hn : S 44 18 = nI n) (hq6 : q < 6) (hq : S 44 13 = nI (q + 1)) (hi : i < 3) : Cv l y_MO_leave b_MO_leave 3 2 G [.ref (gA G 44), .int (nI i)] S (fun S1 => S1 = moLeave S q i n) := by
  refine mk l (by decide +kernel) (Nat.le_of_ble_eq_true rfl) ?_
  intro pp_ ee_ ss_ mm_ be_ me_ co_ ls hx hb hr hlk hml hC hP hS hl
  have hl : lv_has ls 3 [(0, .ref (gA G 44)), (1, .int (nI i))] := hl
  refine lv_iconst (v := 3) hx hb d_MO_leave_0 (by decide) ?_
  refine lv_aload_n hx hb d_MO_leave_1 rfl (lv_at hl 0 rfl) ?_
  refine r_get hx hb hC hP i_MO (44) (by decide) rfl rfl 13 (by decide) l_MO_111 rfl d_MO_leave_2 ?_
  rw [show S 44 13 = nI (q + 1) from hq]
  refine lv_imul hx hb d_MO_leave_5 ?_
  refine lv_iconst (v := 3) hx hb d_MO_leave_6 (by decide) ?_
  refine lv_isub hx hb d_MO_leave_7 ?_
  refine lv_iload_n hx hb d_MO_leave_8 rfl (lv_at hl 1 rfl) ?_
  refine lv_iadd hx hb d_MO_leave_9 ?_
  rw [show ((3 * (nI (q + 1))) - 3) + (nI i) = nI (3 * q + i) from (nI_lv q i)]
  refine lv_istore_n (lv' := [(2, .int (nI (3 * q + i))), (0, .ref (gA G 44)), (1, .int (nI i))]) hx hb d_MO_leave_10 rfl hl (by decide) rfl (fun ls hl => ?_)
  refine lv_aload_n hx hb d_MO_leave_11 rfl (lv_at hl 1 rfl) ?_
  refine r_get hx hb hC hP i_MO (44) (by decide) rfl rfl 14 (by decide) l_MO_35 rfl d_MO_leave_12 ?_
  refine lv_iload_n hx hb d_MO_leave_15 rfl (lv_at hl 0 rfl) ?_
  refine r_ild hx hb hC hP (52) (by decide) rfl (3 * q + i) rfl (by omega) (by decide) d_MO_leave_16 ?_
  refine lv_if_ne (tgt := 27) hx hb d_MO_leave_17 (by decide) (fun c_17 => ?_) (fun c_17 => ?_)
  · refine lv_aload_n hx hb d_MO_leave_27 rfl (lv_at hl 1 rfl) ?_
    refine r_get hx hb hC hP i_MO (44) (by decide) rfl rfl 14 (by decide) l_MO_35 rfl d_MO_leave_28 ?_
    refine lv_iload_n hx hb d_MO_leave_31 rfl (lv_at hl 0 rfl) ?_
    refine lv_dup2_11 hx hb d_MO_leave_32 rfl rfl ?_
    refine r_ild hx hb hC hP (52) (by decide) rfl (3 * q + i) rfl (by omega) (by decide) d_MO_leave_33 ?_
    refine lv_iconst (v := 1) hx hb d_MO_leave_34 (by decide) ?_
    refine lv_isub hx hb d_MO_leave_35 ?_
    refine r_ist hx hb hC hP hS (52) (by decide) (fun _ => rfl) (3 * q + i) rfl (by omega) (by decide) d_MO_leave_36 (fun H locs hP hS => ?_)
    refine lv_aload_n hx hb d_MO_leave_37 rfl (lv_at hl 1 rfl) ?_
    refine r_get hx hb hC hP i_MO (44) (by decide) rfl rfl 15 (by decide) l_MO_38 rfl d_MO_leave_38 ?_
    refine lv_iload_n hx hb d_MO_leave_41 rfl (lv_at hl 2 rfl) ?_
    refine lv_dup2_11 hx hb d_MO_leave_42 rfl rfl ?_
    refine r_ild hx hb hC hP (53) (by decide) rfl i rfl (by omega) (by decide) d_MO_leave_43 ?_
    rw [show (su S 52 (3 * q + i) ((S 52 (3 * q + i)) - 1)) 53 i = S 53 i from by rw [su_cell _ _ _ (by decide)]]
    refine lv_iconst (v := 1) hx hb d_MO_leave_44 (by decide) ?_
    refine lv_isub hx hb d_MO_leave_45 ?_
    refine r_ist hx hb hC hP hS (53) (by decide) (fun _ => rfl) i rfl (by omega) (by decide) d_MO_leave_46 (fun H locs hP hS => ?_)
    exact e_v hx hb hr hlk hC hP hS d_MO_leave_47 (by first | exact (if_neg (by assumption)).symm | exact (if_pos (by assumption)).symm)
  · refine lv_aload_n hx hb d_MO_leave_20 rfl (lv_at hl 1 rfl) ?_
    refine lv_iconst (v := 4) hx hb d_MO_leave_21 (by decide) ?_
    refine lv_iconst (v := 0) hx hb d_MO_leave_22 (by decide) ?_
    refine r_v hC hS (r_runV (np := 2) (As := [.int 4, .int 0]) (rest := []) hx hb hml hC hP hS (by decide) rfl rfl (m_MO_raise l G S n (by omega) hn 4 0) l_MO_124 im_MO_raise se_MO_raise in_MO c_MO_raise_in (by decide +kernel) ⟨by simp only [rmF]; omega, by simp only [rmF]; omega⟩ rfl hl.1 (Nat.le_of_ble_eq_true rfl) d_MO_leave_23 ⟨Nat.le_refl _, Nat.le_refl _⟩) (fun S_23 H locs hw hP hS => ?_)
    rw [hw] at hP
    exact e_v hx hb hr hlk hC hP hS d_MO_leave_26 (by first | exact (if_neg (by assumption)).symm | exact (if_pos (by assumption)).symm)

set_option maxHeartbeats 4000000 in
set_option maxRecDepth 100000 in
theorem m_MO_caught_loop (l : Launch) (G : WG) (S : SS) (D b : Nat) (hD8 : D ≤ 80) (hD : S 44 8 = nI D) (hb9 : b < D) (hk : S 48 b = 16) (hno : ∀ j, b < j → j < D → ¬ S 48 j = 16) {pp_ : Program} {ee_ : Env} {ss_ : State} {mm_ : MethodId} {be_ : List Frame} {me_ : Method} {co_ : Code} (hx : pp_.tables.exec = Jvm.exec) (hb : co_.code = b_MO_caught) (hr : me_.sig.returnType = (some (.int))) (hlk : me_.locks = false) (hml : co_.maxLocals = 2) (hC : CC G "EndingsLabModel" ss_ mm_ ([.ref (gA G 44)] : List Value).toArray (AA G)) :
    ∀ (f : Nat) (j : Nat), b ≤ j → j < D → j < b + f →  ∀ (H : Heap) (locs : List Loc) (ls : Array Slot), va_P (gD G) clsL (wl (gA G) 57 (fS G S)) H → va_S (AA G) ss_.heap H locs → lv_has ls 2 [(0, .ref (gA G 44)), (1, .int (nI j))] → W pp_ l ee_ (rmF 0) ss_ mm_ ([.ref (gA G 44)] : List Value).toArray be_ me_ co_ H locs 0 0 (MQ be_ (va_Qi (fun r S1 => r = S 50 b ∧ S1 = S) (WD G) (AA G)) ([.ref (gA G 44)] : List Value).toArray ss_ 0 0 (AA G)) (F0 mm_ 7 ls []) := by
  intro f
  induction f with
  | zero =>
    intro j hbj hjD hf H locs ls hP hS hl
    exact absurd hf (by omega)
  | succ f ih =>
    intro j hbj hjD hf H locs ls hP hS hl
    refine lv_aload_n hx hb d_MO_caught_7 rfl (lv_at hl 0 rfl) ?_
    refine r_get hx hb hC hP i_MO (44) (by decide) rfl rfl 4 (by decide) l_MO_23 rfl d_MO_caught_8 ?_
    refine lv_iload_n hx hb d_MO_caught_11 rfl (lv_at hl 1 rfl) ?_
    refine r_ild hx hb hC hP (48) (by decide) rfl j rfl (by omega) (by decide) d_MO_caught_12 ?_
    refine lv_bipush (v := 16) hx hb d_MO_caught_13 (by decide) ?_
    refine lv_icmp_eq (tgt := 24) hx hb d_MO_caught_15 (by decide) (fun c_15 => ?_) (fun c_15 => ?_)
    · have hjb : j = b := Classical.byContradiction (fun h => hno j (by omega) hjD c_15)
      refine lv_aload_n hx hb d_MO_caught_24 rfl (lv_at hl 0 rfl) ?_
      refine r_get hx hb hC hP i_MO (44) (by decide) rfl rfl 6 (by decide) l_MO_29 rfl d_MO_caught_25 ?_
      refine lv_iload_n hx hb d_MO_caught_28 rfl (lv_at hl 1 rfl) ?_
      refine r_ild hx hb hC hP (50) (by decide) rfl j rfl (by omega) (by decide) d_MO_caught_29 ?_
      exact e_i hx hb hr hlk hC hP hS d_MO_caught_30 ⟨by rw [hjb], rfl⟩
    · have hjb : b < j := Nat.lt_of_le_of_ne hbj (fun h => c_15 (h ▸ hk))
      refine lv_iinc (v := nI (j - 1)) (lv' := [(1, .int (nI (j - 1))), (0, .ref (gA G 44))]) hx hb d_MO_caught_18 hl (k := 1) rfl (sb_m1 (by omega)) (by decide) rfl (fun ls hl => ?_)
      refine lv_goto (tgt := 7) hx hb d_MO_caught_21 (by decide) ?_
      exact ih (j - 1) (by omega) (by omega) (by omega) _ _ _ hP hS (lv_sub hl [1, 0] rfl)

set_option maxHeartbeats 4000000 in
set_option maxRecDepth 100000 in
theorem m_MO_caught (l : Launch) (G : WG) (S : SS) (D b : Nat) (hD8 : D ≤ 80) (hD : S 44 8 = nI D) (hb9 : b < D) (hk : S 48 b = 16) (hno : ∀ j, b < j → j < D → ¬ S 48 j = 16) : Ci l y_MO_caught b_MO_caught 2 (some (.int)) 0 G [.ref (gA G 44)] S (fun r S1 => r = S 50 b ∧ S1 = S) := by
  refine mk l (by decide +kernel) (Nat.le_of_ble_eq_true rfl) ?_
  intro pp_ ee_ ss_ mm_ be_ me_ co_ ls hx hb hr hlk hml hC hP hS hl
  have hl : lv_has ls 2 [(0, .ref (gA G 44))] := hl
  refine lv_aload_n hx hb d_MO_caught_0 rfl (lv_at hl 0 rfl) ?_
  refine r_get hx hb hC hP i_MO (44) (by decide) rfl rfl 8 (by decide) l_MO_58 rfl d_MO_caught_1 ?_
  rw [show S 44 8 = nI D from hD]
  refine lv_iconst (v := 1) hx hb d_MO_caught_4 (by decide) ?_
  refine lv_isub hx hb d_MO_caught_5 ?_
  rw [show (nI D) - 1 = nI (D - 1) from (by rw [show (1 : Int32) = nI 1 from rfl]; exact pk_sub (by omega))]
  refine lv_istore_n (lv' := [(1, .int (nI (D - 1))), (0, .ref (gA G 44))]) hx hb d_MO_caught_6 rfl hl (by decide) rfl (fun ls hl => ?_)
  exact m_MO_caught_loop l G S D b hD8 hD hb9 hk hno hx hb hr hlk hml hC (D + 1) (D - 1) (by omega) (by omega) (by omega) _ _ _ hP hS (lv_sub hl [1, 0] rfl)

def insB (r : Nat → Int32) (x : Int32) : Nat → Bool
  | 0 => false
  | n + 1 => insB r x n || decide (r n = x)
theorem insB_t {r : Nat → Int32} {x : Int32} {j D : Nat} (hj : j < D) (h : r j = x) : insB r x D = true := by
  induction D with
  | zero => exact absurd hj (by omega)
  | succ D ih =>
    rcases (show j = D ∨ j < D by omega) with e | e
    · subst e
      simp [insB, h]
    · simp [insB, ih e]
set_option maxHeartbeats 4000000 in
set_option maxRecDepth 100000 in
theorem m_MO_inside_loop (l : Launch) (G : WG) (S : SS) (D : Nat) (hD8 : D ≤ 80) (hD : S 44 8 = nI D) (x : Int32) {pp_ : Program} {ee_ : Env} {ss_ : State} {mm_ : MethodId} {be_ : List Frame} {me_ : Method} {co_ : Code} (hx : pp_.tables.exec = Jvm.exec) (hb : co_.code = b_MO_inside) (hr : me_.sig.returnType = (some (.boolean))) (hlk : me_.locks = false) (hml : co_.maxLocals = 3) (hC : CC G "EndingsLabModel" ss_ mm_ ([.ref (gA G 44), .int x] : List Value).toArray (AA G)) :
    ∀ (f : Nat) (j : Nat), j ≤ D → D < j + f → insB (S 48) x j = false →  ∀ (H : Heap) (locs : List Loc) (ls : Array Slot), va_P (gD G) clsL (wl (gA G) 57 (fS G S)) H → va_S (AA G) ss_.heap H locs → lv_has ls 3 [(0, .ref (gA G 44)), (1, .int x), (2, .int (nI j))] → W pp_ l ee_ (rmF 0) ss_ mm_ ([.ref (gA G 44), .int x] : List Value).toArray be_ me_ co_ H locs 0 0 (MQ be_ (va_Qi (fun r S1 => r = b2i (insB (S 48) x D) ∧ S1 = S) (WD G) (AA G)) ([.ref (gA G 44), .int x] : List Value).toArray ss_ 0 0 (AA G)) (F0 mm_ 2 ls []) := by
  intro f
  induction f with
  | zero =>
    intro j hjD hf hin H locs ls hP hS hl
    exact absurd hf (by omega)
  | succ f ih =>
    intro j hjD hf hin H locs ls hP hS hl
    refine lv_iload_n hx hb d_MO_inside_2 rfl (lv_at hl 2 rfl) ?_
    refine lv_aload_n hx hb d_MO_inside_3 rfl (lv_at hl 0 rfl) ?_
    refine r_get hx hb hC hP i_MO (44) (by decide) rfl rfl 8 (by decide) l_MO_58 rfl d_MO_inside_4 ?_
    rw [show S 44 8 = nI D from hD]
    refine lv_icmp_ge (tgt := 28) hx hb d_MO_inside_7 (by decide) (fun c_7 => ?_) (fun c_7 => ?_)
    · have c_7 : D ≤ j := (q_le (a := D) (b := j) rfl rfl (by omega) (by omega)).mp c_7
      refine lv_iconst (v := 0) hx hb d_MO_inside_28 (by decide) ?_
      exact e_z hx hb hr hlk hC hP hS d_MO_inside_29 (by decide) ⟨by rw [show D = j by omega, hin]; rfl, rfl⟩
    · have c_7 : ¬ D ≤ j := fun h => c_7 ((q_le (a := D) (b := j) rfl rfl (by omega) (by omega)).mpr h)
      refine lv_aload_n hx hb d_MO_inside_10 rfl (lv_at hl 0 rfl) ?_
      refine r_get hx hb hC hP i_MO (44) (by decide) rfl rfl 4 (by decide) l_MO_23 rfl d_MO_inside_11 ?_
      refine lv_iload_n hx hb d_MO_inside_14 rfl (lv_at hl 2 rfl) ?_
      refine r_ild hx hb hC hP (48) (by decide) rfl j rfl (by omega) (by decide) d_MO_inside_15 ?_
      refine lv_iload_n hx hb d_MO_inside_16 rfl (lv_at hl 1 rfl) ?_
      refine lv_icmp_ne (tgt := 22) hx hb d_MO_inside_17 (by decide) (fun c_17 => ?_) (fun c_17 => ?_)
      · refine lv_iinc (v := nI (j + 1)) (lv' := [(2, .int (nI (j + 1))), (0, .ref (gA G 44)), (1, .int x)]) hx hb d_MO_inside_22 hl (k := 2) rfl (nI_1 _) (by decide) rfl (fun ls hl => ?_)
        refine lv_goto (tgt := 2) hx hb d_MO_inside_25 (by decide) ?_
        exact ih (j + 1) (by omega) (by omega) (by show (insB (S 48) x j || _) = false; rw [hin, decide_eq_false c_17]; rfl) _ _ _ hP hS (lv_sub hl [1, 2, 0] rfl)
      · refine lv_iconst (v := 1) hx hb d_MO_inside_20 (by decide) ?_
        exact e_z hx hb hr hlk hC hP hS d_MO_inside_21 (by decide) ⟨by rw [insB_t (j := j) (by omega) c_17]; rfl, rfl⟩

set_option maxHeartbeats 4000000 in
set_option maxRecDepth 100000 in
theorem m_MO_inside (l : Launch) (G : WG) (S : SS) (D : Nat) (hD8 : D ≤ 80) (hD : S 44 8 = nI D) (x : Int32) : Ci l y_MO_inside b_MO_inside 3 (some (.boolean)) 0 G [.ref (gA G 44), .int x] S (fun r S1 => r = b2i (insB (S 48) x D) ∧ S1 = S) := by
  refine mk l (by decide +kernel) (Nat.le_of_ble_eq_true rfl) ?_
  intro pp_ ee_ ss_ mm_ be_ me_ co_ ls hx hb hr hlk hml hC hP hS hl
  have hl : lv_has ls 3 [(0, .ref (gA G 44)), (1, .int x)] := hl
  refine lv_iconst (v := 0) hx hb d_MO_inside_0 (by decide) ?_
  refine lv_istore_n (lv' := [(2, .int 0), (0, .ref (gA G 44)), (1, .int x)]) hx hb d_MO_inside_1 rfl hl (by decide) rfl (fun ls hl => ?_)
  exact m_MO_inside_loop l G S D hD8 hD x hx hb hr hlk hml hC (D + 1) 0 (Nat.zero_le _) (by omega) rfl _ _ _ hP hS (lv_sub hl [1, 2, 0] rfl)
end
section
/-! reference: note, behind, part, behindTry, token, wipe, event: written by wip/gen/p32.py -/
def shf (r : Nat → Int32) (k j : Nat) : Int32 := if k < j ∧ j ≤ 31 then r (j - 1) else r j
theorem shf_step (S : SS) {k : Nat} (h0 : 0 < k) (h : k ≤ 31) : su (va_up S 56 (shf (S 56) k)) 56 k (va_up S 56 (shf (S 56) k) 56 (k - 1)) = va_up S 56 (shf (S 56) (k - 1)) := by
  funext a b
  by_cases ha : a = 56
  · subst ha
    simp only [su, va_up_self, upd]
    by_cases hb : b = k
    · subst hb
      rw [if_pos rfl]
      simp only [shf]
      rw [if_neg (by omega), if_pos (by omega)]
    · rw [if_neg hb]
      simp only [shf]
      by_cases h1 : k < b ∧ b ≤ 31
      · rw [if_pos h1, if_pos (by omega)]
      · rw [if_neg h1, if_neg (by omega)]
  · simp only [su, va_up_ne _ _ ha]
theorem shf_0 (S : SS) : va_up S 56 (shf (S 56) 31) = S := by
  funext a b
  by_cases ha : a = 56
  · subst ha
    simp only [va_up_self, shf]
    rw [if_neg (by omega)]
  · simp only [va_up_ne _ _ ha]
def moNote (S : SS) (n : Nat) (a : Int32) : SS := su (su (va_up S 56 (shf (S 56) 0)) 56 0 a) 44 24 (nI (n + 1))
set_option maxHeartbeats 4000000 in
set_option maxRecDepth 100000 in
theorem m_MO_note_loop (l : Launch) (G : WG) (S : SS) (n : Nat) (hn : n < 2 ^ 30) (hs : S 44 24 = nI n) (a : Int32) {pp_ : Program} {ee_ : Env} {ss_ : State} {mm_ : MethodId} {be_ : List Frame} {me_ : Method} {co_ : Code} (hx : pp_.tables.exec = Jvm.exec) (hb : co_.code = b_MO_note) (hr : me_.sig.returnType = none) (hlk : me_.locks = false) (hml : co_.maxLocals = 3) (hC : CC G "EndingsLabModel" ss_ mm_ ([.ref (gA G 44), .int a] : List Value).toArray (AA G)) :
    ∀ (f : Nat) (k : Nat), k ≤ 31 → k < f →  ∀ (H : Heap) (locs : List Loc) (ls : Array Slot), va_P (gD G) clsL (wl (gA G) 57 (fS G (va_up S 56 (shf (S 56) k)))) H → va_S (AA G) ss_.heap H locs → lv_has ls 3 [(0, .ref (gA G 44)), (1, .int a), (2, .int (nI k))] → W pp_ l ee_ (rmF 0) ss_ mm_ ([.ref (gA G 44), .int a] : List Value).toArray be_ me_ co_ H locs 0 0 (MQ be_ (va_Qv (fun S1 => S1 = moNote S n a) (WD G) (AA G)) ([.ref (gA G 44), .int a] : List Value).toArray ss_ 0 0 (AA G)) (F0 mm_ 3 ls []) := by
  intro f
  induction f with
  | zero =>
    intro k hk hf H locs ls hP hS hl
    exact absurd hf (by omega)
  | succ f ih =>
    intro k hk hf H locs ls hP hS hl
    refine lv_iload_n hx hb d_MO_note_3 rfl (lv_at hl 2 rfl) ?_
    refine lv_if_le (tgt := 27) hx hb d_MO_note_4 (by decide) (fun c_4 => ?_) (fun c_4 => ?_)
    · have c_4 : k ≤ 0 := (q_le (a := k) (b := 0) rfl rfl (by omega) (by omega)).mp c_4
      refine lv_aload_n hx hb d_MO_note_27 rfl (lv_at hl 0 rfl) ?_
      refine r_get hx hb hC hP i_MO (44) (by decide) rfl rfl 23 (by decide) l_MO_47 rfl d_MO_note_28 ?_
      refine lv_iconst (v := 0) hx hb d_MO_note_31 (by decide) ?_
      refine lv_iload_n hx hb d_MO_note_32 rfl (lv_at hl 1 rfl) ?_
      refine r_ist hx hb hC hP hS (56) (by decide) (fun _ => rfl) 0 rfl (by decide) (by decide) d_MO_note_33 (fun H locs hP hS => ?_)
      refine lv_aload_n hx hb d_MO_note_34 rfl (lv_at hl 0 rfl) ?_
      refine lv_dup hx hb d_MO_note_35 rfl ?_
      refine r_get hx hb hC hP i_MO (44) (by decide) rfl rfl 24 (by decide) l_MO_143 rfl d_MO_note_36 ?_
      rw [show (su (va_up S 56 (shf (S 56) k)) 56 0 a) 44 24 = (va_up S 56 (shf (S 56) k)) 44 24 from by rw [su_cell _ _ _ (by decide)]]
      rw [show (va_up S 56 (shf (S 56) k)) 44 24 = nI n from (by rw [va_up_ne _ _ (by decide)]; exact hs)]
      refine lv_iconst (v := 1) hx hb d_MO_note_39 (by decide) ?_
      refine lv_iadd hx hb d_MO_note_40 ?_
      rw [show (nI n) + 1 = nI (n + 1) from nI_1 n]
      refine r_put hx hb hC hP hS i_MO t_MO t_MO_ok n_MO (44) (by decide) rfl rfl 24 (by decide) l_MO_143 rfl rfl rfl (Nat.le_of_ble_eq_true rfl) d_MO_note_41 (fun H locs hP hS => ?_)
      exact e_v hx hb hr hlk hC hP hS d_MO_note_44 (by rw [show k = 0 by omega]; rfl)
    · have c_4 : ¬ k ≤ 0 := fun h => c_4 ((q_le (a := k) (b := 0) rfl rfl (by omega) (by omega)).mpr h)
      refine lv_aload_n hx hb d_MO_note_7 rfl (lv_at hl 0 rfl) ?_
      refine r_get hx hb hC hP i_MO (44) (by decide) rfl rfl 23 (by decide) l_MO_47 rfl d_MO_note_8 ?_
      refine lv_iload_n hx hb d_MO_note_11 rfl (lv_at hl 2 rfl) ?_
      refine lv_aload_n hx hb d_MO_note_12 rfl (lv_at hl 0 rfl) ?_
      refine r_get hx hb hC hP i_MO (44) (by decide) rfl rfl 23 (by decide) l_MO_47 rfl d_MO_note_13 ?_
      refine lv_iload_n hx hb d_MO_note_16 rfl (lv_at hl 2 rfl) ?_
      refine lv_iconst (v := 1) hx hb d_MO_note_17 (by decide) ?_
      refine lv_isub hx hb d_MO_note_18 ?_
      rw [show (nI k) - 1 = nI (k - 1) from (by rw [show (1 : Int32) = nI 1 from rfl]; exact pk_sub (by omega))]
      refine r_ild hx hb hC hP (56) (by decide) rfl (k - 1) rfl (by omega) (by decide) d_MO_note_19 ?_
      refine r_ist hx hb hC hP hS (56) (by decide) (fun _ => rfl) k rfl (by omega) (by decide) d_MO_note_20 (fun H locs hP hS => ?_)
      refine lv_iinc (v := nI (k - 1)) (lv' := [(2, .int (nI (k - 1))), (0, .ref (gA G 44)), (1, .int a)]) hx hb d_MO_note_21 hl (k := 2) rfl (sb_m1 (by omega)) (by decide) rfl (fun ls hl => ?_)
      refine lv_goto (tgt := 3) hx hb d_MO_note_24 (by decide) ?_
      rw [shf_step S (by omega) hk] at hP
      exact ih (k - 1) (by omega) (by omega) _ _ _ hP hS (lv_sub hl [1, 2, 0] rfl)

set_option maxHeartbeats 4000000 in
set_option maxRecDepth 100000 in
theorem m_MO_note (l : Launch) (G : WG) (S : SS) (n : Nat) (hn : n < 2 ^ 30) (hs : S 44 24 = nI n) (a : Int32) : Cv l y_MO_note b_MO_note 3 0 G [.ref (gA G 44), .int a] S (fun S1 => S1 = moNote S n a) := by
  refine mk l (by decide +kernel) (Nat.le_of_ble_eq_true rfl) ?_
  intro pp_ ee_ ss_ mm_ be_ me_ co_ ls hx hb hr hlk hml hC hP hS hl
  have hl : lv_has ls 3 [(0, .ref (gA G 44)), (1, .int a)] := hl
  refine lv_bipush (v := 31) hx hb d_MO_note_0 (by decide) ?_
  refine lv_istore_n (lv' := [(2, .int 31), (0, .ref (gA G 44)), (1, .int a)]) hx hb d_MO_note_2 rfl hl (by decide) rfl (fun ls hl => ?_)
  rw [← shf_0 S] at hP
  exact m_MO_note_loop l G S n hn hs a hx hb hr hlk hml hC 32 31 (by omega) (by omega) _ _ _ hP hS (lv_sub hl [1, 2, 0] rfl)

def nextO (x : Int32) (o : Nat) : Nat := if opB x = true then o + 1 else if x = 18 then o - 1 else o
/-- scanning from i with o blocks open ends at e -/
def Sc (r : Nat → Int32) : Nat → Nat → Nat → Nat → Prop
  | 0, _, _, _ => False
  | f + 1, i, o, e => (o = 0 ∧ i = e ∧ i < 200) ∨ (0 < o ∧ i < 128 ∧ o < 200 ∧ Sc r f (i + 1) (nextO (r i) o) e)
set_option maxHeartbeats 4000000 in
set_option maxRecDepth 100000 in
theorem m_MO_behind_loop (l : Launch) (G : WG) (S : SS) (b e : Nat) (hb9 : b < 200) (hsc : ∃ f, Sc (S 45) f b 1 e) {pp_ : Program} {ee_ : Env} {ss_ : State} {mm_ : MethodId} {be_ : List Frame} {me_ : Method} {co_ : Code} (hx : pp_.tables.exec = Jvm.exec) (hb : co_.code = b_MO_behind) (hr : me_.sig.returnType = (some (.int))) (hlk : me_.locks = false) (hml : co_.maxLocals = 4) (hC : CC G "EndingsLabModel" ss_ mm_ ([.ref (gA G 44), .int (nI b)] : List Value).toArray (AA G)) :
    ∀ (f : Nat) (o i : Nat), Sc (S 45) f i o e →  ∀ (H : Heap) (locs : List Loc) (ls : Array Slot), va_P (gD G) clsL (wl (gA G) 57 (fS G S)) H → va_S (AA G) ss_.heap H locs → lv_has ls 4 [(0, .ref (gA G 44)), (1, .int (nI b)), (2, .int (nI o)), (3, .int (nI i))] → W pp_ l ee_ (rmF 1) ss_ mm_ ([.ref (gA G 44), .int (nI b)] : List Value).toArray be_ me_ co_ H locs 0 0 (MQ be_ (va_Qi (fun r S1 => r = nI e ∧ S1 = S) (WD G) (AA G)) ([.ref (gA G 44), .int (nI b)] : List Value).toArray ss_ 0 0 (AA G)) (F0 mm_ 4 ls []) := by
  intro f
  induction f with
  | zero =>
    intro o i hsc2 H locs ls hP hS hl
    exact hsc2.elim
  | succ f ih =>
    intro o i hsc2 H locs ls hP hS hl
    have ho2 : o < 200 := by rcases hsc2 with h | h <;> omega
    have hi2 : i < 200 := by rcases hsc2 with h | h <;> omega
    refine lv_iload_n hx hb d_MO_behind_4 rfl (lv_at hl 2 rfl) ?_
    refine lv_if_le (tgt := 43) hx hb d_MO_behind_5 (by decide) (fun c_5 => ?_) (fun c_5 => ?_)
    · have c_5 : o ≤ 0 := (q_le (a := o) (b := 0) rfl rfl (by omega) (by omega)).mp c_5
      refine lv_iload_n hx hb d_MO_behind_43 rfl (lv_at hl 3 rfl) ?_
      exact e_i hx hb hr hlk hC hP hS d_MO_behind_44 ⟨by rcases hsc2 with h | h; exact (by rw [h.2.1]); exact absurd h.1 (by omega), rfl⟩
    · have c_5 : ¬ o ≤ 0 := fun h => c_5 ((q_le (a := o) (b := 0) rfl rfl (by omega) (by omega)).mpr h)
      obtain ⟨h128, hnx⟩ : i < 128 ∧ Sc (S 45) f (i + 1) (nextO (S 45 i) o) e := by
        rcases hsc2 with h | h
        · exact absurd h.1 (by omega)
        · exact ⟨h.2.1, h.2.2.2⟩
      refine lv_aload_n hx hb d_MO_behind_8 rfl (lv_at hl 0 rfl) ?_
      refine r_get hx hb hC hP i_MO (44) (by decide) rfl rfl 0 (by decide) l_MO_7 rfl d_MO_behind_9 ?_
      refine lv_iload_n hx hb d_MO_behind_12 rfl (lv_at hl 3 rfl) ?_
      refine r_ild hx hb hC hP (45) (by decide) rfl i rfl (by omega) (by decide) d_MO_behind_13 ?_
      refine r_i hC hS (r_runS (np := 1) (As := [.int (S 45 i)]) (rest := []) hx hb hml hC hP hS (m_MO_opens l G S (S 45 i)) l_MO_69 st_MO_opens in_MO c_MO_opens_in (by decide +kernel) ⟨by simp only [rmF]; omega, by simp only [rmF]; omega⟩ rfl hl.1 (Nat.le_of_ble_eq_true rfl) d_MO_behind_14 ⟨Nat.le_refl _, Nat.le_refl _⟩) (fun r_14 S_14 H locs hw hP hS => ?_)
      obtain ⟨rfl, hSe⟩ := hw
      rw [hSe] at hP
      refine lv_if_eq (tgt := 23) hx hb d_MO_behind_17 (by decide) (fun c_17 => ?_) (fun c_17 => ?_)
      · have c_17 := b2i_f c_17
        refine lv_aload_n hx hb d_MO_behind_23 rfl (lv_at hl 0 rfl) ?_
        refine r_get hx hb hC hP i_MO (44) (by decide) rfl rfl 0 (by decide) l_MO_7 rfl d_MO_behind_24 ?_
        refine lv_iload_n hx hb d_MO_behind_27 rfl (lv_at hl 3 rfl) ?_
        refine r_ild hx hb hC hP (45) (by decide) rfl i rfl (by omega) (by decide) d_MO_behind_28 ?_
        refine lv_bipush (v := 18) hx hb d_MO_behind_29 (by decide) ?_
        refine lv_icmp_ne (tgt := 37) hx hb d_MO_behind_31 (by decide) (fun c_31 => ?_) (fun c_31 => ?_)
        · refine lv_iinc (v := nI (i + 1)) (lv' := [(3, .int (nI (i + 1))), (0, .ref (gA G 44)), (1, .int (nI b)), (2, .int (nI o))]) hx hb d_MO_behind_37 hl (k := 3) rfl (nI_1 _) (by decide) rfl (fun ls hl => ?_)
          refine lv_goto (tgt := 4) hx hb d_MO_behind_40 (by decide) ?_
          exact ih (o) (i + 1) (by have h := hnx; rw [nextO, if_neg (by rw [c_17]; decide), if_neg c_31] at h; exact h) _ _ _ hP hS (lv_sub hl [1, 2, 3, 0] rfl)
        · refine lv_iinc (v := nI (o - 1)) (lv' := [(2, .int (nI (o - 1))), (0, .ref (gA G 44)), (1, .int (nI b)), (3, .int (nI i))]) hx hb d_MO_behind_34 hl (k := 2) rfl (sb_m1 (by omega)) (by decide) rfl (fun ls hl => ?_)
          refine lv_iinc (v := nI (i + 1)) (lv' := [(3, .int (nI (i + 1))), (2, .int (nI (o - 1))), (0, .ref (gA G 44)), (1, .int (nI b))]) hx hb d_MO_behind_37 hl (k := 3) rfl (nI_1 _) (by decide) rfl (fun ls hl => ?_)
          refine lv_goto (tgt := 4) hx hb d_MO_behind_40 (by decide) ?_
          exact ih (o - 1) (i + 1) (by have h := hnx; rw [nextO, if_neg (by rw [c_17]; decide), if_pos c_31] at h; exact h) _ _ _ hP hS (lv_sub hl [2, 3, 1, 0] rfl)
      · have c_17 := b2i_t c_17
        refine lv_iinc (v := nI (o + 1)) (lv' := [(2, .int (nI (o + 1))), (0, .ref (gA G 44)), (1, .int (nI b)), (3, .int (nI i))]) hx hb d_MO_behind_20 hl (k := 2) rfl (nI_1 _) (by decide) rfl (fun ls hl => ?_)
        refine lv_aload_n hx hb d_MO_behind_23 rfl (lv_at hl 1 rfl) ?_
        refine r_get hx hb hC hP i_MO (44) (by decide) rfl rfl 0 (by decide) l_MO_7 rfl d_MO_behind_24 ?_
        refine lv_iload_n hx hb d_MO_behind_27 rfl (lv_at hl 3 rfl) ?_
        refine r_ild hx hb hC hP (45) (by decide) rfl i rfl (by omega) (by decide) d_MO_behind_28 ?_
        refine lv_bipush (v := 18) hx hb d_MO_behind_29 (by decide) ?_
        refine lv_icmp_ne (tgt := 37) hx hb d_MO_behind_31 (by decide) (fun c_31 => ?_) (fun c_31 => ?_)
        · refine lv_iinc (v := nI (i + 1)) (lv' := [(3, .int (nI (i + 1))), (2, .int (nI (o + 1))), (0, .ref (gA G 44)), (1, .int (nI b))]) hx hb d_MO_behind_37 hl (k := 3) rfl (nI_1 _) (by decide) rfl (fun ls hl => ?_)
          refine lv_goto (tgt := 4) hx hb d_MO_behind_40 (by decide) ?_
          exact ih (o + 1) (i + 1) (by have h := hnx; rw [nextO, if_pos c_17] at h; exact h) _ _ _ hP hS (lv_sub hl [2, 3, 1, 0] rfl)
        · refine lv_iinc (v := nI ((o + 1) - 1)) (lv' := [(2, .int (nI ((o + 1) - 1))), (0, .ref (gA G 44)), (1, .int (nI b)), (3, .int (nI i))]) hx hb d_MO_behind_34 hl (k := 0) rfl (sb_m1 (by omega)) (by decide) rfl (fun ls hl => ?_)
          refine lv_iinc (v := nI (i + 1)) (lv' := [(3, .int (nI (i + 1))), (2, .int (nI ((o + 1) - 1))), (0, .ref (gA G 44)), (1, .int (nI b))]) hx hb d_MO_behind_37 hl (k := 3) rfl (nI_1 _) (by decide) rfl (fun ls hl => ?_)
          refine lv_goto (tgt := 4) hx hb d_MO_behind_40 (by decide) ?_
          exact ih ((o + 1) - 1) (i + 1) (by exfalso; rw [c_31] at c_17; exact absurd c_17 (by decide)) _ _ _ hP hS (lv_sub hl [2, 3, 1, 0] rfl)

set_option maxHeartbeats 4000000 in
set_option maxRecDepth 100000 in
theorem m_MO_behind (l : Launch) (G : WG) (S : SS) (b e : Nat) (hb9 : b < 200) (hsc : ∃ f, Sc (S 45) f b 1 e) : Ci l y_MO_behind b_MO_behind 4 (some (.int)) 1 G [.ref (gA G 44), .int (nI b)] S (fun r S1 => r = nI e ∧ S1 = S) := by
  refine mk l (by decide +kernel) (Nat.le_of_ble_eq_true rfl) ?_
  intro pp_ ee_ ss_ mm_ be_ me_ co_ ls hx hb hr hlk hml hC hP hS hl
  have hl : lv_has ls 4 [(0, .ref (gA G 44)), (1, .int (nI b))] := hl
  refine lv_iconst (v := 1) hx hb d_MO_behind_0 (by decide) ?_
  refine lv_istore_n (lv' := [(2, .int 1), (0, .ref (gA G 44)), (1, .int (nI b))]) hx hb d_MO_behind_1 rfl hl (by decide) rfl (fun ls hl => ?_)
  refine lv_iload_n hx hb d_MO_behind_2 rfl (lv_at hl 2 rfl) ?_
  refine lv_istore_n (lv' := [(3, .int (nI b)), (2, .int 1), (0, .ref (gA G 44)), (1, .int (nI b))]) hx hb d_MO_behind_3 rfl hl (by decide) rfl (fun ls hl => ?_)
  obtain ⟨f0, hf0⟩ := hsc
  exact m_MO_behind_loop l G S b e hb9 ⟨f0, hf0⟩ hx hb hr hlk hml hC f0 1 b hf0 _ _ _ hP hS (lv_sub hl [2, 3, 1, 0] rfl)

set_option maxHeartbeats 4000000 in
set_option maxRecDepth 100000 in
theorem m_MO_part_loop (l : Launch) (G : WG) (S : SS) (t kk : Nat) (P : Nat → Nat) (ht : t < 128) (hkk : kk < 100) (h0 : ∃ f, Sc (S 45) f (t + 1) 1 (P 0)) (hs : ∀ j, j < kk → ∃ f, Sc (S 45) f (P j + 1) 1 (P (j + 1))) (hP9 : ∀ j, j ≤ kk → P j < 150) {pp_ : Program} {ee_ : Env} {ss_ : State} {mm_ : MethodId} {be_ : List Frame} {me_ : Method} {co_ : Code} (hx : pp_.tables.exec = Jvm.exec) (hb : co_.code = b_MO_part) (hr : me_.sig.returnType = (some (.int))) (hlk : me_.locks = false) (hml : co_.maxLocals = 5) (hC : CC G "EndingsLabModel" ss_ mm_ ([.ref (gA G 44), .int (nI t), .int (nI kk)] : List Value).toArray (AA G)) :
    ∀ (f : Nat) (j : Nat), j ≤ kk → kk < j + f →  ∀ (H : Heap) (locs : List Loc) (ls : Array Slot), va_P (gD G) clsL (wl (gA G) 57 (fS G S)) H → va_S (AA G) ss_.heap H locs → lv_has ls 5 [(0, .ref (gA G 44)), (1, .int (nI t)), (2, .int (nI kk)), (3, .int (nI (P j))), (4, .int (nI j))] → W pp_ l ee_ (rmF 2) ss_ mm_ ([.ref (gA G 44), .int (nI t), .int (nI kk)] : List Value).toArray be_ me_ co_ H locs 0 0 (MQ be_ (va_Qi (fun r S1 => r = nI (P kk) ∧ S1 = S) (WD G) (AA G)) ([.ref (gA G 44), .int (nI t), .int (nI kk)] : List Value).toArray ss_ 0 0 (AA G)) (F0 mm_ 11 ls []) := by
  intro f
  induction f with
  | zero =>
    intro j hj hf H locs ls hP hS hl
    exact absurd hf (by omega)
  | succ f ih =>
    intro j hj hf H locs ls hP hS hl
    have hPj := hP9 j hj
    refine lv_iload hx hb d_MO_part_11 (lv_at hl 4 rfl) ?_
    refine lv_iload_n hx hb d_MO_part_13 rfl (lv_at hl 2 rfl) ?_
    refine lv_icmp_ge (tgt := 31) hx hb d_MO_part_14 (by decide) (fun c_14 => ?_) (fun c_14 => ?_)
    · have c_14 : kk ≤ j := (q_le (a := kk) (b := j) rfl rfl (by omega) (by omega)).mp c_14
      refine lv_iload_n hx hb d_MO_part_31 rfl (lv_at hl 3 rfl) ?_
      exact e_i hx hb hr hlk hC hP hS d_MO_part_32 ⟨by rw [show j = kk by omega], rfl⟩
    · have c_14 : ¬ kk ≤ j := fun h => c_14 ((q_le (a := kk) (b := j) rfl rfl (by omega) (by omega)).mpr h)
      refine lv_aload_n hx hb d_MO_part_17 rfl (lv_at hl 0 rfl) ?_
      refine lv_iload_n hx hb d_MO_part_18 rfl (lv_at hl 3 rfl) ?_
      refine lv_iconst (v := 1) hx hb d_MO_part_19 (by decide) ?_
      refine lv_iadd hx hb d_MO_part_20 ?_
      rw [show (nI (P j)) + 1 = nI (P j + 1) from nI_1 _]
      refine r_i hC hS (r_runV (np := 1) (As := [.int (nI (P j + 1))]) (rest := []) hx hb hml hC hP hS (by decide) rfl rfl (m_MO_behind l G S (P j + 1) (P (j + 1)) (by omega) (hs j (by omega))) l_MO_79 im_MO_behind se_MO_behind in_MO c_MO_behind_in (by decide +kernel) ⟨by simp only [rmF]; omega, by simp only [rmF]; omega⟩ rfl hl.1 (Nat.le_of_ble_eq_true rfl) d_MO_part_21 ⟨Nat.le_refl _, Nat.le_refl _⟩) (fun r_21 S_21 H locs hw hP hS => ?_)
      obtain ⟨rfl, hSe⟩ := hw
      rw [hSe] at hP
      refine lv_istore_n (lv' := [(3, .int (nI (P (j + 1)))), (0, .ref (gA G 44)), (1, .int (nI t)), (2, .int (nI kk)), (4, .int (nI j))]) hx hb d_MO_part_24 rfl hl (by decide) rfl (fun ls hl => ?_)
      refine lv_iinc (v := nI (j + 1)) (lv' := [(4, .int (nI (j + 1))), (3, .int (nI (P (j + 1)))), (0, .ref (gA G 44)), (1, .int (nI t)), (2, .int (nI kk))]) hx hb d_MO_part_25 hl (k := 4) rfl (nI_1 _) (by decide) rfl (fun ls hl => ?_)
      refine lv_goto (tgt := 11) hx hb d_MO_part_28 (by decide) ?_
      exact ih (j + 1) (by omega) (by omega) _ _ _ hP hS (lv_sub hl [2, 3, 4, 1, 0] rfl)

set_option maxHeartbeats 4000000 in
set_option maxRecDepth 100000 in
theorem m_MO_part (l : Launch) (G : WG) (S : SS) (t kk : Nat) (P : Nat → Nat) (ht : t < 128) (hkk : kk < 100) (h0 : ∃ f, Sc (S 45) f (t + 1) 1 (P 0)) (hs : ∀ j, j < kk → ∃ f, Sc (S 45) f (P j + 1) 1 (P (j + 1))) (hP9 : ∀ j, j ≤ kk → P j < 150) : Ci l y_MO_part b_MO_part 5 (some (.int)) 2 G [.ref (gA G 44), .int (nI t), .int (nI kk)] S (fun r S1 => r = nI (P kk) ∧ S1 = S) := by
  refine mk l (by decide +kernel) (Nat.le_of_ble_eq_true rfl) ?_
  intro pp_ ee_ ss_ mm_ be_ me_ co_ ls hx hb hr hlk hml hC hP hS hl
  have hl : lv_has ls 5 [(0, .ref (gA G 44)), (1, .int (nI t)), (2, .int (nI kk))] := hl
  refine lv_aload_n hx hb d_MO_part_0 rfl (lv_at hl 0 rfl) ?_
  refine lv_iload_n hx hb d_MO_part_1 rfl (lv_at hl 1 rfl) ?_
  refine lv_iconst (v := 1) hx hb d_MO_part_2 (by decide) ?_
  refine lv_iadd hx hb d_MO_part_3 ?_
  rw [show (nI t) + 1 = nI (t + 1) from nI_1 _]
  refine r_i hC hS (r_runV (np := 1) (As := [.int (nI (t + 1))]) (rest := []) hx hb hml hC hP hS (by decide) rfl rfl (m_MO_behind l G S (t + 1) (P 0) (by omega) h0) l_MO_79 im_MO_behind se_MO_behind in_MO c_MO_behind_in (by decide +kernel) ⟨by simp only [rmF]; omega, by simp only [rmF]; omega⟩ rfl hl.1 (Nat.le_of_ble_eq_true rfl) d_MO_part_4 ⟨Nat.le_refl _, Nat.le_refl _⟩) (fun r_4 S_4 H locs hw hP hS => ?_)
  obtain ⟨rfl, hSe⟩ := hw
  rw [hSe] at hP
  refine lv_istore_n (lv' := [(3, .int (nI (P 0))), (0, .ref (gA G 44)), (1, .int (nI t)), (2, .int (nI kk))]) hx hb d_MO_part_7 rfl hl (by decide) rfl (fun ls hl => ?_)
  refine lv_iconst (v := 0) hx hb d_MO_part_8 (by decide) ?_
  refine lv_istore (lv' := [(4, .int 0), (3, .int (nI (P 0))), (0, .ref (gA G 44)), (1, .int (nI t)), (2, .int (nI kk))]) hx hb d_MO_part_9 hl (by decide) rfl (fun ls hl => ?_)
  exact m_MO_part_loop l G S t kk P ht hkk h0 hs hP9 hx hb hr hlk hml hC (kk + 1) 0 (Nat.zero_le _) (by omega) _ _ _ hP hS (lv_sub hl [2, 3, 4, 1, 0] rfl)

/-- the parts of a TRY at t: nc catches, then perhaps a last block; P j is the place behind block j -/
def TryAt (S : SS) (t nc : Nat) (la : Bool) (P : Nat → Nat) : Prop := t < 128 ∧ nc < 4 ∧ S 46 t &&& 3 = nI nc ∧ (4 ≤ S 46 t ↔ la = true) ∧ (∃ f, Sc (S 45) f (t + 1) 1 (P 0)) ∧ (∀ j, j < nc + (if la = true then 1 else 0) → ∃ f, Sc (S 45) f (P j + 1) 1 (P (j + 1))) ∧ (∀ j, j ≤ nc + 1 → P j < 150)
def tryEnd (nc : Nat) (la : Bool) (P : Nat → Nat) : Nat := P (nc + (if la = true then 1 else 0))
set_option maxHeartbeats 4000000 in
set_option maxRecDepth 100000 in
theorem m_MO_behindTry (l : Launch) (G : WG) (S : SS) (t nc : Nat) (la : Bool) (P : Nat → Nat) (hT : TryAt S t nc la P) : Ci l y_MO_behindTry b_MO_behindTry 3 (some (.int)) 3 G [.ref (gA G 44), .int (nI t)] S (fun r S1 => r = nI (tryEnd nc la P) ∧ S1 = S) := by
  obtain ⟨ht, hnc4, hnc, hla4, h0, hs, hP9⟩ := hT
  have hPnc := hP9 nc (by omega)
  refine mk l (by decide +kernel) (Nat.le_of_ble_eq_true rfl) ?_
  intro pp_ ee_ ss_ mm_ be_ me_ co_ ls hx hb hr hlk hml hC hP hS hl
  have hl : lv_has ls 3 [(0, .ref (gA G 44)), (1, .int (nI t))] := hl
  refine lv_aload_n hx hb d_MO_behindTry_0 rfl (lv_at hl 0 rfl) ?_
  refine lv_iload_n hx hb d_MO_behindTry_1 rfl (lv_at hl 1 rfl) ?_
  refine lv_aload_n hx hb d_MO_behindTry_2 rfl (lv_at hl 0 rfl) ?_
  refine r_get hx hb hC hP i_MO (44) (by decide) rfl rfl 1 (by decide) l_MO_13 rfl d_MO_behindTry_3 ?_
  refine lv_iload_n hx hb d_MO_behindTry_6 rfl (lv_at hl 1 rfl) ?_
  refine r_ild hx hb hC hP (46) (by decide) rfl t rfl (by omega) (by decide) d_MO_behindTry_7 ?_
  refine lv_iconst (v := 3) hx hb d_MO_behindTry_8 (by decide) ?_
  refine lv_iand hx hb d_MO_behindTry_9 ?_
  rw [show (S 46 t) &&& 3 = nI nc from hnc]
  refine r_i hC hS (r_runV (np := 2) (As := [.int (nI t), .int (nI nc)]) (rest := []) hx hb hml hC hP hS (by decide) rfl rfl (m_MO_part l G S t nc P (by omega) (by omega) h0 (fun j hj => hs j (by omega)) (fun j hj => hP9 j (by omega))) l_MO_82 im_MO_part se_MO_part in_MO c_MO_part_in (by decide +kernel) ⟨by simp only [rmF]; omega, by simp only [rmF]; omega⟩ rfl hl.1 (Nat.le_of_ble_eq_true rfl) d_MO_behindTry_10 ⟨Nat.le_refl _, Nat.le_refl _⟩) (fun r_10 S_10 H locs hw hP hS => ?_)
  obtain ⟨rfl, hSe⟩ := hw
  rw [hSe] at hP
  refine lv_istore_n (lv' := [(2, .int (nI (P nc))), (0, .ref (gA G 44)), (1, .int (nI t))]) hx hb d_MO_behindTry_13 rfl hl (by decide) rfl (fun ls hl => ?_)
  refine lv_aload_n hx hb d_MO_behindTry_14 rfl (lv_at hl 1 rfl) ?_
  refine r_get hx hb hC hP i_MO (44) (by decide) rfl rfl 1 (by decide) l_MO_13 rfl d_MO_behindTry_15 ?_
  refine lv_iload_n hx hb d_MO_behindTry_18 rfl (lv_at hl 2 rfl) ?_
  refine r_ild hx hb hC hP (46) (by decide) rfl t rfl (by omega) (by decide) d_MO_behindTry_19 ?_
  refine lv_iconst (v := 4) hx hb d_MO_behindTry_20 (by decide) ?_
  refine lv_icmp_lt (tgt := 34) hx hb d_MO_behindTry_21 (by decide) (fun c_21 => ?_) (fun c_21 => ?_)
  · have hla : la = false := Bool.eq_false_iff.mpr (fun h => absurd (hla4.mpr h) (Int32.not_le.mpr c_21))
    refine lv_iload_n hx hb d_MO_behindTry_34 rfl (lv_at hl 0 rfl) ?_
    exact e_i hx hb hr hlk hC hP hS d_MO_behindTry_35 ⟨by rw [tryEnd, hla]; rfl, rfl⟩
  · have hla : la = true := hla4.mp (Int32.not_lt.mp c_21)
    refine lv_aload_n hx hb d_MO_behindTry_24 rfl (lv_at hl 1 rfl) ?_
    refine lv_iload_n hx hb d_MO_behindTry_25 rfl (lv_at hl 0 rfl) ?_
    refine lv_iconst (v := 1) hx hb d_MO_behindTry_26 (by decide) ?_
    refine lv_iadd hx hb d_MO_behindTry_27 ?_
    rw [show (nI (P nc)) + 1 = nI (P nc + 1) from nI_1 _]
    refine r_i hC hS (r_runV (np := 1) (As := [.int (nI (P nc + 1))]) (rest := []) hx hb hml hC hP hS (by decide) rfl rfl (m_MO_behind l G S (P nc + 1) (P (nc + 1)) (by omega) (hs nc (by rw [if_pos hla]; omega))) l_MO_79 im_MO_behind se_MO_behind in_MO c_MO_behind_in (by decide +kernel) ⟨by simp only [rmF]; omega, by simp only [rmF]; omega⟩ rfl hl.1 (Nat.le_of_ble_eq_true rfl) d_MO_behindTry_28 ⟨Nat.le_refl _, Nat.le_refl _⟩) (fun r_28 S_28 H locs hw hP hS => ?_)
    obtain ⟨rfl, hSe⟩ := hw
    rw [hSe] at hP
    refine lv_goto (tgt := 35) hx hb d_MO_behindTry_31 (by decide) ?_
    exact e_i hx hb hr hlk hC hP hS d_MO_behindTry_35 ⟨by rw [tryEnd, hla]; rfl, rfl⟩
end
section
/-! reference: token, wipe, event, fault: written by wip/gen/p33.py -/
theorem inB_nI {v : Int32} {b : Nat} (hb : b < 2 ^ 31) (h : inB v 0 (nI b) = true) : ∃ j : Nat, j ≤ b ∧ v = nI j := by
  have h0 := (Bool.and_eq_true _ _).mp h
  have h1 : 0 ≤ v := of_decide_eq_true h0.1
  have h2 : v ≤ nI b := of_decide_eq_true h0.2
  obtain ⟨j, hj, rfl⟩ := nI_of (Int32.not_lt.mpr h1)
  exact ⟨j, (nI_leI hj hb).mp h2, rfl⟩
theorem nI_32 (p j : Nat) : (32 : Int32) * nI p + nI j = nI (32 * p + j) := by
  rw [show (32 : Int32) = nI 32 from rfl, pk_mul, nI_add]
def moTok (S : SS) (p n : Nat) (o a : Int32) : SS := su (su (su S 45 (32 * p + n) o) 46 (32 * p + n) a) 47 p (nI (n + 1))
def moTokPost (S : SS) (nn : Nat → Nat) (p_ o a r : Int32) (S1 : SS) : Prop := ((inB p_ 0 3 = false ∨ fitM o a = false) ∧ r = -1 ∧ S1 = S) ∨ ∃ p, p < 4 ∧ p_ = nI p ∧ fitM o a = true ∧ ((nn p = 32 ∧ r = -2 ∧ S1 = S) ∨ (¬ nn p = 32 ∧ r = nI (nn p + 1) ∧ S1 = moTok S p (nn p) o a))
set_option maxHeartbeats 4000000 in
set_option maxRecDepth 100000 in
theorem m_MO_token (l : Launch) (G : WG) (S : SS) (nn : Nat → Nat) (hnn : ∀ p, p < 4 → nn p ≤ 32 ∧ S 47 p = nI (nn p)) (p_ o a : Int32) : Ci l y_MO_token b_MO_token 4 (some (.int)) 2 G [.ref (gA G 44), .int p_, .int o, .int a] S (moTokPost S nn p_ o a) := by
  refine mk l (by decide +kernel) (Nat.le_of_ble_eq_true rfl) ?_
  intro pp_ ee_ ss_ mm_ be_ me_ co_ ls hx hb hr hlk hml hC hP hS hl
  have hl : lv_has ls 4 [(0, .ref (gA G 44)), (1, .int p_), (2, .int o), (3, .int a)] := hl
  refine lv_iload_n hx hb d_MO_token_0 rfl (lv_at hl 1 rfl) ?_
  refine lv_iconst (v := 0) hx hb d_MO_token_1 (by decide) ?_
  refine lv_iconst (v := 3) hx hb d_MO_token_2 (by decide) ?_
  refine r_i hC hS (r_runS (np := 3) (As := [.int p_, .int 0, .int 3]) (rest := []) hx hb hml hC hP hS (m_MO_in l G S p_ 0 3) l_MO_50 st_MO_in in_MO c_MO_in_in (by decide +kernel) ⟨by simp only [rmF]; omega, by simp only [rmF]; omega⟩ rfl hl.1 (Nat.le_of_ble_eq_true rfl) d_MO_token_3 ⟨Nat.le_refl _, Nat.le_refl _⟩) (fun r_3 S_3 H locs hw hP hS => ?_)
  obtain ⟨rfl, hSe⟩ := hw
  rw [hSe] at hP
  refine lv_if_eq (tgt := 17) hx hb d_MO_token_6 (by decide) (fun c_6 => ?_) (fun c_6 => ?_)
  · have c_6 := b2i_f c_6
    refine lv_iconst (v := (-1)) hx hb d_MO_token_17 (by decide) ?_
    exact e_i hx hb hr hlk hC hP hS d_MO_token_18 (Or.inl ⟨by first | exact Or.inl (by assumption) | exact Or.inr (by assumption), rfl, rfl⟩)
  · have c_6 := b2i_t c_6
    obtain ⟨p, hp3, rfl⟩ := inB_nI (b := 3) (by omega) c_6
    have hnp := hnn p (by omega)
    refine lv_iload_n hx hb d_MO_token_9 rfl (lv_at hl 2 rfl) ?_
    refine lv_iload_n hx hb d_MO_token_10 rfl (lv_at hl 3 rfl) ?_
    refine r_i hC hS (r_runS (np := 2) (As := [.int o, .int a]) (rest := []) hx hb hml hC hP hS (m_MO_fits l G S o a) l_MO_54 st_MO_fits in_MO c_MO_fits_in (by decide +kernel) ⟨by simp only [rmF]; omega, by simp only [rmF]; omega⟩ rfl hl.1 (Nat.le_of_ble_eq_true rfl) d_MO_token_11 ⟨Nat.le_refl _, Nat.le_refl _⟩) (fun r_11 S_11 H locs hw hP hS => ?_)
    obtain ⟨rfl, hSe⟩ := hw
    rw [hSe] at hP
    refine lv_if_ne (tgt := 19) hx hb d_MO_token_14 (by decide) (fun c_14 => ?_) (fun c_14 => ?_)
    · have c_14 := b2i_t c_14
      refine lv_aload_n hx hb d_MO_token_19 rfl (lv_at hl 0 rfl) ?_
      refine r_get hx hb hC hP i_MO (44) (by decide) rfl rfl 2 (by decide) l_MO_16 rfl d_MO_token_20 ?_
      refine lv_iload_n hx hb d_MO_token_23 rfl (lv_at hl 1 rfl) ?_
      refine r_ild hx hb hC hP (47) (by decide) rfl p rfl (by omega) (by decide) d_MO_token_24 ?_
      rw [show S 47 p = nI (nn p) from hnp.2]
      refine lv_bipush (v := 32) hx hb d_MO_token_25 (by decide) ?_
      refine lv_icmp_ne (tgt := 33) hx hb d_MO_token_27 (by decide) (fun c_27 => ?_) (fun c_27 => ?_)
      · have c_27 : ¬ nn p = 32 := fun h => c_27 ((q_eq (a := nn p) (b := 32) rfl rfl (by omega) (by omega)).mpr h)
        refine lv_aload_n hx hb d_MO_token_33 rfl (lv_at hl 0 rfl) ?_
        refine r_get hx hb hC hP i_MO (44) (by decide) rfl rfl 0 (by decide) l_MO_7 rfl d_MO_token_34 ?_
        refine lv_bipush (v := 32) hx hb d_MO_token_37 (by decide) ?_
        refine lv_iload_n hx hb d_MO_token_39 rfl (lv_at hl 1 rfl) ?_
        refine lv_imul hx hb d_MO_token_40 ?_
        refine lv_aload_n hx hb d_MO_token_41 rfl (lv_at hl 0 rfl) ?_
        refine r_get hx hb hC hP i_MO (44) (by decide) rfl rfl 2 (by decide) l_MO_16 rfl d_MO_token_42 ?_
        refine lv_iload_n hx hb d_MO_token_45 rfl (lv_at hl 1 rfl) ?_
        refine r_ild hx hb hC hP (47) (by decide) rfl p rfl (by omega) (by decide) d_MO_token_46 ?_
        rw [show S 47 p = nI (nn p) from hnp.2]
        refine lv_iadd hx hb d_MO_token_47 ?_
        rw [show (32 * (nI p)) + (nI (nn p)) = nI (32 * p + nn p) from (nI_32 p (nn p))]
        refine lv_iload_n hx hb d_MO_token_48 rfl (lv_at hl 2 rfl) ?_
        refine r_ist hx hb hC hP hS (45) (by decide) (fun _ => rfl) (32 * p + nn p) rfl (by omega) (by decide) d_MO_token_49 (fun H locs hP hS => ?_)
        refine lv_aload_n hx hb d_MO_token_50 rfl (lv_at hl 0 rfl) ?_
        refine r_get hx hb hC hP i_MO (44) (by decide) rfl rfl 1 (by decide) l_MO_13 rfl d_MO_token_51 ?_
        refine lv_bipush (v := 32) hx hb d_MO_token_54 (by decide) ?_
        refine lv_iload_n hx hb d_MO_token_56 rfl (lv_at hl 1 rfl) ?_
        refine lv_imul hx hb d_MO_token_57 ?_
        refine lv_aload_n hx hb d_MO_token_58 rfl (lv_at hl 0 rfl) ?_
        refine r_get hx hb hC hP i_MO (44) (by decide) rfl rfl 2 (by decide) l_MO_16 rfl d_MO_token_59 ?_
        refine lv_iload_n hx hb d_MO_token_62 rfl (lv_at hl 1 rfl) ?_
        refine r_ild hx hb hC hP (47) (by decide) rfl p rfl (by omega) (by decide) d_MO_token_63 ?_
        rw [show (su S 45 (32 * p + nn p) o) 47 p = S 47 p from by rw [su_cell _ _ _ (by decide)]]
        rw [show S 47 p = nI (nn p) from hnp.2]
        refine lv_iadd hx hb d_MO_token_64 ?_
        rw [show (32 * (nI p)) + (nI (nn p)) = nI (32 * p + nn p) from (nI_32 p (nn p))]
        refine lv_iload_n hx hb d_MO_token_65 rfl (lv_at hl 3 rfl) ?_
        refine r_ist hx hb hC hP hS (46) (by decide) (fun _ => rfl) (32 * p + nn p) rfl (by omega) (by decide) d_MO_token_66 (fun H locs hP hS => ?_)
        refine lv_aload_n hx hb d_MO_token_67 rfl (lv_at hl 0 rfl) ?_
        refine r_get hx hb hC hP i_MO (44) (by decide) rfl rfl 2 (by decide) l_MO_16 rfl d_MO_token_68 ?_
        refine lv_iload_n hx hb d_MO_token_71 rfl (lv_at hl 1 rfl) ?_
        refine lv_dup2_11 hx hb d_MO_token_72 rfl rfl ?_
        refine r_ild hx hb hC hP (47) (by decide) rfl p rfl (by omega) (by decide) d_MO_token_73 ?_
        rw [show (su (su S 45 (32 * p + nn p) o) 46 (32 * p + nn p) a) 47 p = S 47 p from by rw [su_cell _ _ _ (by decide), su_cell _ _ _ (by decide)]]
        rw [show S 47 p = nI (nn p) from hnp.2]
        refine lv_iconst (v := 1) hx hb d_MO_token_74 (by decide) ?_
        refine lv_iadd hx hb d_MO_token_75 ?_
        rw [show (nI (nn p)) + 1 = nI (nn p + 1) from nI_1 _]
        refine r_ist hx hb hC hP hS (47) (by decide) (fun _ => rfl) p rfl (by omega) (by decide) d_MO_token_76 (fun H locs hP hS => ?_)
        refine lv_aload_n hx hb d_MO_token_77 rfl (lv_at hl 0 rfl) ?_
        refine r_get hx hb hC hP i_MO (44) (by decide) rfl rfl 2 (by decide) l_MO_16 rfl d_MO_token_78 ?_
        refine lv_iload_n hx hb d_MO_token_81 rfl (lv_at hl 1 rfl) ?_
        refine r_ild hx hb hC hP (47) (by decide) rfl p rfl (by omega) (by decide) d_MO_token_82 ?_
        rw [show (su (su (su S 45 (32 * p + nn p) o) 46 (32 * p + nn p) a) 47 p (nI (nn p + 1))) 47 p = nI (nn p + 1) from by rw [su_same]]
        exact e_i hx hb hr hlk hC hP hS d_MO_token_83 (Or.inr ⟨p, by omega, rfl, by assumption, Or.inr ⟨by omega, rfl, rfl⟩⟩)
      · have c_27 : nn p = 32 := (q_eq (a := nn p) (b := 32) rfl rfl (by omega) (by omega)).mp c_27
        refine lv_bipush (v := (-2)) hx hb d_MO_token_30 (by decide) ?_
        exact e_i hx hb hr hlk hC hP hS d_MO_token_32 (Or.inr ⟨p, by omega, rfl, by assumption, Or.inl ⟨by omega, rfl, rfl⟩⟩)
    · have c_14 := b2i_f c_14
      refine lv_iconst (v := (-1)) hx hb d_MO_token_17 (by decide) ?_
      exact e_i hx hb hr hlk hC hP hS d_MO_token_18 (Or.inl ⟨by first | exact Or.inl (by assumption) | exact Or.inr (by assumption), rfl, rfl⟩)

set_option maxHeartbeats 4000000 in
set_option maxRecDepth 100000 in
theorem m_MO_wipe (l : Launch) (G : WG) (S : SS) (nn : Nat → Nat) (hnn : ∀ p, p < 4 → nn p ≤ 32 ∧ S 47 p = nI (nn p)) (p_ : Int32) : Ci l y_MO_wipe b_MO_wipe 3 (some (.int)) 1 G [.ref (gA G 44), .int p_] S (fun r S1 => (inB p_ 0 3 = false ∧ r = -1 ∧ S1 = S) ∨ ∃ p, p < 4 ∧ p_ = nI p ∧ r = nI (nn p) ∧ S1 = su S 47 p 0) := by
  refine mk l (by decide +kernel) (Nat.le_of_ble_eq_true rfl) ?_
  intro pp_ ee_ ss_ mm_ be_ me_ co_ ls hx hb hr hlk hml hC hP hS hl
  have hl : lv_has ls 3 [(0, .ref (gA G 44)), (1, .int p_)] := hl
  refine lv_iload_n hx hb d_MO_wipe_0 rfl (lv_at hl 1 rfl) ?_
  refine lv_iconst (v := 0) hx hb d_MO_wipe_1 (by decide) ?_
  refine lv_iconst (v := 3) hx hb d_MO_wipe_2 (by decide) ?_
  refine r_i hC hS (r_runS (np := 3) (As := [.int p_, .int 0, .int 3]) (rest := []) hx hb hml hC hP hS (m_MO_in l G S p_ 0 3) l_MO_50 st_MO_in in_MO c_MO_in_in (by decide +kernel) ⟨by simp only [rmF]; omega, by simp only [rmF]; omega⟩ rfl hl.1 (Nat.le_of_ble_eq_true rfl) d_MO_wipe_3 ⟨Nat.le_refl _, Nat.le_refl _⟩) (fun r_3 S_3 H locs hw hP hS => ?_)
  obtain ⟨rfl, hSe⟩ := hw
  rw [hSe] at hP
  refine lv_if_ne (tgt := 11) hx hb d_MO_wipe_6 (by decide) (fun c_6 => ?_) (fun c_6 => ?_)
  · have c_6 := b2i_t c_6
    obtain ⟨p, hp3, rfl⟩ := inB_nI (b := 3) (by omega) c_6
    have hnp := hnn p (by omega)
    refine lv_aload_n hx hb d_MO_wipe_11 rfl (lv_at hl 0 rfl) ?_
    refine r_get hx hb hC hP i_MO (44) (by decide) rfl rfl 2 (by decide) l_MO_16 rfl d_MO_wipe_12 ?_
    refine lv_iload_n hx hb d_MO_wipe_15 rfl (lv_at hl 1 rfl) ?_
    refine r_ild hx hb hC hP (47) (by decide) rfl p rfl (by omega) (by decide) d_MO_wipe_16 ?_
    rw [show S 47 p = nI (nn p) from hnp.2]
    refine lv_istore_n (lv' := [(2, .int (nI (nn p))), (0, .ref (gA G 44)), (1, .int (nI p))]) hx hb d_MO_wipe_17 rfl hl (by decide) rfl (fun ls hl => ?_)
    refine lv_aload_n hx hb d_MO_wipe_18 rfl (lv_at hl 1 rfl) ?_
    refine r_get hx hb hC hP i_MO (44) (by decide) rfl rfl 2 (by decide) l_MO_16 rfl d_MO_wipe_19 ?_
    refine lv_iload_n hx hb d_MO_wipe_22 rfl (lv_at hl 2 rfl) ?_
    refine lv_iconst (v := 0) hx hb d_MO_wipe_23 (by decide) ?_
    refine r_ist hx hb hC hP hS (47) (by decide) (fun _ => rfl) p rfl (by omega) (by decide) d_MO_wipe_24 (fun H locs hP hS => ?_)
    refine lv_iload_n hx hb d_MO_wipe_25 rfl (lv_at hl 0 rfl) ?_
    exact e_i hx hb hr hlk hC hP hS d_MO_wipe_26 (Or.inr ⟨p, by omega, rfl, rfl, rfl⟩)
  · have c_6 := b2i_f c_6
    refine lv_iconst (v := (-1)) hx hb d_MO_wipe_9 (by decide) ?_
    exact e_i hx hb hr hlk hC hP hS d_MO_wipe_10 (Or.inl ⟨by assumption, rfl, rfl⟩)

def moEv (S : SS) (n : Nat) (i : Int32) : Int32 := if inB i 0 31 = true ∧ i < nI n then S 56 i.toNatClampNeg else -1
set_option maxHeartbeats 4000000 in
set_option maxRecDepth 100000 in
theorem m_MO_event (l : Launch) (G : WG) (S : SS) (n : Nat) (hn : n < 2 ^ 31) (hs : S 44 24 = nI n) (i : Int32) : Ci l y_MO_event b_MO_event 2 (some (.int)) 1 G [.ref (gA G 44), .int i] S (fun r S1 => r = moEv S n i ∧ S1 = S) := by
  refine mk l (by decide +kernel) (Nat.le_of_ble_eq_true rfl) ?_
  intro pp_ ee_ ss_ mm_ be_ me_ co_ ls hx hb hr hlk hml hC hP hS hl
  have hl : lv_has ls 2 [(0, .ref (gA G 44)), (1, .int i)] := hl
  refine lv_iload_n hx hb d_MO_event_0 rfl (lv_at hl 1 rfl) ?_
  refine lv_iconst (v := 0) hx hb d_MO_event_1 (by decide) ?_
  refine lv_bipush (v := 31) hx hb d_MO_event_2 (by decide) ?_
  refine r_i hC hS (r_runS (np := 3) (As := [.int i, .int 0, .int 31]) (rest := []) hx hb hml hC hP hS (m_MO_in l G S i 0 31) l_MO_50 st_MO_in in_MO c_MO_in_in (by decide +kernel) ⟨by simp only [rmF]; omega, by simp only [rmF]; omega⟩ rfl hl.1 (Nat.le_of_ble_eq_true rfl) d_MO_event_4 ⟨Nat.le_refl _, Nat.le_refl _⟩) (fun r_4 S_4 H locs hw hP hS => ?_)
  obtain ⟨rfl, hSe⟩ := hw
  rw [hSe] at hP
  refine lv_if_eq (tgt := 27) hx hb d_MO_event_7 (by decide) (fun c_7 => ?_) (fun c_7 => ?_)
  · have c_7 := b2i_f c_7
    refine lv_iconst (v := (-1)) hx hb d_MO_event_27 (by decide) ?_
    exact e_i hx hb hr hlk hC hP hS d_MO_event_28 ⟨by rw [moEv, if_neg (by intro h; first | (exact absurd h.2 (Int32.not_lt.mpr c_15)) | (have h1 := h.1; rw [c_7] at h1; exact absurd h1 (by decide)))], rfl⟩
  · have c_7 := b2i_t c_7
    obtain ⟨j, hj31, hj⟩ := inB_nI (b := 31) (by omega) c_7
    refine lv_iload_n hx hb d_MO_event_10 rfl (lv_at hl 1 rfl) ?_
    refine lv_aload_n hx hb d_MO_event_11 rfl (lv_at hl 0 rfl) ?_
    refine r_get hx hb hC hP i_MO (44) (by decide) rfl rfl 24 (by decide) l_MO_143 rfl d_MO_event_12 ?_
    rw [show S 44 24 = nI n from hs]
    refine lv_icmp_ge (tgt := 27) hx hb d_MO_event_15 (by decide) (fun c_15 => ?_) (fun c_15 => ?_)
    · refine lv_iconst (v := (-1)) hx hb d_MO_event_27 (by decide) ?_
      exact e_i hx hb hr hlk hC hP hS d_MO_event_28 ⟨by rw [moEv, if_neg (by intro h; first | (exact absurd h.2 (Int32.not_lt.mpr c_15)) | (have h1 := h.1; rw [c_7] at h1; exact absurd h1 (by decide)))], rfl⟩
    · refine lv_aload_n hx hb d_MO_event_18 rfl (lv_at hl 0 rfl) ?_
      refine r_get hx hb hC hP i_MO (44) (by decide) rfl rfl 23 (by decide) l_MO_47 rfl d_MO_event_19 ?_
      refine lv_iload_n hx hb d_MO_event_22 rfl (lv_at hl 1 rfl) ?_
      refine r_ild hx hb hC hP (56) (by decide) rfl j hj (by omega) (by decide) d_MO_event_23 ?_
      refine lv_goto (tgt := 28) hx hb d_MO_event_24 (by decide) ?_
      exact e_i hx hb hr hlk hC hP hS d_MO_event_28 ⟨by rw [moEv, if_pos ⟨c_7, Int32.not_le.mp c_15⟩, hj, nI_clamp (by omega)], rfl⟩

/-- the k-th cause, reference's numbers: from 1, 0 is none -/
def mz (cs : Nat → Nat) (r : Nat) : Nat → Nat
  | 0 => r
  | k + 1 => if 0 < mz cs r k then cs (mz cs r k) else 0
theorem mz_0 {cs : Nat → Nat} {r k : Nat} (h : mz cs r k = 0) : ∀ m, k ≤ m → mz cs r m = 0 := by
  intro m hm
  induction m with
  | zero => rw [show k = 0 by omega] at h; exact h
  | succ m ih =>
    rcases (show k = m + 1 ∨ k ≤ m by omega) with h1 | h1
    · rw [← h1]; exact h
    · show (if 0 < mz cs r m then cs (mz cs r m) else 0) = 0
      rw [if_neg (by rw [ih h1]; omega)]
theorem mz_le {cs : Nat → Nat} {r n : Nat} (hr : r ≤ n) (hc : ∀ j, 0 < j → j ≤ n → cs j < j) : ∀ k, 0 < mz cs r k → mz cs r k + k ≤ n := by
  intro k
  induction k with
  | zero => intro _; show r + 0 ≤ n; omega
  | succ k ih =>
    intro h
    have h2 : mz cs r (k + 1) = (if 0 < mz cs r k then cs (mz cs r k) else 0) := rfl
    by_cases h0 : 0 < mz cs r k
    · have h1 := ih h0
      rw [if_pos h0] at h2
      have := hc (mz cs r k) h0 (by omega)
      omega
    · rw [if_neg h0] at h2
      omega
def moFa (S : SS) (cs : Nat → Nat) (r : Nat) (k : Int32) : Int32 := if k < 0 then -1 else if 0 < mz cs r k.toNatClampNeg then S 54 (mz cs r k.toNatClampNeg) else -1
set_option maxHeartbeats 4000000 in
set_option maxRecDepth 100000 in
theorem m_MO_fault_loop (l : Launch) (G : WG) (S : SS) (n r : Nat) (cs : Nat → Nat) (hn : n ≤ 600) (hrn : r ≤ n) (hs : S 44 22 = nI r) (hc : ∀ j, 0 < j → j ≤ n → cs j < j) (hcs : ∀ j, 0 < j → j ≤ n → S 55 j = nI (cs j)) (kk : Nat) (hkk : kk < 2 ^ 31) {pp_ : Program} {ee_ : Env} {ss_ : State} {mm_ : MethodId} {be_ : List Frame} {me_ : Method} {co_ : Code} (hx : pp_.tables.exec = Jvm.exec) (hb : co_.code = b_MO_fault) (hr : me_.sig.returnType = (some (.int))) (hlk : me_.locks = false) (hml : co_.maxLocals = 4) (hC : CC G "EndingsLabModel" ss_ mm_ ([.ref (gA G 44), .int (nI kk)] : List Value).toArray (AA G)) :
    ∀ (f : Nat) (j : Nat), j ≤ kk → j ≤ 600 → mz cs r j ≤ n → 600 < j + f →  ∀ (H : Heap) (locs : List Loc) (ls : Array Slot), va_P (gD G) clsL (wl (gA G) 57 (fS G S)) H → va_S (AA G) ss_.heap H locs → lv_has ls 4 [(0, .ref (gA G 44)), (1, .int (nI kk)), (2, .int (nI (mz cs r j))), (3, .int (nI j))] → W pp_ l ee_ (rmF 0) ss_ mm_ ([.ref (gA G 44), .int (nI kk)] : List Value).toArray be_ me_ co_ H locs 0 0 (MQ be_ (va_Qi (fun x S1 => x = moFa S cs r (nI kk) ∧ S1 = S) (WD G) (AA G)) ([.ref (gA G 44), .int (nI kk)] : List Value).toArray ss_ 0 0 (AA G)) (F0 mm_ 15 ls []) := by
  intro f
  induction f with
  | zero =>
    intro j hj hj6 hm9 hf H locs ls hP hS hl
    exact absurd hf (by omega)
  | succ f ih =>
    intro j hj hj6 hm9 hf H locs ls hP hS hl
    refine lv_iload_n hx hb d_MO_fault_15 rfl (lv_at hl 3 rfl) ?_
    refine lv_iload_n hx hb d_MO_fault_16 rfl (lv_at hl 1 rfl) ?_
    refine lv_icmp_ge (tgt := 37) hx hb d_MO_fault_17 (by decide) (fun c_17 => ?_) (fun c_17 => ?_)
    · have c_17 : kk ≤ j := (q_le (a := kk) (b := j) rfl rfl (by omega) (by omega)).mp c_17
      refine lv_iload_n hx hb d_MO_fault_37 rfl (lv_at hl 2 rfl) ?_
      refine lv_if_le (tgt := 50) hx hb d_MO_fault_38 (by decide) (fun c_38 => ?_) (fun c_38 => ?_)
      · have c_38 : mz cs r j ≤ 0 := (q_le (a := mz cs r j) (b := 0) rfl rfl (by omega) (by omega)).mp c_38
        refine lv_iconst (v := (-1)) hx hb d_MO_fault_50 (by decide) ?_
        exact e_i hx hb hr hlk hC hP hS d_MO_fault_51 ⟨by rw [moFa, if_neg (nI_pos hkk), nI_clamp hkk, if_neg (by first | (rw [← show j = kk by omega]; omega) | (rw [mz_0 (k := j) (by omega) kk hj]; omega))], rfl⟩
      · have c_38 : ¬ mz cs r j ≤ 0 := fun h => c_38 ((q_le (a := mz cs r j) (b := 0) rfl rfl (by omega) (by omega)).mpr h)
        refine lv_aload_n hx hb d_MO_fault_41 rfl (lv_at hl 0 rfl) ?_
        refine r_get hx hb hC hP i_MO (44) (by decide) rfl rfl 16 (by decide) l_MO_41 rfl d_MO_fault_42 ?_
        refine lv_iload_n hx hb d_MO_fault_45 rfl (lv_at hl 2 rfl) ?_
        refine r_ild hx hb hC hP (54) (by decide) rfl (mz cs r j) rfl (by omega) (by decide) d_MO_fault_46 ?_
        refine lv_goto (tgt := 51) hx hb d_MO_fault_47 (by decide) ?_
        exact e_i hx hb hr hlk hC hP hS d_MO_fault_51 ⟨by rw [moFa, if_neg (nI_pos hkk), nI_clamp hkk, ← show j = kk by omega, if_pos (by omega)], rfl⟩
    · have c_17 : ¬ kk ≤ j := fun h => c_17 ((q_le (a := kk) (b := j) rfl rfl (by omega) (by omega)).mpr h)
      refine lv_iload_n hx hb d_MO_fault_20 rfl (lv_at hl 2 rfl) ?_
      refine lv_if_le (tgt := 37) hx hb d_MO_fault_21 (by decide) (fun c_21 => ?_) (fun c_21 => ?_)
      · have c_21 : mz cs r j ≤ 0 := (q_le (a := mz cs r j) (b := 0) rfl rfl (by omega) (by omega)).mp c_21
        refine lv_iload_n hx hb d_MO_fault_37 rfl (lv_at hl 2 rfl) ?_
        refine lv_if_le (tgt := 50) hx hb d_MO_fault_38 (by decide) (fun c_38 => ?_) (fun c_38 => ?_)
        · have c_38 : mz cs r j ≤ 0 := (q_le (a := mz cs r j) (b := 0) rfl rfl (by omega) (by omega)).mp c_38
          refine lv_iconst (v := (-1)) hx hb d_MO_fault_50 (by decide) ?_
          exact e_i hx hb hr hlk hC hP hS d_MO_fault_51 ⟨by rw [moFa, if_neg (nI_pos hkk), nI_clamp hkk, if_neg (by first | (rw [← show j = kk by omega]; omega) | (rw [mz_0 (k := j) (by omega) kk hj]; omega))], rfl⟩
        · have c_38 : ¬ mz cs r j ≤ 0 := fun h => c_38 ((q_le (a := mz cs r j) (b := 0) rfl rfl (by omega) (by omega)).mpr h)
          refine lv_aload_n hx hb d_MO_fault_41 rfl (lv_at hl 0 rfl) ?_
          refine r_get hx hb hC hP i_MO (44) (by decide) rfl rfl 16 (by decide) l_MO_41 rfl d_MO_fault_42 ?_
          refine lv_iload_n hx hb d_MO_fault_45 rfl (lv_at hl 2 rfl) ?_
          refine r_ild hx hb hC hP (54) (by decide) rfl (mz cs r j) rfl (by omega) (by decide) d_MO_fault_46 ?_
          refine lv_goto (tgt := 51) hx hb d_MO_fault_47 (by decide) ?_
          exact e_i hx hb hr hlk hC hP hS d_MO_fault_51 ⟨by rw [moFa, if_neg (nI_pos hkk), nI_clamp hkk, ← show j = kk by omega, if_pos (by omega)], rfl⟩
      · have c_21 : ¬ mz cs r j ≤ 0 := fun h => c_21 ((q_le (a := mz cs r j) (b := 0) rfl rfl (by omega) (by omega)).mpr h)
        have hm := mz_le hrn hc j (by omega)
        have hz : mz cs r (j + 1) = cs (mz cs r j) := if_pos (by omega)
        have hz2 := hc (mz cs r j) (by omega) (by omega)
        refine lv_aload_n hx hb d_MO_fault_24 rfl (lv_at hl 0 rfl) ?_
        refine r_get hx hb hC hP i_MO (44) (by decide) rfl rfl 17 (by decide) l_MO_44 rfl d_MO_fault_25 ?_
        refine lv_iload_n hx hb d_MO_fault_28 rfl (lv_at hl 2 rfl) ?_
        refine r_ild hx hb hC hP (55) (by decide) rfl (mz cs r j) rfl (by omega) (by decide) d_MO_fault_29 ?_
        rw [show S 55 (mz cs r j) = nI (mz cs r (j + 1)) from (by rw [hz]; exact hcs _ (by omega) (by omega))]
        refine lv_istore_n (lv' := [(2, .int (nI (mz cs r (j + 1)))), (0, .ref (gA G 44)), (1, .int (nI kk)), (3, .int (nI j))]) hx hb d_MO_fault_30 rfl hl (by decide) rfl (fun ls hl => ?_)
        refine lv_iinc (v := nI (j + 1)) (lv' := [(3, .int (nI (j + 1))), (2, .int (nI (mz cs r (j + 1)))), (0, .ref (gA G 44)), (1, .int (nI kk))]) hx hb d_MO_fault_31 hl (k := 3) rfl (nI_1 _) (by decide) rfl (fun ls hl => ?_)
        refine lv_goto (tgt := 15) hx hb d_MO_fault_34 (by decide) ?_
        exact ih (j + 1) (by omega) (by omega) (by omega) (by omega) _ _ _ hP hS (lv_sub hl [2, 3, 1, 0] rfl)

set_option maxHeartbeats 4000000 in
set_option maxRecDepth 100000 in
theorem m_MO_fault (l : Launch) (G : WG) (S : SS) (n r : Nat) (cs : Nat → Nat) (hn : n ≤ 600) (hrn : r ≤ n) (hs : S 44 22 = nI r) (hc : ∀ j, 0 < j → j ≤ n → cs j < j) (hcs : ∀ j, 0 < j → j ≤ n → S 55 j = nI (cs j)) (kk : Nat) (hkk : kk < 2 ^ 31) : Ci l y_MO_fault b_MO_fault 4 (some (.int)) 0 G [.ref (gA G 44), .int (nI kk)] S (fun x S1 => x = moFa S cs r (nI kk) ∧ S1 = S) := by
  refine mk l (by decide +kernel) (Nat.le_of_ble_eq_true rfl) ?_
  intro pp_ ee_ ss_ mm_ be_ me_ co_ ls hx hb hr hlk hml hC hP hS hl
  have hl : lv_has ls 4 [(0, .ref (gA G 44)), (1, .int (nI kk))] := hl
  refine lv_iload_n hx hb d_MO_fault_0 rfl (lv_at hl 1 rfl) ?_
  refine lv_if_ge (tgt := 8) hx hb d_MO_fault_1 (by decide) (fun c_1 => ?_) (fun c_1 => absurd (Nat.zero_le kk) (fun h => c_1 ((q_le (a := 0) (b := kk) rfl rfl (by omega) (by omega)).mpr h)))
  refine lv_aload_n hx hb d_MO_fault_8 rfl (lv_at hl 0 rfl) ?_
  refine r_get hx hb hC hP i_MO (44) (by decide) rfl rfl 22 (by decide) l_MO_164 rfl d_MO_fault_9 ?_
  rw [show S 44 22 = nI r from hs]
  refine lv_istore_n (lv' := [(2, .int (nI r)), (0, .ref (gA G 44)), (1, .int (nI kk))]) hx hb d_MO_fault_12 rfl hl (by decide) rfl (fun ls hl => ?_)
  refine lv_iconst (v := 0) hx hb d_MO_fault_13 (by decide) ?_
  refine lv_istore_n (lv' := [(3, .int 0), (2, .int (nI r)), (0, .ref (gA G 44)), (1, .int (nI kk))]) hx hb d_MO_fault_14 rfl hl (by decide) rfl (fun ls hl => ?_)
  exact m_MO_fault_loop l G S n r cs hn hrn hs hc hcs kk hkk hx hb hr hlk hml hC 601 0 (Nat.zero_le _) (by omega) hrn (by omega) _ _ _ hP hS (lv_sub hl [2, 3, 1, 0] rfl)

set_option maxHeartbeats 4000000 in
set_option maxRecDepth 100000 in
theorem m_MO_faultN (l : Launch) (G : WG) (S : SS) (k : Int32) (hk : k < 0) : Ci l y_MO_fault b_MO_fault 4 (some (.int)) 0 G [.ref (gA G 44), .int k] S (fun x S1 => x = -1 ∧ S1 = S) := by
  refine mk l (by decide +kernel) (Nat.le_of_ble_eq_true rfl) ?_
  intro pp_ ee_ ss_ mm_ be_ me_ co_ ls hx hb hr hlk hml hC hP hS hl
  have hl : lv_has ls 4 [(0, .ref (gA G 44)), (1, .int k)] := hl
  refine lv_iload_n hx hb d_MO_fault_0 rfl (lv_at hl 1 rfl) ?_
  refine lv_if_ge (tgt := 8) hx hb d_MO_fault_1 (by decide) (fun c_1 => absurd hk (Int32.not_lt.mpr c_1)) (fun c_1 => ?_)
  refine lv_iconst (v := 0) hx hb d_MO_fault_4 (by decide) ?_
  refine lv_goto (tgt := 12) hx hb d_MO_fault_5 (by decide) ?_
  refine lv_istore_n (lv' := [(2, .int 0), (0, .ref (gA G 44)), (1, .int k)]) hx hb d_MO_fault_12 rfl hl (by decide) rfl (fun ls hl => ?_)
  refine lv_iconst (v := 0) hx hb d_MO_fault_13 (by decide) ?_
  refine lv_istore_n (lv' := [(3, .int 0), (2, .int 0), (0, .ref (gA G 44)), (1, .int k)]) hx hb d_MO_fault_14 rfl hl (by decide) rfl (fun ls hl => ?_)
  refine lv_iload_n hx hb d_MO_fault_15 rfl (lv_at hl 0 rfl) ?_
  refine lv_iload_n hx hb d_MO_fault_16 rfl (lv_at hl 3 rfl) ?_
  refine lv_icmp_ge (tgt := 37) hx hb d_MO_fault_17 (by decide) (fun c_17 => ?_) (fun c_17 => absurd (Int32.le_of_lt hk) c_17)
  refine lv_iload_n hx hb d_MO_fault_37 rfl (lv_at hl 1 rfl) ?_
  refine lv_if_le (tgt := 50) hx hb d_MO_fault_38 (by decide) (fun _ => ?_) (fun h => absurd h (by decide))
  refine lv_iconst (v := (-1)) hx hb d_MO_fault_50 (by decide) ?_
  exact e_i hx hb hr hlk hC hP hS d_MO_fault_51 ⟨rfl, rfl⟩
end
section
/-! reference: what its steps leave alone; item by the token, ends of blocks: written by wip/gen/p34.py -/
theorem su_k (S : SS) {k j a b : Nat} (v : Int32) (h : ¬ (a = k ∧ b = j)) : su S k j v a b = S a b := by
  by_cases ha : a = k
  · exact su_int _ _ _ (fun hb => h ⟨ha, hb⟩)
  · rw [su_cell _ _ _ ha]
theorem moEnter_k (S : SS) (D : Nat) (x y z : Int32) {a b : Nat} (h : ¬ (((a = 48 ∨ a = 49 ∨ a = 50 ∨ a = 51) ∧ b = D) ∨ (a = 44 ∧ (b = 8 ∨ b = 9)))) : moEnter S D x y z a b = S a b := by
  unfold moEnter
  rw [su_k _ _ (by omega), su_k _ _ (by omega), su_k _ _ (by omega), su_k _ _ (by omega), su_k _ _ (by omega), su_k _ _ (by omega)]
theorem moEnds_k (S : SS) (x y : Int32) {a b : Nat} (h : ¬ (a = 44 ∧ (b = 11 ∨ b = 12))) : moEnds S x y a b = S a b := by
  unfold moEnds
  rw [su_k _ _ (by omega), su_k _ _ (by omega)]
theorem moMade_k (S : SS) (n : Nat) (x y : Int32) {a b : Nat} (h : ¬ ((a = 44 ∧ b = 18) ∨ ((a = 54 ∨ a = 55) ∧ b = n + 1))) : moMade S n x y a b = S a b := by
  unfold moMade
  rw [su_k _ _ (by omega), su_k _ _ (by omega), su_k _ _ (by omega)]
theorem moRaise_k (S : SS) (n : Nat) (x y : Int32) {a b : Nat} (h : ¬ ((a = 44 ∧ (b = 18 ∨ b = 11 ∨ b = 12)) ∨ ((a = 54 ∨ a = 55) ∧ b = n + 1))) : moRaise S n x y a b = S a b := by
  unfold moRaise
  rw [moEnds_k _ _ _ (by omega), moMade_k _ _ _ _ (by omega)]
theorem moHold_k (S : SS) (i : Nat) {a b : Nat} (h : ¬ ((a = 53 ∧ b = i) ∨ (a = 44 ∧ b = 20))) : moHold S i a b = S a b := by
  unfold moHold
  split
  · rw [su_k _ _ (by omega), su_k _ _ (by omega)]
  · rw [su_k _ _ (by omega)]
theorem moNote_k (S : SS) (n : Nat) (x : Int32) {a b : Nat} (h : ¬ (a = 56 ∨ (a = 44 ∧ b = 24))) : moNote S n x a b = S a b := by
  unfold moNote
  rw [su_k _ _ (by omega), su_k _ _ (by omega), va_up_ne _ _ (by omega)]
theorem moBegin_k (S : SS) (D q : Nat) (x y : Int32) {a b : Nat} (h : ¬ (((a = 48 ∨ a = 49 ∨ a = 50 ∨ a = 51) ∧ b = D) ∨ (a = 44 ∧ (b = 8 ∨ b = 9 ∨ b = 13)) ∨ (a = 52 ∧ 3 * q ≤ b ∧ b < 3 * q + 3))) : moBegin S D q x y a b = S a b := by
  unfold moBegin
  rw [su_k _ _ (by omega), su_k _ _ (by omega), su_k _ _ (by omega), su_k _ _ (by omega), moEnter_k _ _ _ _ _ (by omega)]
def moStep (S : SS) (i st : Nat) : SS := su (su S 44 19 (nI (st + 1))) 44 9 (nI (i + 1))
theorem moStep_k (S : SS) (i st : Nat) {a b : Nat} (h : ¬ (a = 44 ∧ (b = 19 ∨ b = 9))) : moStep S i st a b = S a b := by
  unfold moStep
  rw [su_k _ _ (by omega), su_k _ _ (by omega)]
set_option maxHeartbeats 4000000 in
set_option maxRecDepth 100000 in
theorem m_MO_item_note (l : Launch) (G : WG) (S : SS) (i st : Nat) (hi : i < 128) (hnx : S 44 9 = nI i) (hst9 : st < 1000) (hst : S 44 19 = nI st) (hop : S 45 i = 0) (nev : Nat) (hev9 : nev < 2 ^ 30) (hev : S 44 24 = nI nev) : Cv l y_MO_item b_MO_item 3 3 G [.ref (gA G 44)] S (fun S1 => S1 = moNote (moStep S i st) nev (S 46 i)) := by
  refine mk l (by decide +kernel) (Nat.le_of_ble_eq_true rfl) ?_
  intro pp_ ee_ ss_ mm_ be_ me_ co_ ls hx hb hr hlk hml hC hP hS hl
  have hl : lv_has ls 3 [(0, .ref (gA G 44))] := hl
  refine lv_aload_n hx hb d_MO_item_0 rfl (lv_at hl 0 rfl) ?_
  refine r_get hx hb hC hP i_MO (44) (by decide) rfl rfl 9 (by decide) l_MO_86 rfl d_MO_item_1 ?_
  rw [show S 44 9 = nI i from hnx]
  refine lv_istore_n (lv' := [(1, .int (nI i)), (0, .ref (gA G 44))]) hx hb d_MO_item_4 rfl hl (by decide) rfl (fun ls hl => ?_)
  refine lv_aload_n hx hb d_MO_item_5 rfl (lv_at hl 1 rfl) ?_
  refine r_get hx hb hC hP i_MO (44) (by decide) rfl rfl 1 (by decide) l_MO_13 rfl d_MO_item_6 ?_
  refine lv_iload_n hx hb d_MO_item_9 rfl (lv_at hl 0 rfl) ?_
  refine r_ild hx hb hC hP (46) (by decide) rfl i rfl (by omega) (by decide) d_MO_item_10 ?_
  refine lv_istore_n (lv' := [(2, .int (S 46 i)), (1, .int (nI i)), (0, .ref (gA G 44))]) hx hb d_MO_item_11 rfl hl (by decide) rfl (fun ls hl => ?_)
  refine lv_aload_n hx hb d_MO_item_12 rfl (lv_at hl 2 rfl) ?_
  refine lv_dup hx hb d_MO_item_13 rfl ?_
  refine r_get hx hb hC hP i_MO (44) (by decide) rfl rfl 19 (by decide) l_MO_114 rfl d_MO_item_14 ?_
  rw [show S 44 19 = nI st from hst]
  refine lv_iconst (v := 1) hx hb d_MO_item_17 (by decide) ?_
  refine lv_iadd hx hb d_MO_item_18 ?_
  rw [show (nI st) + 1 = nI (st + 1) from nI_1 _]
  refine r_put hx hb hC hP hS i_MO t_MO t_MO_ok n_MO (44) (by decide) rfl rfl 19 (by decide) l_MO_114 rfl rfl rfl (Nat.le_of_ble_eq_true rfl) d_MO_item_19 (fun H locs hP hS => ?_)
  refine lv_aload_n hx hb d_MO_item_22 rfl (lv_at hl 2 rfl) ?_
  refine lv_dup hx hb d_MO_item_23 rfl ?_
  refine r_get hx hb hC hP i_MO (44) (by decide) rfl rfl 9 (by decide) l_MO_86 rfl d_MO_item_24 ?_
  rw [show (su S 44 19 (nI (st + 1))) 44 9 = S 44 9 from by rw [su_int _ _ _ (by decide)]]
  rw [show S 44 9 = nI i from hnx]
  refine lv_iconst (v := 1) hx hb d_MO_item_27 (by decide) ?_
  refine lv_iadd hx hb d_MO_item_28 ?_
  rw [show (nI i) + 1 = nI (i + 1) from nI_1 _]
  refine r_put hx hb hC hP hS i_MO t_MO t_MO_ok n_MO (44) (by decide) rfl rfl 9 (by decide) l_MO_86 rfl rfl rfl (Nat.le_of_ble_eq_true rfl) d_MO_item_29 (fun H locs hP hS => ?_)
  refine lv_aload_n hx hb d_MO_item_32 rfl (lv_at hl 2 rfl) ?_
  refine r_get hx hb hC hP i_MO (44) (by decide) rfl rfl 0 (by decide) l_MO_7 rfl d_MO_item_33 ?_
  refine lv_iload_n hx hb d_MO_item_36 rfl (lv_at hl 1 rfl) ?_
  refine r_ild hx hb hC hP (45) (by decide) rfl i rfl (by omega) (by decide) d_MO_item_37 ?_
  rw [show (su (su S 44 19 (nI (st + 1))) 44 9 (nI (i + 1))) 45 i = S 45 i from by rw [su_cell _ _ _ (by decide), su_cell _ _ _ (by decide)]]
  rw [show S 45 i = 0 from hop]
  refine lv_tableIn (off := 74) (tgt := 112) hx hb d_MO_item_38 (by decide) (by decide) (by decide) (by decide) ?_
  refine lv_aload_n hx hb d_MO_item_112 rfl (lv_at hl 2 rfl) ?_
  refine lv_iload_n hx hb d_MO_item_113 rfl (lv_at hl 0 rfl) ?_
  refine r_v hC hS (r_runV (np := 1) (As := [.int (S 46 i)]) (rest := []) hx hb hml hC hP hS (by decide) rfl rfl (m_MO_note l G (su (su S 44 19 (nI (st + 1))) 44 9 (nI (i + 1))) nev (by omega) (by rw [su_int _ _ _ (by decide), su_int _ _ _ (by decide)]; exact hev) (S 46 i)) l_MO_117 im_MO_note se_MO_note in_MO c_MO_note_in (by decide +kernel) ⟨by simp only [rmF]; omega, by simp only [rmF]; omega⟩ rfl hl.1 (Nat.le_of_ble_eq_true rfl) d_MO_item_114 ⟨Nat.le_refl _, Nat.le_refl _⟩) (fun S_114 H locs hw hP hS => ?_)
  rw [hw] at hP
  refine lv_goto (tgt := 389) hx hb d_MO_item_117 (by decide) ?_
  exact e_v hx hb hr hlk hC hP hS d_MO_item_389 rfl

set_option maxHeartbeats 4000000 in
set_option maxRecDepth 100000 in
theorem m_MO_item_add (l : Launch) (G : WG) (S : SS) (i st : Nat) (hi : i < 128) (hnx : S 44 9 = nI i) (hst9 : st < 1000) (hst : S 44 19 = nI st) (hop : S 45 i = 1) : Cv l y_MO_item b_MO_item 3 3 G [.ref (gA G 44)] S (fun S1 => S1 = su (moStep S i st) 44 10 (S 44 10 + S 46 i)) := by
  refine mk l (by decide +kernel) (Nat.le_of_ble_eq_true rfl) ?_
  intro pp_ ee_ ss_ mm_ be_ me_ co_ ls hx hb hr hlk hml hC hP hS hl
  have hl : lv_has ls 3 [(0, .ref (gA G 44))] := hl
  refine lv_aload_n hx hb d_MO_item_0 rfl (lv_at hl 0 rfl) ?_
  refine r_get hx hb hC hP i_MO (44) (by decide) rfl rfl 9 (by decide) l_MO_86 rfl d_MO_item_1 ?_
  rw [show S 44 9 = nI i from hnx]
  refine lv_istore_n (lv' := [(1, .int (nI i)), (0, .ref (gA G 44))]) hx hb d_MO_item_4 rfl hl (by decide) rfl (fun ls hl => ?_)
  refine lv_aload_n hx hb d_MO_item_5 rfl (lv_at hl 1 rfl) ?_
  refine r_get hx hb hC hP i_MO (44) (by decide) rfl rfl 1 (by decide) l_MO_13 rfl d_MO_item_6 ?_
  refine lv_iload_n hx hb d_MO_item_9 rfl (lv_at hl 0 rfl) ?_
  refine r_ild hx hb hC hP (46) (by decide) rfl i rfl (by omega) (by decide) d_MO_item_10 ?_
  refine lv_istore_n (lv' := [(2, .int (S 46 i)), (1, .int (nI i)), (0, .ref (gA G 44))]) hx hb d_MO_item_11 rfl hl (by decide) rfl (fun ls hl => ?_)
  refine lv_aload_n hx hb d_MO_item_12 rfl (lv_at hl 2 rfl) ?_
  refine lv_dup hx hb d_MO_item_13 rfl ?_
  refine r_get hx hb hC hP i_MO (44) (by decide) rfl rfl 19 (by decide) l_MO_114 rfl d_MO_item_14 ?_
  rw [show S 44 19 = nI st from hst]
  refine lv_iconst (v := 1) hx hb d_MO_item_17 (by decide) ?_
  refine lv_iadd hx hb d_MO_item_18 ?_
  rw [show (nI st) + 1 = nI (st + 1) from nI_1 _]
  refine r_put hx hb hC hP hS i_MO t_MO t_MO_ok n_MO (44) (by decide) rfl rfl 19 (by decide) l_MO_114 rfl rfl rfl (Nat.le_of_ble_eq_true rfl) d_MO_item_19 (fun H locs hP hS => ?_)
  refine lv_aload_n hx hb d_MO_item_22 rfl (lv_at hl 2 rfl) ?_
  refine lv_dup hx hb d_MO_item_23 rfl ?_
  refine r_get hx hb hC hP i_MO (44) (by decide) rfl rfl 9 (by decide) l_MO_86 rfl d_MO_item_24 ?_
  rw [show (su S 44 19 (nI (st + 1))) 44 9 = S 44 9 from by rw [su_int _ _ _ (by decide)]]
  rw [show S 44 9 = nI i from hnx]
  refine lv_iconst (v := 1) hx hb d_MO_item_27 (by decide) ?_
  refine lv_iadd hx hb d_MO_item_28 ?_
  rw [show (nI i) + 1 = nI (i + 1) from nI_1 _]
  refine r_put hx hb hC hP hS i_MO t_MO t_MO_ok n_MO (44) (by decide) rfl rfl 9 (by decide) l_MO_86 rfl rfl rfl (Nat.le_of_ble_eq_true rfl) d_MO_item_29 (fun H locs hP hS => ?_)
  refine lv_aload_n hx hb d_MO_item_32 rfl (lv_at hl 2 rfl) ?_
  refine r_get hx hb hC hP i_MO (44) (by decide) rfl rfl 0 (by decide) l_MO_7 rfl d_MO_item_33 ?_
  refine lv_iload_n hx hb d_MO_item_36 rfl (lv_at hl 1 rfl) ?_
  refine r_ild hx hb hC hP (45) (by decide) rfl i rfl (by omega) (by decide) d_MO_item_37 ?_
  rw [show (su (su S 44 19 (nI (st + 1))) 44 9 (nI (i + 1))) 45 i = S 45 i from by rw [su_cell _ _ _ (by decide), su_cell _ _ _ (by decide)]]
  rw [show S 45 i = 1 from hop]
  refine lv_tableIn (off := 82) (tgt := 120) hx hb d_MO_item_38 (by decide) (by decide) (by decide) (by decide) ?_
  refine lv_aload_n hx hb d_MO_item_120 rfl (lv_at hl 2 rfl) ?_
  refine lv_dup hx hb d_MO_item_121 rfl ?_
  refine r_get hx hb hC hP i_MO (44) (by decide) rfl rfl 10 (by decide) l_MO_121 rfl d_MO_item_122 ?_
  rw [show (su (su S 44 19 (nI (st + 1))) 44 9 (nI (i + 1))) 44 10 = S 44 10 from by rw [su_int _ _ _ (by decide), su_int _ _ _ (by decide)]]
  refine lv_iload_n hx hb d_MO_item_125 rfl (lv_at hl 0 rfl) ?_
  refine lv_iadd hx hb d_MO_item_126 ?_
  refine r_put hx hb hC hP hS i_MO t_MO t_MO_ok n_MO (44) (by decide) rfl rfl 10 (by decide) l_MO_121 rfl rfl rfl (Nat.le_of_ble_eq_true rfl) d_MO_item_127 (fun H locs hP hS => ?_)
  refine lv_goto (tgt := 389) hx hb d_MO_item_130 (by decide) ?_
  exact e_v hx hb hr hlk hC hP hS d_MO_item_389 rfl

set_option maxHeartbeats 4000000 in
set_option maxRecDepth 100000 in
theorem m_MO_item_div0 (l : Launch) (G : WG) (S : SS) (i st : Nat) (hi : i < 128) (hnx : S 44 9 = nI i) (hst9 : st < 1000) (hst : S 44 19 = nI st) (hop : S 45 i = 2) (n : Nat) (hn6 : n < 600) (hn : S 44 18 = nI n) (ha : S 46 i = 0) : Cv l y_MO_item b_MO_item 3 3 G [.ref (gA G 44)] S (fun S1 => S1 = moRaise (moStep S i st) n 6 0) := by
  refine mk l (by decide +kernel) (Nat.le_of_ble_eq_true rfl) ?_
  intro pp_ ee_ ss_ mm_ be_ me_ co_ ls hx hb hr hlk hml hC hP hS hl
  have hl : lv_has ls 3 [(0, .ref (gA G 44))] := hl
  refine lv_aload_n hx hb d_MO_item_0 rfl (lv_at hl 0 rfl) ?_
  refine r_get hx hb hC hP i_MO (44) (by decide) rfl rfl 9 (by decide) l_MO_86 rfl d_MO_item_1 ?_
  rw [show S 44 9 = nI i from hnx]
  refine lv_istore_n (lv' := [(1, .int (nI i)), (0, .ref (gA G 44))]) hx hb d_MO_item_4 rfl hl (by decide) rfl (fun ls hl => ?_)
  refine lv_aload_n hx hb d_MO_item_5 rfl (lv_at hl 1 rfl) ?_
  refine r_get hx hb hC hP i_MO (44) (by decide) rfl rfl 1 (by decide) l_MO_13 rfl d_MO_item_6 ?_
  refine lv_iload_n hx hb d_MO_item_9 rfl (lv_at hl 0 rfl) ?_
  refine r_ild hx hb hC hP (46) (by decide) rfl i rfl (by omega) (by decide) d_MO_item_10 ?_
  rw [show S 46 i = 0 from ha]
  refine lv_istore_n (lv' := [(2, .int 0), (1, .int (nI i)), (0, .ref (gA G 44))]) hx hb d_MO_item_11 rfl hl (by decide) rfl (fun ls hl => ?_)
  refine lv_aload_n hx hb d_MO_item_12 rfl (lv_at hl 2 rfl) ?_
  refine lv_dup hx hb d_MO_item_13 rfl ?_
  refine r_get hx hb hC hP i_MO (44) (by decide) rfl rfl 19 (by decide) l_MO_114 rfl d_MO_item_14 ?_
  rw [show S 44 19 = nI st from hst]
  refine lv_iconst (v := 1) hx hb d_MO_item_17 (by decide) ?_
  refine lv_iadd hx hb d_MO_item_18 ?_
  rw [show (nI st) + 1 = nI (st + 1) from nI_1 _]
  refine r_put hx hb hC hP hS i_MO t_MO t_MO_ok n_MO (44) (by decide) rfl rfl 19 (by decide) l_MO_114 rfl rfl rfl (Nat.le_of_ble_eq_true rfl) d_MO_item_19 (fun H locs hP hS => ?_)
  refine lv_aload_n hx hb d_MO_item_22 rfl (lv_at hl 2 rfl) ?_
  refine lv_dup hx hb d_MO_item_23 rfl ?_
  refine r_get hx hb hC hP i_MO (44) (by decide) rfl rfl 9 (by decide) l_MO_86 rfl d_MO_item_24 ?_
  rw [show (su S 44 19 (nI (st + 1))) 44 9 = S 44 9 from by rw [su_int _ _ _ (by decide)]]
  rw [show S 44 9 = nI i from hnx]
  refine lv_iconst (v := 1) hx hb d_MO_item_27 (by decide) ?_
  refine lv_iadd hx hb d_MO_item_28 ?_
  rw [show (nI i) + 1 = nI (i + 1) from nI_1 _]
  refine r_put hx hb hC hP hS i_MO t_MO t_MO_ok n_MO (44) (by decide) rfl rfl 9 (by decide) l_MO_86 rfl rfl rfl (Nat.le_of_ble_eq_true rfl) d_MO_item_29 (fun H locs hP hS => ?_)
  refine lv_aload_n hx hb d_MO_item_32 rfl (lv_at hl 2 rfl) ?_
  refine r_get hx hb hC hP i_MO (44) (by decide) rfl rfl 0 (by decide) l_MO_7 rfl d_MO_item_33 ?_
  refine lv_iload_n hx hb d_MO_item_36 rfl (lv_at hl 1 rfl) ?_
  refine r_ild hx hb hC hP (45) (by decide) rfl i rfl (by omega) (by decide) d_MO_item_37 ?_
  rw [show (su (su S 44 19 (nI (st + 1))) 44 9 (nI (i + 1))) 45 i = S 45 i from by rw [su_cell _ _ _ (by decide), su_cell _ _ _ (by decide)]]
  rw [show S 45 i = 2 from hop]
  refine lv_tableIn (off := 95) (tgt := 133) hx hb d_MO_item_38 (by decide) (by decide) (by decide) (by decide) ?_
  refine lv_iload_n hx hb d_MO_item_133 rfl (lv_at hl 0 rfl) ?_
  refine lv_if_ne (tgt := 147) hx hb d_MO_item_134 (by decide) (fun h => absurd h (by decide)) (fun _ => ?_)
  refine lv_aload_n hx hb d_MO_item_137 rfl (lv_at hl 2 rfl) ?_
  refine lv_bipush (v := 6) hx hb d_MO_item_138 (by decide) ?_
  refine lv_iconst (v := 0) hx hb d_MO_item_140 (by decide) ?_
  refine r_v hC hS (r_runV (np := 2) (As := [.int 6, .int 0]) (rest := []) hx hb hml hC hP hS (by decide) rfl rfl (m_MO_raise l G (su (su S 44 19 (nI (st + 1))) 44 9 (nI (i + 1))) n (by omega) (by rw [su_int _ _ _ (by decide), su_int _ _ _ (by decide)]; exact hn) 6 0) l_MO_124 im_MO_raise se_MO_raise in_MO c_MO_raise_in (by decide +kernel) ⟨by simp only [rmF]; omega, by simp only [rmF]; omega⟩ rfl hl.1 (Nat.le_of_ble_eq_true rfl) d_MO_item_141 ⟨Nat.le_refl _, Nat.le_refl _⟩) (fun S_141 H locs hw hP hS => ?_)
  rw [hw] at hP
  refine lv_goto (tgt := 389) hx hb d_MO_item_144 (by decide) ?_
  exact e_v hx hb hr hlk hC hP hS d_MO_item_389 rfl

set_option maxHeartbeats 4000000 in
set_option maxRecDepth 100000 in
theorem m_MO_item_div (l : Launch) (G : WG) (S : SS) (i st : Nat) (hi : i < 128) (hnx : S 44 9 = nI i) (hst9 : st < 1000) (hst : S 44 19 = nI st) (hop : S 45 i = 2) (ha : ¬ S 46 i = 0) : Cv l y_MO_item b_MO_item 3 3 G [.ref (gA G 44)] S (fun S1 => S1 = su (moStep S i st) 44 10 (S 44 10 / S 46 i)) := by
  refine mk l (by decide +kernel) (Nat.le_of_ble_eq_true rfl) ?_
  intro pp_ ee_ ss_ mm_ be_ me_ co_ ls hx hb hr hlk hml hC hP hS hl
  have hl : lv_has ls 3 [(0, .ref (gA G 44))] := hl
  refine lv_aload_n hx hb d_MO_item_0 rfl (lv_at hl 0 rfl) ?_
  refine r_get hx hb hC hP i_MO (44) (by decide) rfl rfl 9 (by decide) l_MO_86 rfl d_MO_item_1 ?_
  rw [show S 44 9 = nI i from hnx]
  refine lv_istore_n (lv' := [(1, .int (nI i)), (0, .ref (gA G 44))]) hx hb d_MO_item_4 rfl hl (by decide) rfl (fun ls hl => ?_)
  refine lv_aload_n hx hb d_MO_item_5 rfl (lv_at hl 1 rfl) ?_
  refine r_get hx hb hC hP i_MO (44) (by decide) rfl rfl 1 (by decide) l_MO_13 rfl d_MO_item_6 ?_
  refine lv_iload_n hx hb d_MO_item_9 rfl (lv_at hl 0 rfl) ?_
  refine r_ild hx hb hC hP (46) (by decide) rfl i rfl (by omega) (by decide) d_MO_item_10 ?_
  refine lv_istore_n (lv' := [(2, .int (S 46 i)), (1, .int (nI i)), (0, .ref (gA G 44))]) hx hb d_MO_item_11 rfl hl (by decide) rfl (fun ls hl => ?_)
  refine lv_aload_n hx hb d_MO_item_12 rfl (lv_at hl 2 rfl) ?_
  refine lv_dup hx hb d_MO_item_13 rfl ?_
  refine r_get hx hb hC hP i_MO (44) (by decide) rfl rfl 19 (by decide) l_MO_114 rfl d_MO_item_14 ?_
  rw [show S 44 19 = nI st from hst]
  refine lv_iconst (v := 1) hx hb d_MO_item_17 (by decide) ?_
  refine lv_iadd hx hb d_MO_item_18 ?_
  rw [show (nI st) + 1 = nI (st + 1) from nI_1 _]
  refine r_put hx hb hC hP hS i_MO t_MO t_MO_ok n_MO (44) (by decide) rfl rfl 19 (by decide) l_MO_114 rfl rfl rfl (Nat.le_of_ble_eq_true rfl) d_MO_item_19 (fun H locs hP hS => ?_)
  refine lv_aload_n hx hb d_MO_item_22 rfl (lv_at hl 2 rfl) ?_
  refine lv_dup hx hb d_MO_item_23 rfl ?_
  refine r_get hx hb hC hP i_MO (44) (by decide) rfl rfl 9 (by decide) l_MO_86 rfl d_MO_item_24 ?_
  rw [show (su S 44 19 (nI (st + 1))) 44 9 = S 44 9 from by rw [su_int _ _ _ (by decide)]]
  rw [show S 44 9 = nI i from hnx]
  refine lv_iconst (v := 1) hx hb d_MO_item_27 (by decide) ?_
  refine lv_iadd hx hb d_MO_item_28 ?_
  rw [show (nI i) + 1 = nI (i + 1) from nI_1 _]
  refine r_put hx hb hC hP hS i_MO t_MO t_MO_ok n_MO (44) (by decide) rfl rfl 9 (by decide) l_MO_86 rfl rfl rfl (Nat.le_of_ble_eq_true rfl) d_MO_item_29 (fun H locs hP hS => ?_)
  refine lv_aload_n hx hb d_MO_item_32 rfl (lv_at hl 2 rfl) ?_
  refine r_get hx hb hC hP i_MO (44) (by decide) rfl rfl 0 (by decide) l_MO_7 rfl d_MO_item_33 ?_
  refine lv_iload_n hx hb d_MO_item_36 rfl (lv_at hl 1 rfl) ?_
  refine r_ild hx hb hC hP (45) (by decide) rfl i rfl (by omega) (by decide) d_MO_item_37 ?_
  rw [show (su (su S 44 19 (nI (st + 1))) 44 9 (nI (i + 1))) 45 i = S 45 i from by rw [su_cell _ _ _ (by decide), su_cell _ _ _ (by decide)]]
  rw [show S 45 i = 2 from hop]
  refine lv_tableIn (off := 95) (tgt := 133) hx hb d_MO_item_38 (by decide) (by decide) (by decide) (by decide) ?_
  refine lv_iload_n hx hb d_MO_item_133 rfl (lv_at hl 0 rfl) ?_
  refine lv_if_ne (tgt := 147) hx hb d_MO_item_134 (by decide) (fun c_134 => ?_) (fun c_134 => absurd c_134 ha)
  refine lv_aload_n hx hb d_MO_item_147 rfl (lv_at hl 2 rfl) ?_
  refine lv_dup hx hb d_MO_item_148 rfl ?_
  refine r_get hx hb hC hP i_MO (44) (by decide) rfl rfl 10 (by decide) l_MO_121 rfl d_MO_item_149 ?_
  rw [show (su (su S 44 19 (nI (st + 1))) 44 9 (nI (i + 1))) 44 10 = S 44 10 from by rw [su_int _ _ _ (by decide), su_int _ _ _ (by decide)]]
  refine lv_iload_n hx hb d_MO_item_152 rfl (lv_at hl 0 rfl) ?_
  refine lv_idiv hx hb d_MO_item_153 ha ?_
  refine r_put hx hb hC hP hS i_MO t_MO t_MO_ok n_MO (44) (by decide) rfl rfl 10 (by decide) l_MO_121 rfl rfl rfl (Nat.le_of_ble_eq_true rfl) d_MO_item_154 (fun H locs hP hS => ?_)
  refine lv_goto (tgt := 389) hx hb d_MO_item_157 (by decide) ?_
  exact e_v hx hb hr hlk hC hP hS d_MO_item_389 rfl

set_option maxHeartbeats 4000000 in
set_option maxRecDepth 100000 in
theorem m_MO_item_times0 (l : Launch) (G : WG) (S : SS) (i st : Nat) (hi : i < 128) (hnx : S 44 9 = nI i) (hst9 : st < 1000) (hst : S 44 19 = nI st) (hop : S 45 i = 3) (e : Nat) (hsc : ∃ f, Sc (S 45) f (i + 1) 1 e) (ha : S 46 i = 0) : Cv l y_MO_item b_MO_item 3 3 G [.ref (gA G 44)] S (fun S1 => S1 = su (moStep S i st) 44 9 (nI e)) := by
  refine mk l (by decide +kernel) (Nat.le_of_ble_eq_true rfl) ?_
  intro pp_ ee_ ss_ mm_ be_ me_ co_ ls hx hb hr hlk hml hC hP hS hl
  have hl : lv_has ls 3 [(0, .ref (gA G 44))] := hl
  refine lv_aload_n hx hb d_MO_item_0 rfl (lv_at hl 0 rfl) ?_
  refine r_get hx hb hC hP i_MO (44) (by decide) rfl rfl 9 (by decide) l_MO_86 rfl d_MO_item_1 ?_
  rw [show S 44 9 = nI i from hnx]
  refine lv_istore_n (lv' := [(1, .int (nI i)), (0, .ref (gA G 44))]) hx hb d_MO_item_4 rfl hl (by decide) rfl (fun ls hl => ?_)
  refine lv_aload_n hx hb d_MO_item_5 rfl (lv_at hl 1 rfl) ?_
  refine r_get hx hb hC hP i_MO (44) (by decide) rfl rfl 1 (by decide) l_MO_13 rfl d_MO_item_6 ?_
  refine lv_iload_n hx hb d_MO_item_9 rfl (lv_at hl 0 rfl) ?_
  refine r_ild hx hb hC hP (46) (by decide) rfl i rfl (by omega) (by decide) d_MO_item_10 ?_
  rw [show S 46 i = 0 from ha]
  refine lv_istore_n (lv' := [(2, .int 0), (1, .int (nI i)), (0, .ref (gA G 44))]) hx hb d_MO_item_11 rfl hl (by decide) rfl (fun ls hl => ?_)
  refine lv_aload_n hx hb d_MO_item_12 rfl (lv_at hl 2 rfl) ?_
  refine lv_dup hx hb d_MO_item_13 rfl ?_
  refine r_get hx hb hC hP i_MO (44) (by decide) rfl rfl 19 (by decide) l_MO_114 rfl d_MO_item_14 ?_
  rw [show S 44 19 = nI st from hst]
  refine lv_iconst (v := 1) hx hb d_MO_item_17 (by decide) ?_
  refine lv_iadd hx hb d_MO_item_18 ?_
  rw [show (nI st) + 1 = nI (st + 1) from nI_1 _]
  refine r_put hx hb hC hP hS i_MO t_MO t_MO_ok n_MO (44) (by decide) rfl rfl 19 (by decide) l_MO_114 rfl rfl rfl (Nat.le_of_ble_eq_true rfl) d_MO_item_19 (fun H locs hP hS => ?_)
  refine lv_aload_n hx hb d_MO_item_22 rfl (lv_at hl 2 rfl) ?_
  refine lv_dup hx hb d_MO_item_23 rfl ?_
  refine r_get hx hb hC hP i_MO (44) (by decide) rfl rfl 9 (by decide) l_MO_86 rfl d_MO_item_24 ?_
  rw [show (su S 44 19 (nI (st + 1))) 44 9 = S 44 9 from by rw [su_int _ _ _ (by decide)]]
  rw [show S 44 9 = nI i from hnx]
  refine lv_iconst (v := 1) hx hb d_MO_item_27 (by decide) ?_
  refine lv_iadd hx hb d_MO_item_28 ?_
  rw [show (nI i) + 1 = nI (i + 1) from nI_1 _]
  refine r_put hx hb hC hP hS i_MO t_MO t_MO_ok n_MO (44) (by decide) rfl rfl 9 (by decide) l_MO_86 rfl rfl rfl (Nat.le_of_ble_eq_true rfl) d_MO_item_29 (fun H locs hP hS => ?_)
  refine lv_aload_n hx hb d_MO_item_32 rfl (lv_at hl 2 rfl) ?_
  refine r_get hx hb hC hP i_MO (44) (by decide) rfl rfl 0 (by decide) l_MO_7 rfl d_MO_item_33 ?_
  refine lv_iload_n hx hb d_MO_item_36 rfl (lv_at hl 1 rfl) ?_
  refine r_ild hx hb hC hP (45) (by decide) rfl i rfl (by omega) (by decide) d_MO_item_37 ?_
  rw [show (su (su S 44 19 (nI (st + 1))) 44 9 (nI (i + 1))) 45 i = S 45 i from by rw [su_cell _ _ _ (by decide), su_cell _ _ _ (by decide)]]
  rw [show S 45 i = 3 from hop]
  refine lv_tableIn (off := 122) (tgt := 160) hx hb d_MO_item_38 (by decide) (by decide) (by decide) (by decide) ?_
  refine lv_iload_n hx hb d_MO_item_160 rfl (lv_at hl 0 rfl) ?_
  refine lv_if_ne (tgt := 178) hx hb d_MO_item_161 (by decide) (fun h => absurd h (by decide)) (fun _ => ?_)
  refine lv_aload_n hx hb d_MO_item_164 rfl (lv_at hl 2 rfl) ?_
  refine lv_aload_n hx hb d_MO_item_165 rfl (lv_at hl 2 rfl) ?_
  refine lv_iload_n hx hb d_MO_item_166 rfl (lv_at hl 1 rfl) ?_
  refine lv_iconst (v := 1) hx hb d_MO_item_167 (by decide) ?_
  refine lv_iadd hx hb d_MO_item_168 ?_
  rw [show (nI i) + 1 = nI (i + 1) from nI_1 _]
  refine r_i hC hS (r_runV (np := 1) (As := [.int (nI (i + 1))]) (rest := [.ref (gA G 44)]) hx hb hml hC hP hS (by decide) rfl rfl (m_MO_behind l G (su (su S 44 19 (nI (st + 1))) 44 9 (nI (i + 1))) (i + 1) e (by omega) (by rw [su_cell _ _ _ (by decide), su_cell _ _ _ (by decide)]; exact hsc)) l_MO_79 im_MO_behind se_MO_behind in_MO c_MO_behind_in (by decide +kernel) ⟨by simp only [rmF]; omega, by simp only [rmF]; omega⟩ rfl hl.1 (Nat.le_of_ble_eq_true rfl) d_MO_item_169 ⟨Nat.le_refl _, Nat.le_refl _⟩) (fun r_169 S_169 H locs hw hP hS => ?_)
  obtain ⟨rfl, hSe⟩ := hw
  rw [hSe] at hP
  refine r_put hx hb hC hP hS i_MO t_MO t_MO_ok n_MO (44) (by decide) rfl rfl 9 (by decide) l_MO_86 rfl rfl rfl (Nat.le_of_ble_eq_true rfl) d_MO_item_172 (fun H locs hP hS => ?_)
  refine lv_goto (tgt := 389) hx hb d_MO_item_175 (by decide) ?_
  exact e_v hx hb hr hlk hC hP hS d_MO_item_389 rfl

set_option maxHeartbeats 4000000 in
set_option maxRecDepth 100000 in
theorem m_MO_item_times (l : Launch) (G : WG) (S : SS) (i st : Nat) (hi : i < 128) (hnx : S 44 9 = nI i) (hst9 : st < 1000) (hst : S 44 19 = nI st) (hop : S 45 i = 3) (D : Nat) (hD8 : D < 80) (hD : S 44 8 = nI D) (ha : ¬ S 46 i = 0) : Cv l y_MO_item b_MO_item 3 3 G [.ref (gA G 44)] S (fun S1 => S1 = moEnter (moStep S i st) D 3 (nI i) (S 46 i)) := by
  refine mk l (by decide +kernel) (Nat.le_of_ble_eq_true rfl) ?_
  intro pp_ ee_ ss_ mm_ be_ me_ co_ ls hx hb hr hlk hml hC hP hS hl
  have hl : lv_has ls 3 [(0, .ref (gA G 44))] := hl
  refine lv_aload_n hx hb d_MO_item_0 rfl (lv_at hl 0 rfl) ?_
  refine r_get hx hb hC hP i_MO (44) (by decide) rfl rfl 9 (by decide) l_MO_86 rfl d_MO_item_1 ?_
  rw [show S 44 9 = nI i from hnx]
  refine lv_istore_n (lv' := [(1, .int (nI i)), (0, .ref (gA G 44))]) hx hb d_MO_item_4 rfl hl (by decide) rfl (fun ls hl => ?_)
  refine lv_aload_n hx hb d_MO_item_5 rfl (lv_at hl 1 rfl) ?_
  refine r_get hx hb hC hP i_MO (44) (by decide) rfl rfl 1 (by decide) l_MO_13 rfl d_MO_item_6 ?_
  refine lv_iload_n hx hb d_MO_item_9 rfl (lv_at hl 0 rfl) ?_
  refine r_ild hx hb hC hP (46) (by decide) rfl i rfl (by omega) (by decide) d_MO_item_10 ?_
  refine lv_istore_n (lv' := [(2, .int (S 46 i)), (1, .int (nI i)), (0, .ref (gA G 44))]) hx hb d_MO_item_11 rfl hl (by decide) rfl (fun ls hl => ?_)
  refine lv_aload_n hx hb d_MO_item_12 rfl (lv_at hl 2 rfl) ?_
  refine lv_dup hx hb d_MO_item_13 rfl ?_
  refine r_get hx hb hC hP i_MO (44) (by decide) rfl rfl 19 (by decide) l_MO_114 rfl d_MO_item_14 ?_
  rw [show S 44 19 = nI st from hst]
  refine lv_iconst (v := 1) hx hb d_MO_item_17 (by decide) ?_
  refine lv_iadd hx hb d_MO_item_18 ?_
  rw [show (nI st) + 1 = nI (st + 1) from nI_1 _]
  refine r_put hx hb hC hP hS i_MO t_MO t_MO_ok n_MO (44) (by decide) rfl rfl 19 (by decide) l_MO_114 rfl rfl rfl (Nat.le_of_ble_eq_true rfl) d_MO_item_19 (fun H locs hP hS => ?_)
  refine lv_aload_n hx hb d_MO_item_22 rfl (lv_at hl 2 rfl) ?_
  refine lv_dup hx hb d_MO_item_23 rfl ?_
  refine r_get hx hb hC hP i_MO (44) (by decide) rfl rfl 9 (by decide) l_MO_86 rfl d_MO_item_24 ?_
  rw [show (su S 44 19 (nI (st + 1))) 44 9 = S 44 9 from by rw [su_int _ _ _ (by decide)]]
  rw [show S 44 9 = nI i from hnx]
  refine lv_iconst (v := 1) hx hb d_MO_item_27 (by decide) ?_
  refine lv_iadd hx hb d_MO_item_28 ?_
  rw [show (nI i) + 1 = nI (i + 1) from nI_1 _]
  refine r_put hx hb hC hP hS i_MO t_MO t_MO_ok n_MO (44) (by decide) rfl rfl 9 (by decide) l_MO_86 rfl rfl rfl (Nat.le_of_ble_eq_true rfl) d_MO_item_29 (fun H locs hP hS => ?_)
  refine lv_aload_n hx hb d_MO_item_32 rfl (lv_at hl 2 rfl) ?_
  refine r_get hx hb hC hP i_MO (44) (by decide) rfl rfl 0 (by decide) l_MO_7 rfl d_MO_item_33 ?_
  refine lv_iload_n hx hb d_MO_item_36 rfl (lv_at hl 1 rfl) ?_
  refine r_ild hx hb hC hP (45) (by decide) rfl i rfl (by omega) (by decide) d_MO_item_37 ?_
  rw [show (su (su S 44 19 (nI (st + 1))) 44 9 (nI (i + 1))) 45 i = S 45 i from by rw [su_cell _ _ _ (by decide), su_cell _ _ _ (by decide)]]
  rw [show S 45 i = 3 from hop]
  refine lv_tableIn (off := 122) (tgt := 160) hx hb d_MO_item_38 (by decide) (by decide) (by decide) (by decide) ?_
  refine lv_iload_n hx hb d_MO_item_160 rfl (lv_at hl 0 rfl) ?_
  refine lv_if_ne (tgt := 178) hx hb d_MO_item_161 (by decide) (fun c_161 => ?_) (fun c_161 => absurd c_161 ha)
  refine lv_aload_n hx hb d_MO_item_178 rfl (lv_at hl 2 rfl) ?_
  refine lv_iconst (v := 3) hx hb d_MO_item_179 (by decide) ?_
  refine lv_iload_n hx hb d_MO_item_180 rfl (lv_at hl 1 rfl) ?_
  refine lv_iload_n hx hb d_MO_item_181 rfl (lv_at hl 0 rfl) ?_
  refine r_v hC hS (r_runV (np := 3) (As := [.int 3, .int (nI i), .int (S 46 i)]) (rest := []) hx hb hml hC hP hS (by decide) rfl rfl (m_MO_enter l G (su (su S 44 19 (nI (st + 1))) 44 9 (nI (i + 1))) D (by omega) (by rw [su_int _ _ _ (by decide), su_int _ _ _ (by decide)]; exact hD) 3 (nI i) (S 46 i)) l_MO_107 im_MO_enter se_MO_enter in_MO c_MO_enter_in (by decide +kernel) ⟨by simp only [rmF]; omega, by simp only [rmF]; omega⟩ rfl hl.1 (Nat.le_of_ble_eq_true rfl) d_MO_item_182 ⟨Nat.le_refl _, Nat.le_refl _⟩) (fun S_182 H locs hw hP hS => ?_)
  rw [hw] at hP
  refine lv_goto (tgt := 389) hx hb d_MO_item_185 (by decide) ?_
  exact e_v hx hb hr hlk hC hP hS d_MO_item_389 rfl

set_option maxHeartbeats 4000000 in
set_option maxRecDepth 100000 in
theorem m_MO_item_break (l : Launch) (G : WG) (S : SS) (i st : Nat) (hi : i < 128) (hnx : S 44 9 = nI i) (hst9 : st < 1000) (hst : S 44 19 = nI st) (hop : S 45 i = 4) : Cv l y_MO_item b_MO_item 3 3 G [.ref (gA G 44)] S (fun S1 => S1 = moEnds (moStep S i st) 1 0) := by
  refine mk l (by decide +kernel) (Nat.le_of_ble_eq_true rfl) ?_
  intro pp_ ee_ ss_ mm_ be_ me_ co_ ls hx hb hr hlk hml hC hP hS hl
  have hl : lv_has ls 3 [(0, .ref (gA G 44))] := hl
  refine lv_aload_n hx hb d_MO_item_0 rfl (lv_at hl 0 rfl) ?_
  refine r_get hx hb hC hP i_MO (44) (by decide) rfl rfl 9 (by decide) l_MO_86 rfl d_MO_item_1 ?_
  rw [show S 44 9 = nI i from hnx]
  refine lv_istore_n (lv' := [(1, .int (nI i)), (0, .ref (gA G 44))]) hx hb d_MO_item_4 rfl hl (by decide) rfl (fun ls hl => ?_)
  refine lv_aload_n hx hb d_MO_item_5 rfl (lv_at hl 1 rfl) ?_
  refine r_get hx hb hC hP i_MO (44) (by decide) rfl rfl 1 (by decide) l_MO_13 rfl d_MO_item_6 ?_
  refine lv_iload_n hx hb d_MO_item_9 rfl (lv_at hl 0 rfl) ?_
  refine r_ild hx hb hC hP (46) (by decide) rfl i rfl (by omega) (by decide) d_MO_item_10 ?_
  refine lv_istore_n (lv' := [(2, .int (S 46 i)), (1, .int (nI i)), (0, .ref (gA G 44))]) hx hb d_MO_item_11 rfl hl (by decide) rfl (fun ls hl => ?_)
  refine lv_aload_n hx hb d_MO_item_12 rfl (lv_at hl 2 rfl) ?_
  refine lv_dup hx hb d_MO_item_13 rfl ?_
  refine r_get hx hb hC hP i_MO (44) (by decide) rfl rfl 19 (by decide) l_MO_114 rfl d_MO_item_14 ?_
  rw [show S 44 19 = nI st from hst]
  refine lv_iconst (v := 1) hx hb d_MO_item_17 (by decide) ?_
  refine lv_iadd hx hb d_MO_item_18 ?_
  rw [show (nI st) + 1 = nI (st + 1) from nI_1 _]
  refine r_put hx hb hC hP hS i_MO t_MO t_MO_ok n_MO (44) (by decide) rfl rfl 19 (by decide) l_MO_114 rfl rfl rfl (Nat.le_of_ble_eq_true rfl) d_MO_item_19 (fun H locs hP hS => ?_)
  refine lv_aload_n hx hb d_MO_item_22 rfl (lv_at hl 2 rfl) ?_
  refine lv_dup hx hb d_MO_item_23 rfl ?_
  refine r_get hx hb hC hP i_MO (44) (by decide) rfl rfl 9 (by decide) l_MO_86 rfl d_MO_item_24 ?_
  rw [show (su S 44 19 (nI (st + 1))) 44 9 = S 44 9 from by rw [su_int _ _ _ (by decide)]]
  rw [show S 44 9 = nI i from hnx]
  refine lv_iconst (v := 1) hx hb d_MO_item_27 (by decide) ?_
  refine lv_iadd hx hb d_MO_item_28 ?_
  rw [show (nI i) + 1 = nI (i + 1) from nI_1 _]
  refine r_put hx hb hC hP hS i_MO t_MO t_MO_ok n_MO (44) (by decide) rfl rfl 9 (by decide) l_MO_86 rfl rfl rfl (Nat.le_of_ble_eq_true rfl) d_MO_item_29 (fun H locs hP hS => ?_)
  refine lv_aload_n hx hb d_MO_item_32 rfl (lv_at hl 2 rfl) ?_
  refine r_get hx hb hC hP i_MO (44) (by decide) rfl rfl 0 (by decide) l_MO_7 rfl d_MO_item_33 ?_
  refine lv_iload_n hx hb d_MO_item_36 rfl (lv_at hl 1 rfl) ?_
  refine r_ild hx hb hC hP (45) (by decide) rfl i rfl (by omega) (by decide) d_MO_item_37 ?_
  rw [show (su (su S 44 19 (nI (st + 1))) 44 9 (nI (i + 1))) 45 i = S 45 i from by rw [su_cell _ _ _ (by decide), su_cell _ _ _ (by decide)]]
  rw [show S 45 i = 4 from hop]
  refine lv_tableIn (off := 150) (tgt := 188) hx hb d_MO_item_38 (by decide) (by decide) (by decide) (by decide) ?_
  refine lv_aload_n hx hb d_MO_item_188 rfl (lv_at hl 2 rfl) ?_
  refine lv_iconst (v := 1) hx hb d_MO_item_189 (by decide) ?_
  refine lv_iconst (v := 0) hx hb d_MO_item_190 (by decide) ?_
  refine r_v hC hS (r_runV (np := 2) (As := [.int 1, .int 0]) (rest := []) hx hb hml hC hP hS (by decide) rfl rfl (m_MO_ends l G (su (su S 44 19 (nI (st + 1))) 44 9 (nI (i + 1))) 1 0) l_MO_101 im_MO_ends se_MO_ends in_MO c_MO_ends_in (by decide +kernel) ⟨by simp only [rmF]; omega, by simp only [rmF]; omega⟩ rfl hl.1 (Nat.le_of_ble_eq_true rfl) d_MO_item_191 ⟨Nat.le_refl _, Nat.le_refl _⟩) (fun S_191 H locs hw hP hS => ?_)
  rw [hw] at hP
  refine lv_goto (tgt := 389) hx hb d_MO_item_194 (by decide) ?_
  exact e_v hx hb hr hlk hC hP hS d_MO_item_389 rfl

set_option maxHeartbeats 4000000 in
set_option maxRecDepth 100000 in
theorem m_MO_item_next (l : Launch) (G : WG) (S : SS) (i st : Nat) (hi : i < 128) (hnx : S 44 9 = nI i) (hst9 : st < 1000) (hst : S 44 19 = nI st) (hop : S 45 i = 5) : Cv l y_MO_item b_MO_item 3 3 G [.ref (gA G 44)] S (fun S1 => S1 = moEnds (moStep S i st) 2 0) := by
  refine mk l (by decide +kernel) (Nat.le_of_ble_eq_true rfl) ?_
  intro pp_ ee_ ss_ mm_ be_ me_ co_ ls hx hb hr hlk hml hC hP hS hl
  have hl : lv_has ls 3 [(0, .ref (gA G 44))] := hl
  refine lv_aload_n hx hb d_MO_item_0 rfl (lv_at hl 0 rfl) ?_
  refine r_get hx hb hC hP i_MO (44) (by decide) rfl rfl 9 (by decide) l_MO_86 rfl d_MO_item_1 ?_
  rw [show S 44 9 = nI i from hnx]
  refine lv_istore_n (lv' := [(1, .int (nI i)), (0, .ref (gA G 44))]) hx hb d_MO_item_4 rfl hl (by decide) rfl (fun ls hl => ?_)
  refine lv_aload_n hx hb d_MO_item_5 rfl (lv_at hl 1 rfl) ?_
  refine r_get hx hb hC hP i_MO (44) (by decide) rfl rfl 1 (by decide) l_MO_13 rfl d_MO_item_6 ?_
  refine lv_iload_n hx hb d_MO_item_9 rfl (lv_at hl 0 rfl) ?_
  refine r_ild hx hb hC hP (46) (by decide) rfl i rfl (by omega) (by decide) d_MO_item_10 ?_
  refine lv_istore_n (lv' := [(2, .int (S 46 i)), (1, .int (nI i)), (0, .ref (gA G 44))]) hx hb d_MO_item_11 rfl hl (by decide) rfl (fun ls hl => ?_)
  refine lv_aload_n hx hb d_MO_item_12 rfl (lv_at hl 2 rfl) ?_
  refine lv_dup hx hb d_MO_item_13 rfl ?_
  refine r_get hx hb hC hP i_MO (44) (by decide) rfl rfl 19 (by decide) l_MO_114 rfl d_MO_item_14 ?_
  rw [show S 44 19 = nI st from hst]
  refine lv_iconst (v := 1) hx hb d_MO_item_17 (by decide) ?_
  refine lv_iadd hx hb d_MO_item_18 ?_
  rw [show (nI st) + 1 = nI (st + 1) from nI_1 _]
  refine r_put hx hb hC hP hS i_MO t_MO t_MO_ok n_MO (44) (by decide) rfl rfl 19 (by decide) l_MO_114 rfl rfl rfl (Nat.le_of_ble_eq_true rfl) d_MO_item_19 (fun H locs hP hS => ?_)
  refine lv_aload_n hx hb d_MO_item_22 rfl (lv_at hl 2 rfl) ?_
  refine lv_dup hx hb d_MO_item_23 rfl ?_
  refine r_get hx hb hC hP i_MO (44) (by decide) rfl rfl 9 (by decide) l_MO_86 rfl d_MO_item_24 ?_
  rw [show (su S 44 19 (nI (st + 1))) 44 9 = S 44 9 from by rw [su_int _ _ _ (by decide)]]
  rw [show S 44 9 = nI i from hnx]
  refine lv_iconst (v := 1) hx hb d_MO_item_27 (by decide) ?_
  refine lv_iadd hx hb d_MO_item_28 ?_
  rw [show (nI i) + 1 = nI (i + 1) from nI_1 _]
  refine r_put hx hb hC hP hS i_MO t_MO t_MO_ok n_MO (44) (by decide) rfl rfl 9 (by decide) l_MO_86 rfl rfl rfl (Nat.le_of_ble_eq_true rfl) d_MO_item_29 (fun H locs hP hS => ?_)
  refine lv_aload_n hx hb d_MO_item_32 rfl (lv_at hl 2 rfl) ?_
  refine r_get hx hb hC hP i_MO (44) (by decide) rfl rfl 0 (by decide) l_MO_7 rfl d_MO_item_33 ?_
  refine lv_iload_n hx hb d_MO_item_36 rfl (lv_at hl 1 rfl) ?_
  refine r_ild hx hb hC hP (45) (by decide) rfl i rfl (by omega) (by decide) d_MO_item_37 ?_
  rw [show (su (su S 44 19 (nI (st + 1))) 44 9 (nI (i + 1))) 45 i = S 45 i from by rw [su_cell _ _ _ (by decide), su_cell _ _ _ (by decide)]]
  rw [show S 45 i = 5 from hop]
  refine lv_tableIn (off := 159) (tgt := 197) hx hb d_MO_item_38 (by decide) (by decide) (by decide) (by decide) ?_
  refine lv_aload_n hx hb d_MO_item_197 rfl (lv_at hl 2 rfl) ?_
  refine lv_iconst (v := 2) hx hb d_MO_item_198 (by decide) ?_
  refine lv_iconst (v := 0) hx hb d_MO_item_199 (by decide) ?_
  refine r_v hC hS (r_runV (np := 2) (As := [.int 2, .int 0]) (rest := []) hx hb hml hC hP hS (by decide) rfl rfl (m_MO_ends l G (su (su S 44 19 (nI (st + 1))) 44 9 (nI (i + 1))) 2 0) l_MO_101 im_MO_ends se_MO_ends in_MO c_MO_ends_in (by decide +kernel) ⟨by simp only [rmF]; omega, by simp only [rmF]; omega⟩ rfl hl.1 (Nat.le_of_ble_eq_true rfl) d_MO_item_200 ⟨Nat.le_refl _, Nat.le_refl _⟩) (fun S_200 H locs hw hP hS => ?_)
  rw [hw] at hP
  refine lv_goto (tgt := 389) hx hb d_MO_item_203 (by decide) ?_
  exact e_v hx hb hr hlk hC hP hS d_MO_item_389 rfl

set_option maxHeartbeats 4000000 in
set_option maxRecDepth 100000 in
theorem m_MO_item_return (l : Launch) (G : WG) (S : SS) (i st : Nat) (hi : i < 128) (hnx : S 44 9 = nI i) (hst9 : st < 1000) (hst : S 44 19 = nI st) (hop : S 45 i = 6) : Cv l y_MO_item b_MO_item 3 3 G [.ref (gA G 44)] S (fun S1 => S1 = moEnds (moStep S i st) 3 (S 44 10 + S 46 i)) := by
  refine mk l (by decide +kernel) (Nat.le_of_ble_eq_true rfl) ?_
  intro pp_ ee_ ss_ mm_ be_ me_ co_ ls hx hb hr hlk hml hC hP hS hl
  have hl : lv_has ls 3 [(0, .ref (gA G 44))] := hl
  refine lv_aload_n hx hb d_MO_item_0 rfl (lv_at hl 0 rfl) ?_
  refine r_get hx hb hC hP i_MO (44) (by decide) rfl rfl 9 (by decide) l_MO_86 rfl d_MO_item_1 ?_
  rw [show S 44 9 = nI i from hnx]
  refine lv_istore_n (lv' := [(1, .int (nI i)), (0, .ref (gA G 44))]) hx hb d_MO_item_4 rfl hl (by decide) rfl (fun ls hl => ?_)
  refine lv_aload_n hx hb d_MO_item_5 rfl (lv_at hl 1 rfl) ?_
  refine r_get hx hb hC hP i_MO (44) (by decide) rfl rfl 1 (by decide) l_MO_13 rfl d_MO_item_6 ?_
  refine lv_iload_n hx hb d_MO_item_9 rfl (lv_at hl 0 rfl) ?_
  refine r_ild hx hb hC hP (46) (by decide) rfl i rfl (by omega) (by decide) d_MO_item_10 ?_
  refine lv_istore_n (lv' := [(2, .int (S 46 i)), (1, .int (nI i)), (0, .ref (gA G 44))]) hx hb d_MO_item_11 rfl hl (by decide) rfl (fun ls hl => ?_)
  refine lv_aload_n hx hb d_MO_item_12 rfl (lv_at hl 2 rfl) ?_
  refine lv_dup hx hb d_MO_item_13 rfl ?_
  refine r_get hx hb hC hP i_MO (44) (by decide) rfl rfl 19 (by decide) l_MO_114 rfl d_MO_item_14 ?_
  rw [show S 44 19 = nI st from hst]
  refine lv_iconst (v := 1) hx hb d_MO_item_17 (by decide) ?_
  refine lv_iadd hx hb d_MO_item_18 ?_
  rw [show (nI st) + 1 = nI (st + 1) from nI_1 _]
  refine r_put hx hb hC hP hS i_MO t_MO t_MO_ok n_MO (44) (by decide) rfl rfl 19 (by decide) l_MO_114 rfl rfl rfl (Nat.le_of_ble_eq_true rfl) d_MO_item_19 (fun H locs hP hS => ?_)
  refine lv_aload_n hx hb d_MO_item_22 rfl (lv_at hl 2 rfl) ?_
  refine lv_dup hx hb d_MO_item_23 rfl ?_
  refine r_get hx hb hC hP i_MO (44) (by decide) rfl rfl 9 (by decide) l_MO_86 rfl d_MO_item_24 ?_
  rw [show (su S 44 19 (nI (st + 1))) 44 9 = S 44 9 from by rw [su_int _ _ _ (by decide)]]
  rw [show S 44 9 = nI i from hnx]
  refine lv_iconst (v := 1) hx hb d_MO_item_27 (by decide) ?_
  refine lv_iadd hx hb d_MO_item_28 ?_
  rw [show (nI i) + 1 = nI (i + 1) from nI_1 _]
  refine r_put hx hb hC hP hS i_MO t_MO t_MO_ok n_MO (44) (by decide) rfl rfl 9 (by decide) l_MO_86 rfl rfl rfl (Nat.le_of_ble_eq_true rfl) d_MO_item_29 (fun H locs hP hS => ?_)
  refine lv_aload_n hx hb d_MO_item_32 rfl (lv_at hl 2 rfl) ?_
  refine r_get hx hb hC hP i_MO (44) (by decide) rfl rfl 0 (by decide) l_MO_7 rfl d_MO_item_33 ?_
  refine lv_iload_n hx hb d_MO_item_36 rfl (lv_at hl 1 rfl) ?_
  refine r_ild hx hb hC hP (45) (by decide) rfl i rfl (by omega) (by decide) d_MO_item_37 ?_
  rw [show (su (su S 44 19 (nI (st + 1))) 44 9 (nI (i + 1))) 45 i = S 45 i from by rw [su_cell _ _ _ (by decide), su_cell _ _ _ (by decide)]]
  rw [show S 45 i = 6 from hop]
  refine lv_tableIn (off := 168) (tgt := 206) hx hb d_MO_item_38 (by decide) (by decide) (by decide) (by decide) ?_
  refine lv_aload_n hx hb d_MO_item_206 rfl (lv_at hl 2 rfl) ?_
  refine lv_iconst (v := 3) hx hb d_MO_item_207 (by decide) ?_
  refine lv_aload_n hx hb d_MO_item_208 rfl (lv_at hl 2 rfl) ?_
  refine r_get hx hb hC hP i_MO (44) (by decide) rfl rfl 10 (by decide) l_MO_121 rfl d_MO_item_209 ?_
  rw [show (su (su S 44 19 (nI (st + 1))) 44 9 (nI (i + 1))) 44 10 = S 44 10 from by rw [su_int _ _ _ (by decide), su_int _ _ _ (by decide)]]
  refine lv_iload_n hx hb d_MO_item_212 rfl (lv_at hl 0 rfl) ?_
  refine lv_iadd hx hb d_MO_item_213 ?_
  refine r_v hC hS (r_runV (np := 2) (As := [.int 3, .int ((S 44 10) + (S 46 i))]) (rest := []) hx hb hml hC hP hS (by decide) rfl rfl (m_MO_ends l G (su (su S 44 19 (nI (st + 1))) 44 9 (nI (i + 1))) 3 ((S 44 10) + (S 46 i))) l_MO_101 im_MO_ends se_MO_ends in_MO c_MO_ends_in (by decide +kernel) ⟨by simp only [rmF]; omega, by simp only [rmF]; omega⟩ rfl hl.1 (Nat.le_of_ble_eq_true rfl) d_MO_item_214 ⟨Nat.le_refl _, Nat.le_refl _⟩) (fun S_214 H locs hw hP hS => ?_)
  rw [hw] at hP
  refine lv_goto (tgt := 389) hx hb d_MO_item_217 (by decide) ?_
  exact e_v hx hb hr hlk hC hP hS d_MO_item_389 rfl

set_option maxHeartbeats 4000000 in
set_option maxRecDepth 100000 in
theorem m_MO_item_raise (l : Launch) (G : WG) (S : SS) (i st : Nat) (hi : i < 128) (hnx : S 44 9 = nI i) (hst9 : st < 1000) (hst : S 44 19 = nI st) (hop : S 45 i = 7) (n : Nat) (hn6 : n < 600) (hn : S 44 18 = nI n) : Cv l y_MO_item b_MO_item 3 3 G [.ref (gA G 44)] S (fun S1 => S1 = moRaise (moStep S i st) n (S 46 i) 0) := by
  refine mk l (by decide +kernel) (Nat.le_of_ble_eq_true rfl) ?_
  intro pp_ ee_ ss_ mm_ be_ me_ co_ ls hx hb hr hlk hml hC hP hS hl
  have hl : lv_has ls 3 [(0, .ref (gA G 44))] := hl
  refine lv_aload_n hx hb d_MO_item_0 rfl (lv_at hl 0 rfl) ?_
  refine r_get hx hb hC hP i_MO (44) (by decide) rfl rfl 9 (by decide) l_MO_86 rfl d_MO_item_1 ?_
  rw [show S 44 9 = nI i from hnx]
  refine lv_istore_n (lv' := [(1, .int (nI i)), (0, .ref (gA G 44))]) hx hb d_MO_item_4 rfl hl (by decide) rfl (fun ls hl => ?_)
  refine lv_aload_n hx hb d_MO_item_5 rfl (lv_at hl 1 rfl) ?_
  refine r_get hx hb hC hP i_MO (44) (by decide) rfl rfl 1 (by decide) l_MO_13 rfl d_MO_item_6 ?_
  refine lv_iload_n hx hb d_MO_item_9 rfl (lv_at hl 0 rfl) ?_
  refine r_ild hx hb hC hP (46) (by decide) rfl i rfl (by omega) (by decide) d_MO_item_10 ?_
  refine lv_istore_n (lv' := [(2, .int (S 46 i)), (1, .int (nI i)), (0, .ref (gA G 44))]) hx hb d_MO_item_11 rfl hl (by decide) rfl (fun ls hl => ?_)
  refine lv_aload_n hx hb d_MO_item_12 rfl (lv_at hl 2 rfl) ?_
  refine lv_dup hx hb d_MO_item_13 rfl ?_
  refine r_get hx hb hC hP i_MO (44) (by decide) rfl rfl 19 (by decide) l_MO_114 rfl d_MO_item_14 ?_
  rw [show S 44 19 = nI st from hst]
  refine lv_iconst (v := 1) hx hb d_MO_item_17 (by decide) ?_
  refine lv_iadd hx hb d_MO_item_18 ?_
  rw [show (nI st) + 1 = nI (st + 1) from nI_1 _]
  refine r_put hx hb hC hP hS i_MO t_MO t_MO_ok n_MO (44) (by decide) rfl rfl 19 (by decide) l_MO_114 rfl rfl rfl (Nat.le_of_ble_eq_true rfl) d_MO_item_19 (fun H locs hP hS => ?_)
  refine lv_aload_n hx hb d_MO_item_22 rfl (lv_at hl 2 rfl) ?_
  refine lv_dup hx hb d_MO_item_23 rfl ?_
  refine r_get hx hb hC hP i_MO (44) (by decide) rfl rfl 9 (by decide) l_MO_86 rfl d_MO_item_24 ?_
  rw [show (su S 44 19 (nI (st + 1))) 44 9 = S 44 9 from by rw [su_int _ _ _ (by decide)]]
  rw [show S 44 9 = nI i from hnx]
  refine lv_iconst (v := 1) hx hb d_MO_item_27 (by decide) ?_
  refine lv_iadd hx hb d_MO_item_28 ?_
  rw [show (nI i) + 1 = nI (i + 1) from nI_1 _]
  refine r_put hx hb hC hP hS i_MO t_MO t_MO_ok n_MO (44) (by decide) rfl rfl 9 (by decide) l_MO_86 rfl rfl rfl (Nat.le_of_ble_eq_true rfl) d_MO_item_29 (fun H locs hP hS => ?_)
  refine lv_aload_n hx hb d_MO_item_32 rfl (lv_at hl 2 rfl) ?_
  refine r_get hx hb hC hP i_MO (44) (by decide) rfl rfl 0 (by decide) l_MO_7 rfl d_MO_item_33 ?_
  refine lv_iload_n hx hb d_MO_item_36 rfl (lv_at hl 1 rfl) ?_
  refine r_ild hx hb hC hP (45) (by decide) rfl i rfl (by omega) (by decide) d_MO_item_37 ?_
  rw [show (su (su S 44 19 (nI (st + 1))) 44 9 (nI (i + 1))) 45 i = S 45 i from by rw [su_cell _ _ _ (by decide), su_cell _ _ _ (by decide)]]
  rw [show S 45 i = 7 from hop]
  refine lv_tableIn (off := 182) (tgt := 220) hx hb d_MO_item_38 (by decide) (by decide) (by decide) (by decide) ?_
  refine lv_aload_n hx hb d_MO_item_220 rfl (lv_at hl 2 rfl) ?_
  refine lv_iload_n hx hb d_MO_item_221 rfl (lv_at hl 0 rfl) ?_
  refine lv_iconst (v := 0) hx hb d_MO_item_222 (by decide) ?_
  refine r_v hC hS (r_runV (np := 2) (As := [.int (S 46 i), .int 0]) (rest := []) hx hb hml hC hP hS (by decide) rfl rfl (m_MO_raise l G (su (su S 44 19 (nI (st + 1))) 44 9 (nI (i + 1))) n (by omega) (by rw [su_int _ _ _ (by decide), su_int _ _ _ (by decide)]; exact hn) (S 46 i) 0) l_MO_124 im_MO_raise se_MO_raise in_MO c_MO_raise_in (by decide +kernel) ⟨by simp only [rmF]; omega, by simp only [rmF]; omega⟩ rfl hl.1 (Nat.le_of_ble_eq_true rfl) d_MO_item_223 ⟨Nat.le_refl _, Nat.le_refl _⟩) (fun S_223 H locs hw hP hS => ?_)
  rw [hw] at hP
  refine lv_goto (tgt := 389) hx hb d_MO_item_226 (by decide) ?_
  exact e_v hx hb hr hlk hC hP hS d_MO_item_389 rfl

set_option maxHeartbeats 4000000 in
set_option maxRecDepth 100000 in
theorem m_MO_item_wrap (l : Launch) (G : WG) (S : SS) (i st : Nat) (hi : i < 128) (hnx : S 44 9 = nI i) (hst9 : st < 1000) (hst : S 44 19 = nI st) (hop : S 45 i = 8) (n : Nat) (hn6 : n < 600) (hn : S 44 18 = nI n) (D b : Nat) (hD8 : D ≤ 80) (hD : S 44 8 = nI D) (hb9 : b < D) (hk9 : S 48 b = 16) (hno : ∀ j, b < j → j < D → ¬ S 48 j = 16) : Cv l y_MO_item b_MO_item 3 3 G [.ref (gA G 44)] S (fun S1 => S1 = moRaise (moStep S i st) n (S 46 i) (S 50 b)) := by
  refine mk l (by decide +kernel) (Nat.le_of_ble_eq_true rfl) ?_
  intro pp_ ee_ ss_ mm_ be_ me_ co_ ls hx hb hr hlk hml hC hP hS hl
  have hl : lv_has ls 3 [(0, .ref (gA G 44))] := hl
  refine lv_aload_n hx hb d_MO_item_0 rfl (lv_at hl 0 rfl) ?_
  refine r_get hx hb hC hP i_MO (44) (by decide) rfl rfl 9 (by decide) l_MO_86 rfl d_MO_item_1 ?_
  rw [show S 44 9 = nI i from hnx]
  refine lv_istore_n (lv' := [(1, .int (nI i)), (0, .ref (gA G 44))]) hx hb d_MO_item_4 rfl hl (by decide) rfl (fun ls hl => ?_)
  refine lv_aload_n hx hb d_MO_item_5 rfl (lv_at hl 1 rfl) ?_
  refine r_get hx hb hC hP i_MO (44) (by decide) rfl rfl 1 (by decide) l_MO_13 rfl d_MO_item_6 ?_
  refine lv_iload_n hx hb d_MO_item_9 rfl (lv_at hl 0 rfl) ?_
  refine r_ild hx hb hC hP (46) (by decide) rfl i rfl (by omega) (by decide) d_MO_item_10 ?_
  refine lv_istore_n (lv' := [(2, .int (S 46 i)), (1, .int (nI i)), (0, .ref (gA G 44))]) hx hb d_MO_item_11 rfl hl (by decide) rfl (fun ls hl => ?_)
  refine lv_aload_n hx hb d_MO_item_12 rfl (lv_at hl 2 rfl) ?_
  refine lv_dup hx hb d_MO_item_13 rfl ?_
  refine r_get hx hb hC hP i_MO (44) (by decide) rfl rfl 19 (by decide) l_MO_114 rfl d_MO_item_14 ?_
  rw [show S 44 19 = nI st from hst]
  refine lv_iconst (v := 1) hx hb d_MO_item_17 (by decide) ?_
  refine lv_iadd hx hb d_MO_item_18 ?_
  rw [show (nI st) + 1 = nI (st + 1) from nI_1 _]
  refine r_put hx hb hC hP hS i_MO t_MO t_MO_ok n_MO (44) (by decide) rfl rfl 19 (by decide) l_MO_114 rfl rfl rfl (Nat.le_of_ble_eq_true rfl) d_MO_item_19 (fun H locs hP hS => ?_)
  refine lv_aload_n hx hb d_MO_item_22 rfl (lv_at hl 2 rfl) ?_
  refine lv_dup hx hb d_MO_item_23 rfl ?_
  refine r_get hx hb hC hP i_MO (44) (by decide) rfl rfl 9 (by decide) l_MO_86 rfl d_MO_item_24 ?_
  rw [show (su S 44 19 (nI (st + 1))) 44 9 = S 44 9 from by rw [su_int _ _ _ (by decide)]]
  rw [show S 44 9 = nI i from hnx]
  refine lv_iconst (v := 1) hx hb d_MO_item_27 (by decide) ?_
  refine lv_iadd hx hb d_MO_item_28 ?_
  rw [show (nI i) + 1 = nI (i + 1) from nI_1 _]
  refine r_put hx hb hC hP hS i_MO t_MO t_MO_ok n_MO (44) (by decide) rfl rfl 9 (by decide) l_MO_86 rfl rfl rfl (Nat.le_of_ble_eq_true rfl) d_MO_item_29 (fun H locs hP hS => ?_)
  refine lv_aload_n hx hb d_MO_item_32 rfl (lv_at hl 2 rfl) ?_
  refine r_get hx hb hC hP i_MO (44) (by decide) rfl rfl 0 (by decide) l_MO_7 rfl d_MO_item_33 ?_
  refine lv_iload_n hx hb d_MO_item_36 rfl (lv_at hl 1 rfl) ?_
  refine r_ild hx hb hC hP (45) (by decide) rfl i rfl (by omega) (by decide) d_MO_item_37 ?_
  rw [show (su (su S 44 19 (nI (st + 1))) 44 9 (nI (i + 1))) 45 i = S 45 i from by rw [su_cell _ _ _ (by decide), su_cell _ _ _ (by decide)]]
  rw [show S 45 i = 8 from hop]
  refine lv_tableIn (off := 191) (tgt := 229) hx hb d_MO_item_38 (by decide) (by decide) (by decide) (by decide) ?_
  refine lv_aload_n hx hb d_MO_item_229 rfl (lv_at hl 2 rfl) ?_
  refine lv_iload_n hx hb d_MO_item_230 rfl (lv_at hl 0 rfl) ?_
  refine lv_aload_n hx hb d_MO_item_231 rfl (lv_at hl 2 rfl) ?_
  refine r_i hC hS (r_runV (np := 0) (As := []) (rest := [.int (S 46 i), .ref (gA G 44)]) hx hb hml hC hP hS (by decide) rfl rfl (m_MO_caught l G (su (su S 44 19 (nI (st + 1))) 44 9 (nI (i + 1))) D b (by omega) (by rw [su_int _ _ _ (by decide), su_int _ _ _ (by decide)]; exact hD) hb9 (by rw [su_cell _ _ _ (by decide), su_cell _ _ _ (by decide)]; exact hk9) (fun j h1 h2 => by rw [su_cell _ _ _ (by decide), su_cell _ _ _ (by decide)]; exact hno j h1 h2)) l_MO_127 im_MO_caught se_MO_caught in_MO c_MO_caught_in (by decide +kernel) ⟨by simp only [rmF]; omega, by simp only [rmF]; omega⟩ rfl hl.1 (Nat.le_of_ble_eq_true rfl) d_MO_item_232 ⟨Nat.le_refl _, Nat.le_refl _⟩) (fun r_232 S_232 H locs hw hP hS => ?_)
  obtain ⟨rfl, hSe⟩ := hw
  rw [hSe] at hP
  rw [show (su (su S 44 19 (nI (st + 1))) 44 9 (nI (i + 1))) 50 b = S 50 b from by rw [su_cell _ _ _ (by decide), su_cell _ _ _ (by decide)]]
  refine r_v hC hS (r_runV (np := 2) (As := [.int (S 46 i), .int (S 50 b)]) (rest := []) hx hb hml hC hP hS (by decide) rfl rfl (m_MO_raise l G (su (su S 44 19 (nI (st + 1))) 44 9 (nI (i + 1))) n (by omega) (by rw [su_int _ _ _ (by decide), su_int _ _ _ (by decide)]; exact hn) (S 46 i) (S 50 b)) l_MO_124 im_MO_raise se_MO_raise in_MO c_MO_raise_in (by decide +kernel) ⟨by simp only [rmF]; omega, by simp only [rmF]; omega⟩ rfl hl.1 (Nat.le_of_ble_eq_true rfl) d_MO_item_235 ⟨Nat.le_refl _, Nat.le_refl _⟩) (fun S_235 H locs hw hP hS => ?_)
  rw [hw] at hP
  refine lv_goto (tgt := 389) hx hb d_MO_item_238 (by decide) ?_
  exact e_v hx hb hr hlk hC hP hS d_MO_item_389 rfl

set_option maxHeartbeats 4000000 in
set_option maxRecDepth 100000 in
theorem m_MO_item_try (l : Launch) (G : WG) (S : SS) (i st : Nat) (hi : i < 128) (hnx : S 44 9 = nI i) (hst9 : st < 1000) (hst : S 44 19 = nI st) (hop : S 45 i = 9) (D : Nat) (hD8 : D < 80) (hD : S 44 8 = nI D) : Cv l y_MO_item b_MO_item 3 3 G [.ref (gA G 44)] S (fun S1 => S1 = moEnter (moStep S i st) D 9 (nI i) 0) := by
  refine mk l (by decide +kernel) (Nat.le_of_ble_eq_true rfl) ?_
  intro pp_ ee_ ss_ mm_ be_ me_ co_ ls hx hb hr hlk hml hC hP hS hl
  have hl : lv_has ls 3 [(0, .ref (gA G 44))] := hl
  refine lv_aload_n hx hb d_MO_item_0 rfl (lv_at hl 0 rfl) ?_
  refine r_get hx hb hC hP i_MO (44) (by decide) rfl rfl 9 (by decide) l_MO_86 rfl d_MO_item_1 ?_
  rw [show S 44 9 = nI i from hnx]
  refine lv_istore_n (lv' := [(1, .int (nI i)), (0, .ref (gA G 44))]) hx hb d_MO_item_4 rfl hl (by decide) rfl (fun ls hl => ?_)
  refine lv_aload_n hx hb d_MO_item_5 rfl (lv_at hl 1 rfl) ?_
  refine r_get hx hb hC hP i_MO (44) (by decide) rfl rfl 1 (by decide) l_MO_13 rfl d_MO_item_6 ?_
  refine lv_iload_n hx hb d_MO_item_9 rfl (lv_at hl 0 rfl) ?_
  refine r_ild hx hb hC hP (46) (by decide) rfl i rfl (by omega) (by decide) d_MO_item_10 ?_
  refine lv_istore_n (lv' := [(2, .int (S 46 i)), (1, .int (nI i)), (0, .ref (gA G 44))]) hx hb d_MO_item_11 rfl hl (by decide) rfl (fun ls hl => ?_)
  refine lv_aload_n hx hb d_MO_item_12 rfl (lv_at hl 2 rfl) ?_
  refine lv_dup hx hb d_MO_item_13 rfl ?_
  refine r_get hx hb hC hP i_MO (44) (by decide) rfl rfl 19 (by decide) l_MO_114 rfl d_MO_item_14 ?_
  rw [show S 44 19 = nI st from hst]
  refine lv_iconst (v := 1) hx hb d_MO_item_17 (by decide) ?_
  refine lv_iadd hx hb d_MO_item_18 ?_
  rw [show (nI st) + 1 = nI (st + 1) from nI_1 _]
  refine r_put hx hb hC hP hS i_MO t_MO t_MO_ok n_MO (44) (by decide) rfl rfl 19 (by decide) l_MO_114 rfl rfl rfl (Nat.le_of_ble_eq_true rfl) d_MO_item_19 (fun H locs hP hS => ?_)
  refine lv_aload_n hx hb d_MO_item_22 rfl (lv_at hl 2 rfl) ?_
  refine lv_dup hx hb d_MO_item_23 rfl ?_
  refine r_get hx hb hC hP i_MO (44) (by decide) rfl rfl 9 (by decide) l_MO_86 rfl d_MO_item_24 ?_
  rw [show (su S 44 19 (nI (st + 1))) 44 9 = S 44 9 from by rw [su_int _ _ _ (by decide)]]
  rw [show S 44 9 = nI i from hnx]
  refine lv_iconst (v := 1) hx hb d_MO_item_27 (by decide) ?_
  refine lv_iadd hx hb d_MO_item_28 ?_
  rw [show (nI i) + 1 = nI (i + 1) from nI_1 _]
  refine r_put hx hb hC hP hS i_MO t_MO t_MO_ok n_MO (44) (by decide) rfl rfl 9 (by decide) l_MO_86 rfl rfl rfl (Nat.le_of_ble_eq_true rfl) d_MO_item_29 (fun H locs hP hS => ?_)
  refine lv_aload_n hx hb d_MO_item_32 rfl (lv_at hl 2 rfl) ?_
  refine r_get hx hb hC hP i_MO (44) (by decide) rfl rfl 0 (by decide) l_MO_7 rfl d_MO_item_33 ?_
  refine lv_iload_n hx hb d_MO_item_36 rfl (lv_at hl 1 rfl) ?_
  refine r_ild hx hb hC hP (45) (by decide) rfl i rfl (by omega) (by decide) d_MO_item_37 ?_
  rw [show (su (su S 44 19 (nI (st + 1))) 44 9 (nI (i + 1))) 45 i = S 45 i from by rw [su_cell _ _ _ (by decide), su_cell _ _ _ (by decide)]]
  rw [show S 45 i = 9 from hop]
  refine lv_tableIn (off := 203) (tgt := 241) hx hb d_MO_item_38 (by decide) (by decide) (by decide) (by decide) ?_
  refine lv_aload_n hx hb d_MO_item_241 rfl (lv_at hl 2 rfl) ?_
  refine lv_bipush (v := 9) hx hb d_MO_item_242 (by decide) ?_
  refine lv_iload_n hx hb d_MO_item_244 rfl (lv_at hl 1 rfl) ?_
  refine lv_iconst (v := 0) hx hb d_MO_item_245 (by decide) ?_
  refine r_v hC hS (r_runV (np := 3) (As := [.int 9, .int (nI i), .int 0]) (rest := []) hx hb hml hC hP hS (by decide) rfl rfl (m_MO_enter l G (su (su S 44 19 (nI (st + 1))) 44 9 (nI (i + 1))) D (by omega) (by rw [su_int _ _ _ (by decide), su_int _ _ _ (by decide)]; exact hD) 9 (nI i) 0) l_MO_107 im_MO_enter se_MO_enter in_MO c_MO_enter_in (by decide +kernel) ⟨by simp only [rmF]; omega, by simp only [rmF]; omega⟩ rfl hl.1 (Nat.le_of_ble_eq_true rfl) d_MO_item_246 ⟨Nat.le_refl _, Nat.le_refl _⟩) (fun S_246 H locs hw hP hS => ?_)
  rw [hw] at hP
  refine lv_goto (tgt := 389) hx hb d_MO_item_249 (by decide) ?_
  exact e_v hx hb hr hlk hC hP hS d_MO_item_389 rfl

set_option maxHeartbeats 4000000 in
set_option maxRecDepth 100000 in
theorem m_MO_item_lock (l : Launch) (G : WG) (S : SS) (i st : Nat) (hi : i < 128) (hnx : S 44 9 = nI i) (hst9 : st < 1000) (hst : S 44 19 = nI st) (hop : S 45 i = 10) (D : Nat) (hD8 : D < 80) (hD : S 44 8 = nI D) (lo : Nat) (hlo3 : lo < 3) (hlo : S 46 i = nI lo) : Cv l y_MO_item b_MO_item 3 3 G [.ref (gA G 44)] S (fun S1 => S1 = moEnter (moHold (moStep S i st) lo) D 10 (nI i) (nI lo)) := by
  refine mk l (by decide +kernel) (Nat.le_of_ble_eq_true rfl) ?_
  intro pp_ ee_ ss_ mm_ be_ me_ co_ ls hx hb hr hlk hml hC hP hS hl
  have hl : lv_has ls 3 [(0, .ref (gA G 44))] := hl
  refine lv_aload_n hx hb d_MO_item_0 rfl (lv_at hl 0 rfl) ?_
  refine r_get hx hb hC hP i_MO (44) (by decide) rfl rfl 9 (by decide) l_MO_86 rfl d_MO_item_1 ?_
  rw [show S 44 9 = nI i from hnx]
  refine lv_istore_n (lv' := [(1, .int (nI i)), (0, .ref (gA G 44))]) hx hb d_MO_item_4 rfl hl (by decide) rfl (fun ls hl => ?_)
  refine lv_aload_n hx hb d_MO_item_5 rfl (lv_at hl 1 rfl) ?_
  refine r_get hx hb hC hP i_MO (44) (by decide) rfl rfl 1 (by decide) l_MO_13 rfl d_MO_item_6 ?_
  refine lv_iload_n hx hb d_MO_item_9 rfl (lv_at hl 0 rfl) ?_
  refine r_ild hx hb hC hP (46) (by decide) rfl i rfl (by omega) (by decide) d_MO_item_10 ?_
  rw [show S 46 i = nI lo from hlo]
  refine lv_istore_n (lv' := [(2, .int (nI lo)), (1, .int (nI i)), (0, .ref (gA G 44))]) hx hb d_MO_item_11 rfl hl (by decide) rfl (fun ls hl => ?_)
  refine lv_aload_n hx hb d_MO_item_12 rfl (lv_at hl 2 rfl) ?_
  refine lv_dup hx hb d_MO_item_13 rfl ?_
  refine r_get hx hb hC hP i_MO (44) (by decide) rfl rfl 19 (by decide) l_MO_114 rfl d_MO_item_14 ?_
  rw [show S 44 19 = nI st from hst]
  refine lv_iconst (v := 1) hx hb d_MO_item_17 (by decide) ?_
  refine lv_iadd hx hb d_MO_item_18 ?_
  rw [show (nI st) + 1 = nI (st + 1) from nI_1 _]
  refine r_put hx hb hC hP hS i_MO t_MO t_MO_ok n_MO (44) (by decide) rfl rfl 19 (by decide) l_MO_114 rfl rfl rfl (Nat.le_of_ble_eq_true rfl) d_MO_item_19 (fun H locs hP hS => ?_)
  refine lv_aload_n hx hb d_MO_item_22 rfl (lv_at hl 2 rfl) ?_
  refine lv_dup hx hb d_MO_item_23 rfl ?_
  refine r_get hx hb hC hP i_MO (44) (by decide) rfl rfl 9 (by decide) l_MO_86 rfl d_MO_item_24 ?_
  rw [show (su S 44 19 (nI (st + 1))) 44 9 = S 44 9 from by rw [su_int _ _ _ (by decide)]]
  rw [show S 44 9 = nI i from hnx]
  refine lv_iconst (v := 1) hx hb d_MO_item_27 (by decide) ?_
  refine lv_iadd hx hb d_MO_item_28 ?_
  rw [show (nI i) + 1 = nI (i + 1) from nI_1 _]
  refine r_put hx hb hC hP hS i_MO t_MO t_MO_ok n_MO (44) (by decide) rfl rfl 9 (by decide) l_MO_86 rfl rfl rfl (Nat.le_of_ble_eq_true rfl) d_MO_item_29 (fun H locs hP hS => ?_)
  refine lv_aload_n hx hb d_MO_item_32 rfl (lv_at hl 2 rfl) ?_
  refine r_get hx hb hC hP i_MO (44) (by decide) rfl rfl 0 (by decide) l_MO_7 rfl d_MO_item_33 ?_
  refine lv_iload_n hx hb d_MO_item_36 rfl (lv_at hl 1 rfl) ?_
  refine r_ild hx hb hC hP (45) (by decide) rfl i rfl (by omega) (by decide) d_MO_item_37 ?_
  rw [show (su (su S 44 19 (nI (st + 1))) 44 9 (nI (i + 1))) 45 i = S 45 i from by rw [su_cell _ _ _ (by decide), su_cell _ _ _ (by decide)]]
  rw [show S 45 i = 10 from hop]
  refine lv_tableIn (off := 214) (tgt := 252) hx hb d_MO_item_38 (by decide) (by decide) (by decide) (by decide) ?_
  refine lv_aload_n hx hb d_MO_item_252 rfl (lv_at hl 2 rfl) ?_
  refine lv_iload_n hx hb d_MO_item_253 rfl (lv_at hl 0 rfl) ?_
  refine r_v hC hS (r_runV (np := 1) (As := [.int (nI lo)]) (rest := []) hx hb hml hC hP hS (by decide) rfl rfl (m_MO_hold l G (su (su S 44 19 (nI (st + 1))) 44 9 (nI (i + 1))) lo (by omega)) l_MO_131 im_MO_hold se_MO_hold in_MO c_MO_hold_in (by decide +kernel) ⟨by simp only [rmF]; omega, by simp only [rmF]; omega⟩ rfl hl.1 (Nat.le_of_ble_eq_true rfl) d_MO_item_254 ⟨Nat.le_refl _, Nat.le_refl _⟩) (fun S_254 H locs hw hP hS => ?_)
  rw [hw] at hP
  refine lv_aload_n hx hb d_MO_item_257 rfl (lv_at hl 2 rfl) ?_
  refine lv_bipush (v := 10) hx hb d_MO_item_258 (by decide) ?_
  refine lv_iload_n hx hb d_MO_item_260 rfl (lv_at hl 1 rfl) ?_
  refine lv_iload_n hx hb d_MO_item_261 rfl (lv_at hl 0 rfl) ?_
  refine r_v hC hS (r_runV (np := 3) (As := [.int 10, .int (nI i), .int (nI lo)]) (rest := []) hx hb hml hC hP hS (by decide) rfl rfl (m_MO_enter l G (moHold (su (su S 44 19 (nI (st + 1))) 44 9 (nI (i + 1))) lo) D (by omega) (by rw [moHold_k _ _ (by omega), su_int _ _ _ (by decide), su_int _ _ _ (by decide)]; exact hD) 10 (nI i) (nI lo)) l_MO_107 im_MO_enter se_MO_enter in_MO c_MO_enter_in (by decide +kernel) ⟨by simp only [rmF]; omega, by simp only [rmF]; omega⟩ rfl hl.1 (Nat.le_of_ble_eq_true rfl) d_MO_item_262 ⟨Nat.le_refl _, Nat.le_refl _⟩) (fun S_262 H locs hw hP hS => ?_)
  rw [hw] at hP
  refine lv_goto (tgt := 389) hx hb d_MO_item_265 (by decide) ?_
  exact e_v hx hb hr hlk hC hP hS d_MO_item_389 rfl

set_option maxHeartbeats 4000000 in
set_option maxRecDepth 100000 in
theorem m_MO_item_enter (l : Launch) (G : WG) (S : SS) (i st : Nat) (hi : i < 128) (hnx : S 44 9 = nI i) (hst9 : st < 1000) (hst : S 44 19 = nI st) (hop : S 45 i = 11) (lo : Nat) (hlo3 : lo < 3) (hlo : S 46 i = nI lo) (q : Nat) (hq6 : q < 6) (hq : S 44 13 = nI (q + 1)) : Cv l y_MO_item b_MO_item 3 3 G [.ref (gA G 44)] S (fun S1 => S1 = su (moHold (moStep S i st) lo) 52 (3 * q + lo) (S 52 (3 * q + lo) + 1)) := by
  refine mk l (by decide +kernel) (Nat.le_of_ble_eq_true rfl) ?_
  intro pp_ ee_ ss_ mm_ be_ me_ co_ ls hx hb hr hlk hml hC hP hS hl
  have hl : lv_has ls 3 [(0, .ref (gA G 44))] := hl
  refine lv_aload_n hx hb d_MO_item_0 rfl (lv_at hl 0 rfl) ?_
  refine r_get hx hb hC hP i_MO (44) (by decide) rfl rfl 9 (by decide) l_MO_86 rfl d_MO_item_1 ?_
  rw [show S 44 9 = nI i from hnx]
  refine lv_istore_n (lv' := [(1, .int (nI i)), (0, .ref (gA G 44))]) hx hb d_MO_item_4 rfl hl (by decide) rfl (fun ls hl => ?_)
  refine lv_aload_n hx hb d_MO_item_5 rfl (lv_at hl 1 rfl) ?_
  refine r_get hx hb hC hP i_MO (44) (by decide) rfl rfl 1 (by decide) l_MO_13 rfl d_MO_item_6 ?_
  refine lv_iload_n hx hb d_MO_item_9 rfl (lv_at hl 0 rfl) ?_
  refine r_ild hx hb hC hP (46) (by decide) rfl i rfl (by omega) (by decide) d_MO_item_10 ?_
  rw [show S 46 i = nI lo from hlo]
  refine lv_istore_n (lv' := [(2, .int (nI lo)), (1, .int (nI i)), (0, .ref (gA G 44))]) hx hb d_MO_item_11 rfl hl (by decide) rfl (fun ls hl => ?_)
  refine lv_aload_n hx hb d_MO_item_12 rfl (lv_at hl 2 rfl) ?_
  refine lv_dup hx hb d_MO_item_13 rfl ?_
  refine r_get hx hb hC hP i_MO (44) (by decide) rfl rfl 19 (by decide) l_MO_114 rfl d_MO_item_14 ?_
  rw [show S 44 19 = nI st from hst]
  refine lv_iconst (v := 1) hx hb d_MO_item_17 (by decide) ?_
  refine lv_iadd hx hb d_MO_item_18 ?_
  rw [show (nI st) + 1 = nI (st + 1) from nI_1 _]
  refine r_put hx hb hC hP hS i_MO t_MO t_MO_ok n_MO (44) (by decide) rfl rfl 19 (by decide) l_MO_114 rfl rfl rfl (Nat.le_of_ble_eq_true rfl) d_MO_item_19 (fun H locs hP hS => ?_)
  refine lv_aload_n hx hb d_MO_item_22 rfl (lv_at hl 2 rfl) ?_
  refine lv_dup hx hb d_MO_item_23 rfl ?_
  refine r_get hx hb hC hP i_MO (44) (by decide) rfl rfl 9 (by decide) l_MO_86 rfl d_MO_item_24 ?_
  rw [show (su S 44 19 (nI (st + 1))) 44 9 = S 44 9 from by rw [su_int _ _ _ (by decide)]]
  rw [show S 44 9 = nI i from hnx]
  refine lv_iconst (v := 1) hx hb d_MO_item_27 (by decide) ?_
  refine lv_iadd hx hb d_MO_item_28 ?_
  rw [show (nI i) + 1 = nI (i + 1) from nI_1 _]
  refine r_put hx hb hC hP hS i_MO t_MO t_MO_ok n_MO (44) (by decide) rfl rfl 9 (by decide) l_MO_86 rfl rfl rfl (Nat.le_of_ble_eq_true rfl) d_MO_item_29 (fun H locs hP hS => ?_)
  refine lv_aload_n hx hb d_MO_item_32 rfl (lv_at hl 2 rfl) ?_
  refine r_get hx hb hC hP i_MO (44) (by decide) rfl rfl 0 (by decide) l_MO_7 rfl d_MO_item_33 ?_
  refine lv_iload_n hx hb d_MO_item_36 rfl (lv_at hl 1 rfl) ?_
  refine r_ild hx hb hC hP (45) (by decide) rfl i rfl (by omega) (by decide) d_MO_item_37 ?_
  rw [show (su (su S 44 19 (nI (st + 1))) 44 9 (nI (i + 1))) 45 i = S 45 i from by rw [su_cell _ _ _ (by decide), su_cell _ _ _ (by decide)]]
  rw [show S 45 i = 11 from hop]
  refine lv_tableIn (off := 230) (tgt := 268) hx hb d_MO_item_38 (by decide) (by decide) (by decide) (by decide) ?_
  refine lv_aload_n hx hb d_MO_item_268 rfl (lv_at hl 2 rfl) ?_
  refine lv_iload_n hx hb d_MO_item_269 rfl (lv_at hl 0 rfl) ?_
  refine r_v hC hS (r_runV (np := 1) (As := [.int (nI lo)]) (rest := []) hx hb hml hC hP hS (by decide) rfl rfl (m_MO_hold l G (su (su S 44 19 (nI (st + 1))) 44 9 (nI (i + 1))) lo (by omega)) l_MO_131 im_MO_hold se_MO_hold in_MO c_MO_hold_in (by decide +kernel) ⟨by simp only [rmF]; omega, by simp only [rmF]; omega⟩ rfl hl.1 (Nat.le_of_ble_eq_true rfl) d_MO_item_270 ⟨Nat.le_refl _, Nat.le_refl _⟩) (fun S_270 H locs hw hP hS => ?_)
  rw [hw] at hP
  refine lv_aload_n hx hb d_MO_item_273 rfl (lv_at hl 2 rfl) ?_
  refine r_get hx hb hC hP i_MO (44) (by decide) rfl rfl 14 (by decide) l_MO_35 rfl d_MO_item_274 ?_
  refine lv_iconst (v := 3) hx hb d_MO_item_277 (by decide) ?_
  refine lv_aload_n hx hb d_MO_item_278 rfl (lv_at hl 2 rfl) ?_
  refine r_get hx hb hC hP i_MO (44) (by decide) rfl rfl 13 (by decide) l_MO_111 rfl d_MO_item_279 ?_
  rw [show (moHold (su (su S 44 19 (nI (st + 1))) 44 9 (nI (i + 1))) lo) 44 13 = S 44 13 from by rw [moHold_k _ _ (by omega), su_int _ _ _ (by decide), su_int _ _ _ (by decide)]]
  rw [show S 44 13 = nI (q + 1) from hq]
  refine lv_imul hx hb d_MO_item_282 ?_
  refine lv_iconst (v := 3) hx hb d_MO_item_283 (by decide) ?_
  refine lv_isub hx hb d_MO_item_284 ?_
  refine lv_iload_n hx hb d_MO_item_285 rfl (lv_at hl 0 rfl) ?_
  refine lv_iadd hx hb d_MO_item_286 ?_
  rw [show ((3 * (nI (q + 1))) - 3) + (nI lo) = nI (3 * q + lo) from (nI_lv q lo)]
  refine lv_dup2_11 hx hb d_MO_item_287 rfl rfl ?_
  refine r_ild hx hb hC hP (52) (by decide) rfl (3 * q + lo) rfl (by omega) (by decide) d_MO_item_288 ?_
  rw [show (moHold (su (su S 44 19 (nI (st + 1))) 44 9 (nI (i + 1))) lo) 52 (3 * q + lo) = S 52 (3 * q + lo) from by rw [moHold_k _ _ (by omega), su_cell _ _ _ (by decide), su_cell _ _ _ (by decide)]]
  refine lv_iconst (v := 1) hx hb d_MO_item_289 (by decide) ?_
  refine lv_iadd hx hb d_MO_item_290 ?_
  refine r_ist hx hb hC hP hS (52) (by decide) (fun _ => rfl) (3 * q + lo) rfl (by omega) (by decide) d_MO_item_291 (fun H locs hP hS => ?_)
  refine lv_goto (tgt := 389) hx hb d_MO_item_292 (by decide) ?_
  exact e_v hx hb hr hlk hC hP hS d_MO_item_389 rfl

set_option maxHeartbeats 4000000 in
set_option maxRecDepth 100000 in
theorem m_MO_item_leave (l : Launch) (G : WG) (S : SS) (i st : Nat) (hi : i < 128) (hnx : S 44 9 = nI i) (hst9 : st < 1000) (hst : S 44 19 = nI st) (hop : S 45 i = 12) (lo : Nat) (hlo3 : lo < 3) (hlo : S 46 i = nI lo) (q : Nat) (hq6 : q < 6) (hq : S 44 13 = nI (q + 1)) (n : Nat) (hn6 : n < 600) (hn : S 44 18 = nI n) : Cv l y_MO_item b_MO_item 3 3 G [.ref (gA G 44)] S (fun S1 => S1 = moLeave (moStep S i st) q lo n) := by
  refine mk l (by decide +kernel) (Nat.le_of_ble_eq_true rfl) ?_
  intro pp_ ee_ ss_ mm_ be_ me_ co_ ls hx hb hr hlk hml hC hP hS hl
  have hl : lv_has ls 3 [(0, .ref (gA G 44))] := hl
  refine lv_aload_n hx hb d_MO_item_0 rfl (lv_at hl 0 rfl) ?_
  refine r_get hx hb hC hP i_MO (44) (by decide) rfl rfl 9 (by decide) l_MO_86 rfl d_MO_item_1 ?_
  rw [show S 44 9 = nI i from hnx]
  refine lv_istore_n (lv' := [(1, .int (nI i)), (0, .ref (gA G 44))]) hx hb d_MO_item_4 rfl hl (by decide) rfl (fun ls hl => ?_)
  refine lv_aload_n hx hb d_MO_item_5 rfl (lv_at hl 1 rfl) ?_
  refine r_get hx hb hC hP i_MO (44) (by decide) rfl rfl 1 (by decide) l_MO_13 rfl d_MO_item_6 ?_
  refine lv_iload_n hx hb d_MO_item_9 rfl (lv_at hl 0 rfl) ?_
  refine r_ild hx hb hC hP (46) (by decide) rfl i rfl (by omega) (by decide) d_MO_item_10 ?_
  rw [show S 46 i = nI lo from hlo]
  refine lv_istore_n (lv' := [(2, .int (nI lo)), (1, .int (nI i)), (0, .ref (gA G 44))]) hx hb d_MO_item_11 rfl hl (by decide) rfl (fun ls hl => ?_)
  refine lv_aload_n hx hb d_MO_item_12 rfl (lv_at hl 2 rfl) ?_
  refine lv_dup hx hb d_MO_item_13 rfl ?_
  refine r_get hx hb hC hP i_MO (44) (by decide) rfl rfl 19 (by decide) l_MO_114 rfl d_MO_item_14 ?_
  rw [show S 44 19 = nI st from hst]
  refine lv_iconst (v := 1) hx hb d_MO_item_17 (by decide) ?_
  refine lv_iadd hx hb d_MO_item_18 ?_
  rw [show (nI st) + 1 = nI (st + 1) from nI_1 _]
  refine r_put hx hb hC hP hS i_MO t_MO t_MO_ok n_MO (44) (by decide) rfl rfl 19 (by decide) l_MO_114 rfl rfl rfl (Nat.le_of_ble_eq_true rfl) d_MO_item_19 (fun H locs hP hS => ?_)
  refine lv_aload_n hx hb d_MO_item_22 rfl (lv_at hl 2 rfl) ?_
  refine lv_dup hx hb d_MO_item_23 rfl ?_
  refine r_get hx hb hC hP i_MO (44) (by decide) rfl rfl 9 (by decide) l_MO_86 rfl d_MO_item_24 ?_
  rw [show (su S 44 19 (nI (st + 1))) 44 9 = S 44 9 from by rw [su_int _ _ _ (by decide)]]
  rw [show S 44 9 = nI i from hnx]
  refine lv_iconst (v := 1) hx hb d_MO_item_27 (by decide) ?_
  refine lv_iadd hx hb d_MO_item_28 ?_
  rw [show (nI i) + 1 = nI (i + 1) from nI_1 _]
  refine r_put hx hb hC hP hS i_MO t_MO t_MO_ok n_MO (44) (by decide) rfl rfl 9 (by decide) l_MO_86 rfl rfl rfl (Nat.le_of_ble_eq_true rfl) d_MO_item_29 (fun H locs hP hS => ?_)
  refine lv_aload_n hx hb d_MO_item_32 rfl (lv_at hl 2 rfl) ?_
  refine r_get hx hb hC hP i_MO (44) (by decide) rfl rfl 0 (by decide) l_MO_7 rfl d_MO_item_33 ?_
  refine lv_iload_n hx hb d_MO_item_36 rfl (lv_at hl 1 rfl) ?_
  refine r_ild hx hb hC hP (45) (by decide) rfl i rfl (by omega) (by decide) d_MO_item_37 ?_
  rw [show (su (su S 44 19 (nI (st + 1))) 44 9 (nI (i + 1))) 45 i = S 45 i from by rw [su_cell _ _ _ (by decide), su_cell _ _ _ (by decide)]]
  rw [show S 45 i = 12 from hop]
  refine lv_tableIn (off := 257) (tgt := 295) hx hb d_MO_item_38 (by decide) (by decide) (by decide) (by decide) ?_
  refine lv_aload_n hx hb d_MO_item_295 rfl (lv_at hl 2 rfl) ?_
  refine lv_iload_n hx hb d_MO_item_296 rfl (lv_at hl 0 rfl) ?_
  refine r_v hC hS (r_runV (np := 1) (As := [.int (nI lo)]) (rest := []) hx hb hml hC hP hS (by decide) rfl rfl (m_MO_leave l G (su (su S 44 19 (nI (st + 1))) 44 9 (nI (i + 1))) q lo n (by omega) (by rw [su_int _ _ _ (by decide), su_int _ _ _ (by decide)]; exact hn) (by omega) (by rw [su_int _ _ _ (by decide), su_int _ _ _ (by decide)]; exact hq) (by omega)) l_MO_134 im_MO_leave se_MO_leave in_MO c_MO_leave_in (by decide +kernel) ⟨by simp only [rmF]; omega, by simp only [rmF]; omega⟩ rfl hl.1 (Nat.le_of_ble_eq_true rfl) d_MO_item_297 ⟨Nat.le_refl _, Nat.le_refl _⟩) (fun S_297 H locs hw hP hS => ?_)
  rw [hw] at hP
  refine lv_goto (tgt := 389) hx hb d_MO_item_300 (by decide) ?_
  exact e_v hx hb hr hlk hC hP hS d_MO_item_389 rfl

set_option maxHeartbeats 4000000 in
set_option maxRecDepth 100000 in
theorem m_MO_item_deep (l : Launch) (G : WG) (S : SS) (i st : Nat) (hi : i < 128) (hnx : S 44 9 = nI i) (hst9 : st < 1000) (hst : S 44 19 = nI st) (hop : S 45 i = 13) (pr : Nat) (hpr4 : pr < 4) (hpr : S 46 i = nI pr) (n : Nat) (hn6 : n < 600) (hn : S 44 18 = nI n) (hq : S 44 13 = 6) : Cv l y_MO_item b_MO_item 3 3 G [.ref (gA G 44)] S (fun S1 => S1 = moRaise (moStep S i st) n 5 0) := by
  refine mk l (by decide +kernel) (Nat.le_of_ble_eq_true rfl) ?_
  intro pp_ ee_ ss_ mm_ be_ me_ co_ ls hx hb hr hlk hml hC hP hS hl
  have hl : lv_has ls 3 [(0, .ref (gA G 44))] := hl
  refine lv_aload_n hx hb d_MO_item_0 rfl (lv_at hl 0 rfl) ?_
  refine r_get hx hb hC hP i_MO (44) (by decide) rfl rfl 9 (by decide) l_MO_86 rfl d_MO_item_1 ?_
  rw [show S 44 9 = nI i from hnx]
  refine lv_istore_n (lv' := [(1, .int (nI i)), (0, .ref (gA G 44))]) hx hb d_MO_item_4 rfl hl (by decide) rfl (fun ls hl => ?_)
  refine lv_aload_n hx hb d_MO_item_5 rfl (lv_at hl 1 rfl) ?_
  refine r_get hx hb hC hP i_MO (44) (by decide) rfl rfl 1 (by decide) l_MO_13 rfl d_MO_item_6 ?_
  refine lv_iload_n hx hb d_MO_item_9 rfl (lv_at hl 0 rfl) ?_
  refine r_ild hx hb hC hP (46) (by decide) rfl i rfl (by omega) (by decide) d_MO_item_10 ?_
  rw [show S 46 i = nI pr from hpr]
  refine lv_istore_n (lv' := [(2, .int (nI pr)), (1, .int (nI i)), (0, .ref (gA G 44))]) hx hb d_MO_item_11 rfl hl (by decide) rfl (fun ls hl => ?_)
  refine lv_aload_n hx hb d_MO_item_12 rfl (lv_at hl 2 rfl) ?_
  refine lv_dup hx hb d_MO_item_13 rfl ?_
  refine r_get hx hb hC hP i_MO (44) (by decide) rfl rfl 19 (by decide) l_MO_114 rfl d_MO_item_14 ?_
  rw [show S 44 19 = nI st from hst]
  refine lv_iconst (v := 1) hx hb d_MO_item_17 (by decide) ?_
  refine lv_iadd hx hb d_MO_item_18 ?_
  rw [show (nI st) + 1 = nI (st + 1) from nI_1 _]
  refine r_put hx hb hC hP hS i_MO t_MO t_MO_ok n_MO (44) (by decide) rfl rfl 19 (by decide) l_MO_114 rfl rfl rfl (Nat.le_of_ble_eq_true rfl) d_MO_item_19 (fun H locs hP hS => ?_)
  refine lv_aload_n hx hb d_MO_item_22 rfl (lv_at hl 2 rfl) ?_
  refine lv_dup hx hb d_MO_item_23 rfl ?_
  refine r_get hx hb hC hP i_MO (44) (by decide) rfl rfl 9 (by decide) l_MO_86 rfl d_MO_item_24 ?_
  rw [show (su S 44 19 (nI (st + 1))) 44 9 = S 44 9 from by rw [su_int _ _ _ (by decide)]]
  rw [show S 44 9 = nI i from hnx]
  refine lv_iconst (v := 1) hx hb d_MO_item_27 (by decide) ?_
  refine lv_iadd hx hb d_MO_item_28 ?_
  rw [show (nI i) + 1 = nI (i + 1) from nI_1 _]
  refine r_put hx hb hC hP hS i_MO t_MO t_MO_ok n_MO (44) (by decide) rfl rfl 9 (by decide) l_MO_86 rfl rfl rfl (Nat.le_of_ble_eq_true rfl) d_MO_item_29 (fun H locs hP hS => ?_)
  refine lv_aload_n hx hb d_MO_item_32 rfl (lv_at hl 2 rfl) ?_
  refine r_get hx hb hC hP i_MO (44) (by decide) rfl rfl 0 (by decide) l_MO_7 rfl d_MO_item_33 ?_
  refine lv_iload_n hx hb d_MO_item_36 rfl (lv_at hl 1 rfl) ?_
  refine r_ild hx hb hC hP (45) (by decide) rfl i rfl (by omega) (by decide) d_MO_item_37 ?_
  rw [show (su (su S 44 19 (nI (st + 1))) 44 9 (nI (i + 1))) 45 i = S 45 i from by rw [su_cell _ _ _ (by decide), su_cell _ _ _ (by decide)]]
  rw [show S 45 i = 13 from hop]
  refine lv_tableIn (off := 265) (tgt := 303) hx hb d_MO_item_38 (by decide) (by decide) (by decide) (by decide) ?_
  refine lv_aload_n hx hb d_MO_item_303 rfl (lv_at hl 2 rfl) ?_
  refine r_get hx hb hC hP i_MO (44) (by decide) rfl rfl 13 (by decide) l_MO_111 rfl d_MO_item_304 ?_
  rw [show (su (su S 44 19 (nI (st + 1))) 44 9 (nI (i + 1))) 44 13 = S 44 13 from by rw [su_int _ _ _ (by decide), su_int _ _ _ (by decide)]]
  rw [show S 44 13 = 6 from hq]
  refine lv_bipush (v := 6) hx hb d_MO_item_307 (by decide) ?_
  refine lv_icmp_ne (tgt := 321) hx hb d_MO_item_309 (by decide) (fun h => absurd h (by decide)) (fun _ => ?_)
  refine lv_aload_n hx hb d_MO_item_312 rfl (lv_at hl 2 rfl) ?_
  refine lv_iconst (v := 5) hx hb d_MO_item_313 (by decide) ?_
  refine lv_iconst (v := 0) hx hb d_MO_item_314 (by decide) ?_
  refine r_v hC hS (r_runV (np := 2) (As := [.int 5, .int 0]) (rest := []) hx hb hml hC hP hS (by decide) rfl rfl (m_MO_raise l G (su (su S 44 19 (nI (st + 1))) 44 9 (nI (i + 1))) n (by omega) (by rw [su_int _ _ _ (by decide), su_int _ _ _ (by decide)]; exact hn) 5 0) l_MO_124 im_MO_raise se_MO_raise in_MO c_MO_raise_in (by decide +kernel) ⟨by simp only [rmF]; omega, by simp only [rmF]; omega⟩ rfl hl.1 (Nat.le_of_ble_eq_true rfl) d_MO_item_315 ⟨Nat.le_refl _, Nat.le_refl _⟩) (fun S_315 H locs hw hP hS => ?_)
  rw [hw] at hP
  refine lv_goto (tgt := 389) hx hb d_MO_item_318 (by decide) ?_
  exact e_v hx hb hr hlk hC hP hS d_MO_item_389 rfl

set_option maxHeartbeats 4000000 in
set_option maxRecDepth 100000 in
theorem m_MO_item_empty (l : Launch) (G : WG) (S : SS) (i st : Nat) (hi : i < 128) (hnx : S 44 9 = nI i) (hst9 : st < 1000) (hst : S 44 19 = nI st) (hop : S 45 i = 13) (pr : Nat) (hpr4 : pr < 4) (hpr : S 46 i = nI pr) (q : Nat) (hq6 : q < 6) (hq : S 44 13 = nI q) (hsz : S 47 pr = 0) : Cv l y_MO_item b_MO_item 3 3 G [.ref (gA G 44)] S (fun S1 => S1 = moStep S i st) := by
  refine mk l (by decide +kernel) (Nat.le_of_ble_eq_true rfl) ?_
  intro pp_ ee_ ss_ mm_ be_ me_ co_ ls hx hb hr hlk hml hC hP hS hl
  have hl : lv_has ls 3 [(0, .ref (gA G 44))] := hl
  refine lv_aload_n hx hb d_MO_item_0 rfl (lv_at hl 0 rfl) ?_
  refine r_get hx hb hC hP i_MO (44) (by decide) rfl rfl 9 (by decide) l_MO_86 rfl d_MO_item_1 ?_
  rw [show S 44 9 = nI i from hnx]
  refine lv_istore_n (lv' := [(1, .int (nI i)), (0, .ref (gA G 44))]) hx hb d_MO_item_4 rfl hl (by decide) rfl (fun ls hl => ?_)
  refine lv_aload_n hx hb d_MO_item_5 rfl (lv_at hl 1 rfl) ?_
  refine r_get hx hb hC hP i_MO (44) (by decide) rfl rfl 1 (by decide) l_MO_13 rfl d_MO_item_6 ?_
  refine lv_iload_n hx hb d_MO_item_9 rfl (lv_at hl 0 rfl) ?_
  refine r_ild hx hb hC hP (46) (by decide) rfl i rfl (by omega) (by decide) d_MO_item_10 ?_
  rw [show S 46 i = nI pr from hpr]
  refine lv_istore_n (lv' := [(2, .int (nI pr)), (1, .int (nI i)), (0, .ref (gA G 44))]) hx hb d_MO_item_11 rfl hl (by decide) rfl (fun ls hl => ?_)
  refine lv_aload_n hx hb d_MO_item_12 rfl (lv_at hl 2 rfl) ?_
  refine lv_dup hx hb d_MO_item_13 rfl ?_
  refine r_get hx hb hC hP i_MO (44) (by decide) rfl rfl 19 (by decide) l_MO_114 rfl d_MO_item_14 ?_
  rw [show S 44 19 = nI st from hst]
  refine lv_iconst (v := 1) hx hb d_MO_item_17 (by decide) ?_
  refine lv_iadd hx hb d_MO_item_18 ?_
  rw [show (nI st) + 1 = nI (st + 1) from nI_1 _]
  refine r_put hx hb hC hP hS i_MO t_MO t_MO_ok n_MO (44) (by decide) rfl rfl 19 (by decide) l_MO_114 rfl rfl rfl (Nat.le_of_ble_eq_true rfl) d_MO_item_19 (fun H locs hP hS => ?_)
  refine lv_aload_n hx hb d_MO_item_22 rfl (lv_at hl 2 rfl) ?_
  refine lv_dup hx hb d_MO_item_23 rfl ?_
  refine r_get hx hb hC hP i_MO (44) (by decide) rfl rfl 9 (by decide) l_MO_86 rfl d_MO_item_24 ?_
  rw [show (su S 44 19 (nI (st + 1))) 44 9 = S 44 9 from by rw [su_int _ _ _ (by decide)]]
  rw [show S 44 9 = nI i from hnx]
  refine lv_iconst (v := 1) hx hb d_MO_item_27 (by decide) ?_
  refine lv_iadd hx hb d_MO_item_28 ?_
  rw [show (nI i) + 1 = nI (i + 1) from nI_1 _]
  refine r_put hx hb hC hP hS i_MO t_MO t_MO_ok n_MO (44) (by decide) rfl rfl 9 (by decide) l_MO_86 rfl rfl rfl (Nat.le_of_ble_eq_true rfl) d_MO_item_29 (fun H locs hP hS => ?_)
  refine lv_aload_n hx hb d_MO_item_32 rfl (lv_at hl 2 rfl) ?_
  refine r_get hx hb hC hP i_MO (44) (by decide) rfl rfl 0 (by decide) l_MO_7 rfl d_MO_item_33 ?_
  refine lv_iload_n hx hb d_MO_item_36 rfl (lv_at hl 1 rfl) ?_
  refine r_ild hx hb hC hP (45) (by decide) rfl i rfl (by omega) (by decide) d_MO_item_37 ?_
  rw [show (su (su S 44 19 (nI (st + 1))) 44 9 (nI (i + 1))) 45 i = S 45 i from by rw [su_cell _ _ _ (by decide), su_cell _ _ _ (by decide)]]
  rw [show S 45 i = 13 from hop]
  refine lv_tableIn (off := 265) (tgt := 303) hx hb d_MO_item_38 (by decide) (by decide) (by decide) (by decide) ?_
  refine lv_aload_n hx hb d_MO_item_303 rfl (lv_at hl 2 rfl) ?_
  refine r_get hx hb hC hP i_MO (44) (by decide) rfl rfl 13 (by decide) l_MO_111 rfl d_MO_item_304 ?_
  rw [show (su (su S 44 19 (nI (st + 1))) 44 9 (nI (i + 1))) 44 13 = S 44 13 from by rw [su_int _ _ _ (by decide), su_int _ _ _ (by decide)]]
  rw [show S 44 13 = nI q from hq]
  refine lv_bipush (v := 6) hx hb d_MO_item_307 (by decide) ?_
  refine lv_icmp_ne (tgt := 321) hx hb d_MO_item_309 (by decide) (fun c_309 => ?_) (fun c_309 => absurd ((q_eq (a := q) (b := 6) rfl rfl (by omega) (by omega)).mp c_309) (by omega))
  refine lv_aload_n hx hb d_MO_item_321 rfl (lv_at hl 2 rfl) ?_
  refine r_get hx hb hC hP i_MO (44) (by decide) rfl rfl 2 (by decide) l_MO_16 rfl d_MO_item_322 ?_
  refine lv_iload_n hx hb d_MO_item_325 rfl (lv_at hl 0 rfl) ?_
  refine r_ild hx hb hC hP (47) (by decide) rfl pr rfl (by omega) (by decide) d_MO_item_326 ?_
  rw [show (su (su S 44 19 (nI (st + 1))) 44 9 (nI (i + 1))) 47 pr = S 47 pr from by rw [su_cell _ _ _ (by decide), su_cell _ _ _ (by decide)]]
  rw [show S 47 pr = 0 from hsz]
  refine lv_if_le (tgt := 389) hx hb d_MO_item_327 (by decide) (fun _ => ?_) (fun h => absurd h (by decide))
  exact e_v hx hb hr hlk hC hP hS d_MO_item_389 rfl

set_option maxHeartbeats 4000000 in
set_option maxRecDepth 100000 in
theorem m_MO_item_call (l : Launch) (G : WG) (S : SS) (i st : Nat) (hi : i < 128) (hnx : S 44 9 = nI i) (hst9 : st < 1000) (hst : S 44 19 = nI st) (hop : S 45 i = 13) (pr : Nat) (hpr4 : pr < 4) (hpr : S 46 i = nI pr) (D : Nat) (hD8 : D < 80) (hD : S 44 8 = nI D) (q : Nat) (hq6 : q < 6) (hq : S 44 13 = nI q) (sz : Nat) (hsz0 : 0 < sz) (hsz9 : sz < 100) (hsz : S 47 pr = nI sz) : Cv l y_MO_item b_MO_item 3 3 G [.ref (gA G 44)] S (fun S1 => S1 = moCall (moStep S i st) D q (nI pr)) := by
  refine mk l (by decide +kernel) (Nat.le_of_ble_eq_true rfl) ?_
  intro pp_ ee_ ss_ mm_ be_ me_ co_ ls hx hb hr hlk hml hC hP hS hl
  have hl : lv_has ls 3 [(0, .ref (gA G 44))] := hl
  refine lv_aload_n hx hb d_MO_item_0 rfl (lv_at hl 0 rfl) ?_
  refine r_get hx hb hC hP i_MO (44) (by decide) rfl rfl 9 (by decide) l_MO_86 rfl d_MO_item_1 ?_
  rw [show S 44 9 = nI i from hnx]
  refine lv_istore_n (lv' := [(1, .int (nI i)), (0, .ref (gA G 44))]) hx hb d_MO_item_4 rfl hl (by decide) rfl (fun ls hl => ?_)
  refine lv_aload_n hx hb d_MO_item_5 rfl (lv_at hl 1 rfl) ?_
  refine r_get hx hb hC hP i_MO (44) (by decide) rfl rfl 1 (by decide) l_MO_13 rfl d_MO_item_6 ?_
  refine lv_iload_n hx hb d_MO_item_9 rfl (lv_at hl 0 rfl) ?_
  refine r_ild hx hb hC hP (46) (by decide) rfl i rfl (by omega) (by decide) d_MO_item_10 ?_
  rw [show S 46 i = nI pr from hpr]
  refine lv_istore_n (lv' := [(2, .int (nI pr)), (1, .int (nI i)), (0, .ref (gA G 44))]) hx hb d_MO_item_11 rfl hl (by decide) rfl (fun ls hl => ?_)
  refine lv_aload_n hx hb d_MO_item_12 rfl (lv_at hl 2 rfl) ?_
  refine lv_dup hx hb d_MO_item_13 rfl ?_
  refine r_get hx hb hC hP i_MO (44) (by decide) rfl rfl 19 (by decide) l_MO_114 rfl d_MO_item_14 ?_
  rw [show S 44 19 = nI st from hst]
  refine lv_iconst (v := 1) hx hb d_MO_item_17 (by decide) ?_
  refine lv_iadd hx hb d_MO_item_18 ?_
  rw [show (nI st) + 1 = nI (st + 1) from nI_1 _]
  refine r_put hx hb hC hP hS i_MO t_MO t_MO_ok n_MO (44) (by decide) rfl rfl 19 (by decide) l_MO_114 rfl rfl rfl (Nat.le_of_ble_eq_true rfl) d_MO_item_19 (fun H locs hP hS => ?_)
  refine lv_aload_n hx hb d_MO_item_22 rfl (lv_at hl 2 rfl) ?_
  refine lv_dup hx hb d_MO_item_23 rfl ?_
  refine r_get hx hb hC hP i_MO (44) (by decide) rfl rfl 9 (by decide) l_MO_86 rfl d_MO_item_24 ?_
  rw [show (su S 44 19 (nI (st + 1))) 44 9 = S 44 9 from by rw [su_int _ _ _ (by decide)]]
  rw [show S 44 9 = nI i from hnx]
  refine lv_iconst (v := 1) hx hb d_MO_item_27 (by decide) ?_
  refine lv_iadd hx hb d_MO_item_28 ?_
  rw [show (nI i) + 1 = nI (i + 1) from nI_1 _]
  refine r_put hx hb hC hP hS i_MO t_MO t_MO_ok n_MO (44) (by decide) rfl rfl 9 (by decide) l_MO_86 rfl rfl rfl (Nat.le_of_ble_eq_true rfl) d_MO_item_29 (fun H locs hP hS => ?_)
  refine lv_aload_n hx hb d_MO_item_32 rfl (lv_at hl 2 rfl) ?_
  refine r_get hx hb hC hP i_MO (44) (by decide) rfl rfl 0 (by decide) l_MO_7 rfl d_MO_item_33 ?_
  refine lv_iload_n hx hb d_MO_item_36 rfl (lv_at hl 1 rfl) ?_
  refine r_ild hx hb hC hP (45) (by decide) rfl i rfl (by omega) (by decide) d_MO_item_37 ?_
  rw [show (su (su S 44 19 (nI (st + 1))) 44 9 (nI (i + 1))) 45 i = S 45 i from by rw [su_cell _ _ _ (by decide), su_cell _ _ _ (by decide)]]
  rw [show S 45 i = 13 from hop]
  refine lv_tableIn (off := 265) (tgt := 303) hx hb d_MO_item_38 (by decide) (by decide) (by decide) (by decide) ?_
  refine lv_aload_n hx hb d_MO_item_303 rfl (lv_at hl 2 rfl) ?_
  refine r_get hx hb hC hP i_MO (44) (by decide) rfl rfl 13 (by decide) l_MO_111 rfl d_MO_item_304 ?_
  rw [show (su (su S 44 19 (nI (st + 1))) 44 9 (nI (i + 1))) 44 13 = S 44 13 from by rw [su_int _ _ _ (by decide), su_int _ _ _ (by decide)]]
  rw [show S 44 13 = nI q from hq]
  refine lv_bipush (v := 6) hx hb d_MO_item_307 (by decide) ?_
  refine lv_icmp_ne (tgt := 321) hx hb d_MO_item_309 (by decide) (fun c_309 => ?_) (fun c_309 => absurd ((q_eq (a := q) (b := 6) rfl rfl (by omega) (by omega)).mp c_309) (by omega))
  refine lv_aload_n hx hb d_MO_item_321 rfl (lv_at hl 2 rfl) ?_
  refine r_get hx hb hC hP i_MO (44) (by decide) rfl rfl 2 (by decide) l_MO_16 rfl d_MO_item_322 ?_
  refine lv_iload_n hx hb d_MO_item_325 rfl (lv_at hl 0 rfl) ?_
  refine r_ild hx hb hC hP (47) (by decide) rfl pr rfl (by omega) (by decide) d_MO_item_326 ?_
  rw [show (su (su S 44 19 (nI (st + 1))) 44 9 (nI (i + 1))) 47 pr = S 47 pr from by rw [su_cell _ _ _ (by decide), su_cell _ _ _ (by decide)]]
  rw [show S 47 pr = nI sz from hsz]
  refine lv_if_le (tgt := 389) hx hb d_MO_item_327 (by decide) (fun c_327 => absurd ((q_le (a := sz) (b := 0) rfl rfl (by omega) (by omega)).mp c_327) (by omega)) (fun c_327 => ?_)
  refine lv_aload_n hx hb d_MO_item_330 rfl (lv_at hl 2 rfl) ?_
  refine lv_iload_n hx hb d_MO_item_331 rfl (lv_at hl 0 rfl) ?_
  refine r_v hC hS (r_runV (np := 1) (As := [.int (nI pr)]) (rest := []) hx hb hml hC hP hS (by decide) rfl rfl (m_MO_call l G (su (su S 44 19 (nI (st + 1))) 44 9 (nI (i + 1))) D q (by omega) (by rw [su_int _ _ _ (by decide), su_int _ _ _ (by decide)]; exact hD) (by omega) (by rw [su_int _ _ _ (by decide), su_int _ _ _ (by decide)]; exact hq) (nI pr)) l_MO_137 im_MO_call se_MO_call in_MO c_MO_call_in (by decide +kernel) ⟨by simp only [rmF]; omega, by simp only [rmF]; omega⟩ rfl hl.1 (Nat.le_of_ble_eq_true rfl) d_MO_item_332 ⟨Nat.le_refl _, Nat.le_refl _⟩) (fun S_332 H locs hw hP hS => ?_)
  rw [hw] at hP
  refine lv_goto (tgt := 389) hx hb d_MO_item_335 (by decide) ?_
  exact e_v hx hb hr hlk hC hP hS d_MO_item_389 rfl

set_option maxHeartbeats 4000000 in
set_option maxRecDepth 100000 in
theorem m_MO_item_above (l : Launch) (G : WG) (S : SS) (i st : Nat) (hi : i < 128) (hnx : S 44 9 = nI i) (hst9 : st < 1000) (hst : S 44 19 = nI st) (hop : S 45 i = 14) (D : Nat) (hD8 : D < 80) (hD : S 44 8 = nI D) (ha : S 46 i < S 44 10) : Cv l y_MO_item b_MO_item 3 3 G [.ref (gA G 44)] S (fun S1 => S1 = moEnter (moStep S i st) D 14 (nI i) 0) := by
  refine mk l (by decide +kernel) (Nat.le_of_ble_eq_true rfl) ?_
  intro pp_ ee_ ss_ mm_ be_ me_ co_ ls hx hb hr hlk hml hC hP hS hl
  have hl : lv_has ls 3 [(0, .ref (gA G 44))] := hl
  refine lv_aload_n hx hb d_MO_item_0 rfl (lv_at hl 0 rfl) ?_
  refine r_get hx hb hC hP i_MO (44) (by decide) rfl rfl 9 (by decide) l_MO_86 rfl d_MO_item_1 ?_
  rw [show S 44 9 = nI i from hnx]
  refine lv_istore_n (lv' := [(1, .int (nI i)), (0, .ref (gA G 44))]) hx hb d_MO_item_4 rfl hl (by decide) rfl (fun ls hl => ?_)
  refine lv_aload_n hx hb d_MO_item_5 rfl (lv_at hl 1 rfl) ?_
  refine r_get hx hb hC hP i_MO (44) (by decide) rfl rfl 1 (by decide) l_MO_13 rfl d_MO_item_6 ?_
  refine lv_iload_n hx hb d_MO_item_9 rfl (lv_at hl 0 rfl) ?_
  refine r_ild hx hb hC hP (46) (by decide) rfl i rfl (by omega) (by decide) d_MO_item_10 ?_
  refine lv_istore_n (lv' := [(2, .int (S 46 i)), (1, .int (nI i)), (0, .ref (gA G 44))]) hx hb d_MO_item_11 rfl hl (by decide) rfl (fun ls hl => ?_)
  refine lv_aload_n hx hb d_MO_item_12 rfl (lv_at hl 2 rfl) ?_
  refine lv_dup hx hb d_MO_item_13 rfl ?_
  refine r_get hx hb hC hP i_MO (44) (by decide) rfl rfl 19 (by decide) l_MO_114 rfl d_MO_item_14 ?_
  rw [show S 44 19 = nI st from hst]
  refine lv_iconst (v := 1) hx hb d_MO_item_17 (by decide) ?_
  refine lv_iadd hx hb d_MO_item_18 ?_
  rw [show (nI st) + 1 = nI (st + 1) from nI_1 _]
  refine r_put hx hb hC hP hS i_MO t_MO t_MO_ok n_MO (44) (by decide) rfl rfl 19 (by decide) l_MO_114 rfl rfl rfl (Nat.le_of_ble_eq_true rfl) d_MO_item_19 (fun H locs hP hS => ?_)
  refine lv_aload_n hx hb d_MO_item_22 rfl (lv_at hl 2 rfl) ?_
  refine lv_dup hx hb d_MO_item_23 rfl ?_
  refine r_get hx hb hC hP i_MO (44) (by decide) rfl rfl 9 (by decide) l_MO_86 rfl d_MO_item_24 ?_
  rw [show (su S 44 19 (nI (st + 1))) 44 9 = S 44 9 from by rw [su_int _ _ _ (by decide)]]
  rw [show S 44 9 = nI i from hnx]
  refine lv_iconst (v := 1) hx hb d_MO_item_27 (by decide) ?_
  refine lv_iadd hx hb d_MO_item_28 ?_
  rw [show (nI i) + 1 = nI (i + 1) from nI_1 _]
  refine r_put hx hb hC hP hS i_MO t_MO t_MO_ok n_MO (44) (by decide) rfl rfl 9 (by decide) l_MO_86 rfl rfl rfl (Nat.le_of_ble_eq_true rfl) d_MO_item_29 (fun H locs hP hS => ?_)
  refine lv_aload_n hx hb d_MO_item_32 rfl (lv_at hl 2 rfl) ?_
  refine r_get hx hb hC hP i_MO (44) (by decide) rfl rfl 0 (by decide) l_MO_7 rfl d_MO_item_33 ?_
  refine lv_iload_n hx hb d_MO_item_36 rfl (lv_at hl 1 rfl) ?_
  refine r_ild hx hb hC hP (45) (by decide) rfl i rfl (by omega) (by decide) d_MO_item_37 ?_
  rw [show (su (su S 44 19 (nI (st + 1))) 44 9 (nI (i + 1))) 45 i = S 45 i from by rw [su_cell _ _ _ (by decide), su_cell _ _ _ (by decide)]]
  rw [show S 45 i = 14 from hop]
  refine lv_tableIn (off := 300) (tgt := 338) hx hb d_MO_item_38 (by decide) (by decide) (by decide) (by decide) ?_
  refine lv_aload_n hx hb d_MO_item_338 rfl (lv_at hl 2 rfl) ?_
  refine r_get hx hb hC hP i_MO (44) (by decide) rfl rfl 10 (by decide) l_MO_121 rfl d_MO_item_339 ?_
  rw [show (su (su S 44 19 (nI (st + 1))) 44 9 (nI (i + 1))) 44 10 = S 44 10 from by rw [su_int _ _ _ (by decide), su_int _ _ _ (by decide)]]
  refine lv_iload_n hx hb d_MO_item_342 rfl (lv_at hl 0 rfl) ?_
  refine lv_icmp_le (tgt := 357) hx hb d_MO_item_343 (by decide) (fun c_343 => absurd ha (Int32.not_lt.mpr c_343)) (fun c_343 => ?_)
  refine lv_aload_n hx hb d_MO_item_346 rfl (lv_at hl 2 rfl) ?_
  refine lv_bipush (v := 14) hx hb d_MO_item_347 (by decide) ?_
  refine lv_iload_n hx hb d_MO_item_349 rfl (lv_at hl 1 rfl) ?_
  refine lv_iconst (v := 0) hx hb d_MO_item_350 (by decide) ?_
  refine r_v hC hS (r_runV (np := 3) (As := [.int 14, .int (nI i), .int 0]) (rest := []) hx hb hml hC hP hS (by decide) rfl rfl (m_MO_enter l G (su (su S 44 19 (nI (st + 1))) 44 9 (nI (i + 1))) D (by omega) (by rw [su_int _ _ _ (by decide), su_int _ _ _ (by decide)]; exact hD) 14 (nI i) 0) l_MO_107 im_MO_enter se_MO_enter in_MO c_MO_enter_in (by decide +kernel) ⟨by simp only [rmF]; omega, by simp only [rmF]; omega⟩ rfl hl.1 (Nat.le_of_ble_eq_true rfl) d_MO_item_351 ⟨Nat.le_refl _, Nat.le_refl _⟩) (fun S_351 H locs hw hP hS => ?_)
  rw [hw] at hP
  refine lv_goto (tgt := 389) hx hb d_MO_item_354 (by decide) ?_
  exact e_v hx hb hr hlk hC hP hS d_MO_item_389 rfl

set_option maxHeartbeats 4000000 in
set_option maxRecDepth 100000 in
theorem m_MO_item_above0 (l : Launch) (G : WG) (S : SS) (i st : Nat) (hi : i < 128) (hnx : S 44 9 = nI i) (hst9 : st < 1000) (hst : S 44 19 = nI st) (hop : S 45 i = 14) (e : Nat) (hsc : ∃ f, Sc (S 45) f (i + 1) 1 e) (ha : ¬ S 46 i < S 44 10) : Cv l y_MO_item b_MO_item 3 3 G [.ref (gA G 44)] S (fun S1 => S1 = su (moStep S i st) 44 9 (nI e)) := by
  refine mk l (by decide +kernel) (Nat.le_of_ble_eq_true rfl) ?_
  intro pp_ ee_ ss_ mm_ be_ me_ co_ ls hx hb hr hlk hml hC hP hS hl
  have hl : lv_has ls 3 [(0, .ref (gA G 44))] := hl
  refine lv_aload_n hx hb d_MO_item_0 rfl (lv_at hl 0 rfl) ?_
  refine r_get hx hb hC hP i_MO (44) (by decide) rfl rfl 9 (by decide) l_MO_86 rfl d_MO_item_1 ?_
  rw [show S 44 9 = nI i from hnx]
  refine lv_istore_n (lv' := [(1, .int (nI i)), (0, .ref (gA G 44))]) hx hb d_MO_item_4 rfl hl (by decide) rfl (fun ls hl => ?_)
  refine lv_aload_n hx hb d_MO_item_5 rfl (lv_at hl 1 rfl) ?_
  refine r_get hx hb hC hP i_MO (44) (by decide) rfl rfl 1 (by decide) l_MO_13 rfl d_MO_item_6 ?_
  refine lv_iload_n hx hb d_MO_item_9 rfl (lv_at hl 0 rfl) ?_
  refine r_ild hx hb hC hP (46) (by decide) rfl i rfl (by omega) (by decide) d_MO_item_10 ?_
  refine lv_istore_n (lv' := [(2, .int (S 46 i)), (1, .int (nI i)), (0, .ref (gA G 44))]) hx hb d_MO_item_11 rfl hl (by decide) rfl (fun ls hl => ?_)
  refine lv_aload_n hx hb d_MO_item_12 rfl (lv_at hl 2 rfl) ?_
  refine lv_dup hx hb d_MO_item_13 rfl ?_
  refine r_get hx hb hC hP i_MO (44) (by decide) rfl rfl 19 (by decide) l_MO_114 rfl d_MO_item_14 ?_
  rw [show S 44 19 = nI st from hst]
  refine lv_iconst (v := 1) hx hb d_MO_item_17 (by decide) ?_
  refine lv_iadd hx hb d_MO_item_18 ?_
  rw [show (nI st) + 1 = nI (st + 1) from nI_1 _]
  refine r_put hx hb hC hP hS i_MO t_MO t_MO_ok n_MO (44) (by decide) rfl rfl 19 (by decide) l_MO_114 rfl rfl rfl (Nat.le_of_ble_eq_true rfl) d_MO_item_19 (fun H locs hP hS => ?_)
  refine lv_aload_n hx hb d_MO_item_22 rfl (lv_at hl 2 rfl) ?_
  refine lv_dup hx hb d_MO_item_23 rfl ?_
  refine r_get hx hb hC hP i_MO (44) (by decide) rfl rfl 9 (by decide) l_MO_86 rfl d_MO_item_24 ?_
  rw [show (su S 44 19 (nI (st + 1))) 44 9 = S 44 9 from by rw [su_int _ _ _ (by decide)]]
  rw [show S 44 9 = nI i from hnx]
  refine lv_iconst (v := 1) hx hb d_MO_item_27 (by decide) ?_
  refine lv_iadd hx hb d_MO_item_28 ?_
  rw [show (nI i) + 1 = nI (i + 1) from nI_1 _]
  refine r_put hx hb hC hP hS i_MO t_MO t_MO_ok n_MO (44) (by decide) rfl rfl 9 (by decide) l_MO_86 rfl rfl rfl (Nat.le_of_ble_eq_true rfl) d_MO_item_29 (fun H locs hP hS => ?_)
  refine lv_aload_n hx hb d_MO_item_32 rfl (lv_at hl 2 rfl) ?_
  refine r_get hx hb hC hP i_MO (44) (by decide) rfl rfl 0 (by decide) l_MO_7 rfl d_MO_item_33 ?_
  refine lv_iload_n hx hb d_MO_item_36 rfl (lv_at hl 1 rfl) ?_
  refine r_ild hx hb hC hP (45) (by decide) rfl i rfl (by omega) (by decide) d_MO_item_37 ?_
  rw [show (su (su S 44 19 (nI (st + 1))) 44 9 (nI (i + 1))) 45 i = S 45 i from by rw [su_cell _ _ _ (by decide), su_cell _ _ _ (by decide)]]
  rw [show S 45 i = 14 from hop]
  refine lv_tableIn (off := 300) (tgt := 338) hx hb d_MO_item_38 (by decide) (by decide) (by decide) (by decide) ?_
  refine lv_aload_n hx hb d_MO_item_338 rfl (lv_at hl 2 rfl) ?_
  refine r_get hx hb hC hP i_MO (44) (by decide) rfl rfl 10 (by decide) l_MO_121 rfl d_MO_item_339 ?_
  rw [show (su (su S 44 19 (nI (st + 1))) 44 9 (nI (i + 1))) 44 10 = S 44 10 from by rw [su_int _ _ _ (by decide), su_int _ _ _ (by decide)]]
  refine lv_iload_n hx hb d_MO_item_342 rfl (lv_at hl 0 rfl) ?_
  refine lv_icmp_le (tgt := 357) hx hb d_MO_item_343 (by decide) (fun c_343 => ?_) (fun c_343 => absurd (Int32.not_lt.mp ha) c_343)
  refine lv_aload_n hx hb d_MO_item_357 rfl (lv_at hl 2 rfl) ?_
  refine lv_aload_n hx hb d_MO_item_358 rfl (lv_at hl 2 rfl) ?_
  refine lv_iload_n hx hb d_MO_item_359 rfl (lv_at hl 1 rfl) ?_
  refine lv_iconst (v := 1) hx hb d_MO_item_360 (by decide) ?_
  refine lv_iadd hx hb d_MO_item_361 ?_
  rw [show (nI i) + 1 = nI (i + 1) from nI_1 _]
  refine r_i hC hS (r_runV (np := 1) (As := [.int (nI (i + 1))]) (rest := [.ref (gA G 44)]) hx hb hml hC hP hS (by decide) rfl rfl (m_MO_behind l G (su (su S 44 19 (nI (st + 1))) 44 9 (nI (i + 1))) (i + 1) e (by omega) (by rw [su_cell _ _ _ (by decide), su_cell _ _ _ (by decide)]; exact hsc)) l_MO_79 im_MO_behind se_MO_behind in_MO c_MO_behind_in (by decide +kernel) ⟨by simp only [rmF]; omega, by simp only [rmF]; omega⟩ rfl hl.1 (Nat.le_of_ble_eq_true rfl) d_MO_item_362 ⟨Nat.le_refl _, Nat.le_refl _⟩) (fun r_362 S_362 H locs hw hP hS => ?_)
  obtain ⟨rfl, hSe⟩ := hw
  rw [hSe] at hP
  refine r_put hx hb hC hP hS i_MO t_MO t_MO_ok n_MO (44) (by decide) rfl rfl 9 (by decide) l_MO_86 rfl rfl rfl (Nat.le_of_ble_eq_true rfl) d_MO_item_365 (fun H locs hP hS => ?_)
  refine lv_goto (tgt := 389) hx hb d_MO_item_368 (by decide) ?_
  exact e_v hx hb hr hlk hC hP hS d_MO_item_389 rfl

set_option maxHeartbeats 4000000 in
set_option maxRecDepth 100000 in
theorem m_MO_item_held1 (l : Launch) (G : WG) (S : SS) (i st : Nat) (hi : i < 128) (hnx : S 44 9 = nI i) (hst9 : st < 1000) (hst : S 44 19 = nI st) (hop : S 45 i = 15) (lo : Nat) (hlo3 : lo < 3) (hlo : S 46 i = nI lo) (hh : 0 < S 53 lo) : Cv l y_MO_item b_MO_item 3 3 G [.ref (gA G 44)] S (fun S1 => S1 = su (moStep S i st) 44 10 1) := by
  refine mk l (by decide +kernel) (Nat.le_of_ble_eq_true rfl) ?_
  intro pp_ ee_ ss_ mm_ be_ me_ co_ ls hx hb hr hlk hml hC hP hS hl
  have hl : lv_has ls 3 [(0, .ref (gA G 44))] := hl
  refine lv_aload_n hx hb d_MO_item_0 rfl (lv_at hl 0 rfl) ?_
  refine r_get hx hb hC hP i_MO (44) (by decide) rfl rfl 9 (by decide) l_MO_86 rfl d_MO_item_1 ?_
  rw [show S 44 9 = nI i from hnx]
  refine lv_istore_n (lv' := [(1, .int (nI i)), (0, .ref (gA G 44))]) hx hb d_MO_item_4 rfl hl (by decide) rfl (fun ls hl => ?_)
  refine lv_aload_n hx hb d_MO_item_5 rfl (lv_at hl 1 rfl) ?_
  refine r_get hx hb hC hP i_MO (44) (by decide) rfl rfl 1 (by decide) l_MO_13 rfl d_MO_item_6 ?_
  refine lv_iload_n hx hb d_MO_item_9 rfl (lv_at hl 0 rfl) ?_
  refine r_ild hx hb hC hP (46) (by decide) rfl i rfl (by omega) (by decide) d_MO_item_10 ?_
  rw [show S 46 i = nI lo from hlo]
  refine lv_istore_n (lv' := [(2, .int (nI lo)), (1, .int (nI i)), (0, .ref (gA G 44))]) hx hb d_MO_item_11 rfl hl (by decide) rfl (fun ls hl => ?_)
  refine lv_aload_n hx hb d_MO_item_12 rfl (lv_at hl 2 rfl) ?_
  refine lv_dup hx hb d_MO_item_13 rfl ?_
  refine r_get hx hb hC hP i_MO (44) (by decide) rfl rfl 19 (by decide) l_MO_114 rfl d_MO_item_14 ?_
  rw [show S 44 19 = nI st from hst]
  refine lv_iconst (v := 1) hx hb d_MO_item_17 (by decide) ?_
  refine lv_iadd hx hb d_MO_item_18 ?_
  rw [show (nI st) + 1 = nI (st + 1) from nI_1 _]
  refine r_put hx hb hC hP hS i_MO t_MO t_MO_ok n_MO (44) (by decide) rfl rfl 19 (by decide) l_MO_114 rfl rfl rfl (Nat.le_of_ble_eq_true rfl) d_MO_item_19 (fun H locs hP hS => ?_)
  refine lv_aload_n hx hb d_MO_item_22 rfl (lv_at hl 2 rfl) ?_
  refine lv_dup hx hb d_MO_item_23 rfl ?_
  refine r_get hx hb hC hP i_MO (44) (by decide) rfl rfl 9 (by decide) l_MO_86 rfl d_MO_item_24 ?_
  rw [show (su S 44 19 (nI (st + 1))) 44 9 = S 44 9 from by rw [su_int _ _ _ (by decide)]]
  rw [show S 44 9 = nI i from hnx]
  refine lv_iconst (v := 1) hx hb d_MO_item_27 (by decide) ?_
  refine lv_iadd hx hb d_MO_item_28 ?_
  rw [show (nI i) + 1 = nI (i + 1) from nI_1 _]
  refine r_put hx hb hC hP hS i_MO t_MO t_MO_ok n_MO (44) (by decide) rfl rfl 9 (by decide) l_MO_86 rfl rfl rfl (Nat.le_of_ble_eq_true rfl) d_MO_item_29 (fun H locs hP hS => ?_)
  refine lv_aload_n hx hb d_MO_item_32 rfl (lv_at hl 2 rfl) ?_
  refine r_get hx hb hC hP i_MO (44) (by decide) rfl rfl 0 (by decide) l_MO_7 rfl d_MO_item_33 ?_
  refine lv_iload_n hx hb d_MO_item_36 rfl (lv_at hl 1 rfl) ?_
  refine r_ild hx hb hC hP (45) (by decide) rfl i rfl (by omega) (by decide) d_MO_item_37 ?_
  rw [show (su (su S 44 19 (nI (st + 1))) 44 9 (nI (i + 1))) 45 i = S 45 i from by rw [su_cell _ _ _ (by decide), su_cell _ _ _ (by decide)]]
  rw [show S 45 i = 15 from hop]
  refine lv_tableOut (tgt := 371) hx hb d_MO_item_38 (by decide) (by decide) ?_
  refine lv_aload_n hx hb d_MO_item_371 rfl (lv_at hl 2 rfl) ?_
  refine lv_aload_n hx hb d_MO_item_372 rfl (lv_at hl 2 rfl) ?_
  refine r_get hx hb hC hP i_MO (44) (by decide) rfl rfl 15 (by decide) l_MO_38 rfl d_MO_item_373 ?_
  refine lv_iload_n hx hb d_MO_item_376 rfl (lv_at hl 0 rfl) ?_
  refine r_ild hx hb hC hP (53) (by decide) rfl lo rfl (by omega) (by decide) d_MO_item_377 ?_
  rw [show (su (su S 44 19 (nI (st + 1))) 44 9 (nI (i + 1))) 53 lo = S 53 lo from by rw [su_cell _ _ _ (by decide), su_cell _ _ _ (by decide)]]
  refine lv_if_le (tgt := 385) hx hb d_MO_item_378 (by decide) (fun c_378 => absurd hh (Int32.not_lt.mpr c_378)) (fun c_378 => ?_)
  refine lv_iconst (v := 1) hx hb d_MO_item_381 (by decide) ?_
  refine lv_goto (tgt := 386) hx hb d_MO_item_382 (by decide) ?_
  refine r_put hx hb hC hP hS i_MO t_MO t_MO_ok n_MO (44) (by decide) rfl rfl 10 (by decide) l_MO_121 rfl rfl rfl (Nat.le_of_ble_eq_true rfl) d_MO_item_386 (fun H locs hP hS => ?_)
  exact e_v hx hb hr hlk hC hP hS d_MO_item_389 rfl

set_option maxHeartbeats 4000000 in
set_option maxRecDepth 100000 in
theorem m_MO_item_held0 (l : Launch) (G : WG) (S : SS) (i st : Nat) (hi : i < 128) (hnx : S 44 9 = nI i) (hst9 : st < 1000) (hst : S 44 19 = nI st) (hop : S 45 i = 15) (lo : Nat) (hlo3 : lo < 3) (hlo : S 46 i = nI lo) (hh : ¬ 0 < S 53 lo) : Cv l y_MO_item b_MO_item 3 3 G [.ref (gA G 44)] S (fun S1 => S1 = su (moStep S i st) 44 10 0) := by
  refine mk l (by decide +kernel) (Nat.le_of_ble_eq_true rfl) ?_
  intro pp_ ee_ ss_ mm_ be_ me_ co_ ls hx hb hr hlk hml hC hP hS hl
  have hl : lv_has ls 3 [(0, .ref (gA G 44))] := hl
  refine lv_aload_n hx hb d_MO_item_0 rfl (lv_at hl 0 rfl) ?_
  refine r_get hx hb hC hP i_MO (44) (by decide) rfl rfl 9 (by decide) l_MO_86 rfl d_MO_item_1 ?_
  rw [show S 44 9 = nI i from hnx]
  refine lv_istore_n (lv' := [(1, .int (nI i)), (0, .ref (gA G 44))]) hx hb d_MO_item_4 rfl hl (by decide) rfl (fun ls hl => ?_)
  refine lv_aload_n hx hb d_MO_item_5 rfl (lv_at hl 1 rfl) ?_
  refine r_get hx hb hC hP i_MO (44) (by decide) rfl rfl 1 (by decide) l_MO_13 rfl d_MO_item_6 ?_
  refine lv_iload_n hx hb d_MO_item_9 rfl (lv_at hl 0 rfl) ?_
  refine r_ild hx hb hC hP (46) (by decide) rfl i rfl (by omega) (by decide) d_MO_item_10 ?_
  rw [show S 46 i = nI lo from hlo]
  refine lv_istore_n (lv' := [(2, .int (nI lo)), (1, .int (nI i)), (0, .ref (gA G 44))]) hx hb d_MO_item_11 rfl hl (by decide) rfl (fun ls hl => ?_)
  refine lv_aload_n hx hb d_MO_item_12 rfl (lv_at hl 2 rfl) ?_
  refine lv_dup hx hb d_MO_item_13 rfl ?_
  refine r_get hx hb hC hP i_MO (44) (by decide) rfl rfl 19 (by decide) l_MO_114 rfl d_MO_item_14 ?_
  rw [show S 44 19 = nI st from hst]
  refine lv_iconst (v := 1) hx hb d_MO_item_17 (by decide) ?_
  refine lv_iadd hx hb d_MO_item_18 ?_
  rw [show (nI st) + 1 = nI (st + 1) from nI_1 _]
  refine r_put hx hb hC hP hS i_MO t_MO t_MO_ok n_MO (44) (by decide) rfl rfl 19 (by decide) l_MO_114 rfl rfl rfl (Nat.le_of_ble_eq_true rfl) d_MO_item_19 (fun H locs hP hS => ?_)
  refine lv_aload_n hx hb d_MO_item_22 rfl (lv_at hl 2 rfl) ?_
  refine lv_dup hx hb d_MO_item_23 rfl ?_
  refine r_get hx hb hC hP i_MO (44) (by decide) rfl rfl 9 (by decide) l_MO_86 rfl d_MO_item_24 ?_
  rw [show (su S 44 19 (nI (st + 1))) 44 9 = S 44 9 from by rw [su_int _ _ _ (by decide)]]
  rw [show S 44 9 = nI i from hnx]
  refine lv_iconst (v := 1) hx hb d_MO_item_27 (by decide) ?_
  refine lv_iadd hx hb d_MO_item_28 ?_
  rw [show (nI i) + 1 = nI (i + 1) from nI_1 _]
  refine r_put hx hb hC hP hS i_MO t_MO t_MO_ok n_MO (44) (by decide) rfl rfl 9 (by decide) l_MO_86 rfl rfl rfl (Nat.le_of_ble_eq_true rfl) d_MO_item_29 (fun H locs hP hS => ?_)
  refine lv_aload_n hx hb d_MO_item_32 rfl (lv_at hl 2 rfl) ?_
  refine r_get hx hb hC hP i_MO (44) (by decide) rfl rfl 0 (by decide) l_MO_7 rfl d_MO_item_33 ?_
  refine lv_iload_n hx hb d_MO_item_36 rfl (lv_at hl 1 rfl) ?_
  refine r_ild hx hb hC hP (45) (by decide) rfl i rfl (by omega) (by decide) d_MO_item_37 ?_
  rw [show (su (su S 44 19 (nI (st + 1))) 44 9 (nI (i + 1))) 45 i = S 45 i from by rw [su_cell _ _ _ (by decide), su_cell _ _ _ (by decide)]]
  rw [show S 45 i = 15 from hop]
  refine lv_tableOut (tgt := 371) hx hb d_MO_item_38 (by decide) (by decide) ?_
  refine lv_aload_n hx hb d_MO_item_371 rfl (lv_at hl 2 rfl) ?_
  refine lv_aload_n hx hb d_MO_item_372 rfl (lv_at hl 2 rfl) ?_
  refine r_get hx hb hC hP i_MO (44) (by decide) rfl rfl 15 (by decide) l_MO_38 rfl d_MO_item_373 ?_
  refine lv_iload_n hx hb d_MO_item_376 rfl (lv_at hl 0 rfl) ?_
  refine r_ild hx hb hC hP (53) (by decide) rfl lo rfl (by omega) (by decide) d_MO_item_377 ?_
  rw [show (su (su S 44 19 (nI (st + 1))) 44 9 (nI (i + 1))) 53 lo = S 53 lo from by rw [su_cell _ _ _ (by decide), su_cell _ _ _ (by decide)]]
  refine lv_if_le (tgt := 385) hx hb d_MO_item_378 (by decide) (fun c_378 => ?_) (fun c_378 => absurd (Int32.not_lt.mp hh) c_378)
  refine lv_iconst (v := 0) hx hb d_MO_item_385 (by decide) ?_
  refine r_put hx hb hC hP hS i_MO t_MO t_MO_ok n_MO (44) (by decide) rfl rfl 10 (by decide) l_MO_121 rfl rfl rfl (Nat.le_of_ble_eq_true rfl) d_MO_item_386 (fun H locs hP hS => ?_)
  exact e_v hx hb hr hlk hC hP hS d_MO_item_389 rfl
end
