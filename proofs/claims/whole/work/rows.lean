section
-- ===== PART A: goes FIRST, ahead of the names: the tables' words, and 'selects' of the private methods out of them =====
/-- a private method of a class that the tables say can be made, by its rows of tables_1 -/
def lw_okq (q : MethodName × Nat) : Prop := (q.1.cls ≠ "java/lang/invoke/MethodHandle" ∧ q.1.cls ≠ "java/lang/invoke/VarHandle") ∧ Cond.instantiable q.1.cls q.2 ∈ tables_1 ∧ Cond.privateMethod q.1 ∈ tables_1 ∧ Cond.instanceMethod q.1 ∈ tables_1
theorem lw_p0 : lw_okq (⟨"NeededTrees$Signature", "addType", "()I"⟩, 7) := ⟨⟨by decide +kernel, by decide +kernel⟩, List.mem_of_getElem? (i := 23) (by decide +kernel), List.mem_of_getElem? (i := 328) (by decide +kernel), List.mem_of_getElem? (i := 329) (by decide +kernel)⟩
theorem lw_p1 : lw_okq (⟨"NeededTrees$Signature", "addConstructor", "(III)I"⟩, 7) := ⟨⟨by decide +kernel, by decide +kernel⟩, List.mem_of_getElem? (i := 23) (by decide +kernel), List.mem_of_getElem? (i := 336) (by decide +kernel), List.mem_of_getElem? (i := 337) (by decide +kernel)⟩
theorem lw_p2 : lw_okq (⟨"NeededTrees$Signature", "areTypes", "(II)Z"⟩, 7) := ⟨⟨by decide +kernel, by decide +kernel⟩, List.mem_of_getElem? (i := 23) (by decide +kernel), List.mem_of_getElem? (i := 340) (by decide +kernel), List.mem_of_getElem? (i := 341) (by decide +kernel)⟩
theorem lw_p3 : lw_okq (⟨"NeededTrees$Outcomes", "clear", "()V"⟩, 6) := ⟨⟨by decide +kernel, by decide +kernel⟩, List.mem_of_getElem? (i := 239) (by decide +kernel), List.mem_of_getElem? (i := 350) (by decide +kernel), List.mem_of_getElem? (i := 351) (by decide +kernel)⟩
theorem lw_p4 : lw_okq (⟨"NeededTrees$Signature", "setFunction", "(II)Z"⟩, 7) := ⟨⟨by decide +kernel, by decide +kernel⟩, List.mem_of_getElem? (i := 23) (by decide +kernel), List.mem_of_getElem? (i := 358) (by decide +kernel), List.mem_of_getElem? (i := 359) (by decide +kernel)⟩
theorem lw_p5 : lw_okq (⟨"NeededTrees$Rules", "clear", "()V"⟩, 7) := ⟨⟨by decide +kernel, by decide +kernel⟩, List.mem_of_getElem? (i := 93) (by decide +kernel), List.mem_of_getElem? (i := 362) (by decide +kernel), List.mem_of_getElem? (i := 363) (by decide +kernel)⟩
theorem lw_p6 : lw_okq (⟨"NeededTrees$Row", "add", "(I)I"⟩, 8) := ⟨⟨by decide +kernel, by decide +kernel⟩, List.mem_of_getElem? (i := 55) (by decide +kernel), List.mem_of_getElem? (i := 370) (by decide +kernel), List.mem_of_getElem? (i := 371) (by decide +kernel)⟩
theorem lw_p7 : lw_okq (⟨"NeededTrees$Row", "take", "()I"⟩, 8) := ⟨⟨by decide +kernel, by decide +kernel⟩, List.mem_of_getElem? (i := 55) (by decide +kernel), List.mem_of_getElem? (i := 379) (by decide +kernel), List.mem_of_getElem? (i := 380) (by decide +kernel)⟩
theorem lw_p8 : lw_okq (⟨"NeededTrees$Signature", "hasFunction", "()Z"⟩, 7) := ⟨⟨by decide +kernel, by decide +kernel⟩, List.mem_of_getElem? (i := 23) (by decide +kernel), List.mem_of_getElem? (i := 383) (by decide +kernel), List.mem_of_getElem? (i := 384) (by decide +kernel)⟩
theorem lw_p9 : lw_okq (⟨"NeededTrees$Rules", "hasRoom", "(I)Z"⟩, 7) := ⟨⟨by decide +kernel, by decide +kernel⟩, List.mem_of_getElem? (i := 93) (by decide +kernel), List.mem_of_getElem? (i := 387) (by decide +kernel), List.mem_of_getElem? (i := 388) (by decide +kernel)⟩
theorem lw_p10 : lw_okq (⟨"NeededTrees$Rules", "start", "(I)I"⟩, 7) := ⟨⟨by decide +kernel, by decide +kernel⟩, List.mem_of_getElem? (i := 93) (by decide +kernel), List.mem_of_getElem? (i := 391) (by decide +kernel), List.mem_of_getElem? (i := 392) (by decide +kernel)⟩
theorem lw_p11 : lw_okq (⟨"NeededTrees$Row", "firstWrong", "(ILNeededTrees$Signature;Z)I"⟩, 8) := ⟨⟨by decide +kernel, by decide +kernel⟩, List.mem_of_getElem? (i := 55) (by decide +kernel), List.mem_of_getElem? (i := 398) (by decide +kernel), List.mem_of_getElem? (i := 399) (by decide +kernel)⟩
theorem lw_p12 : lw_okq (⟨"NeededTrees$Row", "isWhole", "(LNeededTrees$Signature;)Z"⟩, 8) := ⟨⟨by decide +kernel, by decide +kernel⟩, List.mem_of_getElem? (i := 55) (by decide +kernel), List.mem_of_getElem? (i := 405) (by decide +kernel), List.mem_of_getElem? (i := 406) (by decide +kernel)⟩
theorem lw_p13 : lw_okq (⟨"NeededTrees$Signature", "parts", "(I)I"⟩, 7) := ⟨⟨by decide +kernel, by decide +kernel⟩, List.mem_of_getElem? (i := 23) (by decide +kernel), List.mem_of_getElem? (i := 409) (by decide +kernel), List.mem_of_getElem? (i := 410) (by decide +kernel)⟩
theorem lw_p14 : lw_okq (⟨"NeededTrees$Row", "holding", "()I"⟩, 8) := ⟨⟨by decide +kernel, by decide +kernel⟩, List.mem_of_getElem? (i := 55) (by decide +kernel), List.mem_of_getElem? (i := 414) (by decide +kernel), List.mem_of_getElem? (i := 415) (by decide +kernel)⟩
theorem lw_p15 : lw_okq (⟨"NeededTrees$Signature", "wanted", "(II)I"⟩, 7) := ⟨⟨by decide +kernel, by decide +kernel⟩, List.mem_of_getElem? (i := 23) (by decide +kernel), List.mem_of_getElem? (i := 419) (by decide +kernel), List.mem_of_getElem? (i := 420) (by decide +kernel)⟩
def lw_privs_1 : List (MethodName × Nat) := [(⟨"NeededTrees$Signature", "addType", "()I"⟩, 7), (⟨"NeededTrees$Signature", "addConstructor", "(III)I"⟩, 7), (⟨"NeededTrees$Signature", "areTypes", "(II)Z"⟩, 7), (⟨"NeededTrees$Outcomes", "clear", "()V"⟩, 6), (⟨"NeededTrees$Signature", "setFunction", "(II)Z"⟩, 7), (⟨"NeededTrees$Rules", "clear", "()V"⟩, 7), (⟨"NeededTrees$Row", "add", "(I)I"⟩, 8), (⟨"NeededTrees$Row", "take", "()I"⟩, 8), (⟨"NeededTrees$Signature", "hasFunction", "()Z"⟩, 7), (⟨"NeededTrees$Rules", "hasRoom", "(I)Z"⟩, 7), (⟨"NeededTrees$Rules", "start", "(I)I"⟩, 7), (⟨"NeededTrees$Row", "firstWrong", "(ILNeededTrees$Signature;Z)I"⟩, 8), (⟨"NeededTrees$Row", "isWhole", "(LNeededTrees$Signature;)Z"⟩, 8), (⟨"NeededTrees$Signature", "parts", "(I)I"⟩, 7), (⟨"NeededTrees$Row", "holding", "()I"⟩, 8), (⟨"NeededTrees$Signature", "wanted", "(II)I"⟩, 7)]
theorem lw_r1 : ∀ q ∈ lw_privs_1, lw_okq q := List.forall_mem_cons.mpr ⟨lw_p0, List.forall_mem_cons.mpr ⟨lw_p1, List.forall_mem_cons.mpr ⟨lw_p2, List.forall_mem_cons.mpr ⟨lw_p3, List.forall_mem_cons.mpr ⟨lw_p4, List.forall_mem_cons.mpr ⟨lw_p5, List.forall_mem_cons.mpr ⟨lw_p6, List.forall_mem_cons.mpr ⟨lw_p7, List.forall_mem_cons.mpr ⟨lw_p8, List.forall_mem_cons.mpr ⟨lw_p9, List.forall_mem_cons.mpr ⟨lw_p10, List.forall_mem_cons.mpr ⟨lw_p11, List.forall_mem_cons.mpr ⟨lw_p12, List.forall_mem_cons.mpr ⟨lw_p13, List.forall_mem_cons.mpr ⟨lw_p14, List.forall_mem_cons.mpr ⟨lw_p15, fun _ h => absurd h List.not_mem_nil⟩⟩⟩⟩⟩⟩⟩⟩⟩⟩⟩⟩⟩⟩⟩⟩
theorem lw_p16 : lw_okq (⟨"NeededTrees$Row", "fits", "(IILNeededTrees$Signature;Z)Z"⟩, 8) := ⟨⟨by decide +kernel, by decide +kernel⟩, List.mem_of_getElem? (i := 55) (by decide +kernel), List.mem_of_getElem? (i := 423) (by decide +kernel), List.mem_of_getElem? (i := 424) (by decide +kernel)⟩
theorem lw_p17 : lw_okq (⟨"NeededTrees$Signature", "typeOf", "(I)I"⟩, 7) := ⟨⟨by decide +kernel, by decide +kernel⟩, List.mem_of_getElem? (i := 23) (by decide +kernel), List.mem_of_getElem? (i := 427) (by decide +kernel), List.mem_of_getElem? (i := 428) (by decide +kernel)⟩
theorem lw_p18 : lw_okq (⟨"NeededTrees$Row", "hang", "(I)V"⟩, 8) := ⟨⟨by decide +kernel, by decide +kernel⟩, List.mem_of_getElem? (i := 55) (by decide +kernel), List.mem_of_getElem? (i := 431) (by decide +kernel), List.mem_of_getElem? (i := 432) (by decide +kernel)⟩
theorem lw_p19 : lw_okq (⟨"NeededTrees$Row", "closeWhole", "(ILNeededTrees$Signature;)V"⟩, 8) := ⟨⟨by decide +kernel, by decide +kernel⟩, List.mem_of_getElem? (i := 55) (by decide +kernel), List.mem_of_getElem? (i := 435) (by decide +kernel), List.mem_of_getElem? (i := 436) (by decide +kernel)⟩
theorem lw_p20 : lw_okq (⟨"NeededTrees$Rules", "add", "(LNeededTrees$Row;I)I"⟩, 7) := ⟨⟨by decide +kernel, by decide +kernel⟩, List.mem_of_getElem? (i := 93) (by decide +kernel), List.mem_of_getElem? (i := 439) (by decide +kernel), List.mem_of_getElem? (i := 440) (by decide +kernel)⟩
theorem lw_p21 : lw_okq (⟨"NeededTrees$Terms", "load", "(LNeededTrees$Row;I)V"⟩, 12) := ⟨⟨by decide +kernel, by decide +kernel⟩, List.mem_of_getElem? (i := 192) (by decide +kernel), List.mem_of_getElem? (i := 448) (by decide +kernel), List.mem_of_getElem? (i := 449) (by decide +kernel)⟩
theorem lw_p22 : lw_okq (⟨"NeededTrees", "refreshTree", "()V"⟩, 9) := ⟨⟨by decide +kernel, by decide +kernel⟩, List.mem_of_getElem? (i := 15) (by decide +kernel), List.mem_of_getElem? (i := 454) (by decide +kernel), List.mem_of_getElem? (i := 455) (by decide +kernel)⟩
theorem lw_p23 : lw_okq (⟨"NeededTrees$Planter", "plant", "()V"⟩, 7) := ⟨⟨by decide +kernel, by decide +kernel⟩, List.mem_of_getElem? (i := 164) (by decide +kernel), List.mem_of_getElem? (i := 458) (by decide +kernel), List.mem_of_getElem? (i := 459) (by decide +kernel)⟩
theorem lw_p24 : lw_okq (⟨"NeededTrees$Tree", "clear", "()V"⟩, 7) := ⟨⟨by decide +kernel, by decide +kernel⟩, List.mem_of_getElem? (i := 130) (by decide +kernel), List.mem_of_getElem? (i := 462) (by decide +kernel), List.mem_of_getElem? (i := 463) (by decide +kernel)⟩
theorem lw_p25 : lw_okq (⟨"NeededTrees$Rules", "forgetAsked", "()V"⟩, 7) := ⟨⟨by decide +kernel, by decide +kernel⟩, List.mem_of_getElem? (i := 93) (by decide +kernel), List.mem_of_getElem? (i := 466) (by decide +kernel), List.mem_of_getElem? (i := 467) (by decide +kernel)⟩
theorem lw_p26 : lw_okq (⟨"NeededTrees$Planter", "await", "(III)V"⟩, 7) := ⟨⟨by decide +kernel, by decide +kernel⟩, List.mem_of_getElem? (i := 164) (by decide +kernel), List.mem_of_getElem? (i := 471) (by decide +kernel), List.mem_of_getElem? (i := 472) (by decide +kernel)⟩
theorem lw_p27 : lw_okq (⟨"NeededTrees$Planter", "grow", "(III)V"⟩, 7) := ⟨⟨by decide +kernel, by decide +kernel⟩, List.mem_of_getElem? (i := 164) (by decide +kernel), List.mem_of_getElem? (i := 477) (by decide +kernel), List.mem_of_getElem? (i := 478) (by decide +kernel)⟩
theorem lw_p28 : lw_okq (⟨"NeededTrees$Planter", "takePosition", "(I)I"⟩, 7) := ⟨⟨by decide +kernel, by decide +kernel⟩, List.mem_of_getElem? (i := 164) (by decide +kernel), List.mem_of_getElem? (i := 481) (by decide +kernel), List.mem_of_getElem? (i := 482) (by decide +kernel)⟩
theorem lw_p29 : lw_okq (⟨"NeededTrees$Planter", "startCursors", "(I)V"⟩, 7) := ⟨⟨by decide +kernel, by decide +kernel⟩, List.mem_of_getElem? (i := 164) (by decide +kernel), List.mem_of_getElem? (i := 494) (by decide +kernel), List.mem_of_getElem? (i := 495) (by decide +kernel)⟩
theorem lw_p30 : lw_okq (⟨"NeededTrees$Rules", "isAsked", "(I)Z"⟩, 7) := ⟨⟨by decide +kernel, by decide +kernel⟩, List.mem_of_getElem? (i := 93) (by decide +kernel), List.mem_of_getElem? (i := 502) (by decide +kernel), List.mem_of_getElem? (i := 503) (by decide +kernel)⟩
theorem lw_p31 : lw_okq (⟨"NeededTrees$Planter", "enter", "(I)V"⟩, 7) := ⟨⟨by decide +kernel, by decide +kernel⟩, List.mem_of_getElem? (i := 164) (by decide +kernel), List.mem_of_getElem? (i := 506) (by decide +kernel), List.mem_of_getElem? (i := 507) (by decide +kernel)⟩
def lw_privs_2 : List (MethodName × Nat) := [(⟨"NeededTrees$Row", "fits", "(IILNeededTrees$Signature;Z)Z"⟩, 8), (⟨"NeededTrees$Signature", "typeOf", "(I)I"⟩, 7), (⟨"NeededTrees$Row", "hang", "(I)V"⟩, 8), (⟨"NeededTrees$Row", "closeWhole", "(ILNeededTrees$Signature;)V"⟩, 8), (⟨"NeededTrees$Rules", "add", "(LNeededTrees$Row;I)I"⟩, 7), (⟨"NeededTrees$Terms", "load", "(LNeededTrees$Row;I)V"⟩, 12), (⟨"NeededTrees", "refreshTree", "()V"⟩, 9), (⟨"NeededTrees$Planter", "plant", "()V"⟩, 7), (⟨"NeededTrees$Tree", "clear", "()V"⟩, 7), (⟨"NeededTrees$Rules", "forgetAsked", "()V"⟩, 7), (⟨"NeededTrees$Planter", "await", "(III)V"⟩, 7), (⟨"NeededTrees$Planter", "grow", "(III)V"⟩, 7), (⟨"NeededTrees$Planter", "takePosition", "(I)I"⟩, 7), (⟨"NeededTrees$Planter", "startCursors", "(I)V"⟩, 7), (⟨"NeededTrees$Rules", "isAsked", "(I)Z"⟩, 7), (⟨"NeededTrees$Planter", "enter", "(I)V"⟩, 7)]
theorem lw_r2 : ∀ q ∈ lw_privs_2, lw_okq q := List.forall_mem_cons.mpr ⟨lw_p16, List.forall_mem_cons.mpr ⟨lw_p17, List.forall_mem_cons.mpr ⟨lw_p18, List.forall_mem_cons.mpr ⟨lw_p19, List.forall_mem_cons.mpr ⟨lw_p20, List.forall_mem_cons.mpr ⟨lw_p21, List.forall_mem_cons.mpr ⟨lw_p22, List.forall_mem_cons.mpr ⟨lw_p23, List.forall_mem_cons.mpr ⟨lw_p24, List.forall_mem_cons.mpr ⟨lw_p25, List.forall_mem_cons.mpr ⟨lw_p26, List.forall_mem_cons.mpr ⟨lw_p27, List.forall_mem_cons.mpr ⟨lw_p28, List.forall_mem_cons.mpr ⟨lw_p29, List.forall_mem_cons.mpr ⟨lw_p30, List.forall_mem_cons.mpr ⟨lw_p31, fun _ h => absurd h List.not_mem_nil⟩⟩⟩⟩⟩⟩⟩⟩⟩⟩⟩⟩⟩⟩⟩⟩
theorem lw_p32 : lw_okq (⟨"NeededTrees$Planter", "needing", "(I)I"⟩, 7) := ⟨⟨by decide +kernel, by decide +kernel⟩, List.mem_of_getElem? (i := 164) (by decide +kernel), List.mem_of_getElem? (i := 510) (by decide +kernel), List.mem_of_getElem? (i := 511) (by decide +kernel)⟩
theorem lw_p33 : lw_okq (⟨"NeededTrees$Rules", "isVariable", "(I)Z"⟩, 7) := ⟨⟨by decide +kernel, by decide +kernel⟩, List.mem_of_getElem? (i := 93) (by decide +kernel), List.mem_of_getElem? (i := 514) (by decide +kernel), List.mem_of_getElem? (i := 515) (by decide +kernel)⟩
theorem lw_p34 : lw_okq (⟨"NeededTrees$Planter", "pass", "(I)V"⟩, 7) := ⟨⟨by decide +kernel, by decide +kernel⟩, List.mem_of_getElem? (i := 164) (by decide +kernel), List.mem_of_getElem? (i := 518) (by decide +kernel), List.mem_of_getElem? (i := 519) (by decide +kernel)⟩
theorem lw_p35 : lw_okq (⟨"NeededTrees$Planter", "ask", "(II)V"⟩, 7) := ⟨⟨by decide +kernel, by decide +kernel⟩, List.mem_of_getElem? (i := 164) (by decide +kernel), List.mem_of_getElem? (i := 522) (by decide +kernel), List.mem_of_getElem? (i := 523) (by decide +kernel)⟩
theorem lw_p36 : lw_okq (⟨"NeededTrees$Planter", "lastConstructor", "(I)I"⟩, 7) := ⟨⟨by decide +kernel, by decide +kernel⟩, List.mem_of_getElem? (i := 164) (by decide +kernel), List.mem_of_getElem? (i := 526) (by decide +kernel), List.mem_of_getElem? (i := 527) (by decide +kernel)⟩
theorem lw_p37 : lw_okq (⟨"NeededTrees$Planter", "having", "(II)I"⟩, 7) := ⟨⟨by decide +kernel, by decide +kernel⟩, List.mem_of_getElem? (i := 164) (by decide +kernel), List.mem_of_getElem? (i := 533) (by decide +kernel), List.mem_of_getElem? (i := 534) (by decide +kernel)⟩
theorem lw_p38 : lw_okq (⟨"NeededTrees$Tree", "add", "(IIIII)V"⟩, 7) := ⟨⟨by decide +kernel, by decide +kernel⟩, List.mem_of_getElem? (i := 130) (by decide +kernel), List.mem_of_getElem? (i := 537) (by decide +kernel), List.mem_of_getElem? (i := 538) (by decide +kernel)⟩
theorem lw_p39 : lw_okq (⟨"NeededTrees$Planter", "partByNeed", "(III)V"⟩, 7) := ⟨⟨by decide +kernel, by decide +kernel⟩, List.mem_of_getElem? (i := 164) (by decide +kernel), List.mem_of_getElem? (i := 542) (by decide +kernel), List.mem_of_getElem? (i := 543) (by decide +kernel)⟩
theorem lw_p40 : lw_okq (⟨"NeededTrees$Planter", "partEach", "(II)V"⟩, 7) := ⟨⟨by decide +kernel, by decide +kernel⟩, List.mem_of_getElem? (i := 164) (by decide +kernel), List.mem_of_getElem? (i := 546) (by decide +kernel), List.mem_of_getElem? (i := 547) (by decide +kernel)⟩
theorem lw_p41 : lw_okq (⟨"NeededTrees$Walk", "reachesAll", "()Z"⟩, 8) := ⟨⟨by decide +kernel, by decide +kernel⟩, List.mem_of_getElem? (i := 265) (by decide +kernel), List.mem_of_getElem? (i := 550) (by decide +kernel), List.mem_of_getElem? (i := 551) (by decide +kernel)⟩
theorem lw_p42 : lw_okq (⟨"NeededTrees$Walk", "comesTo", "(II)Z"⟩, 8) := ⟨⟨by decide +kernel, by decide +kernel⟩, List.mem_of_getElem? (i := 265) (by decide +kernel), List.mem_of_getElem? (i := 555) (by decide +kernel), List.mem_of_getElem? (i := 556) (by decide +kernel)⟩
theorem lw_p43 : lw_okq (⟨"NeededTrees$Terms", "unbindTo", "(I)V"⟩, 12) := ⟨⟨by decide +kernel, by decide +kernel⟩, List.mem_of_getElem? (i := 192) (by decide +kernel), List.mem_of_getElem? (i := 559) (by decide +kernel), List.mem_of_getElem? (i := 560) (by decide +kernel)⟩
theorem lw_p44 : lw_okq (⟨"NeededTrees$Terms", "isFree", "(I)Z"⟩, 12) := ⟨⟨by decide +kernel, by decide +kernel⟩, List.mem_of_getElem? (i := 192) (by decide +kernel), List.mem_of_getElem? (i := 564) (by decide +kernel), List.mem_of_getElem? (i := 565) (by decide +kernel)⟩
theorem lw_p45 : lw_okq (⟨"NeededTrees$Terms", "bind", "(II)V"⟩, 12) := ⟨⟨by decide +kernel, by decide +kernel⟩, List.mem_of_getElem? (i := 192) (by decide +kernel), List.mem_of_getElem? (i := 568) (by decide +kernel), List.mem_of_getElem? (i := 569) (by decide +kernel)⟩
theorem lw_p46 : lw_okq (⟨"NeededTrees$Walk", "ask", "(II)V"⟩, 8) := ⟨⟨by decide +kernel, by decide +kernel⟩, List.mem_of_getElem? (i := 265) (by decide +kernel), List.mem_of_getElem? (i := 573) (by decide +kernel), List.mem_of_getElem? (i := 574) (by decide +kernel)⟩
theorem lw_p47 : lw_okq (⟨"NeededTrees$Terms", "part", "(II)I"⟩, 12) := ⟨⟨by decide +kernel, by decide +kernel⟩, List.mem_of_getElem? (i := 192) (by decide +kernel), List.mem_of_getElem? (i := 577) (by decide +kernel), List.mem_of_getElem? (i := 578) (by decide +kernel)⟩
def lw_privs_3 : List (MethodName × Nat) := [(⟨"NeededTrees$Planter", "needing", "(I)I"⟩, 7), (⟨"NeededTrees$Rules", "isVariable", "(I)Z"⟩, 7), (⟨"NeededTrees$Planter", "pass", "(I)V"⟩, 7), (⟨"NeededTrees$Planter", "ask", "(II)V"⟩, 7), (⟨"NeededTrees$Planter", "lastConstructor", "(I)I"⟩, 7), (⟨"NeededTrees$Planter", "having", "(II)I"⟩, 7), (⟨"NeededTrees$Tree", "add", "(IIIII)V"⟩, 7), (⟨"NeededTrees$Planter", "partByNeed", "(III)V"⟩, 7), (⟨"NeededTrees$Planter", "partEach", "(II)V"⟩, 7), (⟨"NeededTrees$Walk", "reachesAll", "()Z"⟩, 8), (⟨"NeededTrees$Walk", "comesTo", "(II)Z"⟩, 8), (⟨"NeededTrees$Terms", "unbindTo", "(I)V"⟩, 12), (⟨"NeededTrees$Terms", "isFree", "(I)Z"⟩, 12), (⟨"NeededTrees$Terms", "bind", "(II)V"⟩, 12), (⟨"NeededTrees$Walk", "ask", "(II)V"⟩, 8), (⟨"NeededTrees$Terms", "part", "(II)I"⟩, 12)]
theorem lw_r3 : ∀ q ∈ lw_privs_3, lw_okq q := List.forall_mem_cons.mpr ⟨lw_p32, List.forall_mem_cons.mpr ⟨lw_p33, List.forall_mem_cons.mpr ⟨lw_p34, List.forall_mem_cons.mpr ⟨lw_p35, List.forall_mem_cons.mpr ⟨lw_p36, List.forall_mem_cons.mpr ⟨lw_p37, List.forall_mem_cons.mpr ⟨lw_p38, List.forall_mem_cons.mpr ⟨lw_p39, List.forall_mem_cons.mpr ⟨lw_p40, List.forall_mem_cons.mpr ⟨lw_p41, List.forall_mem_cons.mpr ⟨lw_p42, List.forall_mem_cons.mpr ⟨lw_p43, List.forall_mem_cons.mpr ⟨lw_p44, List.forall_mem_cons.mpr ⟨lw_p45, List.forall_mem_cons.mpr ⟨lw_p46, List.forall_mem_cons.mpr ⟨lw_p47, fun _ h => absurd h List.not_mem_nil⟩⟩⟩⟩⟩⟩⟩⟩⟩⟩⟩⟩⟩⟩⟩⟩
theorem lw_p48 : lw_okq (⟨"NeededTrees$Terms", "meant", "(I)I"⟩, 12) := ⟨⟨by decide +kernel, by decide +kernel⟩, List.mem_of_getElem? (i := 192) (by decide +kernel), List.mem_of_getElem? (i := 581) (by decide +kernel), List.mem_of_getElem? (i := 582) (by decide +kernel)⟩
theorem lw_p49 : lw_okq (⟨"NeededTrees$Outcomes", "add", "(IIILNeededTrees$Terms;)V"⟩, 6) := ⟨⟨by decide +kernel, by decide +kernel⟩, List.mem_of_getElem? (i := 239) (by decide +kernel), List.mem_of_getElem? (i := 585) (by decide +kernel), List.mem_of_getElem? (i := 586) (by decide +kernel)⟩
theorem lw_p50 : lw_okq (⟨"NeededTrees$Terms", "write", "([II)V"⟩, 12) := ⟨⟨by decide +kernel, by decide +kernel⟩, List.mem_of_getElem? (i := 192) (by decide +kernel), List.mem_of_getElem? (i := 590) (by decide +kernel), List.mem_of_getElem? (i := 591) (by decide +kernel)⟩
theorem lw_p51 : lw_okq (⟨"NeededTrees$Terms", "leave", "(II)V"⟩, 12) := ⟨⟨by decide +kernel, by decide +kernel⟩, List.mem_of_getElem? (i := 192) (by decide +kernel), List.mem_of_getElem? (i := 595) (by decide +kernel), List.mem_of_getElem? (i := 596) (by decide +kernel)⟩
theorem lw_p52 : lw_okq (⟨"NeededTrees$Outcomes", "answer", "(II)I"⟩, 6) := ⟨⟨by decide +kernel, by decide +kernel⟩, List.mem_of_getElem? (i := 239) (by decide +kernel), List.mem_of_getElem? (i := 603) (by decide +kernel), List.mem_of_getElem? (i := 604) (by decide +kernel)⟩
theorem lw_p53 : lw_okq (⟨"NeededTrees$Tree", "answer", "(LNeededTrees$Rules;II)I"⟩, 7) := ⟨⟨by decide +kernel, by decide +kernel⟩, List.mem_of_getElem? (i := 130) (by decide +kernel), List.mem_of_getElem? (i := 616) (by decide +kernel), List.mem_of_getElem? (i := 617) (by decide +kernel)⟩
theorem lw_p54 : lw_okq (⟨"NeededTrees$Tree", "places", "(LNeededTrees$Rules;I)I"⟩, 7) := ⟨⟨by decide +kernel, by decide +kernel⟩, List.mem_of_getElem? (i := 130) (by decide +kernel), List.mem_of_getElem? (i := 621) (by decide +kernel), List.mem_of_getElem? (i := 622) (by decide +kernel)⟩
theorem lw_p55 : lw_okq (⟨"NeededTrees$Rules", "placesTo", "(I)I"⟩, 7) := ⟨⟨by decide +kernel, by decide +kernel⟩, List.mem_of_getElem? (i := 93) (by decide +kernel), List.mem_of_getElem? (i := 625) (by decide +kernel), List.mem_of_getElem? (i := 626) (by decide +kernel)⟩
theorem lw_p56 : lw_okq (⟨"NeededTrees$Rules", "placeOnWay", "(II)I"⟩, 7) := ⟨⟨by decide +kernel, by decide +kernel⟩, List.mem_of_getElem? (i := 93) (by decide +kernel), List.mem_of_getElem? (i := 629) (by decide +kernel), List.mem_of_getElem? (i := 630) (by decide +kernel)⟩
theorem lw_p57 : lw_okq (⟨"NeededTrees$Tree", "coversAll", "(LNeededTrees$Rules;LNeededTrees$Signature;)Z"⟩, 7) := ⟨⟨by decide +kernel, by decide +kernel⟩, List.mem_of_getElem? (i := 130) (by decide +kernel), List.mem_of_getElem? (i := 638) (by decide +kernel), List.mem_of_getElem? (i := 639) (by decide +kernel)⟩
theorem lw_p58 : lw_okq (⟨"NeededTrees$Tree", "coversWith", "(IILNeededTrees$Rules;LNeededTrees$Signature;)Z"⟩, 7) := ⟨⟨by decide +kernel, by decide +kernel⟩, List.mem_of_getElem? (i := 130) (by decide +kernel), List.mem_of_getElem? (i := 643) (by decide +kernel), List.mem_of_getElem? (i := 644) (by decide +kernel)⟩
theorem lw_p59 : lw_okq (⟨"NeededTrees$Signature", "constructorsOf", "(I)I"⟩, 7) := ⟨⟨by decide +kernel, by decide +kernel⟩, List.mem_of_getElem? (i := 23) (by decide +kernel), List.mem_of_getElem? (i := 648) (by decide +kernel), List.mem_of_getElem? (i := 649) (by decide +kernel)⟩
theorem lw_p60 : lw_okq (⟨"NeededTrees$Rules", "meet", "(II)Z"⟩, 7) := ⟨⟨by decide +kernel, by decide +kernel⟩, List.mem_of_getElem? (i := 93) (by decide +kernel), List.mem_of_getElem? (i := 656) (by decide +kernel), List.mem_of_getElem? (i := 657) (by decide +kernel)⟩
theorem lw_p61 : lw_okq (⟨"NeededTrees$Tree", "howMany", "(I)I"⟩, 7) := ⟨⟨by decide +kernel, by decide +kernel⟩, List.mem_of_getElem? (i := 130) (by decide +kernel), List.mem_of_getElem? (i := 665) (by decide +kernel), List.mem_of_getElem? (i := 666) (by decide +kernel)⟩
theorem lw_p62 : lw_okq (⟨"NeededTrees$Tree", "deepest", "()I"⟩, 7) := ⟨⟨by decide +kernel, by decide +kernel⟩, List.mem_of_getElem? (i := 130) (by decide +kernel), List.mem_of_getElem? (i := 669) (by decide +kernel), List.mem_of_getElem? (i := 670) (by decide +kernel)⟩
theorem lw_p63 : lw_okq (⟨"NeededTreesModel", "areTypes", "(II)Z"⟩, 59) := ⟨⟨by decide +kernel, by decide +kernel⟩, List.mem_of_getElem? (i := 674) (by decide +kernel), List.mem_of_getElem? (i := 866) (by decide +kernel), List.mem_of_getElem? (i := 867) (by decide +kernel)⟩
def lw_privs_4 : List (MethodName × Nat) := [(⟨"NeededTrees$Terms", "meant", "(I)I"⟩, 12), (⟨"NeededTrees$Outcomes", "add", "(IIILNeededTrees$Terms;)V"⟩, 6), (⟨"NeededTrees$Terms", "write", "([II)V"⟩, 12), (⟨"NeededTrees$Terms", "leave", "(II)V"⟩, 12), (⟨"NeededTrees$Outcomes", "answer", "(II)I"⟩, 6), (⟨"NeededTrees$Tree", "answer", "(LNeededTrees$Rules;II)I"⟩, 7), (⟨"NeededTrees$Tree", "places", "(LNeededTrees$Rules;I)I"⟩, 7), (⟨"NeededTrees$Rules", "placesTo", "(I)I"⟩, 7), (⟨"NeededTrees$Rules", "placeOnWay", "(II)I"⟩, 7), (⟨"NeededTrees$Tree", "coversAll", "(LNeededTrees$Rules;LNeededTrees$Signature;)Z"⟩, 7), (⟨"NeededTrees$Tree", "coversWith", "(IILNeededTrees$Rules;LNeededTrees$Signature;)Z"⟩, 7), (⟨"NeededTrees$Signature", "constructorsOf", "(I)I"⟩, 7), (⟨"NeededTrees$Rules", "meet", "(II)Z"⟩, 7), (⟨"NeededTrees$Tree", "howMany", "(I)I"⟩, 7), (⟨"NeededTrees$Tree", "deepest", "()I"⟩, 7), (⟨"NeededTreesModel", "areTypes", "(II)Z"⟩, 59)]
theorem lw_r4 : ∀ q ∈ lw_privs_4, lw_okq q := List.forall_mem_cons.mpr ⟨lw_p48, List.forall_mem_cons.mpr ⟨lw_p49, List.forall_mem_cons.mpr ⟨lw_p50, List.forall_mem_cons.mpr ⟨lw_p51, List.forall_mem_cons.mpr ⟨lw_p52, List.forall_mem_cons.mpr ⟨lw_p53, List.forall_mem_cons.mpr ⟨lw_p54, List.forall_mem_cons.mpr ⟨lw_p55, List.forall_mem_cons.mpr ⟨lw_p56, List.forall_mem_cons.mpr ⟨lw_p57, List.forall_mem_cons.mpr ⟨lw_p58, List.forall_mem_cons.mpr ⟨lw_p59, List.forall_mem_cons.mpr ⟨lw_p60, List.forall_mem_cons.mpr ⟨lw_p61, List.forall_mem_cons.mpr ⟨lw_p62, List.forall_mem_cons.mpr ⟨lw_p63, fun _ h => absurd h List.not_mem_nil⟩⟩⟩⟩⟩⟩⟩⟩⟩⟩⟩⟩⟩⟩⟩⟩
theorem lw_p64 : lw_okq (⟨"NeededTreesModel", "lay", "()V"⟩, 59) := ⟨⟨by decide +kernel, by decide +kernel⟩, List.mem_of_getElem? (i := 674) (by decide +kernel), List.mem_of_getElem? (i := 877) (by decide +kernel), List.mem_of_getElem? (i := 878) (by decide +kernel)⟩
theorem lw_p65 : lw_okq (⟨"NeededTreesModel", "openAll", "()V"⟩, 59) := ⟨⟨by decide +kernel, by decide +kernel⟩, List.mem_of_getElem? (i := 674) (by decide +kernel), List.mem_of_getElem? (i := 881) (by decide +kernel), List.mem_of_getElem? (i := 882) (by decide +kernel)⟩
theorem lw_p66 : lw_okq (⟨"NeededTreesModel", "needed", "(II)I"⟩, 59) := ⟨⟨by decide +kernel, by decide +kernel⟩, List.mem_of_getElem? (i := 674) (by decide +kernel), List.mem_of_getElem? (i := 888) (by decide +kernel), List.mem_of_getElem? (i := 889) (by decide +kernel)⟩
theorem lw_p67 : lw_okq (⟨"NeededTreesModel", "there", "(II)I"⟩, 59) := ⟨⟨by decide +kernel, by decide +kernel⟩, List.mem_of_getElem? (i := 674) (by decide +kernel), List.mem_of_getElem? (i := 892) (by decide +kernel), List.mem_of_getElem? (i := 893) (by decide +kernel)⟩
theorem lw_p68 : lw_okq (⟨"NeededTreesModel", "node", "(IIII)I"⟩, 59) := ⟨⟨by decide +kernel, by decide +kernel⟩, List.mem_of_getElem? (i := 674) (by decide +kernel), List.mem_of_getElem? (i := 896) (by decide +kernel), List.mem_of_getElem? (i := 897) (by decide +kernel)⟩
theorem lw_p69 : lw_okq (⟨"NeededTreesModel", "those", "(IIII)I"⟩, 59) := ⟨⟨by decide +kernel, by decide +kernel⟩, List.mem_of_getElem? (i := 674) (by decide +kernel), List.mem_of_getElem? (i := 901) (by decide +kernel), List.mem_of_getElem? (i := 902) (by decide +kernel)⟩
theorem lw_p70 : lw_okq (⟨"NeededTreesModel", "take", "(IIII)V"⟩, 59) := ⟨⟨by decide +kernel, by decide +kernel⟩, List.mem_of_getElem? (i := 674) (by decide +kernel), List.mem_of_getElem? (i := 905) (by decide +kernel), List.mem_of_getElem? (i := 906) (by decide +kernel)⟩
theorem lw_p71 : lw_okq (⟨"NeededTreesModel", "putBack", "(IIII)V"⟩, 59) := ⟨⟨by decide +kernel, by decide +kernel⟩, List.mem_of_getElem? (i := 674) (by decide +kernel), List.mem_of_getElem? (i := 909) (by decide +kernel), List.mem_of_getElem? (i := 910) (by decide +kernel)⟩
theorem lw_p72 : lw_okq (⟨"NeededTreesModel", "run", "(III)I"⟩, 59) := ⟨⟨by decide +kernel, by decide +kernel⟩, List.mem_of_getElem? (i := 674) (by decide +kernel), List.mem_of_getElem? (i := 913) (by decide +kernel), List.mem_of_getElem? (i := 914) (by decide +kernel)⟩
theorem lw_p73 : lw_okq (⟨"NeededTreesModel", "wrong", "(Z)I"⟩, 59) := ⟨⟨by decide +kernel, by decide +kernel⟩, List.mem_of_getElem? (i := 674) (by decide +kernel), List.mem_of_getElem? (i := 925) (by decide +kernel), List.mem_of_getElem? (i := 926) (by decide +kernel)⟩
theorem lw_p74 : lw_okq (⟨"NeededTreesModel", "want", "(III)V"⟩, 59) := ⟨⟨by decide +kernel, by decide +kernel⟩, List.mem_of_getElem? (i := 674) (by decide +kernel), List.mem_of_getElem? (i := 929) (by decide +kernel), List.mem_of_getElem? (i := 930) (by decide +kernel)⟩
theorem lw_p75 : lw_okq (⟨"NeededTreesModel", "fits", "(IIZ)Z"⟩, 59) := ⟨⟨by decide +kernel, by decide +kernel⟩, List.mem_of_getElem? (i := 674) (by decide +kernel), List.mem_of_getElem? (i := 933) (by decide +kernel), List.mem_of_getElem? (i := 934) (by decide +kernel)⟩
theorem lw_p76 : lw_okq (⟨"NeededTreesModel", "read", "()V"⟩, 59) := ⟨⟨by decide +kernel, by decide +kernel⟩, List.mem_of_getElem? (i := 674) (by decide +kernel), List.mem_of_getElem? (i := 941) (by decide +kernel), List.mem_of_getElem? (i := 942) (by decide +kernel)⟩
theorem lw_p77 : lw_okq (⟨"NeededTreesModel", "newCells", "(I)I"⟩, 59) := ⟨⟨by decide +kernel, by decide +kernel⟩, List.mem_of_getElem? (i := 674) (by decide +kernel), List.mem_of_getElem? (i := 945) (by decide +kernel), List.mem_of_getElem? (i := 946) (by decide +kernel)⟩
theorem lw_p78 : lw_okq (⟨"NeededTreesModel", "go", "(I)V"⟩, 59) := ⟨⟨by decide +kernel, by decide +kernel⟩, List.mem_of_getElem? (i := 674) (by decide +kernel), List.mem_of_getElem? (i := 949) (by decide +kernel), List.mem_of_getElem? (i := 950) (by decide +kernel)⟩
theorem lw_p79 : lw_okq (⟨"NeededTreesModel", "comes", "(I)V"⟩, 59) := ⟨⟨by decide +kernel, by decide +kernel⟩, List.mem_of_getElem? (i := 674) (by decide +kernel), List.mem_of_getElem? (i := 956) (by decide +kernel), List.mem_of_getElem? (i := 957) (by decide +kernel)⟩
def lw_privs_5 : List (MethodName × Nat) := [(⟨"NeededTreesModel", "lay", "()V"⟩, 59), (⟨"NeededTreesModel", "openAll", "()V"⟩, 59), (⟨"NeededTreesModel", "needed", "(II)I"⟩, 59), (⟨"NeededTreesModel", "there", "(II)I"⟩, 59), (⟨"NeededTreesModel", "node", "(IIII)I"⟩, 59), (⟨"NeededTreesModel", "those", "(IIII)I"⟩, 59), (⟨"NeededTreesModel", "take", "(IIII)V"⟩, 59), (⟨"NeededTreesModel", "putBack", "(IIII)V"⟩, 59), (⟨"NeededTreesModel", "run", "(III)I"⟩, 59), (⟨"NeededTreesModel", "wrong", "(Z)I"⟩, 59), (⟨"NeededTreesModel", "want", "(III)V"⟩, 59), (⟨"NeededTreesModel", "fits", "(IIZ)Z"⟩, 59), (⟨"NeededTreesModel", "read", "()V"⟩, 59), (⟨"NeededTreesModel", "newCells", "(I)I"⟩, 59), (⟨"NeededTreesModel", "go", "(I)V"⟩, 59), (⟨"NeededTreesModel", "comes", "(I)V"⟩, 59)]
theorem lw_r5 : ∀ q ∈ lw_privs_5, lw_okq q := List.forall_mem_cons.mpr ⟨lw_p64, List.forall_mem_cons.mpr ⟨lw_p65, List.forall_mem_cons.mpr ⟨lw_p66, List.forall_mem_cons.mpr ⟨lw_p67, List.forall_mem_cons.mpr ⟨lw_p68, List.forall_mem_cons.mpr ⟨lw_p69, List.forall_mem_cons.mpr ⟨lw_p70, List.forall_mem_cons.mpr ⟨lw_p71, List.forall_mem_cons.mpr ⟨lw_p72, List.forall_mem_cons.mpr ⟨lw_p73, List.forall_mem_cons.mpr ⟨lw_p74, List.forall_mem_cons.mpr ⟨lw_p75, List.forall_mem_cons.mpr ⟨lw_p76, List.forall_mem_cons.mpr ⟨lw_p77, List.forall_mem_cons.mpr ⟨lw_p78, List.forall_mem_cons.mpr ⟨lw_p79, fun _ h => absurd h List.not_mem_nil⟩⟩⟩⟩⟩⟩⟩⟩⟩⟩⟩⟩⟩⟩⟩⟩
theorem lw_p80 : lw_okq (⟨"NeededTreesModel", "here", "(I)I"⟩, 59) := ⟨⟨by decide +kernel, by decide +kernel⟩, List.mem_of_getElem? (i := 674) (by decide +kernel), List.mem_of_getElem? (i := 960) (by decide +kernel), List.mem_of_getElem? (i := 961) (by decide +kernel)⟩
theorem lw_p81 : lw_okq (⟨"NeededTreesModel", "grown", "(I)I"⟩, 59) := ⟨⟨by decide +kernel, by decide +kernel⟩, List.mem_of_getElem? (i := 674) (by decide +kernel), List.mem_of_getElem? (i := 964) (by decide +kernel), List.mem_of_getElem? (i := 965) (by decide +kernel)⟩
theorem lw_p82 : lw_okq (⟨"NeededTreesModel", "shift", "(III)V"⟩, 59) := ⟨⟨by decide +kernel, by decide +kernel⟩, List.mem_of_getElem? (i := 674) (by decide +kernel), List.mem_of_getElem? (i := 968) (by decide +kernel), List.mem_of_getElem? (i := 969) (by decide +kernel)⟩
theorem lw_p83 : lw_okq (⟨"NeededTreesModel", "shiftBack", "(III)V"⟩, 59) := ⟨⟨by decide +kernel, by decide +kernel⟩, List.mem_of_getElem? (i := 674) (by decide +kernel), List.mem_of_getElem? (i := 972) (by decide +kernel), List.mem_of_getElem? (i := 973) (by decide +kernel)⟩
theorem lw_p84 : lw_okq (⟨"NeededTreesModel", "places", "(II)I"⟩, 59) := ⟨⟨by decide +kernel, by decide +kernel⟩, List.mem_of_getElem? (i := 674) (by decide +kernel), List.mem_of_getElem? (i := 988) (by decide +kernel), List.mem_of_getElem? (i := 989) (by decide +kernel)⟩
def lw_privs_6 : List (MethodName × Nat) := [(⟨"NeededTreesModel", "here", "(I)I"⟩, 59), (⟨"NeededTreesModel", "grown", "(I)I"⟩, 59), (⟨"NeededTreesModel", "shift", "(III)V"⟩, 59), (⟨"NeededTreesModel", "shiftBack", "(III)V"⟩, 59), (⟨"NeededTreesModel", "places", "(II)I"⟩, 59)]
theorem lw_r6 : ∀ q ∈ lw_privs_6, lw_okq q := List.forall_mem_cons.mpr ⟨lw_p80, List.forall_mem_cons.mpr ⟨lw_p81, List.forall_mem_cons.mpr ⟨lw_p82, List.forall_mem_cons.mpr ⟨lw_p83, List.forall_mem_cons.mpr ⟨lw_p84, fun _ h => absurd h List.not_mem_nil⟩⟩⟩⟩⟩
def lw_privs : List (MethodName × Nat) := lw_privs_1 ++ (lw_privs_2 ++ (lw_privs_3 ++ (lw_privs_4 ++ (lw_privs_5 ++ (lw_privs_6)))))
def lw_tbl : List Cond := k2_sels lw_privs ++ tables_1
theorem lw_privs_ok : ∀ q ∈ lw_privs, lw_okq q := by
  show ∀ q ∈ lw_privs_1 ++ (lw_privs_2 ++ (lw_privs_3 ++ (lw_privs_4 ++ (lw_privs_5 ++ (lw_privs_6))))), lw_okq q
  exact List.forall_mem_append.mpr ⟨lw_r1, List.forall_mem_append.mpr ⟨lw_r2, List.forall_mem_append.mpr ⟨lw_r3, List.forall_mem_append.mpr ⟨lw_r4, List.forall_mem_append.mpr ⟨lw_r5, lw_r6⟩⟩⟩⟩⟩
-- ===== end of PART A; then your names; then what follows =====
end
section
def RX0 : String := "NeededTrees$Outcomes"
def TX0 : u_T := fun k => match k with
  | 0 => ("NeededTrees$Outcomes", "rules", "[I", true)
  | 1 => ("NeededTrees$Outcomes", "asks", "[I", true)
  | 2 => ("NeededTrees$Outcomes", "freeAsks", "[I", true)
  | 3 => ("NeededTrees$Outcomes", "lengths", "[I", true)
  | 4 => ("NeededTrees$Outcomes", "told", "[I", false)
  | _ => ("NeededTrees$Outcomes", "many", "I", false)
def tyX0 : Nat → FieldType := fun k => match k with
  | 0 => .array .int
  | 1 => .array .int
  | 2 => .array .int
  | 3 => .array .int
  | 4 => .array .int
  | _ => .int
abbrev wsX00 : List Cond := u_ws RX0 TX0 6
theorem nmX0 : ∀ a, a < 6 → ∀ b, b < 6 → a ≠ b → (TX0 a).2.1 ≠ (TX0 b).2.1 := by decide +kernel
theorem tyX0_ok : ∀ k, k < 6 → parseFieldDescriptor (TX0 k).2.2.1 = some (tyX0 k) := by decide +kernel
abbrev cX0_init : ByteArray := prog_2_method_1_code
def yX0_init : MethodName := ⟨RX0, "<init>", "()V"⟩
abbrev cX0_clear : ByteArray := prog_2_method_2_code
def yX0_clear : MethodName := ⟨RX0, "clear", "()V"⟩
abbrev cX0_add : ByteArray := prog_2_method_3_code
def yX0_add : MethodName := ⟨RX0, "add", "(IIILNeededTrees$Terms;)V"⟩
abbrev cX0_answer : ByteArray := prog_2_method_4_code
def yX0_answer : MethodName := ⟨RX0, "answer", "(II)I"⟩
def RX1 : String := "NeededTrees$Planter"
def TX1 : u_T := fun k => match k with
  | 0 => ("NeededTrees$Planter", "rules", "LNeededTrees$Rules;", true)
  | 1 => ("NeededTrees$Planter", "tree", "LNeededTrees$Tree;", true)
  | 2 => ("NeededTrees$Planter", "groups", "[I", true)
  | 3 => ("NeededTrees$Planter", "labels", "[I", true)
  | 4 => ("NeededTrees$Planter", "depths", "[I", true)
  | 5 => ("NeededTrees$Planter", "cursor", "[I", true)
  | _ => ("NeededTrees$Planter", "waiting", "I", false)
def tyX1 : Nat → FieldType := fun k => match k with
  | 0 => .object "NeededTrees$Rules"
  | 1 => .object "NeededTrees$Tree"
  | 2 => .array .int
  | 3 => .array .int
  | 4 => .array .int
  | 5 => .array .int
  | _ => .int
abbrev wsX10 : List Cond := u_ws RX1 TX1 7
theorem nmX1 : ∀ a, a < 7 → ∀ b, b < 7 → a ≠ b → (TX1 a).2.1 ≠ (TX1 b).2.1 := by decide +kernel
theorem tyX1_ok : ∀ k, k < 7 → parseFieldDescriptor (TX1 k).2.2.1 = some (tyX1 k) := by decide +kernel
abbrev cX1_init : ByteArray := prog_3_method_1_code
def yX1_init : MethodName := ⟨RX1, "<init>", "(LNeededTrees$Rules;LNeededTrees$Tree;)V"⟩
abbrev cX1_plant : ByteArray := prog_3_method_2_code
def yX1_plant : MethodName := ⟨RX1, "plant", "()V"⟩
abbrev cX1_await : ByteArray := prog_3_method_3_code
def yX1_await : MethodName := ⟨RX1, "await", "(III)V"⟩
abbrev cX1_grow : ByteArray := prog_3_method_4_code
def yX1_grow : MethodName := ⟨RX1, "grow", "(III)V"⟩
abbrev cX1_takePosition : ByteArray := prog_3_method_5_code
def yX1_takePosition : MethodName := ⟨RX1, "takePosition", "(I)I"⟩
abbrev cX1_startCursors : ByteArray := prog_3_method_6_code
def yX1_startCursors : MethodName := ⟨RX1, "startCursors", "(I)V"⟩
abbrev cX1_enter : ByteArray := prog_3_method_7_code
def yX1_enter : MethodName := ⟨RX1, "enter", "(I)V"⟩
abbrev cX1_pass : ByteArray := prog_3_method_8_code
def yX1_pass : MethodName := ⟨RX1, "pass", "(I)V"⟩
abbrev cX1_needing : ByteArray := prog_3_method_9_code
def yX1_needing : MethodName := ⟨RX1, "needing", "(I)I"⟩
abbrev cX1_ask : ByteArray := prog_3_method_10_code
def yX1_ask : MethodName := ⟨RX1, "ask", "(II)V"⟩
abbrev cX1_lastConstructor : ByteArray := prog_3_method_11_code
def yX1_lastConstructor : MethodName := ⟨RX1, "lastConstructor", "(I)I"⟩
abbrev cX1_having : ByteArray := prog_3_method_12_code
def yX1_having : MethodName := ⟨RX1, "having", "(II)I"⟩
abbrev cX1_partByNeed : ByteArray := prog_3_method_13_code
def yX1_partByNeed : MethodName := ⟨RX1, "partByNeed", "(III)V"⟩
abbrev cX1_partEach : ByteArray := prog_3_method_14_code
def yX1_partEach : MethodName := ⟨RX1, "partEach", "(II)V"⟩
abbrev cX1_firstOf : ByteArray := prog_3_method_15_code
def yX1_firstOf : MethodName := ⟨RX1, "firstOf", "(I)I"⟩
def RX2 : String := "NeededTrees$Row"
def TX2 : u_T := fun k => match k with
  | 0 => ("NeededTrees$Row", "numbers", "[I", true)
  | 1 => ("NeededTrees$Row", "up", "[I", true)
  | 2 => ("NeededTrees$Row", "place", "[I", true)
  | 3 => ("NeededTrees$Row", "end", "[I", true)
  | 4 => ("NeededTrees$Row", "nameTypes", "[I", true)
  | 5 => ("NeededTrees$Row", "length", "I", false)
  | 6 => ("NeededTrees$Row", "holder", "I", false)
  | _ => ("NeededTrees$Row", "next", "I", false)
def tyX2 : Nat → FieldType := fun k => match k with
  | 0 => .array .int
  | 1 => .array .int
  | 2 => .array .int
  | 3 => .array .int
  | 4 => .array .int
  | 5 => .int
  | 6 => .int
  | _ => .int
abbrev wsX20 : List Cond := u_ws RX2 TX2 8
theorem nmX2 : ∀ a, a < 8 → ∀ b, b < 8 → a ≠ b → (TX2 a).2.1 ≠ (TX2 b).2.1 := by decide +kernel
theorem tyX2_ok : ∀ k, k < 8 → parseFieldDescriptor (TX2 k).2.2.1 = some (tyX2 k) := by decide +kernel
abbrev cX2_init : ByteArray := prog_4_method_1_code
def yX2_init : MethodName := ⟨RX2, "<init>", "()V"⟩
abbrev cX2_add : ByteArray := prog_4_method_2_code
def yX2_add : MethodName := ⟨RX2, "add", "(I)I"⟩
abbrev cX2_take : ByteArray := prog_4_method_3_code
def yX2_take : MethodName := ⟨RX2, "take", "()I"⟩
abbrev cX2_firstWrong : ByteArray := prog_4_method_4_code
def yX2_firstWrong : MethodName := ⟨RX2, "firstWrong", "(ILNeededTrees$Signature;Z)I"⟩
abbrev cX2_isWhole : ByteArray := prog_4_method_5_code
def yX2_isWhole : MethodName := ⟨RX2, "isWhole", "(LNeededTrees$Signature;)Z"⟩
abbrev cX2_holding : ByteArray := prog_4_method_6_code
def yX2_holding : MethodName := ⟨RX2, "holding", "()I"⟩
abbrev cX2_fits : ByteArray := prog_4_method_7_code
def yX2_fits : MethodName := ⟨RX2, "fits", "(IILNeededTrees$Signature;Z)Z"⟩
abbrev cX2_hang : ByteArray := prog_4_method_8_code
def yX2_hang : MethodName := ⟨RX2, "hang", "(I)V"⟩
abbrev cX2_closeWhole : ByteArray := prog_4_method_9_code
def yX2_closeWhole : MethodName := ⟨RX2, "closeWhole", "(ILNeededTrees$Signature;)V"⟩
def RX3 : String := "NeededTrees$Rules"
def TX3 : u_T := fun k => match k with
  | 0 => ("NeededTrees$Rules", "starts", "[I", true)
  | 1 => ("NeededTrees$Rules", "symbol", "[I", true)
  | 2 => ("NeededTrees$Rules", "up", "[I", true)
  | 3 => ("NeededTrees$Rules", "place", "[I", true)
  | 4 => ("NeededTrees$Rules", "end", "[I", true)
  | 5 => ("NeededTrees$Rules", "askedAt", "[I", true)
  | _ => ("NeededTrees$Rules", "many", "I", false)
def tyX3 : Nat → FieldType := fun k => match k with
  | 0 => .array .int
  | 1 => .array .int
  | 2 => .array .int
  | 3 => .array .int
  | 4 => .array .int
  | 5 => .array .int
  | _ => .int
abbrev wsX30 : List Cond := u_ws RX3 TX3 7
theorem nmX3 : ∀ a, a < 7 → ∀ b, b < 7 → a ≠ b → (TX3 a).2.1 ≠ (TX3 b).2.1 := by decide +kernel
theorem tyX3_ok : ∀ k, k < 7 → parseFieldDescriptor (TX3 k).2.2.1 = some (tyX3 k) := by decide +kernel
abbrev cX3_init : ByteArray := prog_5_method_1_code
def yX3_init : MethodName := ⟨RX3, "<init>", "()V"⟩
abbrev cX3_clear : ByteArray := prog_5_method_2_code
def yX3_clear : MethodName := ⟨RX3, "clear", "()V"⟩
abbrev cX3_hasRoom : ByteArray := prog_5_method_3_code
def yX3_hasRoom : MethodName := ⟨RX3, "hasRoom", "(I)Z"⟩
abbrev cX3_start : ByteArray := prog_5_method_4_code
def yX3_start : MethodName := ⟨RX3, "start", "(I)I"⟩
abbrev cX3_add : ByteArray := prog_5_method_5_code
def yX3_add : MethodName := ⟨RX3, "add", "(LNeededTrees$Row;I)I"⟩
abbrev cX3_forgetAsked : ByteArray := prog_5_method_6_code
def yX3_forgetAsked : MethodName := ⟨RX3, "forgetAsked", "()V"⟩
abbrev cX3_isAsked : ByteArray := prog_5_method_7_code
def yX3_isAsked : MethodName := ⟨RX3, "isAsked", "(I)Z"⟩
abbrev cX3_isVariable : ByteArray := prog_5_method_8_code
def yX3_isVariable : MethodName := ⟨RX3, "isVariable", "(I)Z"⟩
abbrev cX3_meet : ByteArray := prog_5_method_9_code
def yX3_meet : MethodName := ⟨RX3, "meet", "(II)Z"⟩
abbrev cX3_placesTo : ByteArray := prog_5_method_10_code
def yX3_placesTo : MethodName := ⟨RX3, "placesTo", "(I)I"⟩
abbrev cX3_placeOnWay : ByteArray := prog_5_method_11_code
def yX3_placeOnWay : MethodName := ⟨RX3, "placeOnWay", "(II)I"⟩
def RX4 : String := "NeededTrees$Signature"
def TX4 : u_T := fun k => match k with
  | 0 => ("NeededTrees$Signature", "ownTypes", "[I", true)
  | 1 => ("NeededTrees$Signature", "arities", "[I", true)
  | 2 => ("NeededTrees$Signature", "partTypes", "[I", true)
  | 3 => ("NeededTrees$Signature", "types", "I", false)
  | 4 => ("NeededTrees$Signature", "made", "I", false)
  | 5 => ("NeededTrees$Signature", "arguments", "I", false)
  | _ => ("NeededTrees$Signature", "argumentTypes", "I", false)
def tyX4 : Nat → FieldType := fun k => match k with
  | 0 => .array .int
  | 1 => .array .int
  | 2 => .array .int
  | 3 => .int
  | 4 => .int
  | 5 => .int
  | _ => .int
abbrev wsX40 : List Cond := u_ws RX4 TX4 7
theorem nmX4 : ∀ a, a < 7 → ∀ b, b < 7 → a ≠ b → (TX4 a).2.1 ≠ (TX4 b).2.1 := by decide +kernel
theorem tyX4_ok : ∀ k, k < 7 → parseFieldDescriptor (TX4 k).2.2.1 = some (tyX4 k) := by decide +kernel
abbrev cX4_init : ByteArray := prog_6_method_1_code
def yX4_init : MethodName := ⟨RX4, "<init>", "()V"⟩
abbrev cX4_addType : ByteArray := prog_6_method_2_code
def yX4_addType : MethodName := ⟨RX4, "addType", "()I"⟩
abbrev cX4_addConstructor : ByteArray := prog_6_method_3_code
def yX4_addConstructor : MethodName := ⟨RX4, "addConstructor", "(III)I"⟩
abbrev cX4_setFunction : ByteArray := prog_6_method_4_code
def yX4_setFunction : MethodName := ⟨RX4, "setFunction", "(II)Z"⟩
abbrev cX4_hasFunction : ByteArray := prog_6_method_5_code
def yX4_hasFunction : MethodName := ⟨RX4, "hasFunction", "()Z"⟩
abbrev cX4_areTypes : ByteArray := prog_6_method_6_code
def yX4_areTypes : MethodName := ⟨RX4, "areTypes", "(II)Z"⟩
abbrev cX4_typeOf : ByteArray := prog_6_method_7_code
def yX4_typeOf : MethodName := ⟨RX4, "typeOf", "(I)I"⟩
abbrev cX4_parts : ByteArray := prog_6_method_8_code
def yX4_parts : MethodName := ⟨RX4, "parts", "(I)I"⟩
abbrev cX4_wanted : ByteArray := prog_6_method_9_code
def yX4_wanted : MethodName := ⟨RX4, "wanted", "(II)I"⟩
abbrev cX4_constructorsOf : ByteArray := prog_6_method_10_code
def yX4_constructorsOf : MethodName := ⟨RX4, "constructorsOf", "(I)I"⟩
abbrev cX4_unpack : ByteArray := prog_6_method_11_code
def yX4_unpack : MethodName := ⟨RX4, "unpack", "(II)I"⟩
def RX5 : String := "NeededTrees$Terms"
def TX5 : u_T := fun k => match k with
  | 0 => ("NeededTrees$Terms", "signature", "LNeededTrees$Signature;", true)
  | 1 => ("NeededTrees$Terms", "head", "[I", true)
  | 2 => ("NeededTrees$Terms", "first", "[I", true)
  | 3 => ("NeededTrees$Terms", "end", "[I", true)
  | 4 => ("NeededTrees$Terms", "times", "[I", true)
  | 5 => ("NeededTrees$Terms", "alias", "[I", true)
  | 6 => ("NeededTrees$Terms", "bound", "[I", true)
  | 7 => ("NeededTrees$Terms", "unwritten", "[I", true)
  | 8 => ("NeededTrees$Terms", "cells", "I", false)
  | 9 => ("NeededTrees$Terms", "bindings", "I", false)
  | 10 => ("NeededTrees$Terms", "length", "I", false)
  | _ => ("NeededTrees$Terms", "left", "I", false)
def tyX5 : Nat → FieldType := fun k => match k with
  | 0 => .object "NeededTrees$Signature"
  | 1 => .array .int
  | 2 => .array .int
  | 3 => .array .int
  | 4 => .array .int
  | 5 => .array .int
  | 6 => .array .int
  | 7 => .array .int
  | 8 => .int
  | 9 => .int
  | 10 => .int
  | _ => .int
abbrev wsX50 : List Cond := u_ws RX5 TX5 12
theorem nmX5 : ∀ a, a < 12 → ∀ b, b < 12 → a ≠ b → (TX5 a).2.1 ≠ (TX5 b).2.1 := by decide +kernel
theorem tyX5_ok : ∀ k, k < 12 → parseFieldDescriptor (TX5 k).2.2.1 = some (tyX5 k) := by decide +kernel
abbrev cX5_init : ByteArray := prog_7_method_1_code
def yX5_init : MethodName := ⟨RX5, "<init>", "(LNeededTrees$Signature;)V"⟩
abbrev cX5_load : ByteArray := prog_7_method_2_code
def yX5_load : MethodName := ⟨RX5, "load", "(LNeededTrees$Row;I)V"⟩
abbrev cX5_meant : ByteArray := prog_7_method_3_code
def yX5_meant : MethodName := ⟨RX5, "meant", "(I)I"⟩
abbrev cX5_isFree : ByteArray := prog_7_method_4_code
def yX5_isFree : MethodName := ⟨RX5, "isFree", "(I)Z"⟩
abbrev cX5_part : ByteArray := prog_7_method_5_code
def yX5_part : MethodName := ⟨RX5, "part", "(II)I"⟩
abbrev cX5_bind : ByteArray := prog_7_method_6_code
def yX5_bind : MethodName := ⟨RX5, "bind", "(II)V"⟩
abbrev cX5_unbindTo : ByteArray := prog_7_method_7_code
def yX5_unbindTo : MethodName := ⟨RX5, "unbindTo", "(I)V"⟩
abbrev cX5_write : ByteArray := prog_7_method_8_code
def yX5_write : MethodName := ⟨RX5, "write", "([II)V"⟩
abbrev cX5_leave : ByteArray := prog_7_method_9_code
def yX5_leave : MethodName := ⟨RX5, "leave", "(II)V"⟩
def RX6 : String := "NeededTrees$Tree"
def TX6 : u_T := fun k => match k with
  | 0 => ("NeededTrees$Tree", "kind", "[I", true)
  | 1 => ("NeededTrees$Tree", "subject", "[I", true)
  | 2 => ("NeededTrees$Tree", "children", "[I", true)
  | 3 => ("NeededTrees$Tree", "label", "[I", true)
  | 4 => ("NeededTrees$Tree", "depth", "[I", true)
  | 5 => ("NeededTrees$Tree", "covering", "[I", true)
  | _ => ("NeededTrees$Tree", "nodes", "I", false)
def tyX6 : Nat → FieldType := fun k => match k with
  | 0 => .array .int
  | 1 => .array .int
  | 2 => .array .int
  | 3 => .array .int
  | 4 => .array .int
  | 5 => .array .int
  | _ => .int
abbrev wsX60 : List Cond := u_ws RX6 TX6 7
theorem nmX6 : ∀ a, a < 7 → ∀ b, b < 7 → a ≠ b → (TX6 a).2.1 ≠ (TX6 b).2.1 := by decide +kernel
theorem tyX6_ok : ∀ k, k < 7 → parseFieldDescriptor (TX6 k).2.2.1 = some (tyX6 k) := by decide +kernel
abbrev cX6_init : ByteArray := prog_8_method_1_code
def yX6_init : MethodName := ⟨RX6, "<init>", "()V"⟩
abbrev cX6_clear : ByteArray := prog_8_method_2_code
def yX6_clear : MethodName := ⟨RX6, "clear", "()V"⟩
abbrev cX6_add : ByteArray := prog_8_method_3_code
def yX6_add : MethodName := ⟨RX6, "add", "(IIIII)V"⟩
abbrev cX6_answer : ByteArray := prog_8_method_4_code
def yX6_answer : MethodName := ⟨RX6, "answer", "(LNeededTrees$Rules;II)I"⟩
abbrev cX6_places : ByteArray := prog_8_method_5_code
def yX6_places : MethodName := ⟨RX6, "places", "(LNeededTrees$Rules;I)I"⟩
abbrev cX6_howMany : ByteArray := prog_8_method_6_code
def yX6_howMany : MethodName := ⟨RX6, "howMany", "(I)I"⟩
abbrev cX6_deepest : ByteArray := prog_8_method_7_code
def yX6_deepest : MethodName := ⟨RX6, "deepest", "()I"⟩
abbrev cX6_coversAll : ByteArray := prog_8_method_8_code
def yX6_coversAll : MethodName := ⟨RX6, "coversAll", "(LNeededTrees$Rules;LNeededTrees$Signature;)Z"⟩
abbrev cX6_coversWith : ByteArray := prog_8_method_9_code
def yX6_coversWith : MethodName := ⟨RX6, "coversWith", "(IILNeededTrees$Rules;LNeededTrees$Signature;)Z"⟩
def RX7 : String := "NeededTrees$Walk"
def TX7 : u_T := fun k => match k with
  | 0 => ("NeededTrees$Walk", "rules", "LNeededTrees$Rules;", true)
  | 1 => ("NeededTrees$Walk", "tree", "LNeededTrees$Tree;", true)
  | 2 => ("NeededTrees$Walk", "terms", "LNeededTrees$Terms;", true)
  | 3 => ("NeededTrees$Walk", "outcomes", "LNeededTrees$Outcomes;", true)
  | 4 => ("NeededTrees$Walk", "marks", "[I", true)
  | 5 => ("NeededTrees$Walk", "cells", "[I", true)
  | 6 => ("NeededTrees$Walk", "asks", "[I", true)
  | _ => ("NeededTrees$Walk", "freeAsks", "[I", true)
def tyX7 : Nat → FieldType := fun k => match k with
  | 0 => .object "NeededTrees$Rules"
  | 1 => .object "NeededTrees$Tree"
  | 2 => .object "NeededTrees$Terms"
  | 3 => .object "NeededTrees$Outcomes"
  | 4 => .array .int
  | 5 => .array .int
  | 6 => .array .int
  | _ => .array .int
abbrev wsX70 : List Cond := u_ws RX7 TX7 8
theorem nmX7 : ∀ a, a < 8 → ∀ b, b < 8 → a ≠ b → (TX7 a).2.1 ≠ (TX7 b).2.1 := by decide +kernel
theorem tyX7_ok : ∀ k, k < 8 → parseFieldDescriptor (TX7 k).2.2.1 = some (tyX7 k) := by decide +kernel
abbrev cX7_init : ByteArray := prog_9_method_1_code
def yX7_init : MethodName := ⟨RX7, "<init>", "(LNeededTrees$Rules;LNeededTrees$Tree;LNeededTrees$Terms;LNeededTrees$Outcomes;)V"⟩
abbrev cX7_reachesAll : ByteArray := prog_9_method_2_code
def yX7_reachesAll : MethodName := ⟨RX7, "reachesAll", "()Z"⟩
abbrev cX7_comesTo : ByteArray := prog_9_method_3_code
def yX7_comesTo : MethodName := ⟨RX7, "comesTo", "(II)Z"⟩
abbrev cX7_ask : ByteArray := prog_9_method_4_code
def yX7_ask : MethodName := ⟨RX7, "ask", "(II)V"⟩
def RX8 : String := "NeededTrees"
def TX8 : u_T := fun k => match k with
  | 0 => ("NeededTrees", "signature", "LNeededTrees$Signature;", true)
  | 1 => ("NeededTrees", "row", "LNeededTrees$Row;", true)
  | 2 => ("NeededTrees", "rules", "LNeededTrees$Rules;", true)
  | 3 => ("NeededTrees", "tree", "LNeededTrees$Tree;", true)
  | 4 => ("NeededTrees", "planter", "LNeededTrees$Planter;", true)
  | 5 => ("NeededTrees", "terms", "LNeededTrees$Terms;", true)
  | 6 => ("NeededTrees", "outcomes", "LNeededTrees$Outcomes;", true)
  | 7 => ("NeededTrees", "walk", "LNeededTrees$Walk;", true)
  | _ => ("NeededTrees", "treeIsOld", "Z", false)
def tyX8 : Nat → FieldType := fun k => match k with
  | 0 => .object "NeededTrees$Signature"
  | 1 => .object "NeededTrees$Row"
  | 2 => .object "NeededTrees$Rules"
  | 3 => .object "NeededTrees$Tree"
  | 4 => .object "NeededTrees$Planter"
  | 5 => .object "NeededTrees$Terms"
  | 6 => .object "NeededTrees$Outcomes"
  | 7 => .object "NeededTrees$Walk"
  | _ => .boolean
abbrev wsX80 : List Cond := u_ws RX8 TX8 9
theorem nmX8 : ∀ a, a < 9 → ∀ b, b < 9 → a ≠ b → (TX8 a).2.1 ≠ (TX8 b).2.1 := by decide +kernel
theorem tyX8_ok : ∀ k, k < 9 → parseFieldDescriptor (TX8 k).2.2.1 = some (tyX8 k) := by decide +kernel
abbrev cX8_init : ByteArray := prog_1_method_1_code
def yX8_init : MethodName := ⟨RX8, "<init>", "()V"⟩
abbrev cX8_type : ByteArray := prog_1_method_2_code
def yX8_type : MethodName := ⟨RX8, "type", "()I"⟩
abbrev cX8_constructor : ByteArray := prog_1_method_3_code
def yX8_constructor : MethodName := ⟨RX8, "constructor", "(III)I"⟩
abbrev cX8_begin : ByteArray := prog_1_method_4_code
def yX8_begin : MethodName := ⟨RX8, "begin", "(II)Z"⟩
abbrev cX8_put : ByteArray := prog_1_method_5_code
def yX8_put : MethodName := ⟨RX8, "put", "(I)I"⟩
abbrev cX8_rule : ByteArray := prog_1_method_6_code
def yX8_rule : MethodName := ⟨RX8, "rule", "()I"⟩
abbrev cX8_lead : ByteArray := prog_1_method_7_code
def yX8_lead : MethodName := ⟨RX8, "lead", "()I"⟩
abbrev cX8_outcome : ByteArray := prog_1_method_8_code
def yX8_outcome : MethodName := ⟨RX8, "outcome", "(II)I"⟩
abbrev cX8_size : ByteArray := prog_1_method_9_code
def yX8_size : MethodName := ⟨RX8, "size", "()I"⟩
abbrev cX8_node : ByteArray := prog_1_method_10_code
def yX8_node : MethodName := ⟨RX8, "node", "(II)I"⟩
abbrev cX8_covers : ByteArray := prog_1_method_11_code
def yX8_covers : MethodName := ⟨RX8, "covers", "()Z"⟩
abbrev cX8_clash : ByteArray := prog_1_method_12_code
def yX8_clash : MethodName := ⟨RX8, "clash", "(II)Z"⟩
abbrev cX8_count : ByteArray := prog_1_method_13_code
def yX8_count : MethodName := ⟨RX8, "count", "(I)I"⟩
abbrev cX8_refreshTree : ByteArray := prog_1_method_14_code
def yX8_refreshTree : MethodName := ⟨RX8, "refreshTree", "()V"⟩
abbrev cX8_get : ByteArray := prog_1_method_15_code
def yX8_get : MethodName := ⟨RX8, "get", "([II)I"⟩
abbrev cX8_set : ByteArray := prog_1_method_16_code
def yX8_set : MethodName := ⟨RX8, "set", "([III)V"⟩
abbrev cX8_has : ByteArray := prog_1_method_17_code
def yX8_has : MethodName := ⟨RX8, "has", "(II)Z"⟩
def RX9 : String := "NeededTreesModel"
def TX9 : u_T := fun k => match k with
  | 0 => ("NeededTreesModel", "types", "I", false)
  | 1 => ("NeededTreesModel", "cons", "I", false)
  | 2 => ("NeededTreesModel", "conType", "[I", true)
  | 3 => ("NeededTreesModel", "arity", "[I", true)
  | 4 => ("NeededTreesModel", "conTypes", "[I", true)
  | 5 => ("NeededTreesModel", "args", "I", false)
  | 6 => ("NeededTreesModel", "argTypes", "I", false)
  | 7 => ("NeededTreesModel", "rules", "I", false)
  | 8 => ("NeededTreesModel", "row", "[I", true)
  | 9 => ("NeededTreesModel", "size", "I", false)
  | 10 => ("NeededTreesModel", "rule", "[I", true)
  | 11 => ("NeededTreesModel", "up", "[I", true)
  | 12 => ("NeededTreesModel", "at", "[I", true)
  | 13 => ("NeededTreesModel", "end", "[I", true)
  | 14 => ("NeededTreesModel", "long0", "[I", true)
  | 15 => ("NeededTreesModel", "wanted", "[I", true)
  | 16 => ("NeededTreesModel", "wantedIn", "[I", true)
  | 17 => ("NeededTreesModel", "wantedAt", "[I", true)
  | 18 => ("NeededTreesModel", "wants", "I", false)
  | 19 => ("NeededTreesModel", "in", "[I", true)
  | 20 => ("NeededTreesModel", "as", "[I", true)
  | 21 => ("NeededTreesModel", "nameType", "[I", true)
  | 22 => ("NeededTreesModel", "open", "[I", true)
  | 23 => ("NeededTreesModel", "opens", "I", false)
  | 24 => ("NeededTreesModel", "set", "[I", true)
  | 25 => ("NeededTreesModel", "taken", "[I", true)
  | 26 => ("NeededTreesModel", "setEnd", "I", false)
  | 27 => ("NeededTreesModel", "takenEnd", "I", false)
  | 28 => ("NeededTreesModel", "nodes", "I", false)
  | 29 => ("NeededTreesModel", "ors", "I", false)
  | 30 => ("NeededTreesModel", "branches", "I", false)
  | 31 => ("NeededTreesModel", "deepest", "I", false)
  | 32 => ("NeededTreesModel", "all", "Z", false)
  | 33 => ("NeededTreesModel", "sort", "[I", true)
  | 34 => ("NeededTreesModel", "leaf", "[I", true)
  | 35 => ("NeededTreesModel", "of", "[I", true)
  | 36 => ("NeededTreesModel", "spot", "[I", true)
  | 37 => ("NeededTreesModel", "many0", "[I", true)
  | 38 => ("NeededTreesModel", "by", "[I", true)
  | 39 => ("NeededTreesModel", "deep", "[I", true)
  | 40 => ("NeededTreesModel", "cell", "[I", true)
  | 41 => ("NeededTreesModel", "kids", "[I", true)
  | 42 => ("NeededTreesModel", "became", "[I", true)
  | 43 => ("NeededTreesModel", "cells", "I", false)
  | 44 => ("NeededTreesModel", "names", "I", false)
  | 45 => ("NeededTreesModel", "terms", "[I", true)
  | 46 => ("NeededTreesModel", "asked", "I", false)
  | 47 => ("NeededTreesModel", "askedFree", "I", false)
  | 48 => ("NeededTreesModel", "outcomes", "I", false)
  | 49 => ("NeededTreesModel", "came", "I", false)
  | 50 => ("NeededTreesModel", "sought", "I", false)
  | 51 => ("NeededTreesModel", "foundRule", "I", false)
  | 52 => ("NeededTreesModel", "foundAsked", "I", false)
  | 53 => ("NeededTreesModel", "foundFree", "I", false)
  | 54 => ("NeededTreesModel", "told", "I", false)
  | 55 => ("NeededTreesModel", "tell", "[I", true)
  | 56 => ("NeededTreesModel", "isLong", "Z", false)
  | 57 => ("NeededTreesModel", "numberOf", "[I", true)
  | _ => ("NeededTreesModel", "toTell", "[I", true)
def tyX9 : Nat → FieldType := fun k => match k with
  | 0 => .int
  | 1 => .int
  | 2 => .array .int
  | 3 => .array .int
  | 4 => .array .int
  | 5 => .int
  | 6 => .int
  | 7 => .int
  | 8 => .array .int
  | 9 => .int
  | 10 => .array .int
  | 11 => .array .int
  | 12 => .array .int
  | 13 => .array .int
  | 14 => .array .int
  | 15 => .array .int
  | 16 => .array .int
  | 17 => .array .int
  | 18 => .int
  | 19 => .array .int
  | 20 => .array .int
  | 21 => .array .int
  | 22 => .array .int
  | 23 => .int
  | 24 => .array .int
  | 25 => .array .int
  | 26 => .int
  | 27 => .int
  | 28 => .int
  | 29 => .int
  | 30 => .int
  | 31 => .int
  | 32 => .boolean
  | 33 => .array .int
  | 34 => .array .int
  | 35 => .array .int
  | 36 => .array .int
  | 37 => .array .int
  | 38 => .array .int
  | 39 => .array .int
  | 40 => .array .int
  | 41 => .array .int
  | 42 => .array .int
  | 43 => .int
  | 44 => .int
  | 45 => .array .int
  | 46 => .int
  | 47 => .int
  | 48 => .int
  | 49 => .int
  | 50 => .int
  | 51 => .int
  | 52 => .int
  | 53 => .int
  | 54 => .int
  | 55 => .array .int
  | 56 => .boolean
  | 57 => .array .int
  | _ => .array .int
abbrev wsX90 : List Cond := u_ws RX9 TX9 59
theorem nmX9 : ∀ a, a < 59 → ∀ b, b < 59 → a ≠ b → (TX9 a).2.1 ≠ (TX9 b).2.1 := by decide +kernel
theorem tyX9_ok : ∀ k, k < 59 → parseFieldDescriptor (TX9 k).2.2.1 = some (tyX9 k) := by decide +kernel
abbrev cX9_init : ByteArray := prog_11_method_1_code
def yX9_init : MethodName := ⟨RX9, "<init>", "()V"⟩
abbrev cX9_typeOf : ByteArray := prog_11_method_2_code
def yX9_typeOf : MethodName := ⟨RX9, "typeOf", "(II)I"⟩
abbrev cX9_areTypes : ByteArray := prog_11_method_3_code
def yX9_areTypes : MethodName := ⟨RX9, "areTypes", "(II)Z"⟩
abbrev cX9_type : ByteArray := prog_11_method_4_code
def yX9_type : MethodName := ⟨RX9, "type", "()I"⟩
abbrev cX9_constructor : ByteArray := prog_11_method_5_code
def yX9_constructor : MethodName := ⟨RX9, "constructor", "(III)I"⟩
abbrev cX9_begin : ByteArray := prog_11_method_6_code
def yX9_begin : MethodName := ⟨RX9, "begin", "(II)Z"⟩
abbrev cX9_put : ByteArray := prog_11_method_7_code
def yX9_put : MethodName := ⟨RX9, "put", "(I)I"⟩
abbrev cX9_want : ByteArray := prog_11_method_8_code
def yX9_want : MethodName := ⟨RX9, "want", "(III)V"⟩
abbrev cX9_wrong : ByteArray := prog_11_method_9_code
def yX9_wrong : MethodName := ⟨RX9, "wrong", "(Z)I"⟩
abbrev cX9_fits : ByteArray := prog_11_method_10_code
def yX9_fits : MethodName := ⟨RX9, "fits", "(IIZ)Z"⟩
abbrev cX9_rule : ByteArray := prog_11_method_11_code
def yX9_rule : MethodName := ⟨RX9, "rule", "()I"⟩
abbrev cX9_openAll : ByteArray := prog_11_method_12_code
def yX9_openAll : MethodName := ⟨RX9, "openAll", "()V"⟩
abbrev cX9_there : ByteArray := prog_11_method_13_code
def yX9_there : MethodName := ⟨RX9, "there", "(II)I"⟩
abbrev cX9_those : ByteArray := prog_11_method_14_code
def yX9_those : MethodName := ⟨RX9, "those", "(IIII)I"⟩
abbrev cX9_take : ByteArray := prog_11_method_15_code
def yX9_take : MethodName := ⟨RX9, "take", "(IIII)V"⟩
abbrev cX9_putBack : ByteArray := prog_11_method_16_code
def yX9_putBack : MethodName := ⟨RX9, "putBack", "(IIII)V"⟩
abbrev cX9_needed : ByteArray := prog_11_method_17_code
def yX9_needed : MethodName := ⟨RX9, "needed", "(II)I"⟩
abbrev cX9_run : ByteArray := prog_11_method_18_code
def yX9_run : MethodName := ⟨RX9, "run", "(III)I"⟩
abbrev cX9_lay : ByteArray := prog_11_method_19_code
def yX9_lay : MethodName := ⟨RX9, "lay", "()V"⟩
abbrev cX9_node : ByteArray := prog_11_method_20_code
def yX9_node : MethodName := ⟨RX9, "node", "(IIII)I"⟩
abbrev cX9_laid : ByteArray := prog_11_method_21_code
def yX9_laid : MethodName := ⟨RX9, "laid", "(LNeededTreesModel;IIII)Z"⟩
abbrev cX9_newCells : ByteArray := prog_11_method_22_code
def yX9_newCells : MethodName := ⟨RX9, "newCells", "(I)I"⟩
abbrev cX9_read : ByteArray := prog_11_method_23_code
def yX9_read : MethodName := ⟨RX9, "read", "()V"⟩
abbrev cX9_here : ByteArray := prog_11_method_24_code
def yX9_here : MethodName := ⟨RX9, "here", "(I)I"⟩
abbrev cX9_lead : ByteArray := prog_11_method_25_code
def yX9_lead : MethodName := ⟨RX9, "lead", "()I"⟩
abbrev cX9_go : ByteArray := prog_11_method_26_code
def yX9_go : MethodName := ⟨RX9, "go", "(I)V"⟩
abbrev cX9_led : ByteArray := prog_11_method_27_code
def yX9_led : MethodName := ⟨RX9, "led", "(LNeededTreesModel;II)V"⟩
abbrev cX9_grown : ByteArray := prog_11_method_28_code
def yX9_grown : MethodName := ⟨RX9, "grown", "(I)I"⟩
abbrev cX9_shift : ByteArray := prog_11_method_29_code
def yX9_shift : MethodName := ⟨RX9, "shift", "(III)V"⟩
abbrev cX9_shiftBack : ByteArray := prog_11_method_30_code
def yX9_shiftBack : MethodName := ⟨RX9, "shiftBack", "(III)V"⟩
abbrev cX9_comes : ByteArray := prog_11_method_31_code
def yX9_comes : MethodName := ⟨RX9, "comes", "(I)V"⟩
abbrev cX9_outcome : ByteArray := prog_11_method_32_code
def yX9_outcome : MethodName := ⟨RX9, "outcome", "(II)I"⟩
abbrev cX9_size : ByteArray := prog_11_method_33_code
def yX9_size : MethodName := ⟨RX9, "size", "()I"⟩
abbrev cX9_places : ByteArray := prog_11_method_34_code
def yX9_places : MethodName := ⟨RX9, "places", "(II)I"⟩
abbrev cX9_node_ : ByteArray := prog_11_method_35_code
def yX9_node_ : MethodName := ⟨RX9, "node", "(II)I"⟩
abbrev cX9_covers : ByteArray := prog_11_method_36_code
def yX9_covers : MethodName := ⟨RX9, "covers", "()Z"⟩
abbrev cX9_clash : ByteArray := prog_11_method_37_code
def yX9_clash : MethodName := ⟨RX9, "clash", "(II)Z"⟩
abbrev cX9_count : ByteArray := prog_11_method_38_code
def yX9_count : MethodName := ⟨RX9, "count", "(I)I"⟩
def RJ6 : String := "java/lang/Integer"
abbrev cJ6_bitCount_0f7a4 : ByteArray := prog_12_method_49_code
def yJ6_bitCount_0f7a4 : MethodName := ⟨RJ6, "bitCount", "(I)I"⟩
def RJ9 : String := "java/lang/Math"
abbrev cJ9_max_7cf53 : ByteArray := prog_13_method_65_code
def yJ9_max_7cf53 : MethodName := ⟨RJ9, "max", "(II)I"⟩
def RJ7 : String := "java/util/Arrays"
abbrev cJ7_fill_53178 : ByteArray := prog_14_method_103_code
def yJ7_fill_53178 : MethodName := ⟨RJ7, "fill", "([II)V"⟩
def RL : String := "NeededTreesLaw"
abbrev cL_law : ByteArray := code
def yL_law : MethodName := ⟨RL, "law", "([I)Z"⟩
abbrev vwCl : List vw_C := [(RX0, TX0, 6), (RX1, TX1, 7), (RX2, TX2, 8), (RX3, TX3, 7), (RX4, TX4, 7), (RX5, TX5, 12), (RX6, TX6, 7), (RX7, TX7, 8), (RX8, TX8, 9), (RX9, TX9, 59)]
end
section
theorem dL_law_0 : decode cL_law 0 = .ok (.new 7, 3) := by decide +kernel
theorem dL_law_3 : decode cL_law 3 = .ok (.dup, 1) := by decide +kernel
theorem dL_law_4 : decode cL_law 4 = .ok (.invokespecial 9, 3) := by decide +kernel
theorem dL_law_7 : decode cL_law 7 = .ok (.astore_n 1, 1) := by decide +kernel
theorem dL_law_8 : decode cL_law 8 = .ok (.new 10, 3) := by decide +kernel
theorem dL_law_11 : decode cL_law 11 = .ok (.dup, 1) := by decide +kernel
theorem dL_law_12 : decode cL_law 12 = .ok (.invokespecial 12, 3) := by decide +kernel
theorem dL_law_15 : decode cL_law 15 = .ok (.astore_n 2, 1) := by decide +kernel
theorem dL_law_16 : decode cL_law 16 = .ok (.iconst 0, 1) := by decide +kernel
theorem dL_law_17 : decode cL_law 17 = .ok (.istore_n 3, 1) := by decide +kernel
theorem dL_law_18 : decode cL_law 18 = .ok (.iload_n 3, 1) := by decide +kernel
theorem dL_law_19 : decode cL_law 19 = .ok (.aload_n 0, 1) := by decide +kernel
theorem dL_law_20 : decode cL_law 20 = .ok (.arraylength, 1) := by decide +kernel
theorem dL_law_21 : decode cL_law 21 = .ok (.iconst 4, 1) := by decide +kernel
theorem dL_law_22 : decode cL_law 22 = .ok (.isub, 1) := by decide +kernel
theorem dL_law_23 : decode cL_law 23 = .ok (.if_icmp .gt 365, 3) := by decide +kernel
theorem dL_law_26 : decode cL_law 26 = .ok (.aload_n 0, 1) := by decide +kernel
theorem dL_law_27 : decode cL_law 27 = .ok (.iload_n 3, 1) := by decide +kernel
theorem dL_law_28 : decode cL_law 28 = .ok (.iaload, 1) := by decide +kernel
theorem dL_law_29 : decode cL_law 29 = .ok (.bipush 15, 2) := by decide +kernel
theorem dL_law_31 : decode cL_law 31 = .ok (.iand, 1) := by decide +kernel
theorem dL_law_32 : decode cL_law 32 = .ok (.tableswitch 350 0 11 #[64, 77, 120, 153, 176, 189, 202, 235, 248, 281, 294, 327], 64) := by decide +kernel
theorem dL_law_96 : decode cL_law 96 = .ok (.aload_n 1, 1) := by decide +kernel
theorem dL_law_97 : decode cL_law 97 = .ok (.invokevirtual 13, 3) := by decide +kernel
theorem dL_law_100 : decode cL_law 100 = .ok (.aload_n 2, 1) := by decide +kernel
theorem dL_law_101 : decode cL_law 101 = .ok (.invokevirtual 17, 3) := by decide +kernel
theorem dL_law_104 : decode cL_law 104 = .ok (.if_icmp .eq 278, 3) := by decide +kernel
theorem dL_law_107 : decode cL_law 107 = .ok (.iconst 0, 1) := by decide +kernel
theorem dL_law_108 : decode cL_law 108 = .ok (.ireturn, 1) := by decide +kernel
theorem dL_law_109 : decode cL_law 109 = .ok (.aload_n 1, 1) := by decide +kernel
theorem dL_law_110 : decode cL_law 110 = .ok (.aload_n 0, 1) := by decide +kernel
theorem dL_law_111 : decode cL_law 111 = .ok (.iload_n 3, 1) := by decide +kernel
theorem dL_law_112 : decode cL_law 112 = .ok (.iconst 1, 1) := by decide +kernel
theorem dL_law_113 : decode cL_law 113 = .ok (.iadd, 1) := by decide +kernel
theorem dL_law_114 : decode cL_law 114 = .ok (.iaload, 1) := by decide +kernel
theorem dL_law_115 : decode cL_law 115 = .ok (.aload_n 0, 1) := by decide +kernel
theorem dL_law_116 : decode cL_law 116 = .ok (.iload_n 3, 1) := by decide +kernel
theorem dL_law_117 : decode cL_law 117 = .ok (.iconst 2, 1) := by decide +kernel
theorem dL_law_118 : decode cL_law 118 = .ok (.iadd, 1) := by decide +kernel
theorem dL_law_119 : decode cL_law 119 = .ok (.iaload, 1) := by decide +kernel
theorem dL_law_120 : decode cL_law 120 = .ok (.aload_n 0, 1) := by decide +kernel
theorem dL_law_121 : decode cL_law 121 = .ok (.iload_n 3, 1) := by decide +kernel
theorem dL_law_122 : decode cL_law 122 = .ok (.iconst 3, 1) := by decide +kernel
theorem dL_law_123 : decode cL_law 123 = .ok (.iadd, 1) := by decide +kernel
theorem dL_law_124 : decode cL_law 124 = .ok (.iaload, 1) := by decide +kernel
theorem dL_law_125 : decode cL_law 125 = .ok (.invokevirtual 18, 3) := by decide +kernel
theorem dL_law_128 : decode cL_law 128 = .ok (.aload_n 2, 1) := by decide +kernel
theorem dL_law_129 : decode cL_law 129 = .ok (.aload_n 0, 1) := by decide +kernel
theorem dL_law_130 : decode cL_law 130 = .ok (.iload_n 3, 1) := by decide +kernel
theorem dL_law_131 : decode cL_law 131 = .ok (.iconst 1, 1) := by decide +kernel
theorem dL_law_132 : decode cL_law 132 = .ok (.iadd, 1) := by decide +kernel
theorem dL_law_133 : decode cL_law 133 = .ok (.iaload, 1) := by decide +kernel
theorem dL_law_134 : decode cL_law 134 = .ok (.aload_n 0, 1) := by decide +kernel
theorem dL_law_135 : decode cL_law 135 = .ok (.iload_n 3, 1) := by decide +kernel
theorem dL_law_136 : decode cL_law 136 = .ok (.iconst 2, 1) := by decide +kernel
theorem dL_law_137 : decode cL_law 137 = .ok (.iadd, 1) := by decide +kernel
theorem dL_law_138 : decode cL_law 138 = .ok (.iaload, 1) := by decide +kernel
theorem dL_law_139 : decode cL_law 139 = .ok (.aload_n 0, 1) := by decide +kernel
theorem dL_law_140 : decode cL_law 140 = .ok (.iload_n 3, 1) := by decide +kernel
theorem dL_law_141 : decode cL_law 141 = .ok (.iconst 3, 1) := by decide +kernel
theorem dL_law_142 : decode cL_law 142 = .ok (.iadd, 1) := by decide +kernel
theorem dL_law_143 : decode cL_law 143 = .ok (.iaload, 1) := by decide +kernel
theorem dL_law_144 : decode cL_law 144 = .ok (.invokevirtual 22, 3) := by decide +kernel
theorem dL_law_147 : decode cL_law 147 = .ok (.if_icmp .eq 235, 3) := by decide +kernel
theorem dL_law_150 : decode cL_law 150 = .ok (.iconst 0, 1) := by decide +kernel
theorem dL_law_151 : decode cL_law 151 = .ok (.ireturn, 1) := by decide +kernel
theorem dL_law_152 : decode cL_law 152 = .ok (.aload_n 1, 1) := by decide +kernel
theorem dL_law_153 : decode cL_law 153 = .ok (.aload_n 0, 1) := by decide +kernel
theorem dL_law_154 : decode cL_law 154 = .ok (.iload_n 3, 1) := by decide +kernel
theorem dL_law_155 : decode cL_law 155 = .ok (.iconst 1, 1) := by decide +kernel
theorem dL_law_156 : decode cL_law 156 = .ok (.iadd, 1) := by decide +kernel
theorem dL_law_157 : decode cL_law 157 = .ok (.iaload, 1) := by decide +kernel
theorem dL_law_158 : decode cL_law 158 = .ok (.aload_n 0, 1) := by decide +kernel
theorem dL_law_159 : decode cL_law 159 = .ok (.iload_n 3, 1) := by decide +kernel
theorem dL_law_160 : decode cL_law 160 = .ok (.iconst 2, 1) := by decide +kernel
theorem dL_law_161 : decode cL_law 161 = .ok (.iadd, 1) := by decide +kernel
theorem dL_law_162 : decode cL_law 162 = .ok (.iaload, 1) := by decide +kernel
theorem dL_law_163 : decode cL_law 163 = .ok (.invokevirtual 23, 3) := by decide +kernel
theorem dL_law_166 : decode cL_law 166 = .ok (.aload_n 2, 1) := by decide +kernel
theorem dL_law_167 : decode cL_law 167 = .ok (.aload_n 0, 1) := by decide +kernel
theorem dL_law_168 : decode cL_law 168 = .ok (.iload_n 3, 1) := by decide +kernel
theorem dL_law_169 : decode cL_law 169 = .ok (.iconst 1, 1) := by decide +kernel
theorem dL_law_170 : decode cL_law 170 = .ok (.iadd, 1) := by decide +kernel
theorem dL_law_171 : decode cL_law 171 = .ok (.iaload, 1) := by decide +kernel
theorem dL_law_172 : decode cL_law 172 = .ok (.aload_n 0, 1) := by decide +kernel
theorem dL_law_173 : decode cL_law 173 = .ok (.iload_n 3, 1) := by decide +kernel
theorem dL_law_174 : decode cL_law 174 = .ok (.iconst 2, 1) := by decide +kernel
theorem dL_law_175 : decode cL_law 175 = .ok (.iadd, 1) := by decide +kernel
theorem dL_law_176 : decode cL_law 176 = .ok (.iaload, 1) := by decide +kernel
theorem dL_law_177 : decode cL_law 177 = .ok (.invokevirtual 27, 3) := by decide +kernel
theorem dL_law_180 : decode cL_law 180 = .ok (.if_icmp .eq 202, 3) := by decide +kernel
theorem dL_law_183 : decode cL_law 183 = .ok (.iconst 0, 1) := by decide +kernel
theorem dL_law_184 : decode cL_law 184 = .ok (.ireturn, 1) := by decide +kernel
theorem dL_law_185 : decode cL_law 185 = .ok (.aload_n 1, 1) := by decide +kernel
theorem dL_law_186 : decode cL_law 186 = .ok (.aload_n 0, 1) := by decide +kernel
theorem dL_law_187 : decode cL_law 187 = .ok (.iload_n 3, 1) := by decide +kernel
theorem dL_law_188 : decode cL_law 188 = .ok (.iconst 1, 1) := by decide +kernel
theorem dL_law_189 : decode cL_law 189 = .ok (.iadd, 1) := by decide +kernel
theorem dL_law_190 : decode cL_law 190 = .ok (.iaload, 1) := by decide +kernel
theorem dL_law_191 : decode cL_law 191 = .ok (.invokevirtual 28, 3) := by decide +kernel
theorem dL_law_194 : decode cL_law 194 = .ok (.aload_n 2, 1) := by decide +kernel
theorem dL_law_195 : decode cL_law 195 = .ok (.aload_n 0, 1) := by decide +kernel
theorem dL_law_196 : decode cL_law 196 = .ok (.iload_n 3, 1) := by decide +kernel
theorem dL_law_197 : decode cL_law 197 = .ok (.iconst 1, 1) := by decide +kernel
theorem dL_law_198 : decode cL_law 198 = .ok (.iadd, 1) := by decide +kernel
theorem dL_law_199 : decode cL_law 199 = .ok (.iaload, 1) := by decide +kernel
theorem dL_law_200 : decode cL_law 200 = .ok (.invokevirtual 32, 3) := by decide +kernel
theorem dL_law_203 : decode cL_law 203 = .ok (.if_icmp .eq 179, 3) := by decide +kernel
theorem dL_law_206 : decode cL_law 206 = .ok (.iconst 0, 1) := by decide +kernel
theorem dL_law_207 : decode cL_law 207 = .ok (.ireturn, 1) := by decide +kernel
theorem dL_law_208 : decode cL_law 208 = .ok (.aload_n 1, 1) := by decide +kernel
theorem dL_law_209 : decode cL_law 209 = .ok (.invokevirtual 33, 3) := by decide +kernel
theorem dL_law_212 : decode cL_law 212 = .ok (.aload_n 2, 1) := by decide +kernel
theorem dL_law_213 : decode cL_law 213 = .ok (.invokevirtual 36, 3) := by decide +kernel
theorem dL_law_216 : decode cL_law 216 = .ok (.if_icmp .eq 166, 3) := by decide +kernel
theorem dL_law_219 : decode cL_law 219 = .ok (.iconst 0, 1) := by decide +kernel
theorem dL_law_220 : decode cL_law 220 = .ok (.ireturn, 1) := by decide +kernel
theorem dL_law_221 : decode cL_law 221 = .ok (.aload_n 1, 1) := by decide +kernel
theorem dL_law_222 : decode cL_law 222 = .ok (.invokevirtual 37, 3) := by decide +kernel
theorem dL_law_225 : decode cL_law 225 = .ok (.aload_n 2, 1) := by decide +kernel
theorem dL_law_226 : decode cL_law 226 = .ok (.invokevirtual 40, 3) := by decide +kernel
theorem dL_law_229 : decode cL_law 229 = .ok (.if_icmp .eq 153, 3) := by decide +kernel
theorem dL_law_232 : decode cL_law 232 = .ok (.iconst 0, 1) := by decide +kernel
theorem dL_law_233 : decode cL_law 233 = .ok (.ireturn, 1) := by decide +kernel
theorem dL_law_234 : decode cL_law 234 = .ok (.aload_n 1, 1) := by decide +kernel
theorem dL_law_235 : decode cL_law 235 = .ok (.aload_n 0, 1) := by decide +kernel
theorem dL_law_236 : decode cL_law 236 = .ok (.iload_n 3, 1) := by decide +kernel
theorem dL_law_237 : decode cL_law 237 = .ok (.iconst 1, 1) := by decide +kernel
theorem dL_law_238 : decode cL_law 238 = .ok (.iadd, 1) := by decide +kernel
theorem dL_law_239 : decode cL_law 239 = .ok (.iaload, 1) := by decide +kernel
theorem dL_law_240 : decode cL_law 240 = .ok (.aload_n 0, 1) := by decide +kernel
theorem dL_law_241 : decode cL_law 241 = .ok (.iload_n 3, 1) := by decide +kernel
theorem dL_law_242 : decode cL_law 242 = .ok (.iconst 2, 1) := by decide +kernel
theorem dL_law_243 : decode cL_law 243 = .ok (.iadd, 1) := by decide +kernel
theorem dL_law_244 : decode cL_law 244 = .ok (.iaload, 1) := by decide +kernel
theorem dL_law_245 : decode cL_law 245 = .ok (.invokevirtual 41, 3) := by decide +kernel
theorem dL_law_248 : decode cL_law 248 = .ok (.aload_n 2, 1) := by decide +kernel
theorem dL_law_249 : decode cL_law 249 = .ok (.aload_n 0, 1) := by decide +kernel
theorem dL_law_250 : decode cL_law 250 = .ok (.iload_n 3, 1) := by decide +kernel
theorem dL_law_251 : decode cL_law 251 = .ok (.iconst 1, 1) := by decide +kernel
theorem dL_law_252 : decode cL_law 252 = .ok (.iadd, 1) := by decide +kernel
theorem dL_law_253 : decode cL_law 253 = .ok (.iaload, 1) := by decide +kernel
theorem dL_law_254 : decode cL_law 254 = .ok (.aload_n 0, 1) := by decide +kernel
theorem dL_law_255 : decode cL_law 255 = .ok (.iload_n 3, 1) := by decide +kernel
theorem dL_law_256 : decode cL_law 256 = .ok (.iconst 2, 1) := by decide +kernel
theorem dL_law_257 : decode cL_law 257 = .ok (.iadd, 1) := by decide +kernel
theorem dL_law_258 : decode cL_law 258 = .ok (.iaload, 1) := by decide +kernel
theorem dL_law_259 : decode cL_law 259 = .ok (.invokevirtual 45, 3) := by decide +kernel
theorem dL_law_262 : decode cL_law 262 = .ok (.if_icmp .eq 120, 3) := by decide +kernel
theorem dL_law_265 : decode cL_law 265 = .ok (.iconst 0, 1) := by decide +kernel
theorem dL_law_266 : decode cL_law 266 = .ok (.ireturn, 1) := by decide +kernel
theorem dL_law_267 : decode cL_law 267 = .ok (.aload_n 1, 1) := by decide +kernel
theorem dL_law_268 : decode cL_law 268 = .ok (.invokevirtual 46, 3) := by decide +kernel
theorem dL_law_271 : decode cL_law 271 = .ok (.aload_n 2, 1) := by decide +kernel
theorem dL_law_272 : decode cL_law 272 = .ok (.invokevirtual 49, 3) := by decide +kernel
theorem dL_law_275 : decode cL_law 275 = .ok (.if_icmp .eq 107, 3) := by decide +kernel
theorem dL_law_278 : decode cL_law 278 = .ok (.iconst 0, 1) := by decide +kernel
theorem dL_law_279 : decode cL_law 279 = .ok (.ireturn, 1) := by decide +kernel
theorem dL_law_280 : decode cL_law 280 = .ok (.aload_n 1, 1) := by decide +kernel
theorem dL_law_281 : decode cL_law 281 = .ok (.aload_n 0, 1) := by decide +kernel
theorem dL_law_282 : decode cL_law 282 = .ok (.iload_n 3, 1) := by decide +kernel
theorem dL_law_283 : decode cL_law 283 = .ok (.iconst 1, 1) := by decide +kernel
theorem dL_law_284 : decode cL_law 284 = .ok (.iadd, 1) := by decide +kernel
theorem dL_law_285 : decode cL_law 285 = .ok (.iaload, 1) := by decide +kernel
theorem dL_law_286 : decode cL_law 286 = .ok (.aload_n 0, 1) := by decide +kernel
theorem dL_law_287 : decode cL_law 287 = .ok (.iload_n 3, 1) := by decide +kernel
theorem dL_law_288 : decode cL_law 288 = .ok (.iconst 2, 1) := by decide +kernel
theorem dL_law_289 : decode cL_law 289 = .ok (.iadd, 1) := by decide +kernel
theorem dL_law_290 : decode cL_law 290 = .ok (.iaload, 1) := by decide +kernel
theorem dL_law_291 : decode cL_law 291 = .ok (.invokevirtual 50, 3) := by decide +kernel
theorem dL_law_294 : decode cL_law 294 = .ok (.aload_n 2, 1) := by decide +kernel
theorem dL_law_295 : decode cL_law 295 = .ok (.aload_n 0, 1) := by decide +kernel
theorem dL_law_296 : decode cL_law 296 = .ok (.iload_n 3, 1) := by decide +kernel
theorem dL_law_297 : decode cL_law 297 = .ok (.iconst 1, 1) := by decide +kernel
theorem dL_law_298 : decode cL_law 298 = .ok (.iadd, 1) := by decide +kernel
theorem dL_law_299 : decode cL_law 299 = .ok (.iaload, 1) := by decide +kernel
theorem dL_law_300 : decode cL_law 300 = .ok (.aload_n 0, 1) := by decide +kernel
theorem dL_law_301 : decode cL_law 301 = .ok (.iload_n 3, 1) := by decide +kernel
theorem dL_law_302 : decode cL_law 302 = .ok (.iconst 2, 1) := by decide +kernel
theorem dL_law_303 : decode cL_law 303 = .ok (.iadd, 1) := by decide +kernel
theorem dL_law_304 : decode cL_law 304 = .ok (.iaload, 1) := by decide +kernel
theorem dL_law_305 : decode cL_law 305 = .ok (.invokevirtual 53, 3) := by decide +kernel
theorem dL_law_308 : decode cL_law 308 = .ok (.if_icmp .eq 74, 3) := by decide +kernel
theorem dL_law_311 : decode cL_law 311 = .ok (.iconst 0, 1) := by decide +kernel
theorem dL_law_312 : decode cL_law 312 = .ok (.ireturn, 1) := by decide +kernel
theorem dL_law_313 : decode cL_law 313 = .ok (.aload_n 1, 1) := by decide +kernel
theorem dL_law_314 : decode cL_law 314 = .ok (.invokevirtual 54, 3) := by decide +kernel
theorem dL_law_317 : decode cL_law 317 = .ok (.aload_n 2, 1) := by decide +kernel
theorem dL_law_318 : decode cL_law 318 = .ok (.invokevirtual 58, 3) := by decide +kernel
theorem dL_law_321 : decode cL_law 321 = .ok (.if_icmp .eq 61, 3) := by decide +kernel
theorem dL_law_324 : decode cL_law 324 = .ok (.iconst 0, 1) := by decide +kernel
theorem dL_law_325 : decode cL_law 325 = .ok (.ireturn, 1) := by decide +kernel
theorem dL_law_326 : decode cL_law 326 = .ok (.aload_n 1, 1) := by decide +kernel
theorem dL_law_327 : decode cL_law 327 = .ok (.aload_n 0, 1) := by decide +kernel
theorem dL_law_328 : decode cL_law 328 = .ok (.iload_n 3, 1) := by decide +kernel
theorem dL_law_329 : decode cL_law 329 = .ok (.iconst 1, 1) := by decide +kernel
theorem dL_law_330 : decode cL_law 330 = .ok (.iadd, 1) := by decide +kernel
theorem dL_law_331 : decode cL_law 331 = .ok (.iaload, 1) := by decide +kernel
theorem dL_law_332 : decode cL_law 332 = .ok (.aload_n 0, 1) := by decide +kernel
theorem dL_law_333 : decode cL_law 333 = .ok (.iload_n 3, 1) := by decide +kernel
theorem dL_law_334 : decode cL_law 334 = .ok (.iconst 2, 1) := by decide +kernel
theorem dL_law_335 : decode cL_law 335 = .ok (.iadd, 1) := by decide +kernel
theorem dL_law_336 : decode cL_law 336 = .ok (.iaload, 1) := by decide +kernel
theorem dL_law_337 : decode cL_law 337 = .ok (.invokevirtual 59, 3) := by decide +kernel
theorem dL_law_340 : decode cL_law 340 = .ok (.aload_n 2, 1) := by decide +kernel
theorem dL_law_341 : decode cL_law 341 = .ok (.aload_n 0, 1) := by decide +kernel
theorem dL_law_342 : decode cL_law 342 = .ok (.iload_n 3, 1) := by decide +kernel
theorem dL_law_343 : decode cL_law 343 = .ok (.iconst 1, 1) := by decide +kernel
theorem dL_law_344 : decode cL_law 344 = .ok (.iadd, 1) := by decide +kernel
theorem dL_law_345 : decode cL_law 345 = .ok (.iaload, 1) := by decide +kernel
theorem dL_law_346 : decode cL_law 346 = .ok (.aload_n 0, 1) := by decide +kernel
theorem dL_law_347 : decode cL_law 347 = .ok (.iload_n 3, 1) := by decide +kernel
theorem dL_law_348 : decode cL_law 348 = .ok (.iconst 2, 1) := by decide +kernel
theorem dL_law_349 : decode cL_law 349 = .ok (.iadd, 1) := by decide +kernel
theorem dL_law_350 : decode cL_law 350 = .ok (.iaload, 1) := by decide +kernel
theorem dL_law_351 : decode cL_law 351 = .ok (.invokevirtual 62, 3) := by decide +kernel
theorem dL_law_354 : decode cL_law 354 = .ok (.if_icmp .eq 28, 3) := by decide +kernel
theorem dL_law_357 : decode cL_law 357 = .ok (.iconst 0, 1) := by decide +kernel
theorem dL_law_358 : decode cL_law 358 = .ok (.ireturn, 1) := by decide +kernel
theorem dL_law_359 : decode cL_law 359 = .ok (.aload_n 1, 1) := by decide +kernel
theorem dL_law_360 : decode cL_law 360 = .ok (.aload_n 0, 1) := by decide +kernel
theorem dL_law_361 : decode cL_law 361 = .ok (.iload_n 3, 1) := by decide +kernel
theorem dL_law_362 : decode cL_law 362 = .ok (.iconst 1, 1) := by decide +kernel
theorem dL_law_363 : decode cL_law 363 = .ok (.iadd, 1) := by decide +kernel
theorem dL_law_364 : decode cL_law 364 = .ok (.iaload, 1) := by decide +kernel
theorem dL_law_365 : decode cL_law 365 = .ok (.invokevirtual 63, 3) := by decide +kernel
theorem dL_law_368 : decode cL_law 368 = .ok (.aload_n 2, 1) := by decide +kernel
theorem dL_law_369 : decode cL_law 369 = .ok (.aload_n 0, 1) := by decide +kernel
theorem dL_law_370 : decode cL_law 370 = .ok (.iload_n 3, 1) := by decide +kernel
theorem dL_law_371 : decode cL_law 371 = .ok (.iconst 1, 1) := by decide +kernel
theorem dL_law_372 : decode cL_law 372 = .ok (.iadd, 1) := by decide +kernel
theorem dL_law_373 : decode cL_law 373 = .ok (.iaload, 1) := by decide +kernel
theorem dL_law_374 : decode cL_law 374 = .ok (.invokevirtual 66, 3) := by decide +kernel
theorem dL_law_377 : decode cL_law 377 = .ok (.if_icmp .eq 5, 3) := by decide +kernel
theorem dL_law_380 : decode cL_law 380 = .ok (.iconst 0, 1) := by decide +kernel
theorem dL_law_381 : decode cL_law 381 = .ok (.ireturn, 1) := by decide +kernel
theorem dL_law_382 : decode cL_law 382 = .ok (.iinc 3 4, 3) := by decide +kernel
theorem dL_law_385 : decode cL_law 385 = .ok (.goto (-367), 3) := by decide +kernel
theorem dL_law_388 : decode cL_law 388 = .ok (.iconst 1, 1) := by decide +kernel
theorem dL_law_389 : decode cL_law 389 = .ok (.ireturn, 1) := by decide +kernel
theorem dJ6_bitCount_0f7a4_0 : decode cJ6_bitCount_0f7a4 0 = .ok (.iload_n 0, 1) := by decide +kernel
theorem dJ6_bitCount_0f7a4_1 : decode cJ6_bitCount_0f7a4 1 = .ok (.iload_n 0, 1) := by decide +kernel
theorem dJ6_bitCount_0f7a4_2 : decode cJ6_bitCount_0f7a4 2 = .ok (.iconst 1, 1) := by decide +kernel
theorem dJ6_bitCount_0f7a4_3 : decode cJ6_bitCount_0f7a4 3 = .ok (.iushr, 1) := by decide +kernel
theorem dJ6_bitCount_0f7a4_4 : decode cJ6_bitCount_0f7a4 4 = .ok (.ldc_w 265, 3) := by decide +kernel
theorem dJ6_bitCount_0f7a4_7 : decode cJ6_bitCount_0f7a4 7 = .ok (.iand, 1) := by decide +kernel
theorem dJ6_bitCount_0f7a4_8 : decode cJ6_bitCount_0f7a4 8 = .ok (.isub, 1) := by decide +kernel
theorem dJ6_bitCount_0f7a4_9 : decode cJ6_bitCount_0f7a4 9 = .ok (.istore_n 0, 1) := by decide +kernel
theorem dJ6_bitCount_0f7a4_10 : decode cJ6_bitCount_0f7a4 10 = .ok (.iload_n 0, 1) := by decide +kernel
theorem dJ6_bitCount_0f7a4_11 : decode cJ6_bitCount_0f7a4 11 = .ok (.ldc_w 266, 3) := by decide +kernel
theorem dJ6_bitCount_0f7a4_14 : decode cJ6_bitCount_0f7a4 14 = .ok (.iand, 1) := by decide +kernel
theorem dJ6_bitCount_0f7a4_15 : decode cJ6_bitCount_0f7a4 15 = .ok (.iload_n 0, 1) := by decide +kernel
theorem dJ6_bitCount_0f7a4_16 : decode cJ6_bitCount_0f7a4 16 = .ok (.iconst 2, 1) := by decide +kernel
theorem dJ6_bitCount_0f7a4_17 : decode cJ6_bitCount_0f7a4 17 = .ok (.iushr, 1) := by decide +kernel
theorem dJ6_bitCount_0f7a4_18 : decode cJ6_bitCount_0f7a4 18 = .ok (.ldc_w 266, 3) := by decide +kernel
theorem dJ6_bitCount_0f7a4_21 : decode cJ6_bitCount_0f7a4 21 = .ok (.iand, 1) := by decide +kernel
theorem dJ6_bitCount_0f7a4_22 : decode cJ6_bitCount_0f7a4 22 = .ok (.iadd, 1) := by decide +kernel
theorem dJ6_bitCount_0f7a4_23 : decode cJ6_bitCount_0f7a4 23 = .ok (.istore_n 0, 1) := by decide +kernel
theorem dJ6_bitCount_0f7a4_24 : decode cJ6_bitCount_0f7a4 24 = .ok (.iload_n 0, 1) := by decide +kernel
theorem dJ6_bitCount_0f7a4_25 : decode cJ6_bitCount_0f7a4 25 = .ok (.iload_n 0, 1) := by decide +kernel
theorem dJ6_bitCount_0f7a4_26 : decode cJ6_bitCount_0f7a4 26 = .ok (.iconst 4, 1) := by decide +kernel
theorem dJ6_bitCount_0f7a4_27 : decode cJ6_bitCount_0f7a4 27 = .ok (.iushr, 1) := by decide +kernel
theorem dJ6_bitCount_0f7a4_28 : decode cJ6_bitCount_0f7a4 28 = .ok (.iadd, 1) := by decide +kernel
theorem dJ6_bitCount_0f7a4_29 : decode cJ6_bitCount_0f7a4 29 = .ok (.ldc_w 267, 3) := by decide +kernel
theorem dJ6_bitCount_0f7a4_32 : decode cJ6_bitCount_0f7a4 32 = .ok (.iand, 1) := by decide +kernel
theorem dJ6_bitCount_0f7a4_33 : decode cJ6_bitCount_0f7a4 33 = .ok (.istore_n 0, 1) := by decide +kernel
theorem dJ6_bitCount_0f7a4_34 : decode cJ6_bitCount_0f7a4 34 = .ok (.iload_n 0, 1) := by decide +kernel
theorem dJ6_bitCount_0f7a4_35 : decode cJ6_bitCount_0f7a4 35 = .ok (.iload_n 0, 1) := by decide +kernel
theorem dJ6_bitCount_0f7a4_36 : decode cJ6_bitCount_0f7a4 36 = .ok (.bipush 8, 2) := by decide +kernel
theorem dJ6_bitCount_0f7a4_38 : decode cJ6_bitCount_0f7a4 38 = .ok (.iushr, 1) := by decide +kernel
theorem dJ6_bitCount_0f7a4_39 : decode cJ6_bitCount_0f7a4 39 = .ok (.iadd, 1) := by decide +kernel
theorem dJ6_bitCount_0f7a4_40 : decode cJ6_bitCount_0f7a4 40 = .ok (.istore_n 0, 1) := by decide +kernel
theorem dJ6_bitCount_0f7a4_41 : decode cJ6_bitCount_0f7a4 41 = .ok (.iload_n 0, 1) := by decide +kernel
theorem dJ6_bitCount_0f7a4_42 : decode cJ6_bitCount_0f7a4 42 = .ok (.iload_n 0, 1) := by decide +kernel
theorem dJ6_bitCount_0f7a4_43 : decode cJ6_bitCount_0f7a4 43 = .ok (.bipush 16, 2) := by decide +kernel
theorem dJ6_bitCount_0f7a4_45 : decode cJ6_bitCount_0f7a4 45 = .ok (.iushr, 1) := by decide +kernel
theorem dJ6_bitCount_0f7a4_46 : decode cJ6_bitCount_0f7a4 46 = .ok (.iadd, 1) := by decide +kernel
theorem dJ6_bitCount_0f7a4_47 : decode cJ6_bitCount_0f7a4 47 = .ok (.istore_n 0, 1) := by decide +kernel
theorem dJ6_bitCount_0f7a4_48 : decode cJ6_bitCount_0f7a4 48 = .ok (.iload_n 0, 1) := by decide +kernel
theorem dJ6_bitCount_0f7a4_49 : decode cJ6_bitCount_0f7a4 49 = .ok (.bipush 63, 2) := by decide +kernel
theorem dJ6_bitCount_0f7a4_51 : decode cJ6_bitCount_0f7a4 51 = .ok (.iand, 1) := by decide +kernel
theorem dJ6_bitCount_0f7a4_52 : decode cJ6_bitCount_0f7a4 52 = .ok (.ireturn, 1) := by decide +kernel
theorem dJ7_fill_53178_0 : decode cJ7_fill_53178 0 = .ok (.iconst 0, 1) := by decide +kernel
theorem dJ7_fill_53178_1 : decode cJ7_fill_53178 1 = .ok (.istore_n 2, 1) := by decide +kernel
theorem dJ7_fill_53178_2 : decode cJ7_fill_53178 2 = .ok (.aload_n 0, 1) := by decide +kernel
theorem dJ7_fill_53178_3 : decode cJ7_fill_53178 3 = .ok (.arraylength, 1) := by decide +kernel
theorem dJ7_fill_53178_4 : decode cJ7_fill_53178 4 = .ok (.istore_n 3, 1) := by decide +kernel
theorem dJ7_fill_53178_5 : decode cJ7_fill_53178 5 = .ok (.iload_n 2, 1) := by decide +kernel
theorem dJ7_fill_53178_6 : decode cJ7_fill_53178 6 = .ok (.iload_n 3, 1) := by decide +kernel
theorem dJ7_fill_53178_7 : decode cJ7_fill_53178 7 = .ok (.if_icmp .ge 13, 3) := by decide +kernel
theorem dJ7_fill_53178_10 : decode cJ7_fill_53178 10 = .ok (.aload_n 0, 1) := by decide +kernel
theorem dJ7_fill_53178_11 : decode cJ7_fill_53178 11 = .ok (.iload_n 2, 1) := by decide +kernel
theorem dJ7_fill_53178_12 : decode cJ7_fill_53178 12 = .ok (.iload_n 1, 1) := by decide +kernel
theorem dJ7_fill_53178_13 : decode cJ7_fill_53178 13 = .ok (.iastore, 1) := by decide +kernel
theorem dJ7_fill_53178_14 : decode cJ7_fill_53178 14 = .ok (.iinc 2 1, 3) := by decide +kernel
theorem dJ7_fill_53178_17 : decode cJ7_fill_53178 17 = .ok (.goto (-12), 3) := by decide +kernel
theorem dJ7_fill_53178_20 : decode cJ7_fill_53178 20 = .ok (.return_, 1) := by decide +kernel
theorem dJ9_max_7cf53_0 : decode cJ9_max_7cf53 0 = .ok (.iload_n 0, 1) := by decide +kernel
theorem dJ9_max_7cf53_1 : decode cJ9_max_7cf53 1 = .ok (.iload_n 1, 1) := by decide +kernel
theorem dJ9_max_7cf53_2 : decode cJ9_max_7cf53 2 = .ok (.if_icmp .lt 7, 3) := by decide +kernel
theorem dJ9_max_7cf53_5 : decode cJ9_max_7cf53 5 = .ok (.iload_n 0, 1) := by decide +kernel
theorem dJ9_max_7cf53_6 : decode cJ9_max_7cf53 6 = .ok (.goto 4, 3) := by decide +kernel
theorem dJ9_max_7cf53_9 : decode cJ9_max_7cf53 9 = .ok (.iload_n 1, 1) := by decide +kernel
theorem dJ9_max_7cf53_10 : decode cJ9_max_7cf53 10 = .ok (.ireturn, 1) := by decide +kernel
end
section
theorem dX0_init_0 : decode cX0_init 0 = .ok (.aload_n 0, 1) := by decide +kernel
theorem dX0_init_1 : decode cX0_init 1 = .ok (.invokespecial 3, 3) := by decide +kernel
theorem dX0_init_4 : decode cX0_init 4 = .ok (.aload_n 0, 1) := by decide +kernel
theorem dX0_init_5 : decode cX0_init 5 = .ok (.bipush 24, 2) := by decide +kernel
theorem dX0_init_7 : decode cX0_init 7 = .ok (.newarray .int, 2) := by decide +kernel
theorem dX0_init_9 : decode cX0_init 9 = .ok (.putfield 9, 3) := by decide +kernel
theorem dX0_init_12 : decode cX0_init 12 = .ok (.aload_n 0, 1) := by decide +kernel
theorem dX0_init_13 : decode cX0_init 13 = .ok (.bipush 24, 2) := by decide +kernel
theorem dX0_init_15 : decode cX0_init 15 = .ok (.newarray .int, 2) := by decide +kernel
theorem dX0_init_17 : decode cX0_init 17 = .ok (.putfield 15, 3) := by decide +kernel
theorem dX0_init_20 : decode cX0_init 20 = .ok (.aload_n 0, 1) := by decide +kernel
theorem dX0_init_21 : decode cX0_init 21 = .ok (.bipush 24, 2) := by decide +kernel
theorem dX0_init_23 : decode cX0_init 23 = .ok (.newarray .int, 2) := by decide +kernel
theorem dX0_init_25 : decode cX0_init 25 = .ok (.putfield 18, 3) := by decide +kernel
theorem dX0_init_28 : decode cX0_init 28 = .ok (.aload_n 0, 1) := by decide +kernel
theorem dX0_init_29 : decode cX0_init 29 = .ok (.bipush 24, 2) := by decide +kernel
theorem dX0_init_31 : decode cX0_init 31 = .ok (.newarray .int, 2) := by decide +kernel
theorem dX0_init_33 : decode cX0_init 33 = .ok (.putfield 21, 3) := by decide +kernel
theorem dX0_init_36 : decode cX0_init 36 = .ok (.aload_n 0, 1) := by decide +kernel
theorem dX0_init_37 : decode cX0_init 37 = .ok (.iconst 0, 1) := by decide +kernel
theorem dX0_init_38 : decode cX0_init 38 = .ok (.newarray .int, 2) := by decide +kernel
theorem dX0_init_40 : decode cX0_init 40 = .ok (.putfield 24, 3) := by decide +kernel
theorem dX0_init_43 : decode cX0_init 43 = .ok (.return_, 1) := by decide +kernel
theorem dX0_clear_0 : decode cX0_clear 0 = .ok (.aload_n 0, 1) := by decide +kernel
theorem dX0_clear_1 : decode cX0_clear 1 = .ok (.iconst 0, 1) := by decide +kernel
theorem dX0_clear_2 : decode cX0_clear 2 = .ok (.putfield 27, 3) := by decide +kernel
theorem dX0_clear_5 : decode cX0_clear 5 = .ok (.return_, 1) := by decide +kernel
theorem dX0_add_0 : decode cX0_add 0 = .ok (.aload_n 0, 1) := by decide +kernel
theorem dX0_add_1 : decode cX0_add 1 = .ok (.getfield 27, 3) := by decide +kernel
theorem dX0_add_4 : decode cX0_add 4 = .ok (.bipush 24, 2) := by decide +kernel
theorem dX0_add_6 : decode cX0_add 6 = .ok (.if_icmp .ge 14, 3) := by decide +kernel
theorem dX0_add_9 : decode cX0_add 9 = .ok (.aload 4, 2) := by decide +kernel
theorem dX0_add_11 : decode cX0_add 11 = .ok (.getfield 31, 3) := by decide +kernel
theorem dX0_add_14 : decode cX0_add 14 = .ok (.sipush 400, 3) := by decide +kernel
theorem dX0_add_17 : decode cX0_add 17 = .ok (.if_icmp .le 4, 3) := by decide +kernel
theorem dX0_add_20 : decode cX0_add 20 = .ok (.return_, 1) := by decide +kernel
theorem dX0_add_21 : decode cX0_add 21 = .ok (.aload_n 0, 1) := by decide +kernel
theorem dX0_add_22 : decode cX0_add 22 = .ok (.getfield 24, 3) := by decide +kernel
theorem dX0_add_25 : decode cX0_add 25 = .ok (.arraylength, 1) := by decide +kernel
theorem dX0_add_26 : decode cX0_add 26 = .ok (.ifCond .ne 12, 3) := by decide +kernel
theorem dX0_add_29 : decode cX0_add 29 = .ok (.aload_n 0, 1) := by decide +kernel
theorem dX0_add_30 : decode cX0_add 30 = .ok (.sipush 9600, 3) := by decide +kernel
theorem dX0_add_33 : decode cX0_add 33 = .ok (.newarray .int, 2) := by decide +kernel
theorem dX0_add_35 : decode cX0_add 35 = .ok (.putfield 24, 3) := by decide +kernel
theorem dX0_add_38 : decode cX0_add 38 = .ok (.aload_n 0, 1) := by decide +kernel
theorem dX0_add_39 : decode cX0_add 39 = .ok (.getfield 9, 3) := by decide +kernel
theorem dX0_add_42 : decode cX0_add 42 = .ok (.aload_n 0, 1) := by decide +kernel
theorem dX0_add_43 : decode cX0_add 43 = .ok (.getfield 27, 3) := by decide +kernel
theorem dX0_add_46 : decode cX0_add 46 = .ok (.iload_n 1, 1) := by decide +kernel
theorem dX0_add_47 : decode cX0_add 47 = .ok (.invokestatic 36, 3) := by decide +kernel
theorem dX0_add_50 : decode cX0_add 50 = .ok (.aload_n 0, 1) := by decide +kernel
theorem dX0_add_51 : decode cX0_add 51 = .ok (.getfield 15, 3) := by decide +kernel
theorem dX0_add_54 : decode cX0_add 54 = .ok (.aload_n 0, 1) := by decide +kernel
theorem dX0_add_55 : decode cX0_add 55 = .ok (.getfield 27, 3) := by decide +kernel
theorem dX0_add_58 : decode cX0_add 58 = .ok (.iload_n 2, 1) := by decide +kernel
theorem dX0_add_59 : decode cX0_add 59 = .ok (.invokestatic 36, 3) := by decide +kernel
theorem dX0_add_62 : decode cX0_add 62 = .ok (.aload_n 0, 1) := by decide +kernel
theorem dX0_add_63 : decode cX0_add 63 = .ok (.getfield 18, 3) := by decide +kernel
theorem dX0_add_66 : decode cX0_add 66 = .ok (.aload_n 0, 1) := by decide +kernel
theorem dX0_add_67 : decode cX0_add 67 = .ok (.getfield 27, 3) := by decide +kernel
theorem dX0_add_70 : decode cX0_add 70 = .ok (.iload_n 3, 1) := by decide +kernel
theorem dX0_add_71 : decode cX0_add 71 = .ok (.invokestatic 36, 3) := by decide +kernel
theorem dX0_add_74 : decode cX0_add 74 = .ok (.aload_n 0, 1) := by decide +kernel
theorem dX0_add_75 : decode cX0_add 75 = .ok (.getfield 21, 3) := by decide +kernel
theorem dX0_add_78 : decode cX0_add 78 = .ok (.aload_n 0, 1) := by decide +kernel
theorem dX0_add_79 : decode cX0_add 79 = .ok (.getfield 27, 3) := by decide +kernel
theorem dX0_add_82 : decode cX0_add 82 = .ok (.aload 4, 2) := by decide +kernel
theorem dX0_add_84 : decode cX0_add 84 = .ok (.getfield 31, 3) := by decide +kernel
theorem dX0_add_87 : decode cX0_add 87 = .ok (.invokestatic 36, 3) := by decide +kernel
theorem dX0_add_90 : decode cX0_add 90 = .ok (.aload 4, 2) := by decide +kernel
theorem dX0_add_92 : decode cX0_add 92 = .ok (.aload_n 0, 1) := by decide +kernel
theorem dX0_add_93 : decode cX0_add 93 = .ok (.getfield 24, 3) := by decide +kernel
theorem dX0_add_96 : decode cX0_add 96 = .ok (.aload_n 0, 1) := by decide +kernel
theorem dX0_add_97 : decode cX0_add 97 = .ok (.getfield 27, 3) := by decide +kernel
theorem dX0_add_100 : decode cX0_add 100 = .ok (.sipush 400, 3) := by decide +kernel
theorem dX0_add_103 : decode cX0_add 103 = .ok (.imul, 1) := by decide +kernel
theorem dX0_add_104 : decode cX0_add 104 = .ok (.invokevirtual 40, 3) := by decide +kernel
theorem dX0_add_107 : decode cX0_add 107 = .ok (.aload_n 0, 1) := by decide +kernel
theorem dX0_add_108 : decode cX0_add 108 = .ok (.dup, 1) := by decide +kernel
theorem dX0_add_109 : decode cX0_add 109 = .ok (.getfield 27, 3) := by decide +kernel
theorem dX0_add_112 : decode cX0_add 112 = .ok (.iconst 1, 1) := by decide +kernel
theorem dX0_add_113 : decode cX0_add 113 = .ok (.iadd, 1) := by decide +kernel
theorem dX0_add_114 : decode cX0_add 114 = .ok (.putfield 27, 3) := by decide +kernel
theorem dX0_add_117 : decode cX0_add 117 = .ok (.return_, 1) := by decide +kernel
theorem dX0_answer_0 : decode cX0_answer 0 = .ok (.iload_n 1, 1) := by decide +kernel
theorem dX0_answer_1 : decode cX0_answer 1 = .ok (.ifCond .lt 15, 3) := by decide +kernel
theorem dX0_answer_4 : decode cX0_answer 4 = .ok (.iload_n 1, 1) := by decide +kernel
theorem dX0_answer_5 : decode cX0_answer 5 = .ok (.aload_n 0, 1) := by decide +kernel
theorem dX0_answer_6 : decode cX0_answer 6 = .ok (.getfield 27, 3) := by decide +kernel
theorem dX0_answer_9 : decode cX0_answer 9 = .ok (.if_icmp .ge 7, 3) := by decide +kernel
theorem dX0_answer_12 : decode cX0_answer 12 = .ok (.iload_n 2, 1) := by decide +kernel
theorem dX0_answer_13 : decode cX0_answer 13 = .ok (.ifCond .ge 6, 3) := by decide +kernel
theorem dX0_answer_16 : decode cX0_answer 16 = .ok (.bipush (-9), 2) := by decide +kernel
theorem dX0_answer_18 : decode cX0_answer 18 = .ok (.ireturn, 1) := by decide +kernel
theorem dX0_answer_19 : decode cX0_answer 19 = .ok (.iload_n 2, 1) := by decide +kernel
theorem dX0_answer_20 : decode cX0_answer 20 = .ok (.tableswitch 68 0 3 #[32, 41, 50, 59], 32) := by decide +kernel
theorem dX0_answer_52 : decode cX0_answer 52 = .ok (.aload_n 0, 1) := by decide +kernel
theorem dX0_answer_53 : decode cX0_answer 53 = .ok (.getfield 9, 3) := by decide +kernel
theorem dX0_answer_56 : decode cX0_answer 56 = .ok (.iload_n 1, 1) := by decide +kernel
theorem dX0_answer_57 : decode cX0_answer 57 = .ok (.invokestatic 44, 3) := by decide +kernel
theorem dX0_answer_60 : decode cX0_answer 60 = .ok (.ireturn, 1) := by decide +kernel
theorem dX0_answer_61 : decode cX0_answer 61 = .ok (.aload_n 0, 1) := by decide +kernel
theorem dX0_answer_62 : decode cX0_answer 62 = .ok (.getfield 15, 3) := by decide +kernel
theorem dX0_answer_65 : decode cX0_answer 65 = .ok (.iload_n 1, 1) := by decide +kernel
theorem dX0_answer_66 : decode cX0_answer 66 = .ok (.invokestatic 44, 3) := by decide +kernel
theorem dX0_answer_69 : decode cX0_answer 69 = .ok (.ireturn, 1) := by decide +kernel
theorem dX0_answer_70 : decode cX0_answer 70 = .ok (.aload_n 0, 1) := by decide +kernel
theorem dX0_answer_71 : decode cX0_answer 71 = .ok (.getfield 18, 3) := by decide +kernel
theorem dX0_answer_74 : decode cX0_answer 74 = .ok (.iload_n 1, 1) := by decide +kernel
theorem dX0_answer_75 : decode cX0_answer 75 = .ok (.invokestatic 44, 3) := by decide +kernel
theorem dX0_answer_78 : decode cX0_answer 78 = .ok (.ireturn, 1) := by decide +kernel
theorem dX0_answer_79 : decode cX0_answer 79 = .ok (.aload_n 0, 1) := by decide +kernel
theorem dX0_answer_80 : decode cX0_answer 80 = .ok (.getfield 21, 3) := by decide +kernel
theorem dX0_answer_83 : decode cX0_answer 83 = .ok (.iload_n 1, 1) := by decide +kernel
theorem dX0_answer_84 : decode cX0_answer 84 = .ok (.invokestatic 44, 3) := by decide +kernel
theorem dX0_answer_87 : decode cX0_answer 87 = .ok (.ireturn, 1) := by decide +kernel
theorem dX0_answer_88 : decode cX0_answer 88 = .ok (.iload_n 2, 1) := by decide +kernel
theorem dX0_answer_89 : decode cX0_answer 89 = .ok (.iconst 4, 1) := by decide +kernel
theorem dX0_answer_90 : decode cX0_answer 90 = .ok (.isub, 1) := by decide +kernel
theorem dX0_answer_91 : decode cX0_answer 91 = .ok (.istore_n 3, 1) := by decide +kernel
theorem dX0_answer_92 : decode cX0_answer 92 = .ok (.iload_n 3, 1) := by decide +kernel
theorem dX0_answer_93 : decode cX0_answer 93 = .ok (.aload_n 0, 1) := by decide +kernel
theorem dX0_answer_94 : decode cX0_answer 94 = .ok (.getfield 21, 3) := by decide +kernel
theorem dX0_answer_97 : decode cX0_answer 97 = .ok (.iload_n 1, 1) := by decide +kernel
theorem dX0_answer_98 : decode cX0_answer 98 = .ok (.invokestatic 44, 3) := by decide +kernel
theorem dX0_answer_101 : decode cX0_answer 101 = .ok (.if_icmp .ge 20, 3) := by decide +kernel
theorem dX0_answer_104 : decode cX0_answer 104 = .ok (.aload_n 0, 1) := by decide +kernel
theorem dX0_answer_105 : decode cX0_answer 105 = .ok (.getfield 24, 3) := by decide +kernel
theorem dX0_answer_108 : decode cX0_answer 108 = .ok (.iload_n 1, 1) := by decide +kernel
theorem dX0_answer_109 : decode cX0_answer 109 = .ok (.sipush 400, 3) := by decide +kernel
theorem dX0_answer_112 : decode cX0_answer 112 = .ok (.imul, 1) := by decide +kernel
theorem dX0_answer_113 : decode cX0_answer 113 = .ok (.iload_n 3, 1) := by decide +kernel
theorem dX0_answer_114 : decode cX0_answer 114 = .ok (.iadd, 1) := by decide +kernel
theorem dX0_answer_115 : decode cX0_answer 115 = .ok (.invokestatic 44, 3) := by decide +kernel
theorem dX0_answer_118 : decode cX0_answer 118 = .ok (.goto 5, 3) := by decide +kernel
theorem dX0_answer_121 : decode cX0_answer 121 = .ok (.bipush (-9), 2) := by decide +kernel
theorem dX0_answer_123 : decode cX0_answer 123 = .ok (.ireturn, 1) := by decide +kernel
end
section
theorem dX1_init_0 : decode cX1_init 0 = .ok (.aload_n 0, 1) := by decide +kernel
theorem dX1_init_1 : decode cX1_init 1 = .ok (.invokespecial 3, 3) := by decide +kernel
theorem dX1_init_4 : decode cX1_init 4 = .ok (.aload_n 0, 1) := by decide +kernel
theorem dX1_init_5 : decode cX1_init 5 = .ok (.bipush 24, 2) := by decide +kernel
theorem dX1_init_7 : decode cX1_init 7 = .ok (.newarray .int, 2) := by decide +kernel
theorem dX1_init_9 : decode cX1_init 9 = .ok (.putfield 9, 3) := by decide +kernel
theorem dX1_init_12 : decode cX1_init 12 = .ok (.aload_n 0, 1) := by decide +kernel
theorem dX1_init_13 : decode cX1_init 13 = .ok (.bipush 24, 2) := by decide +kernel
theorem dX1_init_15 : decode cX1_init 15 = .ok (.newarray .int, 2) := by decide +kernel
theorem dX1_init_17 : decode cX1_init 17 = .ok (.putfield 15, 3) := by decide +kernel
theorem dX1_init_20 : decode cX1_init 20 = .ok (.aload_n 0, 1) := by decide +kernel
theorem dX1_init_21 : decode cX1_init 21 = .ok (.bipush 24, 2) := by decide +kernel
theorem dX1_init_23 : decode cX1_init 23 = .ok (.newarray .int, 2) := by decide +kernel
theorem dX1_init_25 : decode cX1_init 25 = .ok (.putfield 18, 3) := by decide +kernel
theorem dX1_init_28 : decode cX1_init 28 = .ok (.aload_n 0, 1) := by decide +kernel
theorem dX1_init_29 : decode cX1_init 29 = .ok (.bipush 24, 2) := by decide +kernel
theorem dX1_init_31 : decode cX1_init 31 = .ok (.newarray .int, 2) := by decide +kernel
theorem dX1_init_33 : decode cX1_init 33 = .ok (.putfield 21, 3) := by decide +kernel
theorem dX1_init_36 : decode cX1_init 36 = .ok (.aload_n 0, 1) := by decide +kernel
theorem dX1_init_37 : decode cX1_init 37 = .ok (.aload_n 1, 1) := by decide +kernel
theorem dX1_init_38 : decode cX1_init 38 = .ok (.putfield 24, 3) := by decide +kernel
theorem dX1_init_41 : decode cX1_init 41 = .ok (.aload_n 0, 1) := by decide +kernel
theorem dX1_init_42 : decode cX1_init 42 = .ok (.aload_n 2, 1) := by decide +kernel
theorem dX1_init_43 : decode cX1_init 43 = .ok (.putfield 28, 3) := by decide +kernel
theorem dX1_init_46 : decode cX1_init 46 = .ok (.return_, 1) := by decide +kernel
theorem dX1_plant_0 : decode cX1_plant 0 = .ok (.aload_n 0, 1) := by decide +kernel
theorem dX1_plant_1 : decode cX1_plant 1 = .ok (.getfield 28, 3) := by decide +kernel
theorem dX1_plant_4 : decode cX1_plant 4 = .ok (.invokevirtual 32, 3) := by decide +kernel
theorem dX1_plant_7 : decode cX1_plant 7 = .ok (.aload_n 0, 1) := by decide +kernel
theorem dX1_plant_8 : decode cX1_plant 8 = .ok (.getfield 24, 3) := by decide +kernel
theorem dX1_plant_11 : decode cX1_plant 11 = .ok (.invokevirtual 37, 3) := by decide +kernel
theorem dX1_plant_14 : decode cX1_plant 14 = .ok (.aload_n 0, 1) := by decide +kernel
theorem dX1_plant_15 : decode cX1_plant 15 = .ok (.iconst 0, 1) := by decide +kernel
theorem dX1_plant_16 : decode cX1_plant 16 = .ok (.putfield 42, 3) := by decide +kernel
theorem dX1_plant_19 : decode cX1_plant 19 = .ok (.aload_n 0, 1) := by decide +kernel
theorem dX1_plant_20 : decode cX1_plant 20 = .ok (.getfield 24, 3) := by decide +kernel
theorem dX1_plant_23 : decode cX1_plant 23 = .ok (.getfield 46, 3) := by decide +kernel
theorem dX1_plant_26 : decode cX1_plant 26 = .ok (.ifCond .le 20, 3) := by decide +kernel
theorem dX1_plant_29 : decode cX1_plant 29 = .ok (.aload_n 0, 1) := by decide +kernel
theorem dX1_plant_30 : decode cX1_plant 30 = .ok (.iconst 1, 1) := by decide +kernel
theorem dX1_plant_31 : decode cX1_plant 31 = .ok (.aload_n 0, 1) := by decide +kernel
theorem dX1_plant_32 : decode cX1_plant 32 = .ok (.getfield 24, 3) := by decide +kernel
theorem dX1_plant_35 : decode cX1_plant 35 = .ok (.getfield 46, 3) := by decide +kernel
theorem dX1_plant_38 : decode cX1_plant 38 = .ok (.ishl, 1) := by decide +kernel
theorem dX1_plant_39 : decode cX1_plant 39 = .ok (.iconst 1, 1) := by decide +kernel
theorem dX1_plant_40 : decode cX1_plant 40 = .ok (.isub, 1) := by decide +kernel
theorem dX1_plant_41 : decode cX1_plant 41 = .ok (.iconst (-1), 1) := by decide +kernel
theorem dX1_plant_42 : decode cX1_plant 42 = .ok (.iconst 0, 1) := by decide +kernel
theorem dX1_plant_43 : decode cX1_plant 43 = .ok (.invokevirtual 49, 3) := by decide +kernel
theorem dX1_plant_46 : decode cX1_plant 46 = .ok (.iconst 0, 1) := by decide +kernel
theorem dX1_plant_47 : decode cX1_plant 47 = .ok (.istore_n 1, 1) := by decide +kernel
theorem dX1_plant_48 : decode cX1_plant 48 = .ok (.iload_n 1, 1) := by decide +kernel
theorem dX1_plant_49 : decode cX1_plant 49 = .ok (.sipush 560, 3) := by decide +kernel
theorem dX1_plant_52 : decode cX1_plant 52 = .ok (.if_icmp .ge 63, 3) := by decide +kernel
theorem dX1_plant_55 : decode cX1_plant 55 = .ok (.aload_n 0, 1) := by decide +kernel
theorem dX1_plant_56 : decode cX1_plant 56 = .ok (.getfield 42, 3) := by decide +kernel
theorem dX1_plant_59 : decode cX1_plant 59 = .ok (.ifCond .le 56, 3) := by decide +kernel
theorem dX1_plant_62 : decode cX1_plant 62 = .ok (.aload_n 0, 1) := by decide +kernel
theorem dX1_plant_63 : decode cX1_plant 63 = .ok (.dup, 1) := by decide +kernel
theorem dX1_plant_64 : decode cX1_plant 64 = .ok (.getfield 42, 3) := by decide +kernel
theorem dX1_plant_67 : decode cX1_plant 67 = .ok (.iconst 1, 1) := by decide +kernel
theorem dX1_plant_68 : decode cX1_plant 68 = .ok (.isub, 1) := by decide +kernel
theorem dX1_plant_69 : decode cX1_plant 69 = .ok (.putfield 42, 3) := by decide +kernel
theorem dX1_plant_72 : decode cX1_plant 72 = .ok (.aload_n 0, 1) := by decide +kernel
theorem dX1_plant_73 : decode cX1_plant 73 = .ok (.aload_n 0, 1) := by decide +kernel
theorem dX1_plant_74 : decode cX1_plant 74 = .ok (.getfield 9, 3) := by decide +kernel
theorem dX1_plant_77 : decode cX1_plant 77 = .ok (.aload_n 0, 1) := by decide +kernel
theorem dX1_plant_78 : decode cX1_plant 78 = .ok (.getfield 42, 3) := by decide +kernel
theorem dX1_plant_81 : decode cX1_plant 81 = .ok (.invokestatic 53, 3) := by decide +kernel
theorem dX1_plant_84 : decode cX1_plant 84 = .ok (.aload_n 0, 1) := by decide +kernel
theorem dX1_plant_85 : decode cX1_plant 85 = .ok (.getfield 15, 3) := by decide +kernel
theorem dX1_plant_88 : decode cX1_plant 88 = .ok (.aload_n 0, 1) := by decide +kernel
theorem dX1_plant_89 : decode cX1_plant 89 = .ok (.getfield 42, 3) := by decide +kernel
theorem dX1_plant_92 : decode cX1_plant 92 = .ok (.invokestatic 53, 3) := by decide +kernel
theorem dX1_plant_95 : decode cX1_plant 95 = .ok (.aload_n 0, 1) := by decide +kernel
theorem dX1_plant_96 : decode cX1_plant 96 = .ok (.getfield 18, 3) := by decide +kernel
theorem dX1_plant_99 : decode cX1_plant 99 = .ok (.aload_n 0, 1) := by decide +kernel
theorem dX1_plant_100 : decode cX1_plant 100 = .ok (.getfield 42, 3) := by decide +kernel
theorem dX1_plant_103 : decode cX1_plant 103 = .ok (.invokestatic 53, 3) := by decide +kernel
theorem dX1_plant_106 : decode cX1_plant 106 = .ok (.invokevirtual 57, 3) := by decide +kernel
theorem dX1_plant_109 : decode cX1_plant 109 = .ok (.iinc 1 1, 3) := by decide +kernel
theorem dX1_plant_112 : decode cX1_plant 112 = .ok (.goto (-64), 3) := by decide +kernel
theorem dX1_plant_115 : decode cX1_plant 115 = .ok (.return_, 1) := by decide +kernel
theorem dX1_await_0 : decode cX1_await 0 = .ok (.aload_n 0, 1) := by decide +kernel
theorem dX1_await_1 : decode cX1_await 1 = .ok (.getfield 42, 3) := by decide +kernel
theorem dX1_await_4 : decode cX1_await 4 = .ok (.bipush 24, 2) := by decide +kernel
theorem dX1_await_6 : decode cX1_await 6 = .ok (.if_icmp .ge 49, 3) := by decide +kernel
theorem dX1_await_9 : decode cX1_await 9 = .ok (.aload_n 0, 1) := by decide +kernel
theorem dX1_await_10 : decode cX1_await 10 = .ok (.getfield 9, 3) := by decide +kernel
theorem dX1_await_13 : decode cX1_await 13 = .ok (.aload_n 0, 1) := by decide +kernel
theorem dX1_await_14 : decode cX1_await 14 = .ok (.getfield 42, 3) := by decide +kernel
theorem dX1_await_17 : decode cX1_await 17 = .ok (.iload_n 1, 1) := by decide +kernel
theorem dX1_await_18 : decode cX1_await 18 = .ok (.invokestatic 60, 3) := by decide +kernel
theorem dX1_await_21 : decode cX1_await 21 = .ok (.aload_n 0, 1) := by decide +kernel
theorem dX1_await_22 : decode cX1_await 22 = .ok (.getfield 15, 3) := by decide +kernel
theorem dX1_await_25 : decode cX1_await 25 = .ok (.aload_n 0, 1) := by decide +kernel
theorem dX1_await_26 : decode cX1_await 26 = .ok (.getfield 42, 3) := by decide +kernel
theorem dX1_await_29 : decode cX1_await 29 = .ok (.iload_n 2, 1) := by decide +kernel
theorem dX1_await_30 : decode cX1_await 30 = .ok (.invokestatic 60, 3) := by decide +kernel
theorem dX1_await_33 : decode cX1_await 33 = .ok (.aload_n 0, 1) := by decide +kernel
theorem dX1_await_34 : decode cX1_await 34 = .ok (.getfield 18, 3) := by decide +kernel
theorem dX1_await_37 : decode cX1_await 37 = .ok (.aload_n 0, 1) := by decide +kernel
theorem dX1_await_38 : decode cX1_await 38 = .ok (.getfield 42, 3) := by decide +kernel
theorem dX1_await_41 : decode cX1_await 41 = .ok (.iload_n 3, 1) := by decide +kernel
theorem dX1_await_42 : decode cX1_await 42 = .ok (.invokestatic 60, 3) := by decide +kernel
theorem dX1_await_45 : decode cX1_await 45 = .ok (.aload_n 0, 1) := by decide +kernel
theorem dX1_await_46 : decode cX1_await 46 = .ok (.dup, 1) := by decide +kernel
theorem dX1_await_47 : decode cX1_await 47 = .ok (.getfield 42, 3) := by decide +kernel
theorem dX1_await_50 : decode cX1_await 50 = .ok (.iconst 1, 1) := by decide +kernel
theorem dX1_await_51 : decode cX1_await 51 = .ok (.iadd, 1) := by decide +kernel
theorem dX1_await_52 : decode cX1_await 52 = .ok (.putfield 42, 3) := by decide +kernel
theorem dX1_await_55 : decode cX1_await 55 = .ok (.return_, 1) := by decide +kernel
theorem dX1_grow_0 : decode cX1_grow 0 = .ok (.aload_n 0, 1) := by decide +kernel
theorem dX1_grow_1 : decode cX1_grow 1 = .ok (.iload_n 1, 1) := by decide +kernel
theorem dX1_grow_2 : decode cX1_grow 2 = .ok (.invokevirtual 64, 3) := by decide +kernel
theorem dX1_grow_5 : decode cX1_grow 5 = .ok (.istore 4, 2) := by decide +kernel
theorem dX1_grow_7 : decode cX1_grow 7 = .ok (.aload_n 0, 1) := by decide +kernel
theorem dX1_grow_8 : decode cX1_grow 8 = .ok (.getfield 42, 3) := by decide +kernel
theorem dX1_grow_11 : decode cX1_grow 11 = .ok (.istore 5, 2) := by decide +kernel
theorem dX1_grow_13 : decode cX1_grow 13 = .ok (.iload 4, 2) := by decide +kernel
theorem dX1_grow_15 : decode cX1_grow 15 = .ok (.iload_n 1, 1) := by decide +kernel
theorem dX1_grow_16 : decode cX1_grow 16 = .ok (.if_icmp .ne 44, 3) := by decide +kernel
theorem dX1_grow_19 : decode cX1_grow 19 = .ok (.aload_n 0, 1) := by decide +kernel
theorem dX1_grow_20 : decode cX1_grow 20 = .ok (.getfield 21, 3) := by decide +kernel
theorem dX1_grow_23 : decode cX1_grow 23 = .ok (.iload_n 1, 1) := by decide +kernel
theorem dX1_grow_24 : decode cX1_grow 24 = .ok (.invokestatic 68, 3) := by decide +kernel
theorem dX1_grow_27 : decode cX1_grow 27 = .ok (.invokestatic 53, 3) := by decide +kernel
theorem dX1_grow_30 : decode cX1_grow 30 = .ok (.istore 6, 2) := by decide +kernel
theorem dX1_grow_32 : decode cX1_grow 32 = .ok (.aload_n 0, 1) := by decide +kernel
theorem dX1_grow_33 : decode cX1_grow 33 = .ok (.iload_n 1, 1) := by decide +kernel
theorem dX1_grow_34 : decode cX1_grow 34 = .ok (.iload_n 3, 1) := by decide +kernel
theorem dX1_grow_35 : decode cX1_grow 35 = .ok (.invokevirtual 71, 3) := by decide +kernel
theorem dX1_grow_38 : decode cX1_grow 38 = .ok (.aload_n 0, 1) := by decide +kernel
theorem dX1_grow_39 : decode cX1_grow 39 = .ok (.getfield 28, 3) := by decide +kernel
theorem dX1_grow_42 : decode cX1_grow 42 = .ok (.iconst 1, 1) := by decide +kernel
theorem dX1_grow_43 : decode cX1_grow 43 = .ok (.iload 6, 2) := by decide +kernel
theorem dX1_grow_45 : decode cX1_grow 45 = .ok (.iload_n 2, 1) := by decide +kernel
theorem dX1_grow_46 : decode cX1_grow 46 = .ok (.iload_n 3, 1) := by decide +kernel
theorem dX1_grow_47 : decode cX1_grow 47 = .ok (.aload_n 0, 1) := by decide +kernel
theorem dX1_grow_48 : decode cX1_grow 48 = .ok (.getfield 42, 3) := by decide +kernel
theorem dX1_grow_51 : decode cX1_grow 51 = .ok (.iload 5, 2) := by decide +kernel
theorem dX1_grow_53 : decode cX1_grow 53 = .ok (.isub, 1) := by decide +kernel
theorem dX1_grow_54 : decode cX1_grow 54 = .ok (.invokevirtual 75, 3) := by decide +kernel
theorem dX1_grow_57 : decode cX1_grow 57 = .ok (.goto 87, 3) := by decide +kernel
theorem dX1_grow_60 : decode cX1_grow 60 = .ok (.iload 4, 2) := by decide +kernel
theorem dX1_grow_62 : decode cX1_grow 62 = .ok (.ifCond .eq 32, 3) := by decide +kernel
theorem dX1_grow_65 : decode cX1_grow 65 = .ok (.aload_n 0, 1) := by decide +kernel
theorem dX1_grow_66 : decode cX1_grow 66 = .ok (.iload_n 1, 1) := by decide +kernel
theorem dX1_grow_67 : decode cX1_grow 67 = .ok (.iload 4, 2) := by decide +kernel
theorem dX1_grow_69 : decode cX1_grow 69 = .ok (.iload_n 3, 1) := by decide +kernel
theorem dX1_grow_70 : decode cX1_grow 70 = .ok (.invokevirtual 79, 3) := by decide +kernel
theorem dX1_grow_73 : decode cX1_grow 73 = .ok (.aload_n 0, 1) := by decide +kernel
theorem dX1_grow_74 : decode cX1_grow 74 = .ok (.getfield 28, 3) := by decide +kernel
theorem dX1_grow_77 : decode cX1_grow 77 = .ok (.iconst 2, 1) := by decide +kernel
theorem dX1_grow_78 : decode cX1_grow 78 = .ok (.iconst (-1), 1) := by decide +kernel
theorem dX1_grow_79 : decode cX1_grow 79 = .ok (.iload_n 2, 1) := by decide +kernel
theorem dX1_grow_80 : decode cX1_grow 80 = .ok (.iload_n 3, 1) := by decide +kernel
theorem dX1_grow_81 : decode cX1_grow 81 = .ok (.aload_n 0, 1) := by decide +kernel
theorem dX1_grow_82 : decode cX1_grow 82 = .ok (.getfield 42, 3) := by decide +kernel
theorem dX1_grow_85 : decode cX1_grow 85 = .ok (.iload 5, 2) := by decide +kernel
theorem dX1_grow_87 : decode cX1_grow 87 = .ok (.isub, 1) := by decide +kernel
theorem dX1_grow_88 : decode cX1_grow 88 = .ok (.invokevirtual 75, 3) := by decide +kernel
theorem dX1_grow_91 : decode cX1_grow 91 = .ok (.goto 53, 3) := by decide +kernel
theorem dX1_grow_94 : decode cX1_grow 94 = .ok (.iload_n 1, 1) := by decide +kernel
theorem dX1_grow_95 : decode cX1_grow 95 = .ok (.invokestatic 82, 3) := by decide +kernel
theorem dX1_grow_98 : decode cX1_grow 98 = .ok (.iconst 1, 1) := by decide +kernel
theorem dX1_grow_99 : decode cX1_grow 99 = .ok (.if_icmp .le 30, 3) := by decide +kernel
theorem dX1_grow_102 : decode cX1_grow 102 = .ok (.aload_n 0, 1) := by decide +kernel
theorem dX1_grow_103 : decode cX1_grow 103 = .ok (.iload_n 1, 1) := by decide +kernel
theorem dX1_grow_104 : decode cX1_grow 104 = .ok (.iload_n 3, 1) := by decide +kernel
theorem dX1_grow_105 : decode cX1_grow 105 = .ok (.invokevirtual 87, 3) := by decide +kernel
theorem dX1_grow_108 : decode cX1_grow 108 = .ok (.aload_n 0, 1) := by decide +kernel
theorem dX1_grow_109 : decode cX1_grow 109 = .ok (.getfield 28, 3) := by decide +kernel
theorem dX1_grow_112 : decode cX1_grow 112 = .ok (.iconst 2, 1) := by decide +kernel
theorem dX1_grow_113 : decode cX1_grow 113 = .ok (.iconst (-1), 1) := by decide +kernel
theorem dX1_grow_114 : decode cX1_grow 114 = .ok (.iload_n 2, 1) := by decide +kernel
theorem dX1_grow_115 : decode cX1_grow 115 = .ok (.iload_n 3, 1) := by decide +kernel
theorem dX1_grow_116 : decode cX1_grow 116 = .ok (.aload_n 0, 1) := by decide +kernel
theorem dX1_grow_117 : decode cX1_grow 117 = .ok (.getfield 42, 3) := by decide +kernel
theorem dX1_grow_120 : decode cX1_grow 120 = .ok (.iload 5, 2) := by decide +kernel
theorem dX1_grow_122 : decode cX1_grow 122 = .ok (.isub, 1) := by decide +kernel
theorem dX1_grow_123 : decode cX1_grow 123 = .ok (.invokevirtual 75, 3) := by decide +kernel
theorem dX1_grow_126 : decode cX1_grow 126 = .ok (.goto 18, 3) := by decide +kernel
theorem dX1_grow_129 : decode cX1_grow 129 = .ok (.aload_n 0, 1) := by decide +kernel
theorem dX1_grow_130 : decode cX1_grow 130 = .ok (.getfield 28, 3) := by decide +kernel
theorem dX1_grow_133 : decode cX1_grow 133 = .ok (.iconst 0, 1) := by decide +kernel
theorem dX1_grow_134 : decode cX1_grow 134 = .ok (.iload_n 1, 1) := by decide +kernel
theorem dX1_grow_135 : decode cX1_grow 135 = .ok (.invokestatic 68, 3) := by decide +kernel
theorem dX1_grow_138 : decode cX1_grow 138 = .ok (.iload_n 2, 1) := by decide +kernel
theorem dX1_grow_139 : decode cX1_grow 139 = .ok (.iload_n 3, 1) := by decide +kernel
theorem dX1_grow_140 : decode cX1_grow 140 = .ok (.iconst 0, 1) := by decide +kernel
theorem dX1_grow_141 : decode cX1_grow 141 = .ok (.invokevirtual 75, 3) := by decide +kernel
theorem dX1_grow_144 : decode cX1_grow 144 = .ok (.return_, 1) := by decide +kernel
theorem dX1_takePosition_0 : decode cX1_takePosition 0 = .ok (.iload_n 1, 1) := by decide +kernel
theorem dX1_takePosition_1 : decode cX1_takePosition 1 = .ok (.invokestatic 68, 3) := by decide +kernel
theorem dX1_takePosition_4 : decode cX1_takePosition 4 = .ok (.istore_n 2, 1) := by decide +kernel
theorem dX1_takePosition_5 : decode cX1_takePosition 5 = .ok (.iconst 0, 1) := by decide +kernel
theorem dX1_takePosition_6 : decode cX1_takePosition 6 = .ok (.istore_n 3, 1) := by decide +kernel
theorem dX1_takePosition_7 : decode cX1_takePosition 7 = .ok (.aload_n 0, 1) := by decide +kernel
theorem dX1_takePosition_8 : decode cX1_takePosition 8 = .ok (.iload_n 1, 1) := by decide +kernel
theorem dX1_takePosition_9 : decode cX1_takePosition 9 = .ok (.invokevirtual 90, 3) := by decide +kernel
theorem dX1_takePosition_12 : decode cX1_takePosition 12 = .ok (.iconst 0, 1) := by decide +kernel
theorem dX1_takePosition_13 : decode cX1_takePosition 13 = .ok (.istore 4, 2) := by decide +kernel
theorem dX1_takePosition_15 : decode cX1_takePosition 15 = .ok (.iload 4, 2) := by decide +kernel
theorem dX1_takePosition_17 : decode cX1_takePosition 17 = .ok (.sipush 160, 3) := by decide +kernel
theorem dX1_takePosition_20 : decode cX1_takePosition 20 = .ok (.if_icmp .ge 87, 3) := by decide +kernel
theorem dX1_takePosition_23 : decode cX1_takePosition 23 = .ok (.aload_n 0, 1) := by decide +kernel
theorem dX1_takePosition_24 : decode cX1_takePosition 24 = .ok (.getfield 21, 3) := by decide +kernel
theorem dX1_takePosition_27 : decode cX1_takePosition 27 = .ok (.iload_n 2, 1) := by decide +kernel
theorem dX1_takePosition_28 : decode cX1_takePosition 28 = .ok (.invokestatic 53, 3) := by decide +kernel
theorem dX1_takePosition_31 : decode cX1_takePosition 31 = .ok (.aload_n 0, 1) := by decide +kernel
theorem dX1_takePosition_32 : decode cX1_takePosition 32 = .ok (.getfield 24, 3) := by decide +kernel
theorem dX1_takePosition_35 : decode cX1_takePosition 35 = .ok (.iload_n 2, 1) := by decide +kernel
theorem dX1_takePosition_36 : decode cX1_takePosition 36 = .ok (.iconst 1, 1) := by decide +kernel
theorem dX1_takePosition_37 : decode cX1_takePosition 37 = .ok (.iadd, 1) := by decide +kernel
theorem dX1_takePosition_38 : decode cX1_takePosition 38 = .ok (.invokevirtual 94, 3) := by decide +kernel
theorem dX1_takePosition_41 : decode cX1_takePosition 41 = .ok (.if_icmp .ge 66, 3) := by decide +kernel
theorem dX1_takePosition_44 : decode cX1_takePosition 44 = .ok (.aload_n 0, 1) := by decide +kernel
theorem dX1_takePosition_45 : decode cX1_takePosition 45 = .ok (.getfield 24, 3) := by decide +kernel
theorem dX1_takePosition_48 : decode cX1_takePosition 48 = .ok (.aload_n 0, 1) := by decide +kernel
theorem dX1_takePosition_49 : decode cX1_takePosition 49 = .ok (.getfield 21, 3) := by decide +kernel
theorem dX1_takePosition_52 : decode cX1_takePosition 52 = .ok (.iload_n 2, 1) := by decide +kernel
theorem dX1_takePosition_53 : decode cX1_takePosition 53 = .ok (.invokestatic 53, 3) := by decide +kernel
theorem dX1_takePosition_56 : decode cX1_takePosition 56 = .ok (.invokevirtual 97, 3) := by decide +kernel
theorem dX1_takePosition_59 : decode cX1_takePosition 59 = .ok (.ifCond .eq 11, 3) := by decide +kernel
theorem dX1_takePosition_62 : decode cX1_takePosition 62 = .ok (.aload_n 0, 1) := by decide +kernel
theorem dX1_takePosition_63 : decode cX1_takePosition 63 = .ok (.iload_n 1, 1) := by decide +kernel
theorem dX1_takePosition_64 : decode cX1_takePosition 64 = .ok (.invokevirtual 101, 3) := by decide +kernel
theorem dX1_takePosition_67 : decode cX1_takePosition 67 = .ok (.goto 34, 3) := by decide +kernel
theorem dX1_takePosition_70 : decode cX1_takePosition 70 = .ok (.aload_n 0, 1) := by decide +kernel
theorem dX1_takePosition_71 : decode cX1_takePosition 71 = .ok (.iload_n 1, 1) := by decide +kernel
theorem dX1_takePosition_72 : decode cX1_takePosition 72 = .ok (.invokevirtual 104, 3) := by decide +kernel
theorem dX1_takePosition_75 : decode cX1_takePosition 75 = .ok (.istore 5, 2) := by decide +kernel
theorem dX1_takePosition_77 : decode cX1_takePosition 77 = .ok (.iload 5, 2) := by decide +kernel
theorem dX1_takePosition_79 : decode cX1_takePosition 79 = .ok (.iload_n 1, 1) := by decide +kernel
theorem dX1_takePosition_80 : decode cX1_takePosition 80 = .ok (.if_icmp .ne 5, 3) := by decide +kernel
theorem dX1_takePosition_83 : decode cX1_takePosition 83 = .ok (.iload_n 1, 1) := by decide +kernel
theorem dX1_takePosition_84 : decode cX1_takePosition 84 = .ok (.ireturn, 1) := by decide +kernel
theorem dX1_takePosition_85 : decode cX1_takePosition 85 = .ok (.iload_n 3, 1) := by decide +kernel
theorem dX1_takePosition_86 : decode cX1_takePosition 86 = .ok (.ifCond .ne 8, 3) := by decide +kernel
theorem dX1_takePosition_89 : decode cX1_takePosition 89 = .ok (.iload 5, 2) := by decide +kernel
theorem dX1_takePosition_91 : decode cX1_takePosition 91 = .ok (.goto 4, 3) := by decide +kernel
theorem dX1_takePosition_94 : decode cX1_takePosition 94 = .ok (.iload_n 3, 1) := by decide +kernel
theorem dX1_takePosition_95 : decode cX1_takePosition 95 = .ok (.istore_n 3, 1) := by decide +kernel
theorem dX1_takePosition_96 : decode cX1_takePosition 96 = .ok (.aload_n 0, 1) := by decide +kernel
theorem dX1_takePosition_97 : decode cX1_takePosition 97 = .ok (.iload_n 1, 1) := by decide +kernel
theorem dX1_takePosition_98 : decode cX1_takePosition 98 = .ok (.invokevirtual 107, 3) := by decide +kernel
theorem dX1_takePosition_101 : decode cX1_takePosition 101 = .ok (.iinc 4 1, 3) := by decide +kernel
theorem dX1_takePosition_104 : decode cX1_takePosition 104 = .ok (.goto (-89), 3) := by decide +kernel
theorem dX1_takePosition_107 : decode cX1_takePosition 107 = .ok (.iload_n 3, 1) := by decide +kernel
theorem dX1_takePosition_108 : decode cX1_takePosition 108 = .ok (.ireturn, 1) := by decide +kernel
theorem dX1_startCursors_0 : decode cX1_startCursors 0 = .ok (.iconst 0, 1) := by decide +kernel
theorem dX1_startCursors_1 : decode cX1_startCursors 1 = .ok (.istore_n 2, 1) := by decide +kernel
theorem dX1_startCursors_2 : decode cX1_startCursors 2 = .ok (.iload_n 2, 1) := by decide +kernel
theorem dX1_startCursors_3 : decode cX1_startCursors 3 = .ok (.aload_n 0, 1) := by decide +kernel
theorem dX1_startCursors_4 : decode cX1_startCursors 4 = .ok (.getfield 24, 3) := by decide +kernel
theorem dX1_startCursors_7 : decode cX1_startCursors 7 = .ok (.getfield 46, 3) := by decide +kernel
theorem dX1_startCursors_10 : decode cX1_startCursors 10 = .ok (.if_icmp .ge 33, 3) := by decide +kernel
theorem dX1_startCursors_13 : decode cX1_startCursors 13 = .ok (.iload_n 1, 1) := by decide +kernel
theorem dX1_startCursors_14 : decode cX1_startCursors 14 = .ok (.iload_n 2, 1) := by decide +kernel
theorem dX1_startCursors_15 : decode cX1_startCursors 15 = .ok (.invokestatic 110, 3) := by decide +kernel
theorem dX1_startCursors_18 : decode cX1_startCursors 18 = .ok (.ifCond .eq 19, 3) := by decide +kernel
theorem dX1_startCursors_21 : decode cX1_startCursors 21 = .ok (.aload_n 0, 1) := by decide +kernel
theorem dX1_startCursors_22 : decode cX1_startCursors 22 = .ok (.getfield 21, 3) := by decide +kernel
theorem dX1_startCursors_25 : decode cX1_startCursors 25 = .ok (.iload_n 2, 1) := by decide +kernel
theorem dX1_startCursors_26 : decode cX1_startCursors 26 = .ok (.aload_n 0, 1) := by decide +kernel
theorem dX1_startCursors_27 : decode cX1_startCursors 27 = .ok (.getfield 24, 3) := by decide +kernel
theorem dX1_startCursors_30 : decode cX1_startCursors 30 = .ok (.iload_n 2, 1) := by decide +kernel
theorem dX1_startCursors_31 : decode cX1_startCursors 31 = .ok (.invokevirtual 94, 3) := by decide +kernel
theorem dX1_startCursors_34 : decode cX1_startCursors 34 = .ok (.invokestatic 60, 3) := by decide +kernel
theorem dX1_startCursors_37 : decode cX1_startCursors 37 = .ok (.iinc 2 1, 3) := by decide +kernel
theorem dX1_startCursors_40 : decode cX1_startCursors 40 = .ok (.goto (-38), 3) := by decide +kernel
theorem dX1_startCursors_43 : decode cX1_startCursors 43 = .ok (.return_, 1) := by decide +kernel
theorem dX1_enter_0 : decode cX1_enter 0 = .ok (.iconst 0, 1) := by decide +kernel
theorem dX1_enter_1 : decode cX1_enter 1 = .ok (.istore_n 2, 1) := by decide +kernel
theorem dX1_enter_2 : decode cX1_enter 2 = .ok (.iload_n 2, 1) := by decide +kernel
theorem dX1_enter_3 : decode cX1_enter 3 = .ok (.aload_n 0, 1) := by decide +kernel
theorem dX1_enter_4 : decode cX1_enter 4 = .ok (.getfield 24, 3) := by decide +kernel
theorem dX1_enter_7 : decode cX1_enter 7 = .ok (.getfield 46, 3) := by decide +kernel
theorem dX1_enter_10 : decode cX1_enter 10 = .ok (.if_icmp .ge 35, 3) := by decide +kernel
theorem dX1_enter_13 : decode cX1_enter 13 = .ok (.iload_n 1, 1) := by decide +kernel
theorem dX1_enter_14 : decode cX1_enter 14 = .ok (.iload_n 2, 1) := by decide +kernel
theorem dX1_enter_15 : decode cX1_enter 15 = .ok (.invokestatic 110, 3) := by decide +kernel
theorem dX1_enter_18 : decode cX1_enter 18 = .ok (.ifCond .eq 21, 3) := by decide +kernel
theorem dX1_enter_21 : decode cX1_enter 21 = .ok (.aload_n 0, 1) := by decide +kernel
theorem dX1_enter_22 : decode cX1_enter 22 = .ok (.getfield 21, 3) := by decide +kernel
theorem dX1_enter_25 : decode cX1_enter 25 = .ok (.iload_n 2, 1) := by decide +kernel
theorem dX1_enter_26 : decode cX1_enter 26 = .ok (.aload_n 0, 1) := by decide +kernel
theorem dX1_enter_27 : decode cX1_enter 27 = .ok (.getfield 21, 3) := by decide +kernel
theorem dX1_enter_30 : decode cX1_enter 30 = .ok (.iload_n 2, 1) := by decide +kernel
theorem dX1_enter_31 : decode cX1_enter 31 = .ok (.invokestatic 53, 3) := by decide +kernel
theorem dX1_enter_34 : decode cX1_enter 34 = .ok (.iconst 1, 1) := by decide +kernel
theorem dX1_enter_35 : decode cX1_enter 35 = .ok (.iadd, 1) := by decide +kernel
theorem dX1_enter_36 : decode cX1_enter 36 = .ok (.invokestatic 60, 3) := by decide +kernel
theorem dX1_enter_39 : decode cX1_enter 39 = .ok (.iinc 2 1, 3) := by decide +kernel
theorem dX1_enter_42 : decode cX1_enter 42 = .ok (.goto (-40), 3) := by decide +kernel
theorem dX1_enter_45 : decode cX1_enter 45 = .ok (.return_, 1) := by decide +kernel
theorem dX1_pass_0 : decode cX1_pass 0 = .ok (.iconst 0, 1) := by decide +kernel
theorem dX1_pass_1 : decode cX1_pass 1 = .ok (.istore_n 2, 1) := by decide +kernel
theorem dX1_pass_2 : decode cX1_pass 2 = .ok (.iload_n 2, 1) := by decide +kernel
theorem dX1_pass_3 : decode cX1_pass 3 = .ok (.aload_n 0, 1) := by decide +kernel
theorem dX1_pass_4 : decode cX1_pass 4 = .ok (.getfield 24, 3) := by decide +kernel
theorem dX1_pass_7 : decode cX1_pass 7 = .ok (.getfield 46, 3) := by decide +kernel
theorem dX1_pass_10 : decode cX1_pass 10 = .ok (.if_icmp .ge 43, 3) := by decide +kernel
theorem dX1_pass_13 : decode cX1_pass 13 = .ok (.iload_n 1, 1) := by decide +kernel
theorem dX1_pass_14 : decode cX1_pass 14 = .ok (.iload_n 2, 1) := by decide +kernel
theorem dX1_pass_15 : decode cX1_pass 15 = .ok (.invokestatic 110, 3) := by decide +kernel
theorem dX1_pass_18 : decode cX1_pass 18 = .ok (.ifCond .eq 29, 3) := by decide +kernel
theorem dX1_pass_21 : decode cX1_pass 21 = .ok (.aload_n 0, 1) := by decide +kernel
theorem dX1_pass_22 : decode cX1_pass 22 = .ok (.getfield 21, 3) := by decide +kernel
theorem dX1_pass_25 : decode cX1_pass 25 = .ok (.iload_n 2, 1) := by decide +kernel
theorem dX1_pass_26 : decode cX1_pass 26 = .ok (.aload_n 0, 1) := by decide +kernel
theorem dX1_pass_27 : decode cX1_pass 27 = .ok (.getfield 24, 3) := by decide +kernel
theorem dX1_pass_30 : decode cX1_pass 30 = .ok (.getfield 114, 3) := by decide +kernel
theorem dX1_pass_33 : decode cX1_pass 33 = .ok (.aload_n 0, 1) := by decide +kernel
theorem dX1_pass_34 : decode cX1_pass 34 = .ok (.getfield 21, 3) := by decide +kernel
theorem dX1_pass_37 : decode cX1_pass 37 = .ok (.iload_n 2, 1) := by decide +kernel
theorem dX1_pass_38 : decode cX1_pass 38 = .ok (.invokestatic 53, 3) := by decide +kernel
theorem dX1_pass_41 : decode cX1_pass 41 = .ok (.invokestatic 53, 3) := by decide +kernel
theorem dX1_pass_44 : decode cX1_pass 44 = .ok (.invokestatic 60, 3) := by decide +kernel
theorem dX1_pass_47 : decode cX1_pass 47 = .ok (.iinc 2 1, 3) := by decide +kernel
theorem dX1_pass_50 : decode cX1_pass 50 = .ok (.goto (-48), 3) := by decide +kernel
theorem dX1_pass_53 : decode cX1_pass 53 = .ok (.return_, 1) := by decide +kernel
theorem dX1_needing_0 : decode cX1_needing 0 = .ok (.iconst 0, 1) := by decide +kernel
theorem dX1_needing_1 : decode cX1_needing 1 = .ok (.istore_n 2, 1) := by decide +kernel
theorem dX1_needing_2 : decode cX1_needing 2 = .ok (.iconst 0, 1) := by decide +kernel
theorem dX1_needing_3 : decode cX1_needing 3 = .ok (.istore_n 3, 1) := by decide +kernel
theorem dX1_needing_4 : decode cX1_needing 4 = .ok (.iload_n 3, 1) := by decide +kernel
theorem dX1_needing_5 : decode cX1_needing 5 = .ok (.aload_n 0, 1) := by decide +kernel
theorem dX1_needing_6 : decode cX1_needing 6 = .ok (.getfield 24, 3) := by decide +kernel
theorem dX1_needing_9 : decode cX1_needing 9 = .ok (.getfield 46, 3) := by decide +kernel
theorem dX1_needing_12 : decode cX1_needing 12 = .ok (.if_icmp .ge 41, 3) := by decide +kernel
theorem dX1_needing_15 : decode cX1_needing 15 = .ok (.iload_n 1, 1) := by decide +kernel
theorem dX1_needing_16 : decode cX1_needing 16 = .ok (.iload_n 3, 1) := by decide +kernel
theorem dX1_needing_17 : decode cX1_needing 17 = .ok (.invokestatic 110, 3) := by decide +kernel
theorem dX1_needing_20 : decode cX1_needing 20 = .ok (.ifCond .eq 27, 3) := by decide +kernel
theorem dX1_needing_23 : decode cX1_needing 23 = .ok (.aload_n 0, 1) := by decide +kernel
theorem dX1_needing_24 : decode cX1_needing 24 = .ok (.getfield 24, 3) := by decide +kernel
theorem dX1_needing_27 : decode cX1_needing 27 = .ok (.aload_n 0, 1) := by decide +kernel
theorem dX1_needing_28 : decode cX1_needing 28 = .ok (.getfield 21, 3) := by decide +kernel
theorem dX1_needing_31 : decode cX1_needing 31 = .ok (.iload_n 3, 1) := by decide +kernel
theorem dX1_needing_32 : decode cX1_needing 32 = .ok (.invokestatic 53, 3) := by decide +kernel
theorem dX1_needing_35 : decode cX1_needing 35 = .ok (.invokevirtual 117, 3) := by decide +kernel
theorem dX1_needing_38 : decode cX1_needing 38 = .ok (.ifCond .ne 9, 3) := by decide +kernel
theorem dX1_needing_41 : decode cX1_needing 41 = .ok (.iload_n 2, 1) := by decide +kernel
theorem dX1_needing_42 : decode cX1_needing 42 = .ok (.iconst 1, 1) := by decide +kernel
theorem dX1_needing_43 : decode cX1_needing 43 = .ok (.iload_n 3, 1) := by decide +kernel
theorem dX1_needing_44 : decode cX1_needing 44 = .ok (.ishl, 1) := by decide +kernel
theorem dX1_needing_45 : decode cX1_needing 45 = .ok (.ior, 1) := by decide +kernel
theorem dX1_needing_46 : decode cX1_needing 46 = .ok (.istore_n 2, 1) := by decide +kernel
theorem dX1_needing_47 : decode cX1_needing 47 = .ok (.iinc 3 1, 3) := by decide +kernel
theorem dX1_needing_50 : decode cX1_needing 50 = .ok (.goto (-46), 3) := by decide +kernel
theorem dX1_needing_53 : decode cX1_needing 53 = .ok (.iload_n 2, 1) := by decide +kernel
theorem dX1_needing_54 : decode cX1_needing 54 = .ok (.ireturn, 1) := by decide +kernel
theorem dX1_ask_0 : decode cX1_ask 0 = .ok (.iload_n 1, 1) := by decide +kernel
theorem dX1_ask_1 : decode cX1_ask 1 = .ok (.istore_n 3, 1) := by decide +kernel
theorem dX1_ask_2 : decode cX1_ask 2 = .ok (.iconst 0, 1) := by decide +kernel
theorem dX1_ask_3 : decode cX1_ask 3 = .ok (.istore 4, 2) := by decide +kernel
theorem dX1_ask_5 : decode cX1_ask 5 = .ok (.iload 4, 2) := by decide +kernel
theorem dX1_ask_7 : decode cX1_ask 7 = .ok (.bipush 24, 2) := by decide +kernel
theorem dX1_ask_9 : decode cX1_ask 9 = .ok (.if_icmp .ge 47, 3) := by decide +kernel
theorem dX1_ask_12 : decode cX1_ask 12 = .ok (.iload_n 3, 1) := by decide +kernel
theorem dX1_ask_13 : decode cX1_ask 13 = .ok (.ifCond .eq 43, 3) := by decide +kernel
theorem dX1_ask_16 : decode cX1_ask 16 = .ok (.aload_n 0, 1) := by decide +kernel
theorem dX1_ask_17 : decode cX1_ask 17 = .ok (.iload_n 3, 1) := by decide +kernel
theorem dX1_ask_18 : decode cX1_ask 18 = .ok (.invokevirtual 120, 3) := by decide +kernel
theorem dX1_ask_21 : decode cX1_ask 21 = .ok (.istore 5, 2) := by decide +kernel
theorem dX1_ask_23 : decode cX1_ask 23 = .ok (.aload_n 0, 1) := by decide +kernel
theorem dX1_ask_24 : decode cX1_ask 24 = .ok (.iload_n 3, 1) := by decide +kernel
theorem dX1_ask_25 : decode cX1_ask 25 = .ok (.iload 5, 2) := by decide +kernel
theorem dX1_ask_27 : decode cX1_ask 27 = .ok (.invokevirtual 123, 3) := by decide +kernel
theorem dX1_ask_30 : decode cX1_ask 30 = .ok (.istore 6, 2) := by decide +kernel
theorem dX1_ask_32 : decode cX1_ask 32 = .ok (.aload_n 0, 1) := by decide +kernel
theorem dX1_ask_33 : decode cX1_ask 33 = .ok (.iload 6, 2) := by decide +kernel
theorem dX1_ask_35 : decode cX1_ask 35 = .ok (.iload 5, 2) := by decide +kernel
theorem dX1_ask_37 : decode cX1_ask 37 = .ok (.iload_n 2, 1) := by decide +kernel
theorem dX1_ask_38 : decode cX1_ask 38 = .ok (.iconst 1, 1) := by decide +kernel
theorem dX1_ask_39 : decode cX1_ask 39 = .ok (.iadd, 1) := by decide +kernel
theorem dX1_ask_40 : decode cX1_ask 40 = .ok (.invokevirtual 49, 3) := by decide +kernel
theorem dX1_ask_43 : decode cX1_ask 43 = .ok (.iload_n 3, 1) := by decide +kernel
theorem dX1_ask_44 : decode cX1_ask 44 = .ok (.iload 6, 2) := by decide +kernel
theorem dX1_ask_46 : decode cX1_ask 46 = .ok (.iconst (-1), 1) := by decide +kernel
theorem dX1_ask_47 : decode cX1_ask 47 = .ok (.ixor, 1) := by decide +kernel
theorem dX1_ask_48 : decode cX1_ask 48 = .ok (.iand, 1) := by decide +kernel
theorem dX1_ask_49 : decode cX1_ask 49 = .ok (.istore_n 3, 1) := by decide +kernel
theorem dX1_ask_50 : decode cX1_ask 50 = .ok (.iinc 4 1, 3) := by decide +kernel
theorem dX1_ask_53 : decode cX1_ask 53 = .ok (.goto (-48), 3) := by decide +kernel
theorem dX1_ask_56 : decode cX1_ask 56 = .ok (.iconst 0, 1) := by decide +kernel
theorem dX1_ask_57 : decode cX1_ask 57 = .ok (.istore 4, 2) := by decide +kernel
theorem dX1_ask_59 : decode cX1_ask 59 = .ok (.iload 4, 2) := by decide +kernel
theorem dX1_ask_61 : decode cX1_ask 61 = .ok (.aload_n 0, 1) := by decide +kernel
theorem dX1_ask_62 : decode cX1_ask 62 = .ok (.getfield 24, 3) := by decide +kernel
theorem dX1_ask_65 : decode cX1_ask 65 = .ok (.getfield 46, 3) := by decide +kernel
theorem dX1_ask_68 : decode cX1_ask 68 = .ok (.if_icmp .ge 38, 3) := by decide +kernel
theorem dX1_ask_71 : decode cX1_ask 71 = .ok (.iload_n 1, 1) := by decide +kernel
theorem dX1_ask_72 : decode cX1_ask 72 = .ok (.iload 4, 2) := by decide +kernel
theorem dX1_ask_74 : decode cX1_ask 74 = .ok (.invokestatic 110, 3) := by decide +kernel
theorem dX1_ask_77 : decode cX1_ask 77 = .ok (.ifCond .eq 23, 3) := by decide +kernel
theorem dX1_ask_80 : decode cX1_ask 80 = .ok (.aload_n 0, 1) := by decide +kernel
theorem dX1_ask_81 : decode cX1_ask 81 = .ok (.getfield 24, 3) := by decide +kernel
theorem dX1_ask_84 : decode cX1_ask 84 = .ok (.getfield 127, 3) := by decide +kernel
theorem dX1_ask_87 : decode cX1_ask 87 = .ok (.aload_n 0, 1) := by decide +kernel
theorem dX1_ask_88 : decode cX1_ask 88 = .ok (.getfield 21, 3) := by decide +kernel
theorem dX1_ask_91 : decode cX1_ask 91 = .ok (.iload 4, 2) := by decide +kernel
theorem dX1_ask_93 : decode cX1_ask 93 = .ok (.invokestatic 53, 3) := by decide +kernel
theorem dX1_ask_96 : decode cX1_ask 96 = .ok (.iload_n 2, 1) := by decide +kernel
theorem dX1_ask_97 : decode cX1_ask 97 = .ok (.invokestatic 60, 3) := by decide +kernel
theorem dX1_ask_100 : decode cX1_ask 100 = .ok (.iinc 4 1, 3) := by decide +kernel
theorem dX1_ask_103 : decode cX1_ask 103 = .ok (.goto (-44), 3) := by decide +kernel
theorem dX1_ask_106 : decode cX1_ask 106 = .ok (.return_, 1) := by decide +kernel
theorem dX1_lastConstructor_0 : decode cX1_lastConstructor 0 = .ok (.iconst (-1), 1) := by decide +kernel
theorem dX1_lastConstructor_1 : decode cX1_lastConstructor 1 = .ok (.istore_n 2, 1) := by decide +kernel
theorem dX1_lastConstructor_2 : decode cX1_lastConstructor 2 = .ok (.iconst 0, 1) := by decide +kernel
theorem dX1_lastConstructor_3 : decode cX1_lastConstructor 3 = .ok (.istore_n 3, 1) := by decide +kernel
theorem dX1_lastConstructor_4 : decode cX1_lastConstructor 4 = .ok (.iload_n 3, 1) := by decide +kernel
theorem dX1_lastConstructor_5 : decode cX1_lastConstructor 5 = .ok (.aload_n 0, 1) := by decide +kernel
theorem dX1_lastConstructor_6 : decode cX1_lastConstructor 6 = .ok (.getfield 24, 3) := by decide +kernel
theorem dX1_lastConstructor_9 : decode cX1_lastConstructor 9 = .ok (.getfield 46, 3) := by decide +kernel
theorem dX1_lastConstructor_12 : decode cX1_lastConstructor 12 = .ok (.if_icmp .ge 40, 3) := by decide +kernel
theorem dX1_lastConstructor_15 : decode cX1_lastConstructor 15 = .ok (.iload_n 1, 1) := by decide +kernel
theorem dX1_lastConstructor_16 : decode cX1_lastConstructor 16 = .ok (.iload_n 3, 1) := by decide +kernel
theorem dX1_lastConstructor_17 : decode cX1_lastConstructor 17 = .ok (.invokestatic 110, 3) := by decide +kernel
theorem dX1_lastConstructor_20 : decode cX1_lastConstructor 20 = .ok (.ifCond .eq 26, 3) := by decide +kernel
theorem dX1_lastConstructor_23 : decode cX1_lastConstructor 23 = .ok (.iload_n 2, 1) := by decide +kernel
theorem dX1_lastConstructor_24 : decode cX1_lastConstructor 24 = .ok (.aload_n 0, 1) := by decide +kernel
theorem dX1_lastConstructor_25 : decode cX1_lastConstructor 25 = .ok (.getfield 24, 3) := by decide +kernel
theorem dX1_lastConstructor_28 : decode cX1_lastConstructor 28 = .ok (.getfield 130, 3) := by decide +kernel
theorem dX1_lastConstructor_31 : decode cX1_lastConstructor 31 = .ok (.aload_n 0, 1) := by decide +kernel
theorem dX1_lastConstructor_32 : decode cX1_lastConstructor 32 = .ok (.getfield 21, 3) := by decide +kernel
theorem dX1_lastConstructor_35 : decode cX1_lastConstructor 35 = .ok (.iload_n 3, 1) := by decide +kernel
theorem dX1_lastConstructor_36 : decode cX1_lastConstructor 36 = .ok (.invokestatic 53, 3) := by decide +kernel
theorem dX1_lastConstructor_39 : decode cX1_lastConstructor 39 = .ok (.invokestatic 53, 3) := by decide +kernel
theorem dX1_lastConstructor_42 : decode cX1_lastConstructor 42 = .ok (.invokestatic 133, 3) := by decide +kernel
theorem dX1_lastConstructor_45 : decode cX1_lastConstructor 45 = .ok (.istore_n 2, 1) := by decide +kernel
theorem dX1_lastConstructor_46 : decode cX1_lastConstructor 46 = .ok (.iinc 3 1, 3) := by decide +kernel
theorem dX1_lastConstructor_49 : decode cX1_lastConstructor 49 = .ok (.goto (-45), 3) := by decide +kernel
theorem dX1_lastConstructor_52 : decode cX1_lastConstructor 52 = .ok (.iload_n 2, 1) := by decide +kernel
theorem dX1_lastConstructor_53 : decode cX1_lastConstructor 53 = .ok (.ireturn, 1) := by decide +kernel
theorem dX1_having_0 : decode cX1_having 0 = .ok (.iconst 0, 1) := by decide +kernel
theorem dX1_having_1 : decode cX1_having 1 = .ok (.istore_n 3, 1) := by decide +kernel
theorem dX1_having_2 : decode cX1_having 2 = .ok (.iconst 0, 1) := by decide +kernel
theorem dX1_having_3 : decode cX1_having 3 = .ok (.istore 4, 2) := by decide +kernel
theorem dX1_having_5 : decode cX1_having 5 = .ok (.iload 4, 2) := by decide +kernel
theorem dX1_having_7 : decode cX1_having 7 = .ok (.aload_n 0, 1) := by decide +kernel
theorem dX1_having_8 : decode cX1_having 8 = .ok (.getfield 24, 3) := by decide +kernel
theorem dX1_having_11 : decode cX1_having 11 = .ok (.getfield 46, 3) := by decide +kernel
theorem dX1_having_14 : decode cX1_having 14 = .ok (.if_icmp .ge 48, 3) := by decide +kernel
theorem dX1_having_17 : decode cX1_having 17 = .ok (.iload_n 1, 1) := by decide +kernel
theorem dX1_having_18 : decode cX1_having 18 = .ok (.iload 4, 2) := by decide +kernel
theorem dX1_having_20 : decode cX1_having 20 = .ok (.invokestatic 110, 3) := by decide +kernel
theorem dX1_having_23 : decode cX1_having 23 = .ok (.ifCond .eq 33, 3) := by decide +kernel
theorem dX1_having_26 : decode cX1_having 26 = .ok (.aload_n 0, 1) := by decide +kernel
theorem dX1_having_27 : decode cX1_having 27 = .ok (.getfield 24, 3) := by decide +kernel
theorem dX1_having_30 : decode cX1_having 30 = .ok (.getfield 130, 3) := by decide +kernel
theorem dX1_having_33 : decode cX1_having 33 = .ok (.aload_n 0, 1) := by decide +kernel
theorem dX1_having_34 : decode cX1_having 34 = .ok (.getfield 21, 3) := by decide +kernel
theorem dX1_having_37 : decode cX1_having 37 = .ok (.iload 4, 2) := by decide +kernel
theorem dX1_having_39 : decode cX1_having 39 = .ok (.invokestatic 53, 3) := by decide +kernel
theorem dX1_having_42 : decode cX1_having 42 = .ok (.invokestatic 53, 3) := by decide +kernel
theorem dX1_having_45 : decode cX1_having 45 = .ok (.iload_n 2, 1) := by decide +kernel
theorem dX1_having_46 : decode cX1_having 46 = .ok (.if_icmp .ne 10, 3) := by decide +kernel
theorem dX1_having_49 : decode cX1_having 49 = .ok (.iload_n 3, 1) := by decide +kernel
theorem dX1_having_50 : decode cX1_having 50 = .ok (.iconst 1, 1) := by decide +kernel
theorem dX1_having_51 : decode cX1_having 51 = .ok (.iload 4, 2) := by decide +kernel
theorem dX1_having_53 : decode cX1_having 53 = .ok (.ishl, 1) := by decide +kernel
theorem dX1_having_54 : decode cX1_having 54 = .ok (.ior, 1) := by decide +kernel
theorem dX1_having_55 : decode cX1_having 55 = .ok (.istore_n 3, 1) := by decide +kernel
theorem dX1_having_56 : decode cX1_having 56 = .ok (.iinc 4 1, 3) := by decide +kernel
theorem dX1_having_59 : decode cX1_having 59 = .ok (.goto (-54), 3) := by decide +kernel
theorem dX1_having_62 : decode cX1_having 62 = .ok (.iload_n 3, 1) := by decide +kernel
theorem dX1_having_63 : decode cX1_having 63 = .ok (.ireturn, 1) := by decide +kernel
theorem dX1_partByNeed_0 : decode cX1_partByNeed 0 = .ok (.iconst 0, 1) := by decide +kernel
theorem dX1_partByNeed_1 : decode cX1_partByNeed 1 = .ok (.istore 4, 2) := by decide +kernel
theorem dX1_partByNeed_3 : decode cX1_partByNeed 3 = .ok (.iconst 0, 1) := by decide +kernel
theorem dX1_partByNeed_4 : decode cX1_partByNeed 4 = .ok (.istore 5, 2) := by decide +kernel
theorem dX1_partByNeed_6 : decode cX1_partByNeed 6 = .ok (.aload_n 0, 1) := by decide +kernel
theorem dX1_partByNeed_7 : decode cX1_partByNeed 7 = .ok (.getfield 24, 3) := by decide +kernel
theorem dX1_partByNeed_10 : decode cX1_partByNeed 10 = .ok (.getfield 46, 3) := by decide +kernel
theorem dX1_partByNeed_13 : decode cX1_partByNeed 13 = .ok (.iconst 1, 1) := by decide +kernel
theorem dX1_partByNeed_14 : decode cX1_partByNeed 14 = .ok (.isub, 1) := by decide +kernel
theorem dX1_partByNeed_15 : decode cX1_partByNeed 15 = .ok (.istore 6, 2) := by decide +kernel
theorem dX1_partByNeed_17 : decode cX1_partByNeed 17 = .ok (.iload 6, 2) := by decide +kernel
theorem dX1_partByNeed_19 : decode cX1_partByNeed 19 = .ok (.ifCond .lt 67, 3) := by decide +kernel
theorem dX1_partByNeed_22 : decode cX1_partByNeed 22 = .ok (.iload_n 1, 1) := by decide +kernel
theorem dX1_partByNeed_23 : decode cX1_partByNeed 23 = .ok (.iload 6, 2) := by decide +kernel
theorem dX1_partByNeed_25 : decode cX1_partByNeed 25 = .ok (.invokestatic 110, 3) := by decide +kernel
theorem dX1_partByNeed_28 : decode cX1_partByNeed 28 = .ok (.ifCond .ne 6, 3) := by decide +kernel
theorem dX1_partByNeed_31 : decode cX1_partByNeed 31 = .ok (.goto 49, 3) := by decide +kernel
theorem dX1_partByNeed_34 : decode cX1_partByNeed 34 = .ok (.iload 4, 2) := by decide +kernel
theorem dX1_partByNeed_36 : decode cX1_partByNeed 36 = .ok (.ifCond .eq 27, 3) := by decide +kernel
theorem dX1_partByNeed_39 : decode cX1_partByNeed 39 = .ok (.iload_n 2, 1) := by decide +kernel
theorem dX1_partByNeed_40 : decode cX1_partByNeed 40 = .ok (.iload 6, 2) := by decide +kernel
theorem dX1_partByNeed_42 : decode cX1_partByNeed 42 = .ok (.invokestatic 110, 3) := by decide +kernel
theorem dX1_partByNeed_45 : decode cX1_partByNeed 45 = .ok (.iload 5, 2) := by decide +kernel
theorem dX1_partByNeed_47 : decode cX1_partByNeed 47 = .ok (.if_icmp .eq 16, 3) := by decide +kernel
theorem dX1_partByNeed_50 : decode cX1_partByNeed 50 = .ok (.aload_n 0, 1) := by decide +kernel
theorem dX1_partByNeed_51 : decode cX1_partByNeed 51 = .ok (.iload 4, 2) := by decide +kernel
theorem dX1_partByNeed_53 : decode cX1_partByNeed 53 = .ok (.iconst (-1), 1) := by decide +kernel
theorem dX1_partByNeed_54 : decode cX1_partByNeed 54 = .ok (.iload_n 3, 1) := by decide +kernel
theorem dX1_partByNeed_55 : decode cX1_partByNeed 55 = .ok (.iconst 1, 1) := by decide +kernel
theorem dX1_partByNeed_56 : decode cX1_partByNeed 56 = .ok (.iadd, 1) := by decide +kernel
theorem dX1_partByNeed_57 : decode cX1_partByNeed 57 = .ok (.invokevirtual 49, 3) := by decide +kernel
theorem dX1_partByNeed_60 : decode cX1_partByNeed 60 = .ok (.iconst 0, 1) := by decide +kernel
theorem dX1_partByNeed_61 : decode cX1_partByNeed 61 = .ok (.istore 4, 2) := by decide +kernel
theorem dX1_partByNeed_63 : decode cX1_partByNeed 63 = .ok (.iload 4, 2) := by decide +kernel
theorem dX1_partByNeed_65 : decode cX1_partByNeed 65 = .ok (.iconst 1, 1) := by decide +kernel
theorem dX1_partByNeed_66 : decode cX1_partByNeed 66 = .ok (.iload 6, 2) := by decide +kernel
theorem dX1_partByNeed_68 : decode cX1_partByNeed 68 = .ok (.ishl, 1) := by decide +kernel
theorem dX1_partByNeed_69 : decode cX1_partByNeed 69 = .ok (.ior, 1) := by decide +kernel
theorem dX1_partByNeed_70 : decode cX1_partByNeed 70 = .ok (.istore 4, 2) := by decide +kernel
theorem dX1_partByNeed_72 : decode cX1_partByNeed 72 = .ok (.iload_n 2, 1) := by decide +kernel
theorem dX1_partByNeed_73 : decode cX1_partByNeed 73 = .ok (.iload 6, 2) := by decide +kernel
theorem dX1_partByNeed_75 : decode cX1_partByNeed 75 = .ok (.invokestatic 110, 3) := by decide +kernel
theorem dX1_partByNeed_78 : decode cX1_partByNeed 78 = .ok (.istore 5, 2) := by decide +kernel
theorem dX1_partByNeed_80 : decode cX1_partByNeed 80 = .ok (.iinc 6 (-1), 3) := by decide +kernel
theorem dX1_partByNeed_83 : decode cX1_partByNeed 83 = .ok (.goto (-66), 3) := by decide +kernel
theorem dX1_partByNeed_86 : decode cX1_partByNeed 86 = .ok (.aload_n 0, 1) := by decide +kernel
theorem dX1_partByNeed_87 : decode cX1_partByNeed 87 = .ok (.iload 4, 2) := by decide +kernel
theorem dX1_partByNeed_89 : decode cX1_partByNeed 89 = .ok (.iconst (-1), 1) := by decide +kernel
theorem dX1_partByNeed_90 : decode cX1_partByNeed 90 = .ok (.iload_n 3, 1) := by decide +kernel
theorem dX1_partByNeed_91 : decode cX1_partByNeed 91 = .ok (.iconst 1, 1) := by decide +kernel
theorem dX1_partByNeed_92 : decode cX1_partByNeed 92 = .ok (.iadd, 1) := by decide +kernel
theorem dX1_partByNeed_93 : decode cX1_partByNeed 93 = .ok (.invokevirtual 49, 3) := by decide +kernel
theorem dX1_partByNeed_96 : decode cX1_partByNeed 96 = .ok (.return_, 1) := by decide +kernel
theorem dX1_partEach_0 : decode cX1_partEach 0 = .ok (.aload_n 0, 1) := by decide +kernel
theorem dX1_partEach_1 : decode cX1_partEach 1 = .ok (.getfield 24, 3) := by decide +kernel
theorem dX1_partEach_4 : decode cX1_partEach 4 = .ok (.getfield 46, 3) := by decide +kernel
theorem dX1_partEach_7 : decode cX1_partEach 7 = .ok (.iconst 1, 1) := by decide +kernel
theorem dX1_partEach_8 : decode cX1_partEach 8 = .ok (.isub, 1) := by decide +kernel
theorem dX1_partEach_9 : decode cX1_partEach 9 = .ok (.istore_n 3, 1) := by decide +kernel
theorem dX1_partEach_10 : decode cX1_partEach 10 = .ok (.iload_n 3, 1) := by decide +kernel
theorem dX1_partEach_11 : decode cX1_partEach 11 = .ok (.ifCond .lt 28, 3) := by decide +kernel
theorem dX1_partEach_14 : decode cX1_partEach 14 = .ok (.iload_n 1, 1) := by decide +kernel
theorem dX1_partEach_15 : decode cX1_partEach 15 = .ok (.iload_n 3, 1) := by decide +kernel
theorem dX1_partEach_16 : decode cX1_partEach 16 = .ok (.invokestatic 110, 3) := by decide +kernel
theorem dX1_partEach_19 : decode cX1_partEach 19 = .ok (.ifCond .eq 14, 3) := by decide +kernel
theorem dX1_partEach_22 : decode cX1_partEach 22 = .ok (.aload_n 0, 1) := by decide +kernel
theorem dX1_partEach_23 : decode cX1_partEach 23 = .ok (.iconst 1, 1) := by decide +kernel
theorem dX1_partEach_24 : decode cX1_partEach 24 = .ok (.iload_n 3, 1) := by decide +kernel
theorem dX1_partEach_25 : decode cX1_partEach 25 = .ok (.ishl, 1) := by decide +kernel
theorem dX1_partEach_26 : decode cX1_partEach 26 = .ok (.iconst (-1), 1) := by decide +kernel
theorem dX1_partEach_27 : decode cX1_partEach 27 = .ok (.iload_n 2, 1) := by decide +kernel
theorem dX1_partEach_28 : decode cX1_partEach 28 = .ok (.iconst 1, 1) := by decide +kernel
theorem dX1_partEach_29 : decode cX1_partEach 29 = .ok (.iadd, 1) := by decide +kernel
theorem dX1_partEach_30 : decode cX1_partEach 30 = .ok (.invokevirtual 49, 3) := by decide +kernel
theorem dX1_partEach_33 : decode cX1_partEach 33 = .ok (.iinc 3 (-1), 3) := by decide +kernel
theorem dX1_partEach_36 : decode cX1_partEach 36 = .ok (.goto (-26), 3) := by decide +kernel
theorem dX1_partEach_39 : decode cX1_partEach 39 = .ok (.return_, 1) := by decide +kernel
theorem dX1_firstOf_0 : decode cX1_firstOf 0 = .ok (.iload_n 0, 1) := by decide +kernel
theorem dX1_firstOf_1 : decode cX1_firstOf 1 = .ok (.iload_n 0, 1) := by decide +kernel
theorem dX1_firstOf_2 : decode cX1_firstOf 2 = .ok (.ineg, 1) := by decide +kernel
theorem dX1_firstOf_3 : decode cX1_firstOf 3 = .ok (.iand, 1) := by decide +kernel
theorem dX1_firstOf_4 : decode cX1_firstOf 4 = .ok (.iconst 1, 1) := by decide +kernel
theorem dX1_firstOf_5 : decode cX1_firstOf 5 = .ok (.isub, 1) := by decide +kernel
theorem dX1_firstOf_6 : decode cX1_firstOf 6 = .ok (.invokestatic 82, 3) := by decide +kernel
theorem dX1_firstOf_9 : decode cX1_firstOf 9 = .ok (.ireturn, 1) := by decide +kernel
end
section
theorem dX2_init_0 : decode cX2_init 0 = .ok (.aload_n 0, 1) := by decide +kernel
theorem dX2_init_1 : decode cX2_init 1 = .ok (.invokespecial 3, 3) := by decide +kernel
theorem dX2_init_4 : decode cX2_init 4 = .ok (.aload_n 0, 1) := by decide +kernel
theorem dX2_init_5 : decode cX2_init 5 = .ok (.sipush 160, 3) := by decide +kernel
theorem dX2_init_8 : decode cX2_init 8 = .ok (.newarray .int, 2) := by decide +kernel
theorem dX2_init_10 : decode cX2_init 10 = .ok (.putfield 9, 3) := by decide +kernel
theorem dX2_init_13 : decode cX2_init 13 = .ok (.aload_n 0, 1) := by decide +kernel
theorem dX2_init_14 : decode cX2_init 14 = .ok (.sipush 160, 3) := by decide +kernel
theorem dX2_init_17 : decode cX2_init 17 = .ok (.newarray .int, 2) := by decide +kernel
theorem dX2_init_19 : decode cX2_init 19 = .ok (.putfield 15, 3) := by decide +kernel
theorem dX2_init_22 : decode cX2_init 22 = .ok (.aload_n 0, 1) := by decide +kernel
theorem dX2_init_23 : decode cX2_init 23 = .ok (.sipush 160, 3) := by decide +kernel
theorem dX2_init_26 : decode cX2_init 26 = .ok (.newarray .int, 2) := by decide +kernel
theorem dX2_init_28 : decode cX2_init 28 = .ok (.putfield 18, 3) := by decide +kernel
theorem dX2_init_31 : decode cX2_init 31 = .ok (.aload_n 0, 1) := by decide +kernel
theorem dX2_init_32 : decode cX2_init 32 = .ok (.sipush 160, 3) := by decide +kernel
theorem dX2_init_35 : decode cX2_init 35 = .ok (.newarray .int, 2) := by decide +kernel
theorem dX2_init_37 : decode cX2_init 37 = .ok (.putfield 21, 3) := by decide +kernel
theorem dX2_init_40 : decode cX2_init 40 = .ok (.aload_n 0, 1) := by decide +kernel
theorem dX2_init_41 : decode cX2_init 41 = .ok (.bipush 8, 2) := by decide +kernel
theorem dX2_init_43 : decode cX2_init 43 = .ok (.newarray .int, 2) := by decide +kernel
theorem dX2_init_45 : decode cX2_init 45 = .ok (.putfield 24, 3) := by decide +kernel
theorem dX2_init_48 : decode cX2_init 48 = .ok (.return_, 1) := by decide +kernel
theorem dX2_add_0 : decode cX2_add 0 = .ok (.aload_n 0, 1) := by decide +kernel
theorem dX2_add_1 : decode cX2_add 1 = .ok (.getfield 27, 3) := by decide +kernel
theorem dX2_add_4 : decode cX2_add 4 = .ok (.sipush 160, 3) := by decide +kernel
theorem dX2_add_7 : decode cX2_add 7 = .ok (.if_icmp .lt 5, 3) := by decide +kernel
theorem dX2_add_10 : decode cX2_add 10 = .ok (.iconst (-1), 1) := by decide +kernel
theorem dX2_add_11 : decode cX2_add 11 = .ok (.ireturn, 1) := by decide +kernel
theorem dX2_add_12 : decode cX2_add 12 = .ok (.aload_n 0, 1) := by decide +kernel
theorem dX2_add_13 : decode cX2_add 13 = .ok (.getfield 9, 3) := by decide +kernel
theorem dX2_add_16 : decode cX2_add 16 = .ok (.aload_n 0, 1) := by decide +kernel
theorem dX2_add_17 : decode cX2_add 17 = .ok (.getfield 27, 3) := by decide +kernel
theorem dX2_add_20 : decode cX2_add 20 = .ok (.iload_n 1, 1) := by decide +kernel
theorem dX2_add_21 : decode cX2_add 21 = .ok (.invokestatic 31, 3) := by decide +kernel
theorem dX2_add_24 : decode cX2_add 24 = .ok (.aload_n 0, 1) := by decide +kernel
theorem dX2_add_25 : decode cX2_add 25 = .ok (.dup, 1) := by decide +kernel
theorem dX2_add_26 : decode cX2_add 26 = .ok (.getfield 27, 3) := by decide +kernel
theorem dX2_add_29 : decode cX2_add 29 = .ok (.iconst 1, 1) := by decide +kernel
theorem dX2_add_30 : decode cX2_add 30 = .ok (.iadd, 1) := by decide +kernel
theorem dX2_add_31 : decode cX2_add 31 = .ok (.putfield 27, 3) := by decide +kernel
theorem dX2_add_34 : decode cX2_add 34 = .ok (.aload_n 0, 1) := by decide +kernel
theorem dX2_add_35 : decode cX2_add 35 = .ok (.getfield 27, 3) := by decide +kernel
theorem dX2_add_38 : decode cX2_add 38 = .ok (.ireturn, 1) := by decide +kernel
theorem dX2_take_0 : decode cX2_take 0 = .ok (.aload_n 0, 1) := by decide +kernel
theorem dX2_take_1 : decode cX2_take 1 = .ok (.getfield 27, 3) := by decide +kernel
theorem dX2_take_4 : decode cX2_take 4 = .ok (.istore_n 1, 1) := by decide +kernel
theorem dX2_take_5 : decode cX2_take 5 = .ok (.aload_n 0, 1) := by decide +kernel
theorem dX2_take_6 : decode cX2_take 6 = .ok (.iconst 0, 1) := by decide +kernel
theorem dX2_take_7 : decode cX2_take 7 = .ok (.putfield 27, 3) := by decide +kernel
theorem dX2_take_10 : decode cX2_take 10 = .ok (.iload_n 1, 1) := by decide +kernel
theorem dX2_take_11 : decode cX2_take 11 = .ok (.ireturn, 1) := by decide +kernel
theorem dX2_firstWrong_0 : decode cX2_firstWrong 0 = .ok (.aload_n 0, 1) := by decide +kernel
theorem dX2_firstWrong_1 : decode cX2_firstWrong 1 = .ok (.getfield 24, 3) := by decide +kernel
theorem dX2_firstWrong_4 : decode cX2_firstWrong 4 = .ok (.iconst (-1), 1) := by decide +kernel
theorem dX2_firstWrong_5 : decode cX2_firstWrong 5 = .ok (.invokestatic 35, 3) := by decide +kernel
theorem dX2_firstWrong_8 : decode cX2_firstWrong 8 = .ok (.aload_n 0, 1) := by decide +kernel
theorem dX2_firstWrong_9 : decode cX2_firstWrong 9 = .ok (.iconst (-1), 1) := by decide +kernel
theorem dX2_firstWrong_10 : decode cX2_firstWrong 10 = .ok (.putfield 41, 3) := by decide +kernel
theorem dX2_firstWrong_13 : decode cX2_firstWrong 13 = .ok (.aload_n 0, 1) := by decide +kernel
theorem dX2_firstWrong_14 : decode cX2_firstWrong 14 = .ok (.iconst 0, 1) := by decide +kernel
theorem dX2_firstWrong_15 : decode cX2_firstWrong 15 = .ok (.putfield 44, 3) := by decide +kernel
theorem dX2_firstWrong_18 : decode cX2_firstWrong 18 = .ok (.iconst 0, 1) := by decide +kernel
theorem dX2_firstWrong_19 : decode cX2_firstWrong 19 = .ok (.istore 4, 2) := by decide +kernel
theorem dX2_firstWrong_21 : decode cX2_firstWrong 21 = .ok (.iload 4, 2) := by decide +kernel
theorem dX2_firstWrong_23 : decode cX2_firstWrong 23 = .ok (.iload_n 1, 1) := by decide +kernel
theorem dX2_firstWrong_24 : decode cX2_firstWrong 24 = .ok (.if_icmp .ge 72, 3) := by decide +kernel
theorem dX2_firstWrong_27 : decode cX2_firstWrong 27 = .ok (.aload_n 0, 1) := by decide +kernel
theorem dX2_firstWrong_28 : decode cX2_firstWrong 28 = .ok (.aload_n 2, 1) := by decide +kernel
theorem dX2_firstWrong_29 : decode cX2_firstWrong 29 = .ok (.invokevirtual 47, 3) := by decide +kernel
theorem dX2_firstWrong_32 : decode cX2_firstWrong 32 = .ok (.ifCond .eq 6, 3) := by decide +kernel
theorem dX2_firstWrong_35 : decode cX2_firstWrong 35 = .ok (.iload 4, 2) := by decide +kernel
theorem dX2_firstWrong_37 : decode cX2_firstWrong 37 = .ok (.ireturn, 1) := by decide +kernel
theorem dX2_firstWrong_38 : decode cX2_firstWrong 38 = .ok (.aload_n 2, 1) := by decide +kernel
theorem dX2_firstWrong_39 : decode cX2_firstWrong 39 = .ok (.aload_n 0, 1) := by decide +kernel
theorem dX2_firstWrong_40 : decode cX2_firstWrong 40 = .ok (.invokevirtual 51, 3) := by decide +kernel
theorem dX2_firstWrong_43 : decode cX2_firstWrong 43 = .ok (.aload_n 0, 1) := by decide +kernel
theorem dX2_firstWrong_44 : decode cX2_firstWrong 44 = .ok (.getfield 44, 3) := by decide +kernel
theorem dX2_firstWrong_47 : decode cX2_firstWrong 47 = .ok (.invokevirtual 55, 3) := by decide +kernel
theorem dX2_firstWrong_50 : decode cX2_firstWrong 50 = .ok (.istore 5, 2) := by decide +kernel
theorem dX2_firstWrong_52 : decode cX2_firstWrong 52 = .ok (.aload_n 0, 1) := by decide +kernel
theorem dX2_firstWrong_53 : decode cX2_firstWrong 53 = .ok (.aload_n 0, 1) := by decide +kernel
theorem dX2_firstWrong_54 : decode cX2_firstWrong 54 = .ok (.getfield 9, 3) := by decide +kernel
theorem dX2_firstWrong_57 : decode cX2_firstWrong 57 = .ok (.iload 4, 2) := by decide +kernel
theorem dX2_firstWrong_59 : decode cX2_firstWrong 59 = .ok (.invokestatic 61, 3) := by decide +kernel
theorem dX2_firstWrong_62 : decode cX2_firstWrong 62 = .ok (.iload 5, 2) := by decide +kernel
theorem dX2_firstWrong_64 : decode cX2_firstWrong 64 = .ok (.aload_n 2, 1) := by decide +kernel
theorem dX2_firstWrong_65 : decode cX2_firstWrong 65 = .ok (.iload_n 3, 1) := by decide +kernel
theorem dX2_firstWrong_66 : decode cX2_firstWrong 66 = .ok (.invokevirtual 65, 3) := by decide +kernel
theorem dX2_firstWrong_69 : decode cX2_firstWrong 69 = .ok (.ifCond .ne 6, 3) := by decide +kernel
theorem dX2_firstWrong_72 : decode cX2_firstWrong 72 = .ok (.iload 4, 2) := by decide +kernel
theorem dX2_firstWrong_74 : decode cX2_firstWrong 74 = .ok (.ireturn, 1) := by decide +kernel
theorem dX2_firstWrong_75 : decode cX2_firstWrong 75 = .ok (.aload_n 0, 1) := by decide +kernel
theorem dX2_firstWrong_76 : decode cX2_firstWrong 76 = .ok (.iload 4, 2) := by decide +kernel
theorem dX2_firstWrong_78 : decode cX2_firstWrong 78 = .ok (.invokevirtual 69, 3) := by decide +kernel
theorem dX2_firstWrong_81 : decode cX2_firstWrong 81 = .ok (.aload_n 0, 1) := by decide +kernel
theorem dX2_firstWrong_82 : decode cX2_firstWrong 82 = .ok (.iload 4, 2) := by decide +kernel
theorem dX2_firstWrong_84 : decode cX2_firstWrong 84 = .ok (.iconst 1, 1) := by decide +kernel
theorem dX2_firstWrong_85 : decode cX2_firstWrong 85 = .ok (.iadd, 1) := by decide +kernel
theorem dX2_firstWrong_86 : decode cX2_firstWrong 86 = .ok (.aload_n 2, 1) := by decide +kernel
theorem dX2_firstWrong_87 : decode cX2_firstWrong 87 = .ok (.invokevirtual 73, 3) := by decide +kernel
theorem dX2_firstWrong_90 : decode cX2_firstWrong 90 = .ok (.iinc 4 1, 3) := by decide +kernel
theorem dX2_firstWrong_93 : decode cX2_firstWrong 93 = .ok (.goto (-72), 3) := by decide +kernel
theorem dX2_firstWrong_96 : decode cX2_firstWrong 96 = .ok (.aload_n 0, 1) := by decide +kernel
theorem dX2_firstWrong_97 : decode cX2_firstWrong 97 = .ok (.aload_n 2, 1) := by decide +kernel
theorem dX2_firstWrong_98 : decode cX2_firstWrong 98 = .ok (.invokevirtual 47, 3) := by decide +kernel
theorem dX2_firstWrong_101 : decode cX2_firstWrong 101 = .ok (.ifCond .eq 7, 3) := by decide +kernel
theorem dX2_firstWrong_104 : decode cX2_firstWrong 104 = .ok (.iconst (-1), 1) := by decide +kernel
theorem dX2_firstWrong_105 : decode cX2_firstWrong 105 = .ok (.goto 4, 3) := by decide +kernel
theorem dX2_firstWrong_108 : decode cX2_firstWrong 108 = .ok (.iload_n 1, 1) := by decide +kernel
theorem dX2_firstWrong_109 : decode cX2_firstWrong 109 = .ok (.ireturn, 1) := by decide +kernel
theorem dX2_isWhole_0 : decode cX2_isWhole 0 = .ok (.aload_n 0, 1) := by decide +kernel
theorem dX2_isWhole_1 : decode cX2_isWhole 1 = .ok (.getfield 41, 3) := by decide +kernel
theorem dX2_isWhole_4 : decode cX2_isWhole 4 = .ok (.iconst (-1), 1) := by decide +kernel
theorem dX2_isWhole_5 : decode cX2_isWhole 5 = .ok (.if_icmp .ne 19, 3) := by decide +kernel
theorem dX2_isWhole_8 : decode cX2_isWhole 8 = .ok (.aload_n 0, 1) := by decide +kernel
theorem dX2_isWhole_9 : decode cX2_isWhole 9 = .ok (.getfield 44, 3) := by decide +kernel
theorem dX2_isWhole_12 : decode cX2_isWhole 12 = .ok (.aload_n 1, 1) := by decide +kernel
theorem dX2_isWhole_13 : decode cX2_isWhole 13 = .ok (.iconst (-1), 1) := by decide +kernel
theorem dX2_isWhole_14 : decode cX2_isWhole 14 = .ok (.invokevirtual 77, 3) := by decide +kernel
theorem dX2_isWhole_17 : decode cX2_isWhole 17 = .ok (.if_icmp .lt 7, 3) := by decide +kernel
theorem dX2_isWhole_20 : decode cX2_isWhole 20 = .ok (.iconst 1, 1) := by decide +kernel
theorem dX2_isWhole_21 : decode cX2_isWhole 21 = .ok (.goto 4, 3) := by decide +kernel
theorem dX2_isWhole_24 : decode cX2_isWhole 24 = .ok (.iconst 0, 1) := by decide +kernel
theorem dX2_isWhole_25 : decode cX2_isWhole 25 = .ok (.ireturn, 1) := by decide +kernel
theorem dX2_holding_0 : decode cX2_holding 0 = .ok (.aload_n 0, 1) := by decide +kernel
theorem dX2_holding_1 : decode cX2_holding 1 = .ok (.getfield 41, 3) := by decide +kernel
theorem dX2_holding_4 : decode cX2_holding 4 = .ok (.iconst (-1), 1) := by decide +kernel
theorem dX2_holding_5 : decode cX2_holding 5 = .ok (.if_icmp .ne 7, 3) := by decide +kernel
theorem dX2_holding_8 : decode cX2_holding 8 = .ok (.iconst (-1), 1) := by decide +kernel
theorem dX2_holding_9 : decode cX2_holding 9 = .ok (.goto 14, 3) := by decide +kernel
theorem dX2_holding_12 : decode cX2_holding 12 = .ok (.aload_n 0, 1) := by decide +kernel
theorem dX2_holding_13 : decode cX2_holding 13 = .ok (.getfield 9, 3) := by decide +kernel
theorem dX2_holding_16 : decode cX2_holding 16 = .ok (.aload_n 0, 1) := by decide +kernel
theorem dX2_holding_17 : decode cX2_holding 17 = .ok (.getfield 41, 3) := by decide +kernel
theorem dX2_holding_20 : decode cX2_holding 20 = .ok (.invokestatic 61, 3) := by decide +kernel
theorem dX2_holding_23 : decode cX2_holding 23 = .ok (.ireturn, 1) := by decide +kernel
theorem dX2_fits_0 : decode cX2_fits 0 = .ok (.iload_n 1, 1) := by decide +kernel
theorem dX2_fits_1 : decode cX2_fits 1 = .ok (.ifCond .lt 18, 3) := by decide +kernel
theorem dX2_fits_4 : decode cX2_fits 4 = .ok (.aload_n 3, 1) := by decide +kernel
theorem dX2_fits_5 : decode cX2_fits 5 = .ok (.iload_n 1, 1) := by decide +kernel
theorem dX2_fits_6 : decode cX2_fits 6 = .ok (.invokevirtual 81, 3) := by decide +kernel
theorem dX2_fits_9 : decode cX2_fits 9 = .ok (.iload_n 2, 1) := by decide +kernel
theorem dX2_fits_10 : decode cX2_fits 10 = .ok (.if_icmp .ne 7, 3) := by decide +kernel
theorem dX2_fits_13 : decode cX2_fits 13 = .ok (.iconst 1, 1) := by decide +kernel
theorem dX2_fits_14 : decode cX2_fits 14 = .ok (.goto 4, 3) := by decide +kernel
theorem dX2_fits_17 : decode cX2_fits 17 = .ok (.iconst 0, 1) := by decide +kernel
theorem dX2_fits_18 : decode cX2_fits 18 = .ok (.ireturn, 1) := by decide +kernel
theorem dX2_fits_19 : decode cX2_fits 19 = .ok (.iload 4, 2) := by decide +kernel
theorem dX2_fits_21 : decode cX2_fits 21 = .ok (.ifCond .ne 14, 3) := by decide +kernel
theorem dX2_fits_24 : decode cX2_fits 24 = .ok (.iload_n 1, 1) := by decide +kernel
theorem dX2_fits_25 : decode cX2_fits 25 = .ok (.iconst (-1), 1) := by decide +kernel
theorem dX2_fits_26 : decode cX2_fits 26 = .ok (.if_icmp .ne 7, 3) := by decide +kernel
theorem dX2_fits_29 : decode cX2_fits 29 = .ok (.iconst 1, 1) := by decide +kernel
theorem dX2_fits_30 : decode cX2_fits 30 = .ok (.goto 4, 3) := by decide +kernel
theorem dX2_fits_33 : decode cX2_fits 33 = .ok (.iconst 0, 1) := by decide +kernel
theorem dX2_fits_34 : decode cX2_fits 34 = .ok (.ireturn, 1) := by decide +kernel
theorem dX2_fits_35 : decode cX2_fits 35 = .ok (.iconst (-1), 1) := by decide +kernel
theorem dX2_fits_36 : decode cX2_fits 36 = .ok (.iload_n 1, 1) := by decide +kernel
theorem dX2_fits_37 : decode cX2_fits 37 = .ok (.isub, 1) := by decide +kernel
theorem dX2_fits_38 : decode cX2_fits 38 = .ok (.istore 5, 2) := by decide +kernel
theorem dX2_fits_40 : decode cX2_fits 40 = .ok (.iload 5, 2) := by decide +kernel
theorem dX2_fits_42 : decode cX2_fits 42 = .ok (.bipush 8, 2) := by decide +kernel
theorem dX2_fits_44 : decode cX2_fits 44 = .ok (.if_icmp .lt 5, 3) := by decide +kernel
theorem dX2_fits_47 : decode cX2_fits 47 = .ok (.iconst 0, 1) := by decide +kernel
theorem dX2_fits_48 : decode cX2_fits 48 = .ok (.ireturn, 1) := by decide +kernel
theorem dX2_fits_49 : decode cX2_fits 49 = .ok (.aload_n 0, 1) := by decide +kernel
theorem dX2_fits_50 : decode cX2_fits 50 = .ok (.getfield 24, 3) := by decide +kernel
theorem dX2_fits_53 : decode cX2_fits 53 = .ok (.iload 5, 2) := by decide +kernel
theorem dX2_fits_55 : decode cX2_fits 55 = .ok (.invokestatic 61, 3) := by decide +kernel
theorem dX2_fits_58 : decode cX2_fits 58 = .ok (.iconst (-1), 1) := by decide +kernel
theorem dX2_fits_59 : decode cX2_fits 59 = .ok (.if_icmp .ne 13, 3) := by decide +kernel
theorem dX2_fits_62 : decode cX2_fits 62 = .ok (.aload_n 0, 1) := by decide +kernel
theorem dX2_fits_63 : decode cX2_fits 63 = .ok (.getfield 24, 3) := by decide +kernel
theorem dX2_fits_66 : decode cX2_fits 66 = .ok (.iload 5, 2) := by decide +kernel
theorem dX2_fits_68 : decode cX2_fits 68 = .ok (.iload_n 2, 1) := by decide +kernel
theorem dX2_fits_69 : decode cX2_fits 69 = .ok (.invokestatic 31, 3) := by decide +kernel
theorem dX2_fits_72 : decode cX2_fits 72 = .ok (.aload_n 0, 1) := by decide +kernel
theorem dX2_fits_73 : decode cX2_fits 73 = .ok (.getfield 24, 3) := by decide +kernel
theorem dX2_fits_76 : decode cX2_fits 76 = .ok (.iload 5, 2) := by decide +kernel
theorem dX2_fits_78 : decode cX2_fits 78 = .ok (.invokestatic 61, 3) := by decide +kernel
theorem dX2_fits_81 : decode cX2_fits 81 = .ok (.iload_n 2, 1) := by decide +kernel
theorem dX2_fits_82 : decode cX2_fits 82 = .ok (.if_icmp .ne 7, 3) := by decide +kernel
theorem dX2_fits_85 : decode cX2_fits 85 = .ok (.iconst 1, 1) := by decide +kernel
theorem dX2_fits_86 : decode cX2_fits 86 = .ok (.goto 4, 3) := by decide +kernel
theorem dX2_fits_89 : decode cX2_fits 89 = .ok (.iconst 0, 1) := by decide +kernel
theorem dX2_fits_90 : decode cX2_fits 90 = .ok (.ireturn, 1) := by decide +kernel
theorem dX2_hang_0 : decode cX2_hang 0 = .ok (.aload_n 0, 1) := by decide +kernel
theorem dX2_hang_1 : decode cX2_hang 1 = .ok (.getfield 15, 3) := by decide +kernel
theorem dX2_hang_4 : decode cX2_hang 4 = .ok (.iload_n 1, 1) := by decide +kernel
theorem dX2_hang_5 : decode cX2_hang 5 = .ok (.aload_n 0, 1) := by decide +kernel
theorem dX2_hang_6 : decode cX2_hang 6 = .ok (.getfield 41, 3) := by decide +kernel
theorem dX2_hang_9 : decode cX2_hang 9 = .ok (.invokestatic 31, 3) := by decide +kernel
theorem dX2_hang_12 : decode cX2_hang 12 = .ok (.aload_n 0, 1) := by decide +kernel
theorem dX2_hang_13 : decode cX2_hang 13 = .ok (.getfield 18, 3) := by decide +kernel
theorem dX2_hang_16 : decode cX2_hang 16 = .ok (.iload_n 1, 1) := by decide +kernel
theorem dX2_hang_17 : decode cX2_hang 17 = .ok (.aload_n 0, 1) := by decide +kernel
theorem dX2_hang_18 : decode cX2_hang 18 = .ok (.getfield 44, 3) := by decide +kernel
theorem dX2_hang_21 : decode cX2_hang 21 = .ok (.invokestatic 31, 3) := by decide +kernel
theorem dX2_hang_24 : decode cX2_hang 24 = .ok (.aload_n 0, 1) := by decide +kernel
theorem dX2_hang_25 : decode cX2_hang 25 = .ok (.getfield 9, 3) := by decide +kernel
theorem dX2_hang_28 : decode cX2_hang 28 = .ok (.iload_n 1, 1) := by decide +kernel
theorem dX2_hang_29 : decode cX2_hang 29 = .ok (.invokestatic 61, 3) := by decide +kernel
theorem dX2_hang_32 : decode cX2_hang 32 = .ok (.ifCond .lt 16, 3) := by decide +kernel
theorem dX2_hang_35 : decode cX2_hang 35 = .ok (.aload_n 0, 1) := by decide +kernel
theorem dX2_hang_36 : decode cX2_hang 36 = .ok (.iload_n 1, 1) := by decide +kernel
theorem dX2_hang_37 : decode cX2_hang 37 = .ok (.putfield 41, 3) := by decide +kernel
theorem dX2_hang_40 : decode cX2_hang 40 = .ok (.aload_n 0, 1) := by decide +kernel
theorem dX2_hang_41 : decode cX2_hang 41 = .ok (.iconst 0, 1) := by decide +kernel
theorem dX2_hang_42 : decode cX2_hang 42 = .ok (.putfield 44, 3) := by decide +kernel
theorem dX2_hang_45 : decode cX2_hang 45 = .ok (.goto 24, 3) := by decide +kernel
theorem dX2_hang_48 : decode cX2_hang 48 = .ok (.aload_n 0, 1) := by decide +kernel
theorem dX2_hang_49 : decode cX2_hang 49 = .ok (.getfield 21, 3) := by decide +kernel
theorem dX2_hang_52 : decode cX2_hang 52 = .ok (.iload_n 1, 1) := by decide +kernel
theorem dX2_hang_53 : decode cX2_hang 53 = .ok (.iload_n 1, 1) := by decide +kernel
theorem dX2_hang_54 : decode cX2_hang 54 = .ok (.iconst 1, 1) := by decide +kernel
theorem dX2_hang_55 : decode cX2_hang 55 = .ok (.iadd, 1) := by decide +kernel
theorem dX2_hang_56 : decode cX2_hang 56 = .ok (.invokestatic 31, 3) := by decide +kernel
theorem dX2_hang_59 : decode cX2_hang 59 = .ok (.aload_n 0, 1) := by decide +kernel
theorem dX2_hang_60 : decode cX2_hang 60 = .ok (.dup, 1) := by decide +kernel
theorem dX2_hang_61 : decode cX2_hang 61 = .ok (.getfield 44, 3) := by decide +kernel
theorem dX2_hang_64 : decode cX2_hang 64 = .ok (.iconst 1, 1) := by decide +kernel
theorem dX2_hang_65 : decode cX2_hang 65 = .ok (.iadd, 1) := by decide +kernel
theorem dX2_hang_66 : decode cX2_hang 66 = .ok (.putfield 44, 3) := by decide +kernel
theorem dX2_hang_69 : decode cX2_hang 69 = .ok (.return_, 1) := by decide +kernel
theorem dX2_closeWhole_0 : decode cX2_closeWhole 0 = .ok (.iconst 0, 1) := by decide +kernel
theorem dX2_closeWhole_1 : decode cX2_closeWhole 1 = .ok (.istore_n 3, 1) := by decide +kernel
theorem dX2_closeWhole_2 : decode cX2_closeWhole 2 = .ok (.iload_n 3, 1) := by decide +kernel
theorem dX2_closeWhole_3 : decode cX2_closeWhole 3 = .ok (.sipush 160, 3) := by decide +kernel
theorem dX2_closeWhole_6 : decode cX2_closeWhole 6 = .ok (.if_icmp .ge 77, 3) := by decide +kernel
theorem dX2_closeWhole_9 : decode cX2_closeWhole 9 = .ok (.aload_n 0, 1) := by decide +kernel
theorem dX2_closeWhole_10 : decode cX2_closeWhole 10 = .ok (.getfield 41, 3) := by decide +kernel
theorem dX2_closeWhole_13 : decode cX2_closeWhole 13 = .ok (.iconst (-1), 1) := by decide +kernel
theorem dX2_closeWhole_14 : decode cX2_closeWhole 14 = .ok (.if_icmp .eq 18, 3) := by decide +kernel
theorem dX2_closeWhole_17 : decode cX2_closeWhole 17 = .ok (.aload_n 0, 1) := by decide +kernel
theorem dX2_closeWhole_18 : decode cX2_closeWhole 18 = .ok (.getfield 44, 3) := by decide +kernel
theorem dX2_closeWhole_21 : decode cX2_closeWhole 21 = .ok (.aload_n 2, 1) := by decide +kernel
theorem dX2_closeWhole_22 : decode cX2_closeWhole 22 = .ok (.aload_n 0, 1) := by decide +kernel
theorem dX2_closeWhole_23 : decode cX2_closeWhole 23 = .ok (.invokevirtual 51, 3) := by decide +kernel
theorem dX2_closeWhole_26 : decode cX2_closeWhole 26 = .ok (.invokevirtual 77, 3) := by decide +kernel
theorem dX2_closeWhole_29 : decode cX2_closeWhole 29 = .ok (.if_icmp .ge 4, 3) := by decide +kernel
theorem dX2_closeWhole_32 : decode cX2_closeWhole 32 = .ok (.return_, 1) := by decide +kernel
theorem dX2_closeWhole_33 : decode cX2_closeWhole 33 = .ok (.aload_n 0, 1) := by decide +kernel
theorem dX2_closeWhole_34 : decode cX2_closeWhole 34 = .ok (.getfield 21, 3) := by decide +kernel
theorem dX2_closeWhole_37 : decode cX2_closeWhole 37 = .ok (.aload_n 0, 1) := by decide +kernel
theorem dX2_closeWhole_38 : decode cX2_closeWhole 38 = .ok (.getfield 41, 3) := by decide +kernel
theorem dX2_closeWhole_41 : decode cX2_closeWhole 41 = .ok (.iload_n 1, 1) := by decide +kernel
theorem dX2_closeWhole_42 : decode cX2_closeWhole 42 = .ok (.invokestatic 31, 3) := by decide +kernel
theorem dX2_closeWhole_45 : decode cX2_closeWhole 45 = .ok (.aload_n 0, 1) := by decide +kernel
theorem dX2_closeWhole_46 : decode cX2_closeWhole 46 = .ok (.aload_n 0, 1) := by decide +kernel
theorem dX2_closeWhole_47 : decode cX2_closeWhole 47 = .ok (.getfield 18, 3) := by decide +kernel
theorem dX2_closeWhole_50 : decode cX2_closeWhole 50 = .ok (.aload_n 0, 1) := by decide +kernel
theorem dX2_closeWhole_51 : decode cX2_closeWhole 51 = .ok (.getfield 41, 3) := by decide +kernel
theorem dX2_closeWhole_54 : decode cX2_closeWhole 54 = .ok (.invokestatic 61, 3) := by decide +kernel
theorem dX2_closeWhole_57 : decode cX2_closeWhole 57 = .ok (.iconst 1, 1) := by decide +kernel
theorem dX2_closeWhole_58 : decode cX2_closeWhole 58 = .ok (.iadd, 1) := by decide +kernel
theorem dX2_closeWhole_59 : decode cX2_closeWhole 59 = .ok (.putfield 44, 3) := by decide +kernel
theorem dX2_closeWhole_62 : decode cX2_closeWhole 62 = .ok (.aload_n 0, 1) := by decide +kernel
theorem dX2_closeWhole_63 : decode cX2_closeWhole 63 = .ok (.aload_n 0, 1) := by decide +kernel
theorem dX2_closeWhole_64 : decode cX2_closeWhole 64 = .ok (.getfield 15, 3) := by decide +kernel
theorem dX2_closeWhole_67 : decode cX2_closeWhole 67 = .ok (.aload_n 0, 1) := by decide +kernel
theorem dX2_closeWhole_68 : decode cX2_closeWhole 68 = .ok (.getfield 41, 3) := by decide +kernel
theorem dX2_closeWhole_71 : decode cX2_closeWhole 71 = .ok (.invokestatic 61, 3) := by decide +kernel
theorem dX2_closeWhole_74 : decode cX2_closeWhole 74 = .ok (.putfield 41, 3) := by decide +kernel
theorem dX2_closeWhole_77 : decode cX2_closeWhole 77 = .ok (.iinc 3 1, 3) := by decide +kernel
theorem dX2_closeWhole_80 : decode cX2_closeWhole 80 = .ok (.goto (-78), 3) := by decide +kernel
theorem dX2_closeWhole_83 : decode cX2_closeWhole 83 = .ok (.return_, 1) := by decide +kernel
end
section
theorem dX3_init_0 : decode cX3_init 0 = .ok (.aload_n 0, 1) := by decide +kernel
theorem dX3_init_1 : decode cX3_init 1 = .ok (.invokespecial 3, 3) := by decide +kernel
theorem dX3_init_4 : decode cX3_init 4 = .ok (.aload_n 0, 1) := by decide +kernel
theorem dX3_init_5 : decode cX3_init 5 = .ok (.bipush 25, 2) := by decide +kernel
theorem dX3_init_7 : decode cX3_init 7 = .ok (.newarray .int, 2) := by decide +kernel
theorem dX3_init_9 : decode cX3_init 9 = .ok (.putfield 9, 3) := by decide +kernel
theorem dX3_init_12 : decode cX3_init 12 = .ok (.aload_n 0, 1) := by decide +kernel
theorem dX3_init_13 : decode cX3_init 13 = .ok (.sipush 512, 3) := by decide +kernel
theorem dX3_init_16 : decode cX3_init 16 = .ok (.newarray .int, 2) := by decide +kernel
theorem dX3_init_18 : decode cX3_init 18 = .ok (.putfield 15, 3) := by decide +kernel
theorem dX3_init_21 : decode cX3_init 21 = .ok (.aload_n 0, 1) := by decide +kernel
theorem dX3_init_22 : decode cX3_init 22 = .ok (.sipush 512, 3) := by decide +kernel
theorem dX3_init_25 : decode cX3_init 25 = .ok (.newarray .int, 2) := by decide +kernel
theorem dX3_init_27 : decode cX3_init 27 = .ok (.putfield 18, 3) := by decide +kernel
theorem dX3_init_30 : decode cX3_init 30 = .ok (.aload_n 0, 1) := by decide +kernel
theorem dX3_init_31 : decode cX3_init 31 = .ok (.sipush 512, 3) := by decide +kernel
theorem dX3_init_34 : decode cX3_init 34 = .ok (.newarray .int, 2) := by decide +kernel
theorem dX3_init_36 : decode cX3_init 36 = .ok (.putfield 21, 3) := by decide +kernel
theorem dX3_init_39 : decode cX3_init 39 = .ok (.aload_n 0, 1) := by decide +kernel
theorem dX3_init_40 : decode cX3_init 40 = .ok (.sipush 512, 3) := by decide +kernel
theorem dX3_init_43 : decode cX3_init 43 = .ok (.newarray .int, 2) := by decide +kernel
theorem dX3_init_45 : decode cX3_init 45 = .ok (.putfield 24, 3) := by decide +kernel
theorem dX3_init_48 : decode cX3_init 48 = .ok (.aload_n 0, 1) := by decide +kernel
theorem dX3_init_49 : decode cX3_init 49 = .ok (.sipush 512, 3) := by decide +kernel
theorem dX3_init_52 : decode cX3_init 52 = .ok (.newarray .int, 2) := by decide +kernel
theorem dX3_init_54 : decode cX3_init 54 = .ok (.putfield 27, 3) := by decide +kernel
theorem dX3_init_57 : decode cX3_init 57 = .ok (.return_, 1) := by decide +kernel
theorem dX3_clear_0 : decode cX3_clear 0 = .ok (.aload_n 0, 1) := by decide +kernel
theorem dX3_clear_1 : decode cX3_clear 1 = .ok (.iconst 0, 1) := by decide +kernel
theorem dX3_clear_2 : decode cX3_clear 2 = .ok (.putfield 30, 3) := by decide +kernel
theorem dX3_clear_5 : decode cX3_clear 5 = .ok (.return_, 1) := by decide +kernel
theorem dX3_hasRoom_0 : decode cX3_hasRoom 0 = .ok (.aload_n 0, 1) := by decide +kernel
theorem dX3_hasRoom_1 : decode cX3_hasRoom 1 = .ok (.getfield 30, 3) := by decide +kernel
theorem dX3_hasRoom_4 : decode cX3_hasRoom 4 = .ok (.bipush 24, 2) := by decide +kernel
theorem dX3_hasRoom_6 : decode cX3_hasRoom 6 = .ok (.if_icmp .ge 23, 3) := by decide +kernel
theorem dX3_hasRoom_9 : decode cX3_hasRoom 9 = .ok (.aload_n 0, 1) := by decide +kernel
theorem dX3_hasRoom_10 : decode cX3_hasRoom 10 = .ok (.aload_n 0, 1) := by decide +kernel
theorem dX3_hasRoom_11 : decode cX3_hasRoom 11 = .ok (.getfield 30, 3) := by decide +kernel
theorem dX3_hasRoom_14 : decode cX3_hasRoom 14 = .ok (.invokevirtual 34, 3) := by decide +kernel
theorem dX3_hasRoom_17 : decode cX3_hasRoom 17 = .ok (.iload_n 1, 1) := by decide +kernel
theorem dX3_hasRoom_18 : decode cX3_hasRoom 18 = .ok (.iadd, 1) := by decide +kernel
theorem dX3_hasRoom_19 : decode cX3_hasRoom 19 = .ok (.sipush 512, 3) := by decide +kernel
theorem dX3_hasRoom_22 : decode cX3_hasRoom 22 = .ok (.if_icmp .gt 7, 3) := by decide +kernel
theorem dX3_hasRoom_25 : decode cX3_hasRoom 25 = .ok (.iconst 1, 1) := by decide +kernel
theorem dX3_hasRoom_26 : decode cX3_hasRoom 26 = .ok (.goto 4, 3) := by decide +kernel
theorem dX3_hasRoom_29 : decode cX3_hasRoom 29 = .ok (.iconst 0, 1) := by decide +kernel
theorem dX3_hasRoom_30 : decode cX3_hasRoom 30 = .ok (.ireturn, 1) := by decide +kernel
theorem dX3_start_0 : decode cX3_start 0 = .ok (.aload_n 0, 1) := by decide +kernel
theorem dX3_start_1 : decode cX3_start 1 = .ok (.getfield 9, 3) := by decide +kernel
theorem dX3_start_4 : decode cX3_start 4 = .ok (.iload_n 1, 1) := by decide +kernel
theorem dX3_start_5 : decode cX3_start 5 = .ok (.invokestatic 38, 3) := by decide +kernel
theorem dX3_start_8 : decode cX3_start 8 = .ok (.ireturn, 1) := by decide +kernel
theorem dX3_add_0 : decode cX3_add 0 = .ok (.aload_n 0, 1) := by decide +kernel
theorem dX3_add_1 : decode cX3_add 1 = .ok (.aload_n 0, 1) := by decide +kernel
theorem dX3_add_2 : decode cX3_add 2 = .ok (.getfield 30, 3) := by decide +kernel
theorem dX3_add_5 : decode cX3_add 5 = .ok (.invokevirtual 34, 3) := by decide +kernel
theorem dX3_add_8 : decode cX3_add 8 = .ok (.istore_n 3, 1) := by decide +kernel
theorem dX3_add_9 : decode cX3_add 9 = .ok (.iconst 0, 1) := by decide +kernel
theorem dX3_add_10 : decode cX3_add 10 = .ok (.istore 4, 2) := by decide +kernel
theorem dX3_add_12 : decode cX3_add 12 = .ok (.iload 4, 2) := by decide +kernel
theorem dX3_add_14 : decode cX3_add 14 = .ok (.iload_n 2, 1) := by decide +kernel
theorem dX3_add_15 : decode cX3_add 15 = .ok (.if_icmp .ge 107, 3) := by decide +kernel
theorem dX3_add_18 : decode cX3_add 18 = .ok (.aload_n 1, 1) := by decide +kernel
theorem dX3_add_19 : decode cX3_add 19 = .ok (.getfield 42, 3) := by decide +kernel
theorem dX3_add_22 : decode cX3_add 22 = .ok (.iload 4, 2) := by decide +kernel
theorem dX3_add_24 : decode cX3_add 24 = .ok (.invokestatic 38, 3) := by decide +kernel
theorem dX3_add_27 : decode cX3_add 27 = .ok (.istore 5, 2) := by decide +kernel
theorem dX3_add_29 : decode cX3_add 29 = .ok (.aload_n 0, 1) := by decide +kernel
theorem dX3_add_30 : decode cX3_add 30 = .ok (.getfield 15, 3) := by decide +kernel
theorem dX3_add_33 : decode cX3_add 33 = .ok (.iload_n 3, 1) := by decide +kernel
theorem dX3_add_34 : decode cX3_add 34 = .ok (.iload 4, 2) := by decide +kernel
theorem dX3_add_36 : decode cX3_add 36 = .ok (.iadd, 1) := by decide +kernel
theorem dX3_add_37 : decode cX3_add 37 = .ok (.aload_n 1, 1) := by decide +kernel
theorem dX3_add_38 : decode cX3_add 38 = .ok (.getfield 45, 3) := by decide +kernel
theorem dX3_add_41 : decode cX3_add 41 = .ok (.iload 4, 2) := by decide +kernel
theorem dX3_add_43 : decode cX3_add 43 = .ok (.invokestatic 38, 3) := by decide +kernel
theorem dX3_add_46 : decode cX3_add 46 = .ok (.invokestatic 48, 3) := by decide +kernel
theorem dX3_add_49 : decode cX3_add 49 = .ok (.aload_n 0, 1) := by decide +kernel
theorem dX3_add_50 : decode cX3_add 50 = .ok (.getfield 18, 3) := by decide +kernel
theorem dX3_add_53 : decode cX3_add 53 = .ok (.iload_n 3, 1) := by decide +kernel
theorem dX3_add_54 : decode cX3_add 54 = .ok (.iload 4, 2) := by decide +kernel
theorem dX3_add_56 : decode cX3_add 56 = .ok (.iadd, 1) := by decide +kernel
theorem dX3_add_57 : decode cX3_add 57 = .ok (.iload 5, 2) := by decide +kernel
theorem dX3_add_59 : decode cX3_add 59 = .ok (.iconst (-1), 1) := by decide +kernel
theorem dX3_add_60 : decode cX3_add 60 = .ok (.if_icmp .ne 7, 3) := by decide +kernel
theorem dX3_add_63 : decode cX3_add 63 = .ok (.iconst (-1), 1) := by decide +kernel
theorem dX3_add_64 : decode cX3_add 64 = .ok (.goto 7, 3) := by decide +kernel
theorem dX3_add_67 : decode cX3_add 67 = .ok (.iload_n 3, 1) := by decide +kernel
theorem dX3_add_68 : decode cX3_add 68 = .ok (.iload 5, 2) := by decide +kernel
theorem dX3_add_70 : decode cX3_add 70 = .ok (.iadd, 1) := by decide +kernel
theorem dX3_add_71 : decode cX3_add 71 = .ok (.invokestatic 48, 3) := by decide +kernel
theorem dX3_add_74 : decode cX3_add 74 = .ok (.aload_n 0, 1) := by decide +kernel
theorem dX3_add_75 : decode cX3_add 75 = .ok (.getfield 21, 3) := by decide +kernel
theorem dX3_add_78 : decode cX3_add 78 = .ok (.iload_n 3, 1) := by decide +kernel
theorem dX3_add_79 : decode cX3_add 79 = .ok (.iload 4, 2) := by decide +kernel
theorem dX3_add_81 : decode cX3_add 81 = .ok (.iadd, 1) := by decide +kernel
theorem dX3_add_82 : decode cX3_add 82 = .ok (.aload_n 1, 1) := by decide +kernel
theorem dX3_add_83 : decode cX3_add 83 = .ok (.getfield 52, 3) := by decide +kernel
theorem dX3_add_86 : decode cX3_add 86 = .ok (.iload 4, 2) := by decide +kernel
theorem dX3_add_88 : decode cX3_add 88 = .ok (.invokestatic 38, 3) := by decide +kernel
theorem dX3_add_91 : decode cX3_add 91 = .ok (.invokestatic 48, 3) := by decide +kernel
theorem dX3_add_94 : decode cX3_add 94 = .ok (.aload_n 0, 1) := by decide +kernel
theorem dX3_add_95 : decode cX3_add 95 = .ok (.getfield 24, 3) := by decide +kernel
theorem dX3_add_98 : decode cX3_add 98 = .ok (.iload_n 3, 1) := by decide +kernel
theorem dX3_add_99 : decode cX3_add 99 = .ok (.iload 4, 2) := by decide +kernel
theorem dX3_add_101 : decode cX3_add 101 = .ok (.iadd, 1) := by decide +kernel
theorem dX3_add_102 : decode cX3_add 102 = .ok (.iload_n 3, 1) := by decide +kernel
theorem dX3_add_103 : decode cX3_add 103 = .ok (.aload_n 1, 1) := by decide +kernel
theorem dX3_add_104 : decode cX3_add 104 = .ok (.getfield 53, 3) := by decide +kernel
theorem dX3_add_107 : decode cX3_add 107 = .ok (.iload 4, 2) := by decide +kernel
theorem dX3_add_109 : decode cX3_add 109 = .ok (.invokestatic 38, 3) := by decide +kernel
theorem dX3_add_112 : decode cX3_add 112 = .ok (.iadd, 1) := by decide +kernel
theorem dX3_add_113 : decode cX3_add 113 = .ok (.invokestatic 48, 3) := by decide +kernel
theorem dX3_add_116 : decode cX3_add 116 = .ok (.iinc 4 1, 3) := by decide +kernel
theorem dX3_add_119 : decode cX3_add 119 = .ok (.goto (-107), 3) := by decide +kernel
theorem dX3_add_122 : decode cX3_add 122 = .ok (.aload_n 0, 1) := by decide +kernel
theorem dX3_add_123 : decode cX3_add 123 = .ok (.dup, 1) := by decide +kernel
theorem dX3_add_124 : decode cX3_add 124 = .ok (.getfield 30, 3) := by decide +kernel
theorem dX3_add_127 : decode cX3_add 127 = .ok (.iconst 1, 1) := by decide +kernel
theorem dX3_add_128 : decode cX3_add 128 = .ok (.iadd, 1) := by decide +kernel
theorem dX3_add_129 : decode cX3_add 129 = .ok (.putfield 30, 3) := by decide +kernel
theorem dX3_add_132 : decode cX3_add 132 = .ok (.aload_n 0, 1) := by decide +kernel
theorem dX3_add_133 : decode cX3_add 133 = .ok (.getfield 9, 3) := by decide +kernel
theorem dX3_add_136 : decode cX3_add 136 = .ok (.aload_n 0, 1) := by decide +kernel
theorem dX3_add_137 : decode cX3_add 137 = .ok (.getfield 30, 3) := by decide +kernel
theorem dX3_add_140 : decode cX3_add 140 = .ok (.iload_n 3, 1) := by decide +kernel
theorem dX3_add_141 : decode cX3_add 141 = .ok (.iload_n 2, 1) := by decide +kernel
theorem dX3_add_142 : decode cX3_add 142 = .ok (.iadd, 1) := by decide +kernel
theorem dX3_add_143 : decode cX3_add 143 = .ok (.invokestatic 48, 3) := by decide +kernel
theorem dX3_add_146 : decode cX3_add 146 = .ok (.aload_n 0, 1) := by decide +kernel
theorem dX3_add_147 : decode cX3_add 147 = .ok (.getfield 30, 3) := by decide +kernel
theorem dX3_add_150 : decode cX3_add 150 = .ok (.iconst 1, 1) := by decide +kernel
theorem dX3_add_151 : decode cX3_add 151 = .ok (.isub, 1) := by decide +kernel
theorem dX3_add_152 : decode cX3_add 152 = .ok (.ireturn, 1) := by decide +kernel
theorem dX3_forgetAsked_0 : decode cX3_forgetAsked 0 = .ok (.aload_n 0, 1) := by decide +kernel
theorem dX3_forgetAsked_1 : decode cX3_forgetAsked 1 = .ok (.getfield 27, 3) := by decide +kernel
theorem dX3_forgetAsked_4 : decode cX3_forgetAsked 4 = .ok (.iconst (-1), 1) := by decide +kernel
theorem dX3_forgetAsked_5 : decode cX3_forgetAsked 5 = .ok (.invokestatic 54, 3) := by decide +kernel
theorem dX3_forgetAsked_8 : decode cX3_forgetAsked 8 = .ok (.return_, 1) := by decide +kernel
theorem dX3_isAsked_0 : decode cX3_isAsked 0 = .ok (.aload_n 0, 1) := by decide +kernel
theorem dX3_isAsked_1 : decode cX3_isAsked 1 = .ok (.getfield 27, 3) := by decide +kernel
theorem dX3_isAsked_4 : decode cX3_isAsked 4 = .ok (.iload_n 1, 1) := by decide +kernel
theorem dX3_isAsked_5 : decode cX3_isAsked 5 = .ok (.invokestatic 38, 3) := by decide +kernel
theorem dX3_isAsked_8 : decode cX3_isAsked 8 = .ok (.iconst (-1), 1) := by decide +kernel
theorem dX3_isAsked_9 : decode cX3_isAsked 9 = .ok (.if_icmp .eq 7, 3) := by decide +kernel
theorem dX3_isAsked_12 : decode cX3_isAsked 12 = .ok (.iconst 1, 1) := by decide +kernel
theorem dX3_isAsked_13 : decode cX3_isAsked 13 = .ok (.goto 4, 3) := by decide +kernel
theorem dX3_isAsked_16 : decode cX3_isAsked 16 = .ok (.iconst 0, 1) := by decide +kernel
theorem dX3_isAsked_17 : decode cX3_isAsked 17 = .ok (.ireturn, 1) := by decide +kernel
theorem dX3_isVariable_0 : decode cX3_isVariable 0 = .ok (.aload_n 0, 1) := by decide +kernel
theorem dX3_isVariable_1 : decode cX3_isVariable 1 = .ok (.getfield 15, 3) := by decide +kernel
theorem dX3_isVariable_4 : decode cX3_isVariable 4 = .ok (.iload_n 1, 1) := by decide +kernel
theorem dX3_isVariable_5 : decode cX3_isVariable 5 = .ok (.invokestatic 38, 3) := by decide +kernel
theorem dX3_isVariable_8 : decode cX3_isVariable 8 = .ok (.ifCond .ge 7, 3) := by decide +kernel
theorem dX3_isVariable_11 : decode cX3_isVariable 11 = .ok (.iconst 1, 1) := by decide +kernel
theorem dX3_isVariable_12 : decode cX3_isVariable 12 = .ok (.goto 4, 3) := by decide +kernel
theorem dX3_isVariable_15 : decode cX3_isVariable 15 = .ok (.iconst 0, 1) := by decide +kernel
theorem dX3_isVariable_16 : decode cX3_isVariable 16 = .ok (.ireturn, 1) := by decide +kernel
theorem dX3_meet_0 : decode cX3_meet 0 = .ok (.iload_n 1, 1) := by decide +kernel
theorem dX3_meet_1 : decode cX3_meet 1 = .ok (.ifCond .lt 23, 3) := by decide +kernel
theorem dX3_meet_4 : decode cX3_meet 4 = .ok (.iload_n 1, 1) := by decide +kernel
theorem dX3_meet_5 : decode cX3_meet 5 = .ok (.aload_n 0, 1) := by decide +kernel
theorem dX3_meet_6 : decode cX3_meet 6 = .ok (.getfield 30, 3) := by decide +kernel
theorem dX3_meet_9 : decode cX3_meet 9 = .ok (.if_icmp .ge 15, 3) := by decide +kernel
theorem dX3_meet_12 : decode cX3_meet 12 = .ok (.iload_n 2, 1) := by decide +kernel
theorem dX3_meet_13 : decode cX3_meet 13 = .ok (.ifCond .lt 11, 3) := by decide +kernel
theorem dX3_meet_16 : decode cX3_meet 16 = .ok (.iload_n 2, 1) := by decide +kernel
theorem dX3_meet_17 : decode cX3_meet 17 = .ok (.aload_n 0, 1) := by decide +kernel
theorem dX3_meet_18 : decode cX3_meet 18 = .ok (.getfield 30, 3) := by decide +kernel
theorem dX3_meet_21 : decode cX3_meet 21 = .ok (.if_icmp .lt 5, 3) := by decide +kernel
theorem dX3_meet_24 : decode cX3_meet 24 = .ok (.iconst 0, 1) := by decide +kernel
theorem dX3_meet_25 : decode cX3_meet 25 = .ok (.ireturn, 1) := by decide +kernel
theorem dX3_meet_26 : decode cX3_meet 26 = .ok (.aload_n 0, 1) := by decide +kernel
theorem dX3_meet_27 : decode cX3_meet 27 = .ok (.iload_n 1, 1) := by decide +kernel
theorem dX3_meet_28 : decode cX3_meet 28 = .ok (.invokevirtual 34, 3) := by decide +kernel
theorem dX3_meet_31 : decode cX3_meet 31 = .ok (.istore_n 3, 1) := by decide +kernel
theorem dX3_meet_32 : decode cX3_meet 32 = .ok (.aload_n 0, 1) := by decide +kernel
theorem dX3_meet_33 : decode cX3_meet 33 = .ok (.iload_n 2, 1) := by decide +kernel
theorem dX3_meet_34 : decode cX3_meet 34 = .ok (.invokevirtual 34, 3) := by decide +kernel
theorem dX3_meet_37 : decode cX3_meet 37 = .ok (.istore 4, 2) := by decide +kernel
theorem dX3_meet_39 : decode cX3_meet 39 = .ok (.iconst 0, 1) := by decide +kernel
theorem dX3_meet_40 : decode cX3_meet 40 = .ok (.istore 5, 2) := by decide +kernel
theorem dX3_meet_42 : decode cX3_meet 42 = .ok (.iload 5, 2) := by decide +kernel
theorem dX3_meet_44 : decode cX3_meet 44 = .ok (.sipush 160, 3) := by decide +kernel
theorem dX3_meet_47 : decode cX3_meet 47 = .ok (.if_icmp .ge 88, 3) := by decide +kernel
theorem dX3_meet_50 : decode cX3_meet 50 = .ok (.iload_n 3, 1) := by decide +kernel
theorem dX3_meet_51 : decode cX3_meet 51 = .ok (.aload_n 0, 1) := by decide +kernel
theorem dX3_meet_52 : decode cX3_meet 52 = .ok (.iload_n 1, 1) := by decide +kernel
theorem dX3_meet_53 : decode cX3_meet 53 = .ok (.iconst 1, 1) := by decide +kernel
theorem dX3_meet_54 : decode cX3_meet 54 = .ok (.iadd, 1) := by decide +kernel
theorem dX3_meet_55 : decode cX3_meet 55 = .ok (.invokevirtual 34, 3) := by decide +kernel
theorem dX3_meet_58 : decode cX3_meet 58 = .ok (.if_icmp .ge 77, 3) := by decide +kernel
theorem dX3_meet_61 : decode cX3_meet 61 = .ok (.aload_n 0, 1) := by decide +kernel
theorem dX3_meet_62 : decode cX3_meet 62 = .ok (.iload_n 3, 1) := by decide +kernel
theorem dX3_meet_63 : decode cX3_meet 63 = .ok (.invokevirtual 60, 3) := by decide +kernel
theorem dX3_meet_66 : decode cX3_meet 66 = .ok (.ifCond .ne 12, 3) := by decide +kernel
theorem dX3_meet_69 : decode cX3_meet 69 = .ok (.aload_n 0, 1) := by decide +kernel
theorem dX3_meet_70 : decode cX3_meet 70 = .ok (.iload 4, 2) := by decide +kernel
theorem dX3_meet_72 : decode cX3_meet 72 = .ok (.invokevirtual 60, 3) := by decide +kernel
theorem dX3_meet_75 : decode cX3_meet 75 = .ok (.ifCond .eq 26, 3) := by decide +kernel
theorem dX3_meet_78 : decode cX3_meet 78 = .ok (.aload_n 0, 1) := by decide +kernel
theorem dX3_meet_79 : decode cX3_meet 79 = .ok (.getfield 24, 3) := by decide +kernel
theorem dX3_meet_82 : decode cX3_meet 82 = .ok (.iload_n 3, 1) := by decide +kernel
theorem dX3_meet_83 : decode cX3_meet 83 = .ok (.invokestatic 38, 3) := by decide +kernel
theorem dX3_meet_86 : decode cX3_meet 86 = .ok (.istore_n 3, 1) := by decide +kernel
theorem dX3_meet_87 : decode cX3_meet 87 = .ok (.aload_n 0, 1) := by decide +kernel
theorem dX3_meet_88 : decode cX3_meet 88 = .ok (.getfield 24, 3) := by decide +kernel
theorem dX3_meet_91 : decode cX3_meet 91 = .ok (.iload 4, 2) := by decide +kernel
theorem dX3_meet_93 : decode cX3_meet 93 = .ok (.invokestatic 38, 3) := by decide +kernel
theorem dX3_meet_96 : decode cX3_meet 96 = .ok (.istore 4, 2) := by decide +kernel
theorem dX3_meet_98 : decode cX3_meet 98 = .ok (.goto 31, 3) := by decide +kernel
theorem dX3_meet_101 : decode cX3_meet 101 = .ok (.aload_n 0, 1) := by decide +kernel
theorem dX3_meet_102 : decode cX3_meet 102 = .ok (.getfield 15, 3) := by decide +kernel
theorem dX3_meet_105 : decode cX3_meet 105 = .ok (.iload_n 3, 1) := by decide +kernel
theorem dX3_meet_106 : decode cX3_meet 106 = .ok (.invokestatic 38, 3) := by decide +kernel
theorem dX3_meet_109 : decode cX3_meet 109 = .ok (.aload_n 0, 1) := by decide +kernel
theorem dX3_meet_110 : decode cX3_meet 110 = .ok (.getfield 15, 3) := by decide +kernel
theorem dX3_meet_113 : decode cX3_meet 113 = .ok (.iload 4, 2) := by decide +kernel
theorem dX3_meet_115 : decode cX3_meet 115 = .ok (.invokestatic 38, 3) := by decide +kernel
theorem dX3_meet_118 : decode cX3_meet 118 = .ok (.if_icmp .eq 5, 3) := by decide +kernel
theorem dX3_meet_121 : decode cX3_meet 121 = .ok (.iconst 0, 1) := by decide +kernel
theorem dX3_meet_122 : decode cX3_meet 122 = .ok (.ireturn, 1) := by decide +kernel
theorem dX3_meet_123 : decode cX3_meet 123 = .ok (.iinc 3 1, 3) := by decide +kernel
theorem dX3_meet_126 : decode cX3_meet 126 = .ok (.iinc 4 1, 3) := by decide +kernel
theorem dX3_meet_129 : decode cX3_meet 129 = .ok (.iinc 5 1, 3) := by decide +kernel
theorem dX3_meet_132 : decode cX3_meet 132 = .ok (.goto (-90), 3) := by decide +kernel
theorem dX3_meet_135 : decode cX3_meet 135 = .ok (.iconst 1, 1) := by decide +kernel
theorem dX3_meet_136 : decode cX3_meet 136 = .ok (.ireturn, 1) := by decide +kernel
theorem dX3_placesTo_0 : decode cX3_placesTo 0 = .ok (.iconst 0, 1) := by decide +kernel
theorem dX3_placesTo_1 : decode cX3_placesTo 1 = .ok (.istore_n 2, 1) := by decide +kernel
theorem dX3_placesTo_2 : decode cX3_placesTo 2 = .ok (.iload_n 1, 1) := by decide +kernel
theorem dX3_placesTo_3 : decode cX3_placesTo 3 = .ok (.istore_n 3, 1) := by decide +kernel
theorem dX3_placesTo_4 : decode cX3_placesTo 4 = .ok (.iconst 0, 1) := by decide +kernel
theorem dX3_placesTo_5 : decode cX3_placesTo 5 = .ok (.istore 4, 2) := by decide +kernel
theorem dX3_placesTo_7 : decode cX3_placesTo 7 = .ok (.iload 4, 2) := by decide +kernel
theorem dX3_placesTo_9 : decode cX3_placesTo 9 = .ok (.sipush 160, 3) := by decide +kernel
theorem dX3_placesTo_12 : decode cX3_placesTo 12 = .ok (.if_icmp .ge 26, 3) := by decide +kernel
theorem dX3_placesTo_15 : decode cX3_placesTo 15 = .ok (.iload_n 3, 1) := by decide +kernel
theorem dX3_placesTo_16 : decode cX3_placesTo 16 = .ok (.iconst (-1), 1) := by decide +kernel
theorem dX3_placesTo_17 : decode cX3_placesTo 17 = .ok (.if_icmp .eq 21, 3) := by decide +kernel
theorem dX3_placesTo_20 : decode cX3_placesTo 20 = .ok (.iinc 2 1, 3) := by decide +kernel
theorem dX3_placesTo_23 : decode cX3_placesTo 23 = .ok (.aload_n 0, 1) := by decide +kernel
theorem dX3_placesTo_24 : decode cX3_placesTo 24 = .ok (.getfield 18, 3) := by decide +kernel
theorem dX3_placesTo_27 : decode cX3_placesTo 27 = .ok (.iload_n 3, 1) := by decide +kernel
theorem dX3_placesTo_28 : decode cX3_placesTo 28 = .ok (.invokestatic 38, 3) := by decide +kernel
theorem dX3_placesTo_31 : decode cX3_placesTo 31 = .ok (.istore_n 3, 1) := by decide +kernel
theorem dX3_placesTo_32 : decode cX3_placesTo 32 = .ok (.iinc 4 1, 3) := by decide +kernel
theorem dX3_placesTo_35 : decode cX3_placesTo 35 = .ok (.goto (-28), 3) := by decide +kernel
theorem dX3_placesTo_38 : decode cX3_placesTo 38 = .ok (.iload_n 2, 1) := by decide +kernel
theorem dX3_placesTo_39 : decode cX3_placesTo 39 = .ok (.ireturn, 1) := by decide +kernel
theorem dX3_placeOnWay_0 : decode cX3_placeOnWay 0 = .ok (.iload_n 1, 1) := by decide +kernel
theorem dX3_placeOnWay_1 : decode cX3_placeOnWay 1 = .ok (.istore_n 3, 1) := by decide +kernel
theorem dX3_placeOnWay_2 : decode cX3_placeOnWay 2 = .ok (.aload_n 0, 1) := by decide +kernel
theorem dX3_placeOnWay_3 : decode cX3_placeOnWay 3 = .ok (.iload_n 1, 1) := by decide +kernel
theorem dX3_placeOnWay_4 : decode cX3_placeOnWay 4 = .ok (.invokevirtual 64, 3) := by decide +kernel
theorem dX3_placeOnWay_7 : decode cX3_placeOnWay 7 = .ok (.iconst 1, 1) := by decide +kernel
theorem dX3_placeOnWay_8 : decode cX3_placeOnWay 8 = .ok (.isub, 1) := by decide +kernel
theorem dX3_placeOnWay_9 : decode cX3_placeOnWay 9 = .ok (.istore 4, 2) := by decide +kernel
theorem dX3_placeOnWay_11 : decode cX3_placeOnWay 11 = .ok (.iload 4, 2) := by decide +kernel
theorem dX3_placeOnWay_13 : decode cX3_placeOnWay 13 = .ok (.iload_n 2, 1) := by decide +kernel
theorem dX3_placeOnWay_14 : decode cX3_placeOnWay 14 = .ok (.if_icmp .le 18, 3) := by decide +kernel
theorem dX3_placeOnWay_17 : decode cX3_placeOnWay 17 = .ok (.aload_n 0, 1) := by decide +kernel
theorem dX3_placeOnWay_18 : decode cX3_placeOnWay 18 = .ok (.getfield 18, 3) := by decide +kernel
theorem dX3_placeOnWay_21 : decode cX3_placeOnWay 21 = .ok (.iload_n 3, 1) := by decide +kernel
theorem dX3_placeOnWay_22 : decode cX3_placeOnWay 22 = .ok (.invokestatic 38, 3) := by decide +kernel
theorem dX3_placeOnWay_25 : decode cX3_placeOnWay 25 = .ok (.istore_n 3, 1) := by decide +kernel
theorem dX3_placeOnWay_26 : decode cX3_placeOnWay 26 = .ok (.iinc 4 (-1), 3) := by decide +kernel
theorem dX3_placeOnWay_29 : decode cX3_placeOnWay 29 = .ok (.goto (-18), 3) := by decide +kernel
theorem dX3_placeOnWay_32 : decode cX3_placeOnWay 32 = .ok (.aload_n 0, 1) := by decide +kernel
theorem dX3_placeOnWay_33 : decode cX3_placeOnWay 33 = .ok (.getfield 21, 3) := by decide +kernel
theorem dX3_placeOnWay_36 : decode cX3_placeOnWay 36 = .ok (.iload_n 3, 1) := by decide +kernel
theorem dX3_placeOnWay_37 : decode cX3_placeOnWay 37 = .ok (.invokestatic 38, 3) := by decide +kernel
theorem dX3_placeOnWay_40 : decode cX3_placeOnWay 40 = .ok (.ireturn, 1) := by decide +kernel
end
section
theorem dX4_init_0 : decode cX4_init 0 = .ok (.aload_n 0, 1) := by decide +kernel
theorem dX4_init_1 : decode cX4_init 1 = .ok (.invokespecial 3, 3) := by decide +kernel
theorem dX4_init_4 : decode cX4_init 4 = .ok (.aload_n 0, 1) := by decide +kernel
theorem dX4_init_5 : decode cX4_init 5 = .ok (.bipush 60, 2) := by decide +kernel
theorem dX4_init_7 : decode cX4_init 7 = .ok (.newarray .int, 2) := by decide +kernel
theorem dX4_init_9 : decode cX4_init 9 = .ok (.putfield 9, 3) := by decide +kernel
theorem dX4_init_12 : decode cX4_init 12 = .ok (.aload_n 0, 1) := by decide +kernel
theorem dX4_init_13 : decode cX4_init 13 = .ok (.bipush 60, 2) := by decide +kernel
theorem dX4_init_15 : decode cX4_init 15 = .ok (.newarray .int, 2) := by decide +kernel
theorem dX4_init_17 : decode cX4_init 17 = .ok (.putfield 15, 3) := by decide +kernel
theorem dX4_init_20 : decode cX4_init 20 = .ok (.aload_n 0, 1) := by decide +kernel
theorem dX4_init_21 : decode cX4_init 21 = .ok (.bipush 60, 2) := by decide +kernel
theorem dX4_init_23 : decode cX4_init 23 = .ok (.newarray .int, 2) := by decide +kernel
theorem dX4_init_25 : decode cX4_init 25 = .ok (.putfield 18, 3) := by decide +kernel
theorem dX4_init_28 : decode cX4_init 28 = .ok (.aload_n 0, 1) := by decide +kernel
theorem dX4_init_29 : decode cX4_init 29 = .ok (.iconst (-1), 1) := by decide +kernel
theorem dX4_init_30 : decode cX4_init 30 = .ok (.putfield 21, 3) := by decide +kernel
theorem dX4_init_33 : decode cX4_init 33 = .ok (.return_, 1) := by decide +kernel
theorem dX4_addType_0 : decode cX4_addType 0 = .ok (.aload_n 0, 1) := by decide +kernel
theorem dX4_addType_1 : decode cX4_addType 1 = .ok (.getfield 25, 3) := by decide +kernel
theorem dX4_addType_4 : decode cX4_addType 4 = .ok (.bipush 12, 2) := by decide +kernel
theorem dX4_addType_6 : decode cX4_addType 6 = .ok (.if_icmp .lt 5, 3) := by decide +kernel
theorem dX4_addType_9 : decode cX4_addType 9 = .ok (.iconst (-1), 1) := by decide +kernel
theorem dX4_addType_10 : decode cX4_addType 10 = .ok (.ireturn, 1) := by decide +kernel
theorem dX4_addType_11 : decode cX4_addType 11 = .ok (.aload_n 0, 1) := by decide +kernel
theorem dX4_addType_12 : decode cX4_addType 12 = .ok (.dup, 1) := by decide +kernel
theorem dX4_addType_13 : decode cX4_addType 13 = .ok (.getfield 25, 3) := by decide +kernel
theorem dX4_addType_16 : decode cX4_addType 16 = .ok (.iconst 1, 1) := by decide +kernel
theorem dX4_addType_17 : decode cX4_addType 17 = .ok (.iadd, 1) := by decide +kernel
theorem dX4_addType_18 : decode cX4_addType 18 = .ok (.putfield 25, 3) := by decide +kernel
theorem dX4_addType_21 : decode cX4_addType 21 = .ok (.aload_n 0, 1) := by decide +kernel
theorem dX4_addType_22 : decode cX4_addType 22 = .ok (.getfield 25, 3) := by decide +kernel
theorem dX4_addType_25 : decode cX4_addType 25 = .ok (.iconst 1, 1) := by decide +kernel
theorem dX4_addType_26 : decode cX4_addType 26 = .ok (.isub, 1) := by decide +kernel
theorem dX4_addType_27 : decode cX4_addType 27 = .ok (.ireturn, 1) := by decide +kernel
theorem dX4_addConstructor_0 : decode cX4_addConstructor 0 = .ok (.iload_n 1, 1) := by decide +kernel
theorem dX4_addConstructor_1 : decode cX4_addConstructor 1 = .ok (.ifCond .lt 20, 3) := by decide +kernel
theorem dX4_addConstructor_4 : decode cX4_addConstructor 4 = .ok (.iload_n 1, 1) := by decide +kernel
theorem dX4_addConstructor_5 : decode cX4_addConstructor 5 = .ok (.aload_n 0, 1) := by decide +kernel
theorem dX4_addConstructor_6 : decode cX4_addConstructor 6 = .ok (.getfield 25, 3) := by decide +kernel
theorem dX4_addConstructor_9 : decode cX4_addConstructor 9 = .ok (.if_icmp .ge 12, 3) := by decide +kernel
theorem dX4_addConstructor_12 : decode cX4_addConstructor 12 = .ok (.aload_n 0, 1) := by decide +kernel
theorem dX4_addConstructor_13 : decode cX4_addConstructor 13 = .ok (.getfield 28, 3) := by decide +kernel
theorem dX4_addConstructor_16 : decode cX4_addConstructor 16 = .ok (.bipush 60, 2) := by decide +kernel
theorem dX4_addConstructor_18 : decode cX4_addConstructor 18 = .ok (.if_icmp .lt 5, 3) := by decide +kernel
theorem dX4_addConstructor_21 : decode cX4_addConstructor 21 = .ok (.iconst (-1), 1) := by decide +kernel
theorem dX4_addConstructor_22 : decode cX4_addConstructor 22 = .ok (.ireturn, 1) := by decide +kernel
theorem dX4_addConstructor_23 : decode cX4_addConstructor 23 = .ok (.iload_n 2, 1) := by decide +kernel
theorem dX4_addConstructor_24 : decode cX4_addConstructor 24 = .ok (.ifCond .lt 17, 3) := by decide +kernel
theorem dX4_addConstructor_27 : decode cX4_addConstructor 27 = .ok (.iload_n 2, 1) := by decide +kernel
theorem dX4_addConstructor_28 : decode cX4_addConstructor 28 = .ok (.iconst 4, 1) := by decide +kernel
theorem dX4_addConstructor_29 : decode cX4_addConstructor 29 = .ok (.if_icmp .gt 12, 3) := by decide +kernel
theorem dX4_addConstructor_32 : decode cX4_addConstructor 32 = .ok (.aload_n 0, 1) := by decide +kernel
theorem dX4_addConstructor_33 : decode cX4_addConstructor 33 = .ok (.iload_n 2, 1) := by decide +kernel
theorem dX4_addConstructor_34 : decode cX4_addConstructor 34 = .ok (.iload_n 3, 1) := by decide +kernel
theorem dX4_addConstructor_35 : decode cX4_addConstructor 35 = .ok (.invokevirtual 31, 3) := by decide +kernel
theorem dX4_addConstructor_38 : decode cX4_addConstructor 38 = .ok (.ifCond .ne 5, 3) := by decide +kernel
theorem dX4_addConstructor_41 : decode cX4_addConstructor 41 = .ok (.iconst (-1), 1) := by decide +kernel
theorem dX4_addConstructor_42 : decode cX4_addConstructor 42 = .ok (.ireturn, 1) := by decide +kernel
theorem dX4_addConstructor_43 : decode cX4_addConstructor 43 = .ok (.aload_n 0, 1) := by decide +kernel
theorem dX4_addConstructor_44 : decode cX4_addConstructor 44 = .ok (.getfield 9, 3) := by decide +kernel
theorem dX4_addConstructor_47 : decode cX4_addConstructor 47 = .ok (.aload_n 0, 1) := by decide +kernel
theorem dX4_addConstructor_48 : decode cX4_addConstructor 48 = .ok (.getfield 28, 3) := by decide +kernel
theorem dX4_addConstructor_51 : decode cX4_addConstructor 51 = .ok (.iload_n 1, 1) := by decide +kernel
theorem dX4_addConstructor_52 : decode cX4_addConstructor 52 = .ok (.invokestatic 35, 3) := by decide +kernel
theorem dX4_addConstructor_55 : decode cX4_addConstructor 55 = .ok (.aload_n 0, 1) := by decide +kernel
theorem dX4_addConstructor_56 : decode cX4_addConstructor 56 = .ok (.getfield 15, 3) := by decide +kernel
theorem dX4_addConstructor_59 : decode cX4_addConstructor 59 = .ok (.aload_n 0, 1) := by decide +kernel
theorem dX4_addConstructor_60 : decode cX4_addConstructor 60 = .ok (.getfield 28, 3) := by decide +kernel
theorem dX4_addConstructor_63 : decode cX4_addConstructor 63 = .ok (.iload_n 2, 1) := by decide +kernel
theorem dX4_addConstructor_64 : decode cX4_addConstructor 64 = .ok (.invokestatic 35, 3) := by decide +kernel
theorem dX4_addConstructor_67 : decode cX4_addConstructor 67 = .ok (.aload_n 0, 1) := by decide +kernel
theorem dX4_addConstructor_68 : decode cX4_addConstructor 68 = .ok (.getfield 18, 3) := by decide +kernel
theorem dX4_addConstructor_71 : decode cX4_addConstructor 71 = .ok (.aload_n 0, 1) := by decide +kernel
theorem dX4_addConstructor_72 : decode cX4_addConstructor 72 = .ok (.getfield 28, 3) := by decide +kernel
theorem dX4_addConstructor_75 : decode cX4_addConstructor 75 = .ok (.iload_n 3, 1) := by decide +kernel
theorem dX4_addConstructor_76 : decode cX4_addConstructor 76 = .ok (.invokestatic 35, 3) := by decide +kernel
theorem dX4_addConstructor_79 : decode cX4_addConstructor 79 = .ok (.aload_n 0, 1) := by decide +kernel
theorem dX4_addConstructor_80 : decode cX4_addConstructor 80 = .ok (.dup, 1) := by decide +kernel
theorem dX4_addConstructor_81 : decode cX4_addConstructor 81 = .ok (.getfield 28, 3) := by decide +kernel
theorem dX4_addConstructor_84 : decode cX4_addConstructor 84 = .ok (.iconst 1, 1) := by decide +kernel
theorem dX4_addConstructor_85 : decode cX4_addConstructor 85 = .ok (.iadd, 1) := by decide +kernel
theorem dX4_addConstructor_86 : decode cX4_addConstructor 86 = .ok (.putfield 28, 3) := by decide +kernel
theorem dX4_addConstructor_89 : decode cX4_addConstructor 89 = .ok (.aload_n 0, 1) := by decide +kernel
theorem dX4_addConstructor_90 : decode cX4_addConstructor 90 = .ok (.getfield 28, 3) := by decide +kernel
theorem dX4_addConstructor_93 : decode cX4_addConstructor 93 = .ok (.iconst 1, 1) := by decide +kernel
theorem dX4_addConstructor_94 : decode cX4_addConstructor 94 = .ok (.isub, 1) := by decide +kernel
theorem dX4_addConstructor_95 : decode cX4_addConstructor 95 = .ok (.ireturn, 1) := by decide +kernel
theorem dX4_setFunction_0 : decode cX4_setFunction 0 = .ok (.iload_n 1, 1) := by decide +kernel
theorem dX4_setFunction_1 : decode cX4_setFunction 1 = .ok (.ifCond .lt 18, 3) := by decide +kernel
theorem dX4_setFunction_4 : decode cX4_setFunction 4 = .ok (.iload_n 1, 1) := by decide +kernel
theorem dX4_setFunction_5 : decode cX4_setFunction 5 = .ok (.bipush 6, 2) := by decide +kernel
theorem dX4_setFunction_7 : decode cX4_setFunction 7 = .ok (.if_icmp .gt 12, 3) := by decide +kernel
theorem dX4_setFunction_10 : decode cX4_setFunction 10 = .ok (.aload_n 0, 1) := by decide +kernel
theorem dX4_setFunction_11 : decode cX4_setFunction 11 = .ok (.iload_n 1, 1) := by decide +kernel
theorem dX4_setFunction_12 : decode cX4_setFunction 12 = .ok (.iload_n 2, 1) := by decide +kernel
theorem dX4_setFunction_13 : decode cX4_setFunction 13 = .ok (.invokevirtual 31, 3) := by decide +kernel
theorem dX4_setFunction_16 : decode cX4_setFunction 16 = .ok (.ifCond .ne 5, 3) := by decide +kernel
theorem dX4_setFunction_19 : decode cX4_setFunction 19 = .ok (.iconst 0, 1) := by decide +kernel
theorem dX4_setFunction_20 : decode cX4_setFunction 20 = .ok (.ireturn, 1) := by decide +kernel
theorem dX4_setFunction_21 : decode cX4_setFunction 21 = .ok (.aload_n 0, 1) := by decide +kernel
theorem dX4_setFunction_22 : decode cX4_setFunction 22 = .ok (.iload_n 1, 1) := by decide +kernel
theorem dX4_setFunction_23 : decode cX4_setFunction 23 = .ok (.putfield 21, 3) := by decide +kernel
theorem dX4_setFunction_26 : decode cX4_setFunction 26 = .ok (.aload_n 0, 1) := by decide +kernel
theorem dX4_setFunction_27 : decode cX4_setFunction 27 = .ok (.iload_n 2, 1) := by decide +kernel
theorem dX4_setFunction_28 : decode cX4_setFunction 28 = .ok (.putfield 39, 3) := by decide +kernel
theorem dX4_setFunction_31 : decode cX4_setFunction 31 = .ok (.iconst 1, 1) := by decide +kernel
theorem dX4_setFunction_32 : decode cX4_setFunction 32 = .ok (.ireturn, 1) := by decide +kernel
theorem dX4_hasFunction_0 : decode cX4_hasFunction 0 = .ok (.aload_n 0, 1) := by decide +kernel
theorem dX4_hasFunction_1 : decode cX4_hasFunction 1 = .ok (.getfield 21, 3) := by decide +kernel
theorem dX4_hasFunction_4 : decode cX4_hasFunction 4 = .ok (.iconst (-1), 1) := by decide +kernel
theorem dX4_hasFunction_5 : decode cX4_hasFunction 5 = .ok (.if_icmp .eq 7, 3) := by decide +kernel
theorem dX4_hasFunction_8 : decode cX4_hasFunction 8 = .ok (.iconst 1, 1) := by decide +kernel
theorem dX4_hasFunction_9 : decode cX4_hasFunction 9 = .ok (.goto 4, 3) := by decide +kernel
theorem dX4_hasFunction_12 : decode cX4_hasFunction 12 = .ok (.iconst 0, 1) := by decide +kernel
theorem dX4_hasFunction_13 : decode cX4_hasFunction 13 = .ok (.ireturn, 1) := by decide +kernel
theorem dX4_areTypes_0 : decode cX4_areTypes 0 = .ok (.iconst 0, 1) := by decide +kernel
theorem dX4_areTypes_1 : decode cX4_areTypes 1 = .ok (.istore_n 3, 1) := by decide +kernel
theorem dX4_areTypes_2 : decode cX4_areTypes 2 = .ok (.iload_n 3, 1) := by decide +kernel
theorem dX4_areTypes_3 : decode cX4_areTypes 3 = .ok (.iload_n 1, 1) := by decide +kernel
theorem dX4_areTypes_4 : decode cX4_areTypes 4 = .ok (.if_icmp .ge 23, 3) := by decide +kernel
theorem dX4_areTypes_7 : decode cX4_areTypes 7 = .ok (.iload_n 2, 1) := by decide +kernel
theorem dX4_areTypes_8 : decode cX4_areTypes 8 = .ok (.iload_n 3, 1) := by decide +kernel
theorem dX4_areTypes_9 : decode cX4_areTypes 9 = .ok (.invokestatic 42, 3) := by decide +kernel
theorem dX4_areTypes_12 : decode cX4_areTypes 12 = .ok (.aload_n 0, 1) := by decide +kernel
theorem dX4_areTypes_13 : decode cX4_areTypes 13 = .ok (.getfield 25, 3) := by decide +kernel
theorem dX4_areTypes_16 : decode cX4_areTypes 16 = .ok (.if_icmp .lt 5, 3) := by decide +kernel
theorem dX4_areTypes_19 : decode cX4_areTypes 19 = .ok (.iconst 0, 1) := by decide +kernel
theorem dX4_areTypes_20 : decode cX4_areTypes 20 = .ok (.ireturn, 1) := by decide +kernel
theorem dX4_areTypes_21 : decode cX4_areTypes 21 = .ok (.iinc 3 1, 3) := by decide +kernel
theorem dX4_areTypes_24 : decode cX4_areTypes 24 = .ok (.goto (-22), 3) := by decide +kernel
theorem dX4_areTypes_27 : decode cX4_areTypes 27 = .ok (.iconst 1, 1) := by decide +kernel
theorem dX4_areTypes_28 : decode cX4_areTypes 28 = .ok (.ireturn, 1) := by decide +kernel
theorem dX4_typeOf_0 : decode cX4_typeOf 0 = .ok (.iload_n 1, 1) := by decide +kernel
theorem dX4_typeOf_1 : decode cX4_typeOf 1 = .ok (.aload_n 0, 1) := by decide +kernel
theorem dX4_typeOf_2 : decode cX4_typeOf 2 = .ok (.getfield 28, 3) := by decide +kernel
theorem dX4_typeOf_5 : decode cX4_typeOf 5 = .ok (.if_icmp .ge 14, 3) := by decide +kernel
theorem dX4_typeOf_8 : decode cX4_typeOf 8 = .ok (.aload_n 0, 1) := by decide +kernel
theorem dX4_typeOf_9 : decode cX4_typeOf 9 = .ok (.getfield 9, 3) := by decide +kernel
theorem dX4_typeOf_12 : decode cX4_typeOf 12 = .ok (.iload_n 1, 1) := by decide +kernel
theorem dX4_typeOf_13 : decode cX4_typeOf 13 = .ok (.invokestatic 46, 3) := by decide +kernel
theorem dX4_typeOf_16 : decode cX4_typeOf 16 = .ok (.goto 4, 3) := by decide +kernel
theorem dX4_typeOf_19 : decode cX4_typeOf 19 = .ok (.iconst (-1), 1) := by decide +kernel
theorem dX4_typeOf_20 : decode cX4_typeOf 20 = .ok (.ireturn, 1) := by decide +kernel
theorem dX4_parts_0 : decode cX4_parts 0 = .ok (.iload_n 1, 1) := by decide +kernel
theorem dX4_parts_1 : decode cX4_parts 1 = .ok (.iconst (-1), 1) := by decide +kernel
theorem dX4_parts_2 : decode cX4_parts 2 = .ok (.if_icmp .ne 10, 3) := by decide +kernel
theorem dX4_parts_5 : decode cX4_parts 5 = .ok (.aload_n 0, 1) := by decide +kernel
theorem dX4_parts_6 : decode cX4_parts 6 = .ok (.getfield 21, 3) := by decide +kernel
theorem dX4_parts_9 : decode cX4_parts 9 = .ok (.goto 11, 3) := by decide +kernel
theorem dX4_parts_12 : decode cX4_parts 12 = .ok (.aload_n 0, 1) := by decide +kernel
theorem dX4_parts_13 : decode cX4_parts 13 = .ok (.getfield 15, 3) := by decide +kernel
theorem dX4_parts_16 : decode cX4_parts 16 = .ok (.iload_n 1, 1) := by decide +kernel
theorem dX4_parts_17 : decode cX4_parts 17 = .ok (.invokestatic 46, 3) := by decide +kernel
theorem dX4_parts_20 : decode cX4_parts 20 = .ok (.ireturn, 1) := by decide +kernel
theorem dX4_wanted_0 : decode cX4_wanted 0 = .ok (.iload_n 1, 1) := by decide +kernel
theorem dX4_wanted_1 : decode cX4_wanted 1 = .ok (.iconst (-1), 1) := by decide +kernel
theorem dX4_wanted_2 : decode cX4_wanted 2 = .ok (.if_icmp .ne 10, 3) := by decide +kernel
theorem dX4_wanted_5 : decode cX4_wanted 5 = .ok (.aload_n 0, 1) := by decide +kernel
theorem dX4_wanted_6 : decode cX4_wanted 6 = .ok (.getfield 39, 3) := by decide +kernel
theorem dX4_wanted_9 : decode cX4_wanted 9 = .ok (.goto 11, 3) := by decide +kernel
theorem dX4_wanted_12 : decode cX4_wanted 12 = .ok (.aload_n 0, 1) := by decide +kernel
theorem dX4_wanted_13 : decode cX4_wanted 13 = .ok (.getfield 18, 3) := by decide +kernel
theorem dX4_wanted_16 : decode cX4_wanted 16 = .ok (.iload_n 1, 1) := by decide +kernel
theorem dX4_wanted_17 : decode cX4_wanted 17 = .ok (.invokestatic 46, 3) := by decide +kernel
theorem dX4_wanted_20 : decode cX4_wanted 20 = .ok (.iload_n 2, 1) := by decide +kernel
theorem dX4_wanted_21 : decode cX4_wanted 21 = .ok (.invokestatic 42, 3) := by decide +kernel
theorem dX4_wanted_24 : decode cX4_wanted 24 = .ok (.ireturn, 1) := by decide +kernel
theorem dX4_constructorsOf_0 : decode cX4_constructorsOf 0 = .ok (.iconst 0, 1) := by decide +kernel
theorem dX4_constructorsOf_1 : decode cX4_constructorsOf 1 = .ok (.istore_n 2, 1) := by decide +kernel
theorem dX4_constructorsOf_2 : decode cX4_constructorsOf 2 = .ok (.iconst 0, 1) := by decide +kernel
theorem dX4_constructorsOf_3 : decode cX4_constructorsOf 3 = .ok (.istore_n 3, 1) := by decide +kernel
theorem dX4_constructorsOf_4 : decode cX4_constructorsOf 4 = .ok (.iload_n 3, 1) := by decide +kernel
theorem dX4_constructorsOf_5 : decode cX4_constructorsOf 5 = .ok (.aload_n 0, 1) := by decide +kernel
theorem dX4_constructorsOf_6 : decode cX4_constructorsOf 6 = .ok (.getfield 28, 3) := by decide +kernel
theorem dX4_constructorsOf_9 : decode cX4_constructorsOf 9 = .ok (.if_icmp .ge 24, 3) := by decide +kernel
theorem dX4_constructorsOf_12 : decode cX4_constructorsOf 12 = .ok (.aload_n 0, 1) := by decide +kernel
theorem dX4_constructorsOf_13 : decode cX4_constructorsOf 13 = .ok (.getfield 9, 3) := by decide +kernel
theorem dX4_constructorsOf_16 : decode cX4_constructorsOf 16 = .ok (.iload_n 3, 1) := by decide +kernel
theorem dX4_constructorsOf_17 : decode cX4_constructorsOf 17 = .ok (.invokestatic 46, 3) := by decide +kernel
theorem dX4_constructorsOf_20 : decode cX4_constructorsOf 20 = .ok (.iload_n 1, 1) := by decide +kernel
theorem dX4_constructorsOf_21 : decode cX4_constructorsOf 21 = .ok (.if_icmp .ne 6, 3) := by decide +kernel
theorem dX4_constructorsOf_24 : decode cX4_constructorsOf 24 = .ok (.iinc 2 1, 3) := by decide +kernel
theorem dX4_constructorsOf_27 : decode cX4_constructorsOf 27 = .ok (.iinc 3 1, 3) := by decide +kernel
theorem dX4_constructorsOf_30 : decode cX4_constructorsOf 30 = .ok (.goto (-26), 3) := by decide +kernel
theorem dX4_constructorsOf_33 : decode cX4_constructorsOf 33 = .ok (.iload_n 2, 1) := by decide +kernel
theorem dX4_constructorsOf_34 : decode cX4_constructorsOf 34 = .ok (.ireturn, 1) := by decide +kernel
theorem dX4_unpack_0 : decode cX4_unpack 0 = .ok (.iload_n 0, 1) := by decide +kernel
theorem dX4_unpack_1 : decode cX4_unpack 1 = .ok (.iconst 4, 1) := by decide +kernel
theorem dX4_unpack_2 : decode cX4_unpack 2 = .ok (.iload_n 1, 1) := by decide +kernel
theorem dX4_unpack_3 : decode cX4_unpack 3 = .ok (.imul, 1) := by decide +kernel
theorem dX4_unpack_4 : decode cX4_unpack 4 = .ok (.ishr, 1) := by decide +kernel
theorem dX4_unpack_5 : decode cX4_unpack 5 = .ok (.bipush 15, 2) := by decide +kernel
theorem dX4_unpack_7 : decode cX4_unpack 7 = .ok (.iand, 1) := by decide +kernel
theorem dX4_unpack_8 : decode cX4_unpack 8 = .ok (.ireturn, 1) := by decide +kernel
end
section
theorem dX5_init_0 : decode cX5_init 0 = .ok (.aload_n 0, 1) := by decide +kernel
theorem dX5_init_1 : decode cX5_init 1 = .ok (.invokespecial 3, 3) := by decide +kernel
theorem dX5_init_4 : decode cX5_init 4 = .ok (.aload_n 0, 1) := by decide +kernel
theorem dX5_init_5 : decode cX5_init 5 = .ok (.sipush 808, 3) := by decide +kernel
theorem dX5_init_8 : decode cX5_init 8 = .ok (.newarray .int, 2) := by decide +kernel
theorem dX5_init_10 : decode cX5_init 10 = .ok (.putfield 9, 3) := by decide +kernel
theorem dX5_init_13 : decode cX5_init 13 = .ok (.aload_n 0, 1) := by decide +kernel
theorem dX5_init_14 : decode cX5_init 14 = .ok (.sipush 808, 3) := by decide +kernel
theorem dX5_init_17 : decode cX5_init 17 = .ok (.newarray .int, 2) := by decide +kernel
theorem dX5_init_19 : decode cX5_init 19 = .ok (.putfield 15, 3) := by decide +kernel
theorem dX5_init_22 : decode cX5_init 22 = .ok (.aload_n 0, 1) := by decide +kernel
theorem dX5_init_23 : decode cX5_init 23 = .ok (.sipush 808, 3) := by decide +kernel
theorem dX5_init_26 : decode cX5_init 26 = .ok (.newarray .int, 2) := by decide +kernel
theorem dX5_init_28 : decode cX5_init 28 = .ok (.putfield 18, 3) := by decide +kernel
theorem dX5_init_31 : decode cX5_init 31 = .ok (.aload_n 0, 1) := by decide +kernel
theorem dX5_init_32 : decode cX5_init 32 = .ok (.sipush 808, 3) := by decide +kernel
theorem dX5_init_35 : decode cX5_init 35 = .ok (.newarray .int, 2) := by decide +kernel
theorem dX5_init_37 : decode cX5_init 37 = .ok (.putfield 21, 3) := by decide +kernel
theorem dX5_init_40 : decode cX5_init 40 = .ok (.aload_n 0, 1) := by decide +kernel
theorem dX5_init_41 : decode cX5_init 41 = .ok (.sipush 808, 3) := by decide +kernel
theorem dX5_init_44 : decode cX5_init 44 = .ok (.newarray .int, 2) := by decide +kernel
theorem dX5_init_46 : decode cX5_init 46 = .ok (.putfield 24, 3) := by decide +kernel
theorem dX5_init_49 : decode cX5_init 49 = .ok (.aload_n 0, 1) := by decide +kernel
theorem dX5_init_50 : decode cX5_init 50 = .ok (.sipush 160, 3) := by decide +kernel
theorem dX5_init_53 : decode cX5_init 53 = .ok (.newarray .int, 2) := by decide +kernel
theorem dX5_init_55 : decode cX5_init 55 = .ok (.putfield 27, 3) := by decide +kernel
theorem dX5_init_58 : decode cX5_init 58 = .ok (.aload_n 0, 1) := by decide +kernel
theorem dX5_init_59 : decode cX5_init 59 = .ok (.sipush 400, 3) := by decide +kernel
theorem dX5_init_62 : decode cX5_init 62 = .ok (.newarray .int, 2) := by decide +kernel
theorem dX5_init_64 : decode cX5_init 64 = .ok (.putfield 30, 3) := by decide +kernel
theorem dX5_init_67 : decode cX5_init 67 = .ok (.aload_n 0, 1) := by decide +kernel
theorem dX5_init_68 : decode cX5_init 68 = .ok (.aload_n 1, 1) := by decide +kernel
theorem dX5_init_69 : decode cX5_init 69 = .ok (.putfield 33, 3) := by decide +kernel
theorem dX5_init_72 : decode cX5_init 72 = .ok (.return_, 1) := by decide +kernel
theorem dX5_load_0 : decode cX5_load 0 = .ok (.iconst 0, 1) := by decide +kernel
theorem dX5_load_1 : decode cX5_load 1 = .ok (.istore_n 3, 1) := by decide +kernel
theorem dX5_load_2 : decode cX5_load 2 = .ok (.iload_n 3, 1) := by decide +kernel
theorem dX5_load_3 : decode cX5_load 3 = .ok (.bipush 8, 2) := by decide +kernel
theorem dX5_load_5 : decode cX5_load 5 = .ok (.if_icmp .ge 28, 3) := by decide +kernel
theorem dX5_load_8 : decode cX5_load 8 = .ok (.aload_n 0, 1) := by decide +kernel
theorem dX5_load_9 : decode cX5_load 9 = .ok (.getfield 9, 3) := by decide +kernel
theorem dX5_load_12 : decode cX5_load 12 = .ok (.iload_n 3, 1) := by decide +kernel
theorem dX5_load_13 : decode cX5_load 13 = .ok (.bipush (-9), 2) := by decide +kernel
theorem dX5_load_15 : decode cX5_load 15 = .ok (.invokestatic 37, 3) := by decide +kernel
theorem dX5_load_18 : decode cX5_load 18 = .ok (.aload_n 0, 1) := by decide +kernel
theorem dX5_load_19 : decode cX5_load 19 = .ok (.getfield 21, 3) := by decide +kernel
theorem dX5_load_22 : decode cX5_load 22 = .ok (.iload_n 3, 1) := by decide +kernel
theorem dX5_load_23 : decode cX5_load 23 = .ok (.iconst 0, 1) := by decide +kernel
theorem dX5_load_24 : decode cX5_load 24 = .ok (.invokestatic 37, 3) := by decide +kernel
theorem dX5_load_27 : decode cX5_load 27 = .ok (.iinc 3 1, 3) := by decide +kernel
theorem dX5_load_30 : decode cX5_load 30 = .ok (.goto (-28), 3) := by decide +kernel
theorem dX5_load_33 : decode cX5_load 33 = .ok (.iconst 0, 1) := by decide +kernel
theorem dX5_load_34 : decode cX5_load 34 = .ok (.istore_n 3, 1) := by decide +kernel
theorem dX5_load_35 : decode cX5_load 35 = .ok (.iload_n 3, 1) := by decide +kernel
theorem dX5_load_36 : decode cX5_load 36 = .ok (.iload_n 2, 1) := by decide +kernel
theorem dX5_load_37 : decode cX5_load 37 = .ok (.if_icmp .ge 98, 3) := by decide +kernel
theorem dX5_load_40 : decode cX5_load 40 = .ok (.aload_n 1, 1) := by decide +kernel
theorem dX5_load_41 : decode cX5_load 41 = .ok (.getfield 41, 3) := by decide +kernel
theorem dX5_load_44 : decode cX5_load 44 = .ok (.iload_n 3, 1) := by decide +kernel
theorem dX5_load_45 : decode cX5_load 45 = .ok (.invokestatic 46, 3) := by decide +kernel
theorem dX5_load_48 : decode cX5_load 48 = .ok (.istore 4, 2) := by decide +kernel
theorem dX5_load_50 : decode cX5_load 50 = .ok (.bipush 8, 2) := by decide +kernel
theorem dX5_load_52 : decode cX5_load 52 = .ok (.iload_n 3, 1) := by decide +kernel
theorem dX5_load_53 : decode cX5_load 53 = .ok (.iadd, 1) := by decide +kernel
theorem dX5_load_54 : decode cX5_load 54 = .ok (.istore 5, 2) := by decide +kernel
theorem dX5_load_56 : decode cX5_load 56 = .ok (.aload_n 0, 1) := by decide +kernel
theorem dX5_load_57 : decode cX5_load 57 = .ok (.getfield 9, 3) := by decide +kernel
theorem dX5_load_60 : decode cX5_load 60 = .ok (.iload 5, 2) := by decide +kernel
theorem dX5_load_62 : decode cX5_load 62 = .ok (.iload 4, 2) := by decide +kernel
theorem dX5_load_64 : decode cX5_load 64 = .ok (.invokestatic 37, 3) := by decide +kernel
theorem dX5_load_67 : decode cX5_load 67 = .ok (.aload_n 0, 1) := by decide +kernel
theorem dX5_load_68 : decode cX5_load 68 = .ok (.getfield 15, 3) := by decide +kernel
theorem dX5_load_71 : decode cX5_load 71 = .ok (.iload 5, 2) := by decide +kernel
theorem dX5_load_73 : decode cX5_load 73 = .ok (.iload 5, 2) := by decide +kernel
theorem dX5_load_75 : decode cX5_load 75 = .ok (.iconst 1, 1) := by decide +kernel
theorem dX5_load_76 : decode cX5_load 76 = .ok (.iadd, 1) := by decide +kernel
theorem dX5_load_77 : decode cX5_load 77 = .ok (.invokestatic 37, 3) := by decide +kernel
theorem dX5_load_80 : decode cX5_load 80 = .ok (.aload_n 0, 1) := by decide +kernel
theorem dX5_load_81 : decode cX5_load 81 = .ok (.getfield 18, 3) := by decide +kernel
theorem dX5_load_84 : decode cX5_load 84 = .ok (.iload 5, 2) := by decide +kernel
theorem dX5_load_86 : decode cX5_load 86 = .ok (.bipush 8, 2) := by decide +kernel
theorem dX5_load_88 : decode cX5_load 88 = .ok (.aload_n 1, 1) := by decide +kernel
theorem dX5_load_89 : decode cX5_load 89 = .ok (.getfield 50, 3) := by decide +kernel
theorem dX5_load_92 : decode cX5_load 92 = .ok (.iload_n 3, 1) := by decide +kernel
theorem dX5_load_93 : decode cX5_load 93 = .ok (.invokestatic 46, 3) := by decide +kernel
theorem dX5_load_96 : decode cX5_load 96 = .ok (.iadd, 1) := by decide +kernel
theorem dX5_load_97 : decode cX5_load 97 = .ok (.invokestatic 37, 3) := by decide +kernel
theorem dX5_load_100 : decode cX5_load 100 = .ok (.iload 4, 2) := by decide +kernel
theorem dX5_load_102 : decode cX5_load 102 = .ok (.ifCond .ge 27, 3) := by decide +kernel
theorem dX5_load_105 : decode cX5_load 105 = .ok (.aload_n 0, 1) := by decide +kernel
theorem dX5_load_106 : decode cX5_load 106 = .ok (.getfield 21, 3) := by decide +kernel
theorem dX5_load_109 : decode cX5_load 109 = .ok (.iconst (-1), 1) := by decide +kernel
theorem dX5_load_110 : decode cX5_load 110 = .ok (.iload 4, 2) := by decide +kernel
theorem dX5_load_112 : decode cX5_load 112 = .ok (.isub, 1) := by decide +kernel
theorem dX5_load_113 : decode cX5_load 113 = .ok (.aload_n 0, 1) := by decide +kernel
theorem dX5_load_114 : decode cX5_load 114 = .ok (.getfield 21, 3) := by decide +kernel
theorem dX5_load_117 : decode cX5_load 117 = .ok (.iconst (-1), 1) := by decide +kernel
theorem dX5_load_118 : decode cX5_load 118 = .ok (.iload 4, 2) := by decide +kernel
theorem dX5_load_120 : decode cX5_load 120 = .ok (.isub, 1) := by decide +kernel
theorem dX5_load_121 : decode cX5_load 121 = .ok (.invokestatic 46, 3) := by decide +kernel
theorem dX5_load_124 : decode cX5_load 124 = .ok (.iconst 1, 1) := by decide +kernel
theorem dX5_load_125 : decode cX5_load 125 = .ok (.iadd, 1) := by decide +kernel
theorem dX5_load_126 : decode cX5_load 126 = .ok (.invokestatic 37, 3) := by decide +kernel
theorem dX5_load_129 : decode cX5_load 129 = .ok (.iinc 3 1, 3) := by decide +kernel
theorem dX5_load_132 : decode cX5_load 132 = .ok (.goto (-97), 3) := by decide +kernel
theorem dX5_load_135 : decode cX5_load 135 = .ok (.aload_n 0, 1) := by decide +kernel
theorem dX5_load_136 : decode cX5_load 136 = .ok (.bipush 8, 2) := by decide +kernel
theorem dX5_load_138 : decode cX5_load 138 = .ok (.iload_n 2, 1) := by decide +kernel
theorem dX5_load_139 : decode cX5_load 139 = .ok (.iadd, 1) := by decide +kernel
theorem dX5_load_140 : decode cX5_load 140 = .ok (.putfield 51, 3) := by decide +kernel
theorem dX5_load_143 : decode cX5_load 143 = .ok (.aload_n 0, 1) := by decide +kernel
theorem dX5_load_144 : decode cX5_load 144 = .ok (.iconst 0, 1) := by decide +kernel
theorem dX5_load_145 : decode cX5_load 145 = .ok (.putfield 55, 3) := by decide +kernel
theorem dX5_load_148 : decode cX5_load 148 = .ok (.aload_n 0, 1) := by decide +kernel
theorem dX5_load_149 : decode cX5_load 149 = .ok (.iload_n 2, 1) := by decide +kernel
theorem dX5_load_150 : decode cX5_load 150 = .ok (.putfield 58, 3) := by decide +kernel
theorem dX5_load_153 : decode cX5_load 153 = .ok (.return_, 1) := by decide +kernel
theorem dX5_meant_0 : decode cX5_meant 0 = .ok (.aload_n 0, 1) := by decide +kernel
theorem dX5_meant_1 : decode cX5_meant 1 = .ok (.getfield 9, 3) := by decide +kernel
theorem dX5_meant_4 : decode cX5_meant 4 = .ok (.iload_n 1, 1) := by decide +kernel
theorem dX5_meant_5 : decode cX5_meant 5 = .ok (.invokestatic 46, 3) := by decide +kernel
theorem dX5_meant_8 : decode cX5_meant 8 = .ok (.istore_n 2, 1) := by decide +kernel
theorem dX5_meant_9 : decode cX5_meant 9 = .ok (.iload_n 2, 1) := by decide +kernel
theorem dX5_meant_10 : decode cX5_meant 10 = .ok (.ifCond .ge 15, 3) := by decide +kernel
theorem dX5_meant_13 : decode cX5_meant 13 = .ok (.iload_n 2, 1) := by decide +kernel
theorem dX5_meant_14 : decode cX5_meant 14 = .ok (.bipush (-9), 2) := by decide +kernel
theorem dX5_meant_16 : decode cX5_meant 16 = .ok (.if_icmp .le 9, 3) := by decide +kernel
theorem dX5_meant_19 : decode cX5_meant 19 = .ok (.iconst (-1), 1) := by decide +kernel
theorem dX5_meant_20 : decode cX5_meant 20 = .ok (.iload_n 2, 1) := by decide +kernel
theorem dX5_meant_21 : decode cX5_meant 21 = .ok (.isub, 1) := by decide +kernel
theorem dX5_meant_22 : decode cX5_meant 22 = .ok (.goto 4, 3) := by decide +kernel
theorem dX5_meant_25 : decode cX5_meant 25 = .ok (.iload_n 1, 1) := by decide +kernel
theorem dX5_meant_26 : decode cX5_meant 26 = .ok (.ireturn, 1) := by decide +kernel
theorem dX5_isFree_0 : decode cX5_isFree 0 = .ok (.aload_n 0, 1) := by decide +kernel
theorem dX5_isFree_1 : decode cX5_isFree 1 = .ok (.getfield 9, 3) := by decide +kernel
theorem dX5_isFree_4 : decode cX5_isFree 4 = .ok (.iload_n 1, 1) := by decide +kernel
theorem dX5_isFree_5 : decode cX5_isFree 5 = .ok (.invokestatic 46, 3) := by decide +kernel
theorem dX5_isFree_8 : decode cX5_isFree 8 = .ok (.bipush (-9), 2) := by decide +kernel
theorem dX5_isFree_10 : decode cX5_isFree 10 = .ok (.if_icmp .ne 7, 3) := by decide +kernel
theorem dX5_isFree_13 : decode cX5_isFree 13 = .ok (.iconst 1, 1) := by decide +kernel
theorem dX5_isFree_14 : decode cX5_isFree 14 = .ok (.goto 4, 3) := by decide +kernel
theorem dX5_isFree_17 : decode cX5_isFree 17 = .ok (.iconst 0, 1) := by decide +kernel
theorem dX5_isFree_18 : decode cX5_isFree 18 = .ok (.ireturn, 1) := by decide +kernel
theorem dX5_part_0 : decode cX5_part 0 = .ok (.iload_n 1, 1) := by decide +kernel
theorem dX5_part_1 : decode cX5_part 1 = .ok (.iconst (-1), 1) := by decide +kernel
theorem dX5_part_2 : decode cX5_part 2 = .ok (.if_icmp .ne 8, 3) := by decide +kernel
theorem dX5_part_5 : decode cX5_part 5 = .ok (.bipush 8, 2) := by decide +kernel
theorem dX5_part_7 : decode cX5_part 7 = .ok (.goto 11, 3) := by decide +kernel
theorem dX5_part_10 : decode cX5_part 10 = .ok (.aload_n 0, 1) := by decide +kernel
theorem dX5_part_11 : decode cX5_part 11 = .ok (.getfield 15, 3) := by decide +kernel
theorem dX5_part_14 : decode cX5_part 14 = .ok (.iload_n 1, 1) := by decide +kernel
theorem dX5_part_15 : decode cX5_part 15 = .ok (.invokestatic 46, 3) := by decide +kernel
theorem dX5_part_18 : decode cX5_part 18 = .ok (.istore_n 3, 1) := by decide +kernel
theorem dX5_part_19 : decode cX5_part 19 = .ok (.iconst 0, 1) := by decide +kernel
theorem dX5_part_20 : decode cX5_part 20 = .ok (.istore 4, 2) := by decide +kernel
theorem dX5_part_22 : decode cX5_part 22 = .ok (.iload 4, 2) := by decide +kernel
theorem dX5_part_24 : decode cX5_part 24 = .ok (.iload_n 2, 1) := by decide +kernel
theorem dX5_part_25 : decode cX5_part 25 = .ok (.if_icmp .ge 18, 3) := by decide +kernel
theorem dX5_part_28 : decode cX5_part 28 = .ok (.aload_n 0, 1) := by decide +kernel
theorem dX5_part_29 : decode cX5_part 29 = .ok (.getfield 18, 3) := by decide +kernel
theorem dX5_part_32 : decode cX5_part 32 = .ok (.iload_n 3, 1) := by decide +kernel
theorem dX5_part_33 : decode cX5_part 33 = .ok (.invokestatic 46, 3) := by decide +kernel
theorem dX5_part_36 : decode cX5_part 36 = .ok (.istore_n 3, 1) := by decide +kernel
theorem dX5_part_37 : decode cX5_part 37 = .ok (.iinc 4 1, 3) := by decide +kernel
theorem dX5_part_40 : decode cX5_part 40 = .ok (.goto (-18), 3) := by decide +kernel
theorem dX5_part_43 : decode cX5_part 43 = .ok (.aload_n 0, 1) := by decide +kernel
theorem dX5_part_44 : decode cX5_part 44 = .ok (.iload_n 3, 1) := by decide +kernel
theorem dX5_part_45 : decode cX5_part 45 = .ok (.invokevirtual 61, 3) := by decide +kernel
theorem dX5_part_48 : decode cX5_part 48 = .ok (.ireturn, 1) := by decide +kernel
theorem dX5_bind_0 : decode cX5_bind 0 = .ok (.aload_n 0, 1) := by decide +kernel
theorem dX5_bind_1 : decode cX5_bind 1 = .ok (.getfield 33, 3) := by decide +kernel
theorem dX5_bind_4 : decode cX5_bind 4 = .ok (.iload_n 2, 1) := by decide +kernel
theorem dX5_bind_5 : decode cX5_bind 5 = .ok (.invokevirtual 65, 3) := by decide +kernel
theorem dX5_bind_8 : decode cX5_bind 8 = .ok (.istore_n 3, 1) := by decide +kernel
theorem dX5_bind_9 : decode cX5_bind 9 = .ok (.aload_n 0, 1) := by decide +kernel
theorem dX5_bind_10 : decode cX5_bind 10 = .ok (.getfield 55, 3) := by decide +kernel
theorem dX5_bind_13 : decode cX5_bind 13 = .ok (.sipush 160, 3) := by decide +kernel
theorem dX5_bind_16 : decode cX5_bind 16 = .ok (.if_icmp .ge 15, 3) := by decide +kernel
theorem dX5_bind_19 : decode cX5_bind 19 = .ok (.aload_n 0, 1) := by decide +kernel
theorem dX5_bind_20 : decode cX5_bind 20 = .ok (.getfield 51, 3) := by decide +kernel
theorem dX5_bind_23 : decode cX5_bind 23 = .ok (.iload_n 3, 1) := by decide +kernel
theorem dX5_bind_24 : decode cX5_bind 24 = .ok (.iadd, 1) := by decide +kernel
theorem dX5_bind_25 : decode cX5_bind 25 = .ok (.sipush 808, 3) := by decide +kernel
theorem dX5_bind_28 : decode cX5_bind 28 = .ok (.if_icmp .le 4, 3) := by decide +kernel
theorem dX5_bind_31 : decode cX5_bind 31 = .ok (.return_, 1) := by decide +kernel
theorem dX5_bind_32 : decode cX5_bind 32 = .ok (.aload_n 0, 1) := by decide +kernel
theorem dX5_bind_33 : decode cX5_bind 33 = .ok (.getfield 27, 3) := by decide +kernel
theorem dX5_bind_36 : decode cX5_bind 36 = .ok (.aload_n 0, 1) := by decide +kernel
theorem dX5_bind_37 : decode cX5_bind 37 = .ok (.getfield 55, 3) := by decide +kernel
theorem dX5_bind_40 : decode cX5_bind 40 = .ok (.iload_n 1, 1) := by decide +kernel
theorem dX5_bind_41 : decode cX5_bind 41 = .ok (.invokestatic 37, 3) := by decide +kernel
theorem dX5_bind_44 : decode cX5_bind 44 = .ok (.aload_n 0, 1) := by decide +kernel
theorem dX5_bind_45 : decode cX5_bind 45 = .ok (.dup, 1) := by decide +kernel
theorem dX5_bind_46 : decode cX5_bind 46 = .ok (.getfield 55, 3) := by decide +kernel
theorem dX5_bind_49 : decode cX5_bind 49 = .ok (.iconst 1, 1) := by decide +kernel
theorem dX5_bind_50 : decode cX5_bind 50 = .ok (.iadd, 1) := by decide +kernel
theorem dX5_bind_51 : decode cX5_bind 51 = .ok (.putfield 55, 3) := by decide +kernel
theorem dX5_bind_54 : decode cX5_bind 54 = .ok (.aload_n 0, 1) := by decide +kernel
theorem dX5_bind_55 : decode cX5_bind 55 = .ok (.getfield 9, 3) := by decide +kernel
theorem dX5_bind_58 : decode cX5_bind 58 = .ok (.iload_n 1, 1) := by decide +kernel
theorem dX5_bind_59 : decode cX5_bind 59 = .ok (.iload_n 2, 1) := by decide +kernel
theorem dX5_bind_60 : decode cX5_bind 60 = .ok (.invokestatic 37, 3) := by decide +kernel
theorem dX5_bind_63 : decode cX5_bind 63 = .ok (.aload_n 0, 1) := by decide +kernel
theorem dX5_bind_64 : decode cX5_bind 64 = .ok (.getfield 15, 3) := by decide +kernel
theorem dX5_bind_67 : decode cX5_bind 67 = .ok (.iload_n 1, 1) := by decide +kernel
theorem dX5_bind_68 : decode cX5_bind 68 = .ok (.aload_n 0, 1) := by decide +kernel
theorem dX5_bind_69 : decode cX5_bind 69 = .ok (.getfield 51, 3) := by decide +kernel
theorem dX5_bind_72 : decode cX5_bind 72 = .ok (.invokestatic 37, 3) := by decide +kernel
theorem dX5_bind_75 : decode cX5_bind 75 = .ok (.iconst 0, 1) := by decide +kernel
theorem dX5_bind_76 : decode cX5_bind 76 = .ok (.istore 4, 2) := by decide +kernel
theorem dX5_bind_78 : decode cX5_bind 78 = .ok (.iload 4, 2) := by decide +kernel
theorem dX5_bind_80 : decode cX5_bind 80 = .ok (.iload_n 3, 1) := by decide +kernel
theorem dX5_bind_81 : decode cX5_bind 81 = .ok (.if_icmp .ge 68, 3) := by decide +kernel
theorem dX5_bind_84 : decode cX5_bind 84 = .ok (.aload_n 0, 1) := by decide +kernel
theorem dX5_bind_85 : decode cX5_bind 85 = .ok (.getfield 9, 3) := by decide +kernel
theorem dX5_bind_88 : decode cX5_bind 88 = .ok (.aload_n 0, 1) := by decide +kernel
theorem dX5_bind_89 : decode cX5_bind 89 = .ok (.getfield 51, 3) := by decide +kernel
theorem dX5_bind_92 : decode cX5_bind 92 = .ok (.bipush (-9), 2) := by decide +kernel
theorem dX5_bind_94 : decode cX5_bind 94 = .ok (.invokestatic 37, 3) := by decide +kernel
theorem dX5_bind_97 : decode cX5_bind 97 = .ok (.aload_n 0, 1) := by decide +kernel
theorem dX5_bind_98 : decode cX5_bind 98 = .ok (.getfield 18, 3) := by decide +kernel
theorem dX5_bind_101 : decode cX5_bind 101 = .ok (.aload_n 0, 1) := by decide +kernel
theorem dX5_bind_102 : decode cX5_bind 102 = .ok (.getfield 51, 3) := by decide +kernel
theorem dX5_bind_105 : decode cX5_bind 105 = .ok (.aload_n 0, 1) := by decide +kernel
theorem dX5_bind_106 : decode cX5_bind 106 = .ok (.getfield 51, 3) := by decide +kernel
theorem dX5_bind_109 : decode cX5_bind 109 = .ok (.iconst 1, 1) := by decide +kernel
theorem dX5_bind_110 : decode cX5_bind 110 = .ok (.iadd, 1) := by decide +kernel
theorem dX5_bind_111 : decode cX5_bind 111 = .ok (.invokestatic 37, 3) := by decide +kernel
theorem dX5_bind_114 : decode cX5_bind 114 = .ok (.aload_n 0, 1) := by decide +kernel
theorem dX5_bind_115 : decode cX5_bind 115 = .ok (.getfield 21, 3) := by decide +kernel
theorem dX5_bind_118 : decode cX5_bind 118 = .ok (.aload_n 0, 1) := by decide +kernel
theorem dX5_bind_119 : decode cX5_bind 119 = .ok (.getfield 51, 3) := by decide +kernel
theorem dX5_bind_122 : decode cX5_bind 122 = .ok (.aload_n 0, 1) := by decide +kernel
theorem dX5_bind_123 : decode cX5_bind 123 = .ok (.getfield 21, 3) := by decide +kernel
theorem dX5_bind_126 : decode cX5_bind 126 = .ok (.iload_n 1, 1) := by decide +kernel
theorem dX5_bind_127 : decode cX5_bind 127 = .ok (.invokestatic 46, 3) := by decide +kernel
theorem dX5_bind_130 : decode cX5_bind 130 = .ok (.invokestatic 37, 3) := by decide +kernel
theorem dX5_bind_133 : decode cX5_bind 133 = .ok (.aload_n 0, 1) := by decide +kernel
theorem dX5_bind_134 : decode cX5_bind 134 = .ok (.dup, 1) := by decide +kernel
theorem dX5_bind_135 : decode cX5_bind 135 = .ok (.getfield 51, 3) := by decide +kernel
theorem dX5_bind_138 : decode cX5_bind 138 = .ok (.iconst 1, 1) := by decide +kernel
theorem dX5_bind_139 : decode cX5_bind 139 = .ok (.iadd, 1) := by decide +kernel
theorem dX5_bind_140 : decode cX5_bind 140 = .ok (.putfield 51, 3) := by decide +kernel
theorem dX5_bind_143 : decode cX5_bind 143 = .ok (.iinc 4 1, 3) := by decide +kernel
theorem dX5_bind_146 : decode cX5_bind 146 = .ok (.goto (-68), 3) := by decide +kernel
theorem dX5_bind_149 : decode cX5_bind 149 = .ok (.aload_n 0, 1) := by decide +kernel
theorem dX5_bind_150 : decode cX5_bind 150 = .ok (.dup, 1) := by decide +kernel
theorem dX5_bind_151 : decode cX5_bind 151 = .ok (.getfield 58, 3) := by decide +kernel
theorem dX5_bind_154 : decode cX5_bind 154 = .ok (.iload_n 3, 1) := by decide +kernel
theorem dX5_bind_155 : decode cX5_bind 155 = .ok (.aload_n 0, 1) := by decide +kernel
theorem dX5_bind_156 : decode cX5_bind 156 = .ok (.getfield 21, 3) := by decide +kernel
theorem dX5_bind_159 : decode cX5_bind 159 = .ok (.iload_n 1, 1) := by decide +kernel
theorem dX5_bind_160 : decode cX5_bind 160 = .ok (.invokestatic 46, 3) := by decide +kernel
theorem dX5_bind_163 : decode cX5_bind 163 = .ok (.imul, 1) := by decide +kernel
theorem dX5_bind_164 : decode cX5_bind 164 = .ok (.iadd, 1) := by decide +kernel
theorem dX5_bind_165 : decode cX5_bind 165 = .ok (.putfield 58, 3) := by decide +kernel
theorem dX5_bind_168 : decode cX5_bind 168 = .ok (.return_, 1) := by decide +kernel
theorem dX5_unbindTo_0 : decode cX5_unbindTo 0 = .ok (.aload_n 0, 1) := by decide +kernel
theorem dX5_unbindTo_1 : decode cX5_unbindTo 1 = .ok (.getfield 55, 3) := by decide +kernel
theorem dX5_unbindTo_4 : decode cX5_unbindTo 4 = .ok (.iconst 1, 1) := by decide +kernel
theorem dX5_unbindTo_5 : decode cX5_unbindTo 5 = .ok (.isub, 1) := by decide +kernel
theorem dX5_unbindTo_6 : decode cX5_unbindTo 6 = .ok (.istore_n 2, 1) := by decide +kernel
theorem dX5_unbindTo_7 : decode cX5_unbindTo 7 = .ok (.iload_n 2, 1) := by decide +kernel
theorem dX5_unbindTo_8 : decode cX5_unbindTo 8 = .ok (.iload_n 1, 1) := by decide +kernel
theorem dX5_unbindTo_9 : decode cX5_unbindTo 9 = .ok (.if_icmp .lt 82, 3) := by decide +kernel
theorem dX5_unbindTo_12 : decode cX5_unbindTo 12 = .ok (.iload_n 2, 1) := by decide +kernel
theorem dX5_unbindTo_13 : decode cX5_unbindTo 13 = .ok (.ifCond .lt 78, 3) := by decide +kernel
theorem dX5_unbindTo_16 : decode cX5_unbindTo 16 = .ok (.aload_n 0, 1) := by decide +kernel
theorem dX5_unbindTo_17 : decode cX5_unbindTo 17 = .ok (.getfield 27, 3) := by decide +kernel
theorem dX5_unbindTo_20 : decode cX5_unbindTo 20 = .ok (.iload_n 2, 1) := by decide +kernel
theorem dX5_unbindTo_21 : decode cX5_unbindTo 21 = .ok (.invokestatic 46, 3) := by decide +kernel
theorem dX5_unbindTo_24 : decode cX5_unbindTo 24 = .ok (.istore_n 3, 1) := by decide +kernel
theorem dX5_unbindTo_25 : decode cX5_unbindTo 25 = .ok (.aload_n 0, 1) := by decide +kernel
theorem dX5_unbindTo_26 : decode cX5_unbindTo 26 = .ok (.dup, 1) := by decide +kernel
theorem dX5_unbindTo_27 : decode cX5_unbindTo 27 = .ok (.getfield 58, 3) := by decide +kernel
theorem dX5_unbindTo_30 : decode cX5_unbindTo 30 = .ok (.aload_n 0, 1) := by decide +kernel
theorem dX5_unbindTo_31 : decode cX5_unbindTo 31 = .ok (.getfield 33, 3) := by decide +kernel
theorem dX5_unbindTo_34 : decode cX5_unbindTo 34 = .ok (.aload_n 0, 1) := by decide +kernel
theorem dX5_unbindTo_35 : decode cX5_unbindTo 35 = .ok (.getfield 9, 3) := by decide +kernel
theorem dX5_unbindTo_38 : decode cX5_unbindTo 38 = .ok (.iload_n 3, 1) := by decide +kernel
theorem dX5_unbindTo_39 : decode cX5_unbindTo 39 = .ok (.invokestatic 46, 3) := by decide +kernel
theorem dX5_unbindTo_42 : decode cX5_unbindTo 42 = .ok (.invokevirtual 65, 3) := by decide +kernel
theorem dX5_unbindTo_45 : decode cX5_unbindTo 45 = .ok (.aload_n 0, 1) := by decide +kernel
theorem dX5_unbindTo_46 : decode cX5_unbindTo 46 = .ok (.getfield 21, 3) := by decide +kernel
theorem dX5_unbindTo_49 : decode cX5_unbindTo 49 = .ok (.iload_n 3, 1) := by decide +kernel
theorem dX5_unbindTo_50 : decode cX5_unbindTo 50 = .ok (.invokestatic 46, 3) := by decide +kernel
theorem dX5_unbindTo_53 : decode cX5_unbindTo 53 = .ok (.imul, 1) := by decide +kernel
theorem dX5_unbindTo_54 : decode cX5_unbindTo 54 = .ok (.isub, 1) := by decide +kernel
theorem dX5_unbindTo_55 : decode cX5_unbindTo 55 = .ok (.putfield 58, 3) := by decide +kernel
theorem dX5_unbindTo_58 : decode cX5_unbindTo 58 = .ok (.aload_n 0, 1) := by decide +kernel
theorem dX5_unbindTo_59 : decode cX5_unbindTo 59 = .ok (.aload_n 0, 1) := by decide +kernel
theorem dX5_unbindTo_60 : decode cX5_unbindTo 60 = .ok (.getfield 15, 3) := by decide +kernel
theorem dX5_unbindTo_63 : decode cX5_unbindTo 63 = .ok (.iload_n 3, 1) := by decide +kernel
theorem dX5_unbindTo_64 : decode cX5_unbindTo 64 = .ok (.invokestatic 46, 3) := by decide +kernel
theorem dX5_unbindTo_67 : decode cX5_unbindTo 67 = .ok (.putfield 51, 3) := by decide +kernel
theorem dX5_unbindTo_70 : decode cX5_unbindTo 70 = .ok (.aload_n 0, 1) := by decide +kernel
theorem dX5_unbindTo_71 : decode cX5_unbindTo 71 = .ok (.getfield 9, 3) := by decide +kernel
theorem dX5_unbindTo_74 : decode cX5_unbindTo 74 = .ok (.iload_n 3, 1) := by decide +kernel
theorem dX5_unbindTo_75 : decode cX5_unbindTo 75 = .ok (.bipush (-9), 2) := by decide +kernel
theorem dX5_unbindTo_77 : decode cX5_unbindTo 77 = .ok (.invokestatic 37, 3) := by decide +kernel
theorem dX5_unbindTo_80 : decode cX5_unbindTo 80 = .ok (.aload_n 0, 1) := by decide +kernel
theorem dX5_unbindTo_81 : decode cX5_unbindTo 81 = .ok (.iload_n 2, 1) := by decide +kernel
theorem dX5_unbindTo_82 : decode cX5_unbindTo 82 = .ok (.putfield 55, 3) := by decide +kernel
theorem dX5_unbindTo_85 : decode cX5_unbindTo 85 = .ok (.iinc 2 (-1), 3) := by decide +kernel
theorem dX5_unbindTo_88 : decode cX5_unbindTo 88 = .ok (.goto (-81), 3) := by decide +kernel
theorem dX5_unbindTo_91 : decode cX5_unbindTo 91 = .ok (.return_, 1) := by decide +kernel
theorem dX5_write_0 : decode cX5_write 0 = .ok (.iconst 0, 1) := by decide +kernel
theorem dX5_write_1 : decode cX5_write 1 = .ok (.istore_n 3, 1) := by decide +kernel
theorem dX5_write_2 : decode cX5_write 2 = .ok (.aload_n 0, 1) := by decide +kernel
theorem dX5_write_3 : decode cX5_write 3 = .ok (.getfield 24, 3) := by decide +kernel
theorem dX5_write_6 : decode cX5_write 6 = .ok (.iconst 0, 1) := by decide +kernel
theorem dX5_write_7 : decode cX5_write 7 = .ok (.invokestatic 70, 3) := by decide +kernel
theorem dX5_write_10 : decode cX5_write 10 = .ok (.aload_n 0, 1) := by decide +kernel
theorem dX5_write_11 : decode cX5_write 11 = .ok (.iconst 0, 1) := by decide +kernel
theorem dX5_write_12 : decode cX5_write 12 = .ok (.putfield 76, 3) := by decide +kernel
theorem dX5_write_15 : decode cX5_write 15 = .ok (.aload_n 0, 1) := by decide +kernel
theorem dX5_write_16 : decode cX5_write 16 = .ok (.bipush 8, 2) := by decide +kernel
theorem dX5_write_18 : decode cX5_write 18 = .ok (.aload_n 0, 1) := by decide +kernel
theorem dX5_write_19 : decode cX5_write 19 = .ok (.getfield 33, 3) := by decide +kernel
theorem dX5_write_22 : decode cX5_write 22 = .ok (.iconst (-1), 1) := by decide +kernel
theorem dX5_write_23 : decode cX5_write 23 = .ok (.invokevirtual 65, 3) := by decide +kernel
theorem dX5_write_26 : decode cX5_write 26 = .ok (.invokevirtual 79, 3) := by decide +kernel
theorem dX5_write_29 : decode cX5_write 29 = .ok (.iconst 0, 1) := by decide +kernel
theorem dX5_write_30 : decode cX5_write 30 = .ok (.istore 4, 2) := by decide +kernel
theorem dX5_write_32 : decode cX5_write 32 = .ok (.iload 4, 2) := by decide +kernel
theorem dX5_write_34 : decode cX5_write 34 = .ok (.aload_n 0, 1) := by decide +kernel
theorem dX5_write_35 : decode cX5_write 35 = .ok (.getfield 58, 3) := by decide +kernel
theorem dX5_write_38 : decode cX5_write 38 = .ok (.if_icmp .ge 137, 3) := by decide +kernel
theorem dX5_write_41 : decode cX5_write 41 = .ok (.aload_n 0, 1) := by decide +kernel
theorem dX5_write_42 : decode cX5_write 42 = .ok (.getfield 76, 3) := by decide +kernel
theorem dX5_write_45 : decode cX5_write 45 = .ok (.ifCond .le 130, 3) := by decide +kernel
theorem dX5_write_48 : decode cX5_write 48 = .ok (.aload_n 0, 1) := by decide +kernel
theorem dX5_write_49 : decode cX5_write 49 = .ok (.dup, 1) := by decide +kernel
theorem dX5_write_50 : decode cX5_write 50 = .ok (.getfield 76, 3) := by decide +kernel
theorem dX5_write_53 : decode cX5_write 53 = .ok (.iconst 1, 1) := by decide +kernel
theorem dX5_write_54 : decode cX5_write 54 = .ok (.isub, 1) := by decide +kernel
theorem dX5_write_55 : decode cX5_write 55 = .ok (.putfield 76, 3) := by decide +kernel
theorem dX5_write_58 : decode cX5_write 58 = .ok (.aload_n 0, 1) := by decide +kernel
theorem dX5_write_59 : decode cX5_write 59 = .ok (.aload_n 0, 1) := by decide +kernel
theorem dX5_write_60 : decode cX5_write 60 = .ok (.getfield 30, 3) := by decide +kernel
theorem dX5_write_63 : decode cX5_write 63 = .ok (.aload_n 0, 1) := by decide +kernel
theorem dX5_write_64 : decode cX5_write 64 = .ok (.getfield 76, 3) := by decide +kernel
theorem dX5_write_67 : decode cX5_write 67 = .ok (.invokestatic 46, 3) := by decide +kernel
theorem dX5_write_70 : decode cX5_write 70 = .ok (.invokevirtual 61, 3) := by decide +kernel
theorem dX5_write_73 : decode cX5_write 73 = .ok (.istore 5, 2) := by decide +kernel
theorem dX5_write_75 : decode cX5_write 75 = .ok (.aload_n 0, 1) := by decide +kernel
theorem dX5_write_76 : decode cX5_write 76 = .ok (.getfield 9, 3) := by decide +kernel
theorem dX5_write_79 : decode cX5_write 79 = .ok (.iload 5, 2) := by decide +kernel
theorem dX5_write_81 : decode cX5_write 81 = .ok (.invokestatic 46, 3) := by decide +kernel
theorem dX5_write_84 : decode cX5_write 84 = .ok (.istore 6, 2) := by decide +kernel
theorem dX5_write_86 : decode cX5_write 86 = .ok (.iload 6, 2) := by decide +kernel
theorem dX5_write_88 : decode cX5_write 88 = .ok (.ifCond .lt 28, 3) := by decide +kernel
theorem dX5_write_91 : decode cX5_write 91 = .ok (.aload_n 0, 1) := by decide +kernel
theorem dX5_write_92 : decode cX5_write 92 = .ok (.aload_n 0, 1) := by decide +kernel
theorem dX5_write_93 : decode cX5_write 93 = .ok (.getfield 15, 3) := by decide +kernel
theorem dX5_write_96 : decode cX5_write 96 = .ok (.iload 5, 2) := by decide +kernel
theorem dX5_write_98 : decode cX5_write 98 = .ok (.invokestatic 46, 3) := by decide +kernel
theorem dX5_write_101 : decode cX5_write 101 = .ok (.aload_n 0, 1) := by decide +kernel
theorem dX5_write_102 : decode cX5_write 102 = .ok (.getfield 33, 3) := by decide +kernel
theorem dX5_write_105 : decode cX5_write 105 = .ok (.iload 6, 2) := by decide +kernel
theorem dX5_write_107 : decode cX5_write 107 = .ok (.invokevirtual 65, 3) := by decide +kernel
theorem dX5_write_110 : decode cX5_write 110 = .ok (.invokevirtual 79, 3) := by decide +kernel
theorem dX5_write_113 : decode cX5_write 113 = .ok (.goto 29, 3) := by decide +kernel
theorem dX5_write_116 : decode cX5_write 116 = .ok (.aload_n 0, 1) := by decide +kernel
theorem dX5_write_117 : decode cX5_write 117 = .ok (.getfield 24, 3) := by decide +kernel
theorem dX5_write_120 : decode cX5_write 120 = .ok (.iload 5, 2) := by decide +kernel
theorem dX5_write_122 : decode cX5_write 122 = .ok (.invokestatic 46, 3) := by decide +kernel
theorem dX5_write_125 : decode cX5_write 125 = .ok (.ifCond .ne 17, 3) := by decide +kernel
theorem dX5_write_128 : decode cX5_write 128 = .ok (.iinc 3 1, 3) := by decide +kernel
theorem dX5_write_131 : decode cX5_write 131 = .ok (.aload_n 0, 1) := by decide +kernel
theorem dX5_write_132 : decode cX5_write 132 = .ok (.getfield 24, 3) := by decide +kernel
theorem dX5_write_135 : decode cX5_write 135 = .ok (.iload 5, 2) := by decide +kernel
theorem dX5_write_137 : decode cX5_write 137 = .ok (.iload_n 3, 1) := by decide +kernel
theorem dX5_write_138 : decode cX5_write 138 = .ok (.ineg, 1) := by decide +kernel
theorem dX5_write_139 : decode cX5_write 139 = .ok (.invokestatic 37, 3) := by decide +kernel
theorem dX5_write_142 : decode cX5_write 142 = .ok (.aload_n 1, 1) := by decide +kernel
theorem dX5_write_143 : decode cX5_write 143 = .ok (.iload_n 2, 1) := by decide +kernel
theorem dX5_write_144 : decode cX5_write 144 = .ok (.iload 4, 2) := by decide +kernel
theorem dX5_write_146 : decode cX5_write 146 = .ok (.iadd, 1) := by decide +kernel
theorem dX5_write_147 : decode cX5_write 147 = .ok (.iload 6, 2) := by decide +kernel
theorem dX5_write_149 : decode cX5_write 149 = .ok (.ifCond .lt 8, 3) := by decide +kernel
theorem dX5_write_152 : decode cX5_write 152 = .ok (.iload 6, 2) := by decide +kernel
theorem dX5_write_154 : decode cX5_write 154 = .ok (.goto 12, 3) := by decide +kernel
theorem dX5_write_157 : decode cX5_write 157 = .ok (.aload_n 0, 1) := by decide +kernel
theorem dX5_write_158 : decode cX5_write 158 = .ok (.getfield 24, 3) := by decide +kernel
theorem dX5_write_161 : decode cX5_write 161 = .ok (.iload 5, 2) := by decide +kernel
theorem dX5_write_163 : decode cX5_write 163 = .ok (.invokestatic 46, 3) := by decide +kernel
theorem dX5_write_166 : decode cX5_write 166 = .ok (.invokestatic 37, 3) := by decide +kernel
theorem dX5_write_169 : decode cX5_write 169 = .ok (.iinc 4 1, 3) := by decide +kernel
theorem dX5_write_172 : decode cX5_write 172 = .ok (.goto (-140), 3) := by decide +kernel
theorem dX5_write_175 : decode cX5_write 175 = .ok (.return_, 1) := by decide +kernel
theorem dX5_leave_0 : decode cX5_leave 0 = .ok (.iload_n 1, 1) := by decide +kernel
theorem dX5_leave_1 : decode cX5_leave 1 = .ok (.istore_n 3, 1) := by decide +kernel
theorem dX5_leave_2 : decode cX5_leave 2 = .ok (.iload_n 2, 1) := by decide +kernel
theorem dX5_leave_3 : decode cX5_leave 3 = .ok (.iconst 1, 1) := by decide +kernel
theorem dX5_leave_4 : decode cX5_leave 4 = .ok (.isub, 1) := by decide +kernel
theorem dX5_leave_5 : decode cX5_leave 5 = .ok (.istore 4, 2) := by decide +kernel
theorem dX5_leave_7 : decode cX5_leave 7 = .ok (.iload 4, 2) := by decide +kernel
theorem dX5_leave_9 : decode cX5_leave 9 = .ok (.ifCond .lt 33, 3) := by decide +kernel
theorem dX5_leave_12 : decode cX5_leave 12 = .ok (.aload_n 0, 1) := by decide +kernel
theorem dX5_leave_13 : decode cX5_leave 13 = .ok (.getfield 30, 3) := by decide +kernel
theorem dX5_leave_16 : decode cX5_leave 16 = .ok (.aload_n 0, 1) := by decide +kernel
theorem dX5_leave_17 : decode cX5_leave 17 = .ok (.getfield 76, 3) := by decide +kernel
theorem dX5_leave_20 : decode cX5_leave 20 = .ok (.iload 4, 2) := by decide +kernel
theorem dX5_leave_22 : decode cX5_leave 22 = .ok (.iadd, 1) := by decide +kernel
theorem dX5_leave_23 : decode cX5_leave 23 = .ok (.iload_n 3, 1) := by decide +kernel
theorem dX5_leave_24 : decode cX5_leave 24 = .ok (.invokestatic 37, 3) := by decide +kernel
theorem dX5_leave_27 : decode cX5_leave 27 = .ok (.aload_n 0, 1) := by decide +kernel
theorem dX5_leave_28 : decode cX5_leave 28 = .ok (.getfield 18, 3) := by decide +kernel
theorem dX5_leave_31 : decode cX5_leave 31 = .ok (.iload_n 3, 1) := by decide +kernel
theorem dX5_leave_32 : decode cX5_leave 32 = .ok (.invokestatic 46, 3) := by decide +kernel
theorem dX5_leave_35 : decode cX5_leave 35 = .ok (.istore_n 3, 1) := by decide +kernel
theorem dX5_leave_36 : decode cX5_leave 36 = .ok (.iinc 4 (-1), 3) := by decide +kernel
theorem dX5_leave_39 : decode cX5_leave 39 = .ok (.goto (-32), 3) := by decide +kernel
theorem dX5_leave_42 : decode cX5_leave 42 = .ok (.aload_n 0, 1) := by decide +kernel
theorem dX5_leave_43 : decode cX5_leave 43 = .ok (.dup, 1) := by decide +kernel
theorem dX5_leave_44 : decode cX5_leave 44 = .ok (.getfield 76, 3) := by decide +kernel
theorem dX5_leave_47 : decode cX5_leave 47 = .ok (.iload_n 2, 1) := by decide +kernel
theorem dX5_leave_48 : decode cX5_leave 48 = .ok (.iadd, 1) := by decide +kernel
theorem dX5_leave_49 : decode cX5_leave 49 = .ok (.putfield 76, 3) := by decide +kernel
theorem dX5_leave_52 : decode cX5_leave 52 = .ok (.return_, 1) := by decide +kernel
end
section
theorem dX6_init_0 : decode cX6_init 0 = .ok (.aload_n 0, 1) := by decide +kernel
theorem dX6_init_1 : decode cX6_init 1 = .ok (.invokespecial 3, 3) := by decide +kernel
theorem dX6_init_4 : decode cX6_init 4 = .ok (.aload_n 0, 1) := by decide +kernel
theorem dX6_init_5 : decode cX6_init 5 = .ok (.sipush 560, 3) := by decide +kernel
theorem dX6_init_8 : decode cX6_init 8 = .ok (.newarray .int, 2) := by decide +kernel
theorem dX6_init_10 : decode cX6_init 10 = .ok (.putfield 9, 3) := by decide +kernel
theorem dX6_init_13 : decode cX6_init 13 = .ok (.aload_n 0, 1) := by decide +kernel
theorem dX6_init_14 : decode cX6_init 14 = .ok (.sipush 560, 3) := by decide +kernel
theorem dX6_init_17 : decode cX6_init 17 = .ok (.newarray .int, 2) := by decide +kernel
theorem dX6_init_19 : decode cX6_init 19 = .ok (.putfield 15, 3) := by decide +kernel
theorem dX6_init_22 : decode cX6_init 22 = .ok (.aload_n 0, 1) := by decide +kernel
theorem dX6_init_23 : decode cX6_init 23 = .ok (.sipush 560, 3) := by decide +kernel
theorem dX6_init_26 : decode cX6_init 26 = .ok (.newarray .int, 2) := by decide +kernel
theorem dX6_init_28 : decode cX6_init 28 = .ok (.putfield 18, 3) := by decide +kernel
theorem dX6_init_31 : decode cX6_init 31 = .ok (.aload_n 0, 1) := by decide +kernel
theorem dX6_init_32 : decode cX6_init 32 = .ok (.sipush 560, 3) := by decide +kernel
theorem dX6_init_35 : decode cX6_init 35 = .ok (.newarray .int, 2) := by decide +kernel
theorem dX6_init_37 : decode cX6_init 37 = .ok (.putfield 21, 3) := by decide +kernel
theorem dX6_init_40 : decode cX6_init 40 = .ok (.aload_n 0, 1) := by decide +kernel
theorem dX6_init_41 : decode cX6_init 41 = .ok (.sipush 560, 3) := by decide +kernel
theorem dX6_init_44 : decode cX6_init 44 = .ok (.newarray .int, 2) := by decide +kernel
theorem dX6_init_46 : decode cX6_init 46 = .ok (.putfield 24, 3) := by decide +kernel
theorem dX6_init_49 : decode cX6_init 49 = .ok (.aload_n 0, 1) := by decide +kernel
theorem dX6_init_50 : decode cX6_init 50 = .ok (.sipush 186, 3) := by decide +kernel
theorem dX6_init_53 : decode cX6_init 53 = .ok (.newarray .int, 2) := by decide +kernel
theorem dX6_init_55 : decode cX6_init 55 = .ok (.putfield 27, 3) := by decide +kernel
theorem dX6_init_58 : decode cX6_init 58 = .ok (.return_, 1) := by decide +kernel
theorem dX6_clear_0 : decode cX6_clear 0 = .ok (.aload_n 0, 1) := by decide +kernel
theorem dX6_clear_1 : decode cX6_clear 1 = .ok (.iconst 0, 1) := by decide +kernel
theorem dX6_clear_2 : decode cX6_clear 2 = .ok (.putfield 30, 3) := by decide +kernel
theorem dX6_clear_5 : decode cX6_clear 5 = .ok (.return_, 1) := by decide +kernel
theorem dX6_add_0 : decode cX6_add 0 = .ok (.aload_n 0, 1) := by decide +kernel
theorem dX6_add_1 : decode cX6_add 1 = .ok (.getfield 30, 3) := by decide +kernel
theorem dX6_add_4 : decode cX6_add 4 = .ok (.sipush 560, 3) := by decide +kernel
theorem dX6_add_7 : decode cX6_add 7 = .ok (.if_icmp .lt 4, 3) := by decide +kernel
theorem dX6_add_10 : decode cX6_add 10 = .ok (.return_, 1) := by decide +kernel
theorem dX6_add_11 : decode cX6_add 11 = .ok (.aload_n 0, 1) := by decide +kernel
theorem dX6_add_12 : decode cX6_add 12 = .ok (.getfield 9, 3) := by decide +kernel
theorem dX6_add_15 : decode cX6_add 15 = .ok (.aload_n 0, 1) := by decide +kernel
theorem dX6_add_16 : decode cX6_add 16 = .ok (.getfield 30, 3) := by decide +kernel
theorem dX6_add_19 : decode cX6_add 19 = .ok (.iload_n 1, 1) := by decide +kernel
theorem dX6_add_20 : decode cX6_add 20 = .ok (.invokestatic 34, 3) := by decide +kernel
theorem dX6_add_23 : decode cX6_add 23 = .ok (.aload_n 0, 1) := by decide +kernel
theorem dX6_add_24 : decode cX6_add 24 = .ok (.getfield 15, 3) := by decide +kernel
theorem dX6_add_27 : decode cX6_add 27 = .ok (.aload_n 0, 1) := by decide +kernel
theorem dX6_add_28 : decode cX6_add 28 = .ok (.getfield 30, 3) := by decide +kernel
theorem dX6_add_31 : decode cX6_add 31 = .ok (.iload_n 2, 1) := by decide +kernel
theorem dX6_add_32 : decode cX6_add 32 = .ok (.invokestatic 34, 3) := by decide +kernel
theorem dX6_add_35 : decode cX6_add 35 = .ok (.aload_n 0, 1) := by decide +kernel
theorem dX6_add_36 : decode cX6_add 36 = .ok (.getfield 21, 3) := by decide +kernel
theorem dX6_add_39 : decode cX6_add 39 = .ok (.aload_n 0, 1) := by decide +kernel
theorem dX6_add_40 : decode cX6_add 40 = .ok (.getfield 30, 3) := by decide +kernel
theorem dX6_add_43 : decode cX6_add 43 = .ok (.iload_n 3, 1) := by decide +kernel
theorem dX6_add_44 : decode cX6_add 44 = .ok (.invokestatic 34, 3) := by decide +kernel
theorem dX6_add_47 : decode cX6_add 47 = .ok (.aload_n 0, 1) := by decide +kernel
theorem dX6_add_48 : decode cX6_add 48 = .ok (.getfield 24, 3) := by decide +kernel
theorem dX6_add_51 : decode cX6_add 51 = .ok (.aload_n 0, 1) := by decide +kernel
theorem dX6_add_52 : decode cX6_add 52 = .ok (.getfield 30, 3) := by decide +kernel
theorem dX6_add_55 : decode cX6_add 55 = .ok (.iload 4, 2) := by decide +kernel
theorem dX6_add_57 : decode cX6_add 57 = .ok (.invokestatic 34, 3) := by decide +kernel
theorem dX6_add_60 : decode cX6_add 60 = .ok (.aload_n 0, 1) := by decide +kernel
theorem dX6_add_61 : decode cX6_add 61 = .ok (.getfield 18, 3) := by decide +kernel
theorem dX6_add_64 : decode cX6_add 64 = .ok (.aload_n 0, 1) := by decide +kernel
theorem dX6_add_65 : decode cX6_add 65 = .ok (.getfield 30, 3) := by decide +kernel
theorem dX6_add_68 : decode cX6_add 68 = .ok (.iload 5, 2) := by decide +kernel
theorem dX6_add_70 : decode cX6_add 70 = .ok (.invokestatic 34, 3) := by decide +kernel
theorem dX6_add_73 : decode cX6_add 73 = .ok (.aload_n 0, 1) := by decide +kernel
theorem dX6_add_74 : decode cX6_add 74 = .ok (.dup, 1) := by decide +kernel
theorem dX6_add_75 : decode cX6_add 75 = .ok (.getfield 30, 3) := by decide +kernel
theorem dX6_add_78 : decode cX6_add 78 = .ok (.iconst 1, 1) := by decide +kernel
theorem dX6_add_79 : decode cX6_add 79 = .ok (.iadd, 1) := by decide +kernel
theorem dX6_add_80 : decode cX6_add 80 = .ok (.putfield 30, 3) := by decide +kernel
theorem dX6_add_83 : decode cX6_add 83 = .ok (.return_, 1) := by decide +kernel
theorem dX6_answer_0 : decode cX6_answer 0 = .ok (.iload_n 2, 1) := by decide +kernel
theorem dX6_answer_1 : decode cX6_answer 1 = .ok (.ifCond .lt 15, 3) := by decide +kernel
theorem dX6_answer_4 : decode cX6_answer 4 = .ok (.iload_n 2, 1) := by decide +kernel
theorem dX6_answer_5 : decode cX6_answer 5 = .ok (.aload_n 0, 1) := by decide +kernel
theorem dX6_answer_6 : decode cX6_answer 6 = .ok (.getfield 30, 3) := by decide +kernel
theorem dX6_answer_9 : decode cX6_answer 9 = .ok (.if_icmp .ge 7, 3) := by decide +kernel
theorem dX6_answer_12 : decode cX6_answer 12 = .ok (.iload_n 3, 1) := by decide +kernel
theorem dX6_answer_13 : decode cX6_answer 13 = .ok (.ifCond .ge 6, 3) := by decide +kernel
theorem dX6_answer_16 : decode cX6_answer 16 = .ok (.bipush (-9), 2) := by decide +kernel
theorem dX6_answer_18 : decode cX6_answer 18 = .ok (.ireturn, 1) := by decide +kernel
theorem dX6_answer_19 : decode cX6_answer 19 = .ok (.iload_n 3, 1) := by decide +kernel
theorem dX6_answer_20 : decode cX6_answer 20 = .ok (.tableswitch 101 0 4 #[36, 45, 74, 83, 92], 36) := by decide +kernel
theorem dX6_answer_56 : decode cX6_answer 56 = .ok (.aload_n 0, 1) := by decide +kernel
theorem dX6_answer_57 : decode cX6_answer 57 = .ok (.getfield 9, 3) := by decide +kernel
theorem dX6_answer_60 : decode cX6_answer 60 = .ok (.iload_n 2, 1) := by decide +kernel
theorem dX6_answer_61 : decode cX6_answer 61 = .ok (.invokestatic 38, 3) := by decide +kernel
theorem dX6_answer_64 : decode cX6_answer 64 = .ok (.ireturn, 1) := by decide +kernel
theorem dX6_answer_65 : decode cX6_answer 65 = .ok (.aload_n 0, 1) := by decide +kernel
theorem dX6_answer_66 : decode cX6_answer 66 = .ok (.getfield 9, 3) := by decide +kernel
theorem dX6_answer_69 : decode cX6_answer 69 = .ok (.iload_n 2, 1) := by decide +kernel
theorem dX6_answer_70 : decode cX6_answer 70 = .ok (.invokestatic 38, 3) := by decide +kernel
theorem dX6_answer_73 : decode cX6_answer 73 = .ok (.ifCond .ne 14, 3) := by decide +kernel
theorem dX6_answer_76 : decode cX6_answer 76 = .ok (.aload_n 0, 1) := by decide +kernel
theorem dX6_answer_77 : decode cX6_answer 77 = .ok (.getfield 15, 3) := by decide +kernel
theorem dX6_answer_80 : decode cX6_answer 80 = .ok (.iload_n 2, 1) := by decide +kernel
theorem dX6_answer_81 : decode cX6_answer 81 = .ok (.invokestatic 38, 3) := by decide +kernel
theorem dX6_answer_84 : decode cX6_answer 84 = .ok (.goto 9, 3) := by decide +kernel
theorem dX6_answer_87 : decode cX6_answer 87 = .ok (.aload_n 0, 1) := by decide +kernel
theorem dX6_answer_88 : decode cX6_answer 88 = .ok (.aload_n 1, 1) := by decide +kernel
theorem dX6_answer_89 : decode cX6_answer 89 = .ok (.iload_n 2, 1) := by decide +kernel
theorem dX6_answer_90 : decode cX6_answer 90 = .ok (.invokevirtual 42, 3) := by decide +kernel
theorem dX6_answer_93 : decode cX6_answer 93 = .ok (.ireturn, 1) := by decide +kernel
theorem dX6_answer_94 : decode cX6_answer 94 = .ok (.aload_n 0, 1) := by decide +kernel
theorem dX6_answer_95 : decode cX6_answer 95 = .ok (.getfield 18, 3) := by decide +kernel
theorem dX6_answer_98 : decode cX6_answer 98 = .ok (.iload_n 2, 1) := by decide +kernel
theorem dX6_answer_99 : decode cX6_answer 99 = .ok (.invokestatic 38, 3) := by decide +kernel
theorem dX6_answer_102 : decode cX6_answer 102 = .ok (.ireturn, 1) := by decide +kernel
theorem dX6_answer_103 : decode cX6_answer 103 = .ok (.aload_n 0, 1) := by decide +kernel
theorem dX6_answer_104 : decode cX6_answer 104 = .ok (.getfield 21, 3) := by decide +kernel
theorem dX6_answer_107 : decode cX6_answer 107 = .ok (.iload_n 2, 1) := by decide +kernel
theorem dX6_answer_108 : decode cX6_answer 108 = .ok (.invokestatic 38, 3) := by decide +kernel
theorem dX6_answer_111 : decode cX6_answer 111 = .ok (.ireturn, 1) := by decide +kernel
theorem dX6_answer_112 : decode cX6_answer 112 = .ok (.aload_n 0, 1) := by decide +kernel
theorem dX6_answer_113 : decode cX6_answer 113 = .ok (.getfield 24, 3) := by decide +kernel
theorem dX6_answer_116 : decode cX6_answer 116 = .ok (.iload_n 2, 1) := by decide +kernel
theorem dX6_answer_117 : decode cX6_answer 117 = .ok (.invokestatic 38, 3) := by decide +kernel
theorem dX6_answer_120 : decode cX6_answer 120 = .ok (.ireturn, 1) := by decide +kernel
theorem dX6_answer_121 : decode cX6_answer 121 = .ok (.iload_n 3, 1) := by decide +kernel
theorem dX6_answer_122 : decode cX6_answer 122 = .ok (.iconst 5, 1) := by decide +kernel
theorem dX6_answer_123 : decode cX6_answer 123 = .ok (.isub, 1) := by decide +kernel
theorem dX6_answer_124 : decode cX6_answer 124 = .ok (.istore 4, 2) := by decide +kernel
theorem dX6_answer_126 : decode cX6_answer 126 = .ok (.iload 4, 2) := by decide +kernel
theorem dX6_answer_128 : decode cX6_answer 128 = .ok (.aload_n 0, 1) := by decide +kernel
theorem dX6_answer_129 : decode cX6_answer 129 = .ok (.aload_n 1, 1) := by decide +kernel
theorem dX6_answer_130 : decode cX6_answer 130 = .ok (.iload_n 2, 1) := by decide +kernel
theorem dX6_answer_131 : decode cX6_answer 131 = .ok (.invokevirtual 42, 3) := by decide +kernel
theorem dX6_answer_134 : decode cX6_answer 134 = .ok (.if_icmp .ge 20, 3) := by decide +kernel
theorem dX6_answer_137 : decode cX6_answer 137 = .ok (.aload_n 1, 1) := by decide +kernel
theorem dX6_answer_138 : decode cX6_answer 138 = .ok (.aload_n 0, 1) := by decide +kernel
theorem dX6_answer_139 : decode cX6_answer 139 = .ok (.getfield 15, 3) := by decide +kernel
theorem dX6_answer_142 : decode cX6_answer 142 = .ok (.iload_n 2, 1) := by decide +kernel
theorem dX6_answer_143 : decode cX6_answer 143 = .ok (.invokestatic 38, 3) := by decide +kernel
theorem dX6_answer_146 : decode cX6_answer 146 = .ok (.iload 4, 2) := by decide +kernel
theorem dX6_answer_148 : decode cX6_answer 148 = .ok (.invokevirtual 46, 3) := by decide +kernel
theorem dX6_answer_151 : decode cX6_answer 151 = .ok (.goto 5, 3) := by decide +kernel
theorem dX6_answer_154 : decode cX6_answer 154 = .ok (.bipush (-9), 2) := by decide +kernel
theorem dX6_answer_156 : decode cX6_answer 156 = .ok (.ireturn, 1) := by decide +kernel
theorem dX6_places_0 : decode cX6_places 0 = .ok (.aload_n 0, 1) := by decide +kernel
theorem dX6_places_1 : decode cX6_places 1 = .ok (.getfield 9, 3) := by decide +kernel
theorem dX6_places_4 : decode cX6_places 4 = .ok (.iload_n 2, 1) := by decide +kernel
theorem dX6_places_5 : decode cX6_places 5 = .ok (.invokestatic 38, 3) := by decide +kernel
theorem dX6_places_8 : decode cX6_places 8 = .ok (.iconst 1, 1) := by decide +kernel
theorem dX6_places_9 : decode cX6_places 9 = .ok (.if_icmp .ne 18, 3) := by decide +kernel
theorem dX6_places_12 : decode cX6_places 12 = .ok (.aload_n 1, 1) := by decide +kernel
theorem dX6_places_13 : decode cX6_places 13 = .ok (.aload_n 0, 1) := by decide +kernel
theorem dX6_places_14 : decode cX6_places 14 = .ok (.getfield 15, 3) := by decide +kernel
theorem dX6_places_17 : decode cX6_places 17 = .ok (.iload_n 2, 1) := by decide +kernel
theorem dX6_places_18 : decode cX6_places 18 = .ok (.invokestatic 38, 3) := by decide +kernel
theorem dX6_places_21 : decode cX6_places 21 = .ok (.invokevirtual 52, 3) := by decide +kernel
theorem dX6_places_24 : decode cX6_places 24 = .ok (.goto 4, 3) := by decide +kernel
theorem dX6_places_27 : decode cX6_places 27 = .ok (.iconst 0, 1) := by decide +kernel
theorem dX6_places_28 : decode cX6_places 28 = .ok (.ireturn, 1) := by decide +kernel
theorem dX6_howMany_0 : decode cX6_howMany 0 = .ok (.iconst 0, 1) := by decide +kernel
theorem dX6_howMany_1 : decode cX6_howMany 1 = .ok (.istore_n 2, 1) := by decide +kernel
theorem dX6_howMany_2 : decode cX6_howMany 2 = .ok (.iconst 0, 1) := by decide +kernel
theorem dX6_howMany_3 : decode cX6_howMany 3 = .ok (.istore_n 3, 1) := by decide +kernel
theorem dX6_howMany_4 : decode cX6_howMany 4 = .ok (.iload_n 3, 1) := by decide +kernel
theorem dX6_howMany_5 : decode cX6_howMany 5 = .ok (.aload_n 0, 1) := by decide +kernel
theorem dX6_howMany_6 : decode cX6_howMany 6 = .ok (.getfield 30, 3) := by decide +kernel
theorem dX6_howMany_9 : decode cX6_howMany 9 = .ok (.if_icmp .ge 24, 3) := by decide +kernel
theorem dX6_howMany_12 : decode cX6_howMany 12 = .ok (.aload_n 0, 1) := by decide +kernel
theorem dX6_howMany_13 : decode cX6_howMany 13 = .ok (.getfield 9, 3) := by decide +kernel
theorem dX6_howMany_16 : decode cX6_howMany 16 = .ok (.iload_n 3, 1) := by decide +kernel
theorem dX6_howMany_17 : decode cX6_howMany 17 = .ok (.invokestatic 38, 3) := by decide +kernel
theorem dX6_howMany_20 : decode cX6_howMany 20 = .ok (.iload_n 1, 1) := by decide +kernel
theorem dX6_howMany_21 : decode cX6_howMany 21 = .ok (.if_icmp .ne 6, 3) := by decide +kernel
theorem dX6_howMany_24 : decode cX6_howMany 24 = .ok (.iinc 2 1, 3) := by decide +kernel
theorem dX6_howMany_27 : decode cX6_howMany 27 = .ok (.iinc 3 1, 3) := by decide +kernel
theorem dX6_howMany_30 : decode cX6_howMany 30 = .ok (.goto (-26), 3) := by decide +kernel
theorem dX6_howMany_33 : decode cX6_howMany 33 = .ok (.iload_n 2, 1) := by decide +kernel
theorem dX6_howMany_34 : decode cX6_howMany 34 = .ok (.ireturn, 1) := by decide +kernel
theorem dX6_deepest_0 : decode cX6_deepest 0 = .ok (.iconst 0, 1) := by decide +kernel
theorem dX6_deepest_1 : decode cX6_deepest 1 = .ok (.istore_n 1, 1) := by decide +kernel
theorem dX6_deepest_2 : decode cX6_deepest 2 = .ok (.iconst 0, 1) := by decide +kernel
theorem dX6_deepest_3 : decode cX6_deepest 3 = .ok (.istore_n 2, 1) := by decide +kernel
theorem dX6_deepest_4 : decode cX6_deepest 4 = .ok (.iload_n 2, 1) := by decide +kernel
theorem dX6_deepest_5 : decode cX6_deepest 5 = .ok (.aload_n 0, 1) := by decide +kernel
theorem dX6_deepest_6 : decode cX6_deepest 6 = .ok (.getfield 30, 3) := by decide +kernel
theorem dX6_deepest_9 : decode cX6_deepest 9 = .ok (.if_icmp .ge 22, 3) := by decide +kernel
theorem dX6_deepest_12 : decode cX6_deepest 12 = .ok (.iload_n 1, 1) := by decide +kernel
theorem dX6_deepest_13 : decode cX6_deepest 13 = .ok (.aload_n 0, 1) := by decide +kernel
theorem dX6_deepest_14 : decode cX6_deepest 14 = .ok (.getfield 24, 3) := by decide +kernel
theorem dX6_deepest_17 : decode cX6_deepest 17 = .ok (.iload_n 2, 1) := by decide +kernel
theorem dX6_deepest_18 : decode cX6_deepest 18 = .ok (.invokestatic 38, 3) := by decide +kernel
theorem dX6_deepest_21 : decode cX6_deepest 21 = .ok (.invokestatic 56, 3) := by decide +kernel
theorem dX6_deepest_24 : decode cX6_deepest 24 = .ok (.istore_n 1, 1) := by decide +kernel
theorem dX6_deepest_25 : decode cX6_deepest 25 = .ok (.iinc 2 1, 3) := by decide +kernel
theorem dX6_deepest_28 : decode cX6_deepest 28 = .ok (.goto (-24), 3) := by decide +kernel
theorem dX6_deepest_31 : decode cX6_deepest 31 = .ok (.iload_n 1, 1) := by decide +kernel
theorem dX6_deepest_32 : decode cX6_deepest 32 = .ok (.ireturn, 1) := by decide +kernel
theorem dX6_coversAll_0 : decode cX6_coversAll 0 = .ok (.aload_n 0, 1) := by decide +kernel
theorem dX6_coversAll_1 : decode cX6_coversAll 1 = .ok (.getfield 27, 3) := by decide +kernel
theorem dX6_coversAll_4 : decode cX6_coversAll 4 = .ok (.iconst 0, 1) := by decide +kernel
theorem dX6_coversAll_5 : decode cX6_coversAll 5 = .ok (.invokestatic 61, 3) := by decide +kernel
theorem dX6_coversAll_8 : decode cX6_coversAll 8 = .ok (.aload_n 0, 1) := by decide +kernel
theorem dX6_coversAll_9 : decode cX6_coversAll 9 = .ok (.getfield 30, 3) := by decide +kernel
theorem dX6_coversAll_12 : decode cX6_coversAll 12 = .ok (.iconst 1, 1) := by decide +kernel
theorem dX6_coversAll_13 : decode cX6_coversAll 13 = .ok (.isub, 1) := by decide +kernel
theorem dX6_coversAll_14 : decode cX6_coversAll 14 = .ok (.istore_n 3, 1) := by decide +kernel
theorem dX6_coversAll_15 : decode cX6_coversAll 15 = .ok (.iload_n 3, 1) := by decide +kernel
theorem dX6_coversAll_16 : decode cX6_coversAll 16 = .ok (.ifCond .lt 76, 3) := by decide +kernel
theorem dX6_coversAll_19 : decode cX6_coversAll 19 = .ok (.aload_n 0, 1) := by decide +kernel
theorem dX6_coversAll_20 : decode cX6_coversAll 20 = .ok (.getfield 24, 3) := by decide +kernel
theorem dX6_coversAll_23 : decode cX6_coversAll 23 = .ok (.iload_n 3, 1) := by decide +kernel
theorem dX6_coversAll_24 : decode cX6_coversAll 24 = .ok (.invokestatic 38, 3) := by decide +kernel
theorem dX6_coversAll_27 : decode cX6_coversAll 27 = .ok (.istore 4, 2) := by decide +kernel
theorem dX6_coversAll_29 : decode cX6_coversAll 29 = .ok (.aload_n 0, 1) := by decide +kernel
theorem dX6_coversAll_30 : decode cX6_coversAll 30 = .ok (.getfield 27, 3) := by decide +kernel
theorem dX6_coversAll_33 : decode cX6_coversAll 33 = .ok (.iload 4, 2) := by decide +kernel
theorem dX6_coversAll_35 : decode cX6_coversAll 35 = .ok (.iconst 1, 1) := by decide +kernel
theorem dX6_coversAll_36 : decode cX6_coversAll 36 = .ok (.iadd, 1) := by decide +kernel
theorem dX6_coversAll_37 : decode cX6_coversAll 37 = .ok (.invokestatic 38, 3) := by decide +kernel
theorem dX6_coversAll_40 : decode cX6_coversAll 40 = .ok (.istore 5, 2) := by decide +kernel
theorem dX6_coversAll_42 : decode cX6_coversAll 42 = .ok (.aload_n 0, 1) := by decide +kernel
theorem dX6_coversAll_43 : decode cX6_coversAll 43 = .ok (.getfield 27, 3) := by decide +kernel
theorem dX6_coversAll_46 : decode cX6_coversAll 46 = .ok (.iload 4, 2) := by decide +kernel
theorem dX6_coversAll_48 : decode cX6_coversAll 48 = .ok (.iconst 1, 1) := by decide +kernel
theorem dX6_coversAll_49 : decode cX6_coversAll 49 = .ok (.iadd, 1) := by decide +kernel
theorem dX6_coversAll_50 : decode cX6_coversAll 50 = .ok (.iconst 0, 1) := by decide +kernel
theorem dX6_coversAll_51 : decode cX6_coversAll 51 = .ok (.invokestatic 34, 3) := by decide +kernel
theorem dX6_coversAll_54 : decode cX6_coversAll 54 = .ok (.aload_n 0, 1) := by decide +kernel
theorem dX6_coversAll_55 : decode cX6_coversAll 55 = .ok (.iload 5, 2) := by decide +kernel
theorem dX6_coversAll_57 : decode cX6_coversAll 57 = .ok (.iload_n 3, 1) := by decide +kernel
theorem dX6_coversAll_58 : decode cX6_coversAll 58 = .ok (.aload_n 1, 1) := by decide +kernel
theorem dX6_coversAll_59 : decode cX6_coversAll 59 = .ok (.aload_n 2, 1) := by decide +kernel
theorem dX6_coversAll_60 : decode cX6_coversAll 60 = .ok (.invokevirtual 67, 3) := by decide +kernel
theorem dX6_coversAll_63 : decode cX6_coversAll 63 = .ok (.ifCond .eq 23, 3) := by decide +kernel
theorem dX6_coversAll_66 : decode cX6_coversAll 66 = .ok (.aload_n 0, 1) := by decide +kernel
theorem dX6_coversAll_67 : decode cX6_coversAll 67 = .ok (.getfield 27, 3) := by decide +kernel
theorem dX6_coversAll_70 : decode cX6_coversAll 70 = .ok (.iload 4, 2) := by decide +kernel
theorem dX6_coversAll_72 : decode cX6_coversAll 72 = .ok (.aload_n 0, 1) := by decide +kernel
theorem dX6_coversAll_73 : decode cX6_coversAll 73 = .ok (.getfield 27, 3) := by decide +kernel
theorem dX6_coversAll_76 : decode cX6_coversAll 76 = .ok (.iload 4, 2) := by decide +kernel
theorem dX6_coversAll_78 : decode cX6_coversAll 78 = .ok (.invokestatic 38, 3) := by decide +kernel
theorem dX6_coversAll_81 : decode cX6_coversAll 81 = .ok (.iconst 1, 1) := by decide +kernel
theorem dX6_coversAll_82 : decode cX6_coversAll 82 = .ok (.iadd, 1) := by decide +kernel
theorem dX6_coversAll_83 : decode cX6_coversAll 83 = .ok (.invokestatic 34, 3) := by decide +kernel
theorem dX6_coversAll_86 : decode cX6_coversAll 86 = .ok (.iinc 3 (-1), 3) := by decide +kernel
theorem dX6_coversAll_89 : decode cX6_coversAll 89 = .ok (.goto (-74), 3) := by decide +kernel
theorem dX6_coversAll_92 : decode cX6_coversAll 92 = .ok (.aload_n 0, 1) := by decide +kernel
theorem dX6_coversAll_93 : decode cX6_coversAll 93 = .ok (.getfield 27, 3) := by decide +kernel
theorem dX6_coversAll_96 : decode cX6_coversAll 96 = .ok (.iconst 0, 1) := by decide +kernel
theorem dX6_coversAll_97 : decode cX6_coversAll 97 = .ok (.invokestatic 38, 3) := by decide +kernel
theorem dX6_coversAll_100 : decode cX6_coversAll 100 = .ok (.ifCond .le 7, 3) := by decide +kernel
theorem dX6_coversAll_103 : decode cX6_coversAll 103 = .ok (.iconst 1, 1) := by decide +kernel
theorem dX6_coversAll_104 : decode cX6_coversAll 104 = .ok (.goto 4, 3) := by decide +kernel
theorem dX6_coversAll_107 : decode cX6_coversAll 107 = .ok (.iconst 0, 1) := by decide +kernel
theorem dX6_coversAll_108 : decode cX6_coversAll 108 = .ok (.ireturn, 1) := by decide +kernel
theorem dX6_coversWith_0 : decode cX6_coversWith 0 = .ok (.aload_n 0, 1) := by decide +kernel
theorem dX6_coversWith_1 : decode cX6_coversWith 1 = .ok (.getfield 9, 3) := by decide +kernel
theorem dX6_coversWith_4 : decode cX6_coversWith 4 = .ok (.iload_n 2, 1) := by decide +kernel
theorem dX6_coversWith_5 : decode cX6_coversWith 5 = .ok (.invokestatic 38, 3) := by decide +kernel
theorem dX6_coversWith_8 : decode cX6_coversWith 8 = .ok (.lookupswitch 40 #[(0, 28), (2, 30)], 28) := by decide +kernel
theorem dX6_coversWith_36 : decode cX6_coversWith 36 = .ok (.iconst 1, 1) := by decide +kernel
theorem dX6_coversWith_37 : decode cX6_coversWith 37 = .ok (.ireturn, 1) := by decide +kernel
theorem dX6_coversWith_38 : decode cX6_coversWith 38 = .ok (.iload_n 1, 1) := by decide +kernel
theorem dX6_coversWith_39 : decode cX6_coversWith 39 = .ok (.ifCond .le 7, 3) := by decide +kernel
theorem dX6_coversWith_42 : decode cX6_coversWith 42 = .ok (.iconst 1, 1) := by decide +kernel
theorem dX6_coversWith_43 : decode cX6_coversWith 43 = .ok (.goto 4, 3) := by decide +kernel
theorem dX6_coversWith_46 : decode cX6_coversWith 46 = .ok (.iconst 0, 1) := by decide +kernel
theorem dX6_coversWith_47 : decode cX6_coversWith 47 = .ok (.ireturn, 1) := by decide +kernel
theorem dX6_coversWith_48 : decode cX6_coversWith 48 = .ok (.aload_n 3, 1) := by decide +kernel
theorem dX6_coversWith_49 : decode cX6_coversWith 49 = .ok (.getfield 71, 3) := by decide +kernel
theorem dX6_coversWith_52 : decode cX6_coversWith 52 = .ok (.aload_n 0, 1) := by decide +kernel
theorem dX6_coversWith_53 : decode cX6_coversWith 53 = .ok (.getfield 15, 3) := by decide +kernel
theorem dX6_coversWith_56 : decode cX6_coversWith 56 = .ok (.iload_n 2, 1) := by decide +kernel
theorem dX6_coversWith_57 : decode cX6_coversWith 57 = .ok (.invokestatic 38, 3) := by decide +kernel
theorem dX6_coversWith_60 : decode cX6_coversWith 60 = .ok (.invokestatic 38, 3) := by decide +kernel
theorem dX6_coversWith_63 : decode cX6_coversWith 63 = .ok (.istore 5, 2) := by decide +kernel
theorem dX6_coversWith_65 : decode cX6_coversWith 65 = .ok (.iload_n 1, 1) := by decide +kernel
theorem dX6_coversWith_66 : decode cX6_coversWith 66 = .ok (.aload 4, 2) := by decide +kernel
theorem dX6_coversWith_68 : decode cX6_coversWith 68 = .ok (.aload 4, 2) := by decide +kernel
theorem dX6_coversWith_70 : decode cX6_coversWith 70 = .ok (.iload 5, 2) := by decide +kernel
theorem dX6_coversWith_72 : decode cX6_coversWith 72 = .ok (.invokevirtual 74, 3) := by decide +kernel
theorem dX6_coversWith_75 : decode cX6_coversWith 75 = .ok (.invokevirtual 79, 3) := by decide +kernel
theorem dX6_coversWith_78 : decode cX6_coversWith 78 = .ok (.if_icmp .ne 7, 3) := by decide +kernel
theorem dX6_coversWith_81 : decode cX6_coversWith 81 = .ok (.iconst 1, 1) := by decide +kernel
theorem dX6_coversWith_82 : decode cX6_coversWith 82 = .ok (.goto 4, 3) := by decide +kernel
theorem dX6_coversWith_85 : decode cX6_coversWith 85 = .ok (.iconst 0, 1) := by decide +kernel
theorem dX6_coversWith_86 : decode cX6_coversWith 86 = .ok (.ireturn, 1) := by decide +kernel
end
section
theorem dX7_init_0 : decode cX7_init 0 = .ok (.aload_n 0, 1) := by decide +kernel
theorem dX7_init_1 : decode cX7_init 1 = .ok (.invokespecial 3, 3) := by decide +kernel
theorem dX7_init_4 : decode cX7_init 4 = .ok (.aload_n 0, 1) := by decide +kernel
theorem dX7_init_5 : decode cX7_init 5 = .ok (.sipush 187, 3) := by decide +kernel
theorem dX7_init_8 : decode cX7_init 8 = .ok (.newarray .int, 2) := by decide +kernel
theorem dX7_init_10 : decode cX7_init 10 = .ok (.putfield 9, 3) := by decide +kernel
theorem dX7_init_13 : decode cX7_init 13 = .ok (.aload_n 0, 1) := by decide +kernel
theorem dX7_init_14 : decode cX7_init 14 = .ok (.sipush 187, 3) := by decide +kernel
theorem dX7_init_17 : decode cX7_init 17 = .ok (.newarray .int, 2) := by decide +kernel
theorem dX7_init_19 : decode cX7_init 19 = .ok (.putfield 15, 3) := by decide +kernel
theorem dX7_init_22 : decode cX7_init 22 = .ok (.aload_n 0, 1) := by decide +kernel
theorem dX7_init_23 : decode cX7_init 23 = .ok (.sipush 187, 3) := by decide +kernel
theorem dX7_init_26 : decode cX7_init 26 = .ok (.newarray .int, 2) := by decide +kernel
theorem dX7_init_28 : decode cX7_init 28 = .ok (.putfield 18, 3) := by decide +kernel
theorem dX7_init_31 : decode cX7_init 31 = .ok (.aload_n 0, 1) := by decide +kernel
theorem dX7_init_32 : decode cX7_init 32 = .ok (.sipush 187, 3) := by decide +kernel
theorem dX7_init_35 : decode cX7_init 35 = .ok (.newarray .int, 2) := by decide +kernel
theorem dX7_init_37 : decode cX7_init 37 = .ok (.putfield 21, 3) := by decide +kernel
theorem dX7_init_40 : decode cX7_init 40 = .ok (.aload_n 0, 1) := by decide +kernel
theorem dX7_init_41 : decode cX7_init 41 = .ok (.aload_n 1, 1) := by decide +kernel
theorem dX7_init_42 : decode cX7_init 42 = .ok (.putfield 24, 3) := by decide +kernel
theorem dX7_init_45 : decode cX7_init 45 = .ok (.aload_n 0, 1) := by decide +kernel
theorem dX7_init_46 : decode cX7_init 46 = .ok (.aload_n 2, 1) := by decide +kernel
theorem dX7_init_47 : decode cX7_init 47 = .ok (.putfield 28, 3) := by decide +kernel
theorem dX7_init_50 : decode cX7_init 50 = .ok (.aload_n 0, 1) := by decide +kernel
theorem dX7_init_51 : decode cX7_init 51 = .ok (.aload_n 3, 1) := by decide +kernel
theorem dX7_init_52 : decode cX7_init 52 = .ok (.putfield 32, 3) := by decide +kernel
theorem dX7_init_55 : decode cX7_init 55 = .ok (.aload_n 0, 1) := by decide +kernel
theorem dX7_init_56 : decode cX7_init 56 = .ok (.aload 4, 2) := by decide +kernel
theorem dX7_init_58 : decode cX7_init 58 = .ok (.putfield 36, 3) := by decide +kernel
theorem dX7_init_61 : decode cX7_init 61 = .ok (.return_, 1) := by decide +kernel
theorem dX7_reachesAll_0 : decode cX7_reachesAll 0 = .ok (.sipush 186, 3) := by decide +kernel
theorem dX7_reachesAll_3 : decode cX7_reachesAll 3 = .ok (.istore_n 1, 1) := by decide +kernel
theorem dX7_reachesAll_4 : decode cX7_reachesAll 4 = .ok (.iconst 0, 1) := by decide +kernel
theorem dX7_reachesAll_5 : decode cX7_reachesAll 5 = .ok (.istore_n 2, 1) := by decide +kernel
theorem dX7_reachesAll_6 : decode cX7_reachesAll 6 = .ok (.iload_n 2, 1) := by decide +kernel
theorem dX7_reachesAll_7 : decode cX7_reachesAll 7 = .ok (.aload_n 0, 1) := by decide +kernel
theorem dX7_reachesAll_8 : decode cX7_reachesAll 8 = .ok (.getfield 28, 3) := by decide +kernel
theorem dX7_reachesAll_11 : decode cX7_reachesAll 11 = .ok (.getfield 40, 3) := by decide +kernel
theorem dX7_reachesAll_14 : decode cX7_reachesAll 14 = .ok (.if_icmp .ge 124, 3) := by decide +kernel
theorem dX7_reachesAll_17 : decode cX7_reachesAll 17 = .ok (.aload_n 0, 1) := by decide +kernel
theorem dX7_reachesAll_18 : decode cX7_reachesAll 18 = .ok (.getfield 28, 3) := by decide +kernel
theorem dX7_reachesAll_21 : decode cX7_reachesAll 21 = .ok (.getfield 46, 3) := by decide +kernel
theorem dX7_reachesAll_24 : decode cX7_reachesAll 24 = .ok (.iload_n 2, 1) := by decide +kernel
theorem dX7_reachesAll_25 : decode cX7_reachesAll 25 = .ok (.invokestatic 49, 3) := by decide +kernel
theorem dX7_reachesAll_28 : decode cX7_reachesAll 28 = .ok (.istore_n 3, 1) := by decide +kernel
theorem dX7_reachesAll_29 : decode cX7_reachesAll 29 = .ok (.iload_n 3, 1) := by decide +kernel
theorem dX7_reachesAll_30 : decode cX7_reachesAll 30 = .ok (.iload_n 1, 1) := by decide +kernel
theorem dX7_reachesAll_31 : decode cX7_reachesAll 31 = .ok (.if_icmp .le 6, 3) := by decide +kernel
theorem dX7_reachesAll_34 : decode cX7_reachesAll 34 = .ok (.goto 98, 3) := by decide +kernel
theorem dX7_reachesAll_37 : decode cX7_reachesAll 37 = .ok (.aload_n 0, 1) := by decide +kernel
theorem dX7_reachesAll_38 : decode cX7_reachesAll 38 = .ok (.iload_n 2, 1) := by decide +kernel
theorem dX7_reachesAll_39 : decode cX7_reachesAll 39 = .ok (.iload_n 3, 1) := by decide +kernel
theorem dX7_reachesAll_40 : decode cX7_reachesAll 40 = .ok (.invokevirtual 53, 3) := by decide +kernel
theorem dX7_reachesAll_43 : decode cX7_reachesAll 43 = .ok (.ifCond .eq 9, 3) := by decide +kernel
theorem dX7_reachesAll_46 : decode cX7_reachesAll 46 = .ok (.sipush 186, 3) := by decide +kernel
theorem dX7_reachesAll_49 : decode cX7_reachesAll 49 = .ok (.goto 4, 3) := by decide +kernel
theorem dX7_reachesAll_52 : decode cX7_reachesAll 52 = .ok (.iload_n 3, 1) := by decide +kernel
theorem dX7_reachesAll_53 : decode cX7_reachesAll 53 = .ok (.istore_n 1, 1) := by decide +kernel
theorem dX7_reachesAll_54 : decode cX7_reachesAll 54 = .ok (.iload_n 1, 1) := by decide +kernel
theorem dX7_reachesAll_55 : decode cX7_reachesAll 55 = .ok (.sipush 186, 3) := by decide +kernel
theorem dX7_reachesAll_58 : decode cX7_reachesAll 58 = .ok (.if_icmp .ne 74, 3) := by decide +kernel
theorem dX7_reachesAll_61 : decode cX7_reachesAll 61 = .ok (.aload_n 0, 1) := by decide +kernel
theorem dX7_reachesAll_62 : decode cX7_reachesAll 62 = .ok (.getfield 28, 3) := by decide +kernel
theorem dX7_reachesAll_65 : decode cX7_reachesAll 65 = .ok (.getfield 57, 3) := by decide +kernel
theorem dX7_reachesAll_68 : decode cX7_reachesAll 68 = .ok (.iload_n 2, 1) := by decide +kernel
theorem dX7_reachesAll_69 : decode cX7_reachesAll 69 = .ok (.invokestatic 49, 3) := by decide +kernel
theorem dX7_reachesAll_72 : decode cX7_reachesAll 72 = .ok (.ifCond .ne 60, 3) := by decide +kernel
theorem dX7_reachesAll_75 : decode cX7_reachesAll 75 = .ok (.aload_n 0, 1) := by decide +kernel
theorem dX7_reachesAll_76 : decode cX7_reachesAll 76 = .ok (.getfield 32, 3) := by decide +kernel
theorem dX7_reachesAll_79 : decode cX7_reachesAll 79 = .ok (.getfield 60, 3) := by decide +kernel
theorem dX7_reachesAll_82 : decode cX7_reachesAll 82 = .ok (.sipush 400, 3) := by decide +kernel
theorem dX7_reachesAll_85 : decode cX7_reachesAll 85 = .ok (.if_icmp .le 5, 3) := by decide +kernel
theorem dX7_reachesAll_88 : decode cX7_reachesAll 88 = .ok (.iconst 0, 1) := by decide +kernel
theorem dX7_reachesAll_89 : decode cX7_reachesAll 89 = .ok (.ireturn, 1) := by decide +kernel
theorem dX7_reachesAll_90 : decode cX7_reachesAll 90 = .ok (.aload_n 0, 1) := by decide +kernel
theorem dX7_reachesAll_91 : decode cX7_reachesAll 91 = .ok (.getfield 36, 3) := by decide +kernel
theorem dX7_reachesAll_94 : decode cX7_reachesAll 94 = .ok (.aload_n 0, 1) := by decide +kernel
theorem dX7_reachesAll_95 : decode cX7_reachesAll 95 = .ok (.getfield 28, 3) := by decide +kernel
theorem dX7_reachesAll_98 : decode cX7_reachesAll 98 = .ok (.getfield 65, 3) := by decide +kernel
theorem dX7_reachesAll_101 : decode cX7_reachesAll 101 = .ok (.iload_n 2, 1) := by decide +kernel
theorem dX7_reachesAll_102 : decode cX7_reachesAll 102 = .ok (.invokestatic 49, 3) := by decide +kernel
theorem dX7_reachesAll_105 : decode cX7_reachesAll 105 = .ok (.aload_n 0, 1) := by decide +kernel
theorem dX7_reachesAll_106 : decode cX7_reachesAll 106 = .ok (.getfield 18, 3) := by decide +kernel
theorem dX7_reachesAll_109 : decode cX7_reachesAll 109 = .ok (.iload_n 3, 1) := by decide +kernel
theorem dX7_reachesAll_110 : decode cX7_reachesAll 110 = .ok (.iconst 1, 1) := by decide +kernel
theorem dX7_reachesAll_111 : decode cX7_reachesAll 111 = .ok (.iadd, 1) := by decide +kernel
theorem dX7_reachesAll_112 : decode cX7_reachesAll 112 = .ok (.invokestatic 49, 3) := by decide +kernel
theorem dX7_reachesAll_115 : decode cX7_reachesAll 115 = .ok (.aload_n 0, 1) := by decide +kernel
theorem dX7_reachesAll_116 : decode cX7_reachesAll 116 = .ok (.getfield 21, 3) := by decide +kernel
theorem dX7_reachesAll_119 : decode cX7_reachesAll 119 = .ok (.iload_n 3, 1) := by decide +kernel
theorem dX7_reachesAll_120 : decode cX7_reachesAll 120 = .ok (.iconst 1, 1) := by decide +kernel
theorem dX7_reachesAll_121 : decode cX7_reachesAll 121 = .ok (.iadd, 1) := by decide +kernel
theorem dX7_reachesAll_122 : decode cX7_reachesAll 122 = .ok (.invokestatic 49, 3) := by decide +kernel
theorem dX7_reachesAll_125 : decode cX7_reachesAll 125 = .ok (.aload_n 0, 1) := by decide +kernel
theorem dX7_reachesAll_126 : decode cX7_reachesAll 126 = .ok (.getfield 32, 3) := by decide +kernel
theorem dX7_reachesAll_129 : decode cX7_reachesAll 129 = .ok (.invokevirtual 68, 3) := by decide +kernel
theorem dX7_reachesAll_132 : decode cX7_reachesAll 132 = .ok (.iinc 2 1, 3) := by decide +kernel
theorem dX7_reachesAll_135 : decode cX7_reachesAll 135 = .ok (.goto (-129), 3) := by decide +kernel
theorem dX7_reachesAll_138 : decode cX7_reachesAll 138 = .ok (.iconst 1, 1) := by decide +kernel
theorem dX7_reachesAll_139 : decode cX7_reachesAll 139 = .ok (.ireturn, 1) := by decide +kernel
theorem dX7_comesTo_0 : decode cX7_comesTo 0 = .ok (.aload_n 0, 1) := by decide +kernel
theorem dX7_comesTo_1 : decode cX7_comesTo 1 = .ok (.getfield 32, 3) := by decide +kernel
theorem dX7_comesTo_4 : decode cX7_comesTo 4 = .ok (.aload_n 0, 1) := by decide +kernel
theorem dX7_comesTo_5 : decode cX7_comesTo 5 = .ok (.getfield 9, 3) := by decide +kernel
theorem dX7_comesTo_8 : decode cX7_comesTo 8 = .ok (.iload_n 2, 1) := by decide +kernel
theorem dX7_comesTo_9 : decode cX7_comesTo 9 = .ok (.invokestatic 49, 3) := by decide +kernel
theorem dX7_comesTo_12 : decode cX7_comesTo 12 = .ok (.invokevirtual 74, 3) := by decide +kernel
theorem dX7_comesTo_15 : decode cX7_comesTo 15 = .ok (.aload_n 0, 1) := by decide +kernel
theorem dX7_comesTo_16 : decode cX7_comesTo 16 = .ok (.getfield 28, 3) := by decide +kernel
theorem dX7_comesTo_19 : decode cX7_comesTo 19 = .ok (.getfield 78, 3) := by decide +kernel
theorem dX7_comesTo_22 : decode cX7_comesTo 22 = .ok (.iload_n 1, 1) := by decide +kernel
theorem dX7_comesTo_23 : decode cX7_comesTo 23 = .ok (.invokestatic 49, 3) := by decide +kernel
theorem dX7_comesTo_26 : decode cX7_comesTo 26 = .ok (.istore_n 3, 1) := by decide +kernel
theorem dX7_comesTo_27 : decode cX7_comesTo 27 = .ok (.iload_n 3, 1) := by decide +kernel
theorem dX7_comesTo_28 : decode cX7_comesTo 28 = .ok (.iconst (-1), 1) := by decide +kernel
theorem dX7_comesTo_29 : decode cX7_comesTo 29 = .ok (.if_icmp .eq 56, 3) := by decide +kernel
theorem dX7_comesTo_32 : decode cX7_comesTo 32 = .ok (.aload_n 0, 1) := by decide +kernel
theorem dX7_comesTo_33 : decode cX7_comesTo 33 = .ok (.getfield 15, 3) := by decide +kernel
theorem dX7_comesTo_36 : decode cX7_comesTo 36 = .ok (.iload_n 2, 1) := by decide +kernel
theorem dX7_comesTo_37 : decode cX7_comesTo 37 = .ok (.invokestatic 49, 3) := by decide +kernel
theorem dX7_comesTo_40 : decode cX7_comesTo 40 = .ok (.istore 4, 2) := by decide +kernel
theorem dX7_comesTo_42 : decode cX7_comesTo 42 = .ok (.aload_n 0, 1) := by decide +kernel
theorem dX7_comesTo_43 : decode cX7_comesTo 43 = .ok (.getfield 32, 3) := by decide +kernel
theorem dX7_comesTo_46 : decode cX7_comesTo 46 = .ok (.iload 4, 2) := by decide +kernel
theorem dX7_comesTo_48 : decode cX7_comesTo 48 = .ok (.invokevirtual 81, 3) := by decide +kernel
theorem dX7_comesTo_51 : decode cX7_comesTo 51 = .ok (.ifCond .eq 16, 3) := by decide +kernel
theorem dX7_comesTo_54 : decode cX7_comesTo 54 = .ok (.aload_n 0, 1) := by decide +kernel
theorem dX7_comesTo_55 : decode cX7_comesTo 55 = .ok (.getfield 32, 3) := by decide +kernel
theorem dX7_comesTo_58 : decode cX7_comesTo 58 = .ok (.iload 4, 2) := by decide +kernel
theorem dX7_comesTo_60 : decode cX7_comesTo 60 = .ok (.iload_n 3, 1) := by decide +kernel
theorem dX7_comesTo_61 : decode cX7_comesTo 61 = .ok (.invokevirtual 85, 3) := by decide +kernel
theorem dX7_comesTo_64 : decode cX7_comesTo 64 = .ok (.goto 21, 3) := by decide +kernel
theorem dX7_comesTo_67 : decode cX7_comesTo 67 = .ok (.aload_n 0, 1) := by decide +kernel
theorem dX7_comesTo_68 : decode cX7_comesTo 68 = .ok (.getfield 32, 3) := by decide +kernel
theorem dX7_comesTo_71 : decode cX7_comesTo 71 = .ok (.getfield 89, 3) := by decide +kernel
theorem dX7_comesTo_74 : decode cX7_comesTo 74 = .ok (.iload 4, 2) := by decide +kernel
theorem dX7_comesTo_76 : decode cX7_comesTo 76 = .ok (.invokestatic 49, 3) := by decide +kernel
theorem dX7_comesTo_79 : decode cX7_comesTo 79 = .ok (.iload_n 3, 1) := by decide +kernel
theorem dX7_comesTo_80 : decode cX7_comesTo 80 = .ok (.if_icmp .eq 5, 3) := by decide +kernel
theorem dX7_comesTo_83 : decode cX7_comesTo 83 = .ok (.iconst 0, 1) := by decide +kernel
theorem dX7_comesTo_84 : decode cX7_comesTo 84 = .ok (.ireturn, 1) := by decide +kernel
theorem dX7_comesTo_85 : decode cX7_comesTo 85 = .ok (.aload_n 0, 1) := by decide +kernel
theorem dX7_comesTo_86 : decode cX7_comesTo 86 = .ok (.getfield 9, 3) := by decide +kernel
theorem dX7_comesTo_89 : decode cX7_comesTo 89 = .ok (.iload_n 2, 1) := by decide +kernel
theorem dX7_comesTo_90 : decode cX7_comesTo 90 = .ok (.iconst 1, 1) := by decide +kernel
theorem dX7_comesTo_91 : decode cX7_comesTo 91 = .ok (.iadd, 1) := by decide +kernel
theorem dX7_comesTo_92 : decode cX7_comesTo 92 = .ok (.aload_n 0, 1) := by decide +kernel
theorem dX7_comesTo_93 : decode cX7_comesTo 93 = .ok (.getfield 32, 3) := by decide +kernel
theorem dX7_comesTo_96 : decode cX7_comesTo 96 = .ok (.getfield 92, 3) := by decide +kernel
theorem dX7_comesTo_99 : decode cX7_comesTo 99 = .ok (.invokestatic 95, 3) := by decide +kernel
theorem dX7_comesTo_102 : decode cX7_comesTo 102 = .ok (.aload_n 0, 1) := by decide +kernel
theorem dX7_comesTo_103 : decode cX7_comesTo 103 = .ok (.getfield 18, 3) := by decide +kernel
theorem dX7_comesTo_106 : decode cX7_comesTo 106 = .ok (.iload_n 2, 1) := by decide +kernel
theorem dX7_comesTo_107 : decode cX7_comesTo 107 = .ok (.iconst 1, 1) := by decide +kernel
theorem dX7_comesTo_108 : decode cX7_comesTo 108 = .ok (.iadd, 1) := by decide +kernel
theorem dX7_comesTo_109 : decode cX7_comesTo 109 = .ok (.aload_n 0, 1) := by decide +kernel
theorem dX7_comesTo_110 : decode cX7_comesTo 110 = .ok (.getfield 18, 3) := by decide +kernel
theorem dX7_comesTo_113 : decode cX7_comesTo 113 = .ok (.iload_n 2, 1) := by decide +kernel
theorem dX7_comesTo_114 : decode cX7_comesTo 114 = .ok (.invokestatic 49, 3) := by decide +kernel
theorem dX7_comesTo_117 : decode cX7_comesTo 117 = .ok (.invokestatic 95, 3) := by decide +kernel
theorem dX7_comesTo_120 : decode cX7_comesTo 120 = .ok (.aload_n 0, 1) := by decide +kernel
theorem dX7_comesTo_121 : decode cX7_comesTo 121 = .ok (.getfield 21, 3) := by decide +kernel
theorem dX7_comesTo_124 : decode cX7_comesTo 124 = .ok (.iload_n 2, 1) := by decide +kernel
theorem dX7_comesTo_125 : decode cX7_comesTo 125 = .ok (.iconst 1, 1) := by decide +kernel
theorem dX7_comesTo_126 : decode cX7_comesTo 126 = .ok (.iadd, 1) := by decide +kernel
theorem dX7_comesTo_127 : decode cX7_comesTo 127 = .ok (.aload_n 0, 1) := by decide +kernel
theorem dX7_comesTo_128 : decode cX7_comesTo 128 = .ok (.getfield 21, 3) := by decide +kernel
theorem dX7_comesTo_131 : decode cX7_comesTo 131 = .ok (.iload_n 2, 1) := by decide +kernel
theorem dX7_comesTo_132 : decode cX7_comesTo 132 = .ok (.invokestatic 49, 3) := by decide +kernel
theorem dX7_comesTo_135 : decode cX7_comesTo 135 = .ok (.invokestatic 95, 3) := by decide +kernel
theorem dX7_comesTo_138 : decode cX7_comesTo 138 = .ok (.aload_n 0, 1) := by decide +kernel
theorem dX7_comesTo_139 : decode cX7_comesTo 139 = .ok (.getfield 28, 3) := by decide +kernel
theorem dX7_comesTo_142 : decode cX7_comesTo 142 = .ok (.getfield 57, 3) := by decide +kernel
theorem dX7_comesTo_145 : decode cX7_comesTo 145 = .ok (.iload_n 1, 1) := by decide +kernel
theorem dX7_comesTo_146 : decode cX7_comesTo 146 = .ok (.invokestatic 49, 3) := by decide +kernel
theorem dX7_comesTo_149 : decode cX7_comesTo 149 = .ok (.iconst 1, 1) := by decide +kernel
theorem dX7_comesTo_150 : decode cX7_comesTo 150 = .ok (.if_icmp .ne 21, 3) := by decide +kernel
theorem dX7_comesTo_153 : decode cX7_comesTo 153 = .ok (.aload_n 0, 1) := by decide +kernel
theorem dX7_comesTo_154 : decode cX7_comesTo 154 = .ok (.aload_n 0, 1) := by decide +kernel
theorem dX7_comesTo_155 : decode cX7_comesTo 155 = .ok (.getfield 28, 3) := by decide +kernel
theorem dX7_comesTo_158 : decode cX7_comesTo 158 = .ok (.getfield 65, 3) := by decide +kernel
theorem dX7_comesTo_161 : decode cX7_comesTo 161 = .ok (.iload_n 1, 1) := by decide +kernel
theorem dX7_comesTo_162 : decode cX7_comesTo 162 = .ok (.invokestatic 49, 3) := by decide +kernel
theorem dX7_comesTo_165 : decode cX7_comesTo 165 = .ok (.iload_n 2, 1) := by decide +kernel
theorem dX7_comesTo_166 : decode cX7_comesTo 166 = .ok (.iconst 1, 1) := by decide +kernel
theorem dX7_comesTo_167 : decode cX7_comesTo 167 = .ok (.iadd, 1) := by decide +kernel
theorem dX7_comesTo_168 : decode cX7_comesTo 168 = .ok (.invokevirtual 99, 3) := by decide +kernel
theorem dX7_comesTo_171 : decode cX7_comesTo 171 = .ok (.iconst 1, 1) := by decide +kernel
theorem dX7_comesTo_172 : decode cX7_comesTo 172 = .ok (.ireturn, 1) := by decide +kernel
theorem dX7_ask_0 : decode cX7_ask 0 = .ok (.aload_n 0, 1) := by decide +kernel
theorem dX7_ask_1 : decode cX7_ask 1 = .ok (.getfield 24, 3) := by decide +kernel
theorem dX7_ask_4 : decode cX7_ask 4 = .ok (.getfield 102, 3) := by decide +kernel
theorem dX7_ask_7 : decode cX7_ask 7 = .ok (.iload_n 1, 1) := by decide +kernel
theorem dX7_ask_8 : decode cX7_ask 8 = .ok (.invokestatic 49, 3) := by decide +kernel
theorem dX7_ask_11 : decode cX7_ask 11 = .ok (.istore_n 3, 1) := by decide +kernel
theorem dX7_ask_12 : decode cX7_ask 12 = .ok (.iload_n 3, 1) := by decide +kernel
theorem dX7_ask_13 : decode cX7_ask 13 = .ok (.iconst (-1), 1) := by decide +kernel
theorem dX7_ask_14 : decode cX7_ask 14 = .ok (.if_icmp .ne 7, 3) := by decide +kernel
theorem dX7_ask_17 : decode cX7_ask 17 = .ok (.iconst (-1), 1) := by decide +kernel
theorem dX7_ask_18 : decode cX7_ask 18 = .ok (.goto 23, 3) := by decide +kernel
theorem dX7_ask_21 : decode cX7_ask 21 = .ok (.aload_n 0, 1) := by decide +kernel
theorem dX7_ask_22 : decode cX7_ask 22 = .ok (.getfield 15, 3) := by decide +kernel
theorem dX7_ask_25 : decode cX7_ask 25 = .ok (.aload_n 0, 1) := by decide +kernel
theorem dX7_ask_26 : decode cX7_ask 26 = .ok (.getfield 24, 3) := by decide +kernel
theorem dX7_ask_29 : decode cX7_ask 29 = .ok (.getfield 107, 3) := by decide +kernel
theorem dX7_ask_32 : decode cX7_ask 32 = .ok (.iload_n 3, 1) := by decide +kernel
theorem dX7_ask_33 : decode cX7_ask 33 = .ok (.invokestatic 49, 3) := by decide +kernel
theorem dX7_ask_36 : decode cX7_ask 36 = .ok (.iconst 1, 1) := by decide +kernel
theorem dX7_ask_37 : decode cX7_ask 37 = .ok (.iadd, 1) := by decide +kernel
theorem dX7_ask_38 : decode cX7_ask 38 = .ok (.invokestatic 49, 3) := by decide +kernel
theorem dX7_ask_41 : decode cX7_ask 41 = .ok (.istore 4, 2) := by decide +kernel
theorem dX7_ask_43 : decode cX7_ask 43 = .ok (.aload_n 0, 1) := by decide +kernel
theorem dX7_ask_44 : decode cX7_ask 44 = .ok (.getfield 32, 3) := by decide +kernel
theorem dX7_ask_47 : decode cX7_ask 47 = .ok (.iload 4, 2) := by decide +kernel
theorem dX7_ask_49 : decode cX7_ask 49 = .ok (.aload_n 0, 1) := by decide +kernel
theorem dX7_ask_50 : decode cX7_ask 50 = .ok (.getfield 24, 3) := by decide +kernel
theorem dX7_ask_53 : decode cX7_ask 53 = .ok (.getfield 110, 3) := by decide +kernel
theorem dX7_ask_56 : decode cX7_ask 56 = .ok (.iload_n 1, 1) := by decide +kernel
theorem dX7_ask_57 : decode cX7_ask 57 = .ok (.invokestatic 49, 3) := by decide +kernel
theorem dX7_ask_60 : decode cX7_ask 60 = .ok (.invokevirtual 113, 3) := by decide +kernel
theorem dX7_ask_63 : decode cX7_ask 63 = .ok (.istore 5, 2) := by decide +kernel
theorem dX7_ask_65 : decode cX7_ask 65 = .ok (.aload_n 0, 1) := by decide +kernel
theorem dX7_ask_66 : decode cX7_ask 66 = .ok (.getfield 15, 3) := by decide +kernel
theorem dX7_ask_69 : decode cX7_ask 69 = .ok (.iload_n 2, 1) := by decide +kernel
theorem dX7_ask_70 : decode cX7_ask 70 = .ok (.iload 5, 2) := by decide +kernel
theorem dX7_ask_72 : decode cX7_ask 72 = .ok (.invokestatic 95, 3) := by decide +kernel
theorem dX7_ask_75 : decode cX7_ask 75 = .ok (.aload_n 0, 1) := by decide +kernel
theorem dX7_ask_76 : decode cX7_ask 76 = .ok (.getfield 18, 3) := by decide +kernel
theorem dX7_ask_79 : decode cX7_ask 79 = .ok (.iload_n 2, 1) := by decide +kernel
theorem dX7_ask_80 : decode cX7_ask 80 = .ok (.aload_n 0, 1) := by decide +kernel
theorem dX7_ask_81 : decode cX7_ask 81 = .ok (.getfield 18, 3) := by decide +kernel
theorem dX7_ask_84 : decode cX7_ask 84 = .ok (.iload_n 2, 1) := by decide +kernel
theorem dX7_ask_85 : decode cX7_ask 85 = .ok (.invokestatic 49, 3) := by decide +kernel
theorem dX7_ask_88 : decode cX7_ask 88 = .ok (.iconst 1, 1) := by decide +kernel
theorem dX7_ask_89 : decode cX7_ask 89 = .ok (.iadd, 1) := by decide +kernel
theorem dX7_ask_90 : decode cX7_ask 90 = .ok (.invokestatic 95, 3) := by decide +kernel
theorem dX7_ask_93 : decode cX7_ask 93 = .ok (.aload_n 0, 1) := by decide +kernel
theorem dX7_ask_94 : decode cX7_ask 94 = .ok (.getfield 32, 3) := by decide +kernel
theorem dX7_ask_97 : decode cX7_ask 97 = .ok (.iload 5, 2) := by decide +kernel
theorem dX7_ask_99 : decode cX7_ask 99 = .ok (.invokevirtual 81, 3) := by decide +kernel
theorem dX7_ask_102 : decode cX7_ask 102 = .ok (.ifCond .eq 21, 3) := by decide +kernel
theorem dX7_ask_105 : decode cX7_ask 105 = .ok (.aload_n 0, 1) := by decide +kernel
theorem dX7_ask_106 : decode cX7_ask 106 = .ok (.getfield 21, 3) := by decide +kernel
theorem dX7_ask_109 : decode cX7_ask 109 = .ok (.iload_n 2, 1) := by decide +kernel
theorem dX7_ask_110 : decode cX7_ask 110 = .ok (.aload_n 0, 1) := by decide +kernel
theorem dX7_ask_111 : decode cX7_ask 111 = .ok (.getfield 21, 3) := by decide +kernel
theorem dX7_ask_114 : decode cX7_ask 114 = .ok (.iload_n 2, 1) := by decide +kernel
theorem dX7_ask_115 : decode cX7_ask 115 = .ok (.invokestatic 49, 3) := by decide +kernel
theorem dX7_ask_118 : decode cX7_ask 118 = .ok (.iconst 1, 1) := by decide +kernel
theorem dX7_ask_119 : decode cX7_ask 119 = .ok (.iadd, 1) := by decide +kernel
theorem dX7_ask_120 : decode cX7_ask 120 = .ok (.invokestatic 95, 3) := by decide +kernel
theorem dX7_ask_123 : decode cX7_ask 123 = .ok (.return_, 1) := by decide +kernel
end
section
theorem dX8_init_0 : decode cX8_init 0 = .ok (.aload_n 0, 1) := by decide +kernel
theorem dX8_init_1 : decode cX8_init 1 = .ok (.invokespecial 3, 3) := by decide +kernel
theorem dX8_init_4 : decode cX8_init 4 = .ok (.aload_n 0, 1) := by decide +kernel
theorem dX8_init_5 : decode cX8_init 5 = .ok (.new 9, 3) := by decide +kernel
theorem dX8_init_8 : decode cX8_init 8 = .ok (.dup, 1) := by decide +kernel
theorem dX8_init_9 : decode cX8_init 9 = .ok (.invokespecial 11, 3) := by decide +kernel
theorem dX8_init_12 : decode cX8_init 12 = .ok (.putfield 12, 3) := by decide +kernel
theorem dX8_init_15 : decode cX8_init 15 = .ok (.aload_n 0, 1) := by decide +kernel
theorem dX8_init_16 : decode cX8_init 16 = .ok (.new 16, 3) := by decide +kernel
theorem dX8_init_19 : decode cX8_init 19 = .ok (.dup, 1) := by decide +kernel
theorem dX8_init_20 : decode cX8_init 20 = .ok (.invokespecial 18, 3) := by decide +kernel
theorem dX8_init_23 : decode cX8_init 23 = .ok (.putfield 19, 3) := by decide +kernel
theorem dX8_init_26 : decode cX8_init 26 = .ok (.aload_n 0, 1) := by decide +kernel
theorem dX8_init_27 : decode cX8_init 27 = .ok (.new 23, 3) := by decide +kernel
theorem dX8_init_30 : decode cX8_init 30 = .ok (.dup, 1) := by decide +kernel
theorem dX8_init_31 : decode cX8_init 31 = .ok (.invokespecial 25, 3) := by decide +kernel
theorem dX8_init_34 : decode cX8_init 34 = .ok (.putfield 26, 3) := by decide +kernel
theorem dX8_init_37 : decode cX8_init 37 = .ok (.aload_n 0, 1) := by decide +kernel
theorem dX8_init_38 : decode cX8_init 38 = .ok (.new 30, 3) := by decide +kernel
theorem dX8_init_41 : decode cX8_init 41 = .ok (.dup, 1) := by decide +kernel
theorem dX8_init_42 : decode cX8_init 42 = .ok (.invokespecial 32, 3) := by decide +kernel
theorem dX8_init_45 : decode cX8_init 45 = .ok (.putfield 33, 3) := by decide +kernel
theorem dX8_init_48 : decode cX8_init 48 = .ok (.aload_n 0, 1) := by decide +kernel
theorem dX8_init_49 : decode cX8_init 49 = .ok (.new 37, 3) := by decide +kernel
theorem dX8_init_52 : decode cX8_init 52 = .ok (.dup, 1) := by decide +kernel
theorem dX8_init_53 : decode cX8_init 53 = .ok (.aload_n 0, 1) := by decide +kernel
theorem dX8_init_54 : decode cX8_init 54 = .ok (.getfield 26, 3) := by decide +kernel
theorem dX8_init_57 : decode cX8_init 57 = .ok (.aload_n 0, 1) := by decide +kernel
theorem dX8_init_58 : decode cX8_init 58 = .ok (.getfield 33, 3) := by decide +kernel
theorem dX8_init_61 : decode cX8_init 61 = .ok (.invokespecial 39, 3) := by decide +kernel
theorem dX8_init_64 : decode cX8_init 64 = .ok (.putfield 42, 3) := by decide +kernel
theorem dX8_init_67 : decode cX8_init 67 = .ok (.aload_n 0, 1) := by decide +kernel
theorem dX8_init_68 : decode cX8_init 68 = .ok (.new 46, 3) := by decide +kernel
theorem dX8_init_71 : decode cX8_init 71 = .ok (.dup, 1) := by decide +kernel
theorem dX8_init_72 : decode cX8_init 72 = .ok (.aload_n 0, 1) := by decide +kernel
theorem dX8_init_73 : decode cX8_init 73 = .ok (.getfield 12, 3) := by decide +kernel
theorem dX8_init_76 : decode cX8_init 76 = .ok (.invokespecial 48, 3) := by decide +kernel
theorem dX8_init_79 : decode cX8_init 79 = .ok (.putfield 51, 3) := by decide +kernel
theorem dX8_init_82 : decode cX8_init 82 = .ok (.aload_n 0, 1) := by decide +kernel
theorem dX8_init_83 : decode cX8_init 83 = .ok (.new 55, 3) := by decide +kernel
theorem dX8_init_86 : decode cX8_init 86 = .ok (.dup, 1) := by decide +kernel
theorem dX8_init_87 : decode cX8_init 87 = .ok (.invokespecial 57, 3) := by decide +kernel
theorem dX8_init_90 : decode cX8_init 90 = .ok (.putfield 58, 3) := by decide +kernel
theorem dX8_init_93 : decode cX8_init 93 = .ok (.aload_n 0, 1) := by decide +kernel
theorem dX8_init_94 : decode cX8_init 94 = .ok (.new 62, 3) := by decide +kernel
theorem dX8_init_97 : decode cX8_init 97 = .ok (.dup, 1) := by decide +kernel
theorem dX8_init_98 : decode cX8_init 98 = .ok (.aload_n 0, 1) := by decide +kernel
theorem dX8_init_99 : decode cX8_init 99 = .ok (.getfield 26, 3) := by decide +kernel
theorem dX8_init_102 : decode cX8_init 102 = .ok (.aload_n 0, 1) := by decide +kernel
theorem dX8_init_103 : decode cX8_init 103 = .ok (.getfield 33, 3) := by decide +kernel
theorem dX8_init_106 : decode cX8_init 106 = .ok (.aload_n 0, 1) := by decide +kernel
theorem dX8_init_107 : decode cX8_init 107 = .ok (.getfield 51, 3) := by decide +kernel
theorem dX8_init_110 : decode cX8_init 110 = .ok (.aload_n 0, 1) := by decide +kernel
theorem dX8_init_111 : decode cX8_init 111 = .ok (.getfield 58, 3) := by decide +kernel
theorem dX8_init_114 : decode cX8_init 114 = .ok (.invokespecial 64, 3) := by decide +kernel
theorem dX8_init_117 : decode cX8_init 117 = .ok (.putfield 67, 3) := by decide +kernel
theorem dX8_init_120 : decode cX8_init 120 = .ok (.return_, 1) := by decide +kernel
theorem dX8_type_0 : decode cX8_type 0 = .ok (.aload_n 0, 1) := by decide +kernel
theorem dX8_type_1 : decode cX8_type 1 = .ok (.getfield 12, 3) := by decide +kernel
theorem dX8_type_4 : decode cX8_type 4 = .ok (.invokevirtual 71, 3) := by decide +kernel
theorem dX8_type_7 : decode cX8_type 7 = .ok (.ireturn, 1) := by decide +kernel
theorem dX8_constructor_0 : decode cX8_constructor 0 = .ok (.aload_n 0, 1) := by decide +kernel
theorem dX8_constructor_1 : decode cX8_constructor 1 = .ok (.getfield 12, 3) := by decide +kernel
theorem dX8_constructor_4 : decode cX8_constructor 4 = .ok (.iload_n 1, 1) := by decide +kernel
theorem dX8_constructor_5 : decode cX8_constructor 5 = .ok (.iload_n 2, 1) := by decide +kernel
theorem dX8_constructor_6 : decode cX8_constructor 6 = .ok (.iload_n 3, 1) := by decide +kernel
theorem dX8_constructor_7 : decode cX8_constructor 7 = .ok (.invokevirtual 75, 3) := by decide +kernel
theorem dX8_constructor_10 : decode cX8_constructor 10 = .ok (.istore 4, 2) := by decide +kernel
theorem dX8_constructor_12 : decode cX8_constructor 12 = .ok (.iload 4, 2) := by decide +kernel
theorem dX8_constructor_14 : decode cX8_constructor 14 = .ok (.iconst (-1), 1) := by decide +kernel
theorem dX8_constructor_15 : decode cX8_constructor 15 = .ok (.if_icmp .eq 10, 3) := by decide +kernel
theorem dX8_constructor_18 : decode cX8_constructor 18 = .ok (.aload_n 0, 1) := by decide +kernel
theorem dX8_constructor_19 : decode cX8_constructor 19 = .ok (.getfield 58, 3) := by decide +kernel
theorem dX8_constructor_22 : decode cX8_constructor 22 = .ok (.invokevirtual 79, 3) := by decide +kernel
theorem dX8_constructor_25 : decode cX8_constructor 25 = .ok (.iload 4, 2) := by decide +kernel
theorem dX8_constructor_27 : decode cX8_constructor 27 = .ok (.ireturn, 1) := by decide +kernel
theorem dX8_begin_0 : decode cX8_begin 0 = .ok (.aload_n 0, 1) := by decide +kernel
theorem dX8_begin_1 : decode cX8_begin 1 = .ok (.getfield 12, 3) := by decide +kernel
theorem dX8_begin_4 : decode cX8_begin 4 = .ok (.iload_n 1, 1) := by decide +kernel
theorem dX8_begin_5 : decode cX8_begin 5 = .ok (.iload_n 2, 1) := by decide +kernel
theorem dX8_begin_6 : decode cX8_begin 6 = .ok (.invokevirtual 82, 3) := by decide +kernel
theorem dX8_begin_9 : decode cX8_begin 9 = .ok (.ifCond .ne 5, 3) := by decide +kernel
theorem dX8_begin_12 : decode cX8_begin 12 = .ok (.iconst 0, 1) := by decide +kernel
theorem dX8_begin_13 : decode cX8_begin 13 = .ok (.ireturn, 1) := by decide +kernel
theorem dX8_begin_14 : decode cX8_begin 14 = .ok (.aload_n 0, 1) := by decide +kernel
theorem dX8_begin_15 : decode cX8_begin 15 = .ok (.getfield 26, 3) := by decide +kernel
theorem dX8_begin_18 : decode cX8_begin 18 = .ok (.invokevirtual 86, 3) := by decide +kernel
theorem dX8_begin_21 : decode cX8_begin 21 = .ok (.aload_n 0, 1) := by decide +kernel
theorem dX8_begin_22 : decode cX8_begin 22 = .ok (.iconst 1, 1) := by decide +kernel
theorem dX8_begin_23 : decode cX8_begin 23 = .ok (.putfield 87, 3) := by decide +kernel
theorem dX8_begin_26 : decode cX8_begin 26 = .ok (.aload_n 0, 1) := by decide +kernel
theorem dX8_begin_27 : decode cX8_begin 27 = .ok (.getfield 58, 3) := by decide +kernel
theorem dX8_begin_30 : decode cX8_begin 30 = .ok (.invokevirtual 79, 3) := by decide +kernel
theorem dX8_begin_33 : decode cX8_begin 33 = .ok (.iconst 1, 1) := by decide +kernel
theorem dX8_begin_34 : decode cX8_begin 34 = .ok (.ireturn, 1) := by decide +kernel
theorem dX8_put_0 : decode cX8_put 0 = .ok (.aload_n 0, 1) := by decide +kernel
theorem dX8_put_1 : decode cX8_put 1 = .ok (.getfield 19, 3) := by decide +kernel
theorem dX8_put_4 : decode cX8_put 4 = .ok (.iload_n 1, 1) := by decide +kernel
theorem dX8_put_5 : decode cX8_put 5 = .ok (.invokevirtual 91, 3) := by decide +kernel
theorem dX8_put_8 : decode cX8_put 8 = .ok (.ireturn, 1) := by decide +kernel
theorem dX8_rule_0 : decode cX8_rule 0 = .ok (.aload_n 0, 1) := by decide +kernel
theorem dX8_rule_1 : decode cX8_rule 1 = .ok (.getfield 19, 3) := by decide +kernel
theorem dX8_rule_4 : decode cX8_rule 4 = .ok (.invokevirtual 95, 3) := by decide +kernel
theorem dX8_rule_7 : decode cX8_rule 7 = .ok (.istore_n 1, 1) := by decide +kernel
theorem dX8_rule_8 : decode cX8_rule 8 = .ok (.aload_n 0, 1) := by decide +kernel
theorem dX8_rule_9 : decode cX8_rule 9 = .ok (.getfield 12, 3) := by decide +kernel
theorem dX8_rule_12 : decode cX8_rule 12 = .ok (.invokevirtual 98, 3) := by decide +kernel
theorem dX8_rule_15 : decode cX8_rule 15 = .ok (.ifCond .eq 14, 3) := by decide +kernel
theorem dX8_rule_18 : decode cX8_rule 18 = .ok (.aload_n 0, 1) := by decide +kernel
theorem dX8_rule_19 : decode cX8_rule 19 = .ok (.getfield 26, 3) := by decide +kernel
theorem dX8_rule_22 : decode cX8_rule 22 = .ok (.iload_n 1, 1) := by decide +kernel
theorem dX8_rule_23 : decode cX8_rule 23 = .ok (.invokevirtual 102, 3) := by decide +kernel
theorem dX8_rule_26 : decode cX8_rule 26 = .ok (.ifCond .ne 5, 3) := by decide +kernel
theorem dX8_rule_29 : decode cX8_rule 29 = .ok (.iconst (-1), 1) := by decide +kernel
theorem dX8_rule_30 : decode cX8_rule 30 = .ok (.ireturn, 1) := by decide +kernel
theorem dX8_rule_31 : decode cX8_rule 31 = .ok (.aload_n 0, 1) := by decide +kernel
theorem dX8_rule_32 : decode cX8_rule 32 = .ok (.getfield 19, 3) := by decide +kernel
theorem dX8_rule_35 : decode cX8_rule 35 = .ok (.iload_n 1, 1) := by decide +kernel
theorem dX8_rule_36 : decode cX8_rule 36 = .ok (.aload_n 0, 1) := by decide +kernel
theorem dX8_rule_37 : decode cX8_rule 37 = .ok (.getfield 12, 3) := by decide +kernel
theorem dX8_rule_40 : decode cX8_rule 40 = .ok (.iconst 0, 1) := by decide +kernel
theorem dX8_rule_41 : decode cX8_rule 41 = .ok (.invokevirtual 106, 3) := by decide +kernel
theorem dX8_rule_44 : decode cX8_rule 44 = .ok (.istore_n 2, 1) := by decide +kernel
theorem dX8_rule_45 : decode cX8_rule 45 = .ok (.iload_n 2, 1) := by decide +kernel
theorem dX8_rule_46 : decode cX8_rule 46 = .ok (.iconst (-1), 1) := by decide +kernel
theorem dX8_rule_47 : decode cX8_rule 47 = .ok (.if_icmp .eq 8, 3) := by decide +kernel
theorem dX8_rule_50 : decode cX8_rule 50 = .ok (.bipush (-2), 2) := by decide +kernel
theorem dX8_rule_52 : decode cX8_rule 52 = .ok (.iload_n 2, 1) := by decide +kernel
theorem dX8_rule_53 : decode cX8_rule 53 = .ok (.isub, 1) := by decide +kernel
theorem dX8_rule_54 : decode cX8_rule 54 = .ok (.ireturn, 1) := by decide +kernel
theorem dX8_rule_55 : decode cX8_rule 55 = .ok (.aload_n 0, 1) := by decide +kernel
theorem dX8_rule_56 : decode cX8_rule 56 = .ok (.getfield 26, 3) := by decide +kernel
theorem dX8_rule_59 : decode cX8_rule 59 = .ok (.aload_n 0, 1) := by decide +kernel
theorem dX8_rule_60 : decode cX8_rule 60 = .ok (.getfield 19, 3) := by decide +kernel
theorem dX8_rule_63 : decode cX8_rule 63 = .ok (.iload_n 1, 1) := by decide +kernel
theorem dX8_rule_64 : decode cX8_rule 64 = .ok (.invokevirtual 110, 3) := by decide +kernel
theorem dX8_rule_67 : decode cX8_rule 67 = .ok (.istore_n 3, 1) := by decide +kernel
theorem dX8_rule_68 : decode cX8_rule 68 = .ok (.aload_n 0, 1) := by decide +kernel
theorem dX8_rule_69 : decode cX8_rule 69 = .ok (.iconst 1, 1) := by decide +kernel
theorem dX8_rule_70 : decode cX8_rule 70 = .ok (.putfield 87, 3) := by decide +kernel
theorem dX8_rule_73 : decode cX8_rule 73 = .ok (.aload_n 0, 1) := by decide +kernel
theorem dX8_rule_74 : decode cX8_rule 74 = .ok (.getfield 58, 3) := by decide +kernel
theorem dX8_rule_77 : decode cX8_rule 77 = .ok (.invokevirtual 79, 3) := by decide +kernel
theorem dX8_rule_80 : decode cX8_rule 80 = .ok (.iload_n 3, 1) := by decide +kernel
theorem dX8_rule_81 : decode cX8_rule 81 = .ok (.ireturn, 1) := by decide +kernel
theorem dX8_lead_0 : decode cX8_lead 0 = .ok (.aload_n 0, 1) := by decide +kernel
theorem dX8_lead_1 : decode cX8_lead 1 = .ok (.getfield 19, 3) := by decide +kernel
theorem dX8_lead_4 : decode cX8_lead 4 = .ok (.invokevirtual 95, 3) := by decide +kernel
theorem dX8_lead_7 : decode cX8_lead 7 = .ok (.istore_n 1, 1) := by decide +kernel
theorem dX8_lead_8 : decode cX8_lead 8 = .ok (.aload_n 0, 1) := by decide +kernel
theorem dX8_lead_9 : decode cX8_lead 9 = .ok (.getfield 12, 3) := by decide +kernel
theorem dX8_lead_12 : decode cX8_lead 12 = .ok (.invokevirtual 98, 3) := by decide +kernel
theorem dX8_lead_15 : decode cX8_lead 15 = .ok (.ifCond .ne 5, 3) := by decide +kernel
theorem dX8_lead_18 : decode cX8_lead 18 = .ok (.iconst (-1), 1) := by decide +kernel
theorem dX8_lead_19 : decode cX8_lead 19 = .ok (.ireturn, 1) := by decide +kernel
theorem dX8_lead_20 : decode cX8_lead 20 = .ok (.aload_n 0, 1) := by decide +kernel
theorem dX8_lead_21 : decode cX8_lead 21 = .ok (.getfield 58, 3) := by decide +kernel
theorem dX8_lead_24 : decode cX8_lead 24 = .ok (.invokevirtual 79, 3) := by decide +kernel
theorem dX8_lead_27 : decode cX8_lead 27 = .ok (.aload_n 0, 1) := by decide +kernel
theorem dX8_lead_28 : decode cX8_lead 28 = .ok (.getfield 19, 3) := by decide +kernel
theorem dX8_lead_31 : decode cX8_lead 31 = .ok (.iload_n 1, 1) := by decide +kernel
theorem dX8_lead_32 : decode cX8_lead 32 = .ok (.aload_n 0, 1) := by decide +kernel
theorem dX8_lead_33 : decode cX8_lead 33 = .ok (.getfield 12, 3) := by decide +kernel
theorem dX8_lead_36 : decode cX8_lead 36 = .ok (.iconst 1, 1) := by decide +kernel
theorem dX8_lead_37 : decode cX8_lead 37 = .ok (.invokevirtual 106, 3) := by decide +kernel
theorem dX8_lead_40 : decode cX8_lead 40 = .ok (.istore_n 2, 1) := by decide +kernel
theorem dX8_lead_41 : decode cX8_lead 41 = .ok (.iload_n 2, 1) := by decide +kernel
theorem dX8_lead_42 : decode cX8_lead 42 = .ok (.iconst (-1), 1) := by decide +kernel
theorem dX8_lead_43 : decode cX8_lead 43 = .ok (.if_icmp .eq 8, 3) := by decide +kernel
theorem dX8_lead_46 : decode cX8_lead 46 = .ok (.bipush (-2), 2) := by decide +kernel
theorem dX8_lead_48 : decode cX8_lead 48 = .ok (.iload_n 2, 1) := by decide +kernel
theorem dX8_lead_49 : decode cX8_lead 49 = .ok (.isub, 1) := by decide +kernel
theorem dX8_lead_50 : decode cX8_lead 50 = .ok (.ireturn, 1) := by decide +kernel
theorem dX8_lead_51 : decode cX8_lead 51 = .ok (.aload_n 0, 1) := by decide +kernel
theorem dX8_lead_52 : decode cX8_lead 52 = .ok (.getfield 51, 3) := by decide +kernel
theorem dX8_lead_55 : decode cX8_lead 55 = .ok (.aload_n 0, 1) := by decide +kernel
theorem dX8_lead_56 : decode cX8_lead 56 = .ok (.getfield 19, 3) := by decide +kernel
theorem dX8_lead_59 : decode cX8_lead 59 = .ok (.iload_n 1, 1) := by decide +kernel
theorem dX8_lead_60 : decode cX8_lead 60 = .ok (.invokevirtual 113, 3) := by decide +kernel
theorem dX8_lead_63 : decode cX8_lead 63 = .ok (.aload_n 0, 1) := by decide +kernel
theorem dX8_lead_64 : decode cX8_lead 64 = .ok (.invokevirtual 117, 3) := by decide +kernel
theorem dX8_lead_67 : decode cX8_lead 67 = .ok (.aload_n 0, 1) := by decide +kernel
theorem dX8_lead_68 : decode cX8_lead 68 = .ok (.getfield 67, 3) := by decide +kernel
theorem dX8_lead_71 : decode cX8_lead 71 = .ok (.invokevirtual 120, 3) := by decide +kernel
theorem dX8_lead_74 : decode cX8_lead 74 = .ok (.ifCond .ne 14, 3) := by decide +kernel
theorem dX8_lead_77 : decode cX8_lead 77 = .ok (.aload_n 0, 1) := by decide +kernel
theorem dX8_lead_78 : decode cX8_lead 78 = .ok (.getfield 58, 3) := by decide +kernel
theorem dX8_lead_81 : decode cX8_lead 81 = .ok (.invokevirtual 79, 3) := by decide +kernel
theorem dX8_lead_84 : decode cX8_lead 84 = .ok (.sipush (-1000), 3) := by decide +kernel
theorem dX8_lead_87 : decode cX8_lead 87 = .ok (.ireturn, 1) := by decide +kernel
theorem dX8_lead_88 : decode cX8_lead 88 = .ok (.aload_n 0, 1) := by decide +kernel
theorem dX8_lead_89 : decode cX8_lead 89 = .ok (.getfield 58, 3) := by decide +kernel
theorem dX8_lead_92 : decode cX8_lead 92 = .ok (.getfield 123, 3) := by decide +kernel
theorem dX8_lead_95 : decode cX8_lead 95 = .ok (.ireturn, 1) := by decide +kernel
theorem dX8_outcome_0 : decode cX8_outcome 0 = .ok (.aload_n 0, 1) := by decide +kernel
theorem dX8_outcome_1 : decode cX8_outcome 1 = .ok (.getfield 58, 3) := by decide +kernel
theorem dX8_outcome_4 : decode cX8_outcome 4 = .ok (.iload_n 1, 1) := by decide +kernel
theorem dX8_outcome_5 : decode cX8_outcome 5 = .ok (.iload_n 2, 1) := by decide +kernel
theorem dX8_outcome_6 : decode cX8_outcome 6 = .ok (.invokevirtual 127, 3) := by decide +kernel
theorem dX8_outcome_9 : decode cX8_outcome 9 = .ok (.ireturn, 1) := by decide +kernel
theorem dX8_size_0 : decode cX8_size 0 = .ok (.aload_n 0, 1) := by decide +kernel
theorem dX8_size_1 : decode cX8_size 1 = .ok (.invokevirtual 117, 3) := by decide +kernel
theorem dX8_size_4 : decode cX8_size 4 = .ok (.aload_n 0, 1) := by decide +kernel
theorem dX8_size_5 : decode cX8_size 5 = .ok (.getfield 33, 3) := by decide +kernel
theorem dX8_size_8 : decode cX8_size 8 = .ok (.getfield 131, 3) := by decide +kernel
theorem dX8_size_11 : decode cX8_size 11 = .ok (.ireturn, 1) := by decide +kernel
theorem dX8_node_0 : decode cX8_node 0 = .ok (.aload_n 0, 1) := by decide +kernel
theorem dX8_node_1 : decode cX8_node 1 = .ok (.invokevirtual 117, 3) := by decide +kernel
theorem dX8_node_4 : decode cX8_node 4 = .ok (.aload_n 0, 1) := by decide +kernel
theorem dX8_node_5 : decode cX8_node 5 = .ok (.getfield 33, 3) := by decide +kernel
theorem dX8_node_8 : decode cX8_node 8 = .ok (.aload_n 0, 1) := by decide +kernel
theorem dX8_node_9 : decode cX8_node 9 = .ok (.getfield 26, 3) := by decide +kernel
theorem dX8_node_12 : decode cX8_node 12 = .ok (.iload_n 1, 1) := by decide +kernel
theorem dX8_node_13 : decode cX8_node 13 = .ok (.iload_n 2, 1) := by decide +kernel
theorem dX8_node_14 : decode cX8_node 14 = .ok (.invokevirtual 134, 3) := by decide +kernel
theorem dX8_node_17 : decode cX8_node 17 = .ok (.ireturn, 1) := by decide +kernel
theorem dX8_covers_0 : decode cX8_covers 0 = .ok (.aload_n 0, 1) := by decide +kernel
theorem dX8_covers_1 : decode cX8_covers 1 = .ok (.invokevirtual 117, 3) := by decide +kernel
theorem dX8_covers_4 : decode cX8_covers 4 = .ok (.aload_n 0, 1) := by decide +kernel
theorem dX8_covers_5 : decode cX8_covers 5 = .ok (.getfield 33, 3) := by decide +kernel
theorem dX8_covers_8 : decode cX8_covers 8 = .ok (.aload_n 0, 1) := by decide +kernel
theorem dX8_covers_9 : decode cX8_covers 9 = .ok (.getfield 26, 3) := by decide +kernel
theorem dX8_covers_12 : decode cX8_covers 12 = .ok (.aload_n 0, 1) := by decide +kernel
theorem dX8_covers_13 : decode cX8_covers 13 = .ok (.getfield 12, 3) := by decide +kernel
theorem dX8_covers_16 : decode cX8_covers 16 = .ok (.invokevirtual 137, 3) := by decide +kernel
theorem dX8_covers_19 : decode cX8_covers 19 = .ok (.ireturn, 1) := by decide +kernel
theorem dX8_clash_0 : decode cX8_clash 0 = .ok (.aload_n 0, 1) := by decide +kernel
theorem dX8_clash_1 : decode cX8_clash 1 = .ok (.getfield 26, 3) := by decide +kernel
theorem dX8_clash_4 : decode cX8_clash 4 = .ok (.iload_n 1, 1) := by decide +kernel
theorem dX8_clash_5 : decode cX8_clash 5 = .ok (.iload_n 2, 1) := by decide +kernel
theorem dX8_clash_6 : decode cX8_clash 6 = .ok (.invokevirtual 141, 3) := by decide +kernel
theorem dX8_clash_9 : decode cX8_clash 9 = .ok (.ireturn, 1) := by decide +kernel
theorem dX8_count_0 : decode cX8_count 0 = .ok (.aload_n 0, 1) := by decide +kernel
theorem dX8_count_1 : decode cX8_count 1 = .ok (.invokevirtual 117, 3) := by decide +kernel
theorem dX8_count_4 : decode cX8_count 4 = .ok (.iload_n 1, 1) := by decide +kernel
theorem dX8_count_5 : decode cX8_count 5 = .ok (.tableswitch 125 0 8 #[51, 59, 67, 75, 83, 91, 99, 108, 117], 51) := by decide +kernel
theorem dX8_count_56 : decode cX8_count 56 = .ok (.aload_n 0, 1) := by decide +kernel
theorem dX8_count_57 : decode cX8_count 57 = .ok (.getfield 12, 3) := by decide +kernel
theorem dX8_count_60 : decode cX8_count 60 = .ok (.getfield 144, 3) := by decide +kernel
theorem dX8_count_63 : decode cX8_count 63 = .ok (.ireturn, 1) := by decide +kernel
theorem dX8_count_64 : decode cX8_count 64 = .ok (.aload_n 0, 1) := by decide +kernel
theorem dX8_count_65 : decode cX8_count 65 = .ok (.getfield 12, 3) := by decide +kernel
theorem dX8_count_68 : decode cX8_count 68 = .ok (.getfield 147, 3) := by decide +kernel
theorem dX8_count_71 : decode cX8_count 71 = .ok (.ireturn, 1) := by decide +kernel
theorem dX8_count_72 : decode cX8_count 72 = .ok (.aload_n 0, 1) := by decide +kernel
theorem dX8_count_73 : decode cX8_count 73 = .ok (.getfield 26, 3) := by decide +kernel
theorem dX8_count_76 : decode cX8_count 76 = .ok (.getfield 150, 3) := by decide +kernel
theorem dX8_count_79 : decode cX8_count 79 = .ok (.ireturn, 1) := by decide +kernel
theorem dX8_count_80 : decode cX8_count 80 = .ok (.aload_n 0, 1) := by decide +kernel
theorem dX8_count_81 : decode cX8_count 81 = .ok (.getfield 12, 3) := by decide +kernel
theorem dX8_count_84 : decode cX8_count 84 = .ok (.getfield 151, 3) := by decide +kernel
theorem dX8_count_87 : decode cX8_count 87 = .ok (.ireturn, 1) := by decide +kernel
theorem dX8_count_88 : decode cX8_count 88 = .ok (.aload_n 0, 1) := by decide +kernel
theorem dX8_count_89 : decode cX8_count 89 = .ok (.getfield 19, 3) := by decide +kernel
theorem dX8_count_92 : decode cX8_count 92 = .ok (.getfield 154, 3) := by decide +kernel
theorem dX8_count_95 : decode cX8_count 95 = .ok (.ireturn, 1) := by decide +kernel
theorem dX8_count_96 : decode cX8_count 96 = .ok (.aload_n 0, 1) := by decide +kernel
theorem dX8_count_97 : decode cX8_count 97 = .ok (.getfield 58, 3) := by decide +kernel
theorem dX8_count_100 : decode cX8_count 100 = .ok (.getfield 123, 3) := by decide +kernel
theorem dX8_count_103 : decode cX8_count 103 = .ok (.ireturn, 1) := by decide +kernel
theorem dX8_count_104 : decode cX8_count 104 = .ok (.aload_n 0, 1) := by decide +kernel
theorem dX8_count_105 : decode cX8_count 105 = .ok (.getfield 33, 3) := by decide +kernel
theorem dX8_count_108 : decode cX8_count 108 = .ok (.iconst 2, 1) := by decide +kernel
theorem dX8_count_109 : decode cX8_count 109 = .ok (.invokevirtual 157, 3) := by decide +kernel
theorem dX8_count_112 : decode cX8_count 112 = .ok (.ireturn, 1) := by decide +kernel
theorem dX8_count_113 : decode cX8_count 113 = .ok (.aload_n 0, 1) := by decide +kernel
theorem dX8_count_114 : decode cX8_count 114 = .ok (.getfield 33, 3) := by decide +kernel
theorem dX8_count_117 : decode cX8_count 117 = .ok (.iconst 1, 1) := by decide +kernel
theorem dX8_count_118 : decode cX8_count 118 = .ok (.invokevirtual 157, 3) := by decide +kernel
theorem dX8_count_121 : decode cX8_count 121 = .ok (.ireturn, 1) := by decide +kernel
theorem dX8_count_122 : decode cX8_count 122 = .ok (.aload_n 0, 1) := by decide +kernel
theorem dX8_count_123 : decode cX8_count 123 = .ok (.getfield 33, 3) := by decide +kernel
theorem dX8_count_126 : decode cX8_count 126 = .ok (.invokevirtual 160, 3) := by decide +kernel
theorem dX8_count_129 : decode cX8_count 129 = .ok (.ireturn, 1) := by decide +kernel
theorem dX8_count_130 : decode cX8_count 130 = .ok (.bipush (-9), 2) := by decide +kernel
theorem dX8_count_132 : decode cX8_count 132 = .ok (.ireturn, 1) := by decide +kernel
theorem dX8_refreshTree_0 : decode cX8_refreshTree 0 = .ok (.aload_n 0, 1) := by decide +kernel
theorem dX8_refreshTree_1 : decode cX8_refreshTree 1 = .ok (.getfield 87, 3) := by decide +kernel
theorem dX8_refreshTree_4 : decode cX8_refreshTree 4 = .ok (.ifCond .eq 15, 3) := by decide +kernel
theorem dX8_refreshTree_7 : decode cX8_refreshTree 7 = .ok (.aload_n 0, 1) := by decide +kernel
theorem dX8_refreshTree_8 : decode cX8_refreshTree 8 = .ok (.getfield 42, 3) := by decide +kernel
theorem dX8_refreshTree_11 : decode cX8_refreshTree 11 = .ok (.invokevirtual 163, 3) := by decide +kernel
theorem dX8_refreshTree_14 : decode cX8_refreshTree 14 = .ok (.aload_n 0, 1) := by decide +kernel
theorem dX8_refreshTree_15 : decode cX8_refreshTree 15 = .ok (.iconst 0, 1) := by decide +kernel
theorem dX8_refreshTree_16 : decode cX8_refreshTree 16 = .ok (.putfield 87, 3) := by decide +kernel
theorem dX8_refreshTree_19 : decode cX8_refreshTree 19 = .ok (.return_, 1) := by decide +kernel
theorem dX8_get_0 : decode cX8_get 0 = .ok (.iload_n 1, 1) := by decide +kernel
theorem dX8_get_1 : decode cX8_get 1 = .ok (.ifCond .lt 15, 3) := by decide +kernel
theorem dX8_get_4 : decode cX8_get 4 = .ok (.iload_n 1, 1) := by decide +kernel
theorem dX8_get_5 : decode cX8_get 5 = .ok (.aload_n 0, 1) := by decide +kernel
theorem dX8_get_6 : decode cX8_get 6 = .ok (.arraylength, 1) := by decide +kernel
theorem dX8_get_7 : decode cX8_get 7 = .ok (.if_icmp .ge 9, 3) := by decide +kernel
theorem dX8_get_10 : decode cX8_get 10 = .ok (.aload_n 0, 1) := by decide +kernel
theorem dX8_get_11 : decode cX8_get 11 = .ok (.iload_n 1, 1) := by decide +kernel
theorem dX8_get_12 : decode cX8_get 12 = .ok (.iaload, 1) := by decide +kernel
theorem dX8_get_13 : decode cX8_get 13 = .ok (.goto 4, 3) := by decide +kernel
theorem dX8_get_16 : decode cX8_get 16 = .ok (.iconst (-1), 1) := by decide +kernel
theorem dX8_get_17 : decode cX8_get 17 = .ok (.ireturn, 1) := by decide +kernel
theorem dX8_set_0 : decode cX8_set 0 = .ok (.iload_n 1, 1) := by decide +kernel
theorem dX8_set_1 : decode cX8_set 1 = .ok (.ifCond .lt 13, 3) := by decide +kernel
theorem dX8_set_4 : decode cX8_set 4 = .ok (.iload_n 1, 1) := by decide +kernel
theorem dX8_set_5 : decode cX8_set 5 = .ok (.aload_n 0, 1) := by decide +kernel
theorem dX8_set_6 : decode cX8_set 6 = .ok (.arraylength, 1) := by decide +kernel
theorem dX8_set_7 : decode cX8_set 7 = .ok (.if_icmp .ge 7, 3) := by decide +kernel
theorem dX8_set_10 : decode cX8_set 10 = .ok (.aload_n 0, 1) := by decide +kernel
theorem dX8_set_11 : decode cX8_set 11 = .ok (.iload_n 1, 1) := by decide +kernel
theorem dX8_set_12 : decode cX8_set 12 = .ok (.iload_n 2, 1) := by decide +kernel
theorem dX8_set_13 : decode cX8_set 13 = .ok (.iastore, 1) := by decide +kernel
theorem dX8_set_14 : decode cX8_set 14 = .ok (.return_, 1) := by decide +kernel
theorem dX8_has_0 : decode cX8_has 0 = .ok (.iload_n 0, 1) := by decide +kernel
theorem dX8_has_1 : decode cX8_has 1 = .ok (.iload_n 1, 1) := by decide +kernel
theorem dX8_has_2 : decode cX8_has 2 = .ok (.ishr, 1) := by decide +kernel
theorem dX8_has_3 : decode cX8_has 3 = .ok (.iconst 1, 1) := by decide +kernel
theorem dX8_has_4 : decode cX8_has 4 = .ok (.iand, 1) := by decide +kernel
theorem dX8_has_5 : decode cX8_has 5 = .ok (.ifCond .eq 7, 3) := by decide +kernel
theorem dX8_has_8 : decode cX8_has 8 = .ok (.iconst 1, 1) := by decide +kernel
theorem dX8_has_9 : decode cX8_has 9 = .ok (.goto 4, 3) := by decide +kernel
theorem dX8_has_12 : decode cX8_has 12 = .ok (.iconst 0, 1) := by decide +kernel
theorem dX8_has_13 : decode cX8_has 13 = .ok (.ireturn, 1) := by decide +kernel
end
section
theorem dX9_init_0 : decode cX9_init 0 = .ok (.aload_n 0, 1) := by decide +kernel
theorem dX9_init_1 : decode cX9_init 1 = .ok (.invokespecial 1, 3) := by decide +kernel
theorem dX9_init_4 : decode cX9_init 4 = .ok (.aload_n 0, 1) := by decide +kernel
theorem dX9_init_5 : decode cX9_init 5 = .ok (.bipush 60, 2) := by decide +kernel
theorem dX9_init_7 : decode cX9_init 7 = .ok (.newarray .int, 2) := by decide +kernel
theorem dX9_init_9 : decode cX9_init 9 = .ok (.putfield 9, 3) := by decide +kernel
theorem dX9_init_12 : decode cX9_init 12 = .ok (.aload_n 0, 1) := by decide +kernel
theorem dX9_init_13 : decode cX9_init 13 = .ok (.bipush 60, 2) := by decide +kernel
theorem dX9_init_15 : decode cX9_init 15 = .ok (.newarray .int, 2) := by decide +kernel
theorem dX9_init_17 : decode cX9_init 17 = .ok (.putfield 13, 3) := by decide +kernel
theorem dX9_init_20 : decode cX9_init 20 = .ok (.aload_n 0, 1) := by decide +kernel
theorem dX9_init_21 : decode cX9_init 21 = .ok (.bipush 60, 2) := by decide +kernel
theorem dX9_init_23 : decode cX9_init 23 = .ok (.newarray .int, 2) := by decide +kernel
theorem dX9_init_25 : decode cX9_init 25 = .ok (.putfield 16, 3) := by decide +kernel
theorem dX9_init_28 : decode cX9_init 28 = .ok (.aload_n 0, 1) := by decide +kernel
theorem dX9_init_29 : decode cX9_init 29 = .ok (.iconst (-1), 1) := by decide +kernel
theorem dX9_init_30 : decode cX9_init 30 = .ok (.putfield 19, 3) := by decide +kernel
theorem dX9_init_33 : decode cX9_init 33 = .ok (.aload_n 0, 1) := by decide +kernel
theorem dX9_init_34 : decode cX9_init 34 = .ok (.sipush 160, 3) := by decide +kernel
theorem dX9_init_37 : decode cX9_init 37 = .ok (.newarray .int, 2) := by decide +kernel
theorem dX9_init_39 : decode cX9_init 39 = .ok (.putfield 23, 3) := by decide +kernel
theorem dX9_init_42 : decode cX9_init 42 = .ok (.aload_n 0, 1) := by decide +kernel
theorem dX9_init_43 : decode cX9_init 43 = .ok (.sipush 3840, 3) := by decide +kernel
theorem dX9_init_46 : decode cX9_init 46 = .ok (.newarray .int, 2) := by decide +kernel
theorem dX9_init_48 : decode cX9_init 48 = .ok (.putfield 26, 3) := by decide +kernel
theorem dX9_init_51 : decode cX9_init 51 = .ok (.aload_n 0, 1) := by decide +kernel
theorem dX9_init_52 : decode cX9_init 52 = .ok (.sipush 3840, 3) := by decide +kernel
theorem dX9_init_55 : decode cX9_init 55 = .ok (.newarray .int, 2) := by decide +kernel
theorem dX9_init_57 : decode cX9_init 57 = .ok (.putfield 29, 3) := by decide +kernel
theorem dX9_init_60 : decode cX9_init 60 = .ok (.aload_n 0, 1) := by decide +kernel
theorem dX9_init_61 : decode cX9_init 61 = .ok (.sipush 3840, 3) := by decide +kernel
theorem dX9_init_64 : decode cX9_init 64 = .ok (.newarray .int, 2) := by decide +kernel
theorem dX9_init_66 : decode cX9_init 66 = .ok (.putfield 32, 3) := by decide +kernel
theorem dX9_init_69 : decode cX9_init 69 = .ok (.aload_n 0, 1) := by decide +kernel
theorem dX9_init_70 : decode cX9_init 70 = .ok (.sipush 3840, 3) := by decide +kernel
theorem dX9_init_73 : decode cX9_init 73 = .ok (.newarray .int, 2) := by decide +kernel
theorem dX9_init_75 : decode cX9_init 75 = .ok (.putfield 35, 3) := by decide +kernel
theorem dX9_init_78 : decode cX9_init 78 = .ok (.aload_n 0, 1) := by decide +kernel
theorem dX9_init_79 : decode cX9_init 79 = .ok (.bipush 24, 2) := by decide +kernel
theorem dX9_init_81 : decode cX9_init 81 = .ok (.newarray .int, 2) := by decide +kernel
theorem dX9_init_83 : decode cX9_init 83 = .ok (.putfield 38, 3) := by decide +kernel
theorem dX9_init_86 : decode cX9_init 86 = .ok (.aload_n 0, 1) := by decide +kernel
theorem dX9_init_87 : decode cX9_init 87 = .ok (.sipush 700, 3) := by decide +kernel
theorem dX9_init_90 : decode cX9_init 90 = .ok (.newarray .int, 2) := by decide +kernel
theorem dX9_init_92 : decode cX9_init 92 = .ok (.putfield 41, 3) := by decide +kernel
theorem dX9_init_95 : decode cX9_init 95 = .ok (.aload_n 0, 1) := by decide +kernel
theorem dX9_init_96 : decode cX9_init 96 = .ok (.sipush 700, 3) := by decide +kernel
theorem dX9_init_99 : decode cX9_init 99 = .ok (.newarray .int, 2) := by decide +kernel
theorem dX9_init_101 : decode cX9_init 101 = .ok (.putfield 44, 3) := by decide +kernel
theorem dX9_init_104 : decode cX9_init 104 = .ok (.aload_n 0, 1) := by decide +kernel
theorem dX9_init_105 : decode cX9_init 105 = .ok (.sipush 700, 3) := by decide +kernel
theorem dX9_init_108 : decode cX9_init 108 = .ok (.newarray .int, 2) := by decide +kernel
theorem dX9_init_110 : decode cX9_init 110 = .ok (.putfield 47, 3) := by decide +kernel
theorem dX9_init_113 : decode cX9_init 113 = .ok (.aload_n 0, 1) := by decide +kernel
theorem dX9_init_114 : decode cX9_init 114 = .ok (.sipush 160, 3) := by decide +kernel
theorem dX9_init_117 : decode cX9_init 117 = .ok (.newarray .int, 2) := by decide +kernel
theorem dX9_init_119 : decode cX9_init 119 = .ok (.putfield 50, 3) := by decide +kernel
theorem dX9_init_122 : decode cX9_init 122 = .ok (.aload_n 0, 1) := by decide +kernel
theorem dX9_init_123 : decode cX9_init 123 = .ok (.sipush 160, 3) := by decide +kernel
theorem dX9_init_126 : decode cX9_init 126 = .ok (.newarray .int, 2) := by decide +kernel
theorem dX9_init_128 : decode cX9_init 128 = .ok (.putfield 53, 3) := by decide +kernel
theorem dX9_init_131 : decode cX9_init 131 = .ok (.aload_n 0, 1) := by decide +kernel
theorem dX9_init_132 : decode cX9_init 132 = .ok (.bipush 8, 2) := by decide +kernel
theorem dX9_init_134 : decode cX9_init 134 = .ok (.newarray .int, 2) := by decide +kernel
theorem dX9_init_136 : decode cX9_init 136 = .ok (.putfield 56, 3) := by decide +kernel
theorem dX9_init_139 : decode cX9_init 139 = .ok (.aload_n 0, 1) := by decide +kernel
theorem dX9_init_140 : decode cX9_init 140 = .ok (.sipush 4080, 3) := by decide +kernel
theorem dX9_init_143 : decode cX9_init 143 = .ok (.newarray .int, 2) := by decide +kernel
theorem dX9_init_145 : decode cX9_init 145 = .ok (.putfield 59, 3) := by decide +kernel
theorem dX9_init_148 : decode cX9_init 148 = .ok (.aload_n 0, 1) := by decide +kernel
theorem dX9_init_149 : decode cX9_init 149 = .ok (.sipush 4800, 3) := by decide +kernel
theorem dX9_init_152 : decode cX9_init 152 = .ok (.newarray .int, 2) := by decide +kernel
theorem dX9_init_154 : decode cX9_init 154 = .ok (.putfield 62, 3) := by decide +kernel
theorem dX9_init_157 : decode cX9_init 157 = .ok (.aload_n 0, 1) := by decide +kernel
theorem dX9_init_158 : decode cX9_init 158 = .ok (.sipush 4800, 3) := by decide +kernel
theorem dX9_init_161 : decode cX9_init 161 = .ok (.newarray .int, 2) := by decide +kernel
theorem dX9_init_163 : decode cX9_init 163 = .ok (.putfield 65, 3) := by decide +kernel
theorem dX9_init_166 : decode cX9_init 166 = .ok (.aload_n 0, 1) := by decide +kernel
theorem dX9_init_167 : decode cX9_init 167 = .ok (.sipush 4000, 3) := by decide +kernel
theorem dX9_init_170 : decode cX9_init 170 = .ok (.newarray .int, 2) := by decide +kernel
theorem dX9_init_172 : decode cX9_init 172 = .ok (.putfield 68, 3) := by decide +kernel
theorem dX9_init_175 : decode cX9_init 175 = .ok (.aload_n 0, 1) := by decide +kernel
theorem dX9_init_176 : decode cX9_init 176 = .ok (.sipush 4000, 3) := by decide +kernel
theorem dX9_init_179 : decode cX9_init 179 = .ok (.newarray .int, 2) := by decide +kernel
theorem dX9_init_181 : decode cX9_init 181 = .ok (.putfield 71, 3) := by decide +kernel
theorem dX9_init_184 : decode cX9_init 184 = .ok (.aload_n 0, 1) := by decide +kernel
theorem dX9_init_185 : decode cX9_init 185 = .ok (.sipush 4000, 3) := by decide +kernel
theorem dX9_init_188 : decode cX9_init 188 = .ok (.newarray .int, 2) := by decide +kernel
theorem dX9_init_190 : decode cX9_init 190 = .ok (.putfield 74, 3) := by decide +kernel
theorem dX9_init_193 : decode cX9_init 193 = .ok (.aload_n 0, 1) := by decide +kernel
theorem dX9_init_194 : decode cX9_init 194 = .ok (.sipush 4000, 3) := by decide +kernel
theorem dX9_init_197 : decode cX9_init 197 = .ok (.newarray .int, 2) := by decide +kernel
theorem dX9_init_199 : decode cX9_init 199 = .ok (.putfield 77, 3) := by decide +kernel
theorem dX9_init_202 : decode cX9_init 202 = .ok (.aload_n 0, 1) := by decide +kernel
theorem dX9_init_203 : decode cX9_init 203 = .ok (.sipush 4000, 3) := by decide +kernel
theorem dX9_init_206 : decode cX9_init 206 = .ok (.newarray .int, 2) := by decide +kernel
theorem dX9_init_208 : decode cX9_init 208 = .ok (.putfield 80, 3) := by decide +kernel
theorem dX9_init_211 : decode cX9_init 211 = .ok (.aload_n 0, 1) := by decide +kernel
theorem dX9_init_212 : decode cX9_init 212 = .ok (.sipush 4000, 3) := by decide +kernel
theorem dX9_init_215 : decode cX9_init 215 = .ok (.newarray .int, 2) := by decide +kernel
theorem dX9_init_217 : decode cX9_init 217 = .ok (.putfield 83, 3) := by decide +kernel
theorem dX9_init_220 : decode cX9_init 220 = .ok (.aload_n 0, 1) := by decide +kernel
theorem dX9_init_221 : decode cX9_init 221 = .ok (.sipush 4000, 3) := by decide +kernel
theorem dX9_init_224 : decode cX9_init 224 = .ok (.newarray .int, 2) := by decide +kernel
theorem dX9_init_226 : decode cX9_init 226 = .ok (.putfield 86, 3) := by decide +kernel
theorem dX9_init_229 : decode cX9_init 229 = .ok (.aload_n 0, 1) := by decide +kernel
theorem dX9_init_230 : decode cX9_init 230 = .ok (.sipush 1200, 3) := by decide +kernel
theorem dX9_init_233 : decode cX9_init 233 = .ok (.newarray .int, 2) := by decide +kernel
theorem dX9_init_235 : decode cX9_init 235 = .ok (.putfield 89, 3) := by decide +kernel
theorem dX9_init_238 : decode cX9_init 238 = .ok (.aload_n 0, 1) := by decide +kernel
theorem dX9_init_239 : decode cX9_init 239 = .ok (.sipush 1200, 3) := by decide +kernel
theorem dX9_init_242 : decode cX9_init 242 = .ok (.newarray .int, 2) := by decide +kernel
theorem dX9_init_244 : decode cX9_init 244 = .ok (.putfield 92, 3) := by decide +kernel
theorem dX9_init_247 : decode cX9_init 247 = .ok (.aload_n 0, 1) := by decide +kernel
theorem dX9_init_248 : decode cX9_init 248 = .ok (.sipush 800, 3) := by decide +kernel
theorem dX9_init_251 : decode cX9_init 251 = .ok (.newarray .int, 2) := by decide +kernel
theorem dX9_init_253 : decode cX9_init 253 = .ok (.putfield 95, 3) := by decide +kernel
theorem dX9_init_256 : decode cX9_init 256 = .ok (.aload_n 0, 1) := by decide +kernel
theorem dX9_init_257 : decode cX9_init 257 = .ok (.sipush 170, 3) := by decide +kernel
theorem dX9_init_260 : decode cX9_init 260 = .ok (.newarray .int, 2) := by decide +kernel
theorem dX9_init_262 : decode cX9_init 262 = .ok (.putfield 98, 3) := by decide +kernel
theorem dX9_init_265 : decode cX9_init 265 = .ok (.aload_n 0, 1) := by decide +kernel
theorem dX9_init_266 : decode cX9_init 266 = .ok (.iconst (-1), 1) := by decide +kernel
theorem dX9_init_267 : decode cX9_init 267 = .ok (.putfield 101, 3) := by decide +kernel
theorem dX9_init_270 : decode cX9_init 270 = .ok (.aload_n 0, 1) := by decide +kernel
theorem dX9_init_271 : decode cX9_init 271 = .ok (.sipush 401, 3) := by decide +kernel
theorem dX9_init_274 : decode cX9_init 274 = .ok (.newarray .int, 2) := by decide +kernel
theorem dX9_init_276 : decode cX9_init 276 = .ok (.putfield 104, 3) := by decide +kernel
theorem dX9_init_279 : decode cX9_init 279 = .ok (.aload_n 0, 1) := by decide +kernel
theorem dX9_init_280 : decode cX9_init 280 = .ok (.sipush 800, 3) := by decide +kernel
theorem dX9_init_283 : decode cX9_init 283 = .ok (.newarray .int, 2) := by decide +kernel
theorem dX9_init_285 : decode cX9_init 285 = .ok (.putfield 107, 3) := by decide +kernel
theorem dX9_init_288 : decode cX9_init 288 = .ok (.aload_n 0, 1) := by decide +kernel
theorem dX9_init_289 : decode cX9_init 289 = .ok (.sipush 1200, 3) := by decide +kernel
theorem dX9_init_292 : decode cX9_init 292 = .ok (.newarray .int, 2) := by decide +kernel
theorem dX9_init_294 : decode cX9_init 294 = .ok (.putfield 110, 3) := by decide +kernel
theorem dX9_init_297 : decode cX9_init 297 = .ok (.return_, 1) := by decide +kernel
theorem dX9_typeOf_0 : decode cX9_typeOf 0 = .ok (.iload_n 0, 1) := by decide +kernel
theorem dX9_typeOf_1 : decode cX9_typeOf 1 = .ok (.iconst 4, 1) := by decide +kernel
theorem dX9_typeOf_2 : decode cX9_typeOf 2 = .ok (.iload_n 1, 1) := by decide +kernel
theorem dX9_typeOf_3 : decode cX9_typeOf 3 = .ok (.imul, 1) := by decide +kernel
theorem dX9_typeOf_4 : decode cX9_typeOf 4 = .ok (.ishr, 1) := by decide +kernel
theorem dX9_typeOf_5 : decode cX9_typeOf 5 = .ok (.bipush 15, 2) := by decide +kernel
theorem dX9_typeOf_7 : decode cX9_typeOf 7 = .ok (.iand, 1) := by decide +kernel
theorem dX9_typeOf_8 : decode cX9_typeOf 8 = .ok (.ireturn, 1) := by decide +kernel
theorem dX9_areTypes_0 : decode cX9_areTypes 0 = .ok (.iconst 0, 1) := by decide +kernel
theorem dX9_areTypes_1 : decode cX9_areTypes 1 = .ok (.istore_n 3, 1) := by decide +kernel
theorem dX9_areTypes_2 : decode cX9_areTypes 2 = .ok (.iload_n 3, 1) := by decide +kernel
theorem dX9_areTypes_3 : decode cX9_areTypes 3 = .ok (.iload_n 1, 1) := by decide +kernel
theorem dX9_areTypes_4 : decode cX9_areTypes 4 = .ok (.if_icmp .ge 23, 3) := by decide +kernel
theorem dX9_areTypes_7 : decode cX9_areTypes 7 = .ok (.iload_n 2, 1) := by decide +kernel
theorem dX9_areTypes_8 : decode cX9_areTypes 8 = .ok (.iload_n 3, 1) := by decide +kernel
theorem dX9_areTypes_9 : decode cX9_areTypes 9 = .ok (.invokestatic 113, 3) := by decide +kernel
theorem dX9_areTypes_12 : decode cX9_areTypes 12 = .ok (.aload_n 0, 1) := by decide +kernel
theorem dX9_areTypes_13 : decode cX9_areTypes 13 = .ok (.getfield 117, 3) := by decide +kernel
theorem dX9_areTypes_16 : decode cX9_areTypes 16 = .ok (.if_icmp .lt 5, 3) := by decide +kernel
theorem dX9_areTypes_19 : decode cX9_areTypes 19 = .ok (.iconst 0, 1) := by decide +kernel
theorem dX9_areTypes_20 : decode cX9_areTypes 20 = .ok (.ireturn, 1) := by decide +kernel
theorem dX9_areTypes_21 : decode cX9_areTypes 21 = .ok (.iinc 3 1, 3) := by decide +kernel
theorem dX9_areTypes_24 : decode cX9_areTypes 24 = .ok (.goto (-22), 3) := by decide +kernel
theorem dX9_areTypes_27 : decode cX9_areTypes 27 = .ok (.iconst 1, 1) := by decide +kernel
theorem dX9_areTypes_28 : decode cX9_areTypes 28 = .ok (.ireturn, 1) := by decide +kernel
theorem dX9_type_0 : decode cX9_type 0 = .ok (.aload_n 0, 1) := by decide +kernel
theorem dX9_type_1 : decode cX9_type 1 = .ok (.getfield 117, 3) := by decide +kernel
theorem dX9_type_4 : decode cX9_type 4 = .ok (.bipush 12, 2) := by decide +kernel
theorem dX9_type_6 : decode cX9_type 6 = .ok (.if_icmp .ne 5, 3) := by decide +kernel
theorem dX9_type_9 : decode cX9_type 9 = .ok (.iconst (-1), 1) := by decide +kernel
theorem dX9_type_10 : decode cX9_type 10 = .ok (.ireturn, 1) := by decide +kernel
theorem dX9_type_11 : decode cX9_type 11 = .ok (.aload_n 0, 1) := by decide +kernel
theorem dX9_type_12 : decode cX9_type 12 = .ok (.dup, 1) := by decide +kernel
theorem dX9_type_13 : decode cX9_type 13 = .ok (.getfield 117, 3) := by decide +kernel
theorem dX9_type_16 : decode cX9_type 16 = .ok (.iconst 1, 1) := by decide +kernel
theorem dX9_type_17 : decode cX9_type 17 = .ok (.iadd, 1) := by decide +kernel
theorem dX9_type_18 : decode cX9_type 18 = .ok (.putfield 117, 3) := by decide +kernel
theorem dX9_type_21 : decode cX9_type 21 = .ok (.aload_n 0, 1) := by decide +kernel
theorem dX9_type_22 : decode cX9_type 22 = .ok (.getfield 117, 3) := by decide +kernel
theorem dX9_type_25 : decode cX9_type 25 = .ok (.iconst 1, 1) := by decide +kernel
theorem dX9_type_26 : decode cX9_type 26 = .ok (.isub, 1) := by decide +kernel
theorem dX9_type_27 : decode cX9_type 27 = .ok (.ireturn, 1) := by decide +kernel
theorem dX9_constructor_0 : decode cX9_constructor 0 = .ok (.iload_n 1, 1) := by decide +kernel
theorem dX9_constructor_1 : decode cX9_constructor 1 = .ok (.ifCond .lt 38, 3) := by decide +kernel
theorem dX9_constructor_4 : decode cX9_constructor 4 = .ok (.iload_n 1, 1) := by decide +kernel
theorem dX9_constructor_5 : decode cX9_constructor 5 = .ok (.aload_n 0, 1) := by decide +kernel
theorem dX9_constructor_6 : decode cX9_constructor 6 = .ok (.getfield 117, 3) := by decide +kernel
theorem dX9_constructor_9 : decode cX9_constructor 9 = .ok (.if_icmp .ge 30, 3) := by decide +kernel
theorem dX9_constructor_12 : decode cX9_constructor 12 = .ok (.iload_n 2, 1) := by decide +kernel
theorem dX9_constructor_13 : decode cX9_constructor 13 = .ok (.ifCond .lt 26, 3) := by decide +kernel
theorem dX9_constructor_16 : decode cX9_constructor 16 = .ok (.iload_n 2, 1) := by decide +kernel
theorem dX9_constructor_17 : decode cX9_constructor 17 = .ok (.iconst 4, 1) := by decide +kernel
theorem dX9_constructor_18 : decode cX9_constructor 18 = .ok (.if_icmp .gt 21, 3) := by decide +kernel
theorem dX9_constructor_21 : decode cX9_constructor 21 = .ok (.aload_n 0, 1) := by decide +kernel
theorem dX9_constructor_22 : decode cX9_constructor 22 = .ok (.iload_n 2, 1) := by decide +kernel
theorem dX9_constructor_23 : decode cX9_constructor 23 = .ok (.iload_n 3, 1) := by decide +kernel
theorem dX9_constructor_24 : decode cX9_constructor 24 = .ok (.invokevirtual 120, 3) := by decide +kernel
theorem dX9_constructor_27 : decode cX9_constructor 27 = .ok (.ifCond .eq 12, 3) := by decide +kernel
theorem dX9_constructor_30 : decode cX9_constructor 30 = .ok (.aload_n 0, 1) := by decide +kernel
theorem dX9_constructor_31 : decode cX9_constructor 31 = .ok (.getfield 124, 3) := by decide +kernel
theorem dX9_constructor_34 : decode cX9_constructor 34 = .ok (.bipush 60, 2) := by decide +kernel
theorem dX9_constructor_36 : decode cX9_constructor 36 = .ok (.if_icmp .ne 5, 3) := by decide +kernel
theorem dX9_constructor_39 : decode cX9_constructor 39 = .ok (.iconst (-1), 1) := by decide +kernel
theorem dX9_constructor_40 : decode cX9_constructor 40 = .ok (.ireturn, 1) := by decide +kernel
theorem dX9_constructor_41 : decode cX9_constructor 41 = .ok (.aload_n 0, 1) := by decide +kernel
theorem dX9_constructor_42 : decode cX9_constructor 42 = .ok (.getfield 9, 3) := by decide +kernel
theorem dX9_constructor_45 : decode cX9_constructor 45 = .ok (.aload_n 0, 1) := by decide +kernel
theorem dX9_constructor_46 : decode cX9_constructor 46 = .ok (.getfield 124, 3) := by decide +kernel
theorem dX9_constructor_49 : decode cX9_constructor 49 = .ok (.iload_n 1, 1) := by decide +kernel
theorem dX9_constructor_50 : decode cX9_constructor 50 = .ok (.iastore, 1) := by decide +kernel
theorem dX9_constructor_51 : decode cX9_constructor 51 = .ok (.aload_n 0, 1) := by decide +kernel
theorem dX9_constructor_52 : decode cX9_constructor 52 = .ok (.getfield 13, 3) := by decide +kernel
theorem dX9_constructor_55 : decode cX9_constructor 55 = .ok (.aload_n 0, 1) := by decide +kernel
theorem dX9_constructor_56 : decode cX9_constructor 56 = .ok (.getfield 124, 3) := by decide +kernel
theorem dX9_constructor_59 : decode cX9_constructor 59 = .ok (.iload_n 2, 1) := by decide +kernel
theorem dX9_constructor_60 : decode cX9_constructor 60 = .ok (.iastore, 1) := by decide +kernel
theorem dX9_constructor_61 : decode cX9_constructor 61 = .ok (.aload_n 0, 1) := by decide +kernel
theorem dX9_constructor_62 : decode cX9_constructor 62 = .ok (.getfield 16, 3) := by decide +kernel
theorem dX9_constructor_65 : decode cX9_constructor 65 = .ok (.aload_n 0, 1) := by decide +kernel
theorem dX9_constructor_66 : decode cX9_constructor 66 = .ok (.getfield 124, 3) := by decide +kernel
theorem dX9_constructor_69 : decode cX9_constructor 69 = .ok (.iload_n 3, 1) := by decide +kernel
theorem dX9_constructor_70 : decode cX9_constructor 70 = .ok (.iastore, 1) := by decide +kernel
theorem dX9_constructor_71 : decode cX9_constructor 71 = .ok (.aload_n 0, 1) := by decide +kernel
theorem dX9_constructor_72 : decode cX9_constructor 72 = .ok (.dup, 1) := by decide +kernel
theorem dX9_constructor_73 : decode cX9_constructor 73 = .ok (.getfield 124, 3) := by decide +kernel
theorem dX9_constructor_76 : decode cX9_constructor 76 = .ok (.iconst 1, 1) := by decide +kernel
theorem dX9_constructor_77 : decode cX9_constructor 77 = .ok (.iadd, 1) := by decide +kernel
theorem dX9_constructor_78 : decode cX9_constructor 78 = .ok (.putfield 124, 3) := by decide +kernel
theorem dX9_constructor_81 : decode cX9_constructor 81 = .ok (.aload_n 0, 1) := by decide +kernel
theorem dX9_constructor_82 : decode cX9_constructor 82 = .ok (.iconst 0, 1) := by decide +kernel
theorem dX9_constructor_83 : decode cX9_constructor 83 = .ok (.putfield 127, 3) := by decide +kernel
theorem dX9_constructor_86 : decode cX9_constructor 86 = .ok (.aload_n 0, 1) := by decide +kernel
theorem dX9_constructor_87 : decode cX9_constructor 87 = .ok (.getfield 124, 3) := by decide +kernel
theorem dX9_constructor_90 : decode cX9_constructor 90 = .ok (.iconst 1, 1) := by decide +kernel
theorem dX9_constructor_91 : decode cX9_constructor 91 = .ok (.isub, 1) := by decide +kernel
theorem dX9_constructor_92 : decode cX9_constructor 92 = .ok (.ireturn, 1) := by decide +kernel
theorem dX9_begin_0 : decode cX9_begin 0 = .ok (.iload_n 1, 1) := by decide +kernel
theorem dX9_begin_1 : decode cX9_begin 1 = .ok (.ifCond .lt 18, 3) := by decide +kernel
theorem dX9_begin_4 : decode cX9_begin 4 = .ok (.iload_n 1, 1) := by decide +kernel
theorem dX9_begin_5 : decode cX9_begin 5 = .ok (.bipush 6, 2) := by decide +kernel
theorem dX9_begin_7 : decode cX9_begin 7 = .ok (.if_icmp .gt 12, 3) := by decide +kernel
theorem dX9_begin_10 : decode cX9_begin 10 = .ok (.aload_n 0, 1) := by decide +kernel
theorem dX9_begin_11 : decode cX9_begin 11 = .ok (.iload_n 1, 1) := by decide +kernel
theorem dX9_begin_12 : decode cX9_begin 12 = .ok (.iload_n 2, 1) := by decide +kernel
theorem dX9_begin_13 : decode cX9_begin 13 = .ok (.invokevirtual 120, 3) := by decide +kernel
theorem dX9_begin_16 : decode cX9_begin 16 = .ok (.ifCond .ne 5, 3) := by decide +kernel
theorem dX9_begin_19 : decode cX9_begin 19 = .ok (.iconst 0, 1) := by decide +kernel
theorem dX9_begin_20 : decode cX9_begin 20 = .ok (.ireturn, 1) := by decide +kernel
theorem dX9_begin_21 : decode cX9_begin 21 = .ok (.aload_n 0, 1) := by decide +kernel
theorem dX9_begin_22 : decode cX9_begin 22 = .ok (.iload_n 1, 1) := by decide +kernel
theorem dX9_begin_23 : decode cX9_begin 23 = .ok (.putfield 19, 3) := by decide +kernel
theorem dX9_begin_26 : decode cX9_begin 26 = .ok (.aload_n 0, 1) := by decide +kernel
theorem dX9_begin_27 : decode cX9_begin 27 = .ok (.iload_n 2, 1) := by decide +kernel
theorem dX9_begin_28 : decode cX9_begin 28 = .ok (.putfield 130, 3) := by decide +kernel
theorem dX9_begin_31 : decode cX9_begin 31 = .ok (.aload_n 0, 1) := by decide +kernel
theorem dX9_begin_32 : decode cX9_begin 32 = .ok (.iconst 0, 1) := by decide +kernel
theorem dX9_begin_33 : decode cX9_begin 33 = .ok (.putfield 133, 3) := by decide +kernel
theorem dX9_begin_36 : decode cX9_begin 36 = .ok (.aload_n 0, 1) := by decide +kernel
theorem dX9_begin_37 : decode cX9_begin 37 = .ok (.iconst 0, 1) := by decide +kernel
theorem dX9_begin_38 : decode cX9_begin 38 = .ok (.putfield 127, 3) := by decide +kernel
theorem dX9_begin_41 : decode cX9_begin 41 = .ok (.aload_n 0, 1) := by decide +kernel
theorem dX9_begin_42 : decode cX9_begin 42 = .ok (.invokevirtual 136, 3) := by decide +kernel
theorem dX9_begin_45 : decode cX9_begin 45 = .ok (.iconst 1, 1) := by decide +kernel
theorem dX9_begin_46 : decode cX9_begin 46 = .ok (.ireturn, 1) := by decide +kernel
theorem dX9_put_0 : decode cX9_put 0 = .ok (.aload_n 0, 1) := by decide +kernel
theorem dX9_put_1 : decode cX9_put 1 = .ok (.getfield 139, 3) := by decide +kernel
theorem dX9_put_4 : decode cX9_put 4 = .ok (.sipush 160, 3) := by decide +kernel
theorem dX9_put_7 : decode cX9_put 7 = .ok (.if_icmp .ne 5, 3) := by decide +kernel
theorem dX9_put_10 : decode cX9_put 10 = .ok (.iconst (-1), 1) := by decide +kernel
theorem dX9_put_11 : decode cX9_put 11 = .ok (.ireturn, 1) := by decide +kernel
theorem dX9_put_12 : decode cX9_put 12 = .ok (.aload_n 0, 1) := by decide +kernel
theorem dX9_put_13 : decode cX9_put 13 = .ok (.getfield 23, 3) := by decide +kernel
theorem dX9_put_16 : decode cX9_put 16 = .ok (.aload_n 0, 1) := by decide +kernel
theorem dX9_put_17 : decode cX9_put 17 = .ok (.getfield 139, 3) := by decide +kernel
theorem dX9_put_20 : decode cX9_put 20 = .ok (.iload_n 1, 1) := by decide +kernel
theorem dX9_put_21 : decode cX9_put 21 = .ok (.iastore, 1) := by decide +kernel
theorem dX9_put_22 : decode cX9_put 22 = .ok (.aload_n 0, 1) := by decide +kernel
theorem dX9_put_23 : decode cX9_put 23 = .ok (.dup, 1) := by decide +kernel
theorem dX9_put_24 : decode cX9_put 24 = .ok (.getfield 139, 3) := by decide +kernel
theorem dX9_put_27 : decode cX9_put 27 = .ok (.iconst 1, 1) := by decide +kernel
theorem dX9_put_28 : decode cX9_put 28 = .ok (.iadd, 1) := by decide +kernel
theorem dX9_put_29 : decode cX9_put 29 = .ok (.putfield 139, 3) := by decide +kernel
theorem dX9_put_32 : decode cX9_put 32 = .ok (.aload_n 0, 1) := by decide +kernel
theorem dX9_put_33 : decode cX9_put 33 = .ok (.getfield 139, 3) := by decide +kernel
theorem dX9_put_36 : decode cX9_put 36 = .ok (.ireturn, 1) := by decide +kernel
theorem dX9_want_0 : decode cX9_want 0 = .ok (.iload_n 1, 1) := by decide +kernel
theorem dX9_want_1 : decode cX9_want 1 = .ok (.iconst 1, 1) := by decide +kernel
theorem dX9_want_2 : decode cX9_want 2 = .ok (.isub, 1) := by decide +kernel
theorem dX9_want_3 : decode cX9_want 3 = .ok (.istore 4, 2) := by decide +kernel
theorem dX9_want_5 : decode cX9_want 5 = .ok (.iload 4, 2) := by decide +kernel
theorem dX9_want_7 : decode cX9_want 7 = .ok (.ifCond .lt 55, 3) := by decide +kernel
theorem dX9_want_10 : decode cX9_want 10 = .ok (.aload_n 0, 1) := by decide +kernel
theorem dX9_want_11 : decode cX9_want 11 = .ok (.getfield 41, 3) := by decide +kernel
theorem dX9_want_14 : decode cX9_want 14 = .ok (.aload_n 0, 1) := by decide +kernel
theorem dX9_want_15 : decode cX9_want 15 = .ok (.getfield 142, 3) := by decide +kernel
theorem dX9_want_18 : decode cX9_want 18 = .ok (.iload_n 2, 1) := by decide +kernel
theorem dX9_want_19 : decode cX9_want 19 = .ok (.iload 4, 2) := by decide +kernel
theorem dX9_want_21 : decode cX9_want 21 = .ok (.invokestatic 113, 3) := by decide +kernel
theorem dX9_want_24 : decode cX9_want 24 = .ok (.iastore, 1) := by decide +kernel
theorem dX9_want_25 : decode cX9_want 25 = .ok (.aload_n 0, 1) := by decide +kernel
theorem dX9_want_26 : decode cX9_want 26 = .ok (.getfield 44, 3) := by decide +kernel
theorem dX9_want_29 : decode cX9_want 29 = .ok (.aload_n 0, 1) := by decide +kernel
theorem dX9_want_30 : decode cX9_want 30 = .ok (.getfield 142, 3) := by decide +kernel
theorem dX9_want_33 : decode cX9_want 33 = .ok (.iload_n 3, 1) := by decide +kernel
theorem dX9_want_34 : decode cX9_want 34 = .ok (.iastore, 1) := by decide +kernel
theorem dX9_want_35 : decode cX9_want 35 = .ok (.aload_n 0, 1) := by decide +kernel
theorem dX9_want_36 : decode cX9_want 36 = .ok (.getfield 47, 3) := by decide +kernel
theorem dX9_want_39 : decode cX9_want 39 = .ok (.aload_n 0, 1) := by decide +kernel
theorem dX9_want_40 : decode cX9_want 40 = .ok (.getfield 142, 3) := by decide +kernel
theorem dX9_want_43 : decode cX9_want 43 = .ok (.iload 4, 2) := by decide +kernel
theorem dX9_want_45 : decode cX9_want 45 = .ok (.iastore, 1) := by decide +kernel
theorem dX9_want_46 : decode cX9_want 46 = .ok (.aload_n 0, 1) := by decide +kernel
theorem dX9_want_47 : decode cX9_want 47 = .ok (.dup, 1) := by decide +kernel
theorem dX9_want_48 : decode cX9_want 48 = .ok (.getfield 142, 3) := by decide +kernel
theorem dX9_want_51 : decode cX9_want 51 = .ok (.iconst 1, 1) := by decide +kernel
theorem dX9_want_52 : decode cX9_want 52 = .ok (.iadd, 1) := by decide +kernel
theorem dX9_want_53 : decode cX9_want 53 = .ok (.putfield 142, 3) := by decide +kernel
theorem dX9_want_56 : decode cX9_want 56 = .ok (.iinc 4 (-1), 3) := by decide +kernel
theorem dX9_want_59 : decode cX9_want 59 = .ok (.goto (-54), 3) := by decide +kernel
theorem dX9_want_62 : decode cX9_want 62 = .ok (.return_, 1) := by decide +kernel
theorem dX9_wrong_0 : decode cX9_wrong 0 = .ok (.iconst 0, 1) := by decide +kernel
theorem dX9_wrong_1 : decode cX9_wrong 1 = .ok (.istore_n 2, 1) := by decide +kernel
theorem dX9_wrong_2 : decode cX9_wrong 2 = .ok (.iload_n 2, 1) := by decide +kernel
theorem dX9_wrong_3 : decode cX9_wrong 3 = .ok (.bipush 8, 2) := by decide +kernel
theorem dX9_wrong_5 : decode cX9_wrong 5 = .ok (.if_icmp .ge 16, 3) := by decide +kernel
theorem dX9_wrong_8 : decode cX9_wrong 8 = .ok (.aload_n 0, 1) := by decide +kernel
theorem dX9_wrong_9 : decode cX9_wrong 9 = .ok (.getfield 56, 3) := by decide +kernel
theorem dX9_wrong_12 : decode cX9_wrong 12 = .ok (.iload_n 2, 1) := by decide +kernel
theorem dX9_wrong_13 : decode cX9_wrong 13 = .ok (.iconst (-1), 1) := by decide +kernel
theorem dX9_wrong_14 : decode cX9_wrong 14 = .ok (.iastore, 1) := by decide +kernel
theorem dX9_wrong_15 : decode cX9_wrong 15 = .ok (.iinc 2 1, 3) := by decide +kernel
theorem dX9_wrong_18 : decode cX9_wrong 18 = .ok (.goto (-16), 3) := by decide +kernel
theorem dX9_wrong_21 : decode cX9_wrong 21 = .ok (.aload_n 0, 1) := by decide +kernel
theorem dX9_wrong_22 : decode cX9_wrong 22 = .ok (.iconst 0, 1) := by decide +kernel
theorem dX9_wrong_23 : decode cX9_wrong 23 = .ok (.putfield 142, 3) := by decide +kernel
theorem dX9_wrong_26 : decode cX9_wrong 26 = .ok (.aload_n 0, 1) := by decide +kernel
theorem dX9_wrong_27 : decode cX9_wrong 27 = .ok (.aload_n 0, 1) := by decide +kernel
theorem dX9_wrong_28 : decode cX9_wrong 28 = .ok (.getfield 19, 3) := by decide +kernel
theorem dX9_wrong_31 : decode cX9_wrong 31 = .ok (.aload_n 0, 1) := by decide +kernel
theorem dX9_wrong_32 : decode cX9_wrong 32 = .ok (.getfield 130, 3) := by decide +kernel
theorem dX9_wrong_35 : decode cX9_wrong 35 = .ok (.iconst (-1), 1) := by decide +kernel
theorem dX9_wrong_36 : decode cX9_wrong 36 = .ok (.invokevirtual 145, 3) := by decide +kernel
theorem dX9_wrong_39 : decode cX9_wrong 39 = .ok (.iconst 0, 1) := by decide +kernel
theorem dX9_wrong_40 : decode cX9_wrong 40 = .ok (.istore_n 2, 1) := by decide +kernel
theorem dX9_wrong_41 : decode cX9_wrong 41 = .ok (.aload_n 0, 1) := by decide +kernel
theorem dX9_wrong_42 : decode cX9_wrong 42 = .ok (.getfield 142, 3) := by decide +kernel
theorem dX9_wrong_45 : decode cX9_wrong 45 = .ok (.ifCond .le 140, 3) := by decide +kernel
theorem dX9_wrong_48 : decode cX9_wrong 48 = .ok (.iload_n 2, 1) := by decide +kernel
theorem dX9_wrong_49 : decode cX9_wrong 49 = .ok (.aload_n 0, 1) := by decide +kernel
theorem dX9_wrong_50 : decode cX9_wrong 50 = .ok (.getfield 139, 3) := by decide +kernel
theorem dX9_wrong_53 : decode cX9_wrong 53 = .ok (.if_icmp .eq 23, 3) := by decide +kernel
theorem dX9_wrong_56 : decode cX9_wrong 56 = .ok (.aload_n 0, 1) := by decide +kernel
theorem dX9_wrong_57 : decode cX9_wrong 57 = .ok (.iload_n 2, 1) := by decide +kernel
theorem dX9_wrong_58 : decode cX9_wrong 58 = .ok (.aload_n 0, 1) := by decide +kernel
theorem dX9_wrong_59 : decode cX9_wrong 59 = .ok (.getfield 41, 3) := by decide +kernel
theorem dX9_wrong_62 : decode cX9_wrong 62 = .ok (.aload_n 0, 1) := by decide +kernel
theorem dX9_wrong_63 : decode cX9_wrong 63 = .ok (.getfield 142, 3) := by decide +kernel
theorem dX9_wrong_66 : decode cX9_wrong 66 = .ok (.iconst 1, 1) := by decide +kernel
theorem dX9_wrong_67 : decode cX9_wrong 67 = .ok (.isub, 1) := by decide +kernel
theorem dX9_wrong_68 : decode cX9_wrong 68 = .ok (.iaload, 1) := by decide +kernel
theorem dX9_wrong_69 : decode cX9_wrong 69 = .ok (.iload_n 1, 1) := by decide +kernel
theorem dX9_wrong_70 : decode cX9_wrong 70 = .ok (.invokevirtual 149, 3) := by decide +kernel
theorem dX9_wrong_73 : decode cX9_wrong 73 = .ok (.ifCond .ne 5, 3) := by decide +kernel
theorem dX9_wrong_76 : decode cX9_wrong 76 = .ok (.iload_n 2, 1) := by decide +kernel
theorem dX9_wrong_77 : decode cX9_wrong 77 = .ok (.ireturn, 1) := by decide +kernel
theorem dX9_wrong_78 : decode cX9_wrong 78 = .ok (.aload_n 0, 1) := by decide +kernel
theorem dX9_wrong_79 : decode cX9_wrong 79 = .ok (.dup, 1) := by decide +kernel
theorem dX9_wrong_80 : decode cX9_wrong 80 = .ok (.getfield 142, 3) := by decide +kernel
theorem dX9_wrong_83 : decode cX9_wrong 83 = .ok (.iconst 1, 1) := by decide +kernel
theorem dX9_wrong_84 : decode cX9_wrong 84 = .ok (.isub, 1) := by decide +kernel
theorem dX9_wrong_85 : decode cX9_wrong 85 = .ok (.putfield 142, 3) := by decide +kernel
theorem dX9_wrong_88 : decode cX9_wrong 88 = .ok (.aload_n 0, 1) := by decide +kernel
theorem dX9_wrong_89 : decode cX9_wrong 89 = .ok (.getfield 50, 3) := by decide +kernel
theorem dX9_wrong_92 : decode cX9_wrong 92 = .ok (.iload_n 2, 1) := by decide +kernel
theorem dX9_wrong_93 : decode cX9_wrong 93 = .ok (.aload_n 0, 1) := by decide +kernel
theorem dX9_wrong_94 : decode cX9_wrong 94 = .ok (.getfield 44, 3) := by decide +kernel
theorem dX9_wrong_97 : decode cX9_wrong 97 = .ok (.aload_n 0, 1) := by decide +kernel
theorem dX9_wrong_98 : decode cX9_wrong 98 = .ok (.getfield 142, 3) := by decide +kernel
theorem dX9_wrong_101 : decode cX9_wrong 101 = .ok (.iaload, 1) := by decide +kernel
theorem dX9_wrong_102 : decode cX9_wrong 102 = .ok (.iastore, 1) := by decide +kernel
theorem dX9_wrong_103 : decode cX9_wrong 103 = .ok (.aload_n 0, 1) := by decide +kernel
theorem dX9_wrong_104 : decode cX9_wrong 104 = .ok (.getfield 53, 3) := by decide +kernel
theorem dX9_wrong_107 : decode cX9_wrong 107 = .ok (.iload_n 2, 1) := by decide +kernel
theorem dX9_wrong_108 : decode cX9_wrong 108 = .ok (.aload_n 0, 1) := by decide +kernel
theorem dX9_wrong_109 : decode cX9_wrong 109 = .ok (.getfield 47, 3) := by decide +kernel
theorem dX9_wrong_112 : decode cX9_wrong 112 = .ok (.aload_n 0, 1) := by decide +kernel
theorem dX9_wrong_113 : decode cX9_wrong 113 = .ok (.getfield 142, 3) := by decide +kernel
theorem dX9_wrong_116 : decode cX9_wrong 116 = .ok (.iaload, 1) := by decide +kernel
theorem dX9_wrong_117 : decode cX9_wrong 117 = .ok (.iastore, 1) := by decide +kernel
theorem dX9_wrong_118 : decode cX9_wrong 118 = .ok (.aload_n 0, 1) := by decide +kernel
theorem dX9_wrong_119 : decode cX9_wrong 119 = .ok (.getfield 23, 3) := by decide +kernel
theorem dX9_wrong_122 : decode cX9_wrong 122 = .ok (.iload_n 2, 1) := by decide +kernel
theorem dX9_wrong_123 : decode cX9_wrong 123 = .ok (.iaload, 1) := by decide +kernel
theorem dX9_wrong_124 : decode cX9_wrong 124 = .ok (.ifCond .lt 30, 3) := by decide +kernel
theorem dX9_wrong_127 : decode cX9_wrong 127 = .ok (.aload_n 0, 1) := by decide +kernel
theorem dX9_wrong_128 : decode cX9_wrong 128 = .ok (.aload_n 0, 1) := by decide +kernel
theorem dX9_wrong_129 : decode cX9_wrong 129 = .ok (.getfield 13, 3) := by decide +kernel
theorem dX9_wrong_132 : decode cX9_wrong 132 = .ok (.aload_n 0, 1) := by decide +kernel
theorem dX9_wrong_133 : decode cX9_wrong 133 = .ok (.getfield 23, 3) := by decide +kernel
theorem dX9_wrong_136 : decode cX9_wrong 136 = .ok (.iload_n 2, 1) := by decide +kernel
theorem dX9_wrong_137 : decode cX9_wrong 137 = .ok (.iaload, 1) := by decide +kernel
theorem dX9_wrong_138 : decode cX9_wrong 138 = .ok (.iaload, 1) := by decide +kernel
theorem dX9_wrong_139 : decode cX9_wrong 139 = .ok (.aload_n 0, 1) := by decide +kernel
theorem dX9_wrong_140 : decode cX9_wrong 140 = .ok (.getfield 16, 3) := by decide +kernel
theorem dX9_wrong_143 : decode cX9_wrong 143 = .ok (.aload_n 0, 1) := by decide +kernel
theorem dX9_wrong_144 : decode cX9_wrong 144 = .ok (.getfield 23, 3) := by decide +kernel
theorem dX9_wrong_147 : decode cX9_wrong 147 = .ok (.iload_n 2, 1) := by decide +kernel
theorem dX9_wrong_148 : decode cX9_wrong 148 = .ok (.iaload, 1) := by decide +kernel
theorem dX9_wrong_149 : decode cX9_wrong 149 = .ok (.iaload, 1) := by decide +kernel
theorem dX9_wrong_150 : decode cX9_wrong 150 = .ok (.iload_n 2, 1) := by decide +kernel
theorem dX9_wrong_151 : decode cX9_wrong 151 = .ok (.invokevirtual 145, 3) := by decide +kernel
theorem dX9_wrong_154 : decode cX9_wrong 154 = .ok (.aload_n 0, 1) := by decide +kernel
theorem dX9_wrong_155 : decode cX9_wrong 155 = .ok (.getfield 142, 3) := by decide +kernel
theorem dX9_wrong_158 : decode cX9_wrong 158 = .ok (.ifCond .ne 21, 3) := by decide +kernel
theorem dX9_wrong_161 : decode cX9_wrong 161 = .ok (.iload_n 2, 1) := by decide +kernel
theorem dX9_wrong_162 : decode cX9_wrong 162 = .ok (.iconst 1, 1) := by decide +kernel
theorem dX9_wrong_163 : decode cX9_wrong 163 = .ok (.iadd, 1) := by decide +kernel
theorem dX9_wrong_164 : decode cX9_wrong 164 = .ok (.aload_n 0, 1) := by decide +kernel
theorem dX9_wrong_165 : decode cX9_wrong 165 = .ok (.getfield 139, 3) := by decide +kernel
theorem dX9_wrong_168 : decode cX9_wrong 168 = .ok (.if_icmp .ge 9, 3) := by decide +kernel
theorem dX9_wrong_171 : decode cX9_wrong 171 = .ok (.iload_n 2, 1) := by decide +kernel
theorem dX9_wrong_172 : decode cX9_wrong 172 = .ok (.iconst 1, 1) := by decide +kernel
theorem dX9_wrong_173 : decode cX9_wrong 173 = .ok (.iadd, 1) := by decide +kernel
theorem dX9_wrong_174 : decode cX9_wrong 174 = .ok (.goto 4, 3) := by decide +kernel
theorem dX9_wrong_177 : decode cX9_wrong 177 = .ok (.iconst (-1), 1) := by decide +kernel
theorem dX9_wrong_178 : decode cX9_wrong 178 = .ok (.ireturn, 1) := by decide +kernel
theorem dX9_wrong_179 : decode cX9_wrong 179 = .ok (.iinc 2 1, 3) := by decide +kernel
theorem dX9_wrong_182 : decode cX9_wrong 182 = .ok (.goto (-141), 3) := by decide +kernel
theorem dX9_wrong_185 : decode cX9_wrong 185 = .ok (.aload_n 0, 1) := by decide +kernel
theorem dX9_wrong_186 : decode cX9_wrong 186 = .ok (.getfield 139, 3) := by decide +kernel
theorem dX9_wrong_189 : decode cX9_wrong 189 = .ok (.ifCond .le 7, 3) := by decide +kernel
theorem dX9_wrong_192 : decode cX9_wrong 192 = .ok (.iconst 0, 1) := by decide +kernel
theorem dX9_wrong_193 : decode cX9_wrong 193 = .ok (.goto 4, 3) := by decide +kernel
theorem dX9_wrong_196 : decode cX9_wrong 196 = .ok (.iconst (-1), 1) := by decide +kernel
theorem dX9_wrong_197 : decode cX9_wrong 197 = .ok (.ireturn, 1) := by decide +kernel
theorem dX9_fits_0 : decode cX9_fits 0 = .ok (.aload_n 0, 1) := by decide +kernel
theorem dX9_fits_1 : decode cX9_fits 1 = .ok (.getfield 23, 3) := by decide +kernel
theorem dX9_fits_4 : decode cX9_fits 4 = .ok (.iload_n 1, 1) := by decide +kernel
theorem dX9_fits_5 : decode cX9_fits 5 = .ok (.iaload, 1) := by decide +kernel
theorem dX9_fits_6 : decode cX9_fits 6 = .ok (.istore 4, 2) := by decide +kernel
theorem dX9_fits_8 : decode cX9_fits 8 = .ok (.iload 4, 2) := by decide +kernel
theorem dX9_fits_10 : decode cX9_fits 10 = .ok (.ifCond .lt 29, 3) := by decide +kernel
theorem dX9_fits_13 : decode cX9_fits 13 = .ok (.iload 4, 2) := by decide +kernel
theorem dX9_fits_15 : decode cX9_fits 15 = .ok (.aload_n 0, 1) := by decide +kernel
theorem dX9_fits_16 : decode cX9_fits 16 = .ok (.getfield 124, 3) := by decide +kernel
theorem dX9_fits_19 : decode cX9_fits 19 = .ok (.if_icmp .ge 18, 3) := by decide +kernel
theorem dX9_fits_22 : decode cX9_fits 22 = .ok (.aload_n 0, 1) := by decide +kernel
theorem dX9_fits_23 : decode cX9_fits 23 = .ok (.getfield 9, 3) := by decide +kernel
theorem dX9_fits_26 : decode cX9_fits 26 = .ok (.iload 4, 2) := by decide +kernel
theorem dX9_fits_28 : decode cX9_fits 28 = .ok (.iaload, 1) := by decide +kernel
theorem dX9_fits_29 : decode cX9_fits 29 = .ok (.iload_n 2, 1) := by decide +kernel
theorem dX9_fits_30 : decode cX9_fits 30 = .ok (.if_icmp .ne 7, 3) := by decide +kernel
theorem dX9_fits_33 : decode cX9_fits 33 = .ok (.iconst 1, 1) := by decide +kernel
theorem dX9_fits_34 : decode cX9_fits 34 = .ok (.goto 4, 3) := by decide +kernel
theorem dX9_fits_37 : decode cX9_fits 37 = .ok (.iconst 0, 1) := by decide +kernel
theorem dX9_fits_38 : decode cX9_fits 38 = .ok (.ireturn, 1) := by decide +kernel
theorem dX9_fits_39 : decode cX9_fits 39 = .ok (.iload_n 3, 1) := by decide +kernel
theorem dX9_fits_40 : decode cX9_fits 40 = .ok (.ifCond .ne 15, 3) := by decide +kernel
theorem dX9_fits_43 : decode cX9_fits 43 = .ok (.iload 4, 2) := by decide +kernel
theorem dX9_fits_45 : decode cX9_fits 45 = .ok (.iconst (-1), 1) := by decide +kernel
theorem dX9_fits_46 : decode cX9_fits 46 = .ok (.if_icmp .ne 7, 3) := by decide +kernel
theorem dX9_fits_49 : decode cX9_fits 49 = .ok (.iconst 1, 1) := by decide +kernel
theorem dX9_fits_50 : decode cX9_fits 50 = .ok (.goto 4, 3) := by decide +kernel
theorem dX9_fits_53 : decode cX9_fits 53 = .ok (.iconst 0, 1) := by decide +kernel
theorem dX9_fits_54 : decode cX9_fits 54 = .ok (.ireturn, 1) := by decide +kernel
theorem dX9_fits_55 : decode cX9_fits 55 = .ok (.iload 4, 2) := by decide +kernel
theorem dX9_fits_57 : decode cX9_fits 57 = .ok (.bipush (-8), 2) := by decide +kernel
theorem dX9_fits_59 : decode cX9_fits 59 = .ok (.if_icmp .ge 5, 3) := by decide +kernel
theorem dX9_fits_62 : decode cX9_fits 62 = .ok (.iconst 0, 1) := by decide +kernel
theorem dX9_fits_63 : decode cX9_fits 63 = .ok (.ireturn, 1) := by decide +kernel
theorem dX9_fits_64 : decode cX9_fits 64 = .ok (.iconst (-1), 1) := by decide +kernel
theorem dX9_fits_65 : decode cX9_fits 65 = .ok (.iload 4, 2) := by decide +kernel
theorem dX9_fits_67 : decode cX9_fits 67 = .ok (.isub, 1) := by decide +kernel
theorem dX9_fits_68 : decode cX9_fits 68 = .ok (.istore 5, 2) := by decide +kernel
theorem dX9_fits_70 : decode cX9_fits 70 = .ok (.aload_n 0, 1) := by decide +kernel
theorem dX9_fits_71 : decode cX9_fits 71 = .ok (.getfield 56, 3) := by decide +kernel
theorem dX9_fits_74 : decode cX9_fits 74 = .ok (.iload 5, 2) := by decide +kernel
theorem dX9_fits_76 : decode cX9_fits 76 = .ok (.iaload, 1) := by decide +kernel
theorem dX9_fits_77 : decode cX9_fits 77 = .ok (.iconst (-1), 1) := by decide +kernel
theorem dX9_fits_78 : decode cX9_fits 78 = .ok (.if_icmp .ne 11, 3) := by decide +kernel
theorem dX9_fits_81 : decode cX9_fits 81 = .ok (.aload_n 0, 1) := by decide +kernel
theorem dX9_fits_82 : decode cX9_fits 82 = .ok (.getfield 56, 3) := by decide +kernel
theorem dX9_fits_85 : decode cX9_fits 85 = .ok (.iload 5, 2) := by decide +kernel
theorem dX9_fits_87 : decode cX9_fits 87 = .ok (.iload_n 2, 1) := by decide +kernel
theorem dX9_fits_88 : decode cX9_fits 88 = .ok (.iastore, 1) := by decide +kernel
theorem dX9_fits_89 : decode cX9_fits 89 = .ok (.aload_n 0, 1) := by decide +kernel
theorem dX9_fits_90 : decode cX9_fits 90 = .ok (.getfield 56, 3) := by decide +kernel
theorem dX9_fits_93 : decode cX9_fits 93 = .ok (.iload 5, 2) := by decide +kernel
theorem dX9_fits_95 : decode cX9_fits 95 = .ok (.iaload, 1) := by decide +kernel
theorem dX9_fits_96 : decode cX9_fits 96 = .ok (.iload_n 2, 1) := by decide +kernel
theorem dX9_fits_97 : decode cX9_fits 97 = .ok (.if_icmp .ne 7, 3) := by decide +kernel
theorem dX9_fits_100 : decode cX9_fits 100 = .ok (.iconst 1, 1) := by decide +kernel
theorem dX9_fits_101 : decode cX9_fits 101 = .ok (.goto 4, 3) := by decide +kernel
theorem dX9_fits_104 : decode cX9_fits 104 = .ok (.iconst 0, 1) := by decide +kernel
theorem dX9_fits_105 : decode cX9_fits 105 = .ok (.ireturn, 1) := by decide +kernel
theorem dX9_rule_0 : decode cX9_rule 0 = .ok (.aload_n 0, 1) := by decide +kernel
theorem dX9_rule_1 : decode cX9_rule 1 = .ok (.getfield 19, 3) := by decide +kernel
theorem dX9_rule_4 : decode cX9_rule 4 = .ok (.iconst (-1), 1) := by decide +kernel
theorem dX9_rule_5 : decode cX9_rule 5 = .ok (.if_icmp .eq 12, 3) := by decide +kernel
theorem dX9_rule_8 : decode cX9_rule 8 = .ok (.aload_n 0, 1) := by decide +kernel
theorem dX9_rule_9 : decode cX9_rule 9 = .ok (.getfield 133, 3) := by decide +kernel
theorem dX9_rule_12 : decode cX9_rule 12 = .ok (.bipush 24, 2) := by decide +kernel
theorem dX9_rule_14 : decode cX9_rule 14 = .ok (.if_icmp .ne 10, 3) := by decide +kernel
theorem dX9_rule_17 : decode cX9_rule 17 = .ok (.aload_n 0, 1) := by decide +kernel
theorem dX9_rule_18 : decode cX9_rule 18 = .ok (.iconst 0, 1) := by decide +kernel
theorem dX9_rule_19 : decode cX9_rule 19 = .ok (.putfield 139, 3) := by decide +kernel
theorem dX9_rule_22 : decode cX9_rule 22 = .ok (.iconst (-1), 1) := by decide +kernel
theorem dX9_rule_23 : decode cX9_rule 23 = .ok (.ireturn, 1) := by decide +kernel
theorem dX9_rule_24 : decode cX9_rule 24 = .ok (.aload_n 0, 1) := by decide +kernel
theorem dX9_rule_25 : decode cX9_rule 25 = .ok (.iconst 0, 1) := by decide +kernel
theorem dX9_rule_26 : decode cX9_rule 26 = .ok (.invokevirtual 153, 3) := by decide +kernel
theorem dX9_rule_29 : decode cX9_rule 29 = .ok (.istore_n 1, 1) := by decide +kernel
theorem dX9_rule_30 : decode cX9_rule 30 = .ok (.iload_n 1, 1) := by decide +kernel
theorem dX9_rule_31 : decode cX9_rule 31 = .ok (.ifCond .lt 13, 3) := by decide +kernel
theorem dX9_rule_34 : decode cX9_rule 34 = .ok (.aload_n 0, 1) := by decide +kernel
theorem dX9_rule_35 : decode cX9_rule 35 = .ok (.iconst 0, 1) := by decide +kernel
theorem dX9_rule_36 : decode cX9_rule 36 = .ok (.putfield 139, 3) := by decide +kernel
theorem dX9_rule_39 : decode cX9_rule 39 = .ok (.bipush (-2), 2) := by decide +kernel
theorem dX9_rule_41 : decode cX9_rule 41 = .ok (.iload_n 1, 1) := by decide +kernel
theorem dX9_rule_42 : decode cX9_rule 42 = .ok (.isub, 1) := by decide +kernel
theorem dX9_rule_43 : decode cX9_rule 43 = .ok (.ireturn, 1) := by decide +kernel
theorem dX9_rule_44 : decode cX9_rule 44 = .ok (.sipush 160, 3) := by decide +kernel
theorem dX9_rule_47 : decode cX9_rule 47 = .ok (.aload_n 0, 1) := by decide +kernel
theorem dX9_rule_48 : decode cX9_rule 48 = .ok (.getfield 133, 3) := by decide +kernel
theorem dX9_rule_51 : decode cX9_rule 51 = .ok (.imul, 1) := by decide +kernel
theorem dX9_rule_52 : decode cX9_rule 52 = .ok (.istore_n 2, 1) := by decide +kernel
theorem dX9_rule_53 : decode cX9_rule 53 = .ok (.iconst 0, 1) := by decide +kernel
theorem dX9_rule_54 : decode cX9_rule 54 = .ok (.istore_n 3, 1) := by decide +kernel
theorem dX9_rule_55 : decode cX9_rule 55 = .ok (.iload_n 3, 1) := by decide +kernel
theorem dX9_rule_56 : decode cX9_rule 56 = .ok (.aload_n 0, 1) := by decide +kernel
theorem dX9_rule_57 : decode cX9_rule 57 = .ok (.getfield 139, 3) := by decide +kernel
theorem dX9_rule_60 : decode cX9_rule 60 = .ok (.if_icmp .ge 111, 3) := by decide +kernel
theorem dX9_rule_63 : decode cX9_rule 63 = .ok (.aload_n 0, 1) := by decide +kernel
theorem dX9_rule_64 : decode cX9_rule 64 = .ok (.getfield 26, 3) := by decide +kernel
theorem dX9_rule_67 : decode cX9_rule 67 = .ok (.iload_n 2, 1) := by decide +kernel
theorem dX9_rule_68 : decode cX9_rule 68 = .ok (.iload_n 3, 1) := by decide +kernel
theorem dX9_rule_69 : decode cX9_rule 69 = .ok (.iadd, 1) := by decide +kernel
theorem dX9_rule_70 : decode cX9_rule 70 = .ok (.aload_n 0, 1) := by decide +kernel
theorem dX9_rule_71 : decode cX9_rule 71 = .ok (.getfield 23, 3) := by decide +kernel
theorem dX9_rule_74 : decode cX9_rule 74 = .ok (.iload_n 3, 1) := by decide +kernel
theorem dX9_rule_75 : decode cX9_rule 75 = .ok (.iaload, 1) := by decide +kernel
theorem dX9_rule_76 : decode cX9_rule 76 = .ok (.iastore, 1) := by decide +kernel
theorem dX9_rule_77 : decode cX9_rule 77 = .ok (.aload_n 0, 1) := by decide +kernel
theorem dX9_rule_78 : decode cX9_rule 78 = .ok (.getfield 29, 3) := by decide +kernel
theorem dX9_rule_81 : decode cX9_rule 81 = .ok (.iload_n 2, 1) := by decide +kernel
theorem dX9_rule_82 : decode cX9_rule 82 = .ok (.iload_n 3, 1) := by decide +kernel
theorem dX9_rule_83 : decode cX9_rule 83 = .ok (.iadd, 1) := by decide +kernel
theorem dX9_rule_84 : decode cX9_rule 84 = .ok (.aload_n 0, 1) := by decide +kernel
theorem dX9_rule_85 : decode cX9_rule 85 = .ok (.getfield 50, 3) := by decide +kernel
theorem dX9_rule_88 : decode cX9_rule 88 = .ok (.iload_n 3, 1) := by decide +kernel
theorem dX9_rule_89 : decode cX9_rule 89 = .ok (.iaload, 1) := by decide +kernel
theorem dX9_rule_90 : decode cX9_rule 90 = .ok (.iastore, 1) := by decide +kernel
theorem dX9_rule_91 : decode cX9_rule 91 = .ok (.aload_n 0, 1) := by decide +kernel
theorem dX9_rule_92 : decode cX9_rule 92 = .ok (.getfield 32, 3) := by decide +kernel
theorem dX9_rule_95 : decode cX9_rule 95 = .ok (.iload_n 2, 1) := by decide +kernel
theorem dX9_rule_96 : decode cX9_rule 96 = .ok (.iload_n 3, 1) := by decide +kernel
theorem dX9_rule_97 : decode cX9_rule 97 = .ok (.iadd, 1) := by decide +kernel
theorem dX9_rule_98 : decode cX9_rule 98 = .ok (.aload_n 0, 1) := by decide +kernel
theorem dX9_rule_99 : decode cX9_rule 99 = .ok (.getfield 53, 3) := by decide +kernel
theorem dX9_rule_102 : decode cX9_rule 102 = .ok (.iload_n 3, 1) := by decide +kernel
theorem dX9_rule_103 : decode cX9_rule 103 = .ok (.iaload, 1) := by decide +kernel
theorem dX9_rule_104 : decode cX9_rule 104 = .ok (.iastore, 1) := by decide +kernel
theorem dX9_rule_105 : decode cX9_rule 105 = .ok (.iconst 1, 1) := by decide +kernel
theorem dX9_rule_106 : decode cX9_rule 106 = .ok (.istore 4, 2) := by decide +kernel
theorem dX9_rule_108 : decode cX9_rule 108 = .ok (.iload_n 3, 1) := by decide +kernel
theorem dX9_rule_109 : decode cX9_rule 109 = .ok (.istore 5, 2) := by decide +kernel
theorem dX9_rule_111 : decode cX9_rule 111 = .ok (.iload 4, 2) := by decide +kernel
theorem dX9_rule_113 : decode cX9_rule 113 = .ok (.ifCond .le 42, 3) := by decide +kernel
theorem dX9_rule_116 : decode cX9_rule 116 = .ok (.iload 4, 2) := by decide +kernel
theorem dX9_rule_118 : decode cX9_rule 118 = .ok (.aload_n 0, 1) := by decide +kernel
theorem dX9_rule_119 : decode cX9_rule 119 = .ok (.getfield 23, 3) := by decide +kernel
theorem dX9_rule_122 : decode cX9_rule 122 = .ok (.iload 5, 2) := by decide +kernel
theorem dX9_rule_124 : decode cX9_rule 124 = .ok (.iaload, 1) := by decide +kernel
theorem dX9_rule_125 : decode cX9_rule 125 = .ok (.ifCond .lt 20, 3) := by decide +kernel
theorem dX9_rule_128 : decode cX9_rule 128 = .ok (.aload_n 0, 1) := by decide +kernel
theorem dX9_rule_129 : decode cX9_rule 129 = .ok (.getfield 13, 3) := by decide +kernel
theorem dX9_rule_132 : decode cX9_rule 132 = .ok (.aload_n 0, 1) := by decide +kernel
theorem dX9_rule_133 : decode cX9_rule 133 = .ok (.getfield 23, 3) := by decide +kernel
theorem dX9_rule_136 : decode cX9_rule 136 = .ok (.iload 5, 2) := by decide +kernel
theorem dX9_rule_138 : decode cX9_rule 138 = .ok (.iaload, 1) := by decide +kernel
theorem dX9_rule_139 : decode cX9_rule 139 = .ok (.iaload, 1) := by decide +kernel
theorem dX9_rule_140 : decode cX9_rule 140 = .ok (.iconst 1, 1) := by decide +kernel
theorem dX9_rule_141 : decode cX9_rule 141 = .ok (.isub, 1) := by decide +kernel
theorem dX9_rule_142 : decode cX9_rule 142 = .ok (.goto 4, 3) := by decide +kernel
theorem dX9_rule_145 : decode cX9_rule 145 = .ok (.iconst (-1), 1) := by decide +kernel
theorem dX9_rule_146 : decode cX9_rule 146 = .ok (.iadd, 1) := by decide +kernel
theorem dX9_rule_147 : decode cX9_rule 147 = .ok (.istore 4, 2) := by decide +kernel
theorem dX9_rule_149 : decode cX9_rule 149 = .ok (.iinc 5 1, 3) := by decide +kernel
theorem dX9_rule_152 : decode cX9_rule 152 = .ok (.goto (-41), 3) := by decide +kernel
theorem dX9_rule_155 : decode cX9_rule 155 = .ok (.aload_n 0, 1) := by decide +kernel
theorem dX9_rule_156 : decode cX9_rule 156 = .ok (.getfield 35, 3) := by decide +kernel
theorem dX9_rule_159 : decode cX9_rule 159 = .ok (.iload_n 2, 1) := by decide +kernel
theorem dX9_rule_160 : decode cX9_rule 160 = .ok (.iload_n 3, 1) := by decide +kernel
theorem dX9_rule_161 : decode cX9_rule 161 = .ok (.iadd, 1) := by decide +kernel
theorem dX9_rule_162 : decode cX9_rule 162 = .ok (.iload 5, 2) := by decide +kernel
theorem dX9_rule_164 : decode cX9_rule 164 = .ok (.iastore, 1) := by decide +kernel
theorem dX9_rule_165 : decode cX9_rule 165 = .ok (.iinc 3 1, 3) := by decide +kernel
theorem dX9_rule_168 : decode cX9_rule 168 = .ok (.goto (-113), 3) := by decide +kernel
theorem dX9_rule_171 : decode cX9_rule 171 = .ok (.aload_n 0, 1) := by decide +kernel
theorem dX9_rule_172 : decode cX9_rule 172 = .ok (.getfield 38, 3) := by decide +kernel
theorem dX9_rule_175 : decode cX9_rule 175 = .ok (.aload_n 0, 1) := by decide +kernel
theorem dX9_rule_176 : decode cX9_rule 176 = .ok (.getfield 133, 3) := by decide +kernel
theorem dX9_rule_179 : decode cX9_rule 179 = .ok (.aload_n 0, 1) := by decide +kernel
theorem dX9_rule_180 : decode cX9_rule 180 = .ok (.getfield 139, 3) := by decide +kernel
theorem dX9_rule_183 : decode cX9_rule 183 = .ok (.iastore, 1) := by decide +kernel
theorem dX9_rule_184 : decode cX9_rule 184 = .ok (.aload_n 0, 1) := by decide +kernel
theorem dX9_rule_185 : decode cX9_rule 185 = .ok (.iconst 0, 1) := by decide +kernel
theorem dX9_rule_186 : decode cX9_rule 186 = .ok (.putfield 139, 3) := by decide +kernel
theorem dX9_rule_189 : decode cX9_rule 189 = .ok (.aload_n 0, 1) := by decide +kernel
theorem dX9_rule_190 : decode cX9_rule 190 = .ok (.dup, 1) := by decide +kernel
theorem dX9_rule_191 : decode cX9_rule 191 = .ok (.getfield 133, 3) := by decide +kernel
theorem dX9_rule_194 : decode cX9_rule 194 = .ok (.iconst 1, 1) := by decide +kernel
theorem dX9_rule_195 : decode cX9_rule 195 = .ok (.iadd, 1) := by decide +kernel
theorem dX9_rule_196 : decode cX9_rule 196 = .ok (.putfield 133, 3) := by decide +kernel
theorem dX9_rule_199 : decode cX9_rule 199 = .ok (.aload_n 0, 1) := by decide +kernel
theorem dX9_rule_200 : decode cX9_rule 200 = .ok (.iconst 0, 1) := by decide +kernel
theorem dX9_rule_201 : decode cX9_rule 201 = .ok (.putfield 127, 3) := by decide +kernel
theorem dX9_rule_204 : decode cX9_rule 204 = .ok (.aload_n 0, 1) := by decide +kernel
theorem dX9_rule_205 : decode cX9_rule 205 = .ok (.invokevirtual 136, 3) := by decide +kernel
theorem dX9_rule_208 : decode cX9_rule 208 = .ok (.aload_n 0, 1) := by decide +kernel
theorem dX9_rule_209 : decode cX9_rule 209 = .ok (.getfield 133, 3) := by decide +kernel
theorem dX9_rule_212 : decode cX9_rule 212 = .ok (.iconst 1, 1) := by decide +kernel
theorem dX9_rule_213 : decode cX9_rule 213 = .ok (.isub, 1) := by decide +kernel
theorem dX9_rule_214 : decode cX9_rule 214 = .ok (.ireturn, 1) := by decide +kernel
theorem dX9_openAll_0 : decode cX9_openAll 0 = .ok (.aload_n 0, 1) := by decide +kernel
theorem dX9_openAll_1 : decode cX9_openAll 1 = .ok (.aload_n 0, 1) := by decide +kernel
theorem dX9_openAll_2 : decode cX9_openAll 2 = .ok (.getfield 19, 3) := by decide +kernel
theorem dX9_openAll_5 : decode cX9_openAll 5 = .ok (.putfield 157, 3) := by decide +kernel
theorem dX9_openAll_8 : decode cX9_openAll 8 = .ok (.aload_n 0, 1) := by decide +kernel
theorem dX9_openAll_9 : decode cX9_openAll 9 = .ok (.iconst 0, 1) := by decide +kernel
theorem dX9_openAll_10 : decode cX9_openAll 10 = .ok (.putfield 160, 3) := by decide +kernel
theorem dX9_openAll_13 : decode cX9_openAll 13 = .ok (.aload_n 0, 1) := by decide +kernel
theorem dX9_openAll_14 : decode cX9_openAll 14 = .ok (.iconst 0, 1) := by decide +kernel
theorem dX9_openAll_15 : decode cX9_openAll 15 = .ok (.putfield 163, 3) := by decide +kernel
theorem dX9_openAll_18 : decode cX9_openAll 18 = .ok (.iconst 0, 1) := by decide +kernel
theorem dX9_openAll_19 : decode cX9_openAll 19 = .ok (.istore_n 1, 1) := by decide +kernel
theorem dX9_openAll_20 : decode cX9_openAll 20 = .ok (.iload_n 1, 1) := by decide +kernel
theorem dX9_openAll_21 : decode cX9_openAll 21 = .ok (.aload_n 0, 1) := by decide +kernel
theorem dX9_openAll_22 : decode cX9_openAll 22 = .ok (.getfield 133, 3) := by decide +kernel
theorem dX9_openAll_25 : decode cX9_openAll 25 = .ok (.if_icmp .ge 73, 3) := by decide +kernel
theorem dX9_openAll_28 : decode cX9_openAll 28 = .ok (.iconst 0, 1) := by decide +kernel
theorem dX9_openAll_29 : decode cX9_openAll 29 = .ok (.istore_n 2, 1) := by decide +kernel
theorem dX9_openAll_30 : decode cX9_openAll 30 = .ok (.iconst 0, 1) := by decide +kernel
theorem dX9_openAll_31 : decode cX9_openAll 31 = .ok (.istore_n 3, 1) := by decide +kernel
theorem dX9_openAll_32 : decode cX9_openAll 32 = .ok (.iload_n 3, 1) := by decide +kernel
theorem dX9_openAll_33 : decode cX9_openAll 33 = .ok (.aload_n 0, 1) := by decide +kernel
theorem dX9_openAll_34 : decode cX9_openAll 34 = .ok (.getfield 19, 3) := by decide +kernel
theorem dX9_openAll_37 : decode cX9_openAll 37 = .ok (.if_icmp .ge 35, 3) := by decide +kernel
theorem dX9_openAll_40 : decode cX9_openAll 40 = .ok (.aload_n 0, 1) := by decide +kernel
theorem dX9_openAll_41 : decode cX9_openAll 41 = .ok (.getfield 59, 3) := by decide +kernel
theorem dX9_openAll_44 : decode cX9_openAll 44 = .ok (.sipush 170, 3) := by decide +kernel
theorem dX9_openAll_47 : decode cX9_openAll 47 = .ok (.iload_n 1, 1) := by decide +kernel
theorem dX9_openAll_48 : decode cX9_openAll 48 = .ok (.imul, 1) := by decide +kernel
theorem dX9_openAll_49 : decode cX9_openAll 49 = .ok (.iload_n 3, 1) := by decide +kernel
theorem dX9_openAll_50 : decode cX9_openAll 50 = .ok (.iadd, 1) := by decide +kernel
theorem dX9_openAll_51 : decode cX9_openAll 51 = .ok (.iload_n 2, 1) := by decide +kernel
theorem dX9_openAll_52 : decode cX9_openAll 52 = .ok (.iastore, 1) := by decide +kernel
theorem dX9_openAll_53 : decode cX9_openAll 53 = .ok (.aload_n 0, 1) := by decide +kernel
theorem dX9_openAll_54 : decode cX9_openAll 54 = .ok (.getfield 35, 3) := by decide +kernel
theorem dX9_openAll_57 : decode cX9_openAll 57 = .ok (.sipush 160, 3) := by decide +kernel
theorem dX9_openAll_60 : decode cX9_openAll 60 = .ok (.iload_n 1, 1) := by decide +kernel
theorem dX9_openAll_61 : decode cX9_openAll 61 = .ok (.imul, 1) := by decide +kernel
theorem dX9_openAll_62 : decode cX9_openAll 62 = .ok (.iload_n 2, 1) := by decide +kernel
theorem dX9_openAll_63 : decode cX9_openAll 63 = .ok (.iadd, 1) := by decide +kernel
theorem dX9_openAll_64 : decode cX9_openAll 64 = .ok (.iaload, 1) := by decide +kernel
theorem dX9_openAll_65 : decode cX9_openAll 65 = .ok (.istore_n 2, 1) := by decide +kernel
theorem dX9_openAll_66 : decode cX9_openAll 66 = .ok (.iinc 3 1, 3) := by decide +kernel
theorem dX9_openAll_69 : decode cX9_openAll 69 = .ok (.goto (-37), 3) := by decide +kernel
theorem dX9_openAll_72 : decode cX9_openAll 72 = .ok (.aload_n 0, 1) := by decide +kernel
theorem dX9_openAll_73 : decode cX9_openAll 73 = .ok (.getfield 62, 3) := by decide +kernel
theorem dX9_openAll_76 : decode cX9_openAll 76 = .ok (.aload_n 0, 1) := by decide +kernel
theorem dX9_openAll_77 : decode cX9_openAll 77 = .ok (.getfield 160, 3) := by decide +kernel
theorem dX9_openAll_80 : decode cX9_openAll 80 = .ok (.iload_n 1, 1) := by decide +kernel
theorem dX9_openAll_81 : decode cX9_openAll 81 = .ok (.iastore, 1) := by decide +kernel
theorem dX9_openAll_82 : decode cX9_openAll 82 = .ok (.aload_n 0, 1) := by decide +kernel
theorem dX9_openAll_83 : decode cX9_openAll 83 = .ok (.dup, 1) := by decide +kernel
theorem dX9_openAll_84 : decode cX9_openAll 84 = .ok (.getfield 160, 3) := by decide +kernel
theorem dX9_openAll_87 : decode cX9_openAll 87 = .ok (.iconst 1, 1) := by decide +kernel
theorem dX9_openAll_88 : decode cX9_openAll 88 = .ok (.iadd, 1) := by decide +kernel
theorem dX9_openAll_89 : decode cX9_openAll 89 = .ok (.putfield 160, 3) := by decide +kernel
theorem dX9_openAll_92 : decode cX9_openAll 92 = .ok (.iinc 1 1, 3) := by decide +kernel
theorem dX9_openAll_95 : decode cX9_openAll 95 = .ok (.goto (-75), 3) := by decide +kernel
theorem dX9_openAll_98 : decode cX9_openAll 98 = .ok (.return_, 1) := by decide +kernel
theorem dX9_there_0 : decode cX9_there 0 = .ok (.aload_n 0, 1) := by decide +kernel
theorem dX9_there_1 : decode cX9_there 1 = .ok (.getfield 26, 3) := by decide +kernel
theorem dX9_there_4 : decode cX9_there 4 = .ok (.sipush 160, 3) := by decide +kernel
theorem dX9_there_7 : decode cX9_there 7 = .ok (.iload_n 1, 1) := by decide +kernel
theorem dX9_there_8 : decode cX9_there 8 = .ok (.imul, 1) := by decide +kernel
theorem dX9_there_9 : decode cX9_there 9 = .ok (.aload_n 0, 1) := by decide +kernel
theorem dX9_there_10 : decode cX9_there 10 = .ok (.getfield 59, 3) := by decide +kernel
theorem dX9_there_13 : decode cX9_there 13 = .ok (.sipush 170, 3) := by decide +kernel
theorem dX9_there_16 : decode cX9_there 16 = .ok (.iload_n 1, 1) := by decide +kernel
theorem dX9_there_17 : decode cX9_there 17 = .ok (.imul, 1) := by decide +kernel
theorem dX9_there_18 : decode cX9_there 18 = .ok (.iload_n 2, 1) := by decide +kernel
theorem dX9_there_19 : decode cX9_there 19 = .ok (.iadd, 1) := by decide +kernel
theorem dX9_there_20 : decode cX9_there 20 = .ok (.iaload, 1) := by decide +kernel
theorem dX9_there_21 : decode cX9_there 21 = .ok (.iadd, 1) := by decide +kernel
theorem dX9_there_22 : decode cX9_there 22 = .ok (.iaload, 1) := by decide +kernel
theorem dX9_there_23 : decode cX9_there 23 = .ok (.ireturn, 1) := by decide +kernel
theorem dX9_those_0 : decode cX9_those 0 = .ok (.aload_n 0, 1) := by decide +kernel
theorem dX9_those_1 : decode cX9_those 1 = .ok (.getfield 160, 3) := by decide +kernel
theorem dX9_those_4 : decode cX9_those 4 = .ok (.istore 5, 2) := by decide +kernel
theorem dX9_those_6 : decode cX9_those 6 = .ok (.iload_n 1, 1) := by decide +kernel
end
section
theorem dX9_those_7 : decode cX9_those 7 = .ok (.istore 6, 2) := by decide +kernel
theorem dX9_those_9 : decode cX9_those 9 = .ok (.iload 6, 2) := by decide +kernel
theorem dX9_those_11 : decode cX9_those 11 = .ok (.iload_n 1, 1) := by decide +kernel
theorem dX9_those_12 : decode cX9_those 12 = .ok (.iload_n 2, 1) := by decide +kernel
theorem dX9_those_13 : decode cX9_those 13 = .ok (.iadd, 1) := by decide +kernel
theorem dX9_those_14 : decode cX9_those 14 = .ok (.if_icmp .ge 55, 3) := by decide +kernel
theorem dX9_those_17 : decode cX9_those 17 = .ok (.aload_n 0, 1) := by decide +kernel
theorem dX9_those_18 : decode cX9_those 18 = .ok (.aload_n 0, 1) := by decide +kernel
theorem dX9_those_19 : decode cX9_those 19 = .ok (.getfield 62, 3) := by decide +kernel
theorem dX9_those_22 : decode cX9_those 22 = .ok (.iload 6, 2) := by decide +kernel
theorem dX9_those_24 : decode cX9_those 24 = .ok (.iaload, 1) := by decide +kernel
theorem dX9_those_25 : decode cX9_those 25 = .ok (.iload_n 3, 1) := by decide +kernel
theorem dX9_those_26 : decode cX9_those 26 = .ok (.invokevirtual 166, 3) := by decide +kernel
theorem dX9_those_29 : decode cX9_those 29 = .ok (.iload 4, 2) := by decide +kernel
theorem dX9_those_31 : decode cX9_those 31 = .ok (.if_icmp .eq 6, 3) := by decide +kernel
theorem dX9_those_34 : decode cX9_those 34 = .ok (.goto 29, 3) := by decide +kernel
theorem dX9_those_37 : decode cX9_those 37 = .ok (.aload_n 0, 1) := by decide +kernel
theorem dX9_those_38 : decode cX9_those 38 = .ok (.getfield 62, 3) := by decide +kernel
theorem dX9_those_41 : decode cX9_those 41 = .ok (.aload_n 0, 1) := by decide +kernel
theorem dX9_those_42 : decode cX9_those 42 = .ok (.getfield 160, 3) := by decide +kernel
theorem dX9_those_45 : decode cX9_those 45 = .ok (.aload_n 0, 1) := by decide +kernel
theorem dX9_those_46 : decode cX9_those 46 = .ok (.getfield 62, 3) := by decide +kernel
theorem dX9_those_49 : decode cX9_those 49 = .ok (.iload 6, 2) := by decide +kernel
theorem dX9_those_51 : decode cX9_those 51 = .ok (.iaload, 1) := by decide +kernel
theorem dX9_those_52 : decode cX9_those 52 = .ok (.iastore, 1) := by decide +kernel
theorem dX9_those_53 : decode cX9_those 53 = .ok (.aload_n 0, 1) := by decide +kernel
theorem dX9_those_54 : decode cX9_those 54 = .ok (.dup, 1) := by decide +kernel
theorem dX9_those_55 : decode cX9_those 55 = .ok (.getfield 160, 3) := by decide +kernel
theorem dX9_those_58 : decode cX9_those 58 = .ok (.iconst 1, 1) := by decide +kernel
theorem dX9_those_59 : decode cX9_those 59 = .ok (.iadd, 1) := by decide +kernel
theorem dX9_those_60 : decode cX9_those 60 = .ok (.putfield 160, 3) := by decide +kernel
theorem dX9_those_63 : decode cX9_those 63 = .ok (.iinc 6 1, 3) := by decide +kernel
theorem dX9_those_66 : decode cX9_those 66 = .ok (.goto (-57), 3) := by decide +kernel
theorem dX9_those_69 : decode cX9_those 69 = .ok (.aload_n 0, 1) := by decide +kernel
theorem dX9_those_70 : decode cX9_those 70 = .ok (.getfield 160, 3) := by decide +kernel
theorem dX9_those_73 : decode cX9_those 73 = .ok (.iload 5, 2) := by decide +kernel
theorem dX9_those_75 : decode cX9_those 75 = .ok (.isub, 1) := by decide +kernel
theorem dX9_those_76 : decode cX9_those 76 = .ok (.ireturn, 1) := by decide +kernel
theorem dX9_take_0 : decode cX9_take 0 = .ok (.iload_n 1, 1) := by decide +kernel
theorem dX9_take_1 : decode cX9_take 1 = .ok (.istore 5, 2) := by decide +kernel
theorem dX9_take_3 : decode cX9_take 3 = .ok (.iload 5, 2) := by decide +kernel
theorem dX9_take_5 : decode cX9_take 5 = .ok (.iload_n 1, 1) := by decide +kernel
theorem dX9_take_6 : decode cX9_take 6 = .ok (.iload_n 2, 1) := by decide +kernel
theorem dX9_take_7 : decode cX9_take 7 = .ok (.iadd, 1) := by decide +kernel
theorem dX9_take_8 : decode cX9_take 8 = .ok (.if_icmp .ge 203, 3) := by decide +kernel
theorem dX9_take_11 : decode cX9_take 11 = .ok (.sipush 170, 3) := by decide +kernel
theorem dX9_take_14 : decode cX9_take 14 = .ok (.aload_n 0, 1) := by decide +kernel
theorem dX9_take_15 : decode cX9_take 15 = .ok (.getfield 62, 3) := by decide +kernel
theorem dX9_take_18 : decode cX9_take 18 = .ok (.iload 5, 2) := by decide +kernel
theorem dX9_take_20 : decode cX9_take 20 = .ok (.iaload, 1) := by decide +kernel
theorem dX9_take_21 : decode cX9_take 21 = .ok (.imul, 1) := by decide +kernel
theorem dX9_take_22 : decode cX9_take 22 = .ok (.istore 6, 2) := by decide +kernel
theorem dX9_take_24 : decode cX9_take 24 = .ok (.aload_n 0, 1) := by decide +kernel
theorem dX9_take_25 : decode cX9_take 25 = .ok (.getfield 59, 3) := by decide +kernel
theorem dX9_take_28 : decode cX9_take 28 = .ok (.iload 6, 2) := by decide +kernel
theorem dX9_take_30 : decode cX9_take 30 = .ok (.iload_n 3, 1) := by decide +kernel
theorem dX9_take_31 : decode cX9_take 31 = .ok (.iadd, 1) := by decide +kernel
theorem dX9_take_32 : decode cX9_take 32 = .ok (.iaload, 1) := by decide +kernel
theorem dX9_take_33 : decode cX9_take 33 = .ok (.istore 7, 2) := by decide +kernel
theorem dX9_take_35 : decode cX9_take 35 = .ok (.aload_n 0, 1) := by decide +kernel
theorem dX9_take_36 : decode cX9_take 36 = .ok (.getfield 65, 3) := by decide +kernel
theorem dX9_take_39 : decode cX9_take 39 = .ok (.aload_n 0, 1) := by decide +kernel
theorem dX9_take_40 : decode cX9_take 40 = .ok (.getfield 163, 3) := by decide +kernel
theorem dX9_take_43 : decode cX9_take 43 = .ok (.iload 7, 2) := by decide +kernel
theorem dX9_take_45 : decode cX9_take 45 = .ok (.iastore, 1) := by decide +kernel
theorem dX9_take_46 : decode cX9_take 46 = .ok (.aload_n 0, 1) := by decide +kernel
theorem dX9_take_47 : decode cX9_take 47 = .ok (.dup, 1) := by decide +kernel
theorem dX9_take_48 : decode cX9_take 48 = .ok (.getfield 163, 3) := by decide +kernel
theorem dX9_take_51 : decode cX9_take 51 = .ok (.iconst 1, 1) := by decide +kernel
theorem dX9_take_52 : decode cX9_take 52 = .ok (.iadd, 1) := by decide +kernel
theorem dX9_take_53 : decode cX9_take 53 = .ok (.putfield 163, 3) := by decide +kernel
theorem dX9_take_56 : decode cX9_take 56 = .ok (.iload 4, 2) := by decide +kernel
theorem dX9_take_58 : decode cX9_take 58 = .ok (.ifCond .ne 48, 3) := by decide +kernel
theorem dX9_take_61 : decode cX9_take 61 = .ok (.iload_n 3, 1) := by decide +kernel
theorem dX9_take_62 : decode cX9_take 62 = .ok (.iconst 1, 1) := by decide +kernel
theorem dX9_take_63 : decode cX9_take 63 = .ok (.iadd, 1) := by decide +kernel
theorem dX9_take_64 : decode cX9_take 64 = .ok (.istore 8, 2) := by decide +kernel
theorem dX9_take_66 : decode cX9_take 66 = .ok (.iload 8, 2) := by decide +kernel
theorem dX9_take_68 : decode cX9_take 68 = .ok (.aload_n 0, 1) := by decide +kernel
theorem dX9_take_69 : decode cX9_take 69 = .ok (.getfield 157, 3) := by decide +kernel
theorem dX9_take_72 : decode cX9_take 72 = .ok (.if_icmp .ge 31, 3) := by decide +kernel
theorem dX9_take_75 : decode cX9_take 75 = .ok (.aload_n 0, 1) := by decide +kernel
theorem dX9_take_76 : decode cX9_take 76 = .ok (.getfield 59, 3) := by decide +kernel
theorem dX9_take_79 : decode cX9_take 79 = .ok (.iload 6, 2) := by decide +kernel
theorem dX9_take_81 : decode cX9_take 81 = .ok (.iload 8, 2) := by decide +kernel
theorem dX9_take_83 : decode cX9_take 83 = .ok (.iadd, 1) := by decide +kernel
theorem dX9_take_84 : decode cX9_take 84 = .ok (.iconst 1, 1) := by decide +kernel
theorem dX9_take_85 : decode cX9_take 85 = .ok (.isub, 1) := by decide +kernel
theorem dX9_take_86 : decode cX9_take 86 = .ok (.aload_n 0, 1) := by decide +kernel
theorem dX9_take_87 : decode cX9_take 87 = .ok (.getfield 59, 3) := by decide +kernel
theorem dX9_take_90 : decode cX9_take 90 = .ok (.iload 6, 2) := by decide +kernel
theorem dX9_take_92 : decode cX9_take 92 = .ok (.iload 8, 2) := by decide +kernel
theorem dX9_take_94 : decode cX9_take 94 = .ok (.iadd, 1) := by decide +kernel
theorem dX9_take_95 : decode cX9_take 95 = .ok (.iaload, 1) := by decide +kernel
theorem dX9_take_96 : decode cX9_take 96 = .ok (.iastore, 1) := by decide +kernel
theorem dX9_take_97 : decode cX9_take 97 = .ok (.iinc 8 1, 3) := by decide +kernel
theorem dX9_take_100 : decode cX9_take 100 = .ok (.goto (-34), 3) := by decide +kernel
theorem dX9_take_103 : decode cX9_take 103 = .ok (.goto 48, 3) := by decide +kernel
theorem dX9_take_106 : decode cX9_take 106 = .ok (.aload_n 0, 1) := by decide +kernel
theorem dX9_take_107 : decode cX9_take 107 = .ok (.getfield 157, 3) := by decide +kernel
theorem dX9_take_110 : decode cX9_take 110 = .ok (.iconst 1, 1) := by decide +kernel
theorem dX9_take_111 : decode cX9_take 111 = .ok (.isub, 1) := by decide +kernel
theorem dX9_take_112 : decode cX9_take 112 = .ok (.istore 8, 2) := by decide +kernel
theorem dX9_take_114 : decode cX9_take 114 = .ok (.iload 8, 2) := by decide +kernel
theorem dX9_take_116 : decode cX9_take 116 = .ok (.iload_n 3, 1) := by decide +kernel
theorem dX9_take_117 : decode cX9_take 117 = .ok (.if_icmp .le 34, 3) := by decide +kernel
theorem dX9_take_120 : decode cX9_take 120 = .ok (.aload_n 0, 1) := by decide +kernel
theorem dX9_take_121 : decode cX9_take 121 = .ok (.getfield 59, 3) := by decide +kernel
theorem dX9_take_124 : decode cX9_take 124 = .ok (.iload 6, 2) := by decide +kernel
theorem dX9_take_126 : decode cX9_take 126 = .ok (.iload 8, 2) := by decide +kernel
theorem dX9_take_128 : decode cX9_take 128 = .ok (.iadd, 1) := by decide +kernel
theorem dX9_take_129 : decode cX9_take 129 = .ok (.iload 4, 2) := by decide +kernel
theorem dX9_take_131 : decode cX9_take 131 = .ok (.iadd, 1) := by decide +kernel
theorem dX9_take_132 : decode cX9_take 132 = .ok (.iconst 1, 1) := by decide +kernel
theorem dX9_take_133 : decode cX9_take 133 = .ok (.isub, 1) := by decide +kernel
theorem dX9_take_134 : decode cX9_take 134 = .ok (.aload_n 0, 1) := by decide +kernel
theorem dX9_take_135 : decode cX9_take 135 = .ok (.getfield 59, 3) := by decide +kernel
theorem dX9_take_138 : decode cX9_take 138 = .ok (.iload 6, 2) := by decide +kernel
theorem dX9_take_140 : decode cX9_take 140 = .ok (.iload 8, 2) := by decide +kernel
theorem dX9_take_142 : decode cX9_take 142 = .ok (.iadd, 1) := by decide +kernel
theorem dX9_take_143 : decode cX9_take 143 = .ok (.iaload, 1) := by decide +kernel
theorem dX9_take_144 : decode cX9_take 144 = .ok (.iastore, 1) := by decide +kernel
theorem dX9_take_145 : decode cX9_take 145 = .ok (.iinc 8 (-1), 3) := by decide +kernel
theorem dX9_take_148 : decode cX9_take 148 = .ok (.goto (-34), 3) := by decide +kernel
theorem dX9_take_151 : decode cX9_take 151 = .ok (.iinc 7 1, 3) := by decide +kernel
theorem dX9_take_154 : decode cX9_take 154 = .ok (.iconst 0, 1) := by decide +kernel
theorem dX9_take_155 : decode cX9_take 155 = .ok (.istore 8, 2) := by decide +kernel
theorem dX9_take_157 : decode cX9_take 157 = .ok (.iload 8, 2) := by decide +kernel
theorem dX9_take_159 : decode cX9_take 159 = .ok (.iload 4, 2) := by decide +kernel
theorem dX9_take_161 : decode cX9_take 161 = .ok (.if_icmp .ge 44, 3) := by decide +kernel
theorem dX9_take_164 : decode cX9_take 164 = .ok (.aload_n 0, 1) := by decide +kernel
theorem dX9_take_165 : decode cX9_take 165 = .ok (.getfield 59, 3) := by decide +kernel
theorem dX9_take_168 : decode cX9_take 168 = .ok (.iload 6, 2) := by decide +kernel
theorem dX9_take_170 : decode cX9_take 170 = .ok (.iload_n 3, 1) := by decide +kernel
theorem dX9_take_171 : decode cX9_take 171 = .ok (.iadd, 1) := by decide +kernel
theorem dX9_take_172 : decode cX9_take 172 = .ok (.iload 8, 2) := by decide +kernel
theorem dX9_take_174 : decode cX9_take 174 = .ok (.iadd, 1) := by decide +kernel
theorem dX9_take_175 : decode cX9_take 175 = .ok (.iload 7, 2) := by decide +kernel
theorem dX9_take_177 : decode cX9_take 177 = .ok (.iastore, 1) := by decide +kernel
theorem dX9_take_178 : decode cX9_take 178 = .ok (.aload_n 0, 1) := by decide +kernel
theorem dX9_take_179 : decode cX9_take 179 = .ok (.getfield 35, 3) := by decide +kernel
theorem dX9_take_182 : decode cX9_take 182 = .ok (.sipush 160, 3) := by decide +kernel
theorem dX9_take_185 : decode cX9_take 185 = .ok (.aload_n 0, 1) := by decide +kernel
theorem dX9_take_186 : decode cX9_take 186 = .ok (.getfield 62, 3) := by decide +kernel
theorem dX9_take_189 : decode cX9_take 189 = .ok (.iload 5, 2) := by decide +kernel
theorem dX9_take_191 : decode cX9_take 191 = .ok (.iaload, 1) := by decide +kernel
theorem dX9_take_192 : decode cX9_take 192 = .ok (.imul, 1) := by decide +kernel
theorem dX9_take_193 : decode cX9_take 193 = .ok (.iload 7, 2) := by decide +kernel
theorem dX9_take_195 : decode cX9_take 195 = .ok (.iadd, 1) := by decide +kernel
theorem dX9_take_196 : decode cX9_take 196 = .ok (.iaload, 1) := by decide +kernel
theorem dX9_take_197 : decode cX9_take 197 = .ok (.istore 7, 2) := by decide +kernel
theorem dX9_take_199 : decode cX9_take 199 = .ok (.iinc 8 1, 3) := by decide +kernel
theorem dX9_take_202 : decode cX9_take 202 = .ok (.goto (-45), 3) := by decide +kernel
theorem dX9_take_205 : decode cX9_take 205 = .ok (.iinc 5 1, 3) := by decide +kernel
theorem dX9_take_208 : decode cX9_take 208 = .ok (.goto (-205), 3) := by decide +kernel
theorem dX9_take_211 : decode cX9_take 211 = .ok (.aload_n 0, 1) := by decide +kernel
theorem dX9_take_212 : decode cX9_take 212 = .ok (.dup, 1) := by decide +kernel
theorem dX9_take_213 : decode cX9_take 213 = .ok (.getfield 157, 3) := by decide +kernel
theorem dX9_take_216 : decode cX9_take 216 = .ok (.iload 4, 2) := by decide +kernel
theorem dX9_take_218 : decode cX9_take 218 = .ok (.iconst 1, 1) := by decide +kernel
theorem dX9_take_219 : decode cX9_take 219 = .ok (.isub, 1) := by decide +kernel
theorem dX9_take_220 : decode cX9_take 220 = .ok (.iadd, 1) := by decide +kernel
theorem dX9_take_221 : decode cX9_take 221 = .ok (.putfield 157, 3) := by decide +kernel
theorem dX9_take_224 : decode cX9_take 224 = .ok (.return_, 1) := by decide +kernel
theorem dX9_putBack_0 : decode cX9_putBack 0 = .ok (.aload_n 0, 1) := by decide +kernel
theorem dX9_putBack_1 : decode cX9_putBack 1 = .ok (.dup, 1) := by decide +kernel
theorem dX9_putBack_2 : decode cX9_putBack 2 = .ok (.getfield 157, 3) := by decide +kernel
theorem dX9_putBack_5 : decode cX9_putBack 5 = .ok (.iload 4, 2) := by decide +kernel
theorem dX9_putBack_7 : decode cX9_putBack 7 = .ok (.iconst 1, 1) := by decide +kernel
theorem dX9_putBack_8 : decode cX9_putBack 8 = .ok (.isub, 1) := by decide +kernel
theorem dX9_putBack_9 : decode cX9_putBack 9 = .ok (.isub, 1) := by decide +kernel
theorem dX9_putBack_10 : decode cX9_putBack 10 = .ok (.putfield 157, 3) := by decide +kernel
theorem dX9_putBack_13 : decode cX9_putBack 13 = .ok (.iload_n 1, 1) := by decide +kernel
theorem dX9_putBack_14 : decode cX9_putBack 14 = .ok (.iload_n 2, 1) := by decide +kernel
theorem dX9_putBack_15 : decode cX9_putBack 15 = .ok (.iadd, 1) := by decide +kernel
theorem dX9_putBack_16 : decode cX9_putBack 16 = .ok (.iconst 1, 1) := by decide +kernel
theorem dX9_putBack_17 : decode cX9_putBack 17 = .ok (.isub, 1) := by decide +kernel
theorem dX9_putBack_18 : decode cX9_putBack 18 = .ok (.istore 5, 2) := by decide +kernel
theorem dX9_putBack_20 : decode cX9_putBack 20 = .ok (.iload 5, 2) := by decide +kernel
theorem dX9_putBack_22 : decode cX9_putBack 22 = .ok (.iload_n 1, 1) := by decide +kernel
theorem dX9_putBack_23 : decode cX9_putBack 23 = .ok (.if_icmp .lt 145, 3) := by decide +kernel
theorem dX9_putBack_26 : decode cX9_putBack 26 = .ok (.sipush 170, 3) := by decide +kernel
theorem dX9_putBack_29 : decode cX9_putBack 29 = .ok (.aload_n 0, 1) := by decide +kernel
theorem dX9_putBack_30 : decode cX9_putBack 30 = .ok (.getfield 62, 3) := by decide +kernel
theorem dX9_putBack_33 : decode cX9_putBack 33 = .ok (.iload 5, 2) := by decide +kernel
theorem dX9_putBack_35 : decode cX9_putBack 35 = .ok (.iaload, 1) := by decide +kernel
theorem dX9_putBack_36 : decode cX9_putBack 36 = .ok (.imul, 1) := by decide +kernel
theorem dX9_putBack_37 : decode cX9_putBack 37 = .ok (.istore 6, 2) := by decide +kernel
theorem dX9_putBack_39 : decode cX9_putBack 39 = .ok (.iload 4, 2) := by decide +kernel
theorem dX9_putBack_41 : decode cX9_putBack 41 = .ok (.ifCond .ne 48, 3) := by decide +kernel
theorem dX9_putBack_44 : decode cX9_putBack 44 = .ok (.aload_n 0, 1) := by decide +kernel
theorem dX9_putBack_45 : decode cX9_putBack 45 = .ok (.getfield 157, 3) := by decide +kernel
theorem dX9_putBack_48 : decode cX9_putBack 48 = .ok (.iconst 1, 1) := by decide +kernel
theorem dX9_putBack_49 : decode cX9_putBack 49 = .ok (.isub, 1) := by decide +kernel
theorem dX9_putBack_50 : decode cX9_putBack 50 = .ok (.istore 7, 2) := by decide +kernel
theorem dX9_putBack_52 : decode cX9_putBack 52 = .ok (.iload 7, 2) := by decide +kernel
theorem dX9_putBack_54 : decode cX9_putBack 54 = .ok (.iload_n 3, 1) := by decide +kernel
theorem dX9_putBack_55 : decode cX9_putBack 55 = .ok (.if_icmp .le 31, 3) := by decide +kernel
theorem dX9_putBack_58 : decode cX9_putBack 58 = .ok (.aload_n 0, 1) := by decide +kernel
theorem dX9_putBack_59 : decode cX9_putBack 59 = .ok (.getfield 59, 3) := by decide +kernel
theorem dX9_putBack_62 : decode cX9_putBack 62 = .ok (.iload 6, 2) := by decide +kernel
theorem dX9_putBack_64 : decode cX9_putBack 64 = .ok (.iload 7, 2) := by decide +kernel
theorem dX9_putBack_66 : decode cX9_putBack 66 = .ok (.iadd, 1) := by decide +kernel
theorem dX9_putBack_67 : decode cX9_putBack 67 = .ok (.aload_n 0, 1) := by decide +kernel
theorem dX9_putBack_68 : decode cX9_putBack 68 = .ok (.getfield 59, 3) := by decide +kernel
theorem dX9_putBack_71 : decode cX9_putBack 71 = .ok (.iload 6, 2) := by decide +kernel
theorem dX9_putBack_73 : decode cX9_putBack 73 = .ok (.iload 7, 2) := by decide +kernel
theorem dX9_putBack_75 : decode cX9_putBack 75 = .ok (.iadd, 1) := by decide +kernel
theorem dX9_putBack_76 : decode cX9_putBack 76 = .ok (.iconst 1, 1) := by decide +kernel
theorem dX9_putBack_77 : decode cX9_putBack 77 = .ok (.isub, 1) := by decide +kernel
theorem dX9_putBack_78 : decode cX9_putBack 78 = .ok (.iaload, 1) := by decide +kernel
theorem dX9_putBack_79 : decode cX9_putBack 79 = .ok (.iastore, 1) := by decide +kernel
theorem dX9_putBack_80 : decode cX9_putBack 80 = .ok (.iinc 7 (-1), 3) := by decide +kernel
theorem dX9_putBack_83 : decode cX9_putBack 83 = .ok (.goto (-31), 3) := by decide +kernel
theorem dX9_putBack_86 : decode cX9_putBack 86 = .ok (.goto 48, 3) := by decide +kernel
theorem dX9_putBack_89 : decode cX9_putBack 89 = .ok (.iload_n 3, 1) := by decide +kernel
theorem dX9_putBack_90 : decode cX9_putBack 90 = .ok (.iconst 1, 1) := by decide +kernel
theorem dX9_putBack_91 : decode cX9_putBack 91 = .ok (.iadd, 1) := by decide +kernel
theorem dX9_putBack_92 : decode cX9_putBack 92 = .ok (.istore 7, 2) := by decide +kernel
theorem dX9_putBack_94 : decode cX9_putBack 94 = .ok (.iload 7, 2) := by decide +kernel
theorem dX9_putBack_96 : decode cX9_putBack 96 = .ok (.aload_n 0, 1) := by decide +kernel
theorem dX9_putBack_97 : decode cX9_putBack 97 = .ok (.getfield 157, 3) := by decide +kernel
theorem dX9_putBack_100 : decode cX9_putBack 100 = .ok (.if_icmp .ge 34, 3) := by decide +kernel
theorem dX9_putBack_103 : decode cX9_putBack 103 = .ok (.aload_n 0, 1) := by decide +kernel
theorem dX9_putBack_104 : decode cX9_putBack 104 = .ok (.getfield 59, 3) := by decide +kernel
theorem dX9_putBack_107 : decode cX9_putBack 107 = .ok (.iload 6, 2) := by decide +kernel
theorem dX9_putBack_109 : decode cX9_putBack 109 = .ok (.iload 7, 2) := by decide +kernel
theorem dX9_putBack_111 : decode cX9_putBack 111 = .ok (.iadd, 1) := by decide +kernel
theorem dX9_putBack_112 : decode cX9_putBack 112 = .ok (.aload_n 0, 1) := by decide +kernel
theorem dX9_putBack_113 : decode cX9_putBack 113 = .ok (.getfield 59, 3) := by decide +kernel
theorem dX9_putBack_116 : decode cX9_putBack 116 = .ok (.iload 6, 2) := by decide +kernel
theorem dX9_putBack_118 : decode cX9_putBack 118 = .ok (.iload 7, 2) := by decide +kernel
theorem dX9_putBack_120 : decode cX9_putBack 120 = .ok (.iadd, 1) := by decide +kernel
theorem dX9_putBack_121 : decode cX9_putBack 121 = .ok (.iload 4, 2) := by decide +kernel
theorem dX9_putBack_123 : decode cX9_putBack 123 = .ok (.iadd, 1) := by decide +kernel
theorem dX9_putBack_124 : decode cX9_putBack 124 = .ok (.iconst 1, 1) := by decide +kernel
theorem dX9_putBack_125 : decode cX9_putBack 125 = .ok (.isub, 1) := by decide +kernel
theorem dX9_putBack_126 : decode cX9_putBack 126 = .ok (.iaload, 1) := by decide +kernel
theorem dX9_putBack_127 : decode cX9_putBack 127 = .ok (.iastore, 1) := by decide +kernel
theorem dX9_putBack_128 : decode cX9_putBack 128 = .ok (.iinc 7 1, 3) := by decide +kernel
theorem dX9_putBack_131 : decode cX9_putBack 131 = .ok (.goto (-37), 3) := by decide +kernel
theorem dX9_putBack_134 : decode cX9_putBack 134 = .ok (.aload_n 0, 1) := by decide +kernel
theorem dX9_putBack_135 : decode cX9_putBack 135 = .ok (.dup, 1) := by decide +kernel
theorem dX9_putBack_136 : decode cX9_putBack 136 = .ok (.getfield 163, 3) := by decide +kernel
theorem dX9_putBack_139 : decode cX9_putBack 139 = .ok (.iconst 1, 1) := by decide +kernel
theorem dX9_putBack_140 : decode cX9_putBack 140 = .ok (.isub, 1) := by decide +kernel
theorem dX9_putBack_141 : decode cX9_putBack 141 = .ok (.putfield 163, 3) := by decide +kernel
theorem dX9_putBack_144 : decode cX9_putBack 144 = .ok (.aload_n 0, 1) := by decide +kernel
theorem dX9_putBack_145 : decode cX9_putBack 145 = .ok (.getfield 59, 3) := by decide +kernel
theorem dX9_putBack_148 : decode cX9_putBack 148 = .ok (.iload 6, 2) := by decide +kernel
theorem dX9_putBack_150 : decode cX9_putBack 150 = .ok (.iload_n 3, 1) := by decide +kernel
theorem dX9_putBack_151 : decode cX9_putBack 151 = .ok (.iadd, 1) := by decide +kernel
theorem dX9_putBack_152 : decode cX9_putBack 152 = .ok (.aload_n 0, 1) := by decide +kernel
theorem dX9_putBack_153 : decode cX9_putBack 153 = .ok (.getfield 65, 3) := by decide +kernel
theorem dX9_putBack_156 : decode cX9_putBack 156 = .ok (.aload_n 0, 1) := by decide +kernel
theorem dX9_putBack_157 : decode cX9_putBack 157 = .ok (.getfield 163, 3) := by decide +kernel
theorem dX9_putBack_160 : decode cX9_putBack 160 = .ok (.iaload, 1) := by decide +kernel
theorem dX9_putBack_161 : decode cX9_putBack 161 = .ok (.iastore, 1) := by decide +kernel
theorem dX9_putBack_162 : decode cX9_putBack 162 = .ok (.iinc 5 (-1), 3) := by decide +kernel
theorem dX9_putBack_165 : decode cX9_putBack 165 = .ok (.goto (-145), 3) := by decide +kernel
theorem dX9_putBack_168 : decode cX9_putBack 168 = .ok (.return_, 1) := by decide +kernel
theorem dX9_needed_0 : decode cX9_needed 0 = .ok (.iconst (-1), 1) := by decide +kernel
theorem dX9_needed_1 : decode cX9_needed 1 = .ok (.istore_n 3, 1) := by decide +kernel
theorem dX9_needed_2 : decode cX9_needed 2 = .ok (.iconst 0, 1) := by decide +kernel
theorem dX9_needed_3 : decode cX9_needed 3 = .ok (.istore 4, 2) := by decide +kernel
theorem dX9_needed_5 : decode cX9_needed 5 = .ok (.iload 4, 2) := by decide +kernel
theorem dX9_needed_7 : decode cX9_needed 7 = .ok (.aload_n 0, 1) := by decide +kernel
theorem dX9_needed_8 : decode cX9_needed 8 = .ok (.getfield 157, 3) := by decide +kernel
theorem dX9_needed_11 : decode cX9_needed 11 = .ok (.if_icmp .ge 77, 3) := by decide +kernel
theorem dX9_needed_14 : decode cX9_needed 14 = .ok (.iconst 0, 1) := by decide +kernel
theorem dX9_needed_15 : decode cX9_needed 15 = .ok (.istore 5, 2) := by decide +kernel
theorem dX9_needed_17 : decode cX9_needed 17 = .ok (.iload_n 1, 1) := by decide +kernel
theorem dX9_needed_18 : decode cX9_needed 18 = .ok (.istore 6, 2) := by decide +kernel
theorem dX9_needed_20 : decode cX9_needed 20 = .ok (.iload 6, 2) := by decide +kernel
theorem dX9_needed_22 : decode cX9_needed 22 = .ok (.iload_n 1, 1) := by decide +kernel
theorem dX9_needed_23 : decode cX9_needed 23 = .ok (.iload_n 2, 1) := by decide +kernel
theorem dX9_needed_24 : decode cX9_needed 24 = .ok (.iadd, 1) := by decide +kernel
theorem dX9_needed_25 : decode cX9_needed 25 = .ok (.if_icmp .ge 35, 3) := by decide +kernel
theorem dX9_needed_28 : decode cX9_needed 28 = .ok (.iload 5, 2) := by decide +kernel
theorem dX9_needed_30 : decode cX9_needed 30 = .ok (.aload_n 0, 1) := by decide +kernel
theorem dX9_needed_31 : decode cX9_needed 31 = .ok (.aload_n 0, 1) := by decide +kernel
theorem dX9_needed_32 : decode cX9_needed 32 = .ok (.getfield 62, 3) := by decide +kernel
theorem dX9_needed_35 : decode cX9_needed 35 = .ok (.iload 6, 2) := by decide +kernel
theorem dX9_needed_37 : decode cX9_needed 37 = .ok (.iaload, 1) := by decide +kernel
theorem dX9_needed_38 : decode cX9_needed 38 = .ok (.iload 4, 2) := by decide +kernel
theorem dX9_needed_40 : decode cX9_needed 40 = .ok (.invokevirtual 166, 3) := by decide +kernel
theorem dX9_needed_43 : decode cX9_needed 43 = .ok (.ifCond .lt 7, 3) := by decide +kernel
theorem dX9_needed_46 : decode cX9_needed 46 = .ok (.iconst 1, 1) := by decide +kernel
theorem dX9_needed_47 : decode cX9_needed 47 = .ok (.goto 4, 3) := by decide +kernel
theorem dX9_needed_50 : decode cX9_needed 50 = .ok (.iconst 0, 1) := by decide +kernel
theorem dX9_needed_51 : decode cX9_needed 51 = .ok (.iadd, 1) := by decide +kernel
theorem dX9_needed_52 : decode cX9_needed 52 = .ok (.istore 5, 2) := by decide +kernel
theorem dX9_needed_54 : decode cX9_needed 54 = .ok (.iinc 6 1, 3) := by decide +kernel
theorem dX9_needed_57 : decode cX9_needed 57 = .ok (.goto (-37), 3) := by decide +kernel
theorem dX9_needed_60 : decode cX9_needed 60 = .ok (.iload 5, 2) := by decide +kernel
theorem dX9_needed_62 : decode cX9_needed 62 = .ok (.iload_n 2, 1) := by decide +kernel
theorem dX9_needed_63 : decode cX9_needed 63 = .ok (.if_icmp .ne 6, 3) := by decide +kernel
theorem dX9_needed_66 : decode cX9_needed 66 = .ok (.iload 4, 2) := by decide +kernel
theorem dX9_needed_68 : decode cX9_needed 68 = .ok (.ireturn, 1) := by decide +kernel
theorem dX9_needed_69 : decode cX9_needed 69 = .ok (.iload 5, 2) := by decide +kernel
theorem dX9_needed_71 : decode cX9_needed 71 = .ok (.ifCond .le 11, 3) := by decide +kernel
theorem dX9_needed_74 : decode cX9_needed 74 = .ok (.iload_n 3, 1) := by decide +kernel
theorem dX9_needed_75 : decode cX9_needed 75 = .ok (.iconst (-1), 1) := by decide +kernel
theorem dX9_needed_76 : decode cX9_needed 76 = .ok (.if_icmp .ne 6, 3) := by decide +kernel
theorem dX9_needed_79 : decode cX9_needed 79 = .ok (.iload 4, 2) := by decide +kernel
theorem dX9_needed_81 : decode cX9_needed 81 = .ok (.istore_n 3, 1) := by decide +kernel
theorem dX9_needed_82 : decode cX9_needed 82 = .ok (.iinc 4 1, 3) := by decide +kernel
theorem dX9_needed_85 : decode cX9_needed 85 = .ok (.goto (-80), 3) := by decide +kernel
theorem dX9_needed_88 : decode cX9_needed 88 = .ok (.iload_n 3, 1) := by decide +kernel
theorem dX9_needed_89 : decode cX9_needed 89 = .ok (.iconst (-1), 1) := by decide +kernel
theorem dX9_needed_90 : decode cX9_needed 90 = .ok (.if_icmp .ne 7, 3) := by decide +kernel
theorem dX9_needed_93 : decode cX9_needed 93 = .ok (.iconst (-1), 1) := by decide +kernel
theorem dX9_needed_94 : decode cX9_needed 94 = .ok (.goto 8, 3) := by decide +kernel
theorem dX9_needed_97 : decode cX9_needed 97 = .ok (.sipush 170, 3) := by decide +kernel
theorem dX9_needed_100 : decode cX9_needed 100 = .ok (.iload_n 3, 1) := by decide +kernel
theorem dX9_needed_101 : decode cX9_needed 101 = .ok (.iadd, 1) := by decide +kernel
theorem dX9_needed_102 : decode cX9_needed 102 = .ok (.ireturn, 1) := by decide +kernel
theorem dX9_run_0 : decode cX9_run 0 = .ok (.aload_n 0, 1) := by decide +kernel
theorem dX9_run_1 : decode cX9_run 1 = .ok (.aload_n 0, 1) := by decide +kernel
theorem dX9_run_2 : decode cX9_run 2 = .ok (.getfield 62, 3) := by decide +kernel
theorem dX9_run_5 : decode cX9_run 5 = .ok (.iload_n 1, 1) := by decide +kernel
theorem dX9_run_6 : decode cX9_run 6 = .ok (.iaload, 1) := by decide +kernel
theorem dX9_run_7 : decode cX9_run 7 = .ok (.iload_n 3, 1) := by decide +kernel
theorem dX9_run_8 : decode cX9_run 8 = .ok (.invokevirtual 166, 3) := by decide +kernel
theorem dX9_run_11 : decode cX9_run 11 = .ok (.ifCond .lt 7, 3) := by decide +kernel
theorem dX9_run_14 : decode cX9_run 14 = .ok (.iconst 1, 1) := by decide +kernel
theorem dX9_run_15 : decode cX9_run 15 = .ok (.goto 4, 3) := by decide +kernel
theorem dX9_run_18 : decode cX9_run 18 = .ok (.iconst 0, 1) := by decide +kernel
theorem dX9_run_19 : decode cX9_run 19 = .ok (.istore 4, 2) := by decide +kernel
theorem dX9_run_21 : decode cX9_run 21 = .ok (.iconst 0, 1) := by decide +kernel
theorem dX9_run_22 : decode cX9_run 22 = .ok (.istore 5, 2) := by decide +kernel
theorem dX9_run_24 : decode cX9_run 24 = .ok (.iload 5, 2) := by decide +kernel
theorem dX9_run_26 : decode cX9_run 26 = .ok (.iload_n 2, 1) := by decide +kernel
theorem dX9_run_27 : decode cX9_run 27 = .ok (.if_icmp .ge 64, 3) := by decide +kernel
theorem dX9_run_30 : decode cX9_run 30 = .ok (.aload_n 0, 1) := by decide +kernel
theorem dX9_run_31 : decode cX9_run 31 = .ok (.aload_n 0, 1) := by decide +kernel
theorem dX9_run_32 : decode cX9_run 32 = .ok (.getfield 62, 3) := by decide +kernel
theorem dX9_run_35 : decode cX9_run 35 = .ok (.iload_n 1, 1) := by decide +kernel
theorem dX9_run_36 : decode cX9_run 36 = .ok (.iload 5, 2) := by decide +kernel
theorem dX9_run_38 : decode cX9_run 38 = .ok (.iadd, 1) := by decide +kernel
theorem dX9_run_39 : decode cX9_run 39 = .ok (.iaload, 1) := by decide +kernel
theorem dX9_run_40 : decode cX9_run 40 = .ok (.iload_n 3, 1) := by decide +kernel
theorem dX9_run_41 : decode cX9_run 41 = .ok (.invokevirtual 166, 3) := by decide +kernel
theorem dX9_run_44 : decode cX9_run 44 = .ok (.ifCond .lt 7, 3) := by decide +kernel
theorem dX9_run_47 : decode cX9_run 47 = .ok (.iconst 1, 1) := by decide +kernel
theorem dX9_run_48 : decode cX9_run 48 = .ok (.goto 4, 3) := by decide +kernel
theorem dX9_run_51 : decode cX9_run 51 = .ok (.iconst 0, 1) := by decide +kernel
theorem dX9_run_52 : decode cX9_run 52 = .ok (.iload 4, 2) := by decide +kernel
theorem dX9_run_54 : decode cX9_run 54 = .ok (.if_icmp .ne 37, 3) := by decide +kernel
theorem dX9_run_57 : decode cX9_run 57 = .ok (.aload_n 0, 1) := by decide +kernel
theorem dX9_run_58 : decode cX9_run 58 = .ok (.getfield 62, 3) := by decide +kernel
theorem dX9_run_61 : decode cX9_run 61 = .ok (.aload_n 0, 1) := by decide +kernel
theorem dX9_run_62 : decode cX9_run 62 = .ok (.getfield 160, 3) := by decide +kernel
theorem dX9_run_65 : decode cX9_run 65 = .ok (.aload_n 0, 1) := by decide +kernel
theorem dX9_run_66 : decode cX9_run 66 = .ok (.getfield 62, 3) := by decide +kernel
theorem dX9_run_69 : decode cX9_run 69 = .ok (.iload_n 1, 1) := by decide +kernel
theorem dX9_run_70 : decode cX9_run 70 = .ok (.iload 5, 2) := by decide +kernel
theorem dX9_run_72 : decode cX9_run 72 = .ok (.iadd, 1) := by decide +kernel
theorem dX9_run_73 : decode cX9_run 73 = .ok (.iaload, 1) := by decide +kernel
theorem dX9_run_74 : decode cX9_run 74 = .ok (.iastore, 1) := by decide +kernel
theorem dX9_run_75 : decode cX9_run 75 = .ok (.aload_n 0, 1) := by decide +kernel
theorem dX9_run_76 : decode cX9_run 76 = .ok (.dup, 1) := by decide +kernel
theorem dX9_run_77 : decode cX9_run 77 = .ok (.getfield 160, 3) := by decide +kernel
theorem dX9_run_80 : decode cX9_run 80 = .ok (.iconst 1, 1) := by decide +kernel
theorem dX9_run_81 : decode cX9_run 81 = .ok (.iadd, 1) := by decide +kernel
theorem dX9_run_82 : decode cX9_run 82 = .ok (.putfield 160, 3) := by decide +kernel
theorem dX9_run_85 : decode cX9_run 85 = .ok (.iinc 5 1, 3) := by decide +kernel
theorem dX9_run_88 : decode cX9_run 88 = .ok (.goto (-64), 3) := by decide +kernel
theorem dX9_run_91 : decode cX9_run 91 = .ok (.iload 5, 2) := by decide +kernel
theorem dX9_run_93 : decode cX9_run 93 = .ok (.ireturn, 1) := by decide +kernel
theorem dX9_lay_0 : decode cX9_lay 0 = .ok (.aload_n 0, 1) := by decide +kernel
theorem dX9_lay_1 : decode cX9_lay 1 = .ok (.iconst 0, 1) := by decide +kernel
theorem dX9_lay_2 : decode cX9_lay 2 = .ok (.putfield 169, 3) := by decide +kernel
theorem dX9_lay_5 : decode cX9_lay 5 = .ok (.aload_n 0, 1) := by decide +kernel
theorem dX9_lay_6 : decode cX9_lay 6 = .ok (.iconst 0, 1) := by decide +kernel
theorem dX9_lay_7 : decode cX9_lay 7 = .ok (.putfield 172, 3) := by decide +kernel
theorem dX9_lay_10 : decode cX9_lay 10 = .ok (.aload_n 0, 1) := by decide +kernel
theorem dX9_lay_11 : decode cX9_lay 11 = .ok (.iconst 0, 1) := by decide +kernel
theorem dX9_lay_12 : decode cX9_lay 12 = .ok (.putfield 175, 3) := by decide +kernel
theorem dX9_lay_15 : decode cX9_lay 15 = .ok (.aload_n 0, 1) := by decide +kernel
theorem dX9_lay_16 : decode cX9_lay 16 = .ok (.iconst 0, 1) := by decide +kernel
theorem dX9_lay_17 : decode cX9_lay 17 = .ok (.putfield 178, 3) := by decide +kernel
theorem dX9_lay_20 : decode cX9_lay 20 = .ok (.aload_n 0, 1) := by decide +kernel
theorem dX9_lay_21 : decode cX9_lay 21 = .ok (.iconst 0, 1) := by decide +kernel
theorem dX9_lay_22 : decode cX9_lay 22 = .ok (.putfield 181, 3) := by decide +kernel
theorem dX9_lay_25 : decode cX9_lay 25 = .ok (.aload_n 0, 1) := by decide +kernel
theorem dX9_lay_26 : decode cX9_lay 26 = .ok (.getfield 133, 3) := by decide +kernel
theorem dX9_lay_29 : decode cX9_lay 29 = .ok (.ifCond .ne 4, 3) := by decide +kernel
theorem dX9_lay_32 : decode cX9_lay 32 = .ok (.return_, 1) := by decide +kernel
theorem dX9_lay_33 : decode cX9_lay 33 = .ok (.aload_n 0, 1) := by decide +kernel
theorem dX9_lay_34 : decode cX9_lay 34 = .ok (.invokevirtual 185, 3) := by decide +kernel
theorem dX9_lay_37 : decode cX9_lay 37 = .ok (.aload_n 0, 1) := by decide +kernel
theorem dX9_lay_38 : decode cX9_lay 38 = .ok (.aload_n 0, 1) := by decide +kernel
theorem dX9_lay_39 : decode cX9_lay 39 = .ok (.iconst 0, 1) := by decide +kernel
theorem dX9_lay_40 : decode cX9_lay 40 = .ok (.aload_n 0, 1) := by decide +kernel
theorem dX9_lay_41 : decode cX9_lay 41 = .ok (.getfield 133, 3) := by decide +kernel
theorem dX9_lay_44 : decode cX9_lay 44 = .ok (.iconst (-1), 1) := by decide +kernel
theorem dX9_lay_45 : decode cX9_lay 45 = .ok (.iconst 0, 1) := by decide +kernel
theorem dX9_lay_46 : decode cX9_lay 46 = .ok (.invokestatic 188, 3) := by decide +kernel
theorem dX9_lay_49 : decode cX9_lay 49 = .ok (.putfield 181, 3) := by decide +kernel
theorem dX9_lay_52 : decode cX9_lay 52 = .ok (.return_, 1) := by decide +kernel
theorem dX9_node_0 : decode cX9_node 0 = .ok (.aload_n 0, 1) := by decide +kernel
theorem dX9_node_1 : decode cX9_node 1 = .ok (.getfield 68, 3) := by decide +kernel
theorem dX9_node_4 : decode cX9_node 4 = .ok (.aload_n 0, 1) := by decide +kernel
theorem dX9_node_5 : decode cX9_node 5 = .ok (.getfield 169, 3) := by decide +kernel
theorem dX9_node_8 : decode cX9_node 8 = .ok (.iload_n 1, 1) := by decide +kernel
theorem dX9_node_9 : decode cX9_node 9 = .ok (.iastore, 1) := by decide +kernel
theorem dX9_node_10 : decode cX9_node 10 = .ok (.aload_n 0, 1) := by decide +kernel
theorem dX9_node_11 : decode cX9_node 11 = .ok (.getfield 71, 3) := by decide +kernel
theorem dX9_node_14 : decode cX9_node 14 = .ok (.aload_n 0, 1) := by decide +kernel
theorem dX9_node_15 : decode cX9_node 15 = .ok (.getfield 169, 3) := by decide +kernel
theorem dX9_node_18 : decode cX9_node 18 = .ok (.iload_n 2, 1) := by decide +kernel
theorem dX9_node_19 : decode cX9_node 19 = .ok (.iastore, 1) := by decide +kernel
theorem dX9_node_20 : decode cX9_node 20 = .ok (.aload_n 0, 1) := by decide +kernel
theorem dX9_node_21 : decode cX9_node 21 = .ok (.getfield 74, 3) := by decide +kernel
theorem dX9_node_24 : decode cX9_node 24 = .ok (.aload_n 0, 1) := by decide +kernel
theorem dX9_node_25 : decode cX9_node 25 = .ok (.getfield 169, 3) := by decide +kernel
theorem dX9_node_28 : decode cX9_node 28 = .ok (.iconst (-1), 1) := by decide +kernel
theorem dX9_node_29 : decode cX9_node 29 = .ok (.iastore, 1) := by decide +kernel
theorem dX9_node_30 : decode cX9_node 30 = .ok (.aload_n 0, 1) := by decide +kernel
theorem dX9_node_31 : decode cX9_node 31 = .ok (.getfield 77, 3) := by decide +kernel
theorem dX9_node_34 : decode cX9_node 34 = .ok (.aload_n 0, 1) := by decide +kernel
theorem dX9_node_35 : decode cX9_node 35 = .ok (.getfield 169, 3) := by decide +kernel
theorem dX9_node_38 : decode cX9_node 38 = .ok (.iconst (-1), 1) := by decide +kernel
theorem dX9_node_39 : decode cX9_node 39 = .ok (.iastore, 1) := by decide +kernel
theorem dX9_node_40 : decode cX9_node 40 = .ok (.aload_n 0, 1) := by decide +kernel
theorem dX9_node_41 : decode cX9_node 41 = .ok (.getfield 80, 3) := by decide +kernel
theorem dX9_node_44 : decode cX9_node 44 = .ok (.aload_n 0, 1) := by decide +kernel
theorem dX9_node_45 : decode cX9_node 45 = .ok (.getfield 169, 3) := by decide +kernel
theorem dX9_node_48 : decode cX9_node 48 = .ok (.iconst 0, 1) := by decide +kernel
theorem dX9_node_49 : decode cX9_node 49 = .ok (.iastore, 1) := by decide +kernel
theorem dX9_node_50 : decode cX9_node 50 = .ok (.aload_n 0, 1) := by decide +kernel
theorem dX9_node_51 : decode cX9_node 51 = .ok (.getfield 83, 3) := by decide +kernel
theorem dX9_node_54 : decode cX9_node 54 = .ok (.aload_n 0, 1) := by decide +kernel
theorem dX9_node_55 : decode cX9_node 55 = .ok (.getfield 169, 3) := by decide +kernel
theorem dX9_node_58 : decode cX9_node 58 = .ok (.iload_n 3, 1) := by decide +kernel
theorem dX9_node_59 : decode cX9_node 59 = .ok (.iastore, 1) := by decide +kernel
theorem dX9_node_60 : decode cX9_node 60 = .ok (.aload_n 0, 1) := by decide +kernel
theorem dX9_node_61 : decode cX9_node 61 = .ok (.getfield 86, 3) := by decide +kernel
theorem dX9_node_64 : decode cX9_node 64 = .ok (.aload_n 0, 1) := by decide +kernel
theorem dX9_node_65 : decode cX9_node 65 = .ok (.getfield 169, 3) := by decide +kernel
theorem dX9_node_68 : decode cX9_node 68 = .ok (.iload 4, 2) := by decide +kernel
theorem dX9_node_70 : decode cX9_node 70 = .ok (.iastore, 1) := by decide +kernel
theorem dX9_node_71 : decode cX9_node 71 = .ok (.aload_n 0, 1) := by decide +kernel
theorem dX9_node_72 : decode cX9_node 72 = .ok (.aload_n 0, 1) := by decide +kernel
theorem dX9_node_73 : decode cX9_node 73 = .ok (.getfield 178, 3) := by decide +kernel
theorem dX9_node_76 : decode cX9_node 76 = .ok (.iload 4, 2) := by decide +kernel
theorem dX9_node_78 : decode cX9_node 78 = .ok (.invokestatic 192, 3) := by decide +kernel
theorem dX9_node_81 : decode cX9_node 81 = .ok (.putfield 178, 3) := by decide +kernel
theorem dX9_node_84 : decode cX9_node 84 = .ok (.aload_n 0, 1) := by decide +kernel
theorem dX9_node_85 : decode cX9_node 85 = .ok (.dup, 1) := by decide +kernel
theorem dX9_node_86 : decode cX9_node 86 = .ok (.getfield 172, 3) := by decide +kernel
theorem dX9_node_89 : decode cX9_node 89 = .ok (.iload_n 1, 1) := by decide +kernel
theorem dX9_node_90 : decode cX9_node 90 = .ok (.iconst 2, 1) := by decide +kernel
theorem dX9_node_91 : decode cX9_node 91 = .ok (.if_icmp .ne 7, 3) := by decide +kernel
theorem dX9_node_94 : decode cX9_node 94 = .ok (.iconst 1, 1) := by decide +kernel
theorem dX9_node_95 : decode cX9_node 95 = .ok (.goto 4, 3) := by decide +kernel
theorem dX9_node_98 : decode cX9_node 98 = .ok (.iconst 0, 1) := by decide +kernel
theorem dX9_node_99 : decode cX9_node 99 = .ok (.iadd, 1) := by decide +kernel
theorem dX9_node_100 : decode cX9_node 100 = .ok (.putfield 172, 3) := by decide +kernel
theorem dX9_node_103 : decode cX9_node 103 = .ok (.aload_n 0, 1) := by decide +kernel
theorem dX9_node_104 : decode cX9_node 104 = .ok (.dup, 1) := by decide +kernel
theorem dX9_node_105 : decode cX9_node 105 = .ok (.getfield 175, 3) := by decide +kernel
theorem dX9_node_108 : decode cX9_node 108 = .ok (.iload_n 1, 1) := by decide +kernel
theorem dX9_node_109 : decode cX9_node 109 = .ok (.iconst 1, 1) := by decide +kernel
theorem dX9_node_110 : decode cX9_node 110 = .ok (.if_icmp .ne 7, 3) := by decide +kernel
theorem dX9_node_113 : decode cX9_node 113 = .ok (.iconst 1, 1) := by decide +kernel
theorem dX9_node_114 : decode cX9_node 114 = .ok (.goto 4, 3) := by decide +kernel
theorem dX9_node_117 : decode cX9_node 117 = .ok (.iconst 0, 1) := by decide +kernel
theorem dX9_node_118 : decode cX9_node 118 = .ok (.iadd, 1) := by decide +kernel
theorem dX9_node_119 : decode cX9_node 119 = .ok (.putfield 175, 3) := by decide +kernel
theorem dX9_node_122 : decode cX9_node 122 = .ok (.aload_n 0, 1) := by decide +kernel
theorem dX9_node_123 : decode cX9_node 123 = .ok (.dup, 1) := by decide +kernel
theorem dX9_node_124 : decode cX9_node 124 = .ok (.getfield 169, 3) := by decide +kernel
theorem dX9_node_127 : decode cX9_node 127 = .ok (.iconst 1, 1) := by decide +kernel
theorem dX9_node_128 : decode cX9_node 128 = .ok (.iadd, 1) := by decide +kernel
theorem dX9_node_129 : decode cX9_node 129 = .ok (.putfield 169, 3) := by decide +kernel
theorem dX9_node_132 : decode cX9_node 132 = .ok (.aload_n 0, 1) := by decide +kernel
theorem dX9_node_133 : decode cX9_node 133 = .ok (.getfield 169, 3) := by decide +kernel
theorem dX9_node_136 : decode cX9_node 136 = .ok (.iconst 1, 1) := by decide +kernel
theorem dX9_node_137 : decode cX9_node 137 = .ok (.isub, 1) := by decide +kernel
theorem dX9_node_138 : decode cX9_node 138 = .ok (.ireturn, 1) := by decide +kernel
theorem dX9_laid_0 : decode cX9_laid 0 = .ok (.aload_n 0, 1) := by decide +kernel
theorem dX9_laid_1 : decode cX9_laid 1 = .ok (.iload_n 1, 1) := by decide +kernel
theorem dX9_laid_2 : decode cX9_laid 2 = .ok (.iload_n 2, 1) := by decide +kernel
theorem dX9_laid_3 : decode cX9_laid 3 = .ok (.invokevirtual 197, 3) := by decide +kernel
theorem dX9_laid_6 : decode cX9_laid 6 = .ok (.istore 5, 2) := by decide +kernel
theorem dX9_laid_8 : decode cX9_laid 8 = .ok (.iload 5, 2) := by decide +kernel
theorem dX9_laid_10 : decode cX9_laid 10 = .ok (.iconst (-1), 1) := by decide +kernel
theorem dX9_laid_11 : decode cX9_laid 11 = .ok (.if_icmp .ne 31, 3) := by decide +kernel
theorem dX9_laid_14 : decode cX9_laid 14 = .ok (.iload_n 2, 1) := by decide +kernel
theorem dX9_laid_15 : decode cX9_laid 15 = .ok (.iconst 1, 1) := by decide +kernel
theorem dX9_laid_16 : decode cX9_laid 16 = .ok (.if_icmp .ne 26, 3) := by decide +kernel
theorem dX9_laid_19 : decode cX9_laid 19 = .ok (.aload_n 0, 1) := by decide +kernel
theorem dX9_laid_20 : decode cX9_laid 20 = .ok (.iconst 0, 1) := by decide +kernel
theorem dX9_laid_21 : decode cX9_laid 21 = .ok (.aload_n 0, 1) := by decide +kernel
theorem dX9_laid_22 : decode cX9_laid 22 = .ok (.getfield 62, 3) := by decide +kernel
theorem dX9_laid_25 : decode cX9_laid 25 = .ok (.iload_n 1, 1) := by decide +kernel
theorem dX9_laid_26 : decode cX9_laid 26 = .ok (.iaload, 1) := by decide +kernel
theorem dX9_laid_27 : decode cX9_laid 27 = .ok (.iload_n 3, 1) := by decide +kernel
theorem dX9_laid_28 : decode cX9_laid 28 = .ok (.iload 4, 2) := by decide +kernel
theorem dX9_laid_30 : decode cX9_laid 30 = .ok (.invokevirtual 200, 3) := by decide +kernel
theorem dX9_laid_33 : decode cX9_laid 33 = .ok (.ifCond .lt 7, 3) := by decide +kernel
theorem dX9_laid_36 : decode cX9_laid 36 = .ok (.iconst 1, 1) := by decide +kernel
theorem dX9_laid_37 : decode cX9_laid 37 = .ok (.goto 4, 3) := by decide +kernel
theorem dX9_laid_40 : decode cX9_laid 40 = .ok (.iconst 0, 1) := by decide +kernel
theorem dX9_laid_41 : decode cX9_laid 41 = .ok (.ireturn, 1) := by decide +kernel
theorem dX9_laid_42 : decode cX9_laid 42 = .ok (.iload 5, 2) := by decide +kernel
theorem dX9_laid_44 : decode cX9_laid 44 = .ok (.ifCond .lt 15, 3) := by decide +kernel
theorem dX9_laid_47 : decode cX9_laid 47 = .ok (.iload 5, 2) := by decide +kernel
theorem dX9_laid_49 : decode cX9_laid 49 = .ok (.sipush 170, 3) := by decide +kernel
theorem dX9_laid_52 : decode cX9_laid 52 = .ok (.if_icmp .ge 7, 3) := by decide +kernel
theorem dX9_laid_55 : decode cX9_laid 55 = .ok (.iconst 1, 1) := by decide +kernel
theorem dX9_laid_56 : decode cX9_laid 56 = .ok (.goto 4, 3) := by decide +kernel
theorem dX9_laid_59 : decode cX9_laid 59 = .ok (.iconst 0, 1) := by decide +kernel
theorem dX9_laid_60 : decode cX9_laid 60 = .ok (.istore 6, 2) := by decide +kernel
theorem dX9_laid_62 : decode cX9_laid 62 = .ok (.aload_n 0, 1) := by decide +kernel
theorem dX9_laid_63 : decode cX9_laid 63 = .ok (.iload 6, 2) := by decide +kernel
theorem dX9_laid_65 : decode cX9_laid 65 = .ok (.ifCond .eq 7, 3) := by decide +kernel
theorem dX9_laid_68 : decode cX9_laid 68 = .ok (.iconst 1, 1) := by decide +kernel
theorem dX9_laid_69 : decode cX9_laid 69 = .ok (.goto 4, 3) := by decide +kernel
theorem dX9_laid_72 : decode cX9_laid 72 = .ok (.iconst 2, 1) := by decide +kernel
theorem dX9_laid_73 : decode cX9_laid 73 = .ok (.iconst 0, 1) := by decide +kernel
theorem dX9_laid_74 : decode cX9_laid 74 = .ok (.iload_n 3, 1) := by decide +kernel
theorem dX9_laid_75 : decode cX9_laid 75 = .ok (.iload 4, 2) := by decide +kernel
theorem dX9_laid_77 : decode cX9_laid 77 = .ok (.invokevirtual 200, 3) := by decide +kernel
theorem dX9_laid_80 : decode cX9_laid 80 = .ok (.istore 7, 2) := by decide +kernel
theorem dX9_laid_82 : decode cX9_laid 82 = .ok (.aload_n 0, 1) := by decide +kernel
theorem dX9_laid_83 : decode cX9_laid 83 = .ok (.getfield 160, 3) := by decide +kernel
theorem dX9_laid_86 : decode cX9_laid 86 = .ok (.istore 8, 2) := by decide +kernel
theorem dX9_laid_88 : decode cX9_laid 88 = .ok (.iload 6, 2) := by decide +kernel
theorem dX9_laid_90 : decode cX9_laid 90 = .ok (.istore 9, 2) := by decide +kernel
theorem dX9_laid_92 : decode cX9_laid 92 = .ok (.iload 5, 2) := by decide +kernel
theorem dX9_laid_94 : decode cX9_laid 94 = .ok (.iconst (-1), 1) := by decide +kernel
theorem dX9_laid_95 : decode cX9_laid 95 = .ok (.if_icmp .ne 48, 3) := by decide +kernel
theorem dX9_laid_98 : decode cX9_laid 98 = .ok (.iload_n 1, 1) := by decide +kernel
theorem dX9_laid_99 : decode cX9_laid 99 = .ok (.istore 10, 2) := by decide +kernel
theorem dX9_laid_101 : decode cX9_laid 101 = .ok (.iload 10, 2) := by decide +kernel
theorem dX9_laid_103 : decode cX9_laid 103 = .ok (.iload_n 1, 1) := by decide +kernel
theorem dX9_laid_104 : decode cX9_laid 104 = .ok (.iload_n 2, 1) := by decide +kernel
theorem dX9_laid_105 : decode cX9_laid 105 = .ok (.iadd, 1) := by decide +kernel
theorem dX9_laid_106 : decode cX9_laid 106 = .ok (.if_icmp .ge 27, 3) := by decide +kernel
theorem dX9_laid_109 : decode cX9_laid 109 = .ok (.aload_n 0, 1) := by decide +kernel
theorem dX9_laid_110 : decode cX9_laid 110 = .ok (.iconst 0, 1) := by decide +kernel
theorem dX9_laid_111 : decode cX9_laid 111 = .ok (.aload_n 0, 1) := by decide +kernel
theorem dX9_laid_112 : decode cX9_laid 112 = .ok (.getfield 62, 3) := by decide +kernel
theorem dX9_laid_115 : decode cX9_laid 115 = .ok (.iload 10, 2) := by decide +kernel
theorem dX9_laid_117 : decode cX9_laid 117 = .ok (.iaload, 1) := by decide +kernel
theorem dX9_laid_118 : decode cX9_laid 118 = .ok (.iconst (-1), 1) := by decide +kernel
theorem dX9_laid_119 : decode cX9_laid 119 = .ok (.iload 4, 2) := by decide +kernel
theorem dX9_laid_121 : decode cX9_laid 121 = .ok (.iconst 1, 1) := by decide +kernel
theorem dX9_laid_122 : decode cX9_laid 122 = .ok (.iadd, 1) := by decide +kernel
theorem dX9_laid_123 : decode cX9_laid 123 = .ok (.invokevirtual 200, 3) := by decide +kernel
theorem dX9_laid_126 : decode cX9_laid 126 = .ok (.pop, 1) := by decide +kernel
theorem dX9_laid_127 : decode cX9_laid 127 = .ok (.iinc 10 1, 3) := by decide +kernel
theorem dX9_laid_130 : decode cX9_laid 130 = .ok (.goto (-29), 3) := by decide +kernel
theorem dX9_laid_133 : decode cX9_laid 133 = .ok (.aload_n 0, 1) := by decide +kernel
theorem dX9_laid_134 : decode cX9_laid 134 = .ok (.getfield 80, 3) := by decide +kernel
theorem dX9_laid_137 : decode cX9_laid 137 = .ok (.iload 7, 2) := by decide +kernel
theorem dX9_laid_139 : decode cX9_laid 139 = .ok (.iload_n 2, 1) := by decide +kernel
theorem dX9_laid_140 : decode cX9_laid 140 = .ok (.iastore, 1) := by decide +kernel
theorem dX9_laid_141 : decode cX9_laid 141 = .ok (.iconst 1, 1) := by decide +kernel
theorem dX9_laid_142 : decode cX9_laid 142 = .ok (.ireturn, 1) := by decide +kernel
theorem dX9_laid_143 : decode cX9_laid 143 = .ok (.iload 6, 2) := by decide +kernel
theorem dX9_laid_145 : decode cX9_laid 145 = .ok (.ifCond .eq 209, 3) := by decide +kernel
theorem dX9_laid_148 : decode cX9_laid 148 = .ok (.aload_n 0, 1) := by decide +kernel
theorem dX9_laid_149 : decode cX9_laid 149 = .ok (.getfield 62, 3) := by decide +kernel
theorem dX9_laid_152 : decode cX9_laid 152 = .ok (.iload_n 1, 1) := by decide +kernel
theorem dX9_laid_153 : decode cX9_laid 153 = .ok (.iaload, 1) := by decide +kernel
theorem dX9_laid_154 : decode cX9_laid 154 = .ok (.istore 10, 2) := by decide +kernel
theorem dX9_laid_156 : decode cX9_laid 156 = .ok (.aload_n 0, 1) := by decide +kernel
theorem dX9_laid_157 : decode cX9_laid 157 = .ok (.getfield 74, 3) := by decide +kernel
theorem dX9_laid_160 : decode cX9_laid 160 = .ok (.iload 7, 2) := by decide +kernel
theorem dX9_laid_162 : decode cX9_laid 162 = .ok (.iload 10, 2) := by decide +kernel
theorem dX9_laid_164 : decode cX9_laid 164 = .ok (.iastore, 1) := by decide +kernel
theorem dX9_laid_165 : decode cX9_laid 165 = .ok (.aload_n 0, 1) := by decide +kernel
theorem dX9_laid_166 : decode cX9_laid 166 = .ok (.getfield 77, 3) := by decide +kernel
theorem dX9_laid_169 : decode cX9_laid 169 = .ok (.iload 7, 2) := by decide +kernel
theorem dX9_laid_171 : decode cX9_laid 171 = .ok (.aload_n 0, 1) := by decide +kernel
theorem dX9_laid_172 : decode cX9_laid 172 = .ok (.getfield 59, 3) := by decide +kernel
theorem dX9_laid_175 : decode cX9_laid 175 = .ok (.sipush 170, 3) := by decide +kernel
theorem dX9_laid_178 : decode cX9_laid 178 = .ok (.iload 10, 2) := by decide +kernel
theorem dX9_laid_180 : decode cX9_laid 180 = .ok (.imul, 1) := by decide +kernel
theorem dX9_laid_181 : decode cX9_laid 181 = .ok (.iload 5, 2) := by decide +kernel
theorem dX9_laid_183 : decode cX9_laid 183 = .ok (.iadd, 1) := by decide +kernel
theorem dX9_laid_184 : decode cX9_laid 184 = .ok (.iaload, 1) := by decide +kernel
theorem dX9_laid_185 : decode cX9_laid 185 = .ok (.iastore, 1) := by decide +kernel
theorem dX9_laid_186 : decode cX9_laid 186 = .ok (.aload_n 0, 1) := by decide +kernel
theorem dX9_laid_187 : decode cX9_laid 187 = .ok (.getfield 9, 3) := by decide +kernel
theorem dX9_laid_190 : decode cX9_laid 190 = .ok (.aload_n 0, 1) := by decide +kernel
theorem dX9_laid_191 : decode cX9_laid 191 = .ok (.iload 10, 2) := by decide +kernel
theorem dX9_laid_193 : decode cX9_laid 193 = .ok (.iload 5, 2) := by decide +kernel
theorem dX9_laid_195 : decode cX9_laid 195 = .ok (.invokevirtual 166, 3) := by decide +kernel
theorem dX9_laid_198 : decode cX9_laid 198 = .ok (.iaload, 1) := by decide +kernel
theorem dX9_laid_199 : decode cX9_laid 199 = .ok (.istore 11, 2) := by decide +kernel
theorem dX9_laid_201 : decode cX9_laid 201 = .ok (.iconst 0, 1) := by decide +kernel
theorem dX9_laid_202 : decode cX9_laid 202 = .ok (.istore 12, 2) := by decide +kernel
theorem dX9_laid_204 : decode cX9_laid 204 = .ok (.iload 12, 2) := by decide +kernel
theorem dX9_laid_206 : decode cX9_laid 206 = .ok (.aload_n 0, 1) := by decide +kernel
theorem dX9_laid_207 : decode cX9_laid 207 = .ok (.getfield 124, 3) := by decide +kernel
theorem dX9_laid_210 : decode cX9_laid 210 = .ok (.if_icmp .ge 141, 3) := by decide +kernel
theorem dX9_laid_213 : decode cX9_laid 213 = .ok (.aload_n 0, 1) := by decide +kernel
theorem dX9_laid_214 : decode cX9_laid 214 = .ok (.getfield 9, 3) := by decide +kernel
theorem dX9_laid_217 : decode cX9_laid 217 = .ok (.iload 12, 2) := by decide +kernel
theorem dX9_laid_219 : decode cX9_laid 219 = .ok (.iaload, 1) := by decide +kernel
theorem dX9_laid_220 : decode cX9_laid 220 = .ok (.iload 11, 2) := by decide +kernel
theorem dX9_laid_222 : decode cX9_laid 222 = .ok (.if_icmp .eq 6, 3) := by decide +kernel
theorem dX9_laid_225 : decode cX9_laid 225 = .ok (.goto 120, 3) := by decide +kernel
theorem dX9_laid_228 : decode cX9_laid 228 = .ok (.aload_n 0, 1) := by decide +kernel
theorem dX9_laid_229 : decode cX9_laid 229 = .ok (.iload_n 1, 1) := by decide +kernel
theorem dX9_laid_230 : decode cX9_laid 230 = .ok (.iload_n 2, 1) := by decide +kernel
theorem dX9_laid_231 : decode cX9_laid 231 = .ok (.iload 5, 2) := by decide +kernel
theorem dX9_laid_233 : decode cX9_laid 233 = .ok (.iload 12, 2) := by decide +kernel
theorem dX9_laid_235 : decode cX9_laid 235 = .ok (.invokevirtual 204, 3) := by decide +kernel
theorem dX9_laid_238 : decode cX9_laid 238 = .ok (.istore 13, 2) := by decide +kernel
theorem dX9_laid_240 : decode cX9_laid 240 = .ok (.iload 9, 2) := by decide +kernel
theorem dX9_laid_242 : decode cX9_laid 242 = .ok (.ifCond .eq 12, 3) := by decide +kernel
theorem dX9_laid_245 : decode cX9_laid 245 = .ok (.iload 13, 2) := by decide +kernel
theorem dX9_laid_247 : decode cX9_laid 247 = .ok (.ifCond .le 7, 3) := by decide +kernel
theorem dX9_laid_250 : decode cX9_laid 250 = .ok (.iconst 1, 1) := by decide +kernel
theorem dX9_laid_251 : decode cX9_laid 251 = .ok (.goto 4, 3) := by decide +kernel
theorem dX9_laid_254 : decode cX9_laid 254 = .ok (.iconst 0, 1) := by decide +kernel
theorem dX9_laid_255 : decode cX9_laid 255 = .ok (.istore 9, 2) := by decide +kernel
theorem dX9_laid_257 : decode cX9_laid 257 = .ok (.iload 13, 2) := by decide +kernel
theorem dX9_laid_259 : decode cX9_laid 259 = .ok (.ifCond .ne 6, 3) := by decide +kernel
theorem dX9_laid_262 : decode cX9_laid 262 = .ok (.goto 83, 3) := by decide +kernel
theorem dX9_laid_265 : decode cX9_laid 265 = .ok (.aload_n 0, 1) := by decide +kernel
theorem dX9_laid_266 : decode cX9_laid 266 = .ok (.getfield 80, 3) := by decide +kernel
theorem dX9_laid_269 : decode cX9_laid 269 = .ok (.iload 7, 2) := by decide +kernel
theorem dX9_laid_271 : decode cX9_laid 271 = .ok (.dup2, 1) := by decide +kernel
theorem dX9_laid_272 : decode cX9_laid 272 = .ok (.iaload, 1) := by decide +kernel
theorem dX9_laid_273 : decode cX9_laid 273 = .ok (.iconst 1, 1) := by decide +kernel
theorem dX9_laid_274 : decode cX9_laid 274 = .ok (.iadd, 1) := by decide +kernel
theorem dX9_laid_275 : decode cX9_laid 275 = .ok (.iastore, 1) := by decide +kernel
theorem dX9_laid_276 : decode cX9_laid 276 = .ok (.aload_n 0, 1) := by decide +kernel
theorem dX9_laid_277 : decode cX9_laid 277 = .ok (.iload 8, 2) := by decide +kernel
theorem dX9_laid_279 : decode cX9_laid 279 = .ok (.iload 13, 2) := by decide +kernel
theorem dX9_laid_281 : decode cX9_laid 281 = .ok (.iload 5, 2) := by decide +kernel
theorem dX9_laid_283 : decode cX9_laid 283 = .ok (.aload_n 0, 1) := by decide +kernel
theorem dX9_laid_284 : decode cX9_laid 284 = .ok (.getfield 13, 3) := by decide +kernel
theorem dX9_laid_287 : decode cX9_laid 287 = .ok (.iload 12, 2) := by decide +kernel
theorem dX9_laid_289 : decode cX9_laid 289 = .ok (.iaload, 1) := by decide +kernel
theorem dX9_laid_290 : decode cX9_laid 290 = .ok (.invokevirtual 207, 3) := by decide +kernel
theorem dX9_laid_293 : decode cX9_laid 293 = .ok (.aload_n 0, 1) := by decide +kernel
theorem dX9_laid_294 : decode cX9_laid 294 = .ok (.iload 8, 2) := by decide +kernel
theorem dX9_laid_296 : decode cX9_laid 296 = .ok (.iload 13, 2) := by decide +kernel
theorem dX9_laid_298 : decode cX9_laid 298 = .ok (.iload 12, 2) := by decide +kernel
theorem dX9_laid_300 : decode cX9_laid 300 = .ok (.iload 4, 2) := by decide +kernel
theorem dX9_laid_302 : decode cX9_laid 302 = .ok (.iconst 1, 1) := by decide +kernel
theorem dX9_laid_303 : decode cX9_laid 303 = .ok (.iadd, 1) := by decide +kernel
theorem dX9_laid_304 : decode cX9_laid 304 = .ok (.invokestatic 188, 3) := by decide +kernel
theorem dX9_laid_307 : decode cX9_laid 307 = .ok (.ifCond .eq 12, 3) := by decide +kernel
theorem dX9_laid_310 : decode cX9_laid 310 = .ok (.iload 9, 2) := by decide +kernel
theorem dX9_laid_312 : decode cX9_laid 312 = .ok (.ifCond .eq 7, 3) := by decide +kernel
theorem dX9_laid_315 : decode cX9_laid 315 = .ok (.iconst 1, 1) := by decide +kernel
theorem dX9_laid_316 : decode cX9_laid 316 = .ok (.goto 4, 3) := by decide +kernel
theorem dX9_laid_319 : decode cX9_laid 319 = .ok (.iconst 0, 1) := by decide +kernel
theorem dX9_laid_320 : decode cX9_laid 320 = .ok (.istore 9, 2) := by decide +kernel
theorem dX9_laid_322 : decode cX9_laid 322 = .ok (.aload_n 0, 1) := by decide +kernel
theorem dX9_laid_323 : decode cX9_laid 323 = .ok (.iload 8, 2) := by decide +kernel
theorem dX9_laid_325 : decode cX9_laid 325 = .ok (.iload 13, 2) := by decide +kernel
theorem dX9_laid_327 : decode cX9_laid 327 = .ok (.iload 5, 2) := by decide +kernel
theorem dX9_laid_329 : decode cX9_laid 329 = .ok (.aload_n 0, 1) := by decide +kernel
theorem dX9_laid_330 : decode cX9_laid 330 = .ok (.getfield 13, 3) := by decide +kernel
theorem dX9_laid_333 : decode cX9_laid 333 = .ok (.iload 12, 2) := by decide +kernel
theorem dX9_laid_335 : decode cX9_laid 335 = .ok (.iaload, 1) := by decide +kernel
theorem dX9_laid_336 : decode cX9_laid 336 = .ok (.invokevirtual 211, 3) := by decide +kernel
theorem dX9_laid_339 : decode cX9_laid 339 = .ok (.aload_n 0, 1) := by decide +kernel
theorem dX9_laid_340 : decode cX9_laid 340 = .ok (.iload 8, 2) := by decide +kernel
theorem dX9_laid_342 : decode cX9_laid 342 = .ok (.putfield 160, 3) := by decide +kernel
theorem dX9_laid_345 : decode cX9_laid 345 = .ok (.iinc 12 1, 3) := by decide +kernel
theorem dX9_laid_348 : decode cX9_laid 348 = .ok (.goto (-144), 3) := by decide +kernel
theorem dX9_laid_351 : decode cX9_laid 351 = .ok (.iload 9, 2) := by decide +kernel
theorem dX9_laid_353 : decode cX9_laid 353 = .ok (.ireturn, 1) := by decide +kernel
theorem dX9_laid_354 : decode cX9_laid 354 = .ok (.iconst 0, 1) := by decide +kernel
theorem dX9_laid_355 : decode cX9_laid 355 = .ok (.istore 10, 2) := by decide +kernel
theorem dX9_laid_357 : decode cX9_laid 357 = .ok (.iload 10, 2) := by decide +kernel
theorem dX9_laid_359 : decode cX9_laid 359 = .ok (.iload_n 2, 1) := by decide +kernel
theorem dX9_laid_360 : decode cX9_laid 360 = .ok (.if_icmp .ge 78, 3) := by decide +kernel
theorem dX9_laid_363 : decode cX9_laid 363 = .ok (.aload_n 0, 1) := by decide +kernel
theorem dX9_laid_364 : decode cX9_laid 364 = .ok (.iload_n 1, 1) := by decide +kernel
theorem dX9_laid_365 : decode cX9_laid 365 = .ok (.iload 10, 2) := by decide +kernel
theorem dX9_laid_367 : decode cX9_laid 367 = .ok (.iadd, 1) := by decide +kernel
theorem dX9_laid_368 : decode cX9_laid 368 = .ok (.iload_n 2, 1) := by decide +kernel
theorem dX9_laid_369 : decode cX9_laid 369 = .ok (.iload 10, 2) := by decide +kernel
theorem dX9_laid_371 : decode cX9_laid 371 = .ok (.isub, 1) := by decide +kernel
theorem dX9_laid_372 : decode cX9_laid 372 = .ok (.iload 5, 2) := by decide +kernel
theorem dX9_laid_374 : decode cX9_laid 374 = .ok (.sipush 170, 3) := by decide +kernel
theorem dX9_laid_377 : decode cX9_laid 377 = .ok (.isub, 1) := by decide +kernel
theorem dX9_laid_378 : decode cX9_laid 378 = .ok (.invokevirtual 214, 3) := by decide +kernel
theorem dX9_laid_381 : decode cX9_laid 381 = .ok (.istore 11, 2) := by decide +kernel
theorem dX9_laid_383 : decode cX9_laid 383 = .ok (.aload_n 0, 1) := by decide +kernel
theorem dX9_laid_384 : decode cX9_laid 384 = .ok (.getfield 80, 3) := by decide +kernel
theorem dX9_laid_387 : decode cX9_laid 387 = .ok (.iload 7, 2) := by decide +kernel
theorem dX9_laid_389 : decode cX9_laid 389 = .ok (.dup2, 1) := by decide +kernel
theorem dX9_laid_390 : decode cX9_laid 390 = .ok (.iaload, 1) := by decide +kernel
theorem dX9_laid_391 : decode cX9_laid 391 = .ok (.iconst 1, 1) := by decide +kernel
theorem dX9_laid_392 : decode cX9_laid 392 = .ok (.iadd, 1) := by decide +kernel
theorem dX9_laid_393 : decode cX9_laid 393 = .ok (.iastore, 1) := by decide +kernel
theorem dX9_laid_394 : decode cX9_laid 394 = .ok (.aload_n 0, 1) := by decide +kernel
end
section
theorem dX9_laid_395 : decode cX9_laid 395 = .ok (.iload 8, 2) := by decide +kernel
theorem dX9_laid_397 : decode cX9_laid 397 = .ok (.iload 11, 2) := by decide +kernel
theorem dX9_laid_399 : decode cX9_laid 399 = .ok (.iconst (-1), 1) := by decide +kernel
theorem dX9_laid_400 : decode cX9_laid 400 = .ok (.iload 4, 2) := by decide +kernel
theorem dX9_laid_402 : decode cX9_laid 402 = .ok (.iconst 1, 1) := by decide +kernel
theorem dX9_laid_403 : decode cX9_laid 403 = .ok (.iadd, 1) := by decide +kernel
theorem dX9_laid_404 : decode cX9_laid 404 = .ok (.invokestatic 188, 3) := by decide +kernel
theorem dX9_laid_407 : decode cX9_laid 407 = .ok (.ifCond .ne 8, 3) := by decide +kernel
theorem dX9_laid_410 : decode cX9_laid 410 = .ok (.iload 9, 2) := by decide +kernel
theorem dX9_laid_412 : decode cX9_laid 412 = .ok (.ifCond .eq 7, 3) := by decide +kernel
theorem dX9_laid_415 : decode cX9_laid 415 = .ok (.iconst 1, 1) := by decide +kernel
theorem dX9_laid_416 : decode cX9_laid 416 = .ok (.goto 4, 3) := by decide +kernel
theorem dX9_laid_419 : decode cX9_laid 419 = .ok (.iconst 0, 1) := by decide +kernel
theorem dX9_laid_420 : decode cX9_laid 420 = .ok (.istore 9, 2) := by decide +kernel
theorem dX9_laid_422 : decode cX9_laid 422 = .ok (.aload_n 0, 1) := by decide +kernel
theorem dX9_laid_423 : decode cX9_laid 423 = .ok (.iload 8, 2) := by decide +kernel
theorem dX9_laid_425 : decode cX9_laid 425 = .ok (.putfield 160, 3) := by decide +kernel
theorem dX9_laid_428 : decode cX9_laid 428 = .ok (.iload 10, 2) := by decide +kernel
theorem dX9_laid_430 : decode cX9_laid 430 = .ok (.iload 11, 2) := by decide +kernel
theorem dX9_laid_432 : decode cX9_laid 432 = .ok (.iadd, 1) := by decide +kernel
theorem dX9_laid_433 : decode cX9_laid 433 = .ok (.istore 10, 2) := by decide +kernel
theorem dX9_laid_435 : decode cX9_laid 435 = .ok (.goto (-78), 3) := by decide +kernel
theorem dX9_laid_438 : decode cX9_laid 438 = .ok (.iload 9, 2) := by decide +kernel
theorem dX9_laid_440 : decode cX9_laid 440 = .ok (.ireturn, 1) := by decide +kernel
theorem dX9_newCells_0 : decode cX9_newCells 0 = .ok (.aload_n 0, 1) := by decide +kernel
theorem dX9_newCells_1 : decode cX9_newCells 1 = .ok (.dup, 1) := by decide +kernel
theorem dX9_newCells_2 : decode cX9_newCells 2 = .ok (.getfield 218, 3) := by decide +kernel
theorem dX9_newCells_5 : decode cX9_newCells 5 = .ok (.iload_n 1, 1) := by decide +kernel
theorem dX9_newCells_6 : decode cX9_newCells 6 = .ok (.iadd, 1) := by decide +kernel
theorem dX9_newCells_7 : decode cX9_newCells 7 = .ok (.putfield 218, 3) := by decide +kernel
theorem dX9_newCells_10 : decode cX9_newCells 10 = .ok (.aload_n 0, 1) := by decide +kernel
theorem dX9_newCells_11 : decode cX9_newCells 11 = .ok (.getfield 218, 3) := by decide +kernel
theorem dX9_newCells_14 : decode cX9_newCells 14 = .ok (.iload_n 1, 1) := by decide +kernel
theorem dX9_newCells_15 : decode cX9_newCells 15 = .ok (.isub, 1) := by decide +kernel
theorem dX9_newCells_16 : decode cX9_newCells 16 = .ok (.ireturn, 1) := by decide +kernel
theorem dX9_read_0 : decode cX9_read 0 = .ok (.aload_n 0, 1) := by decide +kernel
theorem dX9_read_1 : decode cX9_read 1 = .ok (.iconst 0, 1) := by decide +kernel
theorem dX9_read_2 : decode cX9_read 2 = .ok (.putfield 218, 3) := by decide +kernel
theorem dX9_read_5 : decode cX9_read 5 = .ok (.aload_n 0, 1) := by decide +kernel
theorem dX9_read_6 : decode cX9_read 6 = .ok (.bipush 8, 2) := by decide +kernel
theorem dX9_read_8 : decode cX9_read 8 = .ok (.putfield 221, 3) := by decide +kernel
theorem dX9_read_11 : decode cX9_read 11 = .ok (.iconst 0, 1) := by decide +kernel
theorem dX9_read_12 : decode cX9_read 12 = .ok (.istore_n 1, 1) := by decide +kernel
theorem dX9_read_13 : decode cX9_read 13 = .ok (.iload_n 1, 1) := by decide +kernel
theorem dX9_read_14 : decode cX9_read 14 = .ok (.bipush 8, 2) := by decide +kernel
theorem dX9_read_16 : decode cX9_read 16 = .ok (.if_icmp .ge 16, 3) := by decide +kernel
theorem dX9_read_19 : decode cX9_read 19 = .ok (.aload_n 0, 1) := by decide +kernel
theorem dX9_read_20 : decode cX9_read 20 = .ok (.getfield 95, 3) := by decide +kernel
theorem dX9_read_23 : decode cX9_read 23 = .ok (.iload_n 1, 1) := by decide +kernel
theorem dX9_read_24 : decode cX9_read 24 = .ok (.iconst (-1), 1) := by decide +kernel
theorem dX9_read_25 : decode cX9_read 25 = .ok (.iastore, 1) := by decide +kernel
theorem dX9_read_26 : decode cX9_read 26 = .ok (.iinc 1 1, 3) := by decide +kernel
theorem dX9_read_29 : decode cX9_read 29 = .ok (.goto (-16), 3) := by decide +kernel
theorem dX9_read_32 : decode cX9_read 32 = .ok (.aload_n 0, 1) := by decide +kernel
theorem dX9_read_33 : decode cX9_read 33 = .ok (.aload_n 0, 1) := by decide +kernel
theorem dX9_read_34 : decode cX9_read 34 = .ok (.getfield 19, 3) := by decide +kernel
theorem dX9_read_37 : decode cX9_read 37 = .ok (.invokevirtual 224, 3) := by decide +kernel
theorem dX9_read_40 : decode cX9_read 40 = .ok (.istore_n 1, 1) := by decide +kernel
theorem dX9_read_41 : decode cX9_read 41 = .ok (.aload_n 0, 1) := by decide +kernel
theorem dX9_read_42 : decode cX9_read 42 = .ok (.iconst 0, 1) := by decide +kernel
theorem dX9_read_43 : decode cX9_read 43 = .ok (.putfield 142, 3) := by decide +kernel
theorem dX9_read_46 : decode cX9_read 46 = .ok (.aload_n 0, 1) := by decide +kernel
theorem dX9_read_47 : decode cX9_read 47 = .ok (.getfield 19, 3) := by decide +kernel
theorem dX9_read_50 : decode cX9_read 50 = .ok (.iconst 1, 1) := by decide +kernel
theorem dX9_read_51 : decode cX9_read 51 = .ok (.isub, 1) := by decide +kernel
theorem dX9_read_52 : decode cX9_read 52 = .ok (.istore_n 2, 1) := by decide +kernel
theorem dX9_read_53 : decode cX9_read 53 = .ok (.iload_n 2, 1) := by decide +kernel
theorem dX9_read_54 : decode cX9_read 54 = .ok (.ifCond .lt 31, 3) := by decide +kernel
theorem dX9_read_57 : decode cX9_read 57 = .ok (.aload_n 0, 1) := by decide +kernel
theorem dX9_read_58 : decode cX9_read 58 = .ok (.getfield 41, 3) := by decide +kernel
theorem dX9_read_61 : decode cX9_read 61 = .ok (.aload_n 0, 1) := by decide +kernel
theorem dX9_read_62 : decode cX9_read 62 = .ok (.getfield 142, 3) := by decide +kernel
theorem dX9_read_65 : decode cX9_read 65 = .ok (.iload_n 1, 1) := by decide +kernel
theorem dX9_read_66 : decode cX9_read 66 = .ok (.iload_n 2, 1) := by decide +kernel
theorem dX9_read_67 : decode cX9_read 67 = .ok (.iadd, 1) := by decide +kernel
theorem dX9_read_68 : decode cX9_read 68 = .ok (.iastore, 1) := by decide +kernel
theorem dX9_read_69 : decode cX9_read 69 = .ok (.aload_n 0, 1) := by decide +kernel
theorem dX9_read_70 : decode cX9_read 70 = .ok (.dup, 1) := by decide +kernel
theorem dX9_read_71 : decode cX9_read 71 = .ok (.getfield 142, 3) := by decide +kernel
theorem dX9_read_74 : decode cX9_read 74 = .ok (.iconst 1, 1) := by decide +kernel
theorem dX9_read_75 : decode cX9_read 75 = .ok (.iadd, 1) := by decide +kernel
theorem dX9_read_76 : decode cX9_read 76 = .ok (.putfield 142, 3) := by decide +kernel
theorem dX9_read_79 : decode cX9_read 79 = .ok (.iinc 2 (-1), 3) := by decide +kernel
theorem dX9_read_82 : decode cX9_read 82 = .ok (.goto (-29), 3) := by decide +kernel
theorem dX9_read_85 : decode cX9_read 85 = .ok (.iconst 0, 1) := by decide +kernel
theorem dX9_read_86 : decode cX9_read 86 = .ok (.istore_n 2, 1) := by decide +kernel
theorem dX9_read_87 : decode cX9_read 87 = .ok (.iload_n 2, 1) := by decide +kernel
theorem dX9_read_88 : decode cX9_read 88 = .ok (.aload_n 0, 1) := by decide +kernel
theorem dX9_read_89 : decode cX9_read 89 = .ok (.getfield 139, 3) := by decide +kernel
theorem dX9_read_92 : decode cX9_read 92 = .ok (.if_icmp .ge 128, 3) := by decide +kernel
theorem dX9_read_95 : decode cX9_read 95 = .ok (.aload_n 0, 1) := by decide +kernel
theorem dX9_read_96 : decode cX9_read 96 = .ok (.dup, 1) := by decide +kernel
theorem dX9_read_97 : decode cX9_read 97 = .ok (.getfield 142, 3) := by decide +kernel
theorem dX9_read_100 : decode cX9_read 100 = .ok (.iconst 1, 1) := by decide +kernel
theorem dX9_read_101 : decode cX9_read 101 = .ok (.isub, 1) := by decide +kernel
theorem dX9_read_102 : decode cX9_read 102 = .ok (.putfield 142, 3) := by decide +kernel
theorem dX9_read_105 : decode cX9_read 105 = .ok (.aload_n 0, 1) := by decide +kernel
theorem dX9_read_106 : decode cX9_read 106 = .ok (.getfield 41, 3) := by decide +kernel
theorem dX9_read_109 : decode cX9_read 109 = .ok (.aload_n 0, 1) := by decide +kernel
theorem dX9_read_110 : decode cX9_read 110 = .ok (.getfield 142, 3) := by decide +kernel
theorem dX9_read_113 : decode cX9_read 113 = .ok (.iaload, 1) := by decide +kernel
theorem dX9_read_114 : decode cX9_read 114 = .ok (.istore_n 3, 1) := by decide +kernel
theorem dX9_read_115 : decode cX9_read 115 = .ok (.aload_n 0, 1) := by decide +kernel
theorem dX9_read_116 : decode cX9_read 116 = .ok (.getfield 89, 3) := by decide +kernel
theorem dX9_read_119 : decode cX9_read 119 = .ok (.iload_n 3, 1) := by decide +kernel
theorem dX9_read_120 : decode cX9_read 120 = .ok (.aload_n 0, 1) := by decide +kernel
theorem dX9_read_121 : decode cX9_read 121 = .ok (.getfield 23, 3) := by decide +kernel
theorem dX9_read_124 : decode cX9_read 124 = .ok (.iload_n 2, 1) := by decide +kernel
theorem dX9_read_125 : decode cX9_read 125 = .ok (.iaload, 1) := by decide +kernel
theorem dX9_read_126 : decode cX9_read 126 = .ok (.iastore, 1) := by decide +kernel
theorem dX9_read_127 : decode cX9_read 127 = .ok (.aload_n 0, 1) := by decide +kernel
theorem dX9_read_128 : decode cX9_read 128 = .ok (.getfield 23, 3) := by decide +kernel
theorem dX9_read_131 : decode cX9_read 131 = .ok (.iload_n 2, 1) := by decide +kernel
theorem dX9_read_132 : decode cX9_read 132 = .ok (.iaload, 1) := by decide +kernel
theorem dX9_read_133 : decode cX9_read 133 = .ok (.ifCond .ge 6, 3) := by decide +kernel
theorem dX9_read_136 : decode cX9_read 136 = .ok (.goto 78, 3) := by decide +kernel
theorem dX9_read_139 : decode cX9_read 139 = .ok (.aload_n 0, 1) := by decide +kernel
theorem dX9_read_140 : decode cX9_read 140 = .ok (.getfield 92, 3) := by decide +kernel
theorem dX9_read_143 : decode cX9_read 143 = .ok (.iload_n 3, 1) := by decide +kernel
theorem dX9_read_144 : decode cX9_read 144 = .ok (.aload_n 0, 1) := by decide +kernel
theorem dX9_read_145 : decode cX9_read 145 = .ok (.aload_n 0, 1) := by decide +kernel
theorem dX9_read_146 : decode cX9_read 146 = .ok (.getfield 13, 3) := by decide +kernel
theorem dX9_read_149 : decode cX9_read 149 = .ok (.aload_n 0, 1) := by decide +kernel
theorem dX9_read_150 : decode cX9_read 150 = .ok (.getfield 23, 3) := by decide +kernel
theorem dX9_read_153 : decode cX9_read 153 = .ok (.iload_n 2, 1) := by decide +kernel
theorem dX9_read_154 : decode cX9_read 154 = .ok (.iaload, 1) := by decide +kernel
theorem dX9_read_155 : decode cX9_read 155 = .ok (.iaload, 1) := by decide +kernel
theorem dX9_read_156 : decode cX9_read 156 = .ok (.invokevirtual 224, 3) := by decide +kernel
theorem dX9_read_159 : decode cX9_read 159 = .ok (.iastore, 1) := by decide +kernel
theorem dX9_read_160 : decode cX9_read 160 = .ok (.aload_n 0, 1) := by decide +kernel
theorem dX9_read_161 : decode cX9_read 161 = .ok (.getfield 13, 3) := by decide +kernel
theorem dX9_read_164 : decode cX9_read 164 = .ok (.aload_n 0, 1) := by decide +kernel
theorem dX9_read_165 : decode cX9_read 165 = .ok (.getfield 23, 3) := by decide +kernel
theorem dX9_read_168 : decode cX9_read 168 = .ok (.iload_n 2, 1) := by decide +kernel
theorem dX9_read_169 : decode cX9_read 169 = .ok (.iaload, 1) := by decide +kernel
theorem dX9_read_170 : decode cX9_read 170 = .ok (.iaload, 1) := by decide +kernel
theorem dX9_read_171 : decode cX9_read 171 = .ok (.iconst 1, 1) := by decide +kernel
theorem dX9_read_172 : decode cX9_read 172 = .ok (.isub, 1) := by decide +kernel
theorem dX9_read_173 : decode cX9_read 173 = .ok (.istore 4, 2) := by decide +kernel
theorem dX9_read_175 : decode cX9_read 175 = .ok (.iload 4, 2) := by decide +kernel
theorem dX9_read_177 : decode cX9_read 177 = .ok (.ifCond .lt 37, 3) := by decide +kernel
theorem dX9_read_180 : decode cX9_read 180 = .ok (.aload_n 0, 1) := by decide +kernel
theorem dX9_read_181 : decode cX9_read 181 = .ok (.getfield 41, 3) := by decide +kernel
theorem dX9_read_184 : decode cX9_read 184 = .ok (.aload_n 0, 1) := by decide +kernel
theorem dX9_read_185 : decode cX9_read 185 = .ok (.getfield 142, 3) := by decide +kernel
theorem dX9_read_188 : decode cX9_read 188 = .ok (.aload_n 0, 1) := by decide +kernel
theorem dX9_read_189 : decode cX9_read 189 = .ok (.getfield 92, 3) := by decide +kernel
theorem dX9_read_192 : decode cX9_read 192 = .ok (.iload_n 3, 1) := by decide +kernel
theorem dX9_read_193 : decode cX9_read 193 = .ok (.iaload, 1) := by decide +kernel
theorem dX9_read_194 : decode cX9_read 194 = .ok (.iload 4, 2) := by decide +kernel
theorem dX9_read_196 : decode cX9_read 196 = .ok (.iadd, 1) := by decide +kernel
theorem dX9_read_197 : decode cX9_read 197 = .ok (.iastore, 1) := by decide +kernel
theorem dX9_read_198 : decode cX9_read 198 = .ok (.aload_n 0, 1) := by decide +kernel
theorem dX9_read_199 : decode cX9_read 199 = .ok (.dup, 1) := by decide +kernel
theorem dX9_read_200 : decode cX9_read 200 = .ok (.getfield 142, 3) := by decide +kernel
theorem dX9_read_203 : decode cX9_read 203 = .ok (.iconst 1, 1) := by decide +kernel
theorem dX9_read_204 : decode cX9_read 204 = .ok (.iadd, 1) := by decide +kernel
theorem dX9_read_205 : decode cX9_read 205 = .ok (.putfield 142, 3) := by decide +kernel
theorem dX9_read_208 : decode cX9_read 208 = .ok (.iinc 4 (-1), 3) := by decide +kernel
theorem dX9_read_211 : decode cX9_read 211 = .ok (.goto (-36), 3) := by decide +kernel
theorem dX9_read_214 : decode cX9_read 214 = .ok (.iinc 2 1, 3) := by decide +kernel
theorem dX9_read_217 : decode cX9_read 217 = .ok (.goto (-130), 3) := by decide +kernel
theorem dX9_read_220 : decode cX9_read 220 = .ok (.aload_n 0, 1) := by decide +kernel
theorem dX9_read_221 : decode cX9_read 221 = .ok (.iconst 0, 1) := by decide +kernel
theorem dX9_read_222 : decode cX9_read 222 = .ok (.putfield 139, 3) := by decide +kernel
theorem dX9_read_225 : decode cX9_read 225 = .ok (.return_, 1) := by decide +kernel
theorem dX9_here_0 : decode cX9_here 0 = .ok (.iload_n 1, 1) := by decide +kernel
theorem dX9_here_1 : decode cX9_here 1 = .ok (.istore_n 2, 1) := by decide +kernel
theorem dX9_here_2 : decode cX9_here 2 = .ok (.aload_n 0, 1) := by decide +kernel
theorem dX9_here_3 : decode cX9_here 3 = .ok (.getfield 89, 3) := by decide +kernel
theorem dX9_here_6 : decode cX9_here 6 = .ok (.iload_n 2, 1) := by decide +kernel
theorem dX9_here_7 : decode cX9_here 7 = .ok (.iaload, 1) := by decide +kernel
theorem dX9_here_8 : decode cX9_here 8 = .ok (.ifCond .ge 36, 3) := by decide +kernel
theorem dX9_here_11 : decode cX9_here 11 = .ok (.aload_n 0, 1) := by decide +kernel
theorem dX9_here_12 : decode cX9_here 12 = .ok (.getfield 95, 3) := by decide +kernel
theorem dX9_here_15 : decode cX9_here 15 = .ok (.iconst (-1), 1) := by decide +kernel
theorem dX9_here_16 : decode cX9_here 16 = .ok (.aload_n 0, 1) := by decide +kernel
theorem dX9_here_17 : decode cX9_here 17 = .ok (.getfield 89, 3) := by decide +kernel
theorem dX9_here_20 : decode cX9_here 20 = .ok (.iload_n 2, 1) := by decide +kernel
theorem dX9_here_21 : decode cX9_here 21 = .ok (.iaload, 1) := by decide +kernel
theorem dX9_here_22 : decode cX9_here 22 = .ok (.isub, 1) := by decide +kernel
theorem dX9_here_23 : decode cX9_here 23 = .ok (.iaload, 1) := by decide +kernel
theorem dX9_here_24 : decode cX9_here 24 = .ok (.ifCond .lt 20, 3) := by decide +kernel
theorem dX9_here_27 : decode cX9_here 27 = .ok (.aload_n 0, 1) := by decide +kernel
theorem dX9_here_28 : decode cX9_here 28 = .ok (.getfield 95, 3) := by decide +kernel
theorem dX9_here_31 : decode cX9_here 31 = .ok (.iconst (-1), 1) := by decide +kernel
theorem dX9_here_32 : decode cX9_here 32 = .ok (.aload_n 0, 1) := by decide +kernel
theorem dX9_here_33 : decode cX9_here 33 = .ok (.getfield 89, 3) := by decide +kernel
theorem dX9_here_36 : decode cX9_here 36 = .ok (.iload_n 2, 1) := by decide +kernel
theorem dX9_here_37 : decode cX9_here 37 = .ok (.iaload, 1) := by decide +kernel
theorem dX9_here_38 : decode cX9_here 38 = .ok (.isub, 1) := by decide +kernel
theorem dX9_here_39 : decode cX9_here 39 = .ok (.iaload, 1) := by decide +kernel
theorem dX9_here_40 : decode cX9_here 40 = .ok (.istore_n 2, 1) := by decide +kernel
theorem dX9_here_41 : decode cX9_here 41 = .ok (.goto (-39), 3) := by decide +kernel
theorem dX9_here_44 : decode cX9_here 44 = .ok (.iload_n 2, 1) := by decide +kernel
theorem dX9_here_45 : decode cX9_here 45 = .ok (.ireturn, 1) := by decide +kernel
theorem dX9_lead_0 : decode cX9_lead 0 = .ok (.aload_n 0, 1) := by decide +kernel
theorem dX9_lead_1 : decode cX9_lead 1 = .ok (.iconst 0, 1) := by decide +kernel
theorem dX9_lead_2 : decode cX9_lead 2 = .ok (.putfield 127, 3) := by decide +kernel
theorem dX9_lead_5 : decode cX9_lead 5 = .ok (.aload_n 0, 1) := by decide +kernel
theorem dX9_lead_6 : decode cX9_lead 6 = .ok (.iconst (-1), 1) := by decide +kernel
theorem dX9_lead_7 : decode cX9_lead 7 = .ok (.putfield 101, 3) := by decide +kernel
theorem dX9_lead_10 : decode cX9_lead 10 = .ok (.aload_n 0, 1) := by decide +kernel
theorem dX9_lead_11 : decode cX9_lead 11 = .ok (.getfield 19, 3) := by decide +kernel
theorem dX9_lead_14 : decode cX9_lead 14 = .ok (.iconst (-1), 1) := by decide +kernel
theorem dX9_lead_15 : decode cX9_lead 15 = .ok (.if_icmp .ne 7, 3) := by decide +kernel
theorem dX9_lead_18 : decode cX9_lead 18 = .ok (.iconst (-1), 1) := by decide +kernel
theorem dX9_lead_19 : decode cX9_lead 19 = .ok (.goto 8, 3) := by decide +kernel
theorem dX9_lead_22 : decode cX9_lead 22 = .ok (.aload_n 0, 1) := by decide +kernel
theorem dX9_lead_23 : decode cX9_lead 23 = .ok (.iconst 1, 1) := by decide +kernel
theorem dX9_lead_24 : decode cX9_lead 24 = .ok (.invokevirtual 153, 3) := by decide +kernel
theorem dX9_lead_27 : decode cX9_lead 27 = .ok (.istore_n 1, 1) := by decide +kernel
theorem dX9_lead_28 : decode cX9_lead 28 = .ok (.aload_n 0, 1) := by decide +kernel
theorem dX9_lead_29 : decode cX9_lead 29 = .ok (.getfield 19, 3) := by decide +kernel
theorem dX9_lead_32 : decode cX9_lead 32 = .ok (.iconst (-1), 1) := by decide +kernel
theorem dX9_lead_33 : decode cX9_lead 33 = .ok (.if_icmp .eq 7, 3) := by decide +kernel
theorem dX9_lead_36 : decode cX9_lead 36 = .ok (.iload_n 1, 1) := by decide +kernel
theorem dX9_lead_37 : decode cX9_lead 37 = .ok (.ifCond .lt 25, 3) := by decide +kernel
theorem dX9_lead_40 : decode cX9_lead 40 = .ok (.aload_n 0, 1) := by decide +kernel
theorem dX9_lead_41 : decode cX9_lead 41 = .ok (.iconst 0, 1) := by decide +kernel
theorem dX9_lead_42 : decode cX9_lead 42 = .ok (.putfield 139, 3) := by decide +kernel
theorem dX9_lead_45 : decode cX9_lead 45 = .ok (.aload_n 0, 1) := by decide +kernel
theorem dX9_lead_46 : decode cX9_lead 46 = .ok (.getfield 19, 3) := by decide +kernel
theorem dX9_lead_49 : decode cX9_lead 49 = .ok (.iconst (-1), 1) := by decide +kernel
theorem dX9_lead_50 : decode cX9_lead 50 = .ok (.if_icmp .ne 7, 3) := by decide +kernel
theorem dX9_lead_53 : decode cX9_lead 53 = .ok (.iconst (-1), 1) := by decide +kernel
theorem dX9_lead_54 : decode cX9_lead 54 = .ok (.goto 7, 3) := by decide +kernel
theorem dX9_lead_57 : decode cX9_lead 57 = .ok (.bipush (-2), 2) := by decide +kernel
theorem dX9_lead_59 : decode cX9_lead 59 = .ok (.iload_n 1, 1) := by decide +kernel
theorem dX9_lead_60 : decode cX9_lead 60 = .ok (.isub, 1) := by decide +kernel
theorem dX9_lead_61 : decode cX9_lead 61 = .ok (.ireturn, 1) := by decide +kernel
theorem dX9_lead_62 : decode cX9_lead 62 = .ok (.aload_n 0, 1) := by decide +kernel
theorem dX9_lead_63 : decode cX9_lead 63 = .ok (.invokevirtual 228, 3) := by decide +kernel
theorem dX9_lead_66 : decode cX9_lead 66 = .ok (.aload_n 0, 1) := by decide +kernel
theorem dX9_lead_67 : decode cX9_lead 67 = .ok (.iconst (-1), 1) := by decide +kernel
theorem dX9_lead_68 : decode cX9_lead 68 = .ok (.invokevirtual 231, 3) := by decide +kernel
theorem dX9_lead_71 : decode cX9_lead 71 = .ok (.aload_n 0, 1) := by decide +kernel
theorem dX9_lead_72 : decode cX9_lead 72 = .ok (.aload_n 0, 1) := by decide +kernel
theorem dX9_lead_73 : decode cX9_lead 73 = .ok (.getfield 235, 3) := by decide +kernel
theorem dX9_lead_76 : decode cX9_lead 76 = .ok (.ifCond .ne 13, 3) := by decide +kernel
theorem dX9_lead_79 : decode cX9_lead 79 = .ok (.aload_n 0, 1) := by decide +kernel
theorem dX9_lead_80 : decode cX9_lead 80 = .ok (.getfield 238, 3) := by decide +kernel
theorem dX9_lead_83 : decode cX9_lead 83 = .ok (.sipush 200, 3) := by decide +kernel
theorem dX9_lead_86 : decode cX9_lead 86 = .ok (.if_icmp .le 7, 3) := by decide +kernel
theorem dX9_lead_89 : decode cX9_lead 89 = .ok (.iconst 0, 1) := by decide +kernel
theorem dX9_lead_90 : decode cX9_lead 90 = .ok (.goto 7, 3) := by decide +kernel
theorem dX9_lead_93 : decode cX9_lead 93 = .ok (.aload_n 0, 1) := by decide +kernel
theorem dX9_lead_94 : decode cX9_lead 94 = .ok (.getfield 238, 3) := by decide +kernel
theorem dX9_lead_97 : decode cX9_lead 97 = .ok (.putfield 127, 3) := by decide +kernel
theorem dX9_lead_100 : decode cX9_lead 100 = .ok (.aload_n 0, 1) := by decide +kernel
theorem dX9_lead_101 : decode cX9_lead 101 = .ok (.getfield 235, 3) := by decide +kernel
theorem dX9_lead_104 : decode cX9_lead 104 = .ok (.ifCond .ne 13, 3) := by decide +kernel
theorem dX9_lead_107 : decode cX9_lead 107 = .ok (.aload_n 0, 1) := by decide +kernel
theorem dX9_lead_108 : decode cX9_lead 108 = .ok (.getfield 238, 3) := by decide +kernel
theorem dX9_lead_111 : decode cX9_lead 111 = .ok (.sipush 200, 3) := by decide +kernel
theorem dX9_lead_114 : decode cX9_lead 114 = .ok (.if_icmp .le 9, 3) := by decide +kernel
theorem dX9_lead_117 : decode cX9_lead 117 = .ok (.sipush (-1000), 3) := by decide +kernel
theorem dX9_lead_120 : decode cX9_lead 120 = .ok (.goto 7, 3) := by decide +kernel
theorem dX9_lead_123 : decode cX9_lead 123 = .ok (.aload_n 0, 1) := by decide +kernel
theorem dX9_lead_124 : decode cX9_lead 124 = .ok (.getfield 238, 3) := by decide +kernel
theorem dX9_lead_127 : decode cX9_lead 127 = .ok (.ireturn, 1) := by decide +kernel
theorem dX9_go_0 : decode cX9_go 0 = .ok (.aload_n 0, 1) := by decide +kernel
theorem dX9_go_1 : decode cX9_go 1 = .ok (.iload_n 1, 1) := by decide +kernel
theorem dX9_go_2 : decode cX9_go 2 = .ok (.putfield 101, 3) := by decide +kernel
theorem dX9_go_5 : decode cX9_go 5 = .ok (.aload_n 0, 1) := by decide +kernel
theorem dX9_go_6 : decode cX9_go 6 = .ok (.iconst 0, 1) := by decide +kernel
theorem dX9_go_7 : decode cX9_go 7 = .ok (.putfield 238, 3) := by decide +kernel
theorem dX9_go_10 : decode cX9_go 10 = .ok (.aload_n 0, 1) := by decide +kernel
theorem dX9_go_11 : decode cX9_go 11 = .ok (.iconst 0, 1) := by decide +kernel
theorem dX9_go_12 : decode cX9_go 12 = .ok (.putfield 235, 3) := by decide +kernel
theorem dX9_go_15 : decode cX9_go 15 = .ok (.aload_n 0, 1) := by decide +kernel
theorem dX9_go_16 : decode cX9_go 16 = .ok (.iconst 0, 1) := by decide +kernel
theorem dX9_go_17 : decode cX9_go 17 = .ok (.putfield 241, 3) := by decide +kernel
theorem dX9_go_20 : decode cX9_go 20 = .ok (.aload_n 0, 1) := by decide +kernel
theorem dX9_go_21 : decode cX9_go 21 = .ok (.iconst 0, 1) := by decide +kernel
theorem dX9_go_22 : decode cX9_go 22 = .ok (.putfield 244, 3) := by decide +kernel
theorem dX9_go_25 : decode cX9_go 25 = .ok (.aload_n 0, 1) := by decide +kernel
theorem dX9_go_26 : decode cX9_go 26 = .ok (.invokevirtual 185, 3) := by decide +kernel
theorem dX9_go_29 : decode cX9_go 29 = .ok (.iconst 0, 1) := by decide +kernel
theorem dX9_go_30 : decode cX9_go 30 = .ok (.istore_n 2, 1) := by decide +kernel
theorem dX9_go_31 : decode cX9_go 31 = .ok (.iload_n 2, 1) := by decide +kernel
theorem dX9_go_32 : decode cX9_go 32 = .ok (.aload_n 0, 1) := by decide +kernel
theorem dX9_go_33 : decode cX9_go 33 = .ok (.getfield 19, 3) := by decide +kernel
theorem dX9_go_36 : decode cX9_go 36 = .ok (.if_icmp .ge 16, 3) := by decide +kernel
theorem dX9_go_39 : decode cX9_go 39 = .ok (.aload_n 0, 1) := by decide +kernel
theorem dX9_go_40 : decode cX9_go 40 = .ok (.getfield 98, 3) := by decide +kernel
theorem dX9_go_43 : decode cX9_go 43 = .ok (.iload_n 2, 1) := by decide +kernel
theorem dX9_go_44 : decode cX9_go 44 = .ok (.iload_n 2, 1) := by decide +kernel
theorem dX9_go_45 : decode cX9_go 45 = .ok (.iastore, 1) := by decide +kernel
theorem dX9_go_46 : decode cX9_go 46 = .ok (.iinc 2 1, 3) := by decide +kernel
theorem dX9_go_49 : decode cX9_go 49 = .ok (.goto (-18), 3) := by decide +kernel
theorem dX9_go_52 : decode cX9_go 52 = .ok (.aload_n 0, 1) := by decide +kernel
theorem dX9_go_53 : decode cX9_go 53 = .ok (.getfield 133, 3) := by decide +kernel
theorem dX9_go_56 : decode cX9_go 56 = .ok (.ifCond .le 12, 3) := by decide +kernel
theorem dX9_go_59 : decode cX9_go 59 = .ok (.aload_n 0, 1) := by decide +kernel
theorem dX9_go_60 : decode cX9_go 60 = .ok (.iconst 0, 1) := by decide +kernel
theorem dX9_go_61 : decode cX9_go 61 = .ok (.aload_n 0, 1) := by decide +kernel
theorem dX9_go_62 : decode cX9_go 62 = .ok (.getfield 133, 3) := by decide +kernel
theorem dX9_go_65 : decode cX9_go 65 = .ok (.invokestatic 247, 3) := by decide +kernel
theorem dX9_go_68 : decode cX9_go 68 = .ok (.return_, 1) := by decide +kernel
theorem dX9_led_0 : decode cX9_led 0 = .ok (.aload_n 0, 1) := by decide +kernel
theorem dX9_led_1 : decode cX9_led 1 = .ok (.iload_n 1, 1) := by decide +kernel
theorem dX9_led_2 : decode cX9_led 2 = .ok (.iload_n 2, 1) := by decide +kernel
theorem dX9_led_3 : decode cX9_led 3 = .ok (.invokevirtual 197, 3) := by decide +kernel
theorem dX9_led_6 : decode cX9_led 6 = .ok (.istore_n 3, 1) := by decide +kernel
theorem dX9_led_7 : decode cX9_led 7 = .ok (.aload_n 0, 1) := by decide +kernel
theorem dX9_led_8 : decode cX9_led 8 = .ok (.getfield 160, 3) := by decide +kernel
theorem dX9_led_11 : decode cX9_led 11 = .ok (.istore 4, 2) := by decide +kernel
theorem dX9_led_13 : decode cX9_led 13 = .ok (.iload_n 3, 1) := by decide +kernel
theorem dX9_led_14 : decode cX9_led 14 = .ok (.iconst (-1), 1) := by decide +kernel
theorem dX9_led_15 : decode cX9_led 15 = .ok (.if_icmp .ne 32, 3) := by decide +kernel
theorem dX9_led_18 : decode cX9_led 18 = .ok (.iload_n 1, 1) := by decide +kernel
theorem dX9_led_19 : decode cX9_led 19 = .ok (.istore 5, 2) := by decide +kernel
theorem dX9_led_21 : decode cX9_led 21 = .ok (.iload 5, 2) := by decide +kernel
theorem dX9_led_23 : decode cX9_led 23 = .ok (.iload_n 1, 1) := by decide +kernel
theorem dX9_led_24 : decode cX9_led 24 = .ok (.iload_n 2, 1) := by decide +kernel
theorem dX9_led_25 : decode cX9_led 25 = .ok (.iadd, 1) := by decide +kernel
theorem dX9_led_26 : decode cX9_led 26 = .ok (.if_icmp .ge 20, 3) := by decide +kernel
theorem dX9_led_29 : decode cX9_led 29 = .ok (.aload_n 0, 1) := by decide +kernel
theorem dX9_led_30 : decode cX9_led 30 = .ok (.aload_n 0, 1) := by decide +kernel
theorem dX9_led_31 : decode cX9_led 31 = .ok (.getfield 62, 3) := by decide +kernel
theorem dX9_led_34 : decode cX9_led 34 = .ok (.iload 5, 2) := by decide +kernel
theorem dX9_led_36 : decode cX9_led 36 = .ok (.iaload, 1) := by decide +kernel
theorem dX9_led_37 : decode cX9_led 37 = .ok (.invokevirtual 251, 3) := by decide +kernel
theorem dX9_led_40 : decode cX9_led 40 = .ok (.iinc 5 1, 3) := by decide +kernel
theorem dX9_led_43 : decode cX9_led 43 = .ok (.goto (-22), 3) := by decide +kernel
theorem dX9_led_46 : decode cX9_led 46 = .ok (.return_, 1) := by decide +kernel
theorem dX9_led_47 : decode cX9_led 47 = .ok (.iload_n 3, 1) := by decide +kernel
theorem dX9_led_48 : decode cX9_led 48 = .ok (.sipush 170, 3) := by decide +kernel
theorem dX9_led_51 : decode cX9_led 51 = .ok (.if_icmp .lt 56, 3) := by decide +kernel
theorem dX9_led_54 : decode cX9_led 54 = .ok (.iconst 0, 1) := by decide +kernel
theorem dX9_led_55 : decode cX9_led 55 = .ok (.istore 5, 2) := by decide +kernel
theorem dX9_led_57 : decode cX9_led 57 = .ok (.iload 5, 2) := by decide +kernel
theorem dX9_led_59 : decode cX9_led 59 = .ok (.iload_n 2, 1) := by decide +kernel
theorem dX9_led_60 : decode cX9_led 60 = .ok (.if_icmp .ge 46, 3) := by decide +kernel
theorem dX9_led_63 : decode cX9_led 63 = .ok (.aload_n 0, 1) := by decide +kernel
theorem dX9_led_64 : decode cX9_led 64 = .ok (.iload_n 1, 1) := by decide +kernel
theorem dX9_led_65 : decode cX9_led 65 = .ok (.iload 5, 2) := by decide +kernel
theorem dX9_led_67 : decode cX9_led 67 = .ok (.iadd, 1) := by decide +kernel
theorem dX9_led_68 : decode cX9_led 68 = .ok (.iload_n 2, 1) := by decide +kernel
theorem dX9_led_69 : decode cX9_led 69 = .ok (.iload 5, 2) := by decide +kernel
theorem dX9_led_71 : decode cX9_led 71 = .ok (.isub, 1) := by decide +kernel
theorem dX9_led_72 : decode cX9_led 72 = .ok (.iload_n 3, 1) := by decide +kernel
theorem dX9_led_73 : decode cX9_led 73 = .ok (.sipush 170, 3) := by decide +kernel
theorem dX9_led_76 : decode cX9_led 76 = .ok (.isub, 1) := by decide +kernel
theorem dX9_led_77 : decode cX9_led 77 = .ok (.invokevirtual 214, 3) := by decide +kernel
theorem dX9_led_80 : decode cX9_led 80 = .ok (.istore 6, 2) := by decide +kernel
theorem dX9_led_82 : decode cX9_led 82 = .ok (.aload_n 0, 1) := by decide +kernel
theorem dX9_led_83 : decode cX9_led 83 = .ok (.iload 4, 2) := by decide +kernel
theorem dX9_led_85 : decode cX9_led 85 = .ok (.iload 6, 2) := by decide +kernel
theorem dX9_led_87 : decode cX9_led 87 = .ok (.invokestatic 247, 3) := by decide +kernel
theorem dX9_led_90 : decode cX9_led 90 = .ok (.aload_n 0, 1) := by decide +kernel
theorem dX9_led_91 : decode cX9_led 91 = .ok (.iload 4, 2) := by decide +kernel
theorem dX9_led_93 : decode cX9_led 93 = .ok (.putfield 160, 3) := by decide +kernel
theorem dX9_led_96 : decode cX9_led 96 = .ok (.iload 5, 2) := by decide +kernel
theorem dX9_led_98 : decode cX9_led 98 = .ok (.iload 6, 2) := by decide +kernel
theorem dX9_led_100 : decode cX9_led 100 = .ok (.iadd, 1) := by decide +kernel
theorem dX9_led_101 : decode cX9_led 101 = .ok (.istore 5, 2) := by decide +kernel
theorem dX9_led_103 : decode cX9_led 103 = .ok (.goto (-46), 3) := by decide +kernel
theorem dX9_led_106 : decode cX9_led 106 = .ok (.return_, 1) := by decide +kernel
theorem dX9_led_107 : decode cX9_led 107 = .ok (.aload_n 0, 1) := by decide +kernel
theorem dX9_led_108 : decode cX9_led 108 = .ok (.aload_n 0, 1) := by decide +kernel
theorem dX9_led_109 : decode cX9_led 109 = .ok (.getfield 98, 3) := by decide +kernel
theorem dX9_led_112 : decode cX9_led 112 = .ok (.iload_n 3, 1) := by decide +kernel
theorem dX9_led_113 : decode cX9_led 113 = .ok (.iaload, 1) := by decide +kernel
theorem dX9_led_114 : decode cX9_led 114 = .ok (.invokevirtual 254, 3) := by decide +kernel
theorem dX9_led_117 : decode cX9_led 117 = .ok (.istore 5, 2) := by decide +kernel
theorem dX9_led_119 : decode cX9_led 119 = .ok (.aload_n 0, 1) := by decide +kernel
theorem dX9_led_120 : decode cX9_led 120 = .ok (.getfield 89, 3) := by decide +kernel
theorem dX9_led_123 : decode cX9_led 123 = .ok (.iload 5, 2) := by decide +kernel
theorem dX9_led_125 : decode cX9_led 125 = .ok (.iaload, 1) := by decide +kernel
theorem dX9_led_126 : decode cX9_led 126 = .ok (.ifCond .ge 7, 3) := by decide +kernel
theorem dX9_led_129 : decode cX9_led 129 = .ok (.iconst 1, 1) := by decide +kernel
theorem dX9_led_130 : decode cX9_led 130 = .ok (.goto 4, 3) := by decide +kernel
theorem dX9_led_133 : decode cX9_led 133 = .ok (.iconst 0, 1) := by decide +kernel
theorem dX9_led_134 : decode cX9_led 134 = .ok (.istore 6, 2) := by decide +kernel
theorem dX9_led_136 : decode cX9_led 136 = .ok (.aload_n 0, 1) := by decide +kernel
theorem dX9_led_137 : decode cX9_led 137 = .ok (.dup, 1) := by decide +kernel
theorem dX9_led_138 : decode cX9_led 138 = .ok (.getfield 241, 3) := by decide +kernel
theorem dX9_led_141 : decode cX9_led 141 = .ok (.iconst 1, 1) := by decide +kernel
theorem dX9_led_142 : decode cX9_led 142 = .ok (.iadd, 1) := by decide +kernel
theorem dX9_led_143 : decode cX9_led 143 = .ok (.putfield 241, 3) := by decide +kernel
theorem dX9_led_146 : decode cX9_led 146 = .ok (.aload_n 0, 1) := by decide +kernel
theorem dX9_led_147 : decode cX9_led 147 = .ok (.dup, 1) := by decide +kernel
theorem dX9_led_148 : decode cX9_led 148 = .ok (.getfield 244, 3) := by decide +kernel
theorem dX9_led_151 : decode cX9_led 151 = .ok (.iload 6, 2) := by decide +kernel
theorem dX9_led_153 : decode cX9_led 153 = .ok (.ifCond .eq 7, 3) := by decide +kernel
theorem dX9_led_156 : decode cX9_led 156 = .ok (.iconst 1, 1) := by decide +kernel
theorem dX9_led_157 : decode cX9_led 157 = .ok (.goto 4, 3) := by decide +kernel
theorem dX9_led_160 : decode cX9_led 160 = .ok (.iconst 0, 1) := by decide +kernel
theorem dX9_led_161 : decode cX9_led 161 = .ok (.iadd, 1) := by decide +kernel
theorem dX9_led_162 : decode cX9_led 162 = .ok (.putfield 244, 3) := by decide +kernel
theorem dX9_led_165 : decode cX9_led 165 = .ok (.iload 6, 2) := by decide +kernel
theorem dX9_led_167 : decode cX9_led 167 = .ok (.ifCond .eq 7, 3) := by decide +kernel
theorem dX9_led_170 : decode cX9_led 170 = .ok (.iconst 0, 1) := by decide +kernel
theorem dX9_led_171 : decode cX9_led 171 = .ok (.goto 10, 3) := by decide +kernel
theorem dX9_led_174 : decode cX9_led 174 = .ok (.aload_n 0, 1) := by decide +kernel
theorem dX9_led_175 : decode cX9_led 175 = .ok (.getfield 89, 3) := by decide +kernel
theorem dX9_led_178 : decode cX9_led 178 = .ok (.iload 5, 2) := by decide +kernel
theorem dX9_led_180 : decode cX9_led 180 = .ok (.iaload, 1) := by decide +kernel
theorem dX9_led_181 : decode cX9_led 181 = .ok (.istore 7, 2) := by decide +kernel
theorem dX9_led_183 : decode cX9_led 183 = .ok (.iload 7, 2) := by decide +kernel
theorem dX9_led_185 : decode cX9_led 185 = .ok (.iload 6, 2) := by decide +kernel
theorem dX9_led_187 : decode cX9_led 187 = .ok (.ifCond .eq 10, 3) := by decide +kernel
theorem dX9_led_190 : decode cX9_led 190 = .ok (.aload_n 0, 1) := by decide +kernel
theorem dX9_led_191 : decode cX9_led 191 = .ok (.getfield 124, 3) := by decide +kernel
theorem dX9_led_194 : decode cX9_led 194 = .ok (.goto 12, 3) := by decide +kernel
theorem dX9_led_197 : decode cX9_led 197 = .ok (.aload_n 0, 1) := by decide +kernel
theorem dX9_led_198 : decode cX9_led 198 = .ok (.getfield 89, 3) := by decide +kernel
theorem dX9_led_201 : decode cX9_led 201 = .ok (.iload 5, 2) := by decide +kernel
theorem dX9_led_203 : decode cX9_led 203 = .ok (.iaload, 1) := by decide +kernel
theorem dX9_led_204 : decode cX9_led 204 = .ok (.iconst 1, 1) := by decide +kernel
theorem dX9_led_205 : decode cX9_led 205 = .ok (.iadd, 1) := by decide +kernel
theorem dX9_led_206 : decode cX9_led 206 = .ok (.if_icmp .ge 198, 3) := by decide +kernel
theorem dX9_led_209 : decode cX9_led 209 = .ok (.aload_n 0, 1) := by decide +kernel
theorem dX9_led_210 : decode cX9_led 210 = .ok (.iload_n 1, 1) := by decide +kernel
theorem dX9_led_211 : decode cX9_led 211 = .ok (.iload_n 2, 1) := by decide +kernel
theorem dX9_led_212 : decode cX9_led 212 = .ok (.iload_n 3, 1) := by decide +kernel
theorem dX9_led_213 : decode cX9_led 213 = .ok (.iload 7, 2) := by decide +kernel
theorem dX9_led_215 : decode cX9_led 215 = .ok (.invokevirtual 204, 3) := by decide +kernel
theorem dX9_led_218 : decode cX9_led 218 = .ok (.istore 8, 2) := by decide +kernel
theorem dX9_led_220 : decode cX9_led 220 = .ok (.iload 8, 2) := by decide +kernel
theorem dX9_led_222 : decode cX9_led 222 = .ok (.ifCond .ne 6, 3) := by decide +kernel
theorem dX9_led_225 : decode cX9_led 225 = .ok (.goto 173, 3) := by decide +kernel
theorem dX9_led_228 : decode cX9_led 228 = .ok (.aload_n 0, 1) := by decide +kernel
theorem dX9_led_229 : decode cX9_led 229 = .ok (.getfield 218, 3) := by decide +kernel
theorem dX9_led_232 : decode cX9_led 232 = .ok (.istore 9, 2) := by decide +kernel
theorem dX9_led_234 : decode cX9_led 234 = .ok (.aload_n 0, 1) := by decide +kernel
theorem dX9_led_235 : decode cX9_led 235 = .ok (.getfield 221, 3) := by decide +kernel
theorem dX9_led_238 : decode cX9_led 238 = .ok (.istore 10, 2) := by decide +kernel
theorem dX9_led_240 : decode cX9_led 240 = .ok (.iload 6, 2) := by decide +kernel
theorem dX9_led_242 : decode cX9_led 242 = .ok (.ifCond .eq 12, 3) := by decide +kernel
theorem dX9_led_245 : decode cX9_led 245 = .ok (.aload_n 0, 1) := by decide +kernel
theorem dX9_led_246 : decode cX9_led 246 = .ok (.iload 7, 2) := by decide +kernel
theorem dX9_led_248 : decode cX9_led 248 = .ok (.invokevirtual 257, 3) := by decide +kernel
theorem dX9_led_251 : decode cX9_led 251 = .ok (.goto 5, 3) := by decide +kernel
theorem dX9_led_254 : decode cX9_led 254 = .ok (.iload 5, 2) := by decide +kernel
theorem dX9_led_256 : decode cX9_led 256 = .ok (.istore 11, 2) := by decide +kernel
theorem dX9_led_258 : decode cX9_led 258 = .ok (.iload 6, 2) := by decide +kernel
theorem dX9_led_260 : decode cX9_led 260 = .ok (.ifCond .eq 19, 3) := by decide +kernel
theorem dX9_led_263 : decode cX9_led 263 = .ok (.aload_n 0, 1) := by decide +kernel
theorem dX9_led_264 : decode cX9_led 264 = .ok (.getfield 95, 3) := by decide +kernel
theorem dX9_led_267 : decode cX9_led 267 = .ok (.iconst (-1), 1) := by decide +kernel
theorem dX9_led_268 : decode cX9_led 268 = .ok (.aload_n 0, 1) := by decide +kernel
theorem dX9_led_269 : decode cX9_led 269 = .ok (.getfield 89, 3) := by decide +kernel
theorem dX9_led_272 : decode cX9_led 272 = .ok (.iload 5, 2) := by decide +kernel
theorem dX9_led_274 : decode cX9_led 274 = .ok (.iaload, 1) := by decide +kernel
theorem dX9_led_275 : decode cX9_led 275 = .ok (.isub, 1) := by decide +kernel
theorem dX9_led_276 : decode cX9_led 276 = .ok (.iload 11, 2) := by decide +kernel
theorem dX9_led_278 : decode cX9_led 278 = .ok (.iastore, 1) := by decide +kernel
theorem dX9_led_279 : decode cX9_led 279 = .ok (.aload_n 0, 1) := by decide +kernel
theorem dX9_led_280 : decode cX9_led 280 = .ok (.getfield 98, 3) := by decide +kernel
theorem dX9_led_283 : decode cX9_led 283 = .ok (.iload_n 3, 1) := by decide +kernel
theorem dX9_led_284 : decode cX9_led 284 = .ok (.iaload, 1) := by decide +kernel
theorem dX9_led_285 : decode cX9_led 285 = .ok (.istore 12, 2) := by decide +kernel
theorem dX9_led_287 : decode cX9_led 287 = .ok (.aload_n 0, 1) := by decide +kernel
theorem dX9_led_288 : decode cX9_led 288 = .ok (.iload 4, 2) := by decide +kernel
theorem dX9_led_290 : decode cX9_led 290 = .ok (.iload 8, 2) := by decide +kernel
theorem dX9_led_292 : decode cX9_led 292 = .ok (.iload_n 3, 1) := by decide +kernel
theorem dX9_led_293 : decode cX9_led 293 = .ok (.aload_n 0, 1) := by decide +kernel
theorem dX9_led_294 : decode cX9_led 294 = .ok (.getfield 13, 3) := by decide +kernel
theorem dX9_led_297 : decode cX9_led 297 = .ok (.iload 7, 2) := by decide +kernel
theorem dX9_led_299 : decode cX9_led 299 = .ok (.iaload, 1) := by decide +kernel
theorem dX9_led_300 : decode cX9_led 300 = .ok (.invokevirtual 207, 3) := by decide +kernel
theorem dX9_led_303 : decode cX9_led 303 = .ok (.aload_n 0, 1) := by decide +kernel
theorem dX9_led_304 : decode cX9_led 304 = .ok (.iload_n 3, 1) := by decide +kernel
theorem dX9_led_305 : decode cX9_led 305 = .ok (.aload_n 0, 1) := by decide +kernel
theorem dX9_led_306 : decode cX9_led 306 = .ok (.getfield 13, 3) := by decide +kernel
theorem dX9_led_309 : decode cX9_led 309 = .ok (.iload 7, 2) := by decide +kernel
theorem dX9_led_311 : decode cX9_led 311 = .ok (.iaload, 1) := by decide +kernel
theorem dX9_led_312 : decode cX9_led 312 = .ok (.aload_n 0, 1) := by decide +kernel
theorem dX9_led_313 : decode cX9_led 313 = .ok (.getfield 92, 3) := by decide +kernel
theorem dX9_led_316 : decode cX9_led 316 = .ok (.iload 11, 2) := by decide +kernel
theorem dX9_led_318 : decode cX9_led 318 = .ok (.iaload, 1) := by decide +kernel
theorem dX9_led_319 : decode cX9_led 319 = .ok (.invokevirtual 260, 3) := by decide +kernel
theorem dX9_led_322 : decode cX9_led 322 = .ok (.aload_n 0, 1) := by decide +kernel
theorem dX9_led_323 : decode cX9_led 323 = .ok (.iload 4, 2) := by decide +kernel
theorem dX9_led_325 : decode cX9_led 325 = .ok (.iload 8, 2) := by decide +kernel
theorem dX9_led_327 : decode cX9_led 327 = .ok (.invokestatic 247, 3) := by decide +kernel
theorem dX9_led_330 : decode cX9_led 330 = .ok (.aload_n 0, 1) := by decide +kernel
theorem dX9_led_331 : decode cX9_led 331 = .ok (.iload 4, 2) := by decide +kernel
theorem dX9_led_333 : decode cX9_led 333 = .ok (.iload 8, 2) := by decide +kernel
theorem dX9_led_335 : decode cX9_led 335 = .ok (.iload_n 3, 1) := by decide +kernel
theorem dX9_led_336 : decode cX9_led 336 = .ok (.aload_n 0, 1) := by decide +kernel
theorem dX9_led_337 : decode cX9_led 337 = .ok (.getfield 13, 3) := by decide +kernel
theorem dX9_led_340 : decode cX9_led 340 = .ok (.iload 7, 2) := by decide +kernel
theorem dX9_led_342 : decode cX9_led 342 = .ok (.iaload, 1) := by decide +kernel
theorem dX9_led_343 : decode cX9_led 343 = .ok (.invokevirtual 211, 3) := by decide +kernel
theorem dX9_led_346 : decode cX9_led 346 = .ok (.aload_n 0, 1) := by decide +kernel
theorem dX9_led_347 : decode cX9_led 347 = .ok (.iload_n 3, 1) := by decide +kernel
theorem dX9_led_348 : decode cX9_led 348 = .ok (.aload_n 0, 1) := by decide +kernel
theorem dX9_led_349 : decode cX9_led 349 = .ok (.getfield 13, 3) := by decide +kernel
theorem dX9_led_352 : decode cX9_led 352 = .ok (.iload 7, 2) := by decide +kernel
theorem dX9_led_354 : decode cX9_led 354 = .ok (.iaload, 1) := by decide +kernel
theorem dX9_led_355 : decode cX9_led 355 = .ok (.iload 12, 2) := by decide +kernel
theorem dX9_led_357 : decode cX9_led 357 = .ok (.invokevirtual 263, 3) := by decide +kernel
theorem dX9_led_360 : decode cX9_led 360 = .ok (.aload_n 0, 1) := by decide +kernel
theorem dX9_led_361 : decode cX9_led 361 = .ok (.iload 4, 2) := by decide +kernel
theorem dX9_led_363 : decode cX9_led 363 = .ok (.putfield 160, 3) := by decide +kernel
theorem dX9_led_366 : decode cX9_led 366 = .ok (.iload 6, 2) := by decide +kernel
theorem dX9_led_368 : decode cX9_led 368 = .ok (.ifCond .eq 18, 3) := by decide +kernel
theorem dX9_led_371 : decode cX9_led 371 = .ok (.aload_n 0, 1) := by decide +kernel
theorem dX9_led_372 : decode cX9_led 372 = .ok (.getfield 95, 3) := by decide +kernel
theorem dX9_led_375 : decode cX9_led 375 = .ok (.iconst (-1), 1) := by decide +kernel
theorem dX9_led_376 : decode cX9_led 376 = .ok (.aload_n 0, 1) := by decide +kernel
theorem dX9_led_377 : decode cX9_led 377 = .ok (.getfield 89, 3) := by decide +kernel
theorem dX9_led_380 : decode cX9_led 380 = .ok (.iload 5, 2) := by decide +kernel
theorem dX9_led_382 : decode cX9_led 382 = .ok (.iaload, 1) := by decide +kernel
theorem dX9_led_383 : decode cX9_led 383 = .ok (.isub, 1) := by decide +kernel
theorem dX9_led_384 : decode cX9_led 384 = .ok (.iconst (-1), 1) := by decide +kernel
theorem dX9_led_385 : decode cX9_led 385 = .ok (.iastore, 1) := by decide +kernel
theorem dX9_led_386 : decode cX9_led 386 = .ok (.aload_n 0, 1) := by decide +kernel
theorem dX9_led_387 : decode cX9_led 387 = .ok (.iload 9, 2) := by decide +kernel
theorem dX9_led_389 : decode cX9_led 389 = .ok (.putfield 218, 3) := by decide +kernel
theorem dX9_led_392 : decode cX9_led 392 = .ok (.aload_n 0, 1) := by decide +kernel
theorem dX9_led_393 : decode cX9_led 393 = .ok (.iload 10, 2) := by decide +kernel
theorem dX9_led_395 : decode cX9_led 395 = .ok (.putfield 221, 3) := by decide +kernel
theorem dX9_led_398 : decode cX9_led 398 = .ok (.iinc 7 1, 3) := by decide +kernel
theorem dX9_led_401 : decode cX9_led 401 = .ok (.goto (-218), 3) := by decide +kernel
theorem dX9_led_404 : decode cX9_led 404 = .ok (.aload_n 0, 1) := by decide +kernel
theorem dX9_led_405 : decode cX9_led 405 = .ok (.dup, 1) := by decide +kernel
theorem dX9_led_406 : decode cX9_led 406 = .ok (.getfield 241, 3) := by decide +kernel
theorem dX9_led_409 : decode cX9_led 409 = .ok (.iconst 1, 1) := by decide +kernel
theorem dX9_led_410 : decode cX9_led 410 = .ok (.isub, 1) := by decide +kernel
theorem dX9_led_411 : decode cX9_led 411 = .ok (.putfield 241, 3) := by decide +kernel
theorem dX9_led_414 : decode cX9_led 414 = .ok (.aload_n 0, 1) := by decide +kernel
theorem dX9_led_415 : decode cX9_led 415 = .ok (.dup, 1) := by decide +kernel
theorem dX9_led_416 : decode cX9_led 416 = .ok (.getfield 244, 3) := by decide +kernel
theorem dX9_led_419 : decode cX9_led 419 = .ok (.iload 6, 2) := by decide +kernel
theorem dX9_led_421 : decode cX9_led 421 = .ok (.ifCond .eq 7, 3) := by decide +kernel
theorem dX9_led_424 : decode cX9_led 424 = .ok (.iconst 1, 1) := by decide +kernel
theorem dX9_led_425 : decode cX9_led 425 = .ok (.goto 4, 3) := by decide +kernel
theorem dX9_led_428 : decode cX9_led 428 = .ok (.iconst 0, 1) := by decide +kernel
theorem dX9_led_429 : decode cX9_led 429 = .ok (.isub, 1) := by decide +kernel
theorem dX9_led_430 : decode cX9_led 430 = .ok (.putfield 244, 3) := by decide +kernel
theorem dX9_led_433 : decode cX9_led 433 = .ok (.return_, 1) := by decide +kernel
theorem dX9_grown_0 : decode cX9_grown 0 = .ok (.aload_n 0, 1) := by decide +kernel
theorem dX9_grown_1 : decode cX9_grown 1 = .ok (.iconst 1, 1) := by decide +kernel
theorem dX9_grown_2 : decode cX9_grown 2 = .ok (.invokevirtual 224, 3) := by decide +kernel
theorem dX9_grown_5 : decode cX9_grown 5 = .ok (.istore_n 2, 1) := by decide +kernel
theorem dX9_grown_6 : decode cX9_grown 6 = .ok (.aload_n 0, 1) := by decide +kernel
theorem dX9_grown_7 : decode cX9_grown 7 = .ok (.getfield 89, 3) := by decide +kernel
theorem dX9_grown_10 : decode cX9_grown 10 = .ok (.iload_n 2, 1) := by decide +kernel
theorem dX9_grown_11 : decode cX9_grown 11 = .ok (.iload_n 1, 1) := by decide +kernel
theorem dX9_grown_12 : decode cX9_grown 12 = .ok (.iastore, 1) := by decide +kernel
theorem dX9_grown_13 : decode cX9_grown 13 = .ok (.aload_n 0, 1) := by decide +kernel
theorem dX9_grown_14 : decode cX9_grown 14 = .ok (.getfield 92, 3) := by decide +kernel
theorem dX9_grown_17 : decode cX9_grown 17 = .ok (.iload_n 2, 1) := by decide +kernel
theorem dX9_grown_18 : decode cX9_grown 18 = .ok (.aload_n 0, 1) := by decide +kernel
theorem dX9_grown_19 : decode cX9_grown 19 = .ok (.aload_n 0, 1) := by decide +kernel
theorem dX9_grown_20 : decode cX9_grown 20 = .ok (.getfield 13, 3) := by decide +kernel
theorem dX9_grown_23 : decode cX9_grown 23 = .ok (.iload_n 1, 1) := by decide +kernel
theorem dX9_grown_24 : decode cX9_grown 24 = .ok (.iaload, 1) := by decide +kernel
theorem dX9_grown_25 : decode cX9_grown 25 = .ok (.invokevirtual 224, 3) := by decide +kernel
theorem dX9_grown_28 : decode cX9_grown 28 = .ok (.iastore, 1) := by decide +kernel
theorem dX9_grown_29 : decode cX9_grown 29 = .ok (.iconst 0, 1) := by decide +kernel
theorem dX9_grown_30 : decode cX9_grown 30 = .ok (.istore_n 3, 1) := by decide +kernel
theorem dX9_grown_31 : decode cX9_grown 31 = .ok (.iload_n 3, 1) := by decide +kernel
theorem dX9_grown_32 : decode cX9_grown 32 = .ok (.aload_n 0, 1) := by decide +kernel
theorem dX9_grown_33 : decode cX9_grown 33 = .ok (.getfield 13, 3) := by decide +kernel
theorem dX9_grown_36 : decode cX9_grown 36 = .ok (.iload_n 1, 1) := by decide +kernel
theorem dX9_grown_37 : decode cX9_grown 37 = .ok (.iaload, 1) := by decide +kernel
theorem dX9_grown_38 : decode cX9_grown 38 = .ok (.if_icmp .ge 48, 3) := by decide +kernel
theorem dX9_grown_41 : decode cX9_grown 41 = .ok (.aload_n 0, 1) := by decide +kernel
theorem dX9_grown_42 : decode cX9_grown 42 = .ok (.getfield 95, 3) := by decide +kernel
theorem dX9_grown_45 : decode cX9_grown 45 = .ok (.aload_n 0, 1) := by decide +kernel
theorem dX9_grown_46 : decode cX9_grown 46 = .ok (.getfield 221, 3) := by decide +kernel
theorem dX9_grown_49 : decode cX9_grown 49 = .ok (.iconst (-1), 1) := by decide +kernel
theorem dX9_grown_50 : decode cX9_grown 50 = .ok (.iastore, 1) := by decide +kernel
theorem dX9_grown_51 : decode cX9_grown 51 = .ok (.aload_n 0, 1) := by decide +kernel
theorem dX9_grown_52 : decode cX9_grown 52 = .ok (.getfield 89, 3) := by decide +kernel
theorem dX9_grown_55 : decode cX9_grown 55 = .ok (.aload_n 0, 1) := by decide +kernel
theorem dX9_grown_56 : decode cX9_grown 56 = .ok (.getfield 92, 3) := by decide +kernel
theorem dX9_grown_59 : decode cX9_grown 59 = .ok (.iload_n 2, 1) := by decide +kernel
theorem dX9_grown_60 : decode cX9_grown 60 = .ok (.iaload, 1) := by decide +kernel
theorem dX9_grown_61 : decode cX9_grown 61 = .ok (.iload_n 3, 1) := by decide +kernel
theorem dX9_grown_62 : decode cX9_grown 62 = .ok (.iadd, 1) := by decide +kernel
theorem dX9_grown_63 : decode cX9_grown 63 = .ok (.iconst (-1), 1) := by decide +kernel
theorem dX9_grown_64 : decode cX9_grown 64 = .ok (.aload_n 0, 1) := by decide +kernel
theorem dX9_grown_65 : decode cX9_grown 65 = .ok (.getfield 221, 3) := by decide +kernel
theorem dX9_grown_68 : decode cX9_grown 68 = .ok (.isub, 1) := by decide +kernel
theorem dX9_grown_69 : decode cX9_grown 69 = .ok (.iastore, 1) := by decide +kernel
theorem dX9_grown_70 : decode cX9_grown 70 = .ok (.aload_n 0, 1) := by decide +kernel
theorem dX9_grown_71 : decode cX9_grown 71 = .ok (.dup, 1) := by decide +kernel
theorem dX9_grown_72 : decode cX9_grown 72 = .ok (.getfield 221, 3) := by decide +kernel
theorem dX9_grown_75 : decode cX9_grown 75 = .ok (.iconst 1, 1) := by decide +kernel
theorem dX9_grown_76 : decode cX9_grown 76 = .ok (.iadd, 1) := by decide +kernel
theorem dX9_grown_77 : decode cX9_grown 77 = .ok (.putfield 221, 3) := by decide +kernel
theorem dX9_grown_80 : decode cX9_grown 80 = .ok (.iinc 3 1, 3) := by decide +kernel
theorem dX9_grown_83 : decode cX9_grown 83 = .ok (.goto (-52), 3) := by decide +kernel
theorem dX9_grown_86 : decode cX9_grown 86 = .ok (.iload_n 2, 1) := by decide +kernel
theorem dX9_grown_87 : decode cX9_grown 87 = .ok (.ireturn, 1) := by decide +kernel
theorem dX9_shift_0 : decode cX9_shift 0 = .ok (.aload_n 0, 1) := by decide +kernel
theorem dX9_shift_1 : decode cX9_shift 1 = .ok (.getfield 157, 3) := by decide +kernel
theorem dX9_shift_4 : decode cX9_shift 4 = .ok (.iload_n 2, 1) := by decide +kernel
theorem dX9_shift_5 : decode cX9_shift 5 = .ok (.isub, 1) := by decide +kernel
theorem dX9_shift_6 : decode cX9_shift 6 = .ok (.iconst 1, 1) := by decide +kernel
theorem dX9_shift_7 : decode cX9_shift 7 = .ok (.iadd, 1) := by decide +kernel
theorem dX9_shift_8 : decode cX9_shift 8 = .ok (.istore 4, 2) := by decide +kernel
theorem dX9_shift_10 : decode cX9_shift 10 = .ok (.iload_n 2, 1) := by decide +kernel
theorem dX9_shift_11 : decode cX9_shift 11 = .ok (.ifCond .ne 40, 3) := by decide +kernel
theorem dX9_shift_14 : decode cX9_shift 14 = .ok (.iload_n 1, 1) := by decide +kernel
theorem dX9_shift_15 : decode cX9_shift 15 = .ok (.iconst 1, 1) := by decide +kernel
theorem dX9_shift_16 : decode cX9_shift 16 = .ok (.iadd, 1) := by decide +kernel
theorem dX9_shift_17 : decode cX9_shift 17 = .ok (.istore 5, 2) := by decide +kernel
theorem dX9_shift_19 : decode cX9_shift 19 = .ok (.iload 5, 2) := by decide +kernel
theorem dX9_shift_21 : decode cX9_shift 21 = .ok (.iload 4, 2) := by decide +kernel
theorem dX9_shift_23 : decode cX9_shift 23 = .ok (.if_icmp .ge 25, 3) := by decide +kernel
theorem dX9_shift_26 : decode cX9_shift 26 = .ok (.aload_n 0, 1) := by decide +kernel
theorem dX9_shift_27 : decode cX9_shift 27 = .ok (.getfield 98, 3) := by decide +kernel
theorem dX9_shift_30 : decode cX9_shift 30 = .ok (.iload 5, 2) := by decide +kernel
theorem dX9_shift_32 : decode cX9_shift 32 = .ok (.iconst 1, 1) := by decide +kernel
theorem dX9_shift_33 : decode cX9_shift 33 = .ok (.isub, 1) := by decide +kernel
theorem dX9_shift_34 : decode cX9_shift 34 = .ok (.aload_n 0, 1) := by decide +kernel
theorem dX9_shift_35 : decode cX9_shift 35 = .ok (.getfield 98, 3) := by decide +kernel
theorem dX9_shift_38 : decode cX9_shift 38 = .ok (.iload 5, 2) := by decide +kernel
theorem dX9_shift_40 : decode cX9_shift 40 = .ok (.iaload, 1) := by decide +kernel
theorem dX9_shift_41 : decode cX9_shift 41 = .ok (.iastore, 1) := by decide +kernel
theorem dX9_shift_42 : decode cX9_shift 42 = .ok (.iinc 5 1, 3) := by decide +kernel
theorem dX9_shift_45 : decode cX9_shift 45 = .ok (.goto (-26), 3) := by decide +kernel
theorem dX9_shift_48 : decode cX9_shift 48 = .ok (.goto 39, 3) := by decide +kernel
theorem dX9_shift_51 : decode cX9_shift 51 = .ok (.iload 4, 2) := by decide +kernel
theorem dX9_shift_53 : decode cX9_shift 53 = .ok (.iconst 1, 1) := by decide +kernel
theorem dX9_shift_54 : decode cX9_shift 54 = .ok (.isub, 1) := by decide +kernel
theorem dX9_shift_55 : decode cX9_shift 55 = .ok (.istore 5, 2) := by decide +kernel
theorem dX9_shift_57 : decode cX9_shift 57 = .ok (.iload 5, 2) := by decide +kernel
theorem dX9_shift_59 : decode cX9_shift 59 = .ok (.iload_n 1, 1) := by decide +kernel
theorem dX9_shift_60 : decode cX9_shift 60 = .ok (.if_icmp .le 27, 3) := by decide +kernel
theorem dX9_shift_63 : decode cX9_shift 63 = .ok (.aload_n 0, 1) := by decide +kernel
theorem dX9_shift_64 : decode cX9_shift 64 = .ok (.getfield 98, 3) := by decide +kernel
theorem dX9_shift_67 : decode cX9_shift 67 = .ok (.iload 5, 2) := by decide +kernel
theorem dX9_shift_69 : decode cX9_shift 69 = .ok (.iload_n 2, 1) := by decide +kernel
theorem dX9_shift_70 : decode cX9_shift 70 = .ok (.iadd, 1) := by decide +kernel
theorem dX9_shift_71 : decode cX9_shift 71 = .ok (.iconst 1, 1) := by decide +kernel
theorem dX9_shift_72 : decode cX9_shift 72 = .ok (.isub, 1) := by decide +kernel
theorem dX9_shift_73 : decode cX9_shift 73 = .ok (.aload_n 0, 1) := by decide +kernel
theorem dX9_shift_74 : decode cX9_shift 74 = .ok (.getfield 98, 3) := by decide +kernel
theorem dX9_shift_77 : decode cX9_shift 77 = .ok (.iload 5, 2) := by decide +kernel
theorem dX9_shift_79 : decode cX9_shift 79 = .ok (.iaload, 1) := by decide +kernel
theorem dX9_shift_80 : decode cX9_shift 80 = .ok (.iastore, 1) := by decide +kernel
theorem dX9_shift_81 : decode cX9_shift 81 = .ok (.iinc 5 (-1), 3) := by decide +kernel
theorem dX9_shift_84 : decode cX9_shift 84 = .ok (.goto (-27), 3) := by decide +kernel
theorem dX9_shift_87 : decode cX9_shift 87 = .ok (.iconst 0, 1) := by decide +kernel
theorem dX9_shift_88 : decode cX9_shift 88 = .ok (.istore 5, 2) := by decide +kernel
theorem dX9_shift_90 : decode cX9_shift 90 = .ok (.iload 5, 2) := by decide +kernel
theorem dX9_shift_92 : decode cX9_shift 92 = .ok (.iload_n 2, 1) := by decide +kernel
theorem dX9_shift_93 : decode cX9_shift 93 = .ok (.if_icmp .ge 22, 3) := by decide +kernel
theorem dX9_shift_96 : decode cX9_shift 96 = .ok (.aload_n 0, 1) := by decide +kernel
theorem dX9_shift_97 : decode cX9_shift 97 = .ok (.getfield 98, 3) := by decide +kernel
theorem dX9_shift_100 : decode cX9_shift 100 = .ok (.iload_n 1, 1) := by decide +kernel
theorem dX9_shift_101 : decode cX9_shift 101 = .ok (.iload 5, 2) := by decide +kernel
theorem dX9_shift_103 : decode cX9_shift 103 = .ok (.iadd, 1) := by decide +kernel
theorem dX9_shift_104 : decode cX9_shift 104 = .ok (.iload_n 3, 1) := by decide +kernel
theorem dX9_shift_105 : decode cX9_shift 105 = .ok (.iload 5, 2) := by decide +kernel
theorem dX9_shift_107 : decode cX9_shift 107 = .ok (.iadd, 1) := by decide +kernel
theorem dX9_shift_108 : decode cX9_shift 108 = .ok (.iastore, 1) := by decide +kernel
theorem dX9_shift_109 : decode cX9_shift 109 = .ok (.iinc 5 1, 3) := by decide +kernel
theorem dX9_shift_112 : decode cX9_shift 112 = .ok (.goto (-22), 3) := by decide +kernel
theorem dX9_shift_115 : decode cX9_shift 115 = .ok (.return_, 1) := by decide +kernel
theorem dX9_shiftBack_0 : decode cX9_shiftBack 0 = .ok (.iload_n 2, 1) := by decide +kernel
theorem dX9_shiftBack_1 : decode cX9_shiftBack 1 = .ok (.ifCond .ne 42, 3) := by decide +kernel
theorem dX9_shiftBack_4 : decode cX9_shiftBack 4 = .ok (.aload_n 0, 1) := by decide +kernel
theorem dX9_shiftBack_5 : decode cX9_shiftBack 5 = .ok (.getfield 157, 3) := by decide +kernel
theorem dX9_shiftBack_8 : decode cX9_shiftBack 8 = .ok (.iconst 1, 1) := by decide +kernel
theorem dX9_shiftBack_9 : decode cX9_shiftBack 9 = .ok (.isub, 1) := by decide +kernel
theorem dX9_shiftBack_10 : decode cX9_shiftBack 10 = .ok (.istore 4, 2) := by decide +kernel
theorem dX9_shiftBack_12 : decode cX9_shiftBack 12 = .ok (.iload 4, 2) := by decide +kernel
theorem dX9_shiftBack_14 : decode cX9_shiftBack 14 = .ok (.iload_n 1, 1) := by decide +kernel
theorem dX9_shiftBack_15 : decode cX9_shiftBack 15 = .ok (.if_icmp .le 25, 3) := by decide +kernel
theorem dX9_shiftBack_18 : decode cX9_shiftBack 18 = .ok (.aload_n 0, 1) := by decide +kernel
theorem dX9_shiftBack_19 : decode cX9_shiftBack 19 = .ok (.getfield 98, 3) := by decide +kernel
theorem dX9_shiftBack_22 : decode cX9_shiftBack 22 = .ok (.iload 4, 2) := by decide +kernel
theorem dX9_shiftBack_24 : decode cX9_shiftBack 24 = .ok (.aload_n 0, 1) := by decide +kernel
theorem dX9_shiftBack_25 : decode cX9_shiftBack 25 = .ok (.getfield 98, 3) := by decide +kernel
theorem dX9_shiftBack_28 : decode cX9_shiftBack 28 = .ok (.iload 4, 2) := by decide +kernel
theorem dX9_shiftBack_30 : decode cX9_shiftBack 30 = .ok (.iconst 1, 1) := by decide +kernel
theorem dX9_shiftBack_31 : decode cX9_shiftBack 31 = .ok (.isub, 1) := by decide +kernel
theorem dX9_shiftBack_32 : decode cX9_shiftBack 32 = .ok (.iaload, 1) := by decide +kernel
theorem dX9_shiftBack_33 : decode cX9_shiftBack 33 = .ok (.iastore, 1) := by decide +kernel
theorem dX9_shiftBack_34 : decode cX9_shiftBack 34 = .ok (.iinc 4 (-1), 3) := by decide +kernel
theorem dX9_shiftBack_37 : decode cX9_shiftBack 37 = .ok (.goto (-25), 3) := by decide +kernel
theorem dX9_shiftBack_40 : decode cX9_shiftBack 40 = .ok (.goto 41, 3) := by decide +kernel
theorem dX9_shiftBack_43 : decode cX9_shiftBack 43 = .ok (.iload_n 1, 1) := by decide +kernel
theorem dX9_shiftBack_44 : decode cX9_shiftBack 44 = .ok (.iconst 1, 1) := by decide +kernel
theorem dX9_shiftBack_45 : decode cX9_shiftBack 45 = .ok (.iadd, 1) := by decide +kernel
theorem dX9_shiftBack_46 : decode cX9_shiftBack 46 = .ok (.istore 4, 2) := by decide +kernel
theorem dX9_shiftBack_48 : decode cX9_shiftBack 48 = .ok (.iload 4, 2) := by decide +kernel
theorem dX9_shiftBack_50 : decode cX9_shiftBack 50 = .ok (.aload_n 0, 1) := by decide +kernel
theorem dX9_shiftBack_51 : decode cX9_shiftBack 51 = .ok (.getfield 157, 3) := by decide +kernel
theorem dX9_shiftBack_54 : decode cX9_shiftBack 54 = .ok (.if_icmp .ge 27, 3) := by decide +kernel
theorem dX9_shiftBack_57 : decode cX9_shiftBack 57 = .ok (.aload_n 0, 1) := by decide +kernel
theorem dX9_shiftBack_58 : decode cX9_shiftBack 58 = .ok (.getfield 98, 3) := by decide +kernel
theorem dX9_shiftBack_61 : decode cX9_shiftBack 61 = .ok (.iload 4, 2) := by decide +kernel
theorem dX9_shiftBack_63 : decode cX9_shiftBack 63 = .ok (.aload_n 0, 1) := by decide +kernel
theorem dX9_shiftBack_64 : decode cX9_shiftBack 64 = .ok (.getfield 98, 3) := by decide +kernel
theorem dX9_shiftBack_67 : decode cX9_shiftBack 67 = .ok (.iload 4, 2) := by decide +kernel
theorem dX9_shiftBack_69 : decode cX9_shiftBack 69 = .ok (.iload_n 2, 1) := by decide +kernel
theorem dX9_shiftBack_70 : decode cX9_shiftBack 70 = .ok (.iadd, 1) := by decide +kernel
theorem dX9_shiftBack_71 : decode cX9_shiftBack 71 = .ok (.iconst 1, 1) := by decide +kernel
theorem dX9_shiftBack_72 : decode cX9_shiftBack 72 = .ok (.isub, 1) := by decide +kernel
end
section
theorem dX9_shiftBack_73 : decode cX9_shiftBack 73 = .ok (.iaload, 1) := by decide +kernel
theorem dX9_shiftBack_74 : decode cX9_shiftBack 74 = .ok (.iastore, 1) := by decide +kernel
theorem dX9_shiftBack_75 : decode cX9_shiftBack 75 = .ok (.iinc 4 1, 3) := by decide +kernel
theorem dX9_shiftBack_78 : decode cX9_shiftBack 78 = .ok (.goto (-30), 3) := by decide +kernel
theorem dX9_shiftBack_81 : decode cX9_shiftBack 81 = .ok (.aload_n 0, 1) := by decide +kernel
theorem dX9_shiftBack_82 : decode cX9_shiftBack 82 = .ok (.getfield 98, 3) := by decide +kernel
theorem dX9_shiftBack_85 : decode cX9_shiftBack 85 = .ok (.iload_n 1, 1) := by decide +kernel
theorem dX9_shiftBack_86 : decode cX9_shiftBack 86 = .ok (.iload_n 3, 1) := by decide +kernel
theorem dX9_shiftBack_87 : decode cX9_shiftBack 87 = .ok (.iastore, 1) := by decide +kernel
theorem dX9_shiftBack_88 : decode cX9_shiftBack 88 = .ok (.return_, 1) := by decide +kernel
theorem dX9_comes_0 : decode cX9_comes 0 = .ok (.aload_n 0, 1) := by decide +kernel
theorem dX9_comes_1 : decode cX9_comes 1 = .ok (.dup, 1) := by decide +kernel
theorem dX9_comes_2 : decode cX9_comes 2 = .ok (.getfield 238, 3) := by decide +kernel
theorem dX9_comes_5 : decode cX9_comes 5 = .ok (.iconst 1, 1) := by decide +kernel
theorem dX9_comes_6 : decode cX9_comes 6 = .ok (.iadd, 1) := by decide +kernel
theorem dX9_comes_7 : decode cX9_comes 7 = .ok (.putfield 238, 3) := by decide +kernel
theorem dX9_comes_10 : decode cX9_comes 10 = .ok (.aload_n 0, 1) := by decide +kernel
theorem dX9_comes_11 : decode cX9_comes 11 = .ok (.getfield 101, 3) := by decide +kernel
theorem dX9_comes_14 : decode cX9_comes 14 = .ok (.iconst (-1), 1) := by decide +kernel
theorem dX9_comes_15 : decode cX9_comes 15 = .ok (.if_icmp .eq 17, 3) := by decide +kernel
theorem dX9_comes_18 : decode cX9_comes 18 = .ok (.aload_n 0, 1) := by decide +kernel
theorem dX9_comes_19 : decode cX9_comes 19 = .ok (.getfield 238, 3) := by decide +kernel
theorem dX9_comes_22 : decode cX9_comes 22 = .ok (.iconst 1, 1) := by decide +kernel
theorem dX9_comes_23 : decode cX9_comes 23 = .ok (.isub, 1) := by decide +kernel
theorem dX9_comes_24 : decode cX9_comes 24 = .ok (.aload_n 0, 1) := by decide +kernel
theorem dX9_comes_25 : decode cX9_comes 25 = .ok (.getfield 101, 3) := by decide +kernel
theorem dX9_comes_28 : decode cX9_comes 28 = .ok (.if_icmp .eq 4, 3) := by decide +kernel
theorem dX9_comes_31 : decode cX9_comes 31 = .ok (.return_, 1) := by decide +kernel
theorem dX9_comes_32 : decode cX9_comes 32 = .ok (.aload_n 0, 1) := by decide +kernel
theorem dX9_comes_33 : decode cX9_comes 33 = .ok (.iload_n 1, 1) := by decide +kernel
theorem dX9_comes_34 : decode cX9_comes 34 = .ok (.putfield 266, 3) := by decide +kernel
theorem dX9_comes_37 : decode cX9_comes 37 = .ok (.aload_n 0, 1) := by decide +kernel
theorem dX9_comes_38 : decode cX9_comes 38 = .ok (.aload_n 0, 1) := by decide +kernel
theorem dX9_comes_39 : decode cX9_comes 39 = .ok (.getfield 241, 3) := by decide +kernel
theorem dX9_comes_42 : decode cX9_comes 42 = .ok (.putfield 269, 3) := by decide +kernel
theorem dX9_comes_45 : decode cX9_comes 45 = .ok (.aload_n 0, 1) := by decide +kernel
theorem dX9_comes_46 : decode cX9_comes 46 = .ok (.aload_n 0, 1) := by decide +kernel
theorem dX9_comes_47 : decode cX9_comes 47 = .ok (.getfield 244, 3) := by decide +kernel
theorem dX9_comes_50 : decode cX9_comes 50 = .ok (.putfield 272, 3) := by decide +kernel
theorem dX9_comes_53 : decode cX9_comes 53 = .ok (.aload_n 0, 1) := by decide +kernel
theorem dX9_comes_54 : decode cX9_comes 54 = .ok (.iconst 0, 1) := by decide +kernel
theorem dX9_comes_55 : decode cX9_comes 55 = .ok (.putfield 275, 3) := by decide +kernel
theorem dX9_comes_58 : decode cX9_comes 58 = .ok (.iconst 0, 1) := by decide +kernel
theorem dX9_comes_59 : decode cX9_comes 59 = .ok (.istore_n 2, 1) := by decide +kernel
theorem dX9_comes_60 : decode cX9_comes 60 = .ok (.iload_n 2, 1) := by decide +kernel
theorem dX9_comes_61 : decode cX9_comes 61 = .ok (.aload_n 0, 1) := by decide +kernel
theorem dX9_comes_62 : decode cX9_comes 62 = .ok (.getfield 221, 3) := by decide +kernel
theorem dX9_comes_65 : decode cX9_comes 65 = .ok (.if_icmp .ge 16, 3) := by decide +kernel
theorem dX9_comes_68 : decode cX9_comes 68 = .ok (.aload_n 0, 1) := by decide +kernel
theorem dX9_comes_69 : decode cX9_comes 69 = .ok (.getfield 107, 3) := by decide +kernel
theorem dX9_comes_72 : decode cX9_comes 72 = .ok (.iload_n 2, 1) := by decide +kernel
theorem dX9_comes_73 : decode cX9_comes 73 = .ok (.iconst 0, 1) := by decide +kernel
theorem dX9_comes_74 : decode cX9_comes 74 = .ok (.iastore, 1) := by decide +kernel
theorem dX9_comes_75 : decode cX9_comes 75 = .ok (.iinc 2 1, 3) := by decide +kernel
theorem dX9_comes_78 : decode cX9_comes 78 = .ok (.goto (-18), 3) := by decide +kernel
theorem dX9_comes_81 : decode cX9_comes 81 = .ok (.iconst 0, 1) := by decide +kernel
theorem dX9_comes_82 : decode cX9_comes 82 = .ok (.istore_n 2, 1) := by decide +kernel
theorem dX9_comes_83 : decode cX9_comes 83 = .ok (.iconst 0, 1) := by decide +kernel
theorem dX9_comes_84 : decode cX9_comes 84 = .ok (.istore_n 3, 1) := by decide +kernel
theorem dX9_comes_85 : decode cX9_comes 85 = .ok (.aload_n 0, 1) := by decide +kernel
theorem dX9_comes_86 : decode cX9_comes 86 = .ok (.getfield 19, 3) := by decide +kernel
theorem dX9_comes_89 : decode cX9_comes 89 = .ok (.iconst 1, 1) := by decide +kernel
theorem dX9_comes_90 : decode cX9_comes 90 = .ok (.isub, 1) := by decide +kernel
theorem dX9_comes_91 : decode cX9_comes 91 = .ok (.istore 4, 2) := by decide +kernel
theorem dX9_comes_93 : decode cX9_comes 93 = .ok (.iload 4, 2) := by decide +kernel
theorem dX9_comes_95 : decode cX9_comes 95 = .ok (.ifCond .lt 20, 3) := by decide +kernel
theorem dX9_comes_98 : decode cX9_comes 98 = .ok (.aload_n 0, 1) := by decide +kernel
theorem dX9_comes_99 : decode cX9_comes 99 = .ok (.getfield 110, 3) := by decide +kernel
theorem dX9_comes_102 : decode cX9_comes 102 = .ok (.iload_n 3, 1) := by decide +kernel
theorem dX9_comes_103 : decode cX9_comes 103 = .ok (.iload 4, 2) := by decide +kernel
theorem dX9_comes_105 : decode cX9_comes 105 = .ok (.iastore, 1) := by decide +kernel
theorem dX9_comes_106 : decode cX9_comes 106 = .ok (.iinc 3 1, 3) := by decide +kernel
theorem dX9_comes_109 : decode cX9_comes 109 = .ok (.iinc 4 (-1), 3) := by decide +kernel
theorem dX9_comes_112 : decode cX9_comes 112 = .ok (.goto (-19), 3) := by decide +kernel
theorem dX9_comes_115 : decode cX9_comes 115 = .ok (.iload_n 3, 1) := by decide +kernel
theorem dX9_comes_116 : decode cX9_comes 116 = .ok (.ifCond .le 160, 3) := by decide +kernel
theorem dX9_comes_119 : decode cX9_comes 119 = .ok (.aload_n 0, 1) := by decide +kernel
theorem dX9_comes_120 : decode cX9_comes 120 = .ok (.getfield 275, 3) := by decide +kernel
theorem dX9_comes_123 : decode cX9_comes 123 = .ok (.sipush 400, 3) := by decide +kernel
theorem dX9_comes_126 : decode cX9_comes 126 = .ok (.if_icmp .ne 9, 3) := by decide +kernel
theorem dX9_comes_129 : decode cX9_comes 129 = .ok (.aload_n 0, 1) := by decide +kernel
theorem dX9_comes_130 : decode cX9_comes 130 = .ok (.iconst 1, 1) := by decide +kernel
theorem dX9_comes_131 : decode cX9_comes 131 = .ok (.putfield 235, 3) := by decide +kernel
theorem dX9_comes_134 : decode cX9_comes 134 = .ok (.return_, 1) := by decide +kernel
theorem dX9_comes_135 : decode cX9_comes 135 = .ok (.iinc 3 (-1), 3) := by decide +kernel
theorem dX9_comes_138 : decode cX9_comes 138 = .ok (.aload_n 0, 1) := by decide +kernel
theorem dX9_comes_139 : decode cX9_comes 139 = .ok (.aload_n 0, 1) := by decide +kernel
theorem dX9_comes_140 : decode cX9_comes 140 = .ok (.getfield 110, 3) := by decide +kernel
theorem dX9_comes_143 : decode cX9_comes 143 = .ok (.iload_n 3, 1) := by decide +kernel
theorem dX9_comes_144 : decode cX9_comes 144 = .ok (.iaload, 1) := by decide +kernel
theorem dX9_comes_145 : decode cX9_comes 145 = .ok (.invokevirtual 254, 3) := by decide +kernel
theorem dX9_comes_148 : decode cX9_comes 148 = .ok (.istore 4, 2) := by decide +kernel
theorem dX9_comes_150 : decode cX9_comes 150 = .ok (.aload_n 0, 1) := by decide +kernel
theorem dX9_comes_151 : decode cX9_comes 151 = .ok (.getfield 89, 3) := by decide +kernel
theorem dX9_comes_154 : decode cX9_comes 154 = .ok (.iload 4, 2) := by decide +kernel
theorem dX9_comes_156 : decode cX9_comes 156 = .ok (.iaload, 1) := by decide +kernel
theorem dX9_comes_157 : decode cX9_comes 157 = .ok (.istore 5, 2) := by decide +kernel
theorem dX9_comes_159 : decode cX9_comes 159 = .ok (.iload 5, 2) := by decide +kernel
theorem dX9_comes_161 : decode cX9_comes 161 = .ok (.ifCond .ge 50, 3) := by decide +kernel
theorem dX9_comes_164 : decode cX9_comes 164 = .ok (.aload_n 0, 1) := by decide +kernel
theorem dX9_comes_165 : decode cX9_comes 165 = .ok (.getfield 107, 3) := by decide +kernel
theorem dX9_comes_168 : decode cX9_comes 168 = .ok (.iconst (-1), 1) := by decide +kernel
theorem dX9_comes_169 : decode cX9_comes 169 = .ok (.iload 5, 2) := by decide +kernel
theorem dX9_comes_171 : decode cX9_comes 171 = .ok (.isub, 1) := by decide +kernel
theorem dX9_comes_172 : decode cX9_comes 172 = .ok (.iaload, 1) := by decide +kernel
theorem dX9_comes_173 : decode cX9_comes 173 = .ok (.ifCond .ne 16, 3) := by decide +kernel
theorem dX9_comes_176 : decode cX9_comes 176 = .ok (.iinc 2 1, 3) := by decide +kernel
theorem dX9_comes_179 : decode cX9_comes 179 = .ok (.aload_n 0, 1) := by decide +kernel
theorem dX9_comes_180 : decode cX9_comes 180 = .ok (.getfield 107, 3) := by decide +kernel
theorem dX9_comes_183 : decode cX9_comes 183 = .ok (.iconst (-1), 1) := by decide +kernel
theorem dX9_comes_184 : decode cX9_comes 184 = .ok (.iload 5, 2) := by decide +kernel
theorem dX9_comes_186 : decode cX9_comes 186 = .ok (.isub, 1) := by decide +kernel
theorem dX9_comes_187 : decode cX9_comes 187 = .ok (.iload_n 2, 1) := by decide +kernel
theorem dX9_comes_188 : decode cX9_comes 188 = .ok (.iastore, 1) := by decide +kernel
theorem dX9_comes_189 : decode cX9_comes 189 = .ok (.aload_n 0, 1) := by decide +kernel
theorem dX9_comes_190 : decode cX9_comes 190 = .ok (.getfield 104, 3) := by decide +kernel
theorem dX9_comes_193 : decode cX9_comes 193 = .ok (.aload_n 0, 1) := by decide +kernel
theorem dX9_comes_194 : decode cX9_comes 194 = .ok (.getfield 275, 3) := by decide +kernel
theorem dX9_comes_197 : decode cX9_comes 197 = .ok (.aload_n 0, 1) := by decide +kernel
theorem dX9_comes_198 : decode cX9_comes 198 = .ok (.getfield 107, 3) := by decide +kernel
theorem dX9_comes_201 : decode cX9_comes 201 = .ok (.iconst (-1), 1) := by decide +kernel
theorem dX9_comes_202 : decode cX9_comes 202 = .ok (.iload 5, 2) := by decide +kernel
theorem dX9_comes_204 : decode cX9_comes 204 = .ok (.isub, 1) := by decide +kernel
theorem dX9_comes_205 : decode cX9_comes 205 = .ok (.iaload, 1) := by decide +kernel
theorem dX9_comes_206 : decode cX9_comes 206 = .ok (.ineg, 1) := by decide +kernel
theorem dX9_comes_207 : decode cX9_comes 207 = .ok (.iastore, 1) := by decide +kernel
theorem dX9_comes_208 : decode cX9_comes 208 = .ok (.goto 55, 3) := by decide +kernel
theorem dX9_comes_211 : decode cX9_comes 211 = .ok (.aload_n 0, 1) := by decide +kernel
theorem dX9_comes_212 : decode cX9_comes 212 = .ok (.getfield 104, 3) := by decide +kernel
theorem dX9_comes_215 : decode cX9_comes 215 = .ok (.aload_n 0, 1) := by decide +kernel
theorem dX9_comes_216 : decode cX9_comes 216 = .ok (.getfield 275, 3) := by decide +kernel
theorem dX9_comes_219 : decode cX9_comes 219 = .ok (.iload 5, 2) := by decide +kernel
theorem dX9_comes_221 : decode cX9_comes 221 = .ok (.iastore, 1) := by decide +kernel
theorem dX9_comes_222 : decode cX9_comes 222 = .ok (.aload_n 0, 1) := by decide +kernel
theorem dX9_comes_223 : decode cX9_comes 223 = .ok (.getfield 13, 3) := by decide +kernel
theorem dX9_comes_226 : decode cX9_comes 226 = .ok (.iload 5, 2) := by decide +kernel
theorem dX9_comes_228 : decode cX9_comes 228 = .ok (.iaload, 1) := by decide +kernel
theorem dX9_comes_229 : decode cX9_comes 229 = .ok (.iconst 1, 1) := by decide +kernel
theorem dX9_comes_230 : decode cX9_comes 230 = .ok (.isub, 1) := by decide +kernel
theorem dX9_comes_231 : decode cX9_comes 231 = .ok (.istore 6, 2) := by decide +kernel
theorem dX9_comes_233 : decode cX9_comes 233 = .ok (.iload 6, 2) := by decide +kernel
theorem dX9_comes_235 : decode cX9_comes 235 = .ok (.ifCond .lt 28, 3) := by decide +kernel
theorem dX9_comes_238 : decode cX9_comes 238 = .ok (.aload_n 0, 1) := by decide +kernel
theorem dX9_comes_239 : decode cX9_comes 239 = .ok (.getfield 110, 3) := by decide +kernel
theorem dX9_comes_242 : decode cX9_comes 242 = .ok (.iload_n 3, 1) := by decide +kernel
theorem dX9_comes_243 : decode cX9_comes 243 = .ok (.aload_n 0, 1) := by decide +kernel
theorem dX9_comes_244 : decode cX9_comes 244 = .ok (.getfield 92, 3) := by decide +kernel
theorem dX9_comes_247 : decode cX9_comes 247 = .ok (.iload 4, 2) := by decide +kernel
theorem dX9_comes_249 : decode cX9_comes 249 = .ok (.iaload, 1) := by decide +kernel
theorem dX9_comes_250 : decode cX9_comes 250 = .ok (.iload 6, 2) := by decide +kernel
theorem dX9_comes_252 : decode cX9_comes 252 = .ok (.iadd, 1) := by decide +kernel
theorem dX9_comes_253 : decode cX9_comes 253 = .ok (.iastore, 1) := by decide +kernel
theorem dX9_comes_254 : decode cX9_comes 254 = .ok (.iinc 3 1, 3) := by decide +kernel
theorem dX9_comes_257 : decode cX9_comes 257 = .ok (.iinc 6 (-1), 3) := by decide +kernel
theorem dX9_comes_260 : decode cX9_comes 260 = .ok (.goto (-27), 3) := by decide +kernel
theorem dX9_comes_263 : decode cX9_comes 263 = .ok (.aload_n 0, 1) := by decide +kernel
theorem dX9_comes_264 : decode cX9_comes 264 = .ok (.dup, 1) := by decide +kernel
theorem dX9_comes_265 : decode cX9_comes 265 = .ok (.getfield 275, 3) := by decide +kernel
theorem dX9_comes_268 : decode cX9_comes 268 = .ok (.iconst 1, 1) := by decide +kernel
theorem dX9_comes_269 : decode cX9_comes 269 = .ok (.iadd, 1) := by decide +kernel
theorem dX9_comes_270 : decode cX9_comes 270 = .ok (.putfield 275, 3) := by decide +kernel
theorem dX9_comes_273 : decode cX9_comes 273 = .ok (.goto (-158), 3) := by decide +kernel
theorem dX9_comes_276 : decode cX9_comes 276 = .ok (.return_, 1) := by decide +kernel
theorem dX9_outcome_0 : decode cX9_outcome 0 = .ok (.iload_n 1, 1) := by decide +kernel
theorem dX9_outcome_1 : decode cX9_outcome 1 = .ok (.ifCond .lt 15, 3) := by decide +kernel
theorem dX9_outcome_4 : decode cX9_outcome 4 = .ok (.iload_n 1, 1) := by decide +kernel
theorem dX9_outcome_5 : decode cX9_outcome 5 = .ok (.aload_n 0, 1) := by decide +kernel
theorem dX9_outcome_6 : decode cX9_outcome 6 = .ok (.getfield 127, 3) := by decide +kernel
theorem dX9_outcome_9 : decode cX9_outcome 9 = .ok (.if_icmp .ge 7, 3) := by decide +kernel
theorem dX9_outcome_12 : decode cX9_outcome 12 = .ok (.iload_n 2, 1) := by decide +kernel
theorem dX9_outcome_13 : decode cX9_outcome 13 = .ok (.ifCond .ge 6, 3) := by decide +kernel
theorem dX9_outcome_16 : decode cX9_outcome 16 = .ok (.bipush (-9), 2) := by decide +kernel
theorem dX9_outcome_18 : decode cX9_outcome 18 = .ok (.ireturn, 1) := by decide +kernel
theorem dX9_outcome_19 : decode cX9_outcome 19 = .ok (.aload_n 0, 1) := by decide +kernel
theorem dX9_outcome_20 : decode cX9_outcome 20 = .ok (.getfield 101, 3) := by decide +kernel
theorem dX9_outcome_23 : decode cX9_outcome 23 = .ok (.iload_n 1, 1) := by decide +kernel
theorem dX9_outcome_24 : decode cX9_outcome 24 = .ok (.if_icmp .eq 8, 3) := by decide +kernel
theorem dX9_outcome_27 : decode cX9_outcome 27 = .ok (.aload_n 0, 1) := by decide +kernel
theorem dX9_outcome_28 : decode cX9_outcome 28 = .ok (.iload_n 1, 1) := by decide +kernel
theorem dX9_outcome_29 : decode cX9_outcome 29 = .ok (.invokevirtual 231, 3) := by decide +kernel
theorem dX9_outcome_32 : decode cX9_outcome 32 = .ok (.iload_n 2, 1) := by decide +kernel
theorem dX9_outcome_33 : decode cX9_outcome 33 = .ok (.ifCond .ne 8, 3) := by decide +kernel
theorem dX9_outcome_36 : decode cX9_outcome 36 = .ok (.aload_n 0, 1) := by decide +kernel
theorem dX9_outcome_37 : decode cX9_outcome 37 = .ok (.getfield 266, 3) := by decide +kernel
theorem dX9_outcome_40 : decode cX9_outcome 40 = .ok (.ireturn, 1) := by decide +kernel
theorem dX9_outcome_41 : decode cX9_outcome 41 = .ok (.iload_n 2, 1) := by decide +kernel
theorem dX9_outcome_42 : decode cX9_outcome 42 = .ok (.iconst 1, 1) := by decide +kernel
theorem dX9_outcome_43 : decode cX9_outcome 43 = .ok (.if_icmp .ne 8, 3) := by decide +kernel
theorem dX9_outcome_46 : decode cX9_outcome 46 = .ok (.aload_n 0, 1) := by decide +kernel
theorem dX9_outcome_47 : decode cX9_outcome 47 = .ok (.getfield 269, 3) := by decide +kernel
theorem dX9_outcome_50 : decode cX9_outcome 50 = .ok (.ireturn, 1) := by decide +kernel
theorem dX9_outcome_51 : decode cX9_outcome 51 = .ok (.iload_n 2, 1) := by decide +kernel
theorem dX9_outcome_52 : decode cX9_outcome 52 = .ok (.iconst 2, 1) := by decide +kernel
theorem dX9_outcome_53 : decode cX9_outcome 53 = .ok (.if_icmp .ne 8, 3) := by decide +kernel
theorem dX9_outcome_56 : decode cX9_outcome 56 = .ok (.aload_n 0, 1) := by decide +kernel
theorem dX9_outcome_57 : decode cX9_outcome 57 = .ok (.getfield 272, 3) := by decide +kernel
theorem dX9_outcome_60 : decode cX9_outcome 60 = .ok (.ireturn, 1) := by decide +kernel
theorem dX9_outcome_61 : decode cX9_outcome 61 = .ok (.iload_n 2, 1) := by decide +kernel
theorem dX9_outcome_62 : decode cX9_outcome 62 = .ok (.iconst 3, 1) := by decide +kernel
theorem dX9_outcome_63 : decode cX9_outcome 63 = .ok (.if_icmp .ne 8, 3) := by decide +kernel
theorem dX9_outcome_66 : decode cX9_outcome 66 = .ok (.aload_n 0, 1) := by decide +kernel
theorem dX9_outcome_67 : decode cX9_outcome 67 = .ok (.getfield 275, 3) := by decide +kernel
theorem dX9_outcome_70 : decode cX9_outcome 70 = .ok (.ireturn, 1) := by decide +kernel
theorem dX9_outcome_71 : decode cX9_outcome 71 = .ok (.iload_n 2, 1) := by decide +kernel
theorem dX9_outcome_72 : decode cX9_outcome 72 = .ok (.iconst 4, 1) := by decide +kernel
theorem dX9_outcome_73 : decode cX9_outcome 73 = .ok (.isub, 1) := by decide +kernel
theorem dX9_outcome_74 : decode cX9_outcome 74 = .ok (.aload_n 0, 1) := by decide +kernel
theorem dX9_outcome_75 : decode cX9_outcome 75 = .ok (.getfield 275, 3) := by decide +kernel
theorem dX9_outcome_78 : decode cX9_outcome 78 = .ok (.if_icmp .ge 14, 3) := by decide +kernel
theorem dX9_outcome_81 : decode cX9_outcome 81 = .ok (.aload_n 0, 1) := by decide +kernel
theorem dX9_outcome_82 : decode cX9_outcome 82 = .ok (.getfield 104, 3) := by decide +kernel
theorem dX9_outcome_85 : decode cX9_outcome 85 = .ok (.iload_n 2, 1) := by decide +kernel
theorem dX9_outcome_86 : decode cX9_outcome 86 = .ok (.iconst 4, 1) := by decide +kernel
theorem dX9_outcome_87 : decode cX9_outcome 87 = .ok (.isub, 1) := by decide +kernel
theorem dX9_outcome_88 : decode cX9_outcome 88 = .ok (.iaload, 1) := by decide +kernel
theorem dX9_outcome_89 : decode cX9_outcome 89 = .ok (.goto 5, 3) := by decide +kernel
theorem dX9_outcome_92 : decode cX9_outcome 92 = .ok (.bipush (-9), 2) := by decide +kernel
theorem dX9_outcome_94 : decode cX9_outcome 94 = .ok (.ireturn, 1) := by decide +kernel
theorem dX9_size_0 : decode cX9_size 0 = .ok (.aload_n 0, 1) := by decide +kernel
theorem dX9_size_1 : decode cX9_size 1 = .ok (.getfield 169, 3) := by decide +kernel
theorem dX9_size_4 : decode cX9_size 4 = .ok (.ireturn, 1) := by decide +kernel
theorem dX9_places_0 : decode cX9_places 0 = .ok (.iconst 0, 1) := by decide +kernel
theorem dX9_places_1 : decode cX9_places 1 = .ok (.istore_n 3, 1) := by decide +kernel
theorem dX9_places_2 : decode cX9_places 2 = .ok (.iload_n 2, 1) := by decide +kernel
theorem dX9_places_3 : decode cX9_places 3 = .ok (.istore 4, 2) := by decide +kernel
theorem dX9_places_5 : decode cX9_places 5 = .ok (.iload 4, 2) := by decide +kernel
theorem dX9_places_7 : decode cX9_places 7 = .ok (.ifCond .lt 24, 3) := by decide +kernel
theorem dX9_places_10 : decode cX9_places 10 = .ok (.iinc 3 1, 3) := by decide +kernel
theorem dX9_places_13 : decode cX9_places 13 = .ok (.aload_n 0, 1) := by decide +kernel
theorem dX9_places_14 : decode cX9_places 14 = .ok (.getfield 29, 3) := by decide +kernel
theorem dX9_places_17 : decode cX9_places 17 = .ok (.sipush 160, 3) := by decide +kernel
theorem dX9_places_20 : decode cX9_places 20 = .ok (.iload_n 1, 1) := by decide +kernel
theorem dX9_places_21 : decode cX9_places 21 = .ok (.imul, 1) := by decide +kernel
theorem dX9_places_22 : decode cX9_places 22 = .ok (.iload 4, 2) := by decide +kernel
theorem dX9_places_24 : decode cX9_places 24 = .ok (.iadd, 1) := by decide +kernel
theorem dX9_places_25 : decode cX9_places 25 = .ok (.iaload, 1) := by decide +kernel
theorem dX9_places_26 : decode cX9_places 26 = .ok (.istore 4, 2) := by decide +kernel
theorem dX9_places_28 : decode cX9_places 28 = .ok (.goto (-23), 3) := by decide +kernel
theorem dX9_places_31 : decode cX9_places 31 = .ok (.iload_n 3, 1) := by decide +kernel
theorem dX9_places_32 : decode cX9_places 32 = .ok (.ireturn, 1) := by decide +kernel
theorem dX9_node__0 : decode cX9_node_ 0 = .ok (.iload_n 1, 1) := by decide +kernel
theorem dX9_node__1 : decode cX9_node_ 1 = .ok (.ifCond .lt 15, 3) := by decide +kernel
theorem dX9_node__4 : decode cX9_node_ 4 = .ok (.iload_n 1, 1) := by decide +kernel
theorem dX9_node__5 : decode cX9_node_ 5 = .ok (.aload_n 0, 1) := by decide +kernel
theorem dX9_node__6 : decode cX9_node_ 6 = .ok (.getfield 169, 3) := by decide +kernel
theorem dX9_node__9 : decode cX9_node_ 9 = .ok (.if_icmp .ge 7, 3) := by decide +kernel
theorem dX9_node__12 : decode cX9_node_ 12 = .ok (.iload_n 2, 1) := by decide +kernel
theorem dX9_node__13 : decode cX9_node_ 13 = .ok (.ifCond .ge 6, 3) := by decide +kernel
theorem dX9_node__16 : decode cX9_node_ 16 = .ok (.bipush (-9), 2) := by decide +kernel
theorem dX9_node__18 : decode cX9_node_ 18 = .ok (.ireturn, 1) := by decide +kernel
theorem dX9_node__19 : decode cX9_node_ 19 = .ok (.aload_n 0, 1) := by decide +kernel
theorem dX9_node__20 : decode cX9_node_ 20 = .ok (.getfield 68, 3) := by decide +kernel
theorem dX9_node__23 : decode cX9_node_ 23 = .ok (.iload_n 1, 1) := by decide +kernel
theorem dX9_node__24 : decode cX9_node_ 24 = .ok (.iaload, 1) := by decide +kernel
theorem dX9_node__25 : decode cX9_node_ 25 = .ok (.iconst 1, 1) := by decide +kernel
theorem dX9_node__26 : decode cX9_node_ 26 = .ok (.if_icmp .ne 22, 3) := by decide +kernel
theorem dX9_node__29 : decode cX9_node_ 29 = .ok (.aload_n 0, 1) := by decide +kernel
theorem dX9_node__30 : decode cX9_node_ 30 = .ok (.aload_n 0, 1) := by decide +kernel
theorem dX9_node__31 : decode cX9_node_ 31 = .ok (.getfield 74, 3) := by decide +kernel
theorem dX9_node__34 : decode cX9_node_ 34 = .ok (.iload_n 1, 1) := by decide +kernel
theorem dX9_node__35 : decode cX9_node_ 35 = .ok (.iaload, 1) := by decide +kernel
theorem dX9_node__36 : decode cX9_node_ 36 = .ok (.aload_n 0, 1) := by decide +kernel
theorem dX9_node__37 : decode cX9_node_ 37 = .ok (.getfield 77, 3) := by decide +kernel
theorem dX9_node__40 : decode cX9_node_ 40 = .ok (.iload_n 1, 1) := by decide +kernel
theorem dX9_node__41 : decode cX9_node_ 41 = .ok (.iaload, 1) := by decide +kernel
theorem dX9_node__42 : decode cX9_node_ 42 = .ok (.invokevirtual 278, 3) := by decide +kernel
theorem dX9_node__45 : decode cX9_node_ 45 = .ok (.goto 4, 3) := by decide +kernel
theorem dX9_node__48 : decode cX9_node_ 48 = .ok (.iconst 0, 1) := by decide +kernel
theorem dX9_node__49 : decode cX9_node_ 49 = .ok (.istore_n 3, 1) := by decide +kernel
theorem dX9_node__50 : decode cX9_node_ 50 = .ok (.iload_n 2, 1) := by decide +kernel
theorem dX9_node__51 : decode cX9_node_ 51 = .ok (.tableswitch 82 0 4 #[33, 40, 61, 68, 75], 33) := by decide +kernel
theorem dX9_node__84 : decode cX9_node_ 84 = .ok (.aload_n 0, 1) := by decide +kernel
theorem dX9_node__85 : decode cX9_node_ 85 = .ok (.getfield 68, 3) := by decide +kernel
theorem dX9_node__88 : decode cX9_node_ 88 = .ok (.iload_n 1, 1) := by decide +kernel
theorem dX9_node__89 : decode cX9_node_ 89 = .ok (.iaload, 1) := by decide +kernel
theorem dX9_node__90 : decode cX9_node_ 90 = .ok (.ireturn, 1) := by decide +kernel
theorem dX9_node__91 : decode cX9_node_ 91 = .ok (.aload_n 0, 1) := by decide +kernel
theorem dX9_node__92 : decode cX9_node_ 92 = .ok (.getfield 68, 3) := by decide +kernel
theorem dX9_node__95 : decode cX9_node_ 95 = .ok (.iload_n 1, 1) := by decide +kernel
theorem dX9_node__96 : decode cX9_node_ 96 = .ok (.iaload, 1) := by decide +kernel
theorem dX9_node__97 : decode cX9_node_ 97 = .ok (.iconst 1, 1) := by decide +kernel
theorem dX9_node__98 : decode cX9_node_ 98 = .ok (.if_icmp .ne 7, 3) := by decide +kernel
theorem dX9_node__101 : decode cX9_node_ 101 = .ok (.iload_n 3, 1) := by decide +kernel
theorem dX9_node__102 : decode cX9_node_ 102 = .ok (.goto 9, 3) := by decide +kernel
theorem dX9_node__105 : decode cX9_node_ 105 = .ok (.aload_n 0, 1) := by decide +kernel
theorem dX9_node__106 : decode cX9_node_ 106 = .ok (.getfield 71, 3) := by decide +kernel
theorem dX9_node__109 : decode cX9_node_ 109 = .ok (.iload_n 1, 1) := by decide +kernel
theorem dX9_node__110 : decode cX9_node_ 110 = .ok (.iaload, 1) := by decide +kernel
theorem dX9_node__111 : decode cX9_node_ 111 = .ok (.ireturn, 1) := by decide +kernel
theorem dX9_node__112 : decode cX9_node_ 112 = .ok (.aload_n 0, 1) := by decide +kernel
theorem dX9_node__113 : decode cX9_node_ 113 = .ok (.getfield 80, 3) := by decide +kernel
theorem dX9_node__116 : decode cX9_node_ 116 = .ok (.iload_n 1, 1) := by decide +kernel
theorem dX9_node__117 : decode cX9_node_ 117 = .ok (.iaload, 1) := by decide +kernel
theorem dX9_node__118 : decode cX9_node_ 118 = .ok (.ireturn, 1) := by decide +kernel
theorem dX9_node__119 : decode cX9_node_ 119 = .ok (.aload_n 0, 1) := by decide +kernel
theorem dX9_node__120 : decode cX9_node_ 120 = .ok (.getfield 83, 3) := by decide +kernel
theorem dX9_node__123 : decode cX9_node_ 123 = .ok (.iload_n 1, 1) := by decide +kernel
theorem dX9_node__124 : decode cX9_node_ 124 = .ok (.iaload, 1) := by decide +kernel
theorem dX9_node__125 : decode cX9_node_ 125 = .ok (.ireturn, 1) := by decide +kernel
theorem dX9_node__126 : decode cX9_node_ 126 = .ok (.aload_n 0, 1) := by decide +kernel
theorem dX9_node__127 : decode cX9_node_ 127 = .ok (.getfield 86, 3) := by decide +kernel
theorem dX9_node__130 : decode cX9_node_ 130 = .ok (.iload_n 1, 1) := by decide +kernel
theorem dX9_node__131 : decode cX9_node_ 131 = .ok (.iaload, 1) := by decide +kernel
theorem dX9_node__132 : decode cX9_node_ 132 = .ok (.ireturn, 1) := by decide +kernel
theorem dX9_node__133 : decode cX9_node_ 133 = .ok (.iload_n 2, 1) := by decide +kernel
theorem dX9_node__134 : decode cX9_node_ 134 = .ok (.iconst 5, 1) := by decide +kernel
theorem dX9_node__135 : decode cX9_node_ 135 = .ok (.isub, 1) := by decide +kernel
theorem dX9_node__136 : decode cX9_node_ 136 = .ok (.iload_n 3, 1) := by decide +kernel
theorem dX9_node__137 : decode cX9_node_ 137 = .ok (.if_icmp .lt 6, 3) := by decide +kernel
theorem dX9_node__140 : decode cX9_node_ 140 = .ok (.bipush (-9), 2) := by decide +kernel
theorem dX9_node__142 : decode cX9_node_ 142 = .ok (.ireturn, 1) := by decide +kernel
theorem dX9_node__143 : decode cX9_node_ 143 = .ok (.aload_n 0, 1) := by decide +kernel
theorem dX9_node__144 : decode cX9_node_ 144 = .ok (.getfield 77, 3) := by decide +kernel
theorem dX9_node__147 : decode cX9_node_ 147 = .ok (.iload_n 1, 1) := by decide +kernel
theorem dX9_node__148 : decode cX9_node_ 148 = .ok (.iaload, 1) := by decide +kernel
theorem dX9_node__149 : decode cX9_node_ 149 = .ok (.istore 4, 2) := by decide +kernel
theorem dX9_node__151 : decode cX9_node_ 151 = .ok (.iload_n 3, 1) := by decide +kernel
theorem dX9_node__152 : decode cX9_node_ 152 = .ok (.iconst 1, 1) := by decide +kernel
theorem dX9_node__153 : decode cX9_node_ 153 = .ok (.isub, 1) := by decide +kernel
theorem dX9_node__154 : decode cX9_node_ 154 = .ok (.istore 5, 2) := by decide +kernel
theorem dX9_node__156 : decode cX9_node_ 156 = .ok (.iload 5, 2) := by decide +kernel
theorem dX9_node__158 : decode cX9_node_ 158 = .ok (.iload_n 2, 1) := by decide +kernel
theorem dX9_node__159 : decode cX9_node_ 159 = .ok (.iconst 5, 1) := by decide +kernel
theorem dX9_node__160 : decode cX9_node_ 160 = .ok (.isub, 1) := by decide +kernel
theorem dX9_node__161 : decode cX9_node_ 161 = .ok (.if_icmp .le 29, 3) := by decide +kernel
theorem dX9_node__164 : decode cX9_node_ 164 = .ok (.aload_n 0, 1) := by decide +kernel
theorem dX9_node__165 : decode cX9_node_ 165 = .ok (.getfield 29, 3) := by decide +kernel
theorem dX9_node__168 : decode cX9_node_ 168 = .ok (.sipush 160, 3) := by decide +kernel
theorem dX9_node__171 : decode cX9_node_ 171 = .ok (.aload_n 0, 1) := by decide +kernel
theorem dX9_node__172 : decode cX9_node_ 172 = .ok (.getfield 74, 3) := by decide +kernel
theorem dX9_node__175 : decode cX9_node_ 175 = .ok (.iload_n 1, 1) := by decide +kernel
theorem dX9_node__176 : decode cX9_node_ 176 = .ok (.iaload, 1) := by decide +kernel
theorem dX9_node__177 : decode cX9_node_ 177 = .ok (.imul, 1) := by decide +kernel
theorem dX9_node__178 : decode cX9_node_ 178 = .ok (.iload 4, 2) := by decide +kernel
theorem dX9_node__180 : decode cX9_node_ 180 = .ok (.iadd, 1) := by decide +kernel
theorem dX9_node__181 : decode cX9_node_ 181 = .ok (.iaload, 1) := by decide +kernel
theorem dX9_node__182 : decode cX9_node_ 182 = .ok (.istore 4, 2) := by decide +kernel
theorem dX9_node__184 : decode cX9_node_ 184 = .ok (.iinc 5 (-1), 3) := by decide +kernel
theorem dX9_node__187 : decode cX9_node_ 187 = .ok (.goto (-31), 3) := by decide +kernel
theorem dX9_node__190 : decode cX9_node_ 190 = .ok (.aload_n 0, 1) := by decide +kernel
theorem dX9_node__191 : decode cX9_node_ 191 = .ok (.getfield 32, 3) := by decide +kernel
theorem dX9_node__194 : decode cX9_node_ 194 = .ok (.sipush 160, 3) := by decide +kernel
theorem dX9_node__197 : decode cX9_node_ 197 = .ok (.aload_n 0, 1) := by decide +kernel
theorem dX9_node__198 : decode cX9_node_ 198 = .ok (.getfield 74, 3) := by decide +kernel
theorem dX9_node__201 : decode cX9_node_ 201 = .ok (.iload_n 1, 1) := by decide +kernel
theorem dX9_node__202 : decode cX9_node_ 202 = .ok (.iaload, 1) := by decide +kernel
theorem dX9_node__203 : decode cX9_node_ 203 = .ok (.imul, 1) := by decide +kernel
theorem dX9_node__204 : decode cX9_node_ 204 = .ok (.iload 4, 2) := by decide +kernel
theorem dX9_node__206 : decode cX9_node_ 206 = .ok (.iadd, 1) := by decide +kernel
theorem dX9_node__207 : decode cX9_node_ 207 = .ok (.iaload, 1) := by decide +kernel
theorem dX9_node__208 : decode cX9_node_ 208 = .ok (.ireturn, 1) := by decide +kernel
theorem dX9_covers_0 : decode cX9_covers 0 = .ok (.aload_n 0, 1) := by decide +kernel
theorem dX9_covers_1 : decode cX9_covers 1 = .ok (.invokevirtual 136, 3) := by decide +kernel
theorem dX9_covers_4 : decode cX9_covers 4 = .ok (.aload_n 0, 1) := by decide +kernel
theorem dX9_covers_5 : decode cX9_covers 5 = .ok (.getfield 181, 3) := by decide +kernel
theorem dX9_covers_8 : decode cX9_covers 8 = .ok (.ireturn, 1) := by decide +kernel
theorem dX9_clash_0 : decode cX9_clash 0 = .ok (.iload_n 1, 1) := by decide +kernel
theorem dX9_clash_1 : decode cX9_clash 1 = .ok (.ifCond .lt 23, 3) := by decide +kernel
theorem dX9_clash_4 : decode cX9_clash 4 = .ok (.iload_n 2, 1) := by decide +kernel
theorem dX9_clash_5 : decode cX9_clash 5 = .ok (.ifCond .lt 19, 3) := by decide +kernel
theorem dX9_clash_8 : decode cX9_clash 8 = .ok (.iload_n 1, 1) := by decide +kernel
theorem dX9_clash_9 : decode cX9_clash 9 = .ok (.aload_n 0, 1) := by decide +kernel
theorem dX9_clash_10 : decode cX9_clash 10 = .ok (.getfield 133, 3) := by decide +kernel
theorem dX9_clash_13 : decode cX9_clash 13 = .ok (.if_icmp .ge 11, 3) := by decide +kernel
theorem dX9_clash_16 : decode cX9_clash 16 = .ok (.iload_n 2, 1) := by decide +kernel
theorem dX9_clash_17 : decode cX9_clash 17 = .ok (.aload_n 0, 1) := by decide +kernel
theorem dX9_clash_18 : decode cX9_clash 18 = .ok (.getfield 133, 3) := by decide +kernel
theorem dX9_clash_21 : decode cX9_clash 21 = .ok (.if_icmp .lt 5, 3) := by decide +kernel
theorem dX9_clash_24 : decode cX9_clash 24 = .ok (.iconst 0, 1) := by decide +kernel
theorem dX9_clash_25 : decode cX9_clash 25 = .ok (.ireturn, 1) := by decide +kernel
theorem dX9_clash_26 : decode cX9_clash 26 = .ok (.iconst 0, 1) := by decide +kernel
theorem dX9_clash_27 : decode cX9_clash 27 = .ok (.istore_n 3, 1) := by decide +kernel
theorem dX9_clash_28 : decode cX9_clash 28 = .ok (.iconst 0, 1) := by decide +kernel
theorem dX9_clash_29 : decode cX9_clash 29 = .ok (.istore 4, 2) := by decide +kernel
theorem dX9_clash_31 : decode cX9_clash 31 = .ok (.iload_n 3, 1) := by decide +kernel
theorem dX9_clash_32 : decode cX9_clash 32 = .ok (.aload_n 0, 1) := by decide +kernel
theorem dX9_clash_33 : decode cX9_clash 33 = .ok (.getfield 38, 3) := by decide +kernel
theorem dX9_clash_36 : decode cX9_clash 36 = .ok (.iload_n 1, 1) := by decide +kernel
theorem dX9_clash_37 : decode cX9_clash 37 = .ok (.iaload, 1) := by decide +kernel
theorem dX9_clash_38 : decode cX9_clash 38 = .ok (.if_icmp .ge 122, 3) := by decide +kernel
theorem dX9_clash_41 : decode cX9_clash 41 = .ok (.aload_n 0, 1) := by decide +kernel
theorem dX9_clash_42 : decode cX9_clash 42 = .ok (.getfield 26, 3) := by decide +kernel
theorem dX9_clash_45 : decode cX9_clash 45 = .ok (.sipush 160, 3) := by decide +kernel
theorem dX9_clash_48 : decode cX9_clash 48 = .ok (.iload_n 1, 1) := by decide +kernel
theorem dX9_clash_49 : decode cX9_clash 49 = .ok (.imul, 1) := by decide +kernel
theorem dX9_clash_50 : decode cX9_clash 50 = .ok (.iload_n 3, 1) := by decide +kernel
theorem dX9_clash_51 : decode cX9_clash 51 = .ok (.iadd, 1) := by decide +kernel
theorem dX9_clash_52 : decode cX9_clash 52 = .ok (.iaload, 1) := by decide +kernel
theorem dX9_clash_53 : decode cX9_clash 53 = .ok (.istore 5, 2) := by decide +kernel
theorem dX9_clash_55 : decode cX9_clash 55 = .ok (.aload_n 0, 1) := by decide +kernel
theorem dX9_clash_56 : decode cX9_clash 56 = .ok (.getfield 26, 3) := by decide +kernel
theorem dX9_clash_59 : decode cX9_clash 59 = .ok (.sipush 160, 3) := by decide +kernel
theorem dX9_clash_62 : decode cX9_clash 62 = .ok (.iload_n 2, 1) := by decide +kernel
theorem dX9_clash_63 : decode cX9_clash 63 = .ok (.imul, 1) := by decide +kernel
theorem dX9_clash_64 : decode cX9_clash 64 = .ok (.iload 4, 2) := by decide +kernel
theorem dX9_clash_66 : decode cX9_clash 66 = .ok (.iadd, 1) := by decide +kernel
theorem dX9_clash_67 : decode cX9_clash 67 = .ok (.iaload, 1) := by decide +kernel
theorem dX9_clash_68 : decode cX9_clash 68 = .ok (.istore 6, 2) := by decide +kernel
theorem dX9_clash_70 : decode cX9_clash 70 = .ok (.iload 5, 2) := by decide +kernel
theorem dX9_clash_72 : decode cX9_clash 72 = .ok (.ifCond .lt 17, 3) := by decide +kernel
theorem dX9_clash_75 : decode cX9_clash 75 = .ok (.iload 6, 2) := by decide +kernel
theorem dX9_clash_77 : decode cX9_clash 77 = .ok (.ifCond .lt 12, 3) := by decide +kernel
theorem dX9_clash_80 : decode cX9_clash 80 = .ok (.iload 5, 2) := by decide +kernel
theorem dX9_clash_82 : decode cX9_clash 82 = .ok (.iload 6, 2) := by decide +kernel
theorem dX9_clash_84 : decode cX9_clash 84 = .ok (.if_icmp .eq 5, 3) := by decide +kernel
theorem dX9_clash_87 : decode cX9_clash 87 = .ok (.iconst 0, 1) := by decide +kernel
theorem dX9_clash_88 : decode cX9_clash 88 = .ok (.ireturn, 1) := by decide +kernel
theorem dX9_clash_89 : decode cX9_clash 89 = .ok (.iload 5, 2) := by decide +kernel
theorem dX9_clash_91 : decode cX9_clash 91 = .ok (.ifCond .lt 12, 3) := by decide +kernel
theorem dX9_clash_94 : decode cX9_clash 94 = .ok (.iload 6, 2) := by decide +kernel
theorem dX9_clash_96 : decode cX9_clash 96 = .ok (.ifCond .lt 7, 3) := by decide +kernel
theorem dX9_clash_99 : decode cX9_clash 99 = .ok (.iconst 1, 1) := by decide +kernel
theorem dX9_clash_100 : decode cX9_clash 100 = .ok (.goto 4, 3) := by decide +kernel
theorem dX9_clash_103 : decode cX9_clash 103 = .ok (.iconst 0, 1) := by decide +kernel
theorem dX9_clash_104 : decode cX9_clash 104 = .ok (.istore 7, 2) := by decide +kernel
theorem dX9_clash_106 : decode cX9_clash 106 = .ok (.iload 7, 2) := by decide +kernel
theorem dX9_clash_108 : decode cX9_clash 108 = .ok (.ifCond .eq 9, 3) := by decide +kernel
theorem dX9_clash_111 : decode cX9_clash 111 = .ok (.iload_n 3, 1) := by decide +kernel
theorem dX9_clash_112 : decode cX9_clash 112 = .ok (.iconst 1, 1) := by decide +kernel
theorem dX9_clash_113 : decode cX9_clash 113 = .ok (.iadd, 1) := by decide +kernel
theorem dX9_clash_114 : decode cX9_clash 114 = .ok (.goto 15, 3) := by decide +kernel
theorem dX9_clash_117 : decode cX9_clash 117 = .ok (.aload_n 0, 1) := by decide +kernel
theorem dX9_clash_118 : decode cX9_clash 118 = .ok (.getfield 35, 3) := by decide +kernel
theorem dX9_clash_121 : decode cX9_clash 121 = .ok (.sipush 160, 3) := by decide +kernel
theorem dX9_clash_124 : decode cX9_clash 124 = .ok (.iload_n 1, 1) := by decide +kernel
theorem dX9_clash_125 : decode cX9_clash 125 = .ok (.imul, 1) := by decide +kernel
theorem dX9_clash_126 : decode cX9_clash 126 = .ok (.iload_n 3, 1) := by decide +kernel
theorem dX9_clash_127 : decode cX9_clash 127 = .ok (.iadd, 1) := by decide +kernel
theorem dX9_clash_128 : decode cX9_clash 128 = .ok (.iaload, 1) := by decide +kernel
theorem dX9_clash_129 : decode cX9_clash 129 = .ok (.istore_n 3, 1) := by decide +kernel
theorem dX9_clash_130 : decode cX9_clash 130 = .ok (.iload 7, 2) := by decide +kernel
theorem dX9_clash_132 : decode cX9_clash 132 = .ok (.ifCond .eq 10, 3) := by decide +kernel
theorem dX9_clash_135 : decode cX9_clash 135 = .ok (.iload 4, 2) := by decide +kernel
theorem dX9_clash_137 : decode cX9_clash 137 = .ok (.iconst 1, 1) := by decide +kernel
theorem dX9_clash_138 : decode cX9_clash 138 = .ok (.iadd, 1) := by decide +kernel
theorem dX9_clash_139 : decode cX9_clash 139 = .ok (.goto 16, 3) := by decide +kernel
theorem dX9_clash_142 : decode cX9_clash 142 = .ok (.aload_n 0, 1) := by decide +kernel
theorem dX9_clash_143 : decode cX9_clash 143 = .ok (.getfield 35, 3) := by decide +kernel
theorem dX9_clash_146 : decode cX9_clash 146 = .ok (.sipush 160, 3) := by decide +kernel
theorem dX9_clash_149 : decode cX9_clash 149 = .ok (.iload_n 2, 1) := by decide +kernel
theorem dX9_clash_150 : decode cX9_clash 150 = .ok (.imul, 1) := by decide +kernel
theorem dX9_clash_151 : decode cX9_clash 151 = .ok (.iload 4, 2) := by decide +kernel
theorem dX9_clash_153 : decode cX9_clash 153 = .ok (.iadd, 1) := by decide +kernel
theorem dX9_clash_154 : decode cX9_clash 154 = .ok (.iaload, 1) := by decide +kernel
theorem dX9_clash_155 : decode cX9_clash 155 = .ok (.istore 4, 2) := by decide +kernel
theorem dX9_clash_157 : decode cX9_clash 157 = .ok (.goto (-126), 3) := by decide +kernel
theorem dX9_clash_160 : decode cX9_clash 160 = .ok (.iconst 1, 1) := by decide +kernel
theorem dX9_clash_161 : decode cX9_clash 161 = .ok (.ireturn, 1) := by decide +kernel
theorem dX9_count_0 : decode cX9_count 0 = .ok (.iload_n 1, 1) := by decide +kernel
theorem dX9_count_1 : decode cX9_count 1 = .ok (.tableswitch 96 0 8 #[51, 56, 61, 66, 71, 76, 81, 86, 91], 51) := by decide +kernel
theorem dX9_count_52 : decode cX9_count 52 = .ok (.aload_n 0, 1) := by decide +kernel
theorem dX9_count_53 : decode cX9_count 53 = .ok (.getfield 117, 3) := by decide +kernel
theorem dX9_count_56 : decode cX9_count 56 = .ok (.ireturn, 1) := by decide +kernel
theorem dX9_count_57 : decode cX9_count 57 = .ok (.aload_n 0, 1) := by decide +kernel
theorem dX9_count_58 : decode cX9_count 58 = .ok (.getfield 124, 3) := by decide +kernel
theorem dX9_count_61 : decode cX9_count 61 = .ok (.ireturn, 1) := by decide +kernel
theorem dX9_count_62 : decode cX9_count 62 = .ok (.aload_n 0, 1) := by decide +kernel
theorem dX9_count_63 : decode cX9_count 63 = .ok (.getfield 133, 3) := by decide +kernel
theorem dX9_count_66 : decode cX9_count 66 = .ok (.ireturn, 1) := by decide +kernel
theorem dX9_count_67 : decode cX9_count 67 = .ok (.aload_n 0, 1) := by decide +kernel
theorem dX9_count_68 : decode cX9_count 68 = .ok (.getfield 19, 3) := by decide +kernel
theorem dX9_count_71 : decode cX9_count 71 = .ok (.ireturn, 1) := by decide +kernel
theorem dX9_count_72 : decode cX9_count 72 = .ok (.aload_n 0, 1) := by decide +kernel
theorem dX9_count_73 : decode cX9_count 73 = .ok (.getfield 139, 3) := by decide +kernel
theorem dX9_count_76 : decode cX9_count 76 = .ok (.ireturn, 1) := by decide +kernel
theorem dX9_count_77 : decode cX9_count 77 = .ok (.aload_n 0, 1) := by decide +kernel
theorem dX9_count_78 : decode cX9_count 78 = .ok (.getfield 127, 3) := by decide +kernel
theorem dX9_count_81 : decode cX9_count 81 = .ok (.ireturn, 1) := by decide +kernel
theorem dX9_count_82 : decode cX9_count 82 = .ok (.aload_n 0, 1) := by decide +kernel
theorem dX9_count_83 : decode cX9_count 83 = .ok (.getfield 172, 3) := by decide +kernel
theorem dX9_count_86 : decode cX9_count 86 = .ok (.ireturn, 1) := by decide +kernel
theorem dX9_count_87 : decode cX9_count 87 = .ok (.aload_n 0, 1) := by decide +kernel
theorem dX9_count_88 : decode cX9_count 88 = .ok (.getfield 175, 3) := by decide +kernel
theorem dX9_count_91 : decode cX9_count 91 = .ok (.ireturn, 1) := by decide +kernel
theorem dX9_count_92 : decode cX9_count 92 = .ok (.aload_n 0, 1) := by decide +kernel
theorem dX9_count_93 : decode cX9_count 93 = .ok (.getfield 178, 3) := by decide +kernel
theorem dX9_count_96 : decode cX9_count 96 = .ok (.ireturn, 1) := by decide +kernel
theorem dX9_count_97 : decode cX9_count 97 = .ok (.bipush (-9), 2) := by decide +kernel
theorem dX9_count_99 : decode cX9_count 99 = .ok (.ireturn, 1) := by decide +kernel
end
section
theorem kw0 : (.initialized RL : Cond) ∈ lw_tbl := List.mem_append_right _ (List.mem_of_getElem? (i := 0) (by decide +kernel))
theorem kw1 : (.initialized RX8 : Cond) ∈ lw_tbl := List.mem_append_right _ (List.mem_of_getElem? (i := 1) (by decide +kernel))
theorem kw2 : (.initialized RX4 : Cond) ∈ lw_tbl := List.mem_append_right _ (List.mem_of_getElem? (i := 2) (by decide +kernel))
theorem kw3 : (.initialized RX2 : Cond) ∈ lw_tbl := List.mem_append_right _ (List.mem_of_getElem? (i := 3) (by decide +kernel))
theorem kw4 : (.initialized RX3 : Cond) ∈ lw_tbl := List.mem_append_right _ (List.mem_of_getElem? (i := 4) (by decide +kernel))
theorem kw5 : (.initialized RX6 : Cond) ∈ lw_tbl := List.mem_append_right _ (List.mem_of_getElem? (i := 5) (by decide +kernel))
theorem kw6 : (.initialized RX1 : Cond) ∈ lw_tbl := List.mem_append_right _ (List.mem_of_getElem? (i := 6) (by decide +kernel))
theorem kw7 : (.initialized RX5 : Cond) ∈ lw_tbl := List.mem_append_right _ (List.mem_of_getElem? (i := 7) (by decide +kernel))
theorem kw8 : (.initialized RX0 : Cond) ∈ lw_tbl := List.mem_append_right _ (List.mem_of_getElem? (i := 8) (by decide +kernel))
theorem kw9 : (.initialized RX7 : Cond) ∈ lw_tbl := List.mem_append_right _ (List.mem_of_getElem? (i := 9) (by decide +kernel))
theorem kw10 : (.initialized RX9 : Cond) ∈ lw_tbl := List.mem_append_right _ (List.mem_of_getElem? (i := 10) (by decide +kernel))
theorem kw11 : (.initialized RJ9 : Cond) ∈ lw_tbl := List.mem_append_right _ (List.mem_of_getElem? (i := 11) (by decide +kernel))
theorem kw12 : (.initialized RJ7 : Cond) ∈ lw_tbl := List.mem_append_right _ (List.mem_of_getElem? (i := 12) (by decide +kernel))
theorem kw13 : (.initialized RJ6 : Cond) ∈ lw_tbl := List.mem_append_right _ (List.mem_of_getElem? (i := 13) (by decide +kernel))
theorem kw14 : (.classLink RL 7 RX8 : Cond) ∈ lw_tbl := List.mem_append_right _ (List.mem_of_getElem? (i := 14) (by decide +kernel))
theorem kw15 : (.instantiable RX8 9 : Cond) ∈ lw_tbl := List.mem_append_right _ (List.mem_of_getElem? (i := 15) (by decide +kernel))
theorem kw16 : (.methodLink RL 9 yX8_init : Cond) ∈ lw_tbl := List.mem_append_right _ (List.mem_of_getElem? (i := 16) (by decide +kernel))
theorem kw17 : (.instanceMethod yX8_init : Cond) ∈ lw_tbl := List.mem_append_right _ (List.mem_of_getElem? (i := 17) (by decide +kernel))
theorem kw18 : (.code yX8_init cX8_init 1 none : Cond) ∈ lw_tbl := List.mem_append_right _ (List.mem_of_getElem? (i := 18) (by decide +kernel))
theorem kw19 : (.methodLink RX8 3 objectInit : Cond) ∈ lw_tbl := List.mem_append_right _ (List.mem_of_getElem? (i := 19) (by decide +kernel))
theorem kw20 : (.instanceMethod objectInit : Cond) ∈ lw_tbl := List.mem_append_right _ (List.mem_of_getElem? (i := 20) (by decide +kernel))
theorem kw22 : (.classLink RX8 9 RX4 : Cond) ∈ lw_tbl := List.mem_append_right _ (List.mem_of_getElem? (i := 22) (by decide +kernel))
theorem kw23 : (.instantiable RX4 7 : Cond) ∈ lw_tbl := List.mem_append_right _ (List.mem_of_getElem? (i := 23) (by decide +kernel))
theorem kw24 : (.methodLinkNest RX8 11 yX4_init "NeededTrees" : Cond) ∈ lw_tbl := List.mem_append_right _ (List.mem_of_getElem? (i := 24) (by decide +kernel))
theorem kw25 : (.instanceMethod yX4_init : Cond) ∈ lw_tbl := List.mem_append_right _ (List.mem_of_getElem? (i := 25) (by decide +kernel))
theorem kw26 : (.code yX4_init cX4_init 1 none : Cond) ∈ lw_tbl := List.mem_append_right _ (List.mem_of_getElem? (i := 26) (by decide +kernel))
theorem kw27 : (.methodLink RX4 3 objectInit : Cond) ∈ lw_tbl := List.mem_append_right _ (List.mem_of_getElem? (i := 27) (by decide +kernel))
theorem kw28 : (.fieldLink RX4 9 "NeededTrees$Signature" "ownTypes" "[I" : Cond) ∈ lw_tbl := List.mem_append_right _ (List.mem_of_getElem? (i := 28) (by decide +kernel))
theorem kw29 : (.fieldLink RX4 15 "NeededTrees$Signature" "arities" "[I" : Cond) ∈ lw_tbl := List.mem_append_right _ (List.mem_of_getElem? (i := 29) (by decide +kernel))
theorem kw30 : (.fieldLink RX4 18 "NeededTrees$Signature" "partTypes" "[I" : Cond) ∈ lw_tbl := List.mem_append_right _ (List.mem_of_getElem? (i := 30) (by decide +kernel))
theorem kw31 : (.fieldLink RX4 25 "NeededTrees$Signature" "types" "I" : Cond) ∈ lw_tbl := List.mem_append_right _ (List.mem_of_getElem? (i := 31) (by decide +kernel))
theorem kw32 : (.fieldLinkNest RX8 144 "NeededTrees$Signature" "types" "I" "NeededTrees" : Cond) ∈ lw_tbl := List.mem_append_right _ (List.mem_of_getElem? (i := 32) (by decide +kernel))
theorem kw33 : (.fieldLink RX4 28 "NeededTrees$Signature" "made" "I" : Cond) ∈ lw_tbl := List.mem_append_right _ (List.mem_of_getElem? (i := 33) (by decide +kernel))
theorem kw34 : (.fieldLinkNest RX8 147 "NeededTrees$Signature" "made" "I" "NeededTrees" : Cond) ∈ lw_tbl := List.mem_append_right _ (List.mem_of_getElem? (i := 34) (by decide +kernel))
theorem kw35 : (.fieldLink RX4 21 "NeededTrees$Signature" "arguments" "I" : Cond) ∈ lw_tbl := List.mem_append_right _ (List.mem_of_getElem? (i := 35) (by decide +kernel))
theorem kw36 : (.fieldLinkNest RX8 151 "NeededTrees$Signature" "arguments" "I" "NeededTrees" : Cond) ∈ lw_tbl := List.mem_append_right _ (List.mem_of_getElem? (i := 36) (by decide +kernel))
theorem kw37 : (.fieldLink RX4 39 "NeededTrees$Signature" "argumentTypes" "I" : Cond) ∈ lw_tbl := List.mem_append_right _ (List.mem_of_getElem? (i := 37) (by decide +kernel))
theorem kw53 : (.arrayClass .int : Cond) ∈ lw_tbl := List.mem_append_right _ (List.mem_of_getElem? (i := 53) (by decide +kernel))
theorem kw54 : (.classLink RX8 16 RX2 : Cond) ∈ lw_tbl := List.mem_append_right _ (List.mem_of_getElem? (i := 54) (by decide +kernel))
theorem kw55 : (.instantiable RX2 8 : Cond) ∈ lw_tbl := List.mem_append_right _ (List.mem_of_getElem? (i := 55) (by decide +kernel))
theorem kw56 : (.methodLinkNest RX8 18 yX2_init "NeededTrees" : Cond) ∈ lw_tbl := List.mem_append_right _ (List.mem_of_getElem? (i := 56) (by decide +kernel))
theorem kw57 : (.instanceMethod yX2_init : Cond) ∈ lw_tbl := List.mem_append_right _ (List.mem_of_getElem? (i := 57) (by decide +kernel))
theorem kw58 : (.code yX2_init cX2_init 1 none : Cond) ∈ lw_tbl := List.mem_append_right _ (List.mem_of_getElem? (i := 58) (by decide +kernel))
theorem kw59 : (.methodLink RX2 3 objectInit : Cond) ∈ lw_tbl := List.mem_append_right _ (List.mem_of_getElem? (i := 59) (by decide +kernel))
theorem kw60 : (.fieldLink RX2 9 "NeededTrees$Row" "numbers" "[I" : Cond) ∈ lw_tbl := List.mem_append_right _ (List.mem_of_getElem? (i := 60) (by decide +kernel))
theorem kw61 : (.fieldLinkNest RX5 41 "NeededTrees$Row" "numbers" "[I" "NeededTrees" : Cond) ∈ lw_tbl := List.mem_append_right _ (List.mem_of_getElem? (i := 61) (by decide +kernel))
theorem kw62 : (.fieldLinkNest RX3 45 "NeededTrees$Row" "numbers" "[I" "NeededTrees" : Cond) ∈ lw_tbl := List.mem_append_right _ (List.mem_of_getElem? (i := 62) (by decide +kernel))
theorem kw63 : (.fieldLink RX2 15 "NeededTrees$Row" "up" "[I" : Cond) ∈ lw_tbl := List.mem_append_right _ (List.mem_of_getElem? (i := 63) (by decide +kernel))
theorem kw64 : (.fieldLinkNest RX3 42 "NeededTrees$Row" "up" "[I" "NeededTrees" : Cond) ∈ lw_tbl := List.mem_append_right _ (List.mem_of_getElem? (i := 64) (by decide +kernel))
theorem kw65 : (.fieldLink RX2 18 "NeededTrees$Row" "place" "[I" : Cond) ∈ lw_tbl := List.mem_append_right _ (List.mem_of_getElem? (i := 65) (by decide +kernel))
theorem kw66 : (.fieldLinkNest RX3 52 "NeededTrees$Row" "place" "[I" "NeededTrees" : Cond) ∈ lw_tbl := List.mem_append_right _ (List.mem_of_getElem? (i := 66) (by decide +kernel))
theorem kw67 : (.fieldLink RX2 21 "NeededTrees$Row" "end" "[I" : Cond) ∈ lw_tbl := List.mem_append_right _ (List.mem_of_getElem? (i := 67) (by decide +kernel))
theorem kw68 : (.fieldLinkNest RX5 50 "NeededTrees$Row" "end" "[I" "NeededTrees" : Cond) ∈ lw_tbl := List.mem_append_right _ (List.mem_of_getElem? (i := 68) (by decide +kernel))
theorem kw69 : (.fieldLinkNest RX3 53 "NeededTrees$Row" "end" "[I" "NeededTrees" : Cond) ∈ lw_tbl := List.mem_append_right _ (List.mem_of_getElem? (i := 69) (by decide +kernel))
theorem kw70 : (.fieldLink RX2 24 "NeededTrees$Row" "nameTypes" "[I" : Cond) ∈ lw_tbl := List.mem_append_right _ (List.mem_of_getElem? (i := 70) (by decide +kernel))
theorem kw71 : (.fieldLink RX2 27 "NeededTrees$Row" "length" "I" : Cond) ∈ lw_tbl := List.mem_append_right _ (List.mem_of_getElem? (i := 71) (by decide +kernel))
theorem kw72 : (.fieldLinkNest RX8 154 "NeededTrees$Row" "length" "I" "NeededTrees" : Cond) ∈ lw_tbl := List.mem_append_right _ (List.mem_of_getElem? (i := 72) (by decide +kernel))
theorem kw73 : (.fieldLink RX2 41 "NeededTrees$Row" "holder" "I" : Cond) ∈ lw_tbl := List.mem_append_right _ (List.mem_of_getElem? (i := 73) (by decide +kernel))
theorem kw74 : (.fieldLink RX2 44 "NeededTrees$Row" "next" "I" : Cond) ∈ lw_tbl := List.mem_append_right _ (List.mem_of_getElem? (i := 74) (by decide +kernel))
theorem kw92 : (.classLink RX8 23 RX3 : Cond) ∈ lw_tbl := List.mem_append_right _ (List.mem_of_getElem? (i := 92) (by decide +kernel))
theorem kw93 : (.instantiable RX3 7 : Cond) ∈ lw_tbl := List.mem_append_right _ (List.mem_of_getElem? (i := 93) (by decide +kernel))
theorem kw94 : (.methodLinkNest RX8 25 yX3_init "NeededTrees" : Cond) ∈ lw_tbl := List.mem_append_right _ (List.mem_of_getElem? (i := 94) (by decide +kernel))
theorem kw95 : (.instanceMethod yX3_init : Cond) ∈ lw_tbl := List.mem_append_right _ (List.mem_of_getElem? (i := 95) (by decide +kernel))
theorem kw96 : (.code yX3_init cX3_init 1 none : Cond) ∈ lw_tbl := List.mem_append_right _ (List.mem_of_getElem? (i := 96) (by decide +kernel))
theorem kw97 : (.methodLink RX3 3 objectInit : Cond) ∈ lw_tbl := List.mem_append_right _ (List.mem_of_getElem? (i := 97) (by decide +kernel))
theorem kw98 : (.fieldLink RX3 9 "NeededTrees$Rules" "starts" "[I" : Cond) ∈ lw_tbl := List.mem_append_right _ (List.mem_of_getElem? (i := 98) (by decide +kernel))
theorem kw99 : (.fieldLink RX3 15 "NeededTrees$Rules" "symbol" "[I" : Cond) ∈ lw_tbl := List.mem_append_right _ (List.mem_of_getElem? (i := 99) (by decide +kernel))
theorem kw100 : (.fieldLinkNest RX6 71 "NeededTrees$Rules" "symbol" "[I" "NeededTrees" : Cond) ∈ lw_tbl := List.mem_append_right _ (List.mem_of_getElem? (i := 100) (by decide +kernel))
theorem kw101 : (.fieldLinkNest RX1 130 "NeededTrees$Rules" "symbol" "[I" "NeededTrees" : Cond) ∈ lw_tbl := List.mem_append_right _ (List.mem_of_getElem? (i := 101) (by decide +kernel))
theorem kw102 : (.fieldLink RX3 18 "NeededTrees$Rules" "up" "[I" : Cond) ∈ lw_tbl := List.mem_append_right _ (List.mem_of_getElem? (i := 102) (by decide +kernel))
theorem kw103 : (.fieldLinkNest RX7 102 "NeededTrees$Rules" "up" "[I" "NeededTrees" : Cond) ∈ lw_tbl := List.mem_append_right _ (List.mem_of_getElem? (i := 103) (by decide +kernel))
theorem kw104 : (.fieldLink RX3 21 "NeededTrees$Rules" "place" "[I" : Cond) ∈ lw_tbl := List.mem_append_right _ (List.mem_of_getElem? (i := 104) (by decide +kernel))
theorem kw105 : (.fieldLinkNest RX7 110 "NeededTrees$Rules" "place" "[I" "NeededTrees" : Cond) ∈ lw_tbl := List.mem_append_right _ (List.mem_of_getElem? (i := 105) (by decide +kernel))
theorem kw106 : (.fieldLink RX3 24 "NeededTrees$Rules" "end" "[I" : Cond) ∈ lw_tbl := List.mem_append_right _ (List.mem_of_getElem? (i := 106) (by decide +kernel))
theorem kw107 : (.fieldLinkNest RX1 114 "NeededTrees$Rules" "end" "[I" "NeededTrees" : Cond) ∈ lw_tbl := List.mem_append_right _ (List.mem_of_getElem? (i := 107) (by decide +kernel))
theorem kw108 : (.fieldLink RX3 27 "NeededTrees$Rules" "askedAt" "[I" : Cond) ∈ lw_tbl := List.mem_append_right _ (List.mem_of_getElem? (i := 108) (by decide +kernel))
theorem kw109 : (.fieldLinkNest RX7 107 "NeededTrees$Rules" "askedAt" "[I" "NeededTrees" : Cond) ∈ lw_tbl := List.mem_append_right _ (List.mem_of_getElem? (i := 109) (by decide +kernel))
theorem kw110 : (.fieldLinkNest RX1 127 "NeededTrees$Rules" "askedAt" "[I" "NeededTrees" : Cond) ∈ lw_tbl := List.mem_append_right _ (List.mem_of_getElem? (i := 110) (by decide +kernel))
theorem kw111 : (.fieldLink RX3 30 "NeededTrees$Rules" "many" "I" : Cond) ∈ lw_tbl := List.mem_append_right _ (List.mem_of_getElem? (i := 111) (by decide +kernel))
theorem kw112 : (.fieldLinkNest RX1 46 "NeededTrees$Rules" "many" "I" "NeededTrees" : Cond) ∈ lw_tbl := List.mem_append_right _ (List.mem_of_getElem? (i := 112) (by decide +kernel))
theorem kw113 : (.fieldLinkNest RX8 150 "NeededTrees$Rules" "many" "I" "NeededTrees" : Cond) ∈ lw_tbl := List.mem_append_right _ (List.mem_of_getElem? (i := 113) (by decide +kernel))
theorem kw129 : (.classLink RX8 30 RX6 : Cond) ∈ lw_tbl := List.mem_append_right _ (List.mem_of_getElem? (i := 129) (by decide +kernel))
theorem kw130 : (.instantiable RX6 7 : Cond) ∈ lw_tbl := List.mem_append_right _ (List.mem_of_getElem? (i := 130) (by decide +kernel))
theorem kw131 : (.methodLinkNest RX8 32 yX6_init "NeededTrees" : Cond) ∈ lw_tbl := List.mem_append_right _ (List.mem_of_getElem? (i := 131) (by decide +kernel))
theorem kw132 : (.instanceMethod yX6_init : Cond) ∈ lw_tbl := List.mem_append_right _ (List.mem_of_getElem? (i := 132) (by decide +kernel))
theorem kw133 : (.code yX6_init cX6_init 1 none : Cond) ∈ lw_tbl := List.mem_append_right _ (List.mem_of_getElem? (i := 133) (by decide +kernel))
theorem kw134 : (.methodLink RX6 3 objectInit : Cond) ∈ lw_tbl := List.mem_append_right _ (List.mem_of_getElem? (i := 134) (by decide +kernel))
theorem kw135 : (.fieldLink RX6 9 "NeededTrees$Tree" "kind" "[I" : Cond) ∈ lw_tbl := List.mem_append_right _ (List.mem_of_getElem? (i := 135) (by decide +kernel))
theorem kw136 : (.fieldLinkNest RX7 57 "NeededTrees$Tree" "kind" "[I" "NeededTrees" : Cond) ∈ lw_tbl := List.mem_append_right _ (List.mem_of_getElem? (i := 136) (by decide +kernel))
theorem kw137 : (.fieldLink RX6 15 "NeededTrees$Tree" "subject" "[I" : Cond) ∈ lw_tbl := List.mem_append_right _ (List.mem_of_getElem? (i := 137) (by decide +kernel))
theorem kw138 : (.fieldLinkNest RX7 65 "NeededTrees$Tree" "subject" "[I" "NeededTrees" : Cond) ∈ lw_tbl := List.mem_append_right _ (List.mem_of_getElem? (i := 138) (by decide +kernel))
theorem kw139 : (.fieldLink RX6 18 "NeededTrees$Tree" "children" "[I" : Cond) ∈ lw_tbl := List.mem_append_right _ (List.mem_of_getElem? (i := 139) (by decide +kernel))
theorem kw140 : (.fieldLink RX6 21 "NeededTrees$Tree" "label" "[I" : Cond) ∈ lw_tbl := List.mem_append_right _ (List.mem_of_getElem? (i := 140) (by decide +kernel))
theorem kw141 : (.fieldLinkNest RX7 78 "NeededTrees$Tree" "label" "[I" "NeededTrees" : Cond) ∈ lw_tbl := List.mem_append_right _ (List.mem_of_getElem? (i := 141) (by decide +kernel))
theorem kw142 : (.fieldLink RX6 24 "NeededTrees$Tree" "depth" "[I" : Cond) ∈ lw_tbl := List.mem_append_right _ (List.mem_of_getElem? (i := 142) (by decide +kernel))
theorem kw143 : (.fieldLinkNest RX7 46 "NeededTrees$Tree" "depth" "[I" "NeededTrees" : Cond) ∈ lw_tbl := List.mem_append_right _ (List.mem_of_getElem? (i := 143) (by decide +kernel))
theorem kw144 : (.fieldLink RX6 27 "NeededTrees$Tree" "covering" "[I" : Cond) ∈ lw_tbl := List.mem_append_right _ (List.mem_of_getElem? (i := 144) (by decide +kernel))
theorem kw145 : (.fieldLink RX6 30 "NeededTrees$Tree" "nodes" "I" : Cond) ∈ lw_tbl := List.mem_append_right _ (List.mem_of_getElem? (i := 145) (by decide +kernel))
theorem kw146 : (.fieldLinkNest RX7 40 "NeededTrees$Tree" "nodes" "I" "NeededTrees" : Cond) ∈ lw_tbl := List.mem_append_right _ (List.mem_of_getElem? (i := 146) (by decide +kernel))
theorem kw147 : (.fieldLinkNest RX8 131 "NeededTrees$Tree" "nodes" "I" "NeededTrees" : Cond) ∈ lw_tbl := List.mem_append_right _ (List.mem_of_getElem? (i := 147) (by decide +kernel))
theorem kw163 : (.classLink RX8 37 RX1 : Cond) ∈ lw_tbl := List.mem_append_right _ (List.mem_of_getElem? (i := 163) (by decide +kernel))
theorem kw164 : (.instantiable RX1 7 : Cond) ∈ lw_tbl := List.mem_append_right _ (List.mem_of_getElem? (i := 164) (by decide +kernel))
theorem kw165 : (.methodLinkNest RX8 39 yX1_init "NeededTrees" : Cond) ∈ lw_tbl := List.mem_append_right _ (List.mem_of_getElem? (i := 165) (by decide +kernel))
theorem kw166 : (.instanceMethod yX1_init : Cond) ∈ lw_tbl := List.mem_append_right _ (List.mem_of_getElem? (i := 166) (by decide +kernel))
theorem kw167 : (.code yX1_init cX1_init 3 none : Cond) ∈ lw_tbl := List.mem_append_right _ (List.mem_of_getElem? (i := 167) (by decide +kernel))
theorem kw168 : (.methodLink RX1 3 objectInit : Cond) ∈ lw_tbl := List.mem_append_right _ (List.mem_of_getElem? (i := 168) (by decide +kernel))
theorem kw169 : (.fieldLink RX1 24 "NeededTrees$Planter" "rules" "LNeededTrees$Rules;" : Cond) ∈ lw_tbl := List.mem_append_right _ (List.mem_of_getElem? (i := 169) (by decide +kernel))
theorem kw170 : (.fieldLink RX1 28 "NeededTrees$Planter" "tree" "LNeededTrees$Tree;" : Cond) ∈ lw_tbl := List.mem_append_right _ (List.mem_of_getElem? (i := 170) (by decide +kernel))
theorem kw171 : (.fieldLink RX1 9 "NeededTrees$Planter" "groups" "[I" : Cond) ∈ lw_tbl := List.mem_append_right _ (List.mem_of_getElem? (i := 171) (by decide +kernel))
theorem kw172 : (.fieldLink RX1 15 "NeededTrees$Planter" "labels" "[I" : Cond) ∈ lw_tbl := List.mem_append_right _ (List.mem_of_getElem? (i := 172) (by decide +kernel))
theorem kw173 : (.fieldLink RX1 18 "NeededTrees$Planter" "depths" "[I" : Cond) ∈ lw_tbl := List.mem_append_right _ (List.mem_of_getElem? (i := 173) (by decide +kernel))
theorem kw174 : (.fieldLink RX1 21 "NeededTrees$Planter" "cursor" "[I" : Cond) ∈ lw_tbl := List.mem_append_right _ (List.mem_of_getElem? (i := 174) (by decide +kernel))
theorem kw175 : (.fieldLink RX1 42 "NeededTrees$Planter" "waiting" "I" : Cond) ∈ lw_tbl := List.mem_append_right _ (List.mem_of_getElem? (i := 175) (by decide +kernel))
theorem kw191 : (.classLink RX8 46 RX5 : Cond) ∈ lw_tbl := List.mem_append_right _ (List.mem_of_getElem? (i := 191) (by decide +kernel))
theorem kw192 : (.instantiable RX5 12 : Cond) ∈ lw_tbl := List.mem_append_right _ (List.mem_of_getElem? (i := 192) (by decide +kernel))
theorem kw193 : (.methodLinkNest RX8 48 yX5_init "NeededTrees" : Cond) ∈ lw_tbl := List.mem_append_right _ (List.mem_of_getElem? (i := 193) (by decide +kernel))
theorem kw194 : (.instanceMethod yX5_init : Cond) ∈ lw_tbl := List.mem_append_right _ (List.mem_of_getElem? (i := 194) (by decide +kernel))
theorem kw195 : (.code yX5_init cX5_init 2 none : Cond) ∈ lw_tbl := List.mem_append_right _ (List.mem_of_getElem? (i := 195) (by decide +kernel))
theorem kw196 : (.methodLink RX5 3 objectInit : Cond) ∈ lw_tbl := List.mem_append_right _ (List.mem_of_getElem? (i := 196) (by decide +kernel))
theorem kw197 : (.fieldLink RX5 33 "NeededTrees$Terms" "signature" "LNeededTrees$Signature;" : Cond) ∈ lw_tbl := List.mem_append_right _ (List.mem_of_getElem? (i := 197) (by decide +kernel))
theorem kw198 : (.fieldLink RX5 9 "NeededTrees$Terms" "head" "[I" : Cond) ∈ lw_tbl := List.mem_append_right _ (List.mem_of_getElem? (i := 198) (by decide +kernel))
theorem kw199 : (.fieldLinkNest RX7 89 "NeededTrees$Terms" "head" "[I" "NeededTrees" : Cond) ∈ lw_tbl := List.mem_append_right _ (List.mem_of_getElem? (i := 199) (by decide +kernel))
theorem kw200 : (.fieldLink RX5 15 "NeededTrees$Terms" "first" "[I" : Cond) ∈ lw_tbl := List.mem_append_right _ (List.mem_of_getElem? (i := 200) (by decide +kernel))
theorem kw201 : (.fieldLink RX5 18 "NeededTrees$Terms" "end" "[I" : Cond) ∈ lw_tbl := List.mem_append_right _ (List.mem_of_getElem? (i := 201) (by decide +kernel))
theorem kw202 : (.fieldLink RX5 21 "NeededTrees$Terms" "times" "[I" : Cond) ∈ lw_tbl := List.mem_append_right _ (List.mem_of_getElem? (i := 202) (by decide +kernel))
theorem kw203 : (.fieldLink RX5 24 "NeededTrees$Terms" "alias" "[I" : Cond) ∈ lw_tbl := List.mem_append_right _ (List.mem_of_getElem? (i := 203) (by decide +kernel))
theorem kw204 : (.fieldLink RX5 27 "NeededTrees$Terms" "bound" "[I" : Cond) ∈ lw_tbl := List.mem_append_right _ (List.mem_of_getElem? (i := 204) (by decide +kernel))
theorem kw205 : (.fieldLink RX5 30 "NeededTrees$Terms" "unwritten" "[I" : Cond) ∈ lw_tbl := List.mem_append_right _ (List.mem_of_getElem? (i := 205) (by decide +kernel))
theorem kw206 : (.fieldLink RX5 51 "NeededTrees$Terms" "cells" "I" : Cond) ∈ lw_tbl := List.mem_append_right _ (List.mem_of_getElem? (i := 206) (by decide +kernel))
theorem kw207 : (.fieldLink RX5 55 "NeededTrees$Terms" "bindings" "I" : Cond) ∈ lw_tbl := List.mem_append_right _ (List.mem_of_getElem? (i := 207) (by decide +kernel))
theorem kw208 : (.fieldLinkNest RX7 92 "NeededTrees$Terms" "bindings" "I" "NeededTrees" : Cond) ∈ lw_tbl := List.mem_append_right _ (List.mem_of_getElem? (i := 208) (by decide +kernel))
theorem kw209 : (.fieldLinkNest RX7 60 "NeededTrees$Terms" "length" "I" "NeededTrees" : Cond) ∈ lw_tbl := List.mem_append_right _ (List.mem_of_getElem? (i := 209) (by decide +kernel))
theorem kw210 : (.fieldLink RX5 58 "NeededTrees$Terms" "length" "I" : Cond) ∈ lw_tbl := List.mem_append_right _ (List.mem_of_getElem? (i := 210) (by decide +kernel))
theorem kw211 : (.fieldLinkNest RX0 31 "NeededTrees$Terms" "length" "I" "NeededTrees" : Cond) ∈ lw_tbl := List.mem_append_right _ (List.mem_of_getElem? (i := 211) (by decide +kernel))
theorem kw212 : (.fieldLink RX5 76 "NeededTrees$Terms" "left" "I" : Cond) ∈ lw_tbl := List.mem_append_right _ (List.mem_of_getElem? (i := 212) (by decide +kernel))
theorem kw238 : (.classLink RX8 55 RX0 : Cond) ∈ lw_tbl := List.mem_append_right _ (List.mem_of_getElem? (i := 238) (by decide +kernel))
theorem kw239 : (.instantiable RX0 6 : Cond) ∈ lw_tbl := List.mem_append_right _ (List.mem_of_getElem? (i := 239) (by decide +kernel))
theorem kw240 : (.methodLinkNest RX8 57 yX0_init "NeededTrees" : Cond) ∈ lw_tbl := List.mem_append_right _ (List.mem_of_getElem? (i := 240) (by decide +kernel))
theorem kw241 : (.instanceMethod yX0_init : Cond) ∈ lw_tbl := List.mem_append_right _ (List.mem_of_getElem? (i := 241) (by decide +kernel))
theorem kw242 : (.code yX0_init cX0_init 1 none : Cond) ∈ lw_tbl := List.mem_append_right _ (List.mem_of_getElem? (i := 242) (by decide +kernel))
theorem kw243 : (.methodLink RX0 3 objectInit : Cond) ∈ lw_tbl := List.mem_append_right _ (List.mem_of_getElem? (i := 243) (by decide +kernel))
theorem kw244 : (.fieldLink RX0 9 "NeededTrees$Outcomes" "rules" "[I" : Cond) ∈ lw_tbl := List.mem_append_right _ (List.mem_of_getElem? (i := 244) (by decide +kernel))
theorem kw245 : (.fieldLink RX0 15 "NeededTrees$Outcomes" "asks" "[I" : Cond) ∈ lw_tbl := List.mem_append_right _ (List.mem_of_getElem? (i := 245) (by decide +kernel))
theorem kw246 : (.fieldLink RX0 18 "NeededTrees$Outcomes" "freeAsks" "[I" : Cond) ∈ lw_tbl := List.mem_append_right _ (List.mem_of_getElem? (i := 246) (by decide +kernel))
theorem kw247 : (.fieldLink RX0 21 "NeededTrees$Outcomes" "lengths" "[I" : Cond) ∈ lw_tbl := List.mem_append_right _ (List.mem_of_getElem? (i := 247) (by decide +kernel))
theorem kw248 : (.fieldLink RX0 24 "NeededTrees$Outcomes" "told" "[I" : Cond) ∈ lw_tbl := List.mem_append_right _ (List.mem_of_getElem? (i := 248) (by decide +kernel))
theorem kw249 : (.fieldLink RX0 27 "NeededTrees$Outcomes" "many" "I" : Cond) ∈ lw_tbl := List.mem_append_right _ (List.mem_of_getElem? (i := 249) (by decide +kernel))
theorem kw250 : (.fieldLinkNest RX8 123 "NeededTrees$Outcomes" "many" "I" "NeededTrees" : Cond) ∈ lw_tbl := List.mem_append_right _ (List.mem_of_getElem? (i := 250) (by decide +kernel))
theorem kw264 : (.classLink RX8 62 RX7 : Cond) ∈ lw_tbl := List.mem_append_right _ (List.mem_of_getElem? (i := 264) (by decide +kernel))
theorem kw265 : (.instantiable RX7 8 : Cond) ∈ lw_tbl := List.mem_append_right _ (List.mem_of_getElem? (i := 265) (by decide +kernel))
theorem kw266 : (.methodLinkNest RX8 64 yX7_init "NeededTrees" : Cond) ∈ lw_tbl := List.mem_append_right _ (List.mem_of_getElem? (i := 266) (by decide +kernel))
theorem kw267 : (.instanceMethod yX7_init : Cond) ∈ lw_tbl := List.mem_append_right _ (List.mem_of_getElem? (i := 267) (by decide +kernel))
theorem kw268 : (.code yX7_init cX7_init 5 none : Cond) ∈ lw_tbl := List.mem_append_right _ (List.mem_of_getElem? (i := 268) (by decide +kernel))
theorem kw269 : (.methodLink RX7 3 objectInit : Cond) ∈ lw_tbl := List.mem_append_right _ (List.mem_of_getElem? (i := 269) (by decide +kernel))
theorem kw270 : (.fieldLink RX7 24 "NeededTrees$Walk" "rules" "LNeededTrees$Rules;" : Cond) ∈ lw_tbl := List.mem_append_right _ (List.mem_of_getElem? (i := 270) (by decide +kernel))
theorem kw271 : (.fieldLink RX7 28 "NeededTrees$Walk" "tree" "LNeededTrees$Tree;" : Cond) ∈ lw_tbl := List.mem_append_right _ (List.mem_of_getElem? (i := 271) (by decide +kernel))
theorem kw272 : (.fieldLink RX7 32 "NeededTrees$Walk" "terms" "LNeededTrees$Terms;" : Cond) ∈ lw_tbl := List.mem_append_right _ (List.mem_of_getElem? (i := 272) (by decide +kernel))
theorem kw273 : (.fieldLink RX7 36 "NeededTrees$Walk" "outcomes" "LNeededTrees$Outcomes;" : Cond) ∈ lw_tbl := List.mem_append_right _ (List.mem_of_getElem? (i := 273) (by decide +kernel))
theorem kw274 : (.fieldLink RX7 9 "NeededTrees$Walk" "marks" "[I" : Cond) ∈ lw_tbl := List.mem_append_right _ (List.mem_of_getElem? (i := 274) (by decide +kernel))
theorem kw275 : (.fieldLink RX7 15 "NeededTrees$Walk" "cells" "[I" : Cond) ∈ lw_tbl := List.mem_append_right _ (List.mem_of_getElem? (i := 275) (by decide +kernel))
theorem kw276 : (.fieldLink RX7 18 "NeededTrees$Walk" "asks" "[I" : Cond) ∈ lw_tbl := List.mem_append_right _ (List.mem_of_getElem? (i := 276) (by decide +kernel))
theorem kw277 : (.fieldLink RX7 21 "NeededTrees$Walk" "freeAsks" "[I" : Cond) ∈ lw_tbl := List.mem_append_right _ (List.mem_of_getElem? (i := 277) (by decide +kernel))
theorem kw295 : (.fieldLink RX8 12 "NeededTrees" "signature" "LNeededTrees$Signature;" : Cond) ∈ lw_tbl := List.mem_append_right _ (List.mem_of_getElem? (i := 295) (by decide +kernel))
theorem kw296 : (.fieldLink RX8 19 "NeededTrees" "row" "LNeededTrees$Row;" : Cond) ∈ lw_tbl := List.mem_append_right _ (List.mem_of_getElem? (i := 296) (by decide +kernel))
theorem kw297 : (.fieldLink RX8 26 "NeededTrees" "rules" "LNeededTrees$Rules;" : Cond) ∈ lw_tbl := List.mem_append_right _ (List.mem_of_getElem? (i := 297) (by decide +kernel))
theorem kw298 : (.fieldLink RX8 33 "NeededTrees" "tree" "LNeededTrees$Tree;" : Cond) ∈ lw_tbl := List.mem_append_right _ (List.mem_of_getElem? (i := 298) (by decide +kernel))
theorem kw299 : (.fieldLink RX8 42 "NeededTrees" "planter" "LNeededTrees$Planter;" : Cond) ∈ lw_tbl := List.mem_append_right _ (List.mem_of_getElem? (i := 299) (by decide +kernel))
theorem kw300 : (.fieldLink RX8 51 "NeededTrees" "terms" "LNeededTrees$Terms;" : Cond) ∈ lw_tbl := List.mem_append_right _ (List.mem_of_getElem? (i := 300) (by decide +kernel))
theorem kw301 : (.fieldLink RX8 58 "NeededTrees" "outcomes" "LNeededTrees$Outcomes;" : Cond) ∈ lw_tbl := List.mem_append_right _ (List.mem_of_getElem? (i := 301) (by decide +kernel))
theorem kw302 : (.fieldLink RX8 67 "NeededTrees" "walk" "LNeededTrees$Walk;" : Cond) ∈ lw_tbl := List.mem_append_right _ (List.mem_of_getElem? (i := 302) (by decide +kernel))
theorem kw303 : (.fieldLink RX8 87 "NeededTrees" "treeIsOld" "Z" : Cond) ∈ lw_tbl := List.mem_append_right _ (List.mem_of_getElem? (i := 303) (by decide +kernel))
theorem kw323 : (.methodLink RL 13 yX8_type : Cond) ∈ lw_tbl := List.mem_append_right _ (List.mem_of_getElem? (i := 323) (by decide +kernel))
theorem kw324 : (.instanceMethod yX8_type : Cond) ∈ lw_tbl := List.mem_append_right _ (List.mem_of_getElem? (i := 324) (by decide +kernel))
theorem kw325 : (.selects RX8 yX8_type yX8_type : Cond) ∈ lw_tbl := List.mem_append_right _ (List.mem_of_getElem? (i := 325) (by decide +kernel))
theorem kw326 : (.code yX8_type cX8_type 1 (some .int) : Cond) ∈ lw_tbl := List.mem_append_right _ (List.mem_of_getElem? (i := 326) (by decide +kernel))
theorem kw327 : (.methodLinkNest RX8 71 yX4_addType "NeededTrees" : Cond) ∈ lw_tbl := List.mem_append_right _ (List.mem_of_getElem? (i := 327) (by decide +kernel))
theorem kw329 : (.instanceMethod yX4_addType : Cond) ∈ lw_tbl := List.mem_append_right _ (List.mem_of_getElem? (i := 329) (by decide +kernel))
theorem kw330 : (.code yX4_addType cX4_addType 1 (some .int) : Cond) ∈ lw_tbl := List.mem_append_right _ (List.mem_of_getElem? (i := 330) (by decide +kernel))
theorem kw331 : (.methodLink RL 18 yX8_constructor : Cond) ∈ lw_tbl := List.mem_append_right _ (List.mem_of_getElem? (i := 331) (by decide +kernel))
theorem kw332 : (.instanceMethod yX8_constructor : Cond) ∈ lw_tbl := List.mem_append_right _ (List.mem_of_getElem? (i := 332) (by decide +kernel))
theorem kw333 : (.selects RX8 yX8_constructor yX8_constructor : Cond) ∈ lw_tbl := List.mem_append_right _ (List.mem_of_getElem? (i := 333) (by decide +kernel))
theorem kw334 : (.code yX8_constructor cX8_constructor 5 (some .int) : Cond) ∈ lw_tbl := List.mem_append_right _ (List.mem_of_getElem? (i := 334) (by decide +kernel))
theorem kw335 : (.methodLinkNest RX8 75 yX4_addConstructor "NeededTrees" : Cond) ∈ lw_tbl := List.mem_append_right _ (List.mem_of_getElem? (i := 335) (by decide +kernel))
theorem kw337 : (.instanceMethod yX4_addConstructor : Cond) ∈ lw_tbl := List.mem_append_right _ (List.mem_of_getElem? (i := 337) (by decide +kernel))
theorem kw338 : (.code yX4_addConstructor cX4_addConstructor 4 (some .int) : Cond) ∈ lw_tbl := List.mem_append_right _ (List.mem_of_getElem? (i := 338) (by decide +kernel))
theorem kw339 : (.methodLink RX4 31 yX4_areTypes : Cond) ∈ lw_tbl := List.mem_append_right _ (List.mem_of_getElem? (i := 339) (by decide +kernel))
theorem kw341 : (.instanceMethod yX4_areTypes : Cond) ∈ lw_tbl := List.mem_append_right _ (List.mem_of_getElem? (i := 341) (by decide +kernel))
theorem kw342 : (.code yX4_areTypes cX4_areTypes 4 (some .boolean) : Cond) ∈ lw_tbl := List.mem_append_right _ (List.mem_of_getElem? (i := 342) (by decide +kernel))
theorem kw343 : (.methodLink RX4 42 yX4_unpack : Cond) ∈ lw_tbl := List.mem_append_right _ (List.mem_of_getElem? (i := 343) (by decide +kernel))
theorem kw344 : (.static yX4_unpack : Cond) ∈ lw_tbl := List.mem_append_right _ (List.mem_of_getElem? (i := 344) (by decide +kernel))
theorem kw345 : (.code yX4_unpack cX4_unpack 2 (some .int) : Cond) ∈ lw_tbl := List.mem_append_right _ (List.mem_of_getElem? (i := 345) (by decide +kernel))
theorem kw346 : (.methodLinkNest RX4 35 yX8_set "NeededTrees" : Cond) ∈ lw_tbl := List.mem_append_right _ (List.mem_of_getElem? (i := 346) (by decide +kernel))
theorem kw347 : (.static yX8_set : Cond) ∈ lw_tbl := List.mem_append_right _ (List.mem_of_getElem? (i := 347) (by decide +kernel))
theorem kw348 : (.code yX8_set cX8_set 3 none : Cond) ∈ lw_tbl := List.mem_append_right _ (List.mem_of_getElem? (i := 348) (by decide +kernel))
theorem kw349 : (.methodLinkNest RX8 79 yX0_clear "NeededTrees" : Cond) ∈ lw_tbl := List.mem_append_right _ (List.mem_of_getElem? (i := 349) (by decide +kernel))
theorem kw351 : (.instanceMethod yX0_clear : Cond) ∈ lw_tbl := List.mem_append_right _ (List.mem_of_getElem? (i := 351) (by decide +kernel))
theorem kw352 : (.code yX0_clear cX0_clear 1 none : Cond) ∈ lw_tbl := List.mem_append_right _ (List.mem_of_getElem? (i := 352) (by decide +kernel))
theorem kw353 : (.methodLink RL 23 yX8_begin : Cond) ∈ lw_tbl := List.mem_append_right _ (List.mem_of_getElem? (i := 353) (by decide +kernel))
theorem kw354 : (.instanceMethod yX8_begin : Cond) ∈ lw_tbl := List.mem_append_right _ (List.mem_of_getElem? (i := 354) (by decide +kernel))
theorem kw355 : (.selects RX8 yX8_begin yX8_begin : Cond) ∈ lw_tbl := List.mem_append_right _ (List.mem_of_getElem? (i := 355) (by decide +kernel))
theorem kw356 : (.code yX8_begin cX8_begin 3 (some .boolean) : Cond) ∈ lw_tbl := List.mem_append_right _ (List.mem_of_getElem? (i := 356) (by decide +kernel))
theorem kw357 : (.methodLinkNest RX8 82 yX4_setFunction "NeededTrees" : Cond) ∈ lw_tbl := List.mem_append_right _ (List.mem_of_getElem? (i := 357) (by decide +kernel))
theorem kw359 : (.instanceMethod yX4_setFunction : Cond) ∈ lw_tbl := List.mem_append_right _ (List.mem_of_getElem? (i := 359) (by decide +kernel))
theorem kw360 : (.code yX4_setFunction cX4_setFunction 3 (some .boolean) : Cond) ∈ lw_tbl := List.mem_append_right _ (List.mem_of_getElem? (i := 360) (by decide +kernel))
theorem kw361 : (.methodLinkNest RX8 86 yX3_clear "NeededTrees" : Cond) ∈ lw_tbl := List.mem_append_right _ (List.mem_of_getElem? (i := 361) (by decide +kernel))
theorem kw363 : (.instanceMethod yX3_clear : Cond) ∈ lw_tbl := List.mem_append_right _ (List.mem_of_getElem? (i := 363) (by decide +kernel))
theorem kw364 : (.code yX3_clear cX3_clear 1 none : Cond) ∈ lw_tbl := List.mem_append_right _ (List.mem_of_getElem? (i := 364) (by decide +kernel))
theorem kw365 : (.methodLink RL 28 yX8_put : Cond) ∈ lw_tbl := List.mem_append_right _ (List.mem_of_getElem? (i := 365) (by decide +kernel))
theorem kw366 : (.instanceMethod yX8_put : Cond) ∈ lw_tbl := List.mem_append_right _ (List.mem_of_getElem? (i := 366) (by decide +kernel))
theorem kw367 : (.selects RX8 yX8_put yX8_put : Cond) ∈ lw_tbl := List.mem_append_right _ (List.mem_of_getElem? (i := 367) (by decide +kernel))
theorem kw368 : (.code yX8_put cX8_put 2 (some .int) : Cond) ∈ lw_tbl := List.mem_append_right _ (List.mem_of_getElem? (i := 368) (by decide +kernel))
theorem kw369 : (.methodLinkNest RX8 91 yX2_add "NeededTrees" : Cond) ∈ lw_tbl := List.mem_append_right _ (List.mem_of_getElem? (i := 369) (by decide +kernel))
theorem kw371 : (.instanceMethod yX2_add : Cond) ∈ lw_tbl := List.mem_append_right _ (List.mem_of_getElem? (i := 371) (by decide +kernel))
theorem kw372 : (.code yX2_add cX2_add 2 (some .int) : Cond) ∈ lw_tbl := List.mem_append_right _ (List.mem_of_getElem? (i := 372) (by decide +kernel))
theorem kw373 : (.methodLinkNest RX2 31 yX8_set "NeededTrees" : Cond) ∈ lw_tbl := List.mem_append_right _ (List.mem_of_getElem? (i := 373) (by decide +kernel))
theorem kw374 : (.methodLink RL 33 yX8_rule : Cond) ∈ lw_tbl := List.mem_append_right _ (List.mem_of_getElem? (i := 374) (by decide +kernel))
theorem kw375 : (.instanceMethod yX8_rule : Cond) ∈ lw_tbl := List.mem_append_right _ (List.mem_of_getElem? (i := 375) (by decide +kernel))
theorem kw376 : (.selects RX8 yX8_rule yX8_rule : Cond) ∈ lw_tbl := List.mem_append_right _ (List.mem_of_getElem? (i := 376) (by decide +kernel))
theorem kw377 : (.code yX8_rule cX8_rule 4 (some .int) : Cond) ∈ lw_tbl := List.mem_append_right _ (List.mem_of_getElem? (i := 377) (by decide +kernel))
theorem kw378 : (.methodLinkNest RX8 95 yX2_take "NeededTrees" : Cond) ∈ lw_tbl := List.mem_append_right _ (List.mem_of_getElem? (i := 378) (by decide +kernel))
theorem kw380 : (.instanceMethod yX2_take : Cond) ∈ lw_tbl := List.mem_append_right _ (List.mem_of_getElem? (i := 380) (by decide +kernel))
theorem kw381 : (.code yX2_take cX2_take 2 (some .int) : Cond) ∈ lw_tbl := List.mem_append_right _ (List.mem_of_getElem? (i := 381) (by decide +kernel))
theorem kw382 : (.methodLinkNest RX8 98 yX4_hasFunction "NeededTrees" : Cond) ∈ lw_tbl := List.mem_append_right _ (List.mem_of_getElem? (i := 382) (by decide +kernel))
theorem kw384 : (.instanceMethod yX4_hasFunction : Cond) ∈ lw_tbl := List.mem_append_right _ (List.mem_of_getElem? (i := 384) (by decide +kernel))
theorem kw385 : (.code yX4_hasFunction cX4_hasFunction 1 (some .boolean) : Cond) ∈ lw_tbl := List.mem_append_right _ (List.mem_of_getElem? (i := 385) (by decide +kernel))
theorem kw386 : (.methodLinkNest RX8 102 yX3_hasRoom "NeededTrees" : Cond) ∈ lw_tbl := List.mem_append_right _ (List.mem_of_getElem? (i := 386) (by decide +kernel))
theorem kw388 : (.instanceMethod yX3_hasRoom : Cond) ∈ lw_tbl := List.mem_append_right _ (List.mem_of_getElem? (i := 388) (by decide +kernel))
theorem kw389 : (.code yX3_hasRoom cX3_hasRoom 2 (some .boolean) : Cond) ∈ lw_tbl := List.mem_append_right _ (List.mem_of_getElem? (i := 389) (by decide +kernel))
theorem kw390 : (.methodLink RX3 34 yX3_start : Cond) ∈ lw_tbl := List.mem_append_right _ (List.mem_of_getElem? (i := 390) (by decide +kernel))
theorem kw392 : (.instanceMethod yX3_start : Cond) ∈ lw_tbl := List.mem_append_right _ (List.mem_of_getElem? (i := 392) (by decide +kernel))
theorem kw393 : (.code yX3_start cX3_start 2 (some .int) : Cond) ∈ lw_tbl := List.mem_append_right _ (List.mem_of_getElem? (i := 393) (by decide +kernel))
theorem kw394 : (.methodLinkNest RX3 38 yX8_get "NeededTrees" : Cond) ∈ lw_tbl := List.mem_append_right _ (List.mem_of_getElem? (i := 394) (by decide +kernel))
theorem kw395 : (.static yX8_get : Cond) ∈ lw_tbl := List.mem_append_right _ (List.mem_of_getElem? (i := 395) (by decide +kernel))
theorem kw396 : (.code yX8_get cX8_get 2 (some .int) : Cond) ∈ lw_tbl := List.mem_append_right _ (List.mem_of_getElem? (i := 396) (by decide +kernel))
theorem kw397 : (.methodLinkNest RX8 106 yX2_firstWrong "NeededTrees" : Cond) ∈ lw_tbl := List.mem_append_right _ (List.mem_of_getElem? (i := 397) (by decide +kernel))
theorem kw399 : (.instanceMethod yX2_firstWrong : Cond) ∈ lw_tbl := List.mem_append_right _ (List.mem_of_getElem? (i := 399) (by decide +kernel))
theorem kw400 : (.code yX2_firstWrong cX2_firstWrong 6 (some .int) : Cond) ∈ lw_tbl := List.mem_append_right _ (List.mem_of_getElem? (i := 400) (by decide +kernel))
theorem kw401 : (.methodLink RX2 35 yJ7_fill_53178 : Cond) ∈ lw_tbl := List.mem_append_right _ (List.mem_of_getElem? (i := 401) (by decide +kernel))
theorem kw402 : (.static yJ7_fill_53178 : Cond) ∈ lw_tbl := List.mem_append_right _ (List.mem_of_getElem? (i := 402) (by decide +kernel))
theorem kw403 : (.code yJ7_fill_53178 cJ7_fill_53178 4 none : Cond) ∈ lw_tbl := List.mem_append_right _ (List.mem_of_getElem? (i := 403) (by decide +kernel))
theorem kw404 : (.methodLink RX2 47 yX2_isWhole : Cond) ∈ lw_tbl := List.mem_append_right _ (List.mem_of_getElem? (i := 404) (by decide +kernel))
theorem kw406 : (.instanceMethod yX2_isWhole : Cond) ∈ lw_tbl := List.mem_append_right _ (List.mem_of_getElem? (i := 406) (by decide +kernel))
theorem kw407 : (.code yX2_isWhole cX2_isWhole 2 (some .boolean) : Cond) ∈ lw_tbl := List.mem_append_right _ (List.mem_of_getElem? (i := 407) (by decide +kernel))
theorem kw408 : (.methodLinkNest RX2 77 yX4_parts "NeededTrees" : Cond) ∈ lw_tbl := List.mem_append_right _ (List.mem_of_getElem? (i := 408) (by decide +kernel))
theorem kw410 : (.instanceMethod yX4_parts : Cond) ∈ lw_tbl := List.mem_append_right _ (List.mem_of_getElem? (i := 410) (by decide +kernel))
theorem kw411 : (.code yX4_parts cX4_parts 2 (some .int) : Cond) ∈ lw_tbl := List.mem_append_right _ (List.mem_of_getElem? (i := 411) (by decide +kernel))
theorem kw412 : (.methodLinkNest RX4 46 yX8_get "NeededTrees" : Cond) ∈ lw_tbl := List.mem_append_right _ (List.mem_of_getElem? (i := 412) (by decide +kernel))
theorem kw413 : (.methodLink RX2 51 yX2_holding : Cond) ∈ lw_tbl := List.mem_append_right _ (List.mem_of_getElem? (i := 413) (by decide +kernel))
theorem kw415 : (.instanceMethod yX2_holding : Cond) ∈ lw_tbl := List.mem_append_right _ (List.mem_of_getElem? (i := 415) (by decide +kernel))
theorem kw416 : (.code yX2_holding cX2_holding 1 (some .int) : Cond) ∈ lw_tbl := List.mem_append_right _ (List.mem_of_getElem? (i := 416) (by decide +kernel))
theorem kw417 : (.methodLinkNest RX2 61 yX8_get "NeededTrees" : Cond) ∈ lw_tbl := List.mem_append_right _ (List.mem_of_getElem? (i := 417) (by decide +kernel))
theorem kw418 : (.methodLinkNest RX2 55 yX4_wanted "NeededTrees" : Cond) ∈ lw_tbl := List.mem_append_right _ (List.mem_of_getElem? (i := 418) (by decide +kernel))
theorem kw420 : (.instanceMethod yX4_wanted : Cond) ∈ lw_tbl := List.mem_append_right _ (List.mem_of_getElem? (i := 420) (by decide +kernel))
theorem kw421 : (.code yX4_wanted cX4_wanted 3 (some .int) : Cond) ∈ lw_tbl := List.mem_append_right _ (List.mem_of_getElem? (i := 421) (by decide +kernel))
theorem kw422 : (.methodLink RX2 65 yX2_fits : Cond) ∈ lw_tbl := List.mem_append_right _ (List.mem_of_getElem? (i := 422) (by decide +kernel))
theorem kw424 : (.instanceMethod yX2_fits : Cond) ∈ lw_tbl := List.mem_append_right _ (List.mem_of_getElem? (i := 424) (by decide +kernel))
theorem kw425 : (.code yX2_fits cX2_fits 6 (some .boolean) : Cond) ∈ lw_tbl := List.mem_append_right _ (List.mem_of_getElem? (i := 425) (by decide +kernel))
theorem kw426 : (.methodLinkNest RX2 81 yX4_typeOf "NeededTrees" : Cond) ∈ lw_tbl := List.mem_append_right _ (List.mem_of_getElem? (i := 426) (by decide +kernel))
theorem kw428 : (.instanceMethod yX4_typeOf : Cond) ∈ lw_tbl := List.mem_append_right _ (List.mem_of_getElem? (i := 428) (by decide +kernel))
theorem kw429 : (.code yX4_typeOf cX4_typeOf 2 (some .int) : Cond) ∈ lw_tbl := List.mem_append_right _ (List.mem_of_getElem? (i := 429) (by decide +kernel))
theorem kw430 : (.methodLink RX2 69 yX2_hang : Cond) ∈ lw_tbl := List.mem_append_right _ (List.mem_of_getElem? (i := 430) (by decide +kernel))
theorem kw432 : (.instanceMethod yX2_hang : Cond) ∈ lw_tbl := List.mem_append_right _ (List.mem_of_getElem? (i := 432) (by decide +kernel))
theorem kw433 : (.code yX2_hang cX2_hang 2 none : Cond) ∈ lw_tbl := List.mem_append_right _ (List.mem_of_getElem? (i := 433) (by decide +kernel))
theorem kw434 : (.methodLink RX2 73 yX2_closeWhole : Cond) ∈ lw_tbl := List.mem_append_right _ (List.mem_of_getElem? (i := 434) (by decide +kernel))
theorem kw436 : (.instanceMethod yX2_closeWhole : Cond) ∈ lw_tbl := List.mem_append_right _ (List.mem_of_getElem? (i := 436) (by decide +kernel))
theorem kw437 : (.code yX2_closeWhole cX2_closeWhole 4 none : Cond) ∈ lw_tbl := List.mem_append_right _ (List.mem_of_getElem? (i := 437) (by decide +kernel))
theorem kw438 : (.methodLinkNest RX8 110 yX3_add "NeededTrees" : Cond) ∈ lw_tbl := List.mem_append_right _ (List.mem_of_getElem? (i := 438) (by decide +kernel))
theorem kw440 : (.instanceMethod yX3_add : Cond) ∈ lw_tbl := List.mem_append_right _ (List.mem_of_getElem? (i := 440) (by decide +kernel))
theorem kw441 : (.code yX3_add cX3_add 6 (some .int) : Cond) ∈ lw_tbl := List.mem_append_right _ (List.mem_of_getElem? (i := 441) (by decide +kernel))
theorem kw442 : (.methodLinkNest RX3 48 yX8_set "NeededTrees" : Cond) ∈ lw_tbl := List.mem_append_right _ (List.mem_of_getElem? (i := 442) (by decide +kernel))
theorem kw443 : (.methodLink RL 37 yX8_lead : Cond) ∈ lw_tbl := List.mem_append_right _ (List.mem_of_getElem? (i := 443) (by decide +kernel))
theorem kw444 : (.instanceMethod yX8_lead : Cond) ∈ lw_tbl := List.mem_append_right _ (List.mem_of_getElem? (i := 444) (by decide +kernel))
theorem kw445 : (.selects RX8 yX8_lead yX8_lead : Cond) ∈ lw_tbl := List.mem_append_right _ (List.mem_of_getElem? (i := 445) (by decide +kernel))
theorem kw446 : (.code yX8_lead cX8_lead 3 (some .int) : Cond) ∈ lw_tbl := List.mem_append_right _ (List.mem_of_getElem? (i := 446) (by decide +kernel))
theorem kw447 : (.methodLinkNest RX8 113 yX5_load "NeededTrees" : Cond) ∈ lw_tbl := List.mem_append_right _ (List.mem_of_getElem? (i := 447) (by decide +kernel))
theorem kw449 : (.instanceMethod yX5_load : Cond) ∈ lw_tbl := List.mem_append_right _ (List.mem_of_getElem? (i := 449) (by decide +kernel))
theorem kw450 : (.code yX5_load cX5_load 6 none : Cond) ∈ lw_tbl := List.mem_append_right _ (List.mem_of_getElem? (i := 450) (by decide +kernel))
theorem kw451 : (.methodLinkNest RX5 37 yX8_set "NeededTrees" : Cond) ∈ lw_tbl := List.mem_append_right _ (List.mem_of_getElem? (i := 451) (by decide +kernel))
theorem kw452 : (.methodLinkNest RX5 46 yX8_get "NeededTrees" : Cond) ∈ lw_tbl := List.mem_append_right _ (List.mem_of_getElem? (i := 452) (by decide +kernel))
theorem kw453 : (.methodLink RX8 117 yX8_refreshTree : Cond) ∈ lw_tbl := List.mem_append_right _ (List.mem_of_getElem? (i := 453) (by decide +kernel))
theorem kw455 : (.instanceMethod yX8_refreshTree : Cond) ∈ lw_tbl := List.mem_append_right _ (List.mem_of_getElem? (i := 455) (by decide +kernel))
theorem kw456 : (.code yX8_refreshTree cX8_refreshTree 1 none : Cond) ∈ lw_tbl := List.mem_append_right _ (List.mem_of_getElem? (i := 456) (by decide +kernel))
theorem kw457 : (.methodLinkNest RX8 163 yX1_plant "NeededTrees" : Cond) ∈ lw_tbl := List.mem_append_right _ (List.mem_of_getElem? (i := 457) (by decide +kernel))
theorem kw459 : (.instanceMethod yX1_plant : Cond) ∈ lw_tbl := List.mem_append_right _ (List.mem_of_getElem? (i := 459) (by decide +kernel))
theorem kw460 : (.code yX1_plant cX1_plant 2 none : Cond) ∈ lw_tbl := List.mem_append_right _ (List.mem_of_getElem? (i := 460) (by decide +kernel))
theorem kw461 : (.methodLinkNest RX1 32 yX6_clear "NeededTrees" : Cond) ∈ lw_tbl := List.mem_append_right _ (List.mem_of_getElem? (i := 461) (by decide +kernel))
theorem kw463 : (.instanceMethod yX6_clear : Cond) ∈ lw_tbl := List.mem_append_right _ (List.mem_of_getElem? (i := 463) (by decide +kernel))
theorem kw464 : (.code yX6_clear cX6_clear 1 none : Cond) ∈ lw_tbl := List.mem_append_right _ (List.mem_of_getElem? (i := 464) (by decide +kernel))
theorem kw465 : (.methodLinkNest RX1 37 yX3_forgetAsked "NeededTrees" : Cond) ∈ lw_tbl := List.mem_append_right _ (List.mem_of_getElem? (i := 465) (by decide +kernel))
theorem kw467 : (.instanceMethod yX3_forgetAsked : Cond) ∈ lw_tbl := List.mem_append_right _ (List.mem_of_getElem? (i := 467) (by decide +kernel))
theorem kw468 : (.code yX3_forgetAsked cX3_forgetAsked 1 none : Cond) ∈ lw_tbl := List.mem_append_right _ (List.mem_of_getElem? (i := 468) (by decide +kernel))
theorem kw469 : (.methodLink RX3 54 yJ7_fill_53178 : Cond) ∈ lw_tbl := List.mem_append_right _ (List.mem_of_getElem? (i := 469) (by decide +kernel))
theorem kw470 : (.methodLink RX1 49 yX1_await : Cond) ∈ lw_tbl := List.mem_append_right _ (List.mem_of_getElem? (i := 470) (by decide +kernel))
theorem kw472 : (.instanceMethod yX1_await : Cond) ∈ lw_tbl := List.mem_append_right _ (List.mem_of_getElem? (i := 472) (by decide +kernel))
theorem kw473 : (.code yX1_await cX1_await 4 none : Cond) ∈ lw_tbl := List.mem_append_right _ (List.mem_of_getElem? (i := 473) (by decide +kernel))
theorem kw474 : (.methodLinkNest RX1 60 yX8_set "NeededTrees" : Cond) ∈ lw_tbl := List.mem_append_right _ (List.mem_of_getElem? (i := 474) (by decide +kernel))
theorem kw475 : (.methodLinkNest RX1 53 yX8_get "NeededTrees" : Cond) ∈ lw_tbl := List.mem_append_right _ (List.mem_of_getElem? (i := 475) (by decide +kernel))
theorem kw476 : (.methodLink RX1 57 yX1_grow : Cond) ∈ lw_tbl := List.mem_append_right _ (List.mem_of_getElem? (i := 476) (by decide +kernel))
theorem kw478 : (.instanceMethod yX1_grow : Cond) ∈ lw_tbl := List.mem_append_right _ (List.mem_of_getElem? (i := 478) (by decide +kernel))
theorem kw479 : (.code yX1_grow cX1_grow 7 none : Cond) ∈ lw_tbl := List.mem_append_right _ (List.mem_of_getElem? (i := 479) (by decide +kernel))
theorem kw480 : (.methodLink RX1 64 yX1_takePosition : Cond) ∈ lw_tbl := List.mem_append_right _ (List.mem_of_getElem? (i := 480) (by decide +kernel))
theorem kw482 : (.instanceMethod yX1_takePosition : Cond) ∈ lw_tbl := List.mem_append_right _ (List.mem_of_getElem? (i := 482) (by decide +kernel))
theorem kw483 : (.code yX1_takePosition cX1_takePosition 6 (some .int) : Cond) ∈ lw_tbl := List.mem_append_right _ (List.mem_of_getElem? (i := 483) (by decide +kernel))
theorem kw484 : (.methodLink RX1 68 yX1_firstOf : Cond) ∈ lw_tbl := List.mem_append_right _ (List.mem_of_getElem? (i := 484) (by decide +kernel))
theorem kw485 : (.static yX1_firstOf : Cond) ∈ lw_tbl := List.mem_append_right _ (List.mem_of_getElem? (i := 485) (by decide +kernel))
theorem kw486 : (.code yX1_firstOf cX1_firstOf 1 (some .int) : Cond) ∈ lw_tbl := List.mem_append_right _ (List.mem_of_getElem? (i := 486) (by decide +kernel))
theorem kw487 : (.methodLink RX1 82 yJ6_bitCount_0f7a4 : Cond) ∈ lw_tbl := List.mem_append_right _ (List.mem_of_getElem? (i := 487) (by decide +kernel))
theorem kw488 : (.static yJ6_bitCount_0f7a4 : Cond) ∈ lw_tbl := List.mem_append_right _ (List.mem_of_getElem? (i := 488) (by decide +kernel))
theorem kw489 : (.code yJ6_bitCount_0f7a4 cJ6_bitCount_0f7a4 1 (some .int) : Cond) ∈ lw_tbl := List.mem_append_right _ (List.mem_of_getElem? (i := 489) (by decide +kernel))
theorem kw490 : (.constant RJ6 265 (1431655765 : Int32) : Cond) ∈ lw_tbl := List.mem_append_right _ (List.mem_of_getElem? (i := 490) (by decide +kernel))
theorem kw491 : (.constant RJ6 266 (858993459 : Int32) : Cond) ∈ lw_tbl := List.mem_append_right _ (List.mem_of_getElem? (i := 491) (by decide +kernel))
theorem kw492 : (.constant RJ6 267 (252645135 : Int32) : Cond) ∈ lw_tbl := List.mem_append_right _ (List.mem_of_getElem? (i := 492) (by decide +kernel))
theorem kw493 : (.methodLink RX1 90 yX1_startCursors : Cond) ∈ lw_tbl := List.mem_append_right _ (List.mem_of_getElem? (i := 493) (by decide +kernel))
theorem kw495 : (.instanceMethod yX1_startCursors : Cond) ∈ lw_tbl := List.mem_append_right _ (List.mem_of_getElem? (i := 495) (by decide +kernel))
theorem kw496 : (.code yX1_startCursors cX1_startCursors 3 none : Cond) ∈ lw_tbl := List.mem_append_right _ (List.mem_of_getElem? (i := 496) (by decide +kernel))
theorem kw497 : (.methodLinkNest RX1 110 yX8_has "NeededTrees" : Cond) ∈ lw_tbl := List.mem_append_right _ (List.mem_of_getElem? (i := 497) (by decide +kernel))
theorem kw498 : (.static yX8_has : Cond) ∈ lw_tbl := List.mem_append_right _ (List.mem_of_getElem? (i := 498) (by decide +kernel))
theorem kw499 : (.code yX8_has cX8_has 2 (some .boolean) : Cond) ∈ lw_tbl := List.mem_append_right _ (List.mem_of_getElem? (i := 499) (by decide +kernel))
theorem kw500 : (.methodLinkNest RX1 94 yX3_start "NeededTrees" : Cond) ∈ lw_tbl := List.mem_append_right _ (List.mem_of_getElem? (i := 500) (by decide +kernel))
theorem kw501 : (.methodLinkNest RX1 97 yX3_isAsked "NeededTrees" : Cond) ∈ lw_tbl := List.mem_append_right _ (List.mem_of_getElem? (i := 501) (by decide +kernel))
theorem kw503 : (.instanceMethod yX3_isAsked : Cond) ∈ lw_tbl := List.mem_append_right _ (List.mem_of_getElem? (i := 503) (by decide +kernel))
theorem kw504 : (.code yX3_isAsked cX3_isAsked 2 (some .boolean) : Cond) ∈ lw_tbl := List.mem_append_right _ (List.mem_of_getElem? (i := 504) (by decide +kernel))
theorem kw505 : (.methodLink RX1 101 yX1_enter : Cond) ∈ lw_tbl := List.mem_append_right _ (List.mem_of_getElem? (i := 505) (by decide +kernel))
theorem kw507 : (.instanceMethod yX1_enter : Cond) ∈ lw_tbl := List.mem_append_right _ (List.mem_of_getElem? (i := 507) (by decide +kernel))
theorem kw508 : (.code yX1_enter cX1_enter 3 none : Cond) ∈ lw_tbl := List.mem_append_right _ (List.mem_of_getElem? (i := 508) (by decide +kernel))
theorem kw509 : (.methodLink RX1 104 yX1_needing : Cond) ∈ lw_tbl := List.mem_append_right _ (List.mem_of_getElem? (i := 509) (by decide +kernel))
theorem kw511 : (.instanceMethod yX1_needing : Cond) ∈ lw_tbl := List.mem_append_right _ (List.mem_of_getElem? (i := 511) (by decide +kernel))
theorem kw512 : (.code yX1_needing cX1_needing 4 (some .int) : Cond) ∈ lw_tbl := List.mem_append_right _ (List.mem_of_getElem? (i := 512) (by decide +kernel))
theorem kw513 : (.methodLinkNest RX1 117 yX3_isVariable "NeededTrees" : Cond) ∈ lw_tbl := List.mem_append_right _ (List.mem_of_getElem? (i := 513) (by decide +kernel))
theorem kw515 : (.instanceMethod yX3_isVariable : Cond) ∈ lw_tbl := List.mem_append_right _ (List.mem_of_getElem? (i := 515) (by decide +kernel))
theorem kw516 : (.code yX3_isVariable cX3_isVariable 2 (some .boolean) : Cond) ∈ lw_tbl := List.mem_append_right _ (List.mem_of_getElem? (i := 516) (by decide +kernel))
theorem kw517 : (.methodLink RX1 107 yX1_pass : Cond) ∈ lw_tbl := List.mem_append_right _ (List.mem_of_getElem? (i := 517) (by decide +kernel))
theorem kw519 : (.instanceMethod yX1_pass : Cond) ∈ lw_tbl := List.mem_append_right _ (List.mem_of_getElem? (i := 519) (by decide +kernel))
theorem kw520 : (.code yX1_pass cX1_pass 3 none : Cond) ∈ lw_tbl := List.mem_append_right _ (List.mem_of_getElem? (i := 520) (by decide +kernel))
theorem kw521 : (.methodLink RX1 71 yX1_ask : Cond) ∈ lw_tbl := List.mem_append_right _ (List.mem_of_getElem? (i := 521) (by decide +kernel))
theorem kw523 : (.instanceMethod yX1_ask : Cond) ∈ lw_tbl := List.mem_append_right _ (List.mem_of_getElem? (i := 523) (by decide +kernel))
theorem kw524 : (.code yX1_ask cX1_ask 7 none : Cond) ∈ lw_tbl := List.mem_append_right _ (List.mem_of_getElem? (i := 524) (by decide +kernel))
theorem kw525 : (.methodLink RX1 120 yX1_lastConstructor : Cond) ∈ lw_tbl := List.mem_append_right _ (List.mem_of_getElem? (i := 525) (by decide +kernel))
theorem kw527 : (.instanceMethod yX1_lastConstructor : Cond) ∈ lw_tbl := List.mem_append_right _ (List.mem_of_getElem? (i := 527) (by decide +kernel))
theorem kw528 : (.code yX1_lastConstructor cX1_lastConstructor 4 (some .int) : Cond) ∈ lw_tbl := List.mem_append_right _ (List.mem_of_getElem? (i := 528) (by decide +kernel))
theorem kw529 : (.methodLink RX1 133 yJ9_max_7cf53 : Cond) ∈ lw_tbl := List.mem_append_right _ (List.mem_of_getElem? (i := 529) (by decide +kernel))
theorem kw530 : (.static yJ9_max_7cf53 : Cond) ∈ lw_tbl := List.mem_append_right _ (List.mem_of_getElem? (i := 530) (by decide +kernel))
theorem kw531 : (.code yJ9_max_7cf53 cJ9_max_7cf53 2 (some .int) : Cond) ∈ lw_tbl := List.mem_append_right _ (List.mem_of_getElem? (i := 531) (by decide +kernel))
theorem kw532 : (.methodLink RX1 123 yX1_having : Cond) ∈ lw_tbl := List.mem_append_right _ (List.mem_of_getElem? (i := 532) (by decide +kernel))
theorem kw534 : (.instanceMethod yX1_having : Cond) ∈ lw_tbl := List.mem_append_right _ (List.mem_of_getElem? (i := 534) (by decide +kernel))
theorem kw535 : (.code yX1_having cX1_having 5 (some .int) : Cond) ∈ lw_tbl := List.mem_append_right _ (List.mem_of_getElem? (i := 535) (by decide +kernel))
theorem kw536 : (.methodLinkNest RX1 75 yX6_add "NeededTrees" : Cond) ∈ lw_tbl := List.mem_append_right _ (List.mem_of_getElem? (i := 536) (by decide +kernel))
theorem kw538 : (.instanceMethod yX6_add : Cond) ∈ lw_tbl := List.mem_append_right _ (List.mem_of_getElem? (i := 538) (by decide +kernel))
theorem kw539 : (.code yX6_add cX6_add 6 none : Cond) ∈ lw_tbl := List.mem_append_right _ (List.mem_of_getElem? (i := 539) (by decide +kernel))
theorem kw540 : (.methodLinkNest RX6 34 yX8_set "NeededTrees" : Cond) ∈ lw_tbl := List.mem_append_right _ (List.mem_of_getElem? (i := 540) (by decide +kernel))
theorem kw541 : (.methodLink RX1 79 yX1_partByNeed : Cond) ∈ lw_tbl := List.mem_append_right _ (List.mem_of_getElem? (i := 541) (by decide +kernel))
theorem kw543 : (.instanceMethod yX1_partByNeed : Cond) ∈ lw_tbl := List.mem_append_right _ (List.mem_of_getElem? (i := 543) (by decide +kernel))
theorem kw544 : (.code yX1_partByNeed cX1_partByNeed 7 none : Cond) ∈ lw_tbl := List.mem_append_right _ (List.mem_of_getElem? (i := 544) (by decide +kernel))
theorem kw545 : (.methodLink RX1 87 yX1_partEach : Cond) ∈ lw_tbl := List.mem_append_right _ (List.mem_of_getElem? (i := 545) (by decide +kernel))
theorem kw547 : (.instanceMethod yX1_partEach : Cond) ∈ lw_tbl := List.mem_append_right _ (List.mem_of_getElem? (i := 547) (by decide +kernel))
theorem kw548 : (.code yX1_partEach cX1_partEach 4 none : Cond) ∈ lw_tbl := List.mem_append_right _ (List.mem_of_getElem? (i := 548) (by decide +kernel))
theorem kw549 : (.methodLinkNest RX8 120 yX7_reachesAll "NeededTrees" : Cond) ∈ lw_tbl := List.mem_append_right _ (List.mem_of_getElem? (i := 549) (by decide +kernel))
theorem kw551 : (.instanceMethod yX7_reachesAll : Cond) ∈ lw_tbl := List.mem_append_right _ (List.mem_of_getElem? (i := 551) (by decide +kernel))
theorem kw552 : (.code yX7_reachesAll cX7_reachesAll 4 (some .boolean) : Cond) ∈ lw_tbl := List.mem_append_right _ (List.mem_of_getElem? (i := 552) (by decide +kernel))
theorem kw553 : (.methodLinkNest RX7 49 yX8_get "NeededTrees" : Cond) ∈ lw_tbl := List.mem_append_right _ (List.mem_of_getElem? (i := 553) (by decide +kernel))
theorem kw554 : (.methodLink RX7 53 yX7_comesTo : Cond) ∈ lw_tbl := List.mem_append_right _ (List.mem_of_getElem? (i := 554) (by decide +kernel))
theorem kw556 : (.instanceMethod yX7_comesTo : Cond) ∈ lw_tbl := List.mem_append_right _ (List.mem_of_getElem? (i := 556) (by decide +kernel))
theorem kw557 : (.code yX7_comesTo cX7_comesTo 5 (some .boolean) : Cond) ∈ lw_tbl := List.mem_append_right _ (List.mem_of_getElem? (i := 557) (by decide +kernel))
theorem kw558 : (.methodLinkNest RX7 74 yX5_unbindTo "NeededTrees" : Cond) ∈ lw_tbl := List.mem_append_right _ (List.mem_of_getElem? (i := 558) (by decide +kernel))
theorem kw560 : (.instanceMethod yX5_unbindTo : Cond) ∈ lw_tbl := List.mem_append_right _ (List.mem_of_getElem? (i := 560) (by decide +kernel))
theorem kw561 : (.code yX5_unbindTo cX5_unbindTo 4 none : Cond) ∈ lw_tbl := List.mem_append_right _ (List.mem_of_getElem? (i := 561) (by decide +kernel))
theorem kw562 : (.methodLinkNest RX5 65 yX4_parts "NeededTrees" : Cond) ∈ lw_tbl := List.mem_append_right _ (List.mem_of_getElem? (i := 562) (by decide +kernel))
theorem kw563 : (.methodLinkNest RX7 81 yX5_isFree "NeededTrees" : Cond) ∈ lw_tbl := List.mem_append_right _ (List.mem_of_getElem? (i := 563) (by decide +kernel))
theorem kw565 : (.instanceMethod yX5_isFree : Cond) ∈ lw_tbl := List.mem_append_right _ (List.mem_of_getElem? (i := 565) (by decide +kernel))
theorem kw566 : (.code yX5_isFree cX5_isFree 2 (some .boolean) : Cond) ∈ lw_tbl := List.mem_append_right _ (List.mem_of_getElem? (i := 566) (by decide +kernel))
theorem kw567 : (.methodLinkNest RX7 85 yX5_bind "NeededTrees" : Cond) ∈ lw_tbl := List.mem_append_right _ (List.mem_of_getElem? (i := 567) (by decide +kernel))
theorem kw569 : (.instanceMethod yX5_bind : Cond) ∈ lw_tbl := List.mem_append_right _ (List.mem_of_getElem? (i := 569) (by decide +kernel))
theorem kw570 : (.code yX5_bind cX5_bind 5 none : Cond) ∈ lw_tbl := List.mem_append_right _ (List.mem_of_getElem? (i := 570) (by decide +kernel))
theorem kw571 : (.methodLinkNest RX7 95 yX8_set "NeededTrees" : Cond) ∈ lw_tbl := List.mem_append_right _ (List.mem_of_getElem? (i := 571) (by decide +kernel))
theorem kw572 : (.methodLink RX7 99 yX7_ask : Cond) ∈ lw_tbl := List.mem_append_right _ (List.mem_of_getElem? (i := 572) (by decide +kernel))
theorem kw574 : (.instanceMethod yX7_ask : Cond) ∈ lw_tbl := List.mem_append_right _ (List.mem_of_getElem? (i := 574) (by decide +kernel))
theorem kw575 : (.code yX7_ask cX7_ask 6 none : Cond) ∈ lw_tbl := List.mem_append_right _ (List.mem_of_getElem? (i := 575) (by decide +kernel))
theorem kw576 : (.methodLinkNest RX7 113 yX5_part "NeededTrees" : Cond) ∈ lw_tbl := List.mem_append_right _ (List.mem_of_getElem? (i := 576) (by decide +kernel))
theorem kw578 : (.instanceMethod yX5_part : Cond) ∈ lw_tbl := List.mem_append_right _ (List.mem_of_getElem? (i := 578) (by decide +kernel))
theorem kw579 : (.code yX5_part cX5_part 5 (some .int) : Cond) ∈ lw_tbl := List.mem_append_right _ (List.mem_of_getElem? (i := 579) (by decide +kernel))
theorem kw580 : (.methodLink RX5 61 yX5_meant : Cond) ∈ lw_tbl := List.mem_append_right _ (List.mem_of_getElem? (i := 580) (by decide +kernel))
theorem kw582 : (.instanceMethod yX5_meant : Cond) ∈ lw_tbl := List.mem_append_right _ (List.mem_of_getElem? (i := 582) (by decide +kernel))
theorem kw583 : (.code yX5_meant cX5_meant 3 (some .int) : Cond) ∈ lw_tbl := List.mem_append_right _ (List.mem_of_getElem? (i := 583) (by decide +kernel))
theorem kw584 : (.methodLinkNest RX7 68 yX0_add "NeededTrees" : Cond) ∈ lw_tbl := List.mem_append_right _ (List.mem_of_getElem? (i := 584) (by decide +kernel))
theorem kw586 : (.instanceMethod yX0_add : Cond) ∈ lw_tbl := List.mem_append_right _ (List.mem_of_getElem? (i := 586) (by decide +kernel))
theorem kw587 : (.code yX0_add cX0_add 5 none : Cond) ∈ lw_tbl := List.mem_append_right _ (List.mem_of_getElem? (i := 587) (by decide +kernel))
theorem kw588 : (.methodLinkNest RX0 36 yX8_set "NeededTrees" : Cond) ∈ lw_tbl := List.mem_append_right _ (List.mem_of_getElem? (i := 588) (by decide +kernel))
theorem kw589 : (.methodLinkNest RX0 40 yX5_write "NeededTrees" : Cond) ∈ lw_tbl := List.mem_append_right _ (List.mem_of_getElem? (i := 589) (by decide +kernel))
theorem kw591 : (.instanceMethod yX5_write : Cond) ∈ lw_tbl := List.mem_append_right _ (List.mem_of_getElem? (i := 591) (by decide +kernel))
theorem kw592 : (.code yX5_write cX5_write 7 none : Cond) ∈ lw_tbl := List.mem_append_right _ (List.mem_of_getElem? (i := 592) (by decide +kernel))
theorem kw593 : (.methodLink RX5 70 yJ7_fill_53178 : Cond) ∈ lw_tbl := List.mem_append_right _ (List.mem_of_getElem? (i := 593) (by decide +kernel))
theorem kw594 : (.methodLink RX5 79 yX5_leave : Cond) ∈ lw_tbl := List.mem_append_right _ (List.mem_of_getElem? (i := 594) (by decide +kernel))
theorem kw596 : (.instanceMethod yX5_leave : Cond) ∈ lw_tbl := List.mem_append_right _ (List.mem_of_getElem? (i := 596) (by decide +kernel))
theorem kw597 : (.code yX5_leave cX5_leave 5 none : Cond) ∈ lw_tbl := List.mem_append_right _ (List.mem_of_getElem? (i := 597) (by decide +kernel))
theorem kw598 : (.methodLink RL 41 yX8_outcome : Cond) ∈ lw_tbl := List.mem_append_right _ (List.mem_of_getElem? (i := 598) (by decide +kernel))
theorem kw599 : (.instanceMethod yX8_outcome : Cond) ∈ lw_tbl := List.mem_append_right _ (List.mem_of_getElem? (i := 599) (by decide +kernel))
theorem kw600 : (.selects RX8 yX8_outcome yX8_outcome : Cond) ∈ lw_tbl := List.mem_append_right _ (List.mem_of_getElem? (i := 600) (by decide +kernel))
theorem kw601 : (.code yX8_outcome cX8_outcome 3 (some .int) : Cond) ∈ lw_tbl := List.mem_append_right _ (List.mem_of_getElem? (i := 601) (by decide +kernel))
theorem kw602 : (.methodLinkNest RX8 127 yX0_answer "NeededTrees" : Cond) ∈ lw_tbl := List.mem_append_right _ (List.mem_of_getElem? (i := 602) (by decide +kernel))
theorem kw604 : (.instanceMethod yX0_answer : Cond) ∈ lw_tbl := List.mem_append_right _ (List.mem_of_getElem? (i := 604) (by decide +kernel))
theorem kw605 : (.code yX0_answer cX0_answer 4 (some .int) : Cond) ∈ lw_tbl := List.mem_append_right _ (List.mem_of_getElem? (i := 605) (by decide +kernel))
theorem kw606 : (.methodLinkNest RX0 44 yX8_get "NeededTrees" : Cond) ∈ lw_tbl := List.mem_append_right _ (List.mem_of_getElem? (i := 606) (by decide +kernel))
theorem kw607 : (.methodLink RL 46 yX8_size : Cond) ∈ lw_tbl := List.mem_append_right _ (List.mem_of_getElem? (i := 607) (by decide +kernel))
theorem kw608 : (.instanceMethod yX8_size : Cond) ∈ lw_tbl := List.mem_append_right _ (List.mem_of_getElem? (i := 608) (by decide +kernel))
theorem kw609 : (.selects RX8 yX8_size yX8_size : Cond) ∈ lw_tbl := List.mem_append_right _ (List.mem_of_getElem? (i := 609) (by decide +kernel))
theorem kw610 : (.code yX8_size cX8_size 1 (some .int) : Cond) ∈ lw_tbl := List.mem_append_right _ (List.mem_of_getElem? (i := 610) (by decide +kernel))
theorem kw611 : (.methodLink RL 50 yX8_node : Cond) ∈ lw_tbl := List.mem_append_right _ (List.mem_of_getElem? (i := 611) (by decide +kernel))
theorem kw612 : (.instanceMethod yX8_node : Cond) ∈ lw_tbl := List.mem_append_right _ (List.mem_of_getElem? (i := 612) (by decide +kernel))
theorem kw613 : (.selects RX8 yX8_node yX8_node : Cond) ∈ lw_tbl := List.mem_append_right _ (List.mem_of_getElem? (i := 613) (by decide +kernel))
theorem kw614 : (.code yX8_node cX8_node 3 (some .int) : Cond) ∈ lw_tbl := List.mem_append_right _ (List.mem_of_getElem? (i := 614) (by decide +kernel))
theorem kw615 : (.methodLinkNest RX8 134 yX6_answer "NeededTrees" : Cond) ∈ lw_tbl := List.mem_append_right _ (List.mem_of_getElem? (i := 615) (by decide +kernel))
theorem kw617 : (.instanceMethod yX6_answer : Cond) ∈ lw_tbl := List.mem_append_right _ (List.mem_of_getElem? (i := 617) (by decide +kernel))
theorem kw618 : (.code yX6_answer cX6_answer 5 (some .int) : Cond) ∈ lw_tbl := List.mem_append_right _ (List.mem_of_getElem? (i := 618) (by decide +kernel))
theorem kw619 : (.methodLinkNest RX6 38 yX8_get "NeededTrees" : Cond) ∈ lw_tbl := List.mem_append_right _ (List.mem_of_getElem? (i := 619) (by decide +kernel))
theorem kw620 : (.methodLink RX6 42 yX6_places : Cond) ∈ lw_tbl := List.mem_append_right _ (List.mem_of_getElem? (i := 620) (by decide +kernel))
theorem kw622 : (.instanceMethod yX6_places : Cond) ∈ lw_tbl := List.mem_append_right _ (List.mem_of_getElem? (i := 622) (by decide +kernel))
theorem kw623 : (.code yX6_places cX6_places 3 (some .int) : Cond) ∈ lw_tbl := List.mem_append_right _ (List.mem_of_getElem? (i := 623) (by decide +kernel))
theorem kw624 : (.methodLinkNest RX6 52 yX3_placesTo "NeededTrees" : Cond) ∈ lw_tbl := List.mem_append_right _ (List.mem_of_getElem? (i := 624) (by decide +kernel))
theorem kw626 : (.instanceMethod yX3_placesTo : Cond) ∈ lw_tbl := List.mem_append_right _ (List.mem_of_getElem? (i := 626) (by decide +kernel))
theorem kw627 : (.code yX3_placesTo cX3_placesTo 5 (some .int) : Cond) ∈ lw_tbl := List.mem_append_right _ (List.mem_of_getElem? (i := 627) (by decide +kernel))
theorem kw628 : (.methodLinkNest RX6 46 yX3_placeOnWay "NeededTrees" : Cond) ∈ lw_tbl := List.mem_append_right _ (List.mem_of_getElem? (i := 628) (by decide +kernel))
theorem kw630 : (.instanceMethod yX3_placeOnWay : Cond) ∈ lw_tbl := List.mem_append_right _ (List.mem_of_getElem? (i := 630) (by decide +kernel))
theorem kw631 : (.code yX3_placeOnWay cX3_placeOnWay 5 (some .int) : Cond) ∈ lw_tbl := List.mem_append_right _ (List.mem_of_getElem? (i := 631) (by decide +kernel))
theorem kw632 : (.methodLink RX3 64 yX3_placesTo : Cond) ∈ lw_tbl := List.mem_append_right _ (List.mem_of_getElem? (i := 632) (by decide +kernel))
theorem kw633 : (.methodLink RL 54 yX8_covers : Cond) ∈ lw_tbl := List.mem_append_right _ (List.mem_of_getElem? (i := 633) (by decide +kernel))
theorem kw634 : (.instanceMethod yX8_covers : Cond) ∈ lw_tbl := List.mem_append_right _ (List.mem_of_getElem? (i := 634) (by decide +kernel))
theorem kw635 : (.selects RX8 yX8_covers yX8_covers : Cond) ∈ lw_tbl := List.mem_append_right _ (List.mem_of_getElem? (i := 635) (by decide +kernel))
theorem kw636 : (.code yX8_covers cX8_covers 1 (some .boolean) : Cond) ∈ lw_tbl := List.mem_append_right _ (List.mem_of_getElem? (i := 636) (by decide +kernel))
theorem kw637 : (.methodLinkNest RX8 137 yX6_coversAll "NeededTrees" : Cond) ∈ lw_tbl := List.mem_append_right _ (List.mem_of_getElem? (i := 637) (by decide +kernel))
theorem kw639 : (.instanceMethod yX6_coversAll : Cond) ∈ lw_tbl := List.mem_append_right _ (List.mem_of_getElem? (i := 639) (by decide +kernel))
theorem kw640 : (.code yX6_coversAll cX6_coversAll 6 (some .boolean) : Cond) ∈ lw_tbl := List.mem_append_right _ (List.mem_of_getElem? (i := 640) (by decide +kernel))
theorem kw641 : (.methodLink RX6 61 yJ7_fill_53178 : Cond) ∈ lw_tbl := List.mem_append_right _ (List.mem_of_getElem? (i := 641) (by decide +kernel))
theorem kw642 : (.methodLink RX6 67 yX6_coversWith : Cond) ∈ lw_tbl := List.mem_append_right _ (List.mem_of_getElem? (i := 642) (by decide +kernel))
theorem kw644 : (.instanceMethod yX6_coversWith : Cond) ∈ lw_tbl := List.mem_append_right _ (List.mem_of_getElem? (i := 644) (by decide +kernel))
theorem kw645 : (.code yX6_coversWith cX6_coversWith 6 (some .boolean) : Cond) ∈ lw_tbl := List.mem_append_right _ (List.mem_of_getElem? (i := 645) (by decide +kernel))
theorem kw646 : (.methodLinkNest RX6 74 yX4_typeOf "NeededTrees" : Cond) ∈ lw_tbl := List.mem_append_right _ (List.mem_of_getElem? (i := 646) (by decide +kernel))
theorem kw647 : (.methodLinkNest RX6 79 yX4_constructorsOf "NeededTrees" : Cond) ∈ lw_tbl := List.mem_append_right _ (List.mem_of_getElem? (i := 647) (by decide +kernel))
theorem kw649 : (.instanceMethod yX4_constructorsOf : Cond) ∈ lw_tbl := List.mem_append_right _ (List.mem_of_getElem? (i := 649) (by decide +kernel))
theorem kw650 : (.code yX4_constructorsOf cX4_constructorsOf 4 (some .int) : Cond) ∈ lw_tbl := List.mem_append_right _ (List.mem_of_getElem? (i := 650) (by decide +kernel))
theorem kw651 : (.methodLink RL 59 yX8_clash : Cond) ∈ lw_tbl := List.mem_append_right _ (List.mem_of_getElem? (i := 651) (by decide +kernel))
theorem kw652 : (.instanceMethod yX8_clash : Cond) ∈ lw_tbl := List.mem_append_right _ (List.mem_of_getElem? (i := 652) (by decide +kernel))
theorem kw653 : (.selects RX8 yX8_clash yX8_clash : Cond) ∈ lw_tbl := List.mem_append_right _ (List.mem_of_getElem? (i := 653) (by decide +kernel))
theorem kw654 : (.code yX8_clash cX8_clash 3 (some .boolean) : Cond) ∈ lw_tbl := List.mem_append_right _ (List.mem_of_getElem? (i := 654) (by decide +kernel))
theorem kw655 : (.methodLinkNest RX8 141 yX3_meet "NeededTrees" : Cond) ∈ lw_tbl := List.mem_append_right _ (List.mem_of_getElem? (i := 655) (by decide +kernel))
theorem kw657 : (.instanceMethod yX3_meet : Cond) ∈ lw_tbl := List.mem_append_right _ (List.mem_of_getElem? (i := 657) (by decide +kernel))
theorem kw658 : (.code yX3_meet cX3_meet 6 (some .boolean) : Cond) ∈ lw_tbl := List.mem_append_right _ (List.mem_of_getElem? (i := 658) (by decide +kernel))
theorem kw659 : (.methodLink RX3 60 yX3_isVariable : Cond) ∈ lw_tbl := List.mem_append_right _ (List.mem_of_getElem? (i := 659) (by decide +kernel))
theorem kw660 : (.methodLink RL 63 yX8_count : Cond) ∈ lw_tbl := List.mem_append_right _ (List.mem_of_getElem? (i := 660) (by decide +kernel))
theorem kw661 : (.instanceMethod yX8_count : Cond) ∈ lw_tbl := List.mem_append_right _ (List.mem_of_getElem? (i := 661) (by decide +kernel))
theorem kw662 : (.selects RX8 yX8_count yX8_count : Cond) ∈ lw_tbl := List.mem_append_right _ (List.mem_of_getElem? (i := 662) (by decide +kernel))
theorem kw663 : (.code yX8_count cX8_count 2 (some .int) : Cond) ∈ lw_tbl := List.mem_append_right _ (List.mem_of_getElem? (i := 663) (by decide +kernel))
theorem kw664 : (.methodLinkNest RX8 157 yX6_howMany "NeededTrees" : Cond) ∈ lw_tbl := List.mem_append_right _ (List.mem_of_getElem? (i := 664) (by decide +kernel))
theorem kw666 : (.instanceMethod yX6_howMany : Cond) ∈ lw_tbl := List.mem_append_right _ (List.mem_of_getElem? (i := 666) (by decide +kernel))
theorem kw667 : (.code yX6_howMany cX6_howMany 4 (some .int) : Cond) ∈ lw_tbl := List.mem_append_right _ (List.mem_of_getElem? (i := 667) (by decide +kernel))
theorem kw668 : (.methodLinkNest RX8 160 yX6_deepest "NeededTrees" : Cond) ∈ lw_tbl := List.mem_append_right _ (List.mem_of_getElem? (i := 668) (by decide +kernel))
theorem kw670 : (.instanceMethod yX6_deepest : Cond) ∈ lw_tbl := List.mem_append_right _ (List.mem_of_getElem? (i := 670) (by decide +kernel))
theorem kw671 : (.code yX6_deepest cX6_deepest 3 (some .int) : Cond) ∈ lw_tbl := List.mem_append_right _ (List.mem_of_getElem? (i := 671) (by decide +kernel))
theorem kw672 : (.methodLink RX6 56 yJ9_max_7cf53 : Cond) ∈ lw_tbl := List.mem_append_right _ (List.mem_of_getElem? (i := 672) (by decide +kernel))
theorem kw673 : (.classLink RL 10 RX9 : Cond) ∈ lw_tbl := List.mem_append_right _ (List.mem_of_getElem? (i := 673) (by decide +kernel))
theorem kw674 : (.instantiable RX9 59 : Cond) ∈ lw_tbl := List.mem_append_right _ (List.mem_of_getElem? (i := 674) (by decide +kernel))
theorem kw675 : (.methodLink RL 12 yX9_init : Cond) ∈ lw_tbl := List.mem_append_right _ (List.mem_of_getElem? (i := 675) (by decide +kernel))
theorem kw676 : (.instanceMethod yX9_init : Cond) ∈ lw_tbl := List.mem_append_right _ (List.mem_of_getElem? (i := 676) (by decide +kernel))
theorem kw677 : (.code yX9_init cX9_init 1 none : Cond) ∈ lw_tbl := List.mem_append_right _ (List.mem_of_getElem? (i := 677) (by decide +kernel))
theorem kw678 : (.methodLink RX9 1 objectInit : Cond) ∈ lw_tbl := List.mem_append_right _ (List.mem_of_getElem? (i := 678) (by decide +kernel))
theorem kw679 : (.fieldLink RX9 117 "NeededTreesModel" "types" "I" : Cond) ∈ lw_tbl := List.mem_append_right _ (List.mem_of_getElem? (i := 679) (by decide +kernel))
theorem kw680 : (.fieldLink RX9 124 "NeededTreesModel" "cons" "I" : Cond) ∈ lw_tbl := List.mem_append_right _ (List.mem_of_getElem? (i := 680) (by decide +kernel))
theorem kw681 : (.fieldLink RX9 9 "NeededTreesModel" "conType" "[I" : Cond) ∈ lw_tbl := List.mem_append_right _ (List.mem_of_getElem? (i := 681) (by decide +kernel))
theorem kw682 : (.fieldLink RX9 13 "NeededTreesModel" "arity" "[I" : Cond) ∈ lw_tbl := List.mem_append_right _ (List.mem_of_getElem? (i := 682) (by decide +kernel))
theorem kw683 : (.fieldLink RX9 16 "NeededTreesModel" "conTypes" "[I" : Cond) ∈ lw_tbl := List.mem_append_right _ (List.mem_of_getElem? (i := 683) (by decide +kernel))
theorem kw684 : (.fieldLink RX9 19 "NeededTreesModel" "args" "I" : Cond) ∈ lw_tbl := List.mem_append_right _ (List.mem_of_getElem? (i := 684) (by decide +kernel))
theorem kw685 : (.fieldLink RX9 130 "NeededTreesModel" "argTypes" "I" : Cond) ∈ lw_tbl := List.mem_append_right _ (List.mem_of_getElem? (i := 685) (by decide +kernel))
theorem kw686 : (.fieldLink RX9 133 "NeededTreesModel" "rules" "I" : Cond) ∈ lw_tbl := List.mem_append_right _ (List.mem_of_getElem? (i := 686) (by decide +kernel))
theorem kw687 : (.fieldLink RX9 23 "NeededTreesModel" "row" "[I" : Cond) ∈ lw_tbl := List.mem_append_right _ (List.mem_of_getElem? (i := 687) (by decide +kernel))
theorem kw688 : (.fieldLink RX9 139 "NeededTreesModel" "size" "I" : Cond) ∈ lw_tbl := List.mem_append_right _ (List.mem_of_getElem? (i := 688) (by decide +kernel))
theorem kw689 : (.fieldLink RX9 26 "NeededTreesModel" "rule" "[I" : Cond) ∈ lw_tbl := List.mem_append_right _ (List.mem_of_getElem? (i := 689) (by decide +kernel))
theorem kw690 : (.fieldLink RX9 29 "NeededTreesModel" "up" "[I" : Cond) ∈ lw_tbl := List.mem_append_right _ (List.mem_of_getElem? (i := 690) (by decide +kernel))
theorem kw691 : (.fieldLink RX9 32 "NeededTreesModel" "at" "[I" : Cond) ∈ lw_tbl := List.mem_append_right _ (List.mem_of_getElem? (i := 691) (by decide +kernel))
theorem kw692 : (.fieldLink RX9 35 "NeededTreesModel" "end" "[I" : Cond) ∈ lw_tbl := List.mem_append_right _ (List.mem_of_getElem? (i := 692) (by decide +kernel))
theorem kw693 : (.fieldLink RX9 38 "NeededTreesModel" "long0" "[I" : Cond) ∈ lw_tbl := List.mem_append_right _ (List.mem_of_getElem? (i := 693) (by decide +kernel))
theorem kw694 : (.fieldLink RX9 41 "NeededTreesModel" "wanted" "[I" : Cond) ∈ lw_tbl := List.mem_append_right _ (List.mem_of_getElem? (i := 694) (by decide +kernel))
theorem kw695 : (.fieldLink RX9 44 "NeededTreesModel" "wantedIn" "[I" : Cond) ∈ lw_tbl := List.mem_append_right _ (List.mem_of_getElem? (i := 695) (by decide +kernel))
theorem kw696 : (.fieldLink RX9 47 "NeededTreesModel" "wantedAt" "[I" : Cond) ∈ lw_tbl := List.mem_append_right _ (List.mem_of_getElem? (i := 696) (by decide +kernel))
theorem kw697 : (.fieldLink RX9 142 "NeededTreesModel" "wants" "I" : Cond) ∈ lw_tbl := List.mem_append_right _ (List.mem_of_getElem? (i := 697) (by decide +kernel))
theorem kw698 : (.fieldLink RX9 50 "NeededTreesModel" "in" "[I" : Cond) ∈ lw_tbl := List.mem_append_right _ (List.mem_of_getElem? (i := 698) (by decide +kernel))
theorem kw699 : (.fieldLink RX9 53 "NeededTreesModel" "as" "[I" : Cond) ∈ lw_tbl := List.mem_append_right _ (List.mem_of_getElem? (i := 699) (by decide +kernel))
theorem kw700 : (.fieldLink RX9 56 "NeededTreesModel" "nameType" "[I" : Cond) ∈ lw_tbl := List.mem_append_right _ (List.mem_of_getElem? (i := 700) (by decide +kernel))
theorem kw701 : (.fieldLink RX9 59 "NeededTreesModel" "open" "[I" : Cond) ∈ lw_tbl := List.mem_append_right _ (List.mem_of_getElem? (i := 701) (by decide +kernel))
theorem kw702 : (.fieldLink RX9 157 "NeededTreesModel" "opens" "I" : Cond) ∈ lw_tbl := List.mem_append_right _ (List.mem_of_getElem? (i := 702) (by decide +kernel))
theorem kw703 : (.fieldLink RX9 62 "NeededTreesModel" "set" "[I" : Cond) ∈ lw_tbl := List.mem_append_right _ (List.mem_of_getElem? (i := 703) (by decide +kernel))
theorem kw704 : (.fieldLink RX9 65 "NeededTreesModel" "taken" "[I" : Cond) ∈ lw_tbl := List.mem_append_right _ (List.mem_of_getElem? (i := 704) (by decide +kernel))
theorem kw705 : (.fieldLink RX9 160 "NeededTreesModel" "setEnd" "I" : Cond) ∈ lw_tbl := List.mem_append_right _ (List.mem_of_getElem? (i := 705) (by decide +kernel))
theorem kw706 : (.fieldLink RX9 163 "NeededTreesModel" "takenEnd" "I" : Cond) ∈ lw_tbl := List.mem_append_right _ (List.mem_of_getElem? (i := 706) (by decide +kernel))
theorem kw707 : (.fieldLink RX9 169 "NeededTreesModel" "nodes" "I" : Cond) ∈ lw_tbl := List.mem_append_right _ (List.mem_of_getElem? (i := 707) (by decide +kernel))
theorem kw708 : (.fieldLink RX9 172 "NeededTreesModel" "ors" "I" : Cond) ∈ lw_tbl := List.mem_append_right _ (List.mem_of_getElem? (i := 708) (by decide +kernel))
theorem kw709 : (.fieldLink RX9 175 "NeededTreesModel" "branches" "I" : Cond) ∈ lw_tbl := List.mem_append_right _ (List.mem_of_getElem? (i := 709) (by decide +kernel))
theorem kw710 : (.fieldLink RX9 178 "NeededTreesModel" "deepest" "I" : Cond) ∈ lw_tbl := List.mem_append_right _ (List.mem_of_getElem? (i := 710) (by decide +kernel))
theorem kw711 : (.fieldLink RX9 181 "NeededTreesModel" "all" "Z" : Cond) ∈ lw_tbl := List.mem_append_right _ (List.mem_of_getElem? (i := 711) (by decide +kernel))
theorem kw712 : (.fieldLink RX9 68 "NeededTreesModel" "sort" "[I" : Cond) ∈ lw_tbl := List.mem_append_right _ (List.mem_of_getElem? (i := 712) (by decide +kernel))
theorem kw713 : (.fieldLink RX9 71 "NeededTreesModel" "leaf" "[I" : Cond) ∈ lw_tbl := List.mem_append_right _ (List.mem_of_getElem? (i := 713) (by decide +kernel))
theorem kw714 : (.fieldLink RX9 74 "NeededTreesModel" "of" "[I" : Cond) ∈ lw_tbl := List.mem_append_right _ (List.mem_of_getElem? (i := 714) (by decide +kernel))
theorem kw715 : (.fieldLink RX9 77 "NeededTreesModel" "spot" "[I" : Cond) ∈ lw_tbl := List.mem_append_right _ (List.mem_of_getElem? (i := 715) (by decide +kernel))
theorem kw716 : (.fieldLink RX9 80 "NeededTreesModel" "many0" "[I" : Cond) ∈ lw_tbl := List.mem_append_right _ (List.mem_of_getElem? (i := 716) (by decide +kernel))
theorem kw717 : (.fieldLink RX9 83 "NeededTreesModel" "by" "[I" : Cond) ∈ lw_tbl := List.mem_append_right _ (List.mem_of_getElem? (i := 717) (by decide +kernel))
theorem kw718 : (.fieldLink RX9 86 "NeededTreesModel" "deep" "[I" : Cond) ∈ lw_tbl := List.mem_append_right _ (List.mem_of_getElem? (i := 718) (by decide +kernel))
theorem kw719 : (.fieldLink RX9 89 "NeededTreesModel" "cell" "[I" : Cond) ∈ lw_tbl := List.mem_append_right _ (List.mem_of_getElem? (i := 719) (by decide +kernel))
theorem kw720 : (.fieldLink RX9 92 "NeededTreesModel" "kids" "[I" : Cond) ∈ lw_tbl := List.mem_append_right _ (List.mem_of_getElem? (i := 720) (by decide +kernel))
theorem kw721 : (.fieldLink RX9 95 "NeededTreesModel" "became" "[I" : Cond) ∈ lw_tbl := List.mem_append_right _ (List.mem_of_getElem? (i := 721) (by decide +kernel))
theorem kw722 : (.fieldLink RX9 218 "NeededTreesModel" "cells" "I" : Cond) ∈ lw_tbl := List.mem_append_right _ (List.mem_of_getElem? (i := 722) (by decide +kernel))
theorem kw723 : (.fieldLink RX9 221 "NeededTreesModel" "names" "I" : Cond) ∈ lw_tbl := List.mem_append_right _ (List.mem_of_getElem? (i := 723) (by decide +kernel))
theorem kw724 : (.fieldLink RX9 98 "NeededTreesModel" "terms" "[I" : Cond) ∈ lw_tbl := List.mem_append_right _ (List.mem_of_getElem? (i := 724) (by decide +kernel))
theorem kw725 : (.fieldLink RX9 241 "NeededTreesModel" "asked" "I" : Cond) ∈ lw_tbl := List.mem_append_right _ (List.mem_of_getElem? (i := 725) (by decide +kernel))
theorem kw726 : (.fieldLink RX9 244 "NeededTreesModel" "askedFree" "I" : Cond) ∈ lw_tbl := List.mem_append_right _ (List.mem_of_getElem? (i := 726) (by decide +kernel))
theorem kw727 : (.fieldLink RX9 127 "NeededTreesModel" "outcomes" "I" : Cond) ∈ lw_tbl := List.mem_append_right _ (List.mem_of_getElem? (i := 727) (by decide +kernel))
theorem kw728 : (.fieldLink RX9 238 "NeededTreesModel" "came" "I" : Cond) ∈ lw_tbl := List.mem_append_right _ (List.mem_of_getElem? (i := 728) (by decide +kernel))
theorem kw729 : (.fieldLink RX9 101 "NeededTreesModel" "sought" "I" : Cond) ∈ lw_tbl := List.mem_append_right _ (List.mem_of_getElem? (i := 729) (by decide +kernel))
theorem kw730 : (.fieldLink RX9 266 "NeededTreesModel" "foundRule" "I" : Cond) ∈ lw_tbl := List.mem_append_right _ (List.mem_of_getElem? (i := 730) (by decide +kernel))
theorem kw731 : (.fieldLink RX9 269 "NeededTreesModel" "foundAsked" "I" : Cond) ∈ lw_tbl := List.mem_append_right _ (List.mem_of_getElem? (i := 731) (by decide +kernel))
theorem kw732 : (.fieldLink RX9 272 "NeededTreesModel" "foundFree" "I" : Cond) ∈ lw_tbl := List.mem_append_right _ (List.mem_of_getElem? (i := 732) (by decide +kernel))
theorem kw733 : (.fieldLink RX9 275 "NeededTreesModel" "told" "I" : Cond) ∈ lw_tbl := List.mem_append_right _ (List.mem_of_getElem? (i := 733) (by decide +kernel))
theorem kw734 : (.fieldLink RX9 104 "NeededTreesModel" "tell" "[I" : Cond) ∈ lw_tbl := List.mem_append_right _ (List.mem_of_getElem? (i := 734) (by decide +kernel))
theorem kw735 : (.fieldLink RX9 235 "NeededTreesModel" "isLong" "Z" : Cond) ∈ lw_tbl := List.mem_append_right _ (List.mem_of_getElem? (i := 735) (by decide +kernel))
theorem kw736 : (.fieldLink RX9 107 "NeededTreesModel" "numberOf" "[I" : Cond) ∈ lw_tbl := List.mem_append_right _ (List.mem_of_getElem? (i := 736) (by decide +kernel))
theorem kw737 : (.fieldLink RX9 110 "NeededTreesModel" "toTell" "[I" : Cond) ∈ lw_tbl := List.mem_append_right _ (List.mem_of_getElem? (i := 737) (by decide +kernel))
theorem kw857 : (.methodLink RL 17 yX9_type : Cond) ∈ lw_tbl := List.mem_append_right _ (List.mem_of_getElem? (i := 857) (by decide +kernel))
theorem kw858 : (.instanceMethod yX9_type : Cond) ∈ lw_tbl := List.mem_append_right _ (List.mem_of_getElem? (i := 858) (by decide +kernel))
theorem kw859 : (.selects RX9 yX9_type yX9_type : Cond) ∈ lw_tbl := List.mem_append_right _ (List.mem_of_getElem? (i := 859) (by decide +kernel))
theorem kw860 : (.code yX9_type cX9_type 1 (some .int) : Cond) ∈ lw_tbl := List.mem_append_right _ (List.mem_of_getElem? (i := 860) (by decide +kernel))
theorem kw861 : (.methodLink RL 22 yX9_constructor : Cond) ∈ lw_tbl := List.mem_append_right _ (List.mem_of_getElem? (i := 861) (by decide +kernel))
theorem kw862 : (.instanceMethod yX9_constructor : Cond) ∈ lw_tbl := List.mem_append_right _ (List.mem_of_getElem? (i := 862) (by decide +kernel))
theorem kw863 : (.selects RX9 yX9_constructor yX9_constructor : Cond) ∈ lw_tbl := List.mem_append_right _ (List.mem_of_getElem? (i := 863) (by decide +kernel))
theorem kw864 : (.code yX9_constructor cX9_constructor 4 (some .int) : Cond) ∈ lw_tbl := List.mem_append_right _ (List.mem_of_getElem? (i := 864) (by decide +kernel))
theorem kw865 : (.methodLink RX9 120 yX9_areTypes : Cond) ∈ lw_tbl := List.mem_append_right _ (List.mem_of_getElem? (i := 865) (by decide +kernel))
theorem kw867 : (.instanceMethod yX9_areTypes : Cond) ∈ lw_tbl := List.mem_append_right _ (List.mem_of_getElem? (i := 867) (by decide +kernel))
theorem kw868 : (.code yX9_areTypes cX9_areTypes 4 (some .boolean) : Cond) ∈ lw_tbl := List.mem_append_right _ (List.mem_of_getElem? (i := 868) (by decide +kernel))
theorem kw869 : (.methodLink RX9 113 yX9_typeOf : Cond) ∈ lw_tbl := List.mem_append_right _ (List.mem_of_getElem? (i := 869) (by decide +kernel))
theorem kw870 : (.static yX9_typeOf : Cond) ∈ lw_tbl := List.mem_append_right _ (List.mem_of_getElem? (i := 870) (by decide +kernel))
theorem kw871 : (.code yX9_typeOf cX9_typeOf 2 (some .int) : Cond) ∈ lw_tbl := List.mem_append_right _ (List.mem_of_getElem? (i := 871) (by decide +kernel))
theorem kw872 : (.methodLink RL 27 yX9_begin : Cond) ∈ lw_tbl := List.mem_append_right _ (List.mem_of_getElem? (i := 872) (by decide +kernel))
theorem kw873 : (.instanceMethod yX9_begin : Cond) ∈ lw_tbl := List.mem_append_right _ (List.mem_of_getElem? (i := 873) (by decide +kernel))
theorem kw874 : (.selects RX9 yX9_begin yX9_begin : Cond) ∈ lw_tbl := List.mem_append_right _ (List.mem_of_getElem? (i := 874) (by decide +kernel))
theorem kw875 : (.code yX9_begin cX9_begin 3 (some .boolean) : Cond) ∈ lw_tbl := List.mem_append_right _ (List.mem_of_getElem? (i := 875) (by decide +kernel))
theorem kw876 : (.methodLink RX9 136 yX9_lay : Cond) ∈ lw_tbl := List.mem_append_right _ (List.mem_of_getElem? (i := 876) (by decide +kernel))
theorem kw878 : (.instanceMethod yX9_lay : Cond) ∈ lw_tbl := List.mem_append_right _ (List.mem_of_getElem? (i := 878) (by decide +kernel))
theorem kw879 : (.code yX9_lay cX9_lay 1 none : Cond) ∈ lw_tbl := List.mem_append_right _ (List.mem_of_getElem? (i := 879) (by decide +kernel))
theorem kw880 : (.methodLink RX9 185 yX9_openAll : Cond) ∈ lw_tbl := List.mem_append_right _ (List.mem_of_getElem? (i := 880) (by decide +kernel))
theorem kw882 : (.instanceMethod yX9_openAll : Cond) ∈ lw_tbl := List.mem_append_right _ (List.mem_of_getElem? (i := 882) (by decide +kernel))
theorem kw883 : (.code yX9_openAll cX9_openAll 4 none : Cond) ∈ lw_tbl := List.mem_append_right _ (List.mem_of_getElem? (i := 883) (by decide +kernel))
theorem kw884 : (.methodLink RX9 188 yX9_laid : Cond) ∈ lw_tbl := List.mem_append_right _ (List.mem_of_getElem? (i := 884) (by decide +kernel))
theorem kw885 : (.static yX9_laid : Cond) ∈ lw_tbl := List.mem_append_right _ (List.mem_of_getElem? (i := 885) (by decide +kernel))
theorem kw886 : (.code yX9_laid cX9_laid 14 (some .boolean) : Cond) ∈ lw_tbl := List.mem_append_right _ (List.mem_of_getElem? (i := 886) (by decide +kernel))
theorem kw887 : (.methodLink RX9 197 yX9_needed : Cond) ∈ lw_tbl := List.mem_append_right _ (List.mem_of_getElem? (i := 887) (by decide +kernel))
theorem kw889 : (.instanceMethod yX9_needed : Cond) ∈ lw_tbl := List.mem_append_right _ (List.mem_of_getElem? (i := 889) (by decide +kernel))
theorem kw890 : (.code yX9_needed cX9_needed 7 (some .int) : Cond) ∈ lw_tbl := List.mem_append_right _ (List.mem_of_getElem? (i := 890) (by decide +kernel))
theorem kw891 : (.methodLink RX9 166 yX9_there : Cond) ∈ lw_tbl := List.mem_append_right _ (List.mem_of_getElem? (i := 891) (by decide +kernel))
theorem kw893 : (.instanceMethod yX9_there : Cond) ∈ lw_tbl := List.mem_append_right _ (List.mem_of_getElem? (i := 893) (by decide +kernel))
theorem kw894 : (.code yX9_there cX9_there 3 (some .int) : Cond) ∈ lw_tbl := List.mem_append_right _ (List.mem_of_getElem? (i := 894) (by decide +kernel))
theorem kw895 : (.methodLink RX9 200 yX9_node : Cond) ∈ lw_tbl := List.mem_append_right _ (List.mem_of_getElem? (i := 895) (by decide +kernel))
theorem kw897 : (.instanceMethod yX9_node : Cond) ∈ lw_tbl := List.mem_append_right _ (List.mem_of_getElem? (i := 897) (by decide +kernel))
theorem kw898 : (.code yX9_node cX9_node 5 (some .int) : Cond) ∈ lw_tbl := List.mem_append_right _ (List.mem_of_getElem? (i := 898) (by decide +kernel))
theorem kw899 : (.methodLink RX9 192 yJ9_max_7cf53 : Cond) ∈ lw_tbl := List.mem_append_right _ (List.mem_of_getElem? (i := 899) (by decide +kernel))
theorem kw900 : (.methodLink RX9 204 yX9_those : Cond) ∈ lw_tbl := List.mem_append_right _ (List.mem_of_getElem? (i := 900) (by decide +kernel))
theorem kw902 : (.instanceMethod yX9_those : Cond) ∈ lw_tbl := List.mem_append_right _ (List.mem_of_getElem? (i := 902) (by decide +kernel))
theorem kw903 : (.code yX9_those cX9_those 7 (some .int) : Cond) ∈ lw_tbl := List.mem_append_right _ (List.mem_of_getElem? (i := 903) (by decide +kernel))
theorem kw904 : (.methodLink RX9 207 yX9_take : Cond) ∈ lw_tbl := List.mem_append_right _ (List.mem_of_getElem? (i := 904) (by decide +kernel))
theorem kw906 : (.instanceMethod yX9_take : Cond) ∈ lw_tbl := List.mem_append_right _ (List.mem_of_getElem? (i := 906) (by decide +kernel))
theorem kw907 : (.code yX9_take cX9_take 9 none : Cond) ∈ lw_tbl := List.mem_append_right _ (List.mem_of_getElem? (i := 907) (by decide +kernel))
theorem kw908 : (.methodLink RX9 211 yX9_putBack : Cond) ∈ lw_tbl := List.mem_append_right _ (List.mem_of_getElem? (i := 908) (by decide +kernel))
theorem kw910 : (.instanceMethod yX9_putBack : Cond) ∈ lw_tbl := List.mem_append_right _ (List.mem_of_getElem? (i := 910) (by decide +kernel))
theorem kw911 : (.code yX9_putBack cX9_putBack 8 none : Cond) ∈ lw_tbl := List.mem_append_right _ (List.mem_of_getElem? (i := 911) (by decide +kernel))
theorem kw912 : (.methodLink RX9 214 yX9_run : Cond) ∈ lw_tbl := List.mem_append_right _ (List.mem_of_getElem? (i := 912) (by decide +kernel))
theorem kw914 : (.instanceMethod yX9_run : Cond) ∈ lw_tbl := List.mem_append_right _ (List.mem_of_getElem? (i := 914) (by decide +kernel))
theorem kw915 : (.code yX9_run cX9_run 6 (some .int) : Cond) ∈ lw_tbl := List.mem_append_right _ (List.mem_of_getElem? (i := 915) (by decide +kernel))
theorem kw916 : (.methodLink RL 32 yX9_put : Cond) ∈ lw_tbl := List.mem_append_right _ (List.mem_of_getElem? (i := 916) (by decide +kernel))
theorem kw917 : (.instanceMethod yX9_put : Cond) ∈ lw_tbl := List.mem_append_right _ (List.mem_of_getElem? (i := 917) (by decide +kernel))
theorem kw918 : (.selects RX9 yX9_put yX9_put : Cond) ∈ lw_tbl := List.mem_append_right _ (List.mem_of_getElem? (i := 918) (by decide +kernel))
theorem kw919 : (.code yX9_put cX9_put 2 (some .int) : Cond) ∈ lw_tbl := List.mem_append_right _ (List.mem_of_getElem? (i := 919) (by decide +kernel))
theorem kw920 : (.methodLink RL 36 yX9_rule : Cond) ∈ lw_tbl := List.mem_append_right _ (List.mem_of_getElem? (i := 920) (by decide +kernel))
theorem kw921 : (.instanceMethod yX9_rule : Cond) ∈ lw_tbl := List.mem_append_right _ (List.mem_of_getElem? (i := 921) (by decide +kernel))
theorem kw922 : (.selects RX9 yX9_rule yX9_rule : Cond) ∈ lw_tbl := List.mem_append_right _ (List.mem_of_getElem? (i := 922) (by decide +kernel))
theorem kw923 : (.code yX9_rule cX9_rule 6 (some .int) : Cond) ∈ lw_tbl := List.mem_append_right _ (List.mem_of_getElem? (i := 923) (by decide +kernel))
theorem kw924 : (.methodLink RX9 153 yX9_wrong : Cond) ∈ lw_tbl := List.mem_append_right _ (List.mem_of_getElem? (i := 924) (by decide +kernel))
theorem kw926 : (.instanceMethod yX9_wrong : Cond) ∈ lw_tbl := List.mem_append_right _ (List.mem_of_getElem? (i := 926) (by decide +kernel))
theorem kw927 : (.code yX9_wrong cX9_wrong 3 (some .int) : Cond) ∈ lw_tbl := List.mem_append_right _ (List.mem_of_getElem? (i := 927) (by decide +kernel))
theorem kw928 : (.methodLink RX9 145 yX9_want : Cond) ∈ lw_tbl := List.mem_append_right _ (List.mem_of_getElem? (i := 928) (by decide +kernel))
theorem kw930 : (.instanceMethod yX9_want : Cond) ∈ lw_tbl := List.mem_append_right _ (List.mem_of_getElem? (i := 930) (by decide +kernel))
theorem kw931 : (.code yX9_want cX9_want 5 none : Cond) ∈ lw_tbl := List.mem_append_right _ (List.mem_of_getElem? (i := 931) (by decide +kernel))
theorem kw932 : (.methodLink RX9 149 yX9_fits : Cond) ∈ lw_tbl := List.mem_append_right _ (List.mem_of_getElem? (i := 932) (by decide +kernel))
theorem kw934 : (.instanceMethod yX9_fits : Cond) ∈ lw_tbl := List.mem_append_right _ (List.mem_of_getElem? (i := 934) (by decide +kernel))
theorem kw935 : (.code yX9_fits cX9_fits 6 (some .boolean) : Cond) ∈ lw_tbl := List.mem_append_right _ (List.mem_of_getElem? (i := 935) (by decide +kernel))
theorem kw936 : (.methodLink RL 40 yX9_lead : Cond) ∈ lw_tbl := List.mem_append_right _ (List.mem_of_getElem? (i := 936) (by decide +kernel))
theorem kw937 : (.instanceMethod yX9_lead : Cond) ∈ lw_tbl := List.mem_append_right _ (List.mem_of_getElem? (i := 937) (by decide +kernel))
theorem kw938 : (.selects RX9 yX9_lead yX9_lead : Cond) ∈ lw_tbl := List.mem_append_right _ (List.mem_of_getElem? (i := 938) (by decide +kernel))
theorem kw939 : (.code yX9_lead cX9_lead 2 (some .int) : Cond) ∈ lw_tbl := List.mem_append_right _ (List.mem_of_getElem? (i := 939) (by decide +kernel))
theorem kw940 : (.methodLink RX9 228 yX9_read : Cond) ∈ lw_tbl := List.mem_append_right _ (List.mem_of_getElem? (i := 940) (by decide +kernel))
theorem kw942 : (.instanceMethod yX9_read : Cond) ∈ lw_tbl := List.mem_append_right _ (List.mem_of_getElem? (i := 942) (by decide +kernel))
theorem kw943 : (.code yX9_read cX9_read 5 none : Cond) ∈ lw_tbl := List.mem_append_right _ (List.mem_of_getElem? (i := 943) (by decide +kernel))
theorem kw944 : (.methodLink RX9 224 yX9_newCells : Cond) ∈ lw_tbl := List.mem_append_right _ (List.mem_of_getElem? (i := 944) (by decide +kernel))
theorem kw946 : (.instanceMethod yX9_newCells : Cond) ∈ lw_tbl := List.mem_append_right _ (List.mem_of_getElem? (i := 946) (by decide +kernel))
theorem kw947 : (.code yX9_newCells cX9_newCells 2 (some .int) : Cond) ∈ lw_tbl := List.mem_append_right _ (List.mem_of_getElem? (i := 947) (by decide +kernel))
theorem kw948 : (.methodLink RX9 231 yX9_go : Cond) ∈ lw_tbl := List.mem_append_right _ (List.mem_of_getElem? (i := 948) (by decide +kernel))
theorem kw950 : (.instanceMethod yX9_go : Cond) ∈ lw_tbl := List.mem_append_right _ (List.mem_of_getElem? (i := 950) (by decide +kernel))
theorem kw951 : (.code yX9_go cX9_go 3 none : Cond) ∈ lw_tbl := List.mem_append_right _ (List.mem_of_getElem? (i := 951) (by decide +kernel))
theorem kw952 : (.methodLink RX9 247 yX9_led : Cond) ∈ lw_tbl := List.mem_append_right _ (List.mem_of_getElem? (i := 952) (by decide +kernel))
theorem kw953 : (.static yX9_led : Cond) ∈ lw_tbl := List.mem_append_right _ (List.mem_of_getElem? (i := 953) (by decide +kernel))
theorem kw954 : (.code yX9_led cX9_led 13 none : Cond) ∈ lw_tbl := List.mem_append_right _ (List.mem_of_getElem? (i := 954) (by decide +kernel))
theorem kw955 : (.methodLink RX9 251 yX9_comes : Cond) ∈ lw_tbl := List.mem_append_right _ (List.mem_of_getElem? (i := 955) (by decide +kernel))
theorem kw957 : (.instanceMethod yX9_comes : Cond) ∈ lw_tbl := List.mem_append_right _ (List.mem_of_getElem? (i := 957) (by decide +kernel))
theorem kw958 : (.code yX9_comes cX9_comes 7 none : Cond) ∈ lw_tbl := List.mem_append_right _ (List.mem_of_getElem? (i := 958) (by decide +kernel))
theorem kw959 : (.methodLink RX9 254 yX9_here : Cond) ∈ lw_tbl := List.mem_append_right _ (List.mem_of_getElem? (i := 959) (by decide +kernel))
theorem kw961 : (.instanceMethod yX9_here : Cond) ∈ lw_tbl := List.mem_append_right _ (List.mem_of_getElem? (i := 961) (by decide +kernel))
theorem kw962 : (.code yX9_here cX9_here 3 (some .int) : Cond) ∈ lw_tbl := List.mem_append_right _ (List.mem_of_getElem? (i := 962) (by decide +kernel))
theorem kw963 : (.methodLink RX9 257 yX9_grown : Cond) ∈ lw_tbl := List.mem_append_right _ (List.mem_of_getElem? (i := 963) (by decide +kernel))
theorem kw965 : (.instanceMethod yX9_grown : Cond) ∈ lw_tbl := List.mem_append_right _ (List.mem_of_getElem? (i := 965) (by decide +kernel))
theorem kw966 : (.code yX9_grown cX9_grown 4 (some .int) : Cond) ∈ lw_tbl := List.mem_append_right _ (List.mem_of_getElem? (i := 966) (by decide +kernel))
theorem kw967 : (.methodLink RX9 260 yX9_shift : Cond) ∈ lw_tbl := List.mem_append_right _ (List.mem_of_getElem? (i := 967) (by decide +kernel))
theorem kw969 : (.instanceMethod yX9_shift : Cond) ∈ lw_tbl := List.mem_append_right _ (List.mem_of_getElem? (i := 969) (by decide +kernel))
theorem kw970 : (.code yX9_shift cX9_shift 6 none : Cond) ∈ lw_tbl := List.mem_append_right _ (List.mem_of_getElem? (i := 970) (by decide +kernel))
theorem kw971 : (.methodLink RX9 263 yX9_shiftBack : Cond) ∈ lw_tbl := List.mem_append_right _ (List.mem_of_getElem? (i := 971) (by decide +kernel))
theorem kw973 : (.instanceMethod yX9_shiftBack : Cond) ∈ lw_tbl := List.mem_append_right _ (List.mem_of_getElem? (i := 973) (by decide +kernel))
theorem kw974 : (.code yX9_shiftBack cX9_shiftBack 5 none : Cond) ∈ lw_tbl := List.mem_append_right _ (List.mem_of_getElem? (i := 974) (by decide +kernel))
theorem kw975 : (.methodLink RL 45 yX9_outcome : Cond) ∈ lw_tbl := List.mem_append_right _ (List.mem_of_getElem? (i := 975) (by decide +kernel))
theorem kw976 : (.instanceMethod yX9_outcome : Cond) ∈ lw_tbl := List.mem_append_right _ (List.mem_of_getElem? (i := 976) (by decide +kernel))
theorem kw977 : (.selects RX9 yX9_outcome yX9_outcome : Cond) ∈ lw_tbl := List.mem_append_right _ (List.mem_of_getElem? (i := 977) (by decide +kernel))
theorem kw978 : (.code yX9_outcome cX9_outcome 3 (some .int) : Cond) ∈ lw_tbl := List.mem_append_right _ (List.mem_of_getElem? (i := 978) (by decide +kernel))
theorem kw979 : (.methodLink RL 49 yX9_size : Cond) ∈ lw_tbl := List.mem_append_right _ (List.mem_of_getElem? (i := 979) (by decide +kernel))
theorem kw980 : (.instanceMethod yX9_size : Cond) ∈ lw_tbl := List.mem_append_right _ (List.mem_of_getElem? (i := 980) (by decide +kernel))
theorem kw981 : (.selects RX9 yX9_size yX9_size : Cond) ∈ lw_tbl := List.mem_append_right _ (List.mem_of_getElem? (i := 981) (by decide +kernel))
theorem kw982 : (.code yX9_size cX9_size 1 (some .int) : Cond) ∈ lw_tbl := List.mem_append_right _ (List.mem_of_getElem? (i := 982) (by decide +kernel))
theorem kw983 : (.methodLink RL 53 yX9_node_ : Cond) ∈ lw_tbl := List.mem_append_right _ (List.mem_of_getElem? (i := 983) (by decide +kernel))
theorem kw984 : (.instanceMethod yX9_node_ : Cond) ∈ lw_tbl := List.mem_append_right _ (List.mem_of_getElem? (i := 984) (by decide +kernel))
theorem kw985 : (.selects RX9 yX9_node_ yX9_node_ : Cond) ∈ lw_tbl := List.mem_append_right _ (List.mem_of_getElem? (i := 985) (by decide +kernel))
theorem kw986 : (.code yX9_node_ cX9_node_ 6 (some .int) : Cond) ∈ lw_tbl := List.mem_append_right _ (List.mem_of_getElem? (i := 986) (by decide +kernel))
theorem kw987 : (.methodLink RX9 278 yX9_places : Cond) ∈ lw_tbl := List.mem_append_right _ (List.mem_of_getElem? (i := 987) (by decide +kernel))
theorem kw989 : (.instanceMethod yX9_places : Cond) ∈ lw_tbl := List.mem_append_right _ (List.mem_of_getElem? (i := 989) (by decide +kernel))
theorem kw990 : (.code yX9_places cX9_places 5 (some .int) : Cond) ∈ lw_tbl := List.mem_append_right _ (List.mem_of_getElem? (i := 990) (by decide +kernel))
theorem kw991 : (.methodLink RL 58 yX9_covers : Cond) ∈ lw_tbl := List.mem_append_right _ (List.mem_of_getElem? (i := 991) (by decide +kernel))
theorem kw992 : (.instanceMethod yX9_covers : Cond) ∈ lw_tbl := List.mem_append_right _ (List.mem_of_getElem? (i := 992) (by decide +kernel))
theorem kw993 : (.selects RX9 yX9_covers yX9_covers : Cond) ∈ lw_tbl := List.mem_append_right _ (List.mem_of_getElem? (i := 993) (by decide +kernel))
theorem kw994 : (.code yX9_covers cX9_covers 1 (some .boolean) : Cond) ∈ lw_tbl := List.mem_append_right _ (List.mem_of_getElem? (i := 994) (by decide +kernel))
theorem kw995 : (.methodLink RL 62 yX9_clash : Cond) ∈ lw_tbl := List.mem_append_right _ (List.mem_of_getElem? (i := 995) (by decide +kernel))
theorem kw996 : (.instanceMethod yX9_clash : Cond) ∈ lw_tbl := List.mem_append_right _ (List.mem_of_getElem? (i := 996) (by decide +kernel))
theorem kw997 : (.selects RX9 yX9_clash yX9_clash : Cond) ∈ lw_tbl := List.mem_append_right _ (List.mem_of_getElem? (i := 997) (by decide +kernel))
theorem kw998 : (.code yX9_clash cX9_clash 8 (some .boolean) : Cond) ∈ lw_tbl := List.mem_append_right _ (List.mem_of_getElem? (i := 998) (by decide +kernel))
theorem kw999 : (.methodLink RL 66 yX9_count : Cond) ∈ lw_tbl := List.mem_append_right _ (List.mem_of_getElem? (i := 999) (by decide +kernel))
theorem kw1000 : (.instanceMethod yX9_count : Cond) ∈ lw_tbl := List.mem_append_right _ (List.mem_of_getElem? (i := 1000) (by decide +kernel))
theorem kw1001 : (.selects RX9 yX9_count yX9_count : Cond) ∈ lw_tbl := List.mem_append_right _ (List.mem_of_getElem? (i := 1001) (by decide +kernel))
theorem kw1002 : (.code yX9_count cX9_count 2 (some .int) : Cond) ∈ lw_tbl := List.mem_append_right _ (List.mem_of_getElem? (i := 1002) (by decide +kernel))
end
section
theorem ks_X4_addType : (.selects RX4 yX4_addType yX4_addType : Cond) ∈ lw_tbl := List.mem_append_left _ (List.mem_map.mpr ⟨(yX4_addType, 7), List.mem_of_getElem? (i := 0) (by decide +kernel), rfl⟩)
theorem ks_X4_addConstructor : (.selects RX4 yX4_addConstructor yX4_addConstructor : Cond) ∈ lw_tbl := List.mem_append_left _ (List.mem_map.mpr ⟨(yX4_addConstructor, 7), List.mem_of_getElem? (i := 1) (by decide +kernel), rfl⟩)
theorem ks_X4_areTypes : (.selects RX4 yX4_areTypes yX4_areTypes : Cond) ∈ lw_tbl := List.mem_append_left _ (List.mem_map.mpr ⟨(yX4_areTypes, 7), List.mem_of_getElem? (i := 2) (by decide +kernel), rfl⟩)
theorem ks_X0_clear : (.selects RX0 yX0_clear yX0_clear : Cond) ∈ lw_tbl := List.mem_append_left _ (List.mem_map.mpr ⟨(yX0_clear, 6), List.mem_of_getElem? (i := 3) (by decide +kernel), rfl⟩)
theorem ks_X4_setFunction : (.selects RX4 yX4_setFunction yX4_setFunction : Cond) ∈ lw_tbl := List.mem_append_left _ (List.mem_map.mpr ⟨(yX4_setFunction, 7), List.mem_of_getElem? (i := 4) (by decide +kernel), rfl⟩)
theorem ks_X3_clear : (.selects RX3 yX3_clear yX3_clear : Cond) ∈ lw_tbl := List.mem_append_left _ (List.mem_map.mpr ⟨(yX3_clear, 7), List.mem_of_getElem? (i := 5) (by decide +kernel), rfl⟩)
theorem ks_X2_add : (.selects RX2 yX2_add yX2_add : Cond) ∈ lw_tbl := List.mem_append_left _ (List.mem_map.mpr ⟨(yX2_add, 8), List.mem_of_getElem? (i := 6) (by decide +kernel), rfl⟩)
theorem ks_X2_take : (.selects RX2 yX2_take yX2_take : Cond) ∈ lw_tbl := List.mem_append_left _ (List.mem_map.mpr ⟨(yX2_take, 8), List.mem_of_getElem? (i := 7) (by decide +kernel), rfl⟩)
theorem ks_X4_hasFunction : (.selects RX4 yX4_hasFunction yX4_hasFunction : Cond) ∈ lw_tbl := List.mem_append_left _ (List.mem_map.mpr ⟨(yX4_hasFunction, 7), List.mem_of_getElem? (i := 8) (by decide +kernel), rfl⟩)
theorem ks_X3_hasRoom : (.selects RX3 yX3_hasRoom yX3_hasRoom : Cond) ∈ lw_tbl := List.mem_append_left _ (List.mem_map.mpr ⟨(yX3_hasRoom, 7), List.mem_of_getElem? (i := 9) (by decide +kernel), rfl⟩)
theorem ks_X3_start : (.selects RX3 yX3_start yX3_start : Cond) ∈ lw_tbl := List.mem_append_left _ (List.mem_map.mpr ⟨(yX3_start, 7), List.mem_of_getElem? (i := 10) (by decide +kernel), rfl⟩)
theorem ks_X2_firstWrong : (.selects RX2 yX2_firstWrong yX2_firstWrong : Cond) ∈ lw_tbl := List.mem_append_left _ (List.mem_map.mpr ⟨(yX2_firstWrong, 8), List.mem_of_getElem? (i := 11) (by decide +kernel), rfl⟩)
theorem ks_X2_isWhole : (.selects RX2 yX2_isWhole yX2_isWhole : Cond) ∈ lw_tbl := List.mem_append_left _ (List.mem_map.mpr ⟨(yX2_isWhole, 8), List.mem_of_getElem? (i := 12) (by decide +kernel), rfl⟩)
theorem ks_X4_parts : (.selects RX4 yX4_parts yX4_parts : Cond) ∈ lw_tbl := List.mem_append_left _ (List.mem_map.mpr ⟨(yX4_parts, 7), List.mem_of_getElem? (i := 13) (by decide +kernel), rfl⟩)
theorem ks_X2_holding : (.selects RX2 yX2_holding yX2_holding : Cond) ∈ lw_tbl := List.mem_append_left _ (List.mem_map.mpr ⟨(yX2_holding, 8), List.mem_of_getElem? (i := 14) (by decide +kernel), rfl⟩)
theorem ks_X4_wanted : (.selects RX4 yX4_wanted yX4_wanted : Cond) ∈ lw_tbl := List.mem_append_left _ (List.mem_map.mpr ⟨(yX4_wanted, 7), List.mem_of_getElem? (i := 15) (by decide +kernel), rfl⟩)
theorem ks_X2_fits : (.selects RX2 yX2_fits yX2_fits : Cond) ∈ lw_tbl := List.mem_append_left _ (List.mem_map.mpr ⟨(yX2_fits, 8), List.mem_of_getElem? (i := 16) (by decide +kernel), rfl⟩)
theorem ks_X4_typeOf : (.selects RX4 yX4_typeOf yX4_typeOf : Cond) ∈ lw_tbl := List.mem_append_left _ (List.mem_map.mpr ⟨(yX4_typeOf, 7), List.mem_of_getElem? (i := 17) (by decide +kernel), rfl⟩)
theorem ks_X2_hang : (.selects RX2 yX2_hang yX2_hang : Cond) ∈ lw_tbl := List.mem_append_left _ (List.mem_map.mpr ⟨(yX2_hang, 8), List.mem_of_getElem? (i := 18) (by decide +kernel), rfl⟩)
theorem ks_X2_closeWhole : (.selects RX2 yX2_closeWhole yX2_closeWhole : Cond) ∈ lw_tbl := List.mem_append_left _ (List.mem_map.mpr ⟨(yX2_closeWhole, 8), List.mem_of_getElem? (i := 19) (by decide +kernel), rfl⟩)
theorem ks_X3_add : (.selects RX3 yX3_add yX3_add : Cond) ∈ lw_tbl := List.mem_append_left _ (List.mem_map.mpr ⟨(yX3_add, 7), List.mem_of_getElem? (i := 20) (by decide +kernel), rfl⟩)
theorem ks_X5_load : (.selects RX5 yX5_load yX5_load : Cond) ∈ lw_tbl := List.mem_append_left _ (List.mem_map.mpr ⟨(yX5_load, 12), List.mem_of_getElem? (i := 21) (by decide +kernel), rfl⟩)
theorem ks_X8_refreshTree : (.selects RX8 yX8_refreshTree yX8_refreshTree : Cond) ∈ lw_tbl := List.mem_append_left _ (List.mem_map.mpr ⟨(yX8_refreshTree, 9), List.mem_of_getElem? (i := 22) (by decide +kernel), rfl⟩)
theorem ks_X1_plant : (.selects RX1 yX1_plant yX1_plant : Cond) ∈ lw_tbl := List.mem_append_left _ (List.mem_map.mpr ⟨(yX1_plant, 7), List.mem_of_getElem? (i := 23) (by decide +kernel), rfl⟩)
theorem ks_X6_clear : (.selects RX6 yX6_clear yX6_clear : Cond) ∈ lw_tbl := List.mem_append_left _ (List.mem_map.mpr ⟨(yX6_clear, 7), List.mem_of_getElem? (i := 24) (by decide +kernel), rfl⟩)
theorem ks_X3_forgetAsked : (.selects RX3 yX3_forgetAsked yX3_forgetAsked : Cond) ∈ lw_tbl := List.mem_append_left _ (List.mem_map.mpr ⟨(yX3_forgetAsked, 7), List.mem_of_getElem? (i := 25) (by decide +kernel), rfl⟩)
theorem ks_X1_await : (.selects RX1 yX1_await yX1_await : Cond) ∈ lw_tbl := List.mem_append_left _ (List.mem_map.mpr ⟨(yX1_await, 7), List.mem_of_getElem? (i := 26) (by decide +kernel), rfl⟩)
theorem ks_X1_grow : (.selects RX1 yX1_grow yX1_grow : Cond) ∈ lw_tbl := List.mem_append_left _ (List.mem_map.mpr ⟨(yX1_grow, 7), List.mem_of_getElem? (i := 27) (by decide +kernel), rfl⟩)
theorem ks_X1_takePosition : (.selects RX1 yX1_takePosition yX1_takePosition : Cond) ∈ lw_tbl := List.mem_append_left _ (List.mem_map.mpr ⟨(yX1_takePosition, 7), List.mem_of_getElem? (i := 28) (by decide +kernel), rfl⟩)
theorem ks_X1_startCursors : (.selects RX1 yX1_startCursors yX1_startCursors : Cond) ∈ lw_tbl := List.mem_append_left _ (List.mem_map.mpr ⟨(yX1_startCursors, 7), List.mem_of_getElem? (i := 29) (by decide +kernel), rfl⟩)
theorem ks_X3_isAsked : (.selects RX3 yX3_isAsked yX3_isAsked : Cond) ∈ lw_tbl := List.mem_append_left _ (List.mem_map.mpr ⟨(yX3_isAsked, 7), List.mem_of_getElem? (i := 30) (by decide +kernel), rfl⟩)
theorem ks_X1_enter : (.selects RX1 yX1_enter yX1_enter : Cond) ∈ lw_tbl := List.mem_append_left _ (List.mem_map.mpr ⟨(yX1_enter, 7), List.mem_of_getElem? (i := 31) (by decide +kernel), rfl⟩)
theorem ks_X1_needing : (.selects RX1 yX1_needing yX1_needing : Cond) ∈ lw_tbl := List.mem_append_left _ (List.mem_map.mpr ⟨(yX1_needing, 7), List.mem_of_getElem? (i := 32) (by decide +kernel), rfl⟩)
theorem ks_X3_isVariable : (.selects RX3 yX3_isVariable yX3_isVariable : Cond) ∈ lw_tbl := List.mem_append_left _ (List.mem_map.mpr ⟨(yX3_isVariable, 7), List.mem_of_getElem? (i := 33) (by decide +kernel), rfl⟩)
theorem ks_X1_pass : (.selects RX1 yX1_pass yX1_pass : Cond) ∈ lw_tbl := List.mem_append_left _ (List.mem_map.mpr ⟨(yX1_pass, 7), List.mem_of_getElem? (i := 34) (by decide +kernel), rfl⟩)
theorem ks_X1_ask : (.selects RX1 yX1_ask yX1_ask : Cond) ∈ lw_tbl := List.mem_append_left _ (List.mem_map.mpr ⟨(yX1_ask, 7), List.mem_of_getElem? (i := 35) (by decide +kernel), rfl⟩)
theorem ks_X1_lastConstructor : (.selects RX1 yX1_lastConstructor yX1_lastConstructor : Cond) ∈ lw_tbl := List.mem_append_left _ (List.mem_map.mpr ⟨(yX1_lastConstructor, 7), List.mem_of_getElem? (i := 36) (by decide +kernel), rfl⟩)
theorem ks_X1_having : (.selects RX1 yX1_having yX1_having : Cond) ∈ lw_tbl := List.mem_append_left _ (List.mem_map.mpr ⟨(yX1_having, 7), List.mem_of_getElem? (i := 37) (by decide +kernel), rfl⟩)
theorem ks_X6_add : (.selects RX6 yX6_add yX6_add : Cond) ∈ lw_tbl := List.mem_append_left _ (List.mem_map.mpr ⟨(yX6_add, 7), List.mem_of_getElem? (i := 38) (by decide +kernel), rfl⟩)
theorem ks_X1_partByNeed : (.selects RX1 yX1_partByNeed yX1_partByNeed : Cond) ∈ lw_tbl := List.mem_append_left _ (List.mem_map.mpr ⟨(yX1_partByNeed, 7), List.mem_of_getElem? (i := 39) (by decide +kernel), rfl⟩)
theorem ks_X1_partEach : (.selects RX1 yX1_partEach yX1_partEach : Cond) ∈ lw_tbl := List.mem_append_left _ (List.mem_map.mpr ⟨(yX1_partEach, 7), List.mem_of_getElem? (i := 40) (by decide +kernel), rfl⟩)
theorem ks_X7_reachesAll : (.selects RX7 yX7_reachesAll yX7_reachesAll : Cond) ∈ lw_tbl := List.mem_append_left _ (List.mem_map.mpr ⟨(yX7_reachesAll, 8), List.mem_of_getElem? (i := 41) (by decide +kernel), rfl⟩)
theorem ks_X7_comesTo : (.selects RX7 yX7_comesTo yX7_comesTo : Cond) ∈ lw_tbl := List.mem_append_left _ (List.mem_map.mpr ⟨(yX7_comesTo, 8), List.mem_of_getElem? (i := 42) (by decide +kernel), rfl⟩)
theorem ks_X5_unbindTo : (.selects RX5 yX5_unbindTo yX5_unbindTo : Cond) ∈ lw_tbl := List.mem_append_left _ (List.mem_map.mpr ⟨(yX5_unbindTo, 12), List.mem_of_getElem? (i := 43) (by decide +kernel), rfl⟩)
theorem ks_X5_isFree : (.selects RX5 yX5_isFree yX5_isFree : Cond) ∈ lw_tbl := List.mem_append_left _ (List.mem_map.mpr ⟨(yX5_isFree, 12), List.mem_of_getElem? (i := 44) (by decide +kernel), rfl⟩)
theorem ks_X5_bind : (.selects RX5 yX5_bind yX5_bind : Cond) ∈ lw_tbl := List.mem_append_left _ (List.mem_map.mpr ⟨(yX5_bind, 12), List.mem_of_getElem? (i := 45) (by decide +kernel), rfl⟩)
theorem ks_X7_ask : (.selects RX7 yX7_ask yX7_ask : Cond) ∈ lw_tbl := List.mem_append_left _ (List.mem_map.mpr ⟨(yX7_ask, 8), List.mem_of_getElem? (i := 46) (by decide +kernel), rfl⟩)
theorem ks_X5_part : (.selects RX5 yX5_part yX5_part : Cond) ∈ lw_tbl := List.mem_append_left _ (List.mem_map.mpr ⟨(yX5_part, 12), List.mem_of_getElem? (i := 47) (by decide +kernel), rfl⟩)
theorem ks_X5_meant : (.selects RX5 yX5_meant yX5_meant : Cond) ∈ lw_tbl := List.mem_append_left _ (List.mem_map.mpr ⟨(yX5_meant, 12), List.mem_of_getElem? (i := 48) (by decide +kernel), rfl⟩)
theorem ks_X0_add : (.selects RX0 yX0_add yX0_add : Cond) ∈ lw_tbl := List.mem_append_left _ (List.mem_map.mpr ⟨(yX0_add, 6), List.mem_of_getElem? (i := 49) (by decide +kernel), rfl⟩)
theorem ks_X5_write : (.selects RX5 yX5_write yX5_write : Cond) ∈ lw_tbl := List.mem_append_left _ (List.mem_map.mpr ⟨(yX5_write, 12), List.mem_of_getElem? (i := 50) (by decide +kernel), rfl⟩)
theorem ks_X5_leave : (.selects RX5 yX5_leave yX5_leave : Cond) ∈ lw_tbl := List.mem_append_left _ (List.mem_map.mpr ⟨(yX5_leave, 12), List.mem_of_getElem? (i := 51) (by decide +kernel), rfl⟩)
theorem ks_X0_answer : (.selects RX0 yX0_answer yX0_answer : Cond) ∈ lw_tbl := List.mem_append_left _ (List.mem_map.mpr ⟨(yX0_answer, 6), List.mem_of_getElem? (i := 52) (by decide +kernel), rfl⟩)
theorem ks_X6_answer : (.selects RX6 yX6_answer yX6_answer : Cond) ∈ lw_tbl := List.mem_append_left _ (List.mem_map.mpr ⟨(yX6_answer, 7), List.mem_of_getElem? (i := 53) (by decide +kernel), rfl⟩)
theorem ks_X6_places : (.selects RX6 yX6_places yX6_places : Cond) ∈ lw_tbl := List.mem_append_left _ (List.mem_map.mpr ⟨(yX6_places, 7), List.mem_of_getElem? (i := 54) (by decide +kernel), rfl⟩)
theorem ks_X3_placesTo : (.selects RX3 yX3_placesTo yX3_placesTo : Cond) ∈ lw_tbl := List.mem_append_left _ (List.mem_map.mpr ⟨(yX3_placesTo, 7), List.mem_of_getElem? (i := 55) (by decide +kernel), rfl⟩)
theorem ks_X3_placeOnWay : (.selects RX3 yX3_placeOnWay yX3_placeOnWay : Cond) ∈ lw_tbl := List.mem_append_left _ (List.mem_map.mpr ⟨(yX3_placeOnWay, 7), List.mem_of_getElem? (i := 56) (by decide +kernel), rfl⟩)
theorem ks_X6_coversAll : (.selects RX6 yX6_coversAll yX6_coversAll : Cond) ∈ lw_tbl := List.mem_append_left _ (List.mem_map.mpr ⟨(yX6_coversAll, 7), List.mem_of_getElem? (i := 57) (by decide +kernel), rfl⟩)
theorem ks_X6_coversWith : (.selects RX6 yX6_coversWith yX6_coversWith : Cond) ∈ lw_tbl := List.mem_append_left _ (List.mem_map.mpr ⟨(yX6_coversWith, 7), List.mem_of_getElem? (i := 58) (by decide +kernel), rfl⟩)
theorem ks_X4_constructorsOf : (.selects RX4 yX4_constructorsOf yX4_constructorsOf : Cond) ∈ lw_tbl := List.mem_append_left _ (List.mem_map.mpr ⟨(yX4_constructorsOf, 7), List.mem_of_getElem? (i := 59) (by decide +kernel), rfl⟩)
theorem ks_X3_meet : (.selects RX3 yX3_meet yX3_meet : Cond) ∈ lw_tbl := List.mem_append_left _ (List.mem_map.mpr ⟨(yX3_meet, 7), List.mem_of_getElem? (i := 60) (by decide +kernel), rfl⟩)
theorem ks_X6_howMany : (.selects RX6 yX6_howMany yX6_howMany : Cond) ∈ lw_tbl := List.mem_append_left _ (List.mem_map.mpr ⟨(yX6_howMany, 7), List.mem_of_getElem? (i := 61) (by decide +kernel), rfl⟩)
theorem ks_X6_deepest : (.selects RX6 yX6_deepest yX6_deepest : Cond) ∈ lw_tbl := List.mem_append_left _ (List.mem_map.mpr ⟨(yX6_deepest, 7), List.mem_of_getElem? (i := 62) (by decide +kernel), rfl⟩)
theorem ks_X9_areTypes : (.selects RX9 yX9_areTypes yX9_areTypes : Cond) ∈ lw_tbl := List.mem_append_left _ (List.mem_map.mpr ⟨(yX9_areTypes, 59), List.mem_of_getElem? (i := 63) (by decide +kernel), rfl⟩)
theorem ks_X9_lay : (.selects RX9 yX9_lay yX9_lay : Cond) ∈ lw_tbl := List.mem_append_left _ (List.mem_map.mpr ⟨(yX9_lay, 59), List.mem_of_getElem? (i := 64) (by decide +kernel), rfl⟩)
theorem ks_X9_openAll : (.selects RX9 yX9_openAll yX9_openAll : Cond) ∈ lw_tbl := List.mem_append_left _ (List.mem_map.mpr ⟨(yX9_openAll, 59), List.mem_of_getElem? (i := 65) (by decide +kernel), rfl⟩)
theorem ks_X9_needed : (.selects RX9 yX9_needed yX9_needed : Cond) ∈ lw_tbl := List.mem_append_left _ (List.mem_map.mpr ⟨(yX9_needed, 59), List.mem_of_getElem? (i := 66) (by decide +kernel), rfl⟩)
theorem ks_X9_there : (.selects RX9 yX9_there yX9_there : Cond) ∈ lw_tbl := List.mem_append_left _ (List.mem_map.mpr ⟨(yX9_there, 59), List.mem_of_getElem? (i := 67) (by decide +kernel), rfl⟩)
theorem ks_X9_node : (.selects RX9 yX9_node yX9_node : Cond) ∈ lw_tbl := List.mem_append_left _ (List.mem_map.mpr ⟨(yX9_node, 59), List.mem_of_getElem? (i := 68) (by decide +kernel), rfl⟩)
theorem ks_X9_those : (.selects RX9 yX9_those yX9_those : Cond) ∈ lw_tbl := List.mem_append_left _ (List.mem_map.mpr ⟨(yX9_those, 59), List.mem_of_getElem? (i := 69) (by decide +kernel), rfl⟩)
theorem ks_X9_take : (.selects RX9 yX9_take yX9_take : Cond) ∈ lw_tbl := List.mem_append_left _ (List.mem_map.mpr ⟨(yX9_take, 59), List.mem_of_getElem? (i := 70) (by decide +kernel), rfl⟩)
theorem ks_X9_putBack : (.selects RX9 yX9_putBack yX9_putBack : Cond) ∈ lw_tbl := List.mem_append_left _ (List.mem_map.mpr ⟨(yX9_putBack, 59), List.mem_of_getElem? (i := 71) (by decide +kernel), rfl⟩)
theorem ks_X9_run : (.selects RX9 yX9_run yX9_run : Cond) ∈ lw_tbl := List.mem_append_left _ (List.mem_map.mpr ⟨(yX9_run, 59), List.mem_of_getElem? (i := 72) (by decide +kernel), rfl⟩)
theorem ks_X9_wrong : (.selects RX9 yX9_wrong yX9_wrong : Cond) ∈ lw_tbl := List.mem_append_left _ (List.mem_map.mpr ⟨(yX9_wrong, 59), List.mem_of_getElem? (i := 73) (by decide +kernel), rfl⟩)
theorem ks_X9_want : (.selects RX9 yX9_want yX9_want : Cond) ∈ lw_tbl := List.mem_append_left _ (List.mem_map.mpr ⟨(yX9_want, 59), List.mem_of_getElem? (i := 74) (by decide +kernel), rfl⟩)
theorem ks_X9_fits : (.selects RX9 yX9_fits yX9_fits : Cond) ∈ lw_tbl := List.mem_append_left _ (List.mem_map.mpr ⟨(yX9_fits, 59), List.mem_of_getElem? (i := 75) (by decide +kernel), rfl⟩)
theorem ks_X9_read : (.selects RX9 yX9_read yX9_read : Cond) ∈ lw_tbl := List.mem_append_left _ (List.mem_map.mpr ⟨(yX9_read, 59), List.mem_of_getElem? (i := 76) (by decide +kernel), rfl⟩)
theorem ks_X9_newCells : (.selects RX9 yX9_newCells yX9_newCells : Cond) ∈ lw_tbl := List.mem_append_left _ (List.mem_map.mpr ⟨(yX9_newCells, 59), List.mem_of_getElem? (i := 77) (by decide +kernel), rfl⟩)
theorem ks_X9_go : (.selects RX9 yX9_go yX9_go : Cond) ∈ lw_tbl := List.mem_append_left _ (List.mem_map.mpr ⟨(yX9_go, 59), List.mem_of_getElem? (i := 78) (by decide +kernel), rfl⟩)
theorem ks_X9_comes : (.selects RX9 yX9_comes yX9_comes : Cond) ∈ lw_tbl := List.mem_append_left _ (List.mem_map.mpr ⟨(yX9_comes, 59), List.mem_of_getElem? (i := 79) (by decide +kernel), rfl⟩)
theorem ks_X9_here : (.selects RX9 yX9_here yX9_here : Cond) ∈ lw_tbl := List.mem_append_left _ (List.mem_map.mpr ⟨(yX9_here, 59), List.mem_of_getElem? (i := 80) (by decide +kernel), rfl⟩)
theorem ks_X9_grown : (.selects RX9 yX9_grown yX9_grown : Cond) ∈ lw_tbl := List.mem_append_left _ (List.mem_map.mpr ⟨(yX9_grown, 59), List.mem_of_getElem? (i := 81) (by decide +kernel), rfl⟩)
theorem ks_X9_shift : (.selects RX9 yX9_shift yX9_shift : Cond) ∈ lw_tbl := List.mem_append_left _ (List.mem_map.mpr ⟨(yX9_shift, 59), List.mem_of_getElem? (i := 82) (by decide +kernel), rfl⟩)
theorem ks_X9_shiftBack : (.selects RX9 yX9_shiftBack yX9_shiftBack : Cond) ∈ lw_tbl := List.mem_append_left _ (List.mem_map.mpr ⟨(yX9_shiftBack, 59), List.mem_of_getElem? (i := 83) (by decide +kernel), rfl⟩)
theorem ks_X9_places : (.selects RX9 yX9_places yX9_places : Cond) ∈ lw_tbl := List.mem_append_left _ (List.mem_map.mpr ⟨(yX9_places, 59), List.mem_of_getElem? (i := 84) (by decide +kernel), rfl⟩)
end
section
theorem inX0 : ∀ w ∈ wsX00, w ∈ lw_tbl := by
  intro w hw
  exact List.mem_append_right _ (of_decide_eq_true (List.all_eq_true.mp (show (wsX00.all fun w => decide (w ∈ tables_1)) = true by decide +kernel) w hw))
theorem inX1 : ∀ w ∈ wsX10, w ∈ lw_tbl := by
  intro w hw
  exact List.mem_append_right _ (of_decide_eq_true (List.all_eq_true.mp (show (wsX10.all fun w => decide (w ∈ tables_1)) = true by decide +kernel) w hw))
theorem inX2 : ∀ w ∈ wsX20, w ∈ lw_tbl := by
  intro w hw
  exact List.mem_append_right _ (of_decide_eq_true (List.all_eq_true.mp (show (wsX20.all fun w => decide (w ∈ tables_1)) = true by decide +kernel) w hw))
theorem inX3 : ∀ w ∈ wsX30, w ∈ lw_tbl := by
  intro w hw
  exact List.mem_append_right _ (of_decide_eq_true (List.all_eq_true.mp (show (wsX30.all fun w => decide (w ∈ tables_1)) = true by decide +kernel) w hw))
theorem inX4 : ∀ w ∈ wsX40, w ∈ lw_tbl := by
  intro w hw
  exact List.mem_append_right _ (of_decide_eq_true (List.all_eq_true.mp (show (wsX40.all fun w => decide (w ∈ tables_1)) = true by decide +kernel) w hw))
theorem inX5 : ∀ w ∈ wsX50, w ∈ lw_tbl := by
  intro w hw
  exact List.mem_append_right _ (of_decide_eq_true (List.all_eq_true.mp (show (wsX50.all fun w => decide (w ∈ tables_1)) = true by decide +kernel) w hw))
theorem inX6 : ∀ w ∈ wsX60, w ∈ lw_tbl := by
  intro w hw
  exact List.mem_append_right _ (of_decide_eq_true (List.all_eq_true.mp (show (wsX60.all fun w => decide (w ∈ tables_1)) = true by decide +kernel) w hw))
theorem inX7 : ∀ w ∈ wsX70, w ∈ lw_tbl := by
  intro w hw
  exact List.mem_append_right _ (of_decide_eq_true (List.all_eq_true.mp (show (wsX70.all fun w => decide (w ∈ tables_1)) = true by decide +kernel) w hw))
theorem inX8 : ∀ w ∈ wsX80, w ∈ lw_tbl := by
  intro w hw
  exact List.mem_append_right _ (of_decide_eq_true (List.all_eq_true.mp (show (wsX80.all fun w => decide (w ∈ tables_1)) = true by decide +kernel) w hw))
theorem inX9 : ∀ w ∈ wsX90, w ∈ lw_tbl := by
  intro w hw
  exact List.mem_append_right _ (of_decide_eq_true (List.all_eq_true.mp (show (wsX90.all fun w => decide (w ∈ tables_1)) = true by decide +kernel) w hw))
end
section
/-! the words of the tables, at every state of a run -/
def okW (w : Cond) : Bool := match w with
  | .fieldLinkNest _ _ _ _ _ _ => true
  | .methodLinkNest _ _ _ _ => true
  | .arrayClass _ => true
  | w => w.onTables && w.keeps
def onW (w : Cond) : Bool := match w with
  | .arrayClass _ => true
  | w => w.onTables
/-- the words that stay -/
def lw_g : List Cond := lw_tbl.filter fun w => okW w && onW w
theorem toG {w : Cond} (h : w ∈ lw_tbl) (ho : (okW w && onW w) = true) : w ∈ lw_g := List.mem_filter.mpr ⟨h, ho⟩
theorem gW {w : Cond} (h : w ∈ lw_g) : okW w = true ∧ onW w = true := by
  have h1 := (List.mem_filter.mp h).2
  rwa [Bool.and_eq_true] at h1
def En (U : State) : Prop := ∀ w ∈ lw_g, va_Nw w U
theorem En.warm {s U : State} (h : En s) (hW : s.WarmedH U.vm) : En U := by
  intro w hw
  have h3 := (gW hw).1
  have h2 := h w hw
  cases w <;> first | exact va_Nw.warmF hW h2 | exact va_Nw.warmM hW h2 | exact word_at hW (Or.inr ⟨_, rfl⟩) h2 | exact word_at hW (Or.inl (by exact h3)) h2
theorem En.use {s : State} (h : En s) (args : Array Value) : ∀ w ∈ lw_g, w.before args s = true := by
  intro w hw
  have h3 := (gW hw).2
  have h2 := h w hw
  cases w <;> first | exact word_at (State.WarmedH.refl s) (Or.inr ⟨_, rfl⟩) h2 | exact va_Nw.use (by exact h3) h2
theorem En.at {s : State} (h : En s) (args : Array Value) {w : Cond} (hw : w ∈ lw_tbl) (ho : (okW w && onW w) = true := by rfl) : w.before args s = true := h.use args w (toG hw ho)
theorem En.of {s : State} {args : Array Value} (h : ∀ w ∈ lw_tbl, w.before args s = true) : En s := by
  intro w hw
  have h3 := (gW hw).2
  have h2 := h w (List.mem_filter.mp hw).1
  cases w <;> first | exact word_at (State.WarmedH.refl s) (Or.inr ⟨_, rfl⟩) h2 | exact va_Nw.of (by exact h3) h2
theorem En.vm {s U : State} (h : En s) (hv : s.vm = U.vm) : En U := h.warm (hv ▸ State.WarmedH.refl s)
theorem inG0 : ∀ w ∈ wsX00, w ∈ lw_g := fun w h => toG (inX0 w h) (List.all_eq_true.mp (show (wsX00.all fun w => okW w && onW w) = true by decide +kernel) w h)
theorem inG1 : ∀ w ∈ wsX10, w ∈ lw_g := fun w h => toG (inX1 w h) (List.all_eq_true.mp (show (wsX10.all fun w => okW w && onW w) = true by decide +kernel) w h)
theorem inG2 : ∀ w ∈ wsX20, w ∈ lw_g := fun w h => toG (inX2 w h) (List.all_eq_true.mp (show (wsX20.all fun w => okW w && onW w) = true by decide +kernel) w h)
theorem inG3 : ∀ w ∈ wsX30, w ∈ lw_g := fun w h => toG (inX3 w h) (List.all_eq_true.mp (show (wsX30.all fun w => okW w && onW w) = true by decide +kernel) w h)
theorem inG4 : ∀ w ∈ wsX40, w ∈ lw_g := fun w h => toG (inX4 w h) (List.all_eq_true.mp (show (wsX40.all fun w => okW w && onW w) = true by decide +kernel) w h)
theorem inG5 : ∀ w ∈ wsX50, w ∈ lw_g := fun w h => toG (inX5 w h) (List.all_eq_true.mp (show (wsX50.all fun w => okW w && onW w) = true by decide +kernel) w h)
theorem inG6 : ∀ w ∈ wsX60, w ∈ lw_g := fun w h => toG (inX6 w h) (List.all_eq_true.mp (show (wsX60.all fun w => okW w && onW w) = true by decide +kernel) w h)
theorem inG7 : ∀ w ∈ wsX70, w ∈ lw_g := fun w h => toG (inX7 w h) (List.all_eq_true.mp (show (wsX70.all fun w => okW w && onW w) = true by decide +kernel) w h)
theorem inG8 : ∀ w ∈ wsX80, w ∈ lw_g := fun w h => toG (inX8 w h) (List.all_eq_true.mp (show (wsX80.all fun w => okW w && onW w) = true by decide +kernel) w h)
theorem inG9 : ∀ w ∈ wsX90, w ∈ lw_g := fun w h => toG (inX9 w h) (List.all_eq_true.mp (show (wsX90.all fun w => okW w && onW w) = true by decide +kernel) w h)
/-! a state: the numbers and the rows -/
abbrev St : Type := (Nat → Int32) × (Nat → Nat → Int32)
def gF (σ : St) (k : Nat) : Int32 := σ.1 k
def gA (σ : St) (k : Nat) : Nat → Int32 := σ.2 k
def sF (σ : St) (k : Nat) (v : Int32) : St := (va_up σ.1 k v, σ.2)
def sA (σ : St) (k : Nat) (f : Nat → Int32) : St := (σ.1, va_up σ.2 k f)
abbrev Rs : Type := Option (Int32 × St)
def bd {α β : Type} (e : α) (k : α → β) : β := k e
theorem bd_e {α : Type} {e : α} {k : α → Rs} {y : Int32 × St} (h : bd e k = some y) : ∃ x, x = e ∧ k x = some y := ⟨e, rfl, h⟩
def bo (x : Rs) (k : Int32 → St → Rs) : Rs := match x with
  | some q => k q.1 q.2
  | none => none
theorem bo_e {x : Rs} {k : Int32 → St → Rs} {y : Int32 × St} (h : bo x k = some y) : ∃ r σ, x = some (r, σ) ∧ k r σ = some y := by
  cases x with
  | none => cases h
  | some q => exact ⟨q.1, q.2, rfl, h⟩
def ck (b : Bool) (r : Rs) : Rs := if b = true then r else none
theorem ck_e {b : Bool} {r : Rs} {y : Int32 × St} (h : ck b r = some y) : b = true ∧ r = some y := by
  unfold ck at h
  split at h
  · next hb => exact ⟨hb, h⟩
  · cases h
theorem it_t {c : Prop} {d : Decidable c} {a b : Rs} {y : Int32 × St} (hc : c) (h : @ite Rs c d a b = some y) : a = some y := by rwa [if_pos hc] at h
theorem it_f {c : Prop} {d : Decidable c} {a b : Rs} {y : Int32 × St} (hc : ¬ c) (h : @ite Rs c d a b = some y) : b = some y := by rwa [if_neg hc] at h
def inb (i : Int32) (n : Nat) : Bool := decide (0 ≤ i) && decide (i.toNatClampNeg < n)
theorem inb_in {i : Int32} {n : Nat} (h : inb i n = true) : vp_in i n := by
  simp only [inb, Bool.and_eq_true, decide_eq_true_eq] at h
  intro q
  rcases q with q | q
  · exact absurd h.1 (Int32.not_le.mpr q)
  · omega
def isB (v : Int32) : Bool := v == 0 || v == 1
theorem isB_n {v : Int32} (h : isB v = true) : narrow .boolean (.int v) = .int v := by
  simp only [isB, Bool.or_eq_true, beq_iff_eq] at h
  rcases h with rfl | rfl <;> rfl
theorem isB_f {v : Int32} (h : isB v = true) : fits .boolean (.int v) = true := by
  simp only [isB, Bool.or_eq_true, beq_iff_eq] at h
  rcases h with rfl | rfl <;> rfl
/-- what a row answers, and what it becomes, where every index is looked at first -/
def rd (n : Nat) (f : Nat → Int32) (i : Int32) : Int32 := if inb i n = true then f i.toNatClampNeg else -1
def wr (n : Nat) (f : Nat → Int32) (i v : Int32) : Nat → Int32 := if inb i n = true then upd f i.toNatClampNeg v else f
/-! a world, and the contracts over it -/
abbrev Wf : Type := Nat → St → va_W
def Wd (D : va_G) (cA : ClassId) (A : Nat → Prop) (w : va_W) (U : State) : Prop :=
  En U ∧ va_P D vwCl w U.heap ∧ va_K D vwCl [(cA, .int)] U ∧ va_D A w ∧ ∀ q : Nat, U.heap.size ≤ q → A q
theorem Wd.calling {D : va_G} {cA : ClassId} {A : Nat → Prop} {w : va_W} (av : List Value) : FrameBlind (va_Pc av (Wd D cA A w)) := by
  intro a U g mk h
  obtain ⟨h0, h1, h2, h3, h4, h5⟩ := h
  exact ⟨h0, h1.vm rfl, h2, va_K.moved (u := U) (U := U.calling g mk a) (Vm.Alike.refl U.vm) h3, h4, h5⟩
abbrev QI (D : va_G) (cA : ClassId) (A : Nat → Prop) (w : Wf) (r : Int32) (σ : St) : Array Value → State → Outcome → State → Prop :=
  va_Qi (fun r' (u : St × Nat) => r' = r ∧ u.1 = σ) (fun u t => Wd D cA A (w u.2 u.1) t) A
abbrev QV (D : va_G) (cA : ClassId) (A : Nat → Prop) (w : Wf) (σ : St) : Array Value → State → Outcome → State → Prop :=
  va_Qv (fun (u : St × Nat) => u.1 = σ) (fun u t => Wd D cA A (w u.2 u.1) t) A
abbrev MI (l : Launch) (D : va_G) (cA : ClassId) (A : Nat → Prop) (w : Wf) (y : MethodName) (b : ByteArray) (nL : Nat) (rt : Option FieldType) (rm : Room) (av : List Value) (ta : Nat) (σ : St) (r : Int32) (σ' : St) (mc ms : Nat) : Prop :=
  Met l y [.code y b nL rt] rm (va_Pc av (Wd D cA A (w ta σ))) (QI D cA A w r σ') mc ms A
abbrev MV (l : Launch) (D : va_G) (cA : ClassId) (A : Nat → Prop) (w : Wf) (y : MethodName) (b : ByteArray) (nL : Nat) (rt : Option FieldType) (rm : Room) (av : List Value) (ta : Nat) (σ : St) (σ' : St) (mc ms : Nat) : Prop :=
  Met l y [.code y b nL rt] rm (va_Pc av (Wd D cA A (w ta σ))) (QV D cA A w σ') mc ms A
/-- what is fixed in a method's body -/
def Fx (p : Program) (s : State) (m : MethodId) (meth : Method) (c : Code) (D : va_G) (cA : ClassId) (A : Nat → Prop) (own : String) (b : ByteArray) (nL : Nat) (rt : Option FieldType) : Prop :=
  p.tables.exec = Jvm.exec ∧ c.code = b ∧ meth.sig.returnType = rt ∧ c.maxLocals = nL ∧ s.vm.findClass own = some m.cls ∧ meth.locks = false ∧ En s ∧ va_K D vwCl [(cA, .int)] s ∧ (∀ q : Nat, s.heap.size ≤ q → A q)
section FR
variable {l : Launch} {D : va_G} {cA : ClassId} {A : Nat → Prop}
theorem enter {y : MethodName} {b : ByteArray} {nL : Nat} {rt : Option FieldType} {rm : Room} {av : List Value} {w : va_W} {Qc : Array Value → State → Outcome → State → Prop} {mc ms : Nat}
    (hy : plainName y.cls = true) (hn : (lg_sl av).length ≤ nL)
    (body : ∀ (p : Program) (e : Env) (s : State) (m : MethodId) (below : List Frame) (meth : Method) (c : Code) (ls : Array Slot), Fx p s m meth c D cA A y.cls b nL rt →
      meth.name = y.name → va_P D vwCl w s.heap → va_D A w → va_S A s.heap s.heap [] → lv_has ls nL (lv_args 0 av) → W p l e rm s m av.toArray below meth c s.heap [] 0 0 (MQ below Qc av.toArray s mc ms A) (F0 m 0 ls [])) :
    Met l y [.code y b nL rt] rm (va_Pc av (Wd D cA A w)) Qc mc ms A := by
  refine Met.ofW (cc := b) (maxL := nL) (ret := rt) hy rfl ?_
  intro p e s m args below meth c s₁ B hml hv
  obtain ⟨rfl, hE, hP, hK, hD, hA⟩ := hv
  have hl := lv_entry av (n := nL) hn
  rw [lg_entry_eq]
  exact body p e s m below meth c _ ⟨B.exec, B.bytes, B.returns, hml, findClass_of_methodNamed B.named, B.notSynchronized, hE, hK, hA⟩ (name_of_methodNamed B.named B.method).1 hP hD va_S.rf hl
end FR
/-! calls -/
def Cv (y : MethodName) (C : String) (b : ByteArray) (nL : Nat) (rt : Option FieldType) (n : Nat) : Prop :=
  Cond.code y b nL rt ∈ lw_tbl ∧ Cond.initialized y.cls ∈ lw_tbl ∧ Cond.instanceMethod y ∈ lw_tbl ∧ Cond.selects C y y ∈ lw_tbl ∧ (y.cls ≠ "java/lang/invoke/MethodHandle" ∧ y.cls ≠ "java/lang/invoke/VarHandle") ∧ (parseMethodDescriptor y.desc).map (fun d => d.parameters.length) = some n
def Cs (y : MethodName) (b : ByteArray) (nL : Nat) (rt : Option FieldType) (n : Nat) : Prop :=
  Cond.code y b nL rt ∈ lw_tbl ∧ Cond.initialized y.cls ∈ lw_tbl ∧ Cond.static y ∈ lw_tbl ∧ (y.cls ≠ "java/lang/invoke/MethodHandle" ∧ y.cls ≠ "java/lang/invoke/VarHandle") ∧ (parseMethodDescriptor y.desc).map (fun d => d.parameters.length) = some n
theorem len_of {y : MethodName} {n : Nat} (h : (parseMethodDescriptor y.desc).map (fun d => d.parameters.length) = some n) : ∀ sig, parseMethodDescriptor y.desc = some sig → n = sig.parameters.length := by
  intro sig hs
  rw [hs] at h
  exact (Option.some.inj h).symm
section CL
variable {p : Program} {l : Launch} {e : Env} {R : Room} {s : State} {m : MethodId} {args : Array Value} {below : List Frame} {meth : Method} {c : Code} {H : Heap} {locs : List Loc} {cells slots : Nat} {Q : State → Prop}
variable {D : va_G} {cA : ClassId} {A : Nat → Prop} {w : Wf} {own : String} {cc : ByteArray} {nL pc index : Nat} {rt : Option FieldType} {ls : Array Slot}
variable {y : MethodName} {b : ByteArray} {nC n mc ms : Nat} {rc : Option FieldType} {rm : Room} {ta : Nat} {σ σ' : St} {r : Int32} {o : Nat} {As rest st0 : List Value} {C : String}
theorem code_kept {hE : En s} (hc : Cond.code y b nC rc ∈ lw_tbl) : ∀ w ∈ [Cond.code y b nC rc], ∀ (a' : Array Value) (U : State), s.WarmedH U.vm → w.before a' U = true := by
  intro w hw a' U hU
  cases List.mem_singleton.mp hw
  exact (hE.warm hU).at a' hc
theorem cb_of (X : Fx p s m meth c D cA A own cc nL rt) (hc : Cond.code y b nC rc ∈ lw_tbl) (hi : Cond.initialized y.cls ∈ lw_tbl) (hy : y.cls ≠ "java/lang/invoke/MethodHandle" ∧ y.cls ≠ "java/lang/invoke/VarHandle") (hn : (parseMethodDescriptor y.desc).map (fun d => d.parameters.length) = some n)
    (hR : rm.frames + 1 ≤ R.frames ∧ 8 + (nC + 11) + rm.locals ≤ R.locals) (hm : rm.cells = mc ∧ rm.slots = ms) (hl : Cond.methodLink own index y ∈ lw_tbl) : CallB R s args own index y b nC rc [.code y b nC rc] rm mc ms n := by
  obtain ⟨-, -, -, -, -, -, hE, -, -⟩ := X
  exact ⟨hm.1, hm.2, hR.1, hR.2, code_kept (hE := hE) hc, List.mem_singleton.mpr rfl, hE.at args hc, hE.at args hi, hy, len_of hn, hE.at args hl⟩
theorem cn_of {host : String} (X : Fx p s m meth c D cA A own cc nL rt) (hc : Cond.code y b nC rc ∈ lw_tbl) (hi : Cond.initialized y.cls ∈ lw_tbl) (hy : y.cls ≠ "java/lang/invoke/MethodHandle" ∧ y.cls ≠ "java/lang/invoke/VarHandle") (hn : (parseMethodDescriptor y.desc).map (fun d => d.parameters.length) = some n)
    (hR : rm.frames + 1 ≤ R.frames ∧ 8 + (nC + 11) + rm.locals ≤ R.locals) (hm : rm.cells = mc ∧ rm.slots = ms) (hl : Cond.methodLinkNest own index y host ∈ lw_tbl) : va_CN R s args own index y host b nC rc [.code y b nC rc] rm mc ms n := by
  obtain ⟨-, -, -, -, -, -, hE, -, -⟩ := X
  exact ⟨⟨hm.1, hm.2, hR.1, hR.2, code_kept (hE := hE) hc, List.mem_singleton.mpr rfl⟩, hE.at args hc, hE.at args hi, hy, len_of hn, hE.at args hl⟩
/-- the world, at a callee's entry -/
theorem pre_of (X : Fx p s m meth c D cA A own cc nL rt) (w0 : va_W) (hP : va_P D vwCl w0 H) (hD : va_D A w0) (hS : va_S A s.heap H locs) (av : List Value) : PreS s H (va_Pc av (Wd D cA A w0)) av := by
  obtain ⟨-, -, -, -, -, -, hE, hK, hA⟩ := X
  exact ⟨Wd.calling av, fun U hU hW => ⟨rfl, hE.warm hW, by rw [hU]; exact hP, va_K.moved hW.alike hK, hD, fun q hq => hA q (Nat.le_trans hS.1 (by rw [hU] at hq; exact hq))⟩⟩
/-- what a contract's world gives back -/
theorem run_i {av : Array Value} (hr : va_Run p l e R s m args below meth c H locs cells slots mc ms (F0 m pc ls st0) rest (QI D cA A w r σ' av) A) (hS : va_S A s.heap H locs)
    (kk : ∀ (ta' : Nat) (H1 : Heap) (locs1 : List Loc), va_P D vwCl (w ta' σ') H1 → va_D A (w ta' σ') → va_S A s.heap H1 locs1 → W p l e R s m args below meth c H1 locs1 (cells + mc) (slots + ms) Q (F0 m (pc + 3) ls (.int r :: rest))) :
    W p l e R s m args below meth c H locs cells slots Q (F0 m pc ls st0) := by
  refine va_calli hr hS (fun q _ h => h) (fun q h => h) (fun r1 u t H1 locs1 ht hvm hp hB hz hk hS1 => ?_)
  obtain ⟨rfl, hu⟩ := hp
  obtain ⟨σ1, ta'⟩ := u
  cases hu
  obtain ⟨-, hP, -, hD, -⟩ := hB
  rw [ht] at hP
  exact kk ta' H1 locs1 hP hD hS1
theorem run_v {av : Array Value} (hr : va_Run p l e R s m args below meth c H locs cells slots mc ms (F0 m pc ls st0) rest (QV D cA A w σ' av) A) (hS : va_S A s.heap H locs)
    (kk : ∀ (ta' : Nat) (H1 : Heap) (locs1 : List Loc), va_P D vwCl (w ta' σ') H1 → va_D A (w ta' σ') → va_S A s.heap H1 locs1 → W p l e R s m args below meth c H1 locs1 (cells + mc) (slots + ms) Q (F0 m (pc + 3) ls rest)) :
    W p l e R s m args below meth c H locs cells slots Q (F0 m pc ls st0) := by
  refine va_callv hr hS (fun q _ h => h) (fun q h => h) (fun u t H1 locs1 ht hvm hp hB hz hk hS1 => ?_)
  obtain ⟨σ1, ta'⟩ := u
  cases hp
  obtain ⟨-, hP, -, hD, -⟩ := hB
  rw [ht] at hP
  exact kk ta' H1 locs1 hP hD hS1
theorem callV_i (X : Fx p s m meth c D cA A own cc nL rt) (cv : Cv y C b nC rc n) (hl : Cond.methodLink own index y ∈ lw_tbl) (hM : MI l D cA A w y b nC rc rm (.ref o :: As) ta σ r σ' mc ms)
    (hR : rm.frames + 1 ≤ R.frames ∧ 8 + (nC + 11) + rm.locals ≤ R.locals) (hm : rm.cells = mc ∧ rm.slots = ms) (hP : va_P D vwCl (w ta σ) H) (hD : va_D A (w ta σ)) (hS : va_S A s.heap H locs) {q0 ci : Nat} {fs : List Value} {qc : vw_C} (he : (w ta σ)[q0]? = some (o, .inr (ci, fs))) (hci : vwCl[ci]? = some qc) (hq : qc.1 = C)
    (hn : As.length = n) {lv : List (Nat × Value)} (hlv : lv_has ls nL lv) (hst : st0 = As.reverse ++ .ref o :: rest) (hW : (rest.map fun v => v.category).sum ≤ 8) (hdg : decode cc pc = .ok (.invokevirtual index, 3)) (hf : cells + mc ≤ R.cells ∧ slots + ms ≤ R.slots)
    (kk : ∀ (ta' : Nat) (H1 : Heap) (locs1 : List Loc), va_P D vwCl (w ta' σ') H1 → va_D A (w ta' σ') → va_S A s.heap H1 locs1 → W p l e R s m args below meth c H1 locs1 (cells + mc) (slots + ms) Q (F0 m (pc + 3) ls (.int r :: rest))) :
    W p l e R s m args below meth c H locs cells slots Q (F0 m pc ls st0) := by
  have hpre := pre_of X (w ta σ) hP hD hS (.ref o :: As)
  obtain ⟨c1, c2, c3, c4, c5, c6⟩ := cv
  have cb := cb_of X c1 c2 c5 c6 hR hm hl (args := args)
  obtain ⟨hx, hb, -, hml, hown, -, hE, hK, -⟩ := X
  subst hq
  exact run_i (va_runV (g := F0 m pc ls st0) (rest := rest) ⟨hx, hb, hml, hown, hE.use args⟩ hM ⟨cb, hE.at args c3, hE.at args c4⟩ ⟨hpre.1, va_recv hK hP hci he, hpre.2⟩ rfl hn hlv.1 hst (lv_room hW) hdg hf) hS kk
theorem callV_v (X : Fx p s m meth c D cA A own cc nL rt) (cv : Cv y C b nC rc n) (hl : Cond.methodLink own index y ∈ lw_tbl) (hM : MV l D cA A w y b nC rc rm (.ref o :: As) ta σ σ' mc ms)
    (hR : rm.frames + 1 ≤ R.frames ∧ 8 + (nC + 11) + rm.locals ≤ R.locals) (hm : rm.cells = mc ∧ rm.slots = ms) (hP : va_P D vwCl (w ta σ) H) (hD : va_D A (w ta σ)) (hS : va_S A s.heap H locs) {q0 ci : Nat} {fs : List Value} {qc : vw_C} (he : (w ta σ)[q0]? = some (o, .inr (ci, fs))) (hci : vwCl[ci]? = some qc) (hq : qc.1 = C)
    (hn : As.length = n) {lv : List (Nat × Value)} (hlv : lv_has ls nL lv) (hst : st0 = As.reverse ++ .ref o :: rest) (hW : (rest.map fun v => v.category).sum ≤ 8) (hdg : decode cc pc = .ok (.invokevirtual index, 3)) (hf : cells + mc ≤ R.cells ∧ slots + ms ≤ R.slots)
    (kk : ∀ (ta' : Nat) (H1 : Heap) (locs1 : List Loc), va_P D vwCl (w ta' σ') H1 → va_D A (w ta' σ') → va_S A s.heap H1 locs1 → W p l e R s m args below meth c H1 locs1 (cells + mc) (slots + ms) Q (F0 m (pc + 3) ls rest)) :
    W p l e R s m args below meth c H locs cells slots Q (F0 m pc ls st0) := by
  have hpre := pre_of X (w ta σ) hP hD hS (.ref o :: As)
  obtain ⟨c1, c2, c3, c4, c5, c6⟩ := cv
  have cb := cb_of X c1 c2 c5 c6 hR hm hl (args := args)
  obtain ⟨hx, hb, -, hml, hown, -, hE, hK, -⟩ := X
  subst hq
  exact run_v (va_runV (g := F0 m pc ls st0) (rest := rest) ⟨hx, hb, hml, hown, hE.use args⟩ hM ⟨cb, hE.at args c3, hE.at args c4⟩ ⟨hpre.1, va_recv hK hP hci he, hpre.2⟩ rfl hn hlv.1 hst (lv_room hW) hdg hf) hS kk
theorem callVN_i {host : String} (X : Fx p s m meth c D cA A own cc nL rt) (cv : Cv y C b nC rc n) (hl : Cond.methodLinkNest own index y host ∈ lw_tbl) (hM : MI l D cA A w y b nC rc rm (.ref o :: As) ta σ r σ' mc ms)
    (hR : rm.frames + 1 ≤ R.frames ∧ 8 + (nC + 11) + rm.locals ≤ R.locals) (hm : rm.cells = mc ∧ rm.slots = ms) (hP : va_P D vwCl (w ta σ) H) (hD : va_D A (w ta σ)) (hS : va_S A s.heap H locs) {q0 ci : Nat} {fs : List Value} {qc : vw_C} (he : (w ta σ)[q0]? = some (o, .inr (ci, fs))) (hci : vwCl[ci]? = some qc) (hq : qc.1 = C)
    (hn : As.length = n) {lv : List (Nat × Value)} (hlv : lv_has ls nL lv) (hst : st0 = As.reverse ++ .ref o :: rest) (hW : (rest.map fun v => v.category).sum ≤ 8) (hdg : decode cc pc = .ok (.invokevirtual index, 3)) (hf : cells + mc ≤ R.cells ∧ slots + ms ≤ R.slots)
    (kk : ∀ (ta' : Nat) (H1 : Heap) (locs1 : List Loc), va_P D vwCl (w ta' σ') H1 → va_D A (w ta' σ') → va_S A s.heap H1 locs1 → W p l e R s m args below meth c H1 locs1 (cells + mc) (slots + ms) Q (F0 m (pc + 3) ls (.int r :: rest))) :
    W p l e R s m args below meth c H locs cells slots Q (F0 m pc ls st0) := by
  have hpre := pre_of X (w ta σ) hP hD hS (.ref o :: As)
  obtain ⟨c1, c2, c3, c4, c5, c6⟩ := cv
  have cb := cn_of X c1 c2 c5 c6 hR hm hl (args := args)
  obtain ⟨hx, hb, -, hml, hown, -, hE, hK, -⟩ := X
  subst hq
  exact run_i (va_runVN (g := F0 m pc ls st0) (rest := rest) ⟨hx, hb, hml, hown, hE.use args⟩ hM ⟨cb, hE.at args c3, hE.at args c4⟩ ⟨hpre.1, va_recv hK hP hci he, hpre.2⟩ rfl hn hlv.1 hst (lv_room hW) hdg hf) hS kk
theorem callVN_v {host : String} (X : Fx p s m meth c D cA A own cc nL rt) (cv : Cv y C b nC rc n) (hl : Cond.methodLinkNest own index y host ∈ lw_tbl) (hM : MV l D cA A w y b nC rc rm (.ref o :: As) ta σ σ' mc ms)
    (hR : rm.frames + 1 ≤ R.frames ∧ 8 + (nC + 11) + rm.locals ≤ R.locals) (hm : rm.cells = mc ∧ rm.slots = ms) (hP : va_P D vwCl (w ta σ) H) (hD : va_D A (w ta σ)) (hS : va_S A s.heap H locs) {q0 ci : Nat} {fs : List Value} {qc : vw_C} (he : (w ta σ)[q0]? = some (o, .inr (ci, fs))) (hci : vwCl[ci]? = some qc) (hq : qc.1 = C)
    (hn : As.length = n) {lv : List (Nat × Value)} (hlv : lv_has ls nL lv) (hst : st0 = As.reverse ++ .ref o :: rest) (hW : (rest.map fun v => v.category).sum ≤ 8) (hdg : decode cc pc = .ok (.invokevirtual index, 3)) (hf : cells + mc ≤ R.cells ∧ slots + ms ≤ R.slots)
    (kk : ∀ (ta' : Nat) (H1 : Heap) (locs1 : List Loc), va_P D vwCl (w ta' σ') H1 → va_D A (w ta' σ') → va_S A s.heap H1 locs1 → W p l e R s m args below meth c H1 locs1 (cells + mc) (slots + ms) Q (F0 m (pc + 3) ls rest)) :
    W p l e R s m args below meth c H locs cells slots Q (F0 m pc ls st0) := by
  have hpre := pre_of X (w ta σ) hP hD hS (.ref o :: As)
  obtain ⟨c1, c2, c3, c4, c5, c6⟩ := cv
  have cb := cn_of X c1 c2 c5 c6 hR hm hl (args := args)
  obtain ⟨hx, hb, -, hml, hown, -, hE, hK, -⟩ := X
  subst hq
  exact run_v (va_runVN (g := F0 m pc ls st0) (rest := rest) ⟨hx, hb, hml, hown, hE.use args⟩ hM ⟨cb, hE.at args c3, hE.at args c4⟩ ⟨hpre.1, va_recv hK hP hci he, hpre.2⟩ rfl hn hlv.1 hst (lv_room hW) hdg hf) hS kk
theorem callS_i (X : Fx p s m meth c D cA A own cc nL rt) (cv : Cs y b nC rc n) (hl : Cond.methodLink own index y ∈ lw_tbl) (hM : MI l D cA A w y b nC rc rm As ta σ r σ' mc ms)
    (hR : rm.frames + 1 ≤ R.frames ∧ 8 + (nC + 11) + rm.locals ≤ R.locals) (hm : rm.cells = mc ∧ rm.slots = ms) (hP : va_P D vwCl (w ta σ) H) (hD : va_D A (w ta σ)) (hS : va_S A s.heap H locs)
    (hn : As.length = n) {lv : List (Nat × Value)} (hlv : lv_has ls nL lv) (hst : st0 = As.reverse ++ rest) (hW : (rest.map fun v => v.category).sum ≤ 8) (hdg : decode cc pc = .ok (.invokestatic index, 3)) (hf : cells + mc ≤ R.cells ∧ slots + ms ≤ R.slots)
    (kk : ∀ (ta' : Nat) (H1 : Heap) (locs1 : List Loc), va_P D vwCl (w ta' σ') H1 → va_D A (w ta' σ') → va_S A s.heap H1 locs1 → W p l e R s m args below meth c H1 locs1 (cells + mc) (slots + ms) Q (F0 m (pc + 3) ls (.int r :: rest))) :
    W p l e R s m args below meth c H locs cells slots Q (F0 m pc ls st0) := by
  have hpre := pre_of X (w ta σ) hP hD hS As
  obtain ⟨c1, c2, c3, c4, c5⟩ := cv
  have cb := cb_of X c1 c2 c4 c5 hR hm hl (args := args)
  obtain ⟨hx, hb, -, hml, hown, -, hE, hK, -⟩ := X
  exact run_i (va_runS (g := F0 m pc ls st0) (rest := rest) ⟨hx, hb, hml, hown, hE.use args⟩ hM ⟨cb, hE.at args c3⟩ hpre rfl hn hlv.1 hst (lv_room hW) hdg hf) hS kk
theorem callS_v (X : Fx p s m meth c D cA A own cc nL rt) (cv : Cs y b nC rc n) (hl : Cond.methodLink own index y ∈ lw_tbl) (hM : MV l D cA A w y b nC rc rm As ta σ σ' mc ms)
    (hR : rm.frames + 1 ≤ R.frames ∧ 8 + (nC + 11) + rm.locals ≤ R.locals) (hm : rm.cells = mc ∧ rm.slots = ms) (hP : va_P D vwCl (w ta σ) H) (hD : va_D A (w ta σ)) (hS : va_S A s.heap H locs)
    (hn : As.length = n) {lv : List (Nat × Value)} (hlv : lv_has ls nL lv) (hst : st0 = As.reverse ++ rest) (hW : (rest.map fun v => v.category).sum ≤ 8) (hdg : decode cc pc = .ok (.invokestatic index, 3)) (hf : cells + mc ≤ R.cells ∧ slots + ms ≤ R.slots)
    (kk : ∀ (ta' : Nat) (H1 : Heap) (locs1 : List Loc), va_P D vwCl (w ta' σ') H1 → va_D A (w ta' σ') → va_S A s.heap H1 locs1 → W p l e R s m args below meth c H1 locs1 (cells + mc) (slots + ms) Q (F0 m (pc + 3) ls rest)) :
    W p l e R s m args below meth c H locs cells slots Q (F0 m pc ls st0) := by
  have hpre := pre_of X (w ta σ) hP hD hS As
  obtain ⟨c1, c2, c3, c4, c5⟩ := cv
  have cb := cb_of X c1 c2 c4 c5 hR hm hl (args := args)
  obtain ⟨hx, hb, -, hml, hown, -, hE, hK, -⟩ := X
  exact run_v (va_runS (g := F0 m pc ls st0) (rest := rest) ⟨hx, hb, hml, hown, hE.use args⟩ hM ⟨cb, hE.at args c3⟩ hpre rfl hn hlv.1 hst (lv_room hW) hdg hf) hS kk
theorem callSN_i {host : String} (X : Fx p s m meth c D cA A own cc nL rt) (cv : Cs y b nC rc n) (hl : Cond.methodLinkNest own index y host ∈ lw_tbl) (hM : MI l D cA A w y b nC rc rm As ta σ r σ' mc ms)
    (hR : rm.frames + 1 ≤ R.frames ∧ 8 + (nC + 11) + rm.locals ≤ R.locals) (hm : rm.cells = mc ∧ rm.slots = ms) (hP : va_P D vwCl (w ta σ) H) (hD : va_D A (w ta σ)) (hS : va_S A s.heap H locs)
    (hn : As.length = n) {lv : List (Nat × Value)} (hlv : lv_has ls nL lv) (hst : st0 = As.reverse ++ rest) (hW : (rest.map fun v => v.category).sum ≤ 8) (hdg : decode cc pc = .ok (.invokestatic index, 3)) (hf : cells + mc ≤ R.cells ∧ slots + ms ≤ R.slots)
    (kk : ∀ (ta' : Nat) (H1 : Heap) (locs1 : List Loc), va_P D vwCl (w ta' σ') H1 → va_D A (w ta' σ') → va_S A s.heap H1 locs1 → W p l e R s m args below meth c H1 locs1 (cells + mc) (slots + ms) Q (F0 m (pc + 3) ls (.int r :: rest))) :
    W p l e R s m args below meth c H locs cells slots Q (F0 m pc ls st0) := by
  have hpre := pre_of X (w ta σ) hP hD hS As
  obtain ⟨c1, c2, c3, c4, c5⟩ := cv
  have cb := cn_of X c1 c2 c4 c5 hR hm hl (args := args)
  obtain ⟨hx, hb, -, hml, hown, -, hE, hK, -⟩ := X
  exact run_i (va_runSN (g := F0 m pc ls st0) (rest := rest) ⟨hx, hb, hml, hown, hE.use args⟩ hM ⟨cb, hE.at args c3, trivial⟩ hpre rfl hn hlv.1 hst (lv_room hW) hdg hf) hS kk
theorem callSN_v {host : String} (X : Fx p s m meth c D cA A own cc nL rt) (cv : Cs y b nC rc n) (hl : Cond.methodLinkNest own index y host ∈ lw_tbl) (hM : MV l D cA A w y b nC rc rm As ta σ σ' mc ms)
    (hR : rm.frames + 1 ≤ R.frames ∧ 8 + (nC + 11) + rm.locals ≤ R.locals) (hm : rm.cells = mc ∧ rm.slots = ms) (hP : va_P D vwCl (w ta σ) H) (hD : va_D A (w ta σ)) (hS : va_S A s.heap H locs)
    (hn : As.length = n) {lv : List (Nat × Value)} (hlv : lv_has ls nL lv) (hst : st0 = As.reverse ++ rest) (hW : (rest.map fun v => v.category).sum ≤ 8) (hdg : decode cc pc = .ok (.invokestatic index, 3)) (hf : cells + mc ≤ R.cells ∧ slots + ms ≤ R.slots)
    (kk : ∀ (ta' : Nat) (H1 : Heap) (locs1 : List Loc), va_P D vwCl (w ta' σ') H1 → va_D A (w ta' σ') → va_S A s.heap H1 locs1 → W p l e R s m args below meth c H1 locs1 (cells + mc) (slots + ms) Q (F0 m (pc + 3) ls rest)) :
    W p l e R s m args below meth c H locs cells slots Q (F0 m pc ls st0) := by
  have hpre := pre_of X (w ta σ) hP hD hS As
  obtain ⟨c1, c2, c3, c4, c5⟩ := cv
  have cb := cn_of X c1 c2 c4 c5 hR hm hl (args := args)
  obtain ⟨hx, hb, -, hml, hown, -, hE, hK, -⟩ := X
  exact run_v (va_runSN (g := F0 m pc ls st0) (rest := rest) ⟨hx, hb, hml, hown, hE.use args⟩ hM ⟨cb, hE.at args c3, trivial⟩ hpre rfl hn hlv.1 hst (lv_room hW) hdg hf) hS kk
/-- ends -/
theorem ret_i (X : Fx p s m meth c D cA A own cc nL (some .int)) (hP : va_P D vwCl (w ta σ) H) (hD : va_D A (w ta σ)) (hS : va_S A s.heap H locs) (hdg : decode cc pc = .ok (.ireturn, 1)) :
    W p l e R s m args below meth c H locs cells slots (MQ below (QI D cA A w r σ) args s cells slots A) (F0 m pc ls [.int r]) := by
  obtain ⟨hx, hb, hr, hml, hown, hlk, hE, hK, hA⟩ := X
  exact W.iret hx hb hr (fun t ht hW => ⟨⟨r, (σ, ta), rfl, ⟨rfl, rfl⟩, hE.warm hW, by rw [ht]; exact hP, va_K.moved hW.alike hK, hD, fun q hq => hA q (Nat.le_trans hS.1 (by rw [ht] at hq; exact hq))⟩, hS.F ht⟩) hS.2.2 hdg hlk
theorem ret_z (X : Fx p s m meth c D cA A own cc nL (some .boolean)) (hz : isB r = true) (hP : va_P D vwCl (w ta σ) H) (hD : va_D A (w ta σ)) (hS : va_S A s.heap H locs) (hdg : decode cc pc = .ok (.ireturn, 1)) :
    W p l e R s m args below meth c H locs cells slots (MQ below (QI D cA A w r σ) args s cells slots A) (F0 m pc ls [.int r]) := by
  obtain ⟨hx, hb, hr, hml, hown, hlk, hE, hK, hA⟩ := X
  exact W.zret hx hb hr (isB_n hz) (fun t ht hW => ⟨⟨r, (σ, ta), rfl, ⟨rfl, rfl⟩, hE.warm hW, by rw [ht]; exact hP, va_K.moved hW.alike hK, hD, fun q hq => hA q (Nat.le_trans hS.1 (by rw [ht] at hq; exact hq))⟩, hS.F ht⟩) hS.2.2 hdg hlk
theorem ret_v (X : Fx p s m meth c D cA A own cc nL none) (hP : va_P D vwCl (w ta σ) H) (hD : va_D A (w ta σ)) (hS : va_S A s.heap H locs) (hdg : decode cc pc = .ok (.return_, 1)) :
    W p l e R s m args below meth c H locs cells slots (MQ below (QV D cA A w σ) args s cells slots A) (F0 m pc ls []) := by
  obtain ⟨hx, hb, hr, hml, hown, hlk, hE, hK, hA⟩ := X
  exact W.vret hx hb hr (fun t ht hW => ⟨⟨(σ, ta), rfl, rfl, hE.warm hW, by rw [ht]; exact hP, va_K.moved hW.alike hK, hD, fun q hq => hA q (Nat.le_trans hS.1 (by rw [ht] at hq; exact hq))⟩, hS.F ht⟩) hS.2.2 hdg hlk
end CL
end
section
def wC (cA : ClassId) (ad : Nat → Nat) (ta : Nat) (σ : St) : va_W := [
  (ad 0, .inr (8, [.ref (ad 1), .ref (ad 2), .ref (ad 3), .ref (ad 4), .ref (ad 5), .ref (ad 6), .ref (ad 7), .ref (ad 8), .int (gF σ 0)])),
  (ad 1, .inr (4, [.ref (ad 9), .ref (ad 10), .ref (ad 11), .int (gF σ 1), .int (gF σ 2), .int (gF σ 3), .int (gF σ 4)])),
  (ad 2, .inr (2, [.ref (ad 12), .ref (ad 13), .ref (ad 14), .ref (ad 15), .ref (ad 16), .int (gF σ 5), .int (gF σ 6), .int (gF σ 7)])),
  (ad 3, .inr (3, [.ref (ad 17), .ref (ad 18), .ref (ad 19), .ref (ad 20), .ref (ad 21), .ref (ad 22), .int (gF σ 8)])),
  (ad 4, .inr (6, [.ref (ad 23), .ref (ad 24), .ref (ad 25), .ref (ad 26), .ref (ad 27), .ref (ad 28), .int (gF σ 9)])),
  (ad 5, .inr (1, [.ref (ad 3), .ref (ad 4), .ref (ad 29), .ref (ad 30), .ref (ad 31), .ref (ad 32), .int (gF σ 10)])),
  (ad 6, .inr (5, [.ref (ad 1), .ref (ad 33), .ref (ad 34), .ref (ad 35), .ref (ad 36), .ref (ad 37), .ref (ad 38), .ref (ad 39), .int (gF σ 11), .int (gF σ 12), .int (gF σ 13), .int (gF σ 14)])),
  (ad 7, .inr (0, [.ref (ad 40), .ref (ad 41), .ref (ad 42), .ref (ad 43), .ref ta, .int (gF σ 15)])),
  (ad 8, .inr (7, [.ref (ad 3), .ref (ad 4), .ref (ad 6), .ref (ad 7), .ref (ad 44), .ref (ad 45), .ref (ad 46), .ref (ad 47)])),
  (ad 9, .inl (cA, 60, .inl (gA σ 9))),
  (ad 10, .inl (cA, 60, .inl (gA σ 10))),
  (ad 11, .inl (cA, 60, .inl (gA σ 11))),
  (ad 12, .inl (cA, 160, .inl (gA σ 12))),
  (ad 13, .inl (cA, 160, .inl (gA σ 13))),
  (ad 14, .inl (cA, 160, .inl (gA σ 14))),
  (ad 15, .inl (cA, 160, .inl (gA σ 15))),
  (ad 16, .inl (cA, 8, .inl (gA σ 16))),
  (ad 17, .inl (cA, 25, .inl (gA σ 17))),
  (ad 18, .inl (cA, 512, .inl (gA σ 18))),
  (ad 19, .inl (cA, 512, .inl (gA σ 19))),
  (ad 20, .inl (cA, 512, .inl (gA σ 20))),
  (ad 21, .inl (cA, 512, .inl (gA σ 21))),
  (ad 22, .inl (cA, 512, .inl (gA σ 22))),
  (ad 23, .inl (cA, 560, .inl (gA σ 23))),
  (ad 24, .inl (cA, 560, .inl (gA σ 24))),
  (ad 25, .inl (cA, 560, .inl (gA σ 25))),
  (ad 26, .inl (cA, 560, .inl (gA σ 26))),
  (ad 27, .inl (cA, 560, .inl (gA σ 27))),
  (ad 28, .inl (cA, 186, .inl (gA σ 28))),
  (ad 29, .inl (cA, 24, .inl (gA σ 29))),
  (ad 30, .inl (cA, 24, .inl (gA σ 30))),
  (ad 31, .inl (cA, 24, .inl (gA σ 31))),
  (ad 32, .inl (cA, 24, .inl (gA σ 32))),
  (ad 33, .inl (cA, 808, .inl (gA σ 33))),
  (ad 34, .inl (cA, 808, .inl (gA σ 34))),
  (ad 35, .inl (cA, 808, .inl (gA σ 35))),
  (ad 36, .inl (cA, 808, .inl (gA σ 36))),
  (ad 37, .inl (cA, 808, .inl (gA σ 37))),
  (ad 38, .inl (cA, 160, .inl (gA σ 38))),
  (ad 39, .inl (cA, 400, .inl (gA σ 39))),
  (ad 40, .inl (cA, 24, .inl (gA σ 40))),
  (ad 41, .inl (cA, 24, .inl (gA σ 41))),
  (ad 42, .inl (cA, 24, .inl (gA σ 42))),
  (ad 43, .inl (cA, 24, .inl (gA σ 43))),
  (ad 44, .inl (cA, 187, .inl (gA σ 44))),
  (ad 45, .inl (cA, 187, .inl (gA σ 45))),
  (ad 46, .inl (cA, 187, .inl (gA σ 46))),
  (ad 47, .inl (cA, 187, .inl (gA σ 47))),
  (ta, .inl (cA, (gF σ 16).toNatClampNeg, .inl (gA σ 48)))]
section ROWSC
variable {p : Program} {l : Launch} {e : Env} {R : Room} {s : State} {m : MethodId} {args : Array Value} {below : List Frame} {meth : Method} {c : Code} {H : Heap} {locs : List Loc} {cells slots : Nat} {Q : State → Prop}
variable {D : va_G} {cA : ClassId} {A : Nat → Prop} {own : String} {cc : ByteArray} {nL pc index : Nat} {rt : Option FieldType} {ls : Array Slot} {ad : Nat → Nat} {ta : Nat} {σ : St} {v : Int32} {rest : List Value}
theorem wC_a9 (f : Nat → Int32) : (wC cA ad ta σ).set 9 ((ad 9), .inl (cA, 60, .inl f)) = wC cA ad ta (sA σ 9 f) := rfl
theorem wC_a10 (f : Nat → Int32) : (wC cA ad ta σ).set 10 ((ad 10), .inl (cA, 60, .inl f)) = wC cA ad ta (sA σ 10 f) := rfl
theorem wC_a11 (f : Nat → Int32) : (wC cA ad ta σ).set 11 ((ad 11), .inl (cA, 60, .inl f)) = wC cA ad ta (sA σ 11 f) := rfl
theorem wC_a12 (f : Nat → Int32) : (wC cA ad ta σ).set 12 ((ad 12), .inl (cA, 160, .inl f)) = wC cA ad ta (sA σ 12 f) := rfl
theorem wC_a13 (f : Nat → Int32) : (wC cA ad ta σ).set 13 ((ad 13), .inl (cA, 160, .inl f)) = wC cA ad ta (sA σ 13 f) := rfl
theorem wC_a14 (f : Nat → Int32) : (wC cA ad ta σ).set 14 ((ad 14), .inl (cA, 160, .inl f)) = wC cA ad ta (sA σ 14 f) := rfl
theorem wC_a15 (f : Nat → Int32) : (wC cA ad ta σ).set 15 ((ad 15), .inl (cA, 160, .inl f)) = wC cA ad ta (sA σ 15 f) := rfl
theorem wC_a16 (f : Nat → Int32) : (wC cA ad ta σ).set 16 ((ad 16), .inl (cA, 8, .inl f)) = wC cA ad ta (sA σ 16 f) := rfl
theorem wC_a17 (f : Nat → Int32) : (wC cA ad ta σ).set 17 ((ad 17), .inl (cA, 25, .inl f)) = wC cA ad ta (sA σ 17 f) := rfl
theorem wC_a18 (f : Nat → Int32) : (wC cA ad ta σ).set 18 ((ad 18), .inl (cA, 512, .inl f)) = wC cA ad ta (sA σ 18 f) := rfl
theorem wC_a19 (f : Nat → Int32) : (wC cA ad ta σ).set 19 ((ad 19), .inl (cA, 512, .inl f)) = wC cA ad ta (sA σ 19 f) := rfl
theorem wC_a20 (f : Nat → Int32) : (wC cA ad ta σ).set 20 ((ad 20), .inl (cA, 512, .inl f)) = wC cA ad ta (sA σ 20 f) := rfl
theorem wC_a21 (f : Nat → Int32) : (wC cA ad ta σ).set 21 ((ad 21), .inl (cA, 512, .inl f)) = wC cA ad ta (sA σ 21 f) := rfl
theorem wC_a22 (f : Nat → Int32) : (wC cA ad ta σ).set 22 ((ad 22), .inl (cA, 512, .inl f)) = wC cA ad ta (sA σ 22 f) := rfl
theorem wC_a23 (f : Nat → Int32) : (wC cA ad ta σ).set 23 ((ad 23), .inl (cA, 560, .inl f)) = wC cA ad ta (sA σ 23 f) := rfl
theorem wC_a24 (f : Nat → Int32) : (wC cA ad ta σ).set 24 ((ad 24), .inl (cA, 560, .inl f)) = wC cA ad ta (sA σ 24 f) := rfl
theorem wC_a25 (f : Nat → Int32) : (wC cA ad ta σ).set 25 ((ad 25), .inl (cA, 560, .inl f)) = wC cA ad ta (sA σ 25 f) := rfl
theorem wC_a26 (f : Nat → Int32) : (wC cA ad ta σ).set 26 ((ad 26), .inl (cA, 560, .inl f)) = wC cA ad ta (sA σ 26 f) := rfl
theorem wC_a27 (f : Nat → Int32) : (wC cA ad ta σ).set 27 ((ad 27), .inl (cA, 560, .inl f)) = wC cA ad ta (sA σ 27 f) := rfl
theorem wC_a28 (f : Nat → Int32) : (wC cA ad ta σ).set 28 ((ad 28), .inl (cA, 186, .inl f)) = wC cA ad ta (sA σ 28 f) := rfl
theorem wC_a29 (f : Nat → Int32) : (wC cA ad ta σ).set 29 ((ad 29), .inl (cA, 24, .inl f)) = wC cA ad ta (sA σ 29 f) := rfl
theorem wC_a30 (f : Nat → Int32) : (wC cA ad ta σ).set 30 ((ad 30), .inl (cA, 24, .inl f)) = wC cA ad ta (sA σ 30 f) := rfl
theorem wC_a31 (f : Nat → Int32) : (wC cA ad ta σ).set 31 ((ad 31), .inl (cA, 24, .inl f)) = wC cA ad ta (sA σ 31 f) := rfl
theorem wC_a32 (f : Nat → Int32) : (wC cA ad ta σ).set 32 ((ad 32), .inl (cA, 24, .inl f)) = wC cA ad ta (sA σ 32 f) := rfl
theorem wC_a33 (f : Nat → Int32) : (wC cA ad ta σ).set 33 ((ad 33), .inl (cA, 808, .inl f)) = wC cA ad ta (sA σ 33 f) := rfl
theorem wC_a34 (f : Nat → Int32) : (wC cA ad ta σ).set 34 ((ad 34), .inl (cA, 808, .inl f)) = wC cA ad ta (sA σ 34 f) := rfl
theorem wC_a35 (f : Nat → Int32) : (wC cA ad ta σ).set 35 ((ad 35), .inl (cA, 808, .inl f)) = wC cA ad ta (sA σ 35 f) := rfl
theorem wC_a36 (f : Nat → Int32) : (wC cA ad ta σ).set 36 ((ad 36), .inl (cA, 808, .inl f)) = wC cA ad ta (sA σ 36 f) := rfl
theorem wC_a37 (f : Nat → Int32) : (wC cA ad ta σ).set 37 ((ad 37), .inl (cA, 808, .inl f)) = wC cA ad ta (sA σ 37 f) := rfl
theorem wC_a38 (f : Nat → Int32) : (wC cA ad ta σ).set 38 ((ad 38), .inl (cA, 160, .inl f)) = wC cA ad ta (sA σ 38 f) := rfl
theorem wC_a39 (f : Nat → Int32) : (wC cA ad ta σ).set 39 ((ad 39), .inl (cA, 400, .inl f)) = wC cA ad ta (sA σ 39 f) := rfl
theorem wC_a40 (f : Nat → Int32) : (wC cA ad ta σ).set 40 ((ad 40), .inl (cA, 24, .inl f)) = wC cA ad ta (sA σ 40 f) := rfl
theorem wC_a41 (f : Nat → Int32) : (wC cA ad ta σ).set 41 ((ad 41), .inl (cA, 24, .inl f)) = wC cA ad ta (sA σ 41 f) := rfl
theorem wC_a42 (f : Nat → Int32) : (wC cA ad ta σ).set 42 ((ad 42), .inl (cA, 24, .inl f)) = wC cA ad ta (sA σ 42 f) := rfl
theorem wC_a43 (f : Nat → Int32) : (wC cA ad ta σ).set 43 ((ad 43), .inl (cA, 24, .inl f)) = wC cA ad ta (sA σ 43 f) := rfl
theorem wC_a44 (f : Nat → Int32) : (wC cA ad ta σ).set 44 ((ad 44), .inl (cA, 187, .inl f)) = wC cA ad ta (sA σ 44 f) := rfl
theorem wC_a45 (f : Nat → Int32) : (wC cA ad ta σ).set 45 ((ad 45), .inl (cA, 187, .inl f)) = wC cA ad ta (sA σ 45 f) := rfl
theorem wC_a46 (f : Nat → Int32) : (wC cA ad ta σ).set 46 ((ad 46), .inl (cA, 187, .inl f)) = wC cA ad ta (sA σ 46 f) := rfl
theorem wC_a47 (f : Nat → Int32) : (wC cA ad ta σ).set 47 ((ad 47), .inl (cA, 187, .inl f)) = wC cA ad ta (sA σ 47 f) := rfl
theorem wC_a48 (f : Nat → Int32) : (wC cA ad ta σ).set 48 (ta, .inl (cA, (gF σ 16).toNatClampNeg, .inl f)) = wC cA ad ta (sA σ 48 f) := rfl
theorem gC_Out_asks (X : Fx p s m meth c D cA A own cc nL rt) (hP : va_P D vwCl (wC cA ad ta σ) H) (hlk : Cond.fieldLink own index "NeededTrees$Outcomes" "asks" "[I" ∈ lw_tbl) (hdg : decode cc pc = .ok (.getfield index, 3)) (kk : W p l e R s m args below meth c H locs cells slots Q (F0 m (pc + 3) ls (.ref (ad 41) :: rest))) : W p l e R s m args below meth c H locs cells slots Q (F0 m pc ls (.ref (ad 7) :: rest)) := by
  obtain ⟨hx, hb, -, -, hown, -, hE, hK, -⟩ := X
  exact va_get hx hb (hE.use args) inG0 hown hK hP 7 rfl rfl 1 (by decide) (hE.at args hlk) (fun _ h => h) rfl hdg kk
theorem gC_Out_freeAsks (X : Fx p s m meth c D cA A own cc nL rt) (hP : va_P D vwCl (wC cA ad ta σ) H) (hlk : Cond.fieldLink own index "NeededTrees$Outcomes" "freeAsks" "[I" ∈ lw_tbl) (hdg : decode cc pc = .ok (.getfield index, 3)) (kk : W p l e R s m args below meth c H locs cells slots Q (F0 m (pc + 3) ls (.ref (ad 42) :: rest))) : W p l e R s m args below meth c H locs cells slots Q (F0 m pc ls (.ref (ad 7) :: rest)) := by
  obtain ⟨hx, hb, -, -, hown, -, hE, hK, -⟩ := X
  exact va_get hx hb (hE.use args) inG0 hown hK hP 7 rfl rfl 2 (by decide) (hE.at args hlk) (fun _ h => h) rfl hdg kk
theorem gC_Out_lengths (X : Fx p s m meth c D cA A own cc nL rt) (hP : va_P D vwCl (wC cA ad ta σ) H) (hlk : Cond.fieldLink own index "NeededTrees$Outcomes" "lengths" "[I" ∈ lw_tbl) (hdg : decode cc pc = .ok (.getfield index, 3)) (kk : W p l e R s m args below meth c H locs cells slots Q (F0 m (pc + 3) ls (.ref (ad 43) :: rest))) : W p l e R s m args below meth c H locs cells slots Q (F0 m pc ls (.ref (ad 7) :: rest)) := by
  obtain ⟨hx, hb, -, -, hown, -, hE, hK, -⟩ := X
  exact va_get hx hb (hE.use args) inG0 hown hK hP 7 rfl rfl 3 (by decide) (hE.at args hlk) (fun _ h => h) rfl hdg kk
theorem gC_Out_many (X : Fx p s m meth c D cA A own cc nL rt) (hP : va_P D vwCl (wC cA ad ta σ) H) (hlk : Cond.fieldLink own index "NeededTrees$Outcomes" "many" "I" ∈ lw_tbl) (hdg : decode cc pc = .ok (.getfield index, 3)) (kk : W p l e R s m args below meth c H locs cells slots Q (F0 m (pc + 3) ls (.int (gF σ 15) :: rest))) : W p l e R s m args below meth c H locs cells slots Q (F0 m pc ls (.ref (ad 7) :: rest)) := by
  obtain ⟨hx, hb, -, -, hown, -, hE, hK, -⟩ := X
  exact va_get hx hb (hE.use args) inG0 hown hK hP 7 rfl rfl 5 (by decide) (hE.at args hlk) (fun _ h => h) rfl hdg kk
theorem gCN_Out_many {host : String} (X : Fx p s m meth c D cA A own cc nL rt) (hP : va_P D vwCl (wC cA ad ta σ) H) (hlk : Cond.fieldLinkNest own index "NeededTrees$Outcomes" "many" "I" host ∈ lw_tbl) (hdg : decode cc pc = .ok (.getfield index, 3)) (kk : W p l e R s m args below meth c H locs cells slots Q (F0 m (pc + 3) ls (.int (gF σ 15) :: rest))) : W p l e R s m args below meth c H locs cells slots Q (F0 m pc ls (.ref (ad 7) :: rest)) := by
  obtain ⟨hx, hb, -, -, hown, -, hE, hK, -⟩ := X
  exact va_getN hx hb (hE.use args) inG0 hown hK hP 7 rfl rfl 5 (by decide) (hE.at args hlk) (fun _ h => h) rfl hdg kk
theorem gC_Out_rules (X : Fx p s m meth c D cA A own cc nL rt) (hP : va_P D vwCl (wC cA ad ta σ) H) (hlk : Cond.fieldLink own index "NeededTrees$Outcomes" "rules" "[I" ∈ lw_tbl) (hdg : decode cc pc = .ok (.getfield index, 3)) (kk : W p l e R s m args below meth c H locs cells slots Q (F0 m (pc + 3) ls (.ref (ad 40) :: rest))) : W p l e R s m args below meth c H locs cells slots Q (F0 m pc ls (.ref (ad 7) :: rest)) := by
  obtain ⟨hx, hb, -, -, hown, -, hE, hK, -⟩ := X
  exact va_get hx hb (hE.use args) inG0 hown hK hP 7 rfl rfl 0 (by decide) (hE.at args hlk) (fun _ h => h) rfl hdg kk
theorem gC_Out_told (X : Fx p s m meth c D cA A own cc nL rt) (hP : va_P D vwCl (wC cA ad ta σ) H) (hlk : Cond.fieldLink own index "NeededTrees$Outcomes" "told" "[I" ∈ lw_tbl) (hdg : decode cc pc = .ok (.getfield index, 3)) (kk : W p l e R s m args below meth c H locs cells slots Q (F0 m (pc + 3) ls (.ref ta :: rest))) : W p l e R s m args below meth c H locs cells slots Q (F0 m pc ls (.ref (ad 7) :: rest)) := by
  obtain ⟨hx, hb, -, -, hown, -, hE, hK, -⟩ := X
  exact va_get hx hb (hE.use args) inG0 hown hK hP 7 rfl rfl 4 (by decide) (hE.at args hlk) (fun _ h => h) rfl hdg kk
theorem gC_Pla_cursor (X : Fx p s m meth c D cA A own cc nL rt) (hP : va_P D vwCl (wC cA ad ta σ) H) (hlk : Cond.fieldLink own index "NeededTrees$Planter" "cursor" "[I" ∈ lw_tbl) (hdg : decode cc pc = .ok (.getfield index, 3)) (kk : W p l e R s m args below meth c H locs cells slots Q (F0 m (pc + 3) ls (.ref (ad 32) :: rest))) : W p l e R s m args below meth c H locs cells slots Q (F0 m pc ls (.ref (ad 5) :: rest)) := by
  obtain ⟨hx, hb, -, -, hown, -, hE, hK, -⟩ := X
  exact va_get hx hb (hE.use args) inG1 hown hK hP 5 rfl rfl 5 (by decide) (hE.at args hlk) (fun _ h => h) rfl hdg kk
theorem gC_Pla_depths (X : Fx p s m meth c D cA A own cc nL rt) (hP : va_P D vwCl (wC cA ad ta σ) H) (hlk : Cond.fieldLink own index "NeededTrees$Planter" "depths" "[I" ∈ lw_tbl) (hdg : decode cc pc = .ok (.getfield index, 3)) (kk : W p l e R s m args below meth c H locs cells slots Q (F0 m (pc + 3) ls (.ref (ad 31) :: rest))) : W p l e R s m args below meth c H locs cells slots Q (F0 m pc ls (.ref (ad 5) :: rest)) := by
  obtain ⟨hx, hb, -, -, hown, -, hE, hK, -⟩ := X
  exact va_get hx hb (hE.use args) inG1 hown hK hP 5 rfl rfl 4 (by decide) (hE.at args hlk) (fun _ h => h) rfl hdg kk
theorem gC_Pla_groups (X : Fx p s m meth c D cA A own cc nL rt) (hP : va_P D vwCl (wC cA ad ta σ) H) (hlk : Cond.fieldLink own index "NeededTrees$Planter" "groups" "[I" ∈ lw_tbl) (hdg : decode cc pc = .ok (.getfield index, 3)) (kk : W p l e R s m args below meth c H locs cells slots Q (F0 m (pc + 3) ls (.ref (ad 29) :: rest))) : W p l e R s m args below meth c H locs cells slots Q (F0 m pc ls (.ref (ad 5) :: rest)) := by
  obtain ⟨hx, hb, -, -, hown, -, hE, hK, -⟩ := X
  exact va_get hx hb (hE.use args) inG1 hown hK hP 5 rfl rfl 2 (by decide) (hE.at args hlk) (fun _ h => h) rfl hdg kk
theorem gC_Pla_labels (X : Fx p s m meth c D cA A own cc nL rt) (hP : va_P D vwCl (wC cA ad ta σ) H) (hlk : Cond.fieldLink own index "NeededTrees$Planter" "labels" "[I" ∈ lw_tbl) (hdg : decode cc pc = .ok (.getfield index, 3)) (kk : W p l e R s m args below meth c H locs cells slots Q (F0 m (pc + 3) ls (.ref (ad 30) :: rest))) : W p l e R s m args below meth c H locs cells slots Q (F0 m pc ls (.ref (ad 5) :: rest)) := by
  obtain ⟨hx, hb, -, -, hown, -, hE, hK, -⟩ := X
  exact va_get hx hb (hE.use args) inG1 hown hK hP 5 rfl rfl 3 (by decide) (hE.at args hlk) (fun _ h => h) rfl hdg kk
theorem gC_Pla_rules (X : Fx p s m meth c D cA A own cc nL rt) (hP : va_P D vwCl (wC cA ad ta σ) H) (hlk : Cond.fieldLink own index "NeededTrees$Planter" "rules" "LNeededTrees$Rules;" ∈ lw_tbl) (hdg : decode cc pc = .ok (.getfield index, 3)) (kk : W p l e R s m args below meth c H locs cells slots Q (F0 m (pc + 3) ls (.ref (ad 3) :: rest))) : W p l e R s m args below meth c H locs cells slots Q (F0 m pc ls (.ref (ad 5) :: rest)) := by
  obtain ⟨hx, hb, -, -, hown, -, hE, hK, -⟩ := X
  exact va_get hx hb (hE.use args) inG1 hown hK hP 5 rfl rfl 0 (by decide) (hE.at args hlk) (fun _ h => h) rfl hdg kk
theorem gC_Pla_tree (X : Fx p s m meth c D cA A own cc nL rt) (hP : va_P D vwCl (wC cA ad ta σ) H) (hlk : Cond.fieldLink own index "NeededTrees$Planter" "tree" "LNeededTrees$Tree;" ∈ lw_tbl) (hdg : decode cc pc = .ok (.getfield index, 3)) (kk : W p l e R s m args below meth c H locs cells slots Q (F0 m (pc + 3) ls (.ref (ad 4) :: rest))) : W p l e R s m args below meth c H locs cells slots Q (F0 m pc ls (.ref (ad 5) :: rest)) := by
  obtain ⟨hx, hb, -, -, hown, -, hE, hK, -⟩ := X
  exact va_get hx hb (hE.use args) inG1 hown hK hP 5 rfl rfl 1 (by decide) (hE.at args hlk) (fun _ h => h) rfl hdg kk
theorem gC_Pla_waiting (X : Fx p s m meth c D cA A own cc nL rt) (hP : va_P D vwCl (wC cA ad ta σ) H) (hlk : Cond.fieldLink own index "NeededTrees$Planter" "waiting" "I" ∈ lw_tbl) (hdg : decode cc pc = .ok (.getfield index, 3)) (kk : W p l e R s m args below meth c H locs cells slots Q (F0 m (pc + 3) ls (.int (gF σ 10) :: rest))) : W p l e R s m args below meth c H locs cells slots Q (F0 m pc ls (.ref (ad 5) :: rest)) := by
  obtain ⟨hx, hb, -, -, hown, -, hE, hK, -⟩ := X
  exact va_get hx hb (hE.use args) inG1 hown hK hP 5 rfl rfl 6 (by decide) (hE.at args hlk) (fun _ h => h) rfl hdg kk
theorem gC_Row_end (X : Fx p s m meth c D cA A own cc nL rt) (hP : va_P D vwCl (wC cA ad ta σ) H) (hlk : Cond.fieldLink own index "NeededTrees$Row" "end" "[I" ∈ lw_tbl) (hdg : decode cc pc = .ok (.getfield index, 3)) (kk : W p l e R s m args below meth c H locs cells slots Q (F0 m (pc + 3) ls (.ref (ad 15) :: rest))) : W p l e R s m args below meth c H locs cells slots Q (F0 m pc ls (.ref (ad 2) :: rest)) := by
  obtain ⟨hx, hb, -, -, hown, -, hE, hK, -⟩ := X
  exact va_get hx hb (hE.use args) inG2 hown hK hP 2 rfl rfl 3 (by decide) (hE.at args hlk) (fun _ h => h) rfl hdg kk
theorem gCN_Row_end {host : String} (X : Fx p s m meth c D cA A own cc nL rt) (hP : va_P D vwCl (wC cA ad ta σ) H) (hlk : Cond.fieldLinkNest own index "NeededTrees$Row" "end" "[I" host ∈ lw_tbl) (hdg : decode cc pc = .ok (.getfield index, 3)) (kk : W p l e R s m args below meth c H locs cells slots Q (F0 m (pc + 3) ls (.ref (ad 15) :: rest))) : W p l e R s m args below meth c H locs cells slots Q (F0 m pc ls (.ref (ad 2) :: rest)) := by
  obtain ⟨hx, hb, -, -, hown, -, hE, hK, -⟩ := X
  exact va_getN hx hb (hE.use args) inG2 hown hK hP 2 rfl rfl 3 (by decide) (hE.at args hlk) (fun _ h => h) rfl hdg kk
theorem gC_Row_holder (X : Fx p s m meth c D cA A own cc nL rt) (hP : va_P D vwCl (wC cA ad ta σ) H) (hlk : Cond.fieldLink own index "NeededTrees$Row" "holder" "I" ∈ lw_tbl) (hdg : decode cc pc = .ok (.getfield index, 3)) (kk : W p l e R s m args below meth c H locs cells slots Q (F0 m (pc + 3) ls (.int (gF σ 6) :: rest))) : W p l e R s m args below meth c H locs cells slots Q (F0 m pc ls (.ref (ad 2) :: rest)) := by
  obtain ⟨hx, hb, -, -, hown, -, hE, hK, -⟩ := X
  exact va_get hx hb (hE.use args) inG2 hown hK hP 2 rfl rfl 6 (by decide) (hE.at args hlk) (fun _ h => h) rfl hdg kk
theorem gC_Row_length (X : Fx p s m meth c D cA A own cc nL rt) (hP : va_P D vwCl (wC cA ad ta σ) H) (hlk : Cond.fieldLink own index "NeededTrees$Row" "length" "I" ∈ lw_tbl) (hdg : decode cc pc = .ok (.getfield index, 3)) (kk : W p l e R s m args below meth c H locs cells slots Q (F0 m (pc + 3) ls (.int (gF σ 5) :: rest))) : W p l e R s m args below meth c H locs cells slots Q (F0 m pc ls (.ref (ad 2) :: rest)) := by
  obtain ⟨hx, hb, -, -, hown, -, hE, hK, -⟩ := X
  exact va_get hx hb (hE.use args) inG2 hown hK hP 2 rfl rfl 5 (by decide) (hE.at args hlk) (fun _ h => h) rfl hdg kk
theorem gCN_Row_length {host : String} (X : Fx p s m meth c D cA A own cc nL rt) (hP : va_P D vwCl (wC cA ad ta σ) H) (hlk : Cond.fieldLinkNest own index "NeededTrees$Row" "length" "I" host ∈ lw_tbl) (hdg : decode cc pc = .ok (.getfield index, 3)) (kk : W p l e R s m args below meth c H locs cells slots Q (F0 m (pc + 3) ls (.int (gF σ 5) :: rest))) : W p l e R s m args below meth c H locs cells slots Q (F0 m pc ls (.ref (ad 2) :: rest)) := by
  obtain ⟨hx, hb, -, -, hown, -, hE, hK, -⟩ := X
  exact va_getN hx hb (hE.use args) inG2 hown hK hP 2 rfl rfl 5 (by decide) (hE.at args hlk) (fun _ h => h) rfl hdg kk
theorem gC_Row_nameTypes (X : Fx p s m meth c D cA A own cc nL rt) (hP : va_P D vwCl (wC cA ad ta σ) H) (hlk : Cond.fieldLink own index "NeededTrees$Row" "nameTypes" "[I" ∈ lw_tbl) (hdg : decode cc pc = .ok (.getfield index, 3)) (kk : W p l e R s m args below meth c H locs cells slots Q (F0 m (pc + 3) ls (.ref (ad 16) :: rest))) : W p l e R s m args below meth c H locs cells slots Q (F0 m pc ls (.ref (ad 2) :: rest)) := by
  obtain ⟨hx, hb, -, -, hown, -, hE, hK, -⟩ := X
  exact va_get hx hb (hE.use args) inG2 hown hK hP 2 rfl rfl 4 (by decide) (hE.at args hlk) (fun _ h => h) rfl hdg kk
theorem gC_Row_next (X : Fx p s m meth c D cA A own cc nL rt) (hP : va_P D vwCl (wC cA ad ta σ) H) (hlk : Cond.fieldLink own index "NeededTrees$Row" "next" "I" ∈ lw_tbl) (hdg : decode cc pc = .ok (.getfield index, 3)) (kk : W p l e R s m args below meth c H locs cells slots Q (F0 m (pc + 3) ls (.int (gF σ 7) :: rest))) : W p l e R s m args below meth c H locs cells slots Q (F0 m pc ls (.ref (ad 2) :: rest)) := by
  obtain ⟨hx, hb, -, -, hown, -, hE, hK, -⟩ := X
  exact va_get hx hb (hE.use args) inG2 hown hK hP 2 rfl rfl 7 (by decide) (hE.at args hlk) (fun _ h => h) rfl hdg kk
theorem gC_Row_numbers (X : Fx p s m meth c D cA A own cc nL rt) (hP : va_P D vwCl (wC cA ad ta σ) H) (hlk : Cond.fieldLink own index "NeededTrees$Row" "numbers" "[I" ∈ lw_tbl) (hdg : decode cc pc = .ok (.getfield index, 3)) (kk : W p l e R s m args below meth c H locs cells slots Q (F0 m (pc + 3) ls (.ref (ad 12) :: rest))) : W p l e R s m args below meth c H locs cells slots Q (F0 m pc ls (.ref (ad 2) :: rest)) := by
  obtain ⟨hx, hb, -, -, hown, -, hE, hK, -⟩ := X
  exact va_get hx hb (hE.use args) inG2 hown hK hP 2 rfl rfl 0 (by decide) (hE.at args hlk) (fun _ h => h) rfl hdg kk
theorem gCN_Row_numbers {host : String} (X : Fx p s m meth c D cA A own cc nL rt) (hP : va_P D vwCl (wC cA ad ta σ) H) (hlk : Cond.fieldLinkNest own index "NeededTrees$Row" "numbers" "[I" host ∈ lw_tbl) (hdg : decode cc pc = .ok (.getfield index, 3)) (kk : W p l e R s m args below meth c H locs cells slots Q (F0 m (pc + 3) ls (.ref (ad 12) :: rest))) : W p l e R s m args below meth c H locs cells slots Q (F0 m pc ls (.ref (ad 2) :: rest)) := by
  obtain ⟨hx, hb, -, -, hown, -, hE, hK, -⟩ := X
  exact va_getN hx hb (hE.use args) inG2 hown hK hP 2 rfl rfl 0 (by decide) (hE.at args hlk) (fun _ h => h) rfl hdg kk
theorem gC_Row_place (X : Fx p s m meth c D cA A own cc nL rt) (hP : va_P D vwCl (wC cA ad ta σ) H) (hlk : Cond.fieldLink own index "NeededTrees$Row" "place" "[I" ∈ lw_tbl) (hdg : decode cc pc = .ok (.getfield index, 3)) (kk : W p l e R s m args below meth c H locs cells slots Q (F0 m (pc + 3) ls (.ref (ad 14) :: rest))) : W p l e R s m args below meth c H locs cells slots Q (F0 m pc ls (.ref (ad 2) :: rest)) := by
  obtain ⟨hx, hb, -, -, hown, -, hE, hK, -⟩ := X
  exact va_get hx hb (hE.use args) inG2 hown hK hP 2 rfl rfl 2 (by decide) (hE.at args hlk) (fun _ h => h) rfl hdg kk
theorem gCN_Row_place {host : String} (X : Fx p s m meth c D cA A own cc nL rt) (hP : va_P D vwCl (wC cA ad ta σ) H) (hlk : Cond.fieldLinkNest own index "NeededTrees$Row" "place" "[I" host ∈ lw_tbl) (hdg : decode cc pc = .ok (.getfield index, 3)) (kk : W p l e R s m args below meth c H locs cells slots Q (F0 m (pc + 3) ls (.ref (ad 14) :: rest))) : W p l e R s m args below meth c H locs cells slots Q (F0 m pc ls (.ref (ad 2) :: rest)) := by
  obtain ⟨hx, hb, -, -, hown, -, hE, hK, -⟩ := X
  exact va_getN hx hb (hE.use args) inG2 hown hK hP 2 rfl rfl 2 (by decide) (hE.at args hlk) (fun _ h => h) rfl hdg kk
theorem gC_Row_up (X : Fx p s m meth c D cA A own cc nL rt) (hP : va_P D vwCl (wC cA ad ta σ) H) (hlk : Cond.fieldLink own index "NeededTrees$Row" "up" "[I" ∈ lw_tbl) (hdg : decode cc pc = .ok (.getfield index, 3)) (kk : W p l e R s m args below meth c H locs cells slots Q (F0 m (pc + 3) ls (.ref (ad 13) :: rest))) : W p l e R s m args below meth c H locs cells slots Q (F0 m pc ls (.ref (ad 2) :: rest)) := by
  obtain ⟨hx, hb, -, -, hown, -, hE, hK, -⟩ := X
  exact va_get hx hb (hE.use args) inG2 hown hK hP 2 rfl rfl 1 (by decide) (hE.at args hlk) (fun _ h => h) rfl hdg kk
theorem gCN_Row_up {host : String} (X : Fx p s m meth c D cA A own cc nL rt) (hP : va_P D vwCl (wC cA ad ta σ) H) (hlk : Cond.fieldLinkNest own index "NeededTrees$Row" "up" "[I" host ∈ lw_tbl) (hdg : decode cc pc = .ok (.getfield index, 3)) (kk : W p l e R s m args below meth c H locs cells slots Q (F0 m (pc + 3) ls (.ref (ad 13) :: rest))) : W p l e R s m args below meth c H locs cells slots Q (F0 m pc ls (.ref (ad 2) :: rest)) := by
  obtain ⟨hx, hb, -, -, hown, -, hE, hK, -⟩ := X
  exact va_getN hx hb (hE.use args) inG2 hown hK hP 2 rfl rfl 1 (by decide) (hE.at args hlk) (fun _ h => h) rfl hdg kk
theorem gC_Rul_askedAt (X : Fx p s m meth c D cA A own cc nL rt) (hP : va_P D vwCl (wC cA ad ta σ) H) (hlk : Cond.fieldLink own index "NeededTrees$Rules" "askedAt" "[I" ∈ lw_tbl) (hdg : decode cc pc = .ok (.getfield index, 3)) (kk : W p l e R s m args below meth c H locs cells slots Q (F0 m (pc + 3) ls (.ref (ad 22) :: rest))) : W p l e R s m args below meth c H locs cells slots Q (F0 m pc ls (.ref (ad 3) :: rest)) := by
  obtain ⟨hx, hb, -, -, hown, -, hE, hK, -⟩ := X
  exact va_get hx hb (hE.use args) inG3 hown hK hP 3 rfl rfl 5 (by decide) (hE.at args hlk) (fun _ h => h) rfl hdg kk
theorem gCN_Rul_askedAt {host : String} (X : Fx p s m meth c D cA A own cc nL rt) (hP : va_P D vwCl (wC cA ad ta σ) H) (hlk : Cond.fieldLinkNest own index "NeededTrees$Rules" "askedAt" "[I" host ∈ lw_tbl) (hdg : decode cc pc = .ok (.getfield index, 3)) (kk : W p l e R s m args below meth c H locs cells slots Q (F0 m (pc + 3) ls (.ref (ad 22) :: rest))) : W p l e R s m args below meth c H locs cells slots Q (F0 m pc ls (.ref (ad 3) :: rest)) := by
  obtain ⟨hx, hb, -, -, hown, -, hE, hK, -⟩ := X
  exact va_getN hx hb (hE.use args) inG3 hown hK hP 3 rfl rfl 5 (by decide) (hE.at args hlk) (fun _ h => h) rfl hdg kk
theorem gC_Rul_end (X : Fx p s m meth c D cA A own cc nL rt) (hP : va_P D vwCl (wC cA ad ta σ) H) (hlk : Cond.fieldLink own index "NeededTrees$Rules" "end" "[I" ∈ lw_tbl) (hdg : decode cc pc = .ok (.getfield index, 3)) (kk : W p l e R s m args below meth c H locs cells slots Q (F0 m (pc + 3) ls (.ref (ad 21) :: rest))) : W p l e R s m args below meth c H locs cells slots Q (F0 m pc ls (.ref (ad 3) :: rest)) := by
  obtain ⟨hx, hb, -, -, hown, -, hE, hK, -⟩ := X
  exact va_get hx hb (hE.use args) inG3 hown hK hP 3 rfl rfl 4 (by decide) (hE.at args hlk) (fun _ h => h) rfl hdg kk
theorem gCN_Rul_end {host : String} (X : Fx p s m meth c D cA A own cc nL rt) (hP : va_P D vwCl (wC cA ad ta σ) H) (hlk : Cond.fieldLinkNest own index "NeededTrees$Rules" "end" "[I" host ∈ lw_tbl) (hdg : decode cc pc = .ok (.getfield index, 3)) (kk : W p l e R s m args below meth c H locs cells slots Q (F0 m (pc + 3) ls (.ref (ad 21) :: rest))) : W p l e R s m args below meth c H locs cells slots Q (F0 m pc ls (.ref (ad 3) :: rest)) := by
  obtain ⟨hx, hb, -, -, hown, -, hE, hK, -⟩ := X
  exact va_getN hx hb (hE.use args) inG3 hown hK hP 3 rfl rfl 4 (by decide) (hE.at args hlk) (fun _ h => h) rfl hdg kk
theorem gC_Rul_many (X : Fx p s m meth c D cA A own cc nL rt) (hP : va_P D vwCl (wC cA ad ta σ) H) (hlk : Cond.fieldLink own index "NeededTrees$Rules" "many" "I" ∈ lw_tbl) (hdg : decode cc pc = .ok (.getfield index, 3)) (kk : W p l e R s m args below meth c H locs cells slots Q (F0 m (pc + 3) ls (.int (gF σ 8) :: rest))) : W p l e R s m args below meth c H locs cells slots Q (F0 m pc ls (.ref (ad 3) :: rest)) := by
  obtain ⟨hx, hb, -, -, hown, -, hE, hK, -⟩ := X
  exact va_get hx hb (hE.use args) inG3 hown hK hP 3 rfl rfl 6 (by decide) (hE.at args hlk) (fun _ h => h) rfl hdg kk
theorem gCN_Rul_many {host : String} (X : Fx p s m meth c D cA A own cc nL rt) (hP : va_P D vwCl (wC cA ad ta σ) H) (hlk : Cond.fieldLinkNest own index "NeededTrees$Rules" "many" "I" host ∈ lw_tbl) (hdg : decode cc pc = .ok (.getfield index, 3)) (kk : W p l e R s m args below meth c H locs cells slots Q (F0 m (pc + 3) ls (.int (gF σ 8) :: rest))) : W p l e R s m args below meth c H locs cells slots Q (F0 m pc ls (.ref (ad 3) :: rest)) := by
  obtain ⟨hx, hb, -, -, hown, -, hE, hK, -⟩ := X
  exact va_getN hx hb (hE.use args) inG3 hown hK hP 3 rfl rfl 6 (by decide) (hE.at args hlk) (fun _ h => h) rfl hdg kk
theorem gC_Rul_place (X : Fx p s m meth c D cA A own cc nL rt) (hP : va_P D vwCl (wC cA ad ta σ) H) (hlk : Cond.fieldLink own index "NeededTrees$Rules" "place" "[I" ∈ lw_tbl) (hdg : decode cc pc = .ok (.getfield index, 3)) (kk : W p l e R s m args below meth c H locs cells slots Q (F0 m (pc + 3) ls (.ref (ad 20) :: rest))) : W p l e R s m args below meth c H locs cells slots Q (F0 m pc ls (.ref (ad 3) :: rest)) := by
  obtain ⟨hx, hb, -, -, hown, -, hE, hK, -⟩ := X
  exact va_get hx hb (hE.use args) inG3 hown hK hP 3 rfl rfl 3 (by decide) (hE.at args hlk) (fun _ h => h) rfl hdg kk
theorem gCN_Rul_place {host : String} (X : Fx p s m meth c D cA A own cc nL rt) (hP : va_P D vwCl (wC cA ad ta σ) H) (hlk : Cond.fieldLinkNest own index "NeededTrees$Rules" "place" "[I" host ∈ lw_tbl) (hdg : decode cc pc = .ok (.getfield index, 3)) (kk : W p l e R s m args below meth c H locs cells slots Q (F0 m (pc + 3) ls (.ref (ad 20) :: rest))) : W p l e R s m args below meth c H locs cells slots Q (F0 m pc ls (.ref (ad 3) :: rest)) := by
  obtain ⟨hx, hb, -, -, hown, -, hE, hK, -⟩ := X
  exact va_getN hx hb (hE.use args) inG3 hown hK hP 3 rfl rfl 3 (by decide) (hE.at args hlk) (fun _ h => h) rfl hdg kk
theorem gC_Rul_starts (X : Fx p s m meth c D cA A own cc nL rt) (hP : va_P D vwCl (wC cA ad ta σ) H) (hlk : Cond.fieldLink own index "NeededTrees$Rules" "starts" "[I" ∈ lw_tbl) (hdg : decode cc pc = .ok (.getfield index, 3)) (kk : W p l e R s m args below meth c H locs cells slots Q (F0 m (pc + 3) ls (.ref (ad 17) :: rest))) : W p l e R s m args below meth c H locs cells slots Q (F0 m pc ls (.ref (ad 3) :: rest)) := by
  obtain ⟨hx, hb, -, -, hown, -, hE, hK, -⟩ := X
  exact va_get hx hb (hE.use args) inG3 hown hK hP 3 rfl rfl 0 (by decide) (hE.at args hlk) (fun _ h => h) rfl hdg kk
theorem gC_Rul_symbol (X : Fx p s m meth c D cA A own cc nL rt) (hP : va_P D vwCl (wC cA ad ta σ) H) (hlk : Cond.fieldLink own index "NeededTrees$Rules" "symbol" "[I" ∈ lw_tbl) (hdg : decode cc pc = .ok (.getfield index, 3)) (kk : W p l e R s m args below meth c H locs cells slots Q (F0 m (pc + 3) ls (.ref (ad 18) :: rest))) : W p l e R s m args below meth c H locs cells slots Q (F0 m pc ls (.ref (ad 3) :: rest)) := by
  obtain ⟨hx, hb, -, -, hown, -, hE, hK, -⟩ := X
  exact va_get hx hb (hE.use args) inG3 hown hK hP 3 rfl rfl 1 (by decide) (hE.at args hlk) (fun _ h => h) rfl hdg kk
theorem gCN_Rul_symbol {host : String} (X : Fx p s m meth c D cA A own cc nL rt) (hP : va_P D vwCl (wC cA ad ta σ) H) (hlk : Cond.fieldLinkNest own index "NeededTrees$Rules" "symbol" "[I" host ∈ lw_tbl) (hdg : decode cc pc = .ok (.getfield index, 3)) (kk : W p l e R s m args below meth c H locs cells slots Q (F0 m (pc + 3) ls (.ref (ad 18) :: rest))) : W p l e R s m args below meth c H locs cells slots Q (F0 m pc ls (.ref (ad 3) :: rest)) := by
  obtain ⟨hx, hb, -, -, hown, -, hE, hK, -⟩ := X
  exact va_getN hx hb (hE.use args) inG3 hown hK hP 3 rfl rfl 1 (by decide) (hE.at args hlk) (fun _ h => h) rfl hdg kk
theorem gC_Rul_up (X : Fx p s m meth c D cA A own cc nL rt) (hP : va_P D vwCl (wC cA ad ta σ) H) (hlk : Cond.fieldLink own index "NeededTrees$Rules" "up" "[I" ∈ lw_tbl) (hdg : decode cc pc = .ok (.getfield index, 3)) (kk : W p l e R s m args below meth c H locs cells slots Q (F0 m (pc + 3) ls (.ref (ad 19) :: rest))) : W p l e R s m args below meth c H locs cells slots Q (F0 m pc ls (.ref (ad 3) :: rest)) := by
  obtain ⟨hx, hb, -, -, hown, -, hE, hK, -⟩ := X
  exact va_get hx hb (hE.use args) inG3 hown hK hP 3 rfl rfl 2 (by decide) (hE.at args hlk) (fun _ h => h) rfl hdg kk
theorem gCN_Rul_up {host : String} (X : Fx p s m meth c D cA A own cc nL rt) (hP : va_P D vwCl (wC cA ad ta σ) H) (hlk : Cond.fieldLinkNest own index "NeededTrees$Rules" "up" "[I" host ∈ lw_tbl) (hdg : decode cc pc = .ok (.getfield index, 3)) (kk : W p l e R s m args below meth c H locs cells slots Q (F0 m (pc + 3) ls (.ref (ad 19) :: rest))) : W p l e R s m args below meth c H locs cells slots Q (F0 m pc ls (.ref (ad 3) :: rest)) := by
  obtain ⟨hx, hb, -, -, hown, -, hE, hK, -⟩ := X
  exact va_getN hx hb (hE.use args) inG3 hown hK hP 3 rfl rfl 2 (by decide) (hE.at args hlk) (fun _ h => h) rfl hdg kk
theorem gC_Sig_argumentTypes (X : Fx p s m meth c D cA A own cc nL rt) (hP : va_P D vwCl (wC cA ad ta σ) H) (hlk : Cond.fieldLink own index "NeededTrees$Signature" "argumentTypes" "I" ∈ lw_tbl) (hdg : decode cc pc = .ok (.getfield index, 3)) (kk : W p l e R s m args below meth c H locs cells slots Q (F0 m (pc + 3) ls (.int (gF σ 4) :: rest))) : W p l e R s m args below meth c H locs cells slots Q (F0 m pc ls (.ref (ad 1) :: rest)) := by
  obtain ⟨hx, hb, -, -, hown, -, hE, hK, -⟩ := X
  exact va_get hx hb (hE.use args) inG4 hown hK hP 1 rfl rfl 6 (by decide) (hE.at args hlk) (fun _ h => h) rfl hdg kk
theorem gC_Sig_arguments (X : Fx p s m meth c D cA A own cc nL rt) (hP : va_P D vwCl (wC cA ad ta σ) H) (hlk : Cond.fieldLink own index "NeededTrees$Signature" "arguments" "I" ∈ lw_tbl) (hdg : decode cc pc = .ok (.getfield index, 3)) (kk : W p l e R s m args below meth c H locs cells slots Q (F0 m (pc + 3) ls (.int (gF σ 3) :: rest))) : W p l e R s m args below meth c H locs cells slots Q (F0 m pc ls (.ref (ad 1) :: rest)) := by
  obtain ⟨hx, hb, -, -, hown, -, hE, hK, -⟩ := X
  exact va_get hx hb (hE.use args) inG4 hown hK hP 1 rfl rfl 5 (by decide) (hE.at args hlk) (fun _ h => h) rfl hdg kk
theorem gCN_Sig_arguments {host : String} (X : Fx p s m meth c D cA A own cc nL rt) (hP : va_P D vwCl (wC cA ad ta σ) H) (hlk : Cond.fieldLinkNest own index "NeededTrees$Signature" "arguments" "I" host ∈ lw_tbl) (hdg : decode cc pc = .ok (.getfield index, 3)) (kk : W p l e R s m args below meth c H locs cells slots Q (F0 m (pc + 3) ls (.int (gF σ 3) :: rest))) : W p l e R s m args below meth c H locs cells slots Q (F0 m pc ls (.ref (ad 1) :: rest)) := by
  obtain ⟨hx, hb, -, -, hown, -, hE, hK, -⟩ := X
  exact va_getN hx hb (hE.use args) inG4 hown hK hP 1 rfl rfl 5 (by decide) (hE.at args hlk) (fun _ h => h) rfl hdg kk
theorem gC_Sig_arities (X : Fx p s m meth c D cA A own cc nL rt) (hP : va_P D vwCl (wC cA ad ta σ) H) (hlk : Cond.fieldLink own index "NeededTrees$Signature" "arities" "[I" ∈ lw_tbl) (hdg : decode cc pc = .ok (.getfield index, 3)) (kk : W p l e R s m args below meth c H locs cells slots Q (F0 m (pc + 3) ls (.ref (ad 10) :: rest))) : W p l e R s m args below meth c H locs cells slots Q (F0 m pc ls (.ref (ad 1) :: rest)) := by
  obtain ⟨hx, hb, -, -, hown, -, hE, hK, -⟩ := X
  exact va_get hx hb (hE.use args) inG4 hown hK hP 1 rfl rfl 1 (by decide) (hE.at args hlk) (fun _ h => h) rfl hdg kk
theorem gC_Sig_made (X : Fx p s m meth c D cA A own cc nL rt) (hP : va_P D vwCl (wC cA ad ta σ) H) (hlk : Cond.fieldLink own index "NeededTrees$Signature" "made" "I" ∈ lw_tbl) (hdg : decode cc pc = .ok (.getfield index, 3)) (kk : W p l e R s m args below meth c H locs cells slots Q (F0 m (pc + 3) ls (.int (gF σ 2) :: rest))) : W p l e R s m args below meth c H locs cells slots Q (F0 m pc ls (.ref (ad 1) :: rest)) := by
  obtain ⟨hx, hb, -, -, hown, -, hE, hK, -⟩ := X
  exact va_get hx hb (hE.use args) inG4 hown hK hP 1 rfl rfl 4 (by decide) (hE.at args hlk) (fun _ h => h) rfl hdg kk
theorem gCN_Sig_made {host : String} (X : Fx p s m meth c D cA A own cc nL rt) (hP : va_P D vwCl (wC cA ad ta σ) H) (hlk : Cond.fieldLinkNest own index "NeededTrees$Signature" "made" "I" host ∈ lw_tbl) (hdg : decode cc pc = .ok (.getfield index, 3)) (kk : W p l e R s m args below meth c H locs cells slots Q (F0 m (pc + 3) ls (.int (gF σ 2) :: rest))) : W p l e R s m args below meth c H locs cells slots Q (F0 m pc ls (.ref (ad 1) :: rest)) := by
  obtain ⟨hx, hb, -, -, hown, -, hE, hK, -⟩ := X
  exact va_getN hx hb (hE.use args) inG4 hown hK hP 1 rfl rfl 4 (by decide) (hE.at args hlk) (fun _ h => h) rfl hdg kk
theorem gC_Sig_ownTypes (X : Fx p s m meth c D cA A own cc nL rt) (hP : va_P D vwCl (wC cA ad ta σ) H) (hlk : Cond.fieldLink own index "NeededTrees$Signature" "ownTypes" "[I" ∈ lw_tbl) (hdg : decode cc pc = .ok (.getfield index, 3)) (kk : W p l e R s m args below meth c H locs cells slots Q (F0 m (pc + 3) ls (.ref (ad 9) :: rest))) : W p l e R s m args below meth c H locs cells slots Q (F0 m pc ls (.ref (ad 1) :: rest)) := by
  obtain ⟨hx, hb, -, -, hown, -, hE, hK, -⟩ := X
  exact va_get hx hb (hE.use args) inG4 hown hK hP 1 rfl rfl 0 (by decide) (hE.at args hlk) (fun _ h => h) rfl hdg kk
theorem gC_Sig_partTypes (X : Fx p s m meth c D cA A own cc nL rt) (hP : va_P D vwCl (wC cA ad ta σ) H) (hlk : Cond.fieldLink own index "NeededTrees$Signature" "partTypes" "[I" ∈ lw_tbl) (hdg : decode cc pc = .ok (.getfield index, 3)) (kk : W p l e R s m args below meth c H locs cells slots Q (F0 m (pc + 3) ls (.ref (ad 11) :: rest))) : W p l e R s m args below meth c H locs cells slots Q (F0 m pc ls (.ref (ad 1) :: rest)) := by
  obtain ⟨hx, hb, -, -, hown, -, hE, hK, -⟩ := X
  exact va_get hx hb (hE.use args) inG4 hown hK hP 1 rfl rfl 2 (by decide) (hE.at args hlk) (fun _ h => h) rfl hdg kk
theorem gC_Sig_types (X : Fx p s m meth c D cA A own cc nL rt) (hP : va_P D vwCl (wC cA ad ta σ) H) (hlk : Cond.fieldLink own index "NeededTrees$Signature" "types" "I" ∈ lw_tbl) (hdg : decode cc pc = .ok (.getfield index, 3)) (kk : W p l e R s m args below meth c H locs cells slots Q (F0 m (pc + 3) ls (.int (gF σ 1) :: rest))) : W p l e R s m args below meth c H locs cells slots Q (F0 m pc ls (.ref (ad 1) :: rest)) := by
  obtain ⟨hx, hb, -, -, hown, -, hE, hK, -⟩ := X
  exact va_get hx hb (hE.use args) inG4 hown hK hP 1 rfl rfl 3 (by decide) (hE.at args hlk) (fun _ h => h) rfl hdg kk
theorem gCN_Sig_types {host : String} (X : Fx p s m meth c D cA A own cc nL rt) (hP : va_P D vwCl (wC cA ad ta σ) H) (hlk : Cond.fieldLinkNest own index "NeededTrees$Signature" "types" "I" host ∈ lw_tbl) (hdg : decode cc pc = .ok (.getfield index, 3)) (kk : W p l e R s m args below meth c H locs cells slots Q (F0 m (pc + 3) ls (.int (gF σ 1) :: rest))) : W p l e R s m args below meth c H locs cells slots Q (F0 m pc ls (.ref (ad 1) :: rest)) := by
  obtain ⟨hx, hb, -, -, hown, -, hE, hK, -⟩ := X
  exact va_getN hx hb (hE.use args) inG4 hown hK hP 1 rfl rfl 3 (by decide) (hE.at args hlk) (fun _ h => h) rfl hdg kk
theorem gC_Ter_alias (X : Fx p s m meth c D cA A own cc nL rt) (hP : va_P D vwCl (wC cA ad ta σ) H) (hlk : Cond.fieldLink own index "NeededTrees$Terms" "alias" "[I" ∈ lw_tbl) (hdg : decode cc pc = .ok (.getfield index, 3)) (kk : W p l e R s m args below meth c H locs cells slots Q (F0 m (pc + 3) ls (.ref (ad 37) :: rest))) : W p l e R s m args below meth c H locs cells slots Q (F0 m pc ls (.ref (ad 6) :: rest)) := by
  obtain ⟨hx, hb, -, -, hown, -, hE, hK, -⟩ := X
  exact va_get hx hb (hE.use args) inG5 hown hK hP 6 rfl rfl 5 (by decide) (hE.at args hlk) (fun _ h => h) rfl hdg kk
theorem gC_Ter_bindings (X : Fx p s m meth c D cA A own cc nL rt) (hP : va_P D vwCl (wC cA ad ta σ) H) (hlk : Cond.fieldLink own index "NeededTrees$Terms" "bindings" "I" ∈ lw_tbl) (hdg : decode cc pc = .ok (.getfield index, 3)) (kk : W p l e R s m args below meth c H locs cells slots Q (F0 m (pc + 3) ls (.int (gF σ 12) :: rest))) : W p l e R s m args below meth c H locs cells slots Q (F0 m pc ls (.ref (ad 6) :: rest)) := by
  obtain ⟨hx, hb, -, -, hown, -, hE, hK, -⟩ := X
  exact va_get hx hb (hE.use args) inG5 hown hK hP 6 rfl rfl 9 (by decide) (hE.at args hlk) (fun _ h => h) rfl hdg kk
theorem gCN_Ter_bindings {host : String} (X : Fx p s m meth c D cA A own cc nL rt) (hP : va_P D vwCl (wC cA ad ta σ) H) (hlk : Cond.fieldLinkNest own index "NeededTrees$Terms" "bindings" "I" host ∈ lw_tbl) (hdg : decode cc pc = .ok (.getfield index, 3)) (kk : W p l e R s m args below meth c H locs cells slots Q (F0 m (pc + 3) ls (.int (gF σ 12) :: rest))) : W p l e R s m args below meth c H locs cells slots Q (F0 m pc ls (.ref (ad 6) :: rest)) := by
  obtain ⟨hx, hb, -, -, hown, -, hE, hK, -⟩ := X
  exact va_getN hx hb (hE.use args) inG5 hown hK hP 6 rfl rfl 9 (by decide) (hE.at args hlk) (fun _ h => h) rfl hdg kk
theorem gC_Ter_bound (X : Fx p s m meth c D cA A own cc nL rt) (hP : va_P D vwCl (wC cA ad ta σ) H) (hlk : Cond.fieldLink own index "NeededTrees$Terms" "bound" "[I" ∈ lw_tbl) (hdg : decode cc pc = .ok (.getfield index, 3)) (kk : W p l e R s m args below meth c H locs cells slots Q (F0 m (pc + 3) ls (.ref (ad 38) :: rest))) : W p l e R s m args below meth c H locs cells slots Q (F0 m pc ls (.ref (ad 6) :: rest)) := by
  obtain ⟨hx, hb, -, -, hown, -, hE, hK, -⟩ := X
  exact va_get hx hb (hE.use args) inG5 hown hK hP 6 rfl rfl 6 (by decide) (hE.at args hlk) (fun _ h => h) rfl hdg kk
theorem gC_Ter_cells (X : Fx p s m meth c D cA A own cc nL rt) (hP : va_P D vwCl (wC cA ad ta σ) H) (hlk : Cond.fieldLink own index "NeededTrees$Terms" "cells" "I" ∈ lw_tbl) (hdg : decode cc pc = .ok (.getfield index, 3)) (kk : W p l e R s m args below meth c H locs cells slots Q (F0 m (pc + 3) ls (.int (gF σ 11) :: rest))) : W p l e R s m args below meth c H locs cells slots Q (F0 m pc ls (.ref (ad 6) :: rest)) := by
  obtain ⟨hx, hb, -, -, hown, -, hE, hK, -⟩ := X
  exact va_get hx hb (hE.use args) inG5 hown hK hP 6 rfl rfl 8 (by decide) (hE.at args hlk) (fun _ h => h) rfl hdg kk
theorem gC_Ter_end (X : Fx p s m meth c D cA A own cc nL rt) (hP : va_P D vwCl (wC cA ad ta σ) H) (hlk : Cond.fieldLink own index "NeededTrees$Terms" "end" "[I" ∈ lw_tbl) (hdg : decode cc pc = .ok (.getfield index, 3)) (kk : W p l e R s m args below meth c H locs cells slots Q (F0 m (pc + 3) ls (.ref (ad 35) :: rest))) : W p l e R s m args below meth c H locs cells slots Q (F0 m pc ls (.ref (ad 6) :: rest)) := by
  obtain ⟨hx, hb, -, -, hown, -, hE, hK, -⟩ := X
  exact va_get hx hb (hE.use args) inG5 hown hK hP 6 rfl rfl 3 (by decide) (hE.at args hlk) (fun _ h => h) rfl hdg kk
theorem gC_Ter_first (X : Fx p s m meth c D cA A own cc nL rt) (hP : va_P D vwCl (wC cA ad ta σ) H) (hlk : Cond.fieldLink own index "NeededTrees$Terms" "first" "[I" ∈ lw_tbl) (hdg : decode cc pc = .ok (.getfield index, 3)) (kk : W p l e R s m args below meth c H locs cells slots Q (F0 m (pc + 3) ls (.ref (ad 34) :: rest))) : W p l e R s m args below meth c H locs cells slots Q (F0 m pc ls (.ref (ad 6) :: rest)) := by
  obtain ⟨hx, hb, -, -, hown, -, hE, hK, -⟩ := X
  exact va_get hx hb (hE.use args) inG5 hown hK hP 6 rfl rfl 2 (by decide) (hE.at args hlk) (fun _ h => h) rfl hdg kk
theorem gC_Ter_head (X : Fx p s m meth c D cA A own cc nL rt) (hP : va_P D vwCl (wC cA ad ta σ) H) (hlk : Cond.fieldLink own index "NeededTrees$Terms" "head" "[I" ∈ lw_tbl) (hdg : decode cc pc = .ok (.getfield index, 3)) (kk : W p l e R s m args below meth c H locs cells slots Q (F0 m (pc + 3) ls (.ref (ad 33) :: rest))) : W p l e R s m args below meth c H locs cells slots Q (F0 m pc ls (.ref (ad 6) :: rest)) := by
  obtain ⟨hx, hb, -, -, hown, -, hE, hK, -⟩ := X
  exact va_get hx hb (hE.use args) inG5 hown hK hP 6 rfl rfl 1 (by decide) (hE.at args hlk) (fun _ h => h) rfl hdg kk
theorem gCN_Ter_head {host : String} (X : Fx p s m meth c D cA A own cc nL rt) (hP : va_P D vwCl (wC cA ad ta σ) H) (hlk : Cond.fieldLinkNest own index "NeededTrees$Terms" "head" "[I" host ∈ lw_tbl) (hdg : decode cc pc = .ok (.getfield index, 3)) (kk : W p l e R s m args below meth c H locs cells slots Q (F0 m (pc + 3) ls (.ref (ad 33) :: rest))) : W p l e R s m args below meth c H locs cells slots Q (F0 m pc ls (.ref (ad 6) :: rest)) := by
  obtain ⟨hx, hb, -, -, hown, -, hE, hK, -⟩ := X
  exact va_getN hx hb (hE.use args) inG5 hown hK hP 6 rfl rfl 1 (by decide) (hE.at args hlk) (fun _ h => h) rfl hdg kk
theorem gC_Ter_left (X : Fx p s m meth c D cA A own cc nL rt) (hP : va_P D vwCl (wC cA ad ta σ) H) (hlk : Cond.fieldLink own index "NeededTrees$Terms" "left" "I" ∈ lw_tbl) (hdg : decode cc pc = .ok (.getfield index, 3)) (kk : W p l e R s m args below meth c H locs cells slots Q (F0 m (pc + 3) ls (.int (gF σ 14) :: rest))) : W p l e R s m args below meth c H locs cells slots Q (F0 m pc ls (.ref (ad 6) :: rest)) := by
  obtain ⟨hx, hb, -, -, hown, -, hE, hK, -⟩ := X
  exact va_get hx hb (hE.use args) inG5 hown hK hP 6 rfl rfl 11 (by decide) (hE.at args hlk) (fun _ h => h) rfl hdg kk
theorem gC_Ter_length (X : Fx p s m meth c D cA A own cc nL rt) (hP : va_P D vwCl (wC cA ad ta σ) H) (hlk : Cond.fieldLink own index "NeededTrees$Terms" "length" "I" ∈ lw_tbl) (hdg : decode cc pc = .ok (.getfield index, 3)) (kk : W p l e R s m args below meth c H locs cells slots Q (F0 m (pc + 3) ls (.int (gF σ 13) :: rest))) : W p l e R s m args below meth c H locs cells slots Q (F0 m pc ls (.ref (ad 6) :: rest)) := by
  obtain ⟨hx, hb, -, -, hown, -, hE, hK, -⟩ := X
  exact va_get hx hb (hE.use args) inG5 hown hK hP 6 rfl rfl 10 (by decide) (hE.at args hlk) (fun _ h => h) rfl hdg kk
theorem gCN_Ter_length {host : String} (X : Fx p s m meth c D cA A own cc nL rt) (hP : va_P D vwCl (wC cA ad ta σ) H) (hlk : Cond.fieldLinkNest own index "NeededTrees$Terms" "length" "I" host ∈ lw_tbl) (hdg : decode cc pc = .ok (.getfield index, 3)) (kk : W p l e R s m args below meth c H locs cells slots Q (F0 m (pc + 3) ls (.int (gF σ 13) :: rest))) : W p l e R s m args below meth c H locs cells slots Q (F0 m pc ls (.ref (ad 6) :: rest)) := by
  obtain ⟨hx, hb, -, -, hown, -, hE, hK, -⟩ := X
  exact va_getN hx hb (hE.use args) inG5 hown hK hP 6 rfl rfl 10 (by decide) (hE.at args hlk) (fun _ h => h) rfl hdg kk
theorem gC_Ter_signature (X : Fx p s m meth c D cA A own cc nL rt) (hP : va_P D vwCl (wC cA ad ta σ) H) (hlk : Cond.fieldLink own index "NeededTrees$Terms" "signature" "LNeededTrees$Signature;" ∈ lw_tbl) (hdg : decode cc pc = .ok (.getfield index, 3)) (kk : W p l e R s m args below meth c H locs cells slots Q (F0 m (pc + 3) ls (.ref (ad 1) :: rest))) : W p l e R s m args below meth c H locs cells slots Q (F0 m pc ls (.ref (ad 6) :: rest)) := by
  obtain ⟨hx, hb, -, -, hown, -, hE, hK, -⟩ := X
  exact va_get hx hb (hE.use args) inG5 hown hK hP 6 rfl rfl 0 (by decide) (hE.at args hlk) (fun _ h => h) rfl hdg kk
theorem gC_Ter_times (X : Fx p s m meth c D cA A own cc nL rt) (hP : va_P D vwCl (wC cA ad ta σ) H) (hlk : Cond.fieldLink own index "NeededTrees$Terms" "times" "[I" ∈ lw_tbl) (hdg : decode cc pc = .ok (.getfield index, 3)) (kk : W p l e R s m args below meth c H locs cells slots Q (F0 m (pc + 3) ls (.ref (ad 36) :: rest))) : W p l e R s m args below meth c H locs cells slots Q (F0 m pc ls (.ref (ad 6) :: rest)) := by
  obtain ⟨hx, hb, -, -, hown, -, hE, hK, -⟩ := X
  exact va_get hx hb (hE.use args) inG5 hown hK hP 6 rfl rfl 4 (by decide) (hE.at args hlk) (fun _ h => h) rfl hdg kk
theorem gC_Ter_unwritten (X : Fx p s m meth c D cA A own cc nL rt) (hP : va_P D vwCl (wC cA ad ta σ) H) (hlk : Cond.fieldLink own index "NeededTrees$Terms" "unwritten" "[I" ∈ lw_tbl) (hdg : decode cc pc = .ok (.getfield index, 3)) (kk : W p l e R s m args below meth c H locs cells slots Q (F0 m (pc + 3) ls (.ref (ad 39) :: rest))) : W p l e R s m args below meth c H locs cells slots Q (F0 m pc ls (.ref (ad 6) :: rest)) := by
  obtain ⟨hx, hb, -, -, hown, -, hE, hK, -⟩ := X
  exact va_get hx hb (hE.use args) inG5 hown hK hP 6 rfl rfl 7 (by decide) (hE.at args hlk) (fun _ h => h) rfl hdg kk
theorem gC_Tre_children (X : Fx p s m meth c D cA A own cc nL rt) (hP : va_P D vwCl (wC cA ad ta σ) H) (hlk : Cond.fieldLink own index "NeededTrees$Tree" "children" "[I" ∈ lw_tbl) (hdg : decode cc pc = .ok (.getfield index, 3)) (kk : W p l e R s m args below meth c H locs cells slots Q (F0 m (pc + 3) ls (.ref (ad 25) :: rest))) : W p l e R s m args below meth c H locs cells slots Q (F0 m pc ls (.ref (ad 4) :: rest)) := by
  obtain ⟨hx, hb, -, -, hown, -, hE, hK, -⟩ := X
  exact va_get hx hb (hE.use args) inG6 hown hK hP 4 rfl rfl 2 (by decide) (hE.at args hlk) (fun _ h => h) rfl hdg kk
theorem gC_Tre_covering (X : Fx p s m meth c D cA A own cc nL rt) (hP : va_P D vwCl (wC cA ad ta σ) H) (hlk : Cond.fieldLink own index "NeededTrees$Tree" "covering" "[I" ∈ lw_tbl) (hdg : decode cc pc = .ok (.getfield index, 3)) (kk : W p l e R s m args below meth c H locs cells slots Q (F0 m (pc + 3) ls (.ref (ad 28) :: rest))) : W p l e R s m args below meth c H locs cells slots Q (F0 m pc ls (.ref (ad 4) :: rest)) := by
  obtain ⟨hx, hb, -, -, hown, -, hE, hK, -⟩ := X
  exact va_get hx hb (hE.use args) inG6 hown hK hP 4 rfl rfl 5 (by decide) (hE.at args hlk) (fun _ h => h) rfl hdg kk
theorem gC_Tre_depth (X : Fx p s m meth c D cA A own cc nL rt) (hP : va_P D vwCl (wC cA ad ta σ) H) (hlk : Cond.fieldLink own index "NeededTrees$Tree" "depth" "[I" ∈ lw_tbl) (hdg : decode cc pc = .ok (.getfield index, 3)) (kk : W p l e R s m args below meth c H locs cells slots Q (F0 m (pc + 3) ls (.ref (ad 27) :: rest))) : W p l e R s m args below meth c H locs cells slots Q (F0 m pc ls (.ref (ad 4) :: rest)) := by
  obtain ⟨hx, hb, -, -, hown, -, hE, hK, -⟩ := X
  exact va_get hx hb (hE.use args) inG6 hown hK hP 4 rfl rfl 4 (by decide) (hE.at args hlk) (fun _ h => h) rfl hdg kk
theorem gCN_Tre_depth {host : String} (X : Fx p s m meth c D cA A own cc nL rt) (hP : va_P D vwCl (wC cA ad ta σ) H) (hlk : Cond.fieldLinkNest own index "NeededTrees$Tree" "depth" "[I" host ∈ lw_tbl) (hdg : decode cc pc = .ok (.getfield index, 3)) (kk : W p l e R s m args below meth c H locs cells slots Q (F0 m (pc + 3) ls (.ref (ad 27) :: rest))) : W p l e R s m args below meth c H locs cells slots Q (F0 m pc ls (.ref (ad 4) :: rest)) := by
  obtain ⟨hx, hb, -, -, hown, -, hE, hK, -⟩ := X
  exact va_getN hx hb (hE.use args) inG6 hown hK hP 4 rfl rfl 4 (by decide) (hE.at args hlk) (fun _ h => h) rfl hdg kk
theorem gC_Tre_kind (X : Fx p s m meth c D cA A own cc nL rt) (hP : va_P D vwCl (wC cA ad ta σ) H) (hlk : Cond.fieldLink own index "NeededTrees$Tree" "kind" "[I" ∈ lw_tbl) (hdg : decode cc pc = .ok (.getfield index, 3)) (kk : W p l e R s m args below meth c H locs cells slots Q (F0 m (pc + 3) ls (.ref (ad 23) :: rest))) : W p l e R s m args below meth c H locs cells slots Q (F0 m pc ls (.ref (ad 4) :: rest)) := by
  obtain ⟨hx, hb, -, -, hown, -, hE, hK, -⟩ := X
  exact va_get hx hb (hE.use args) inG6 hown hK hP 4 rfl rfl 0 (by decide) (hE.at args hlk) (fun _ h => h) rfl hdg kk
theorem gCN_Tre_kind {host : String} (X : Fx p s m meth c D cA A own cc nL rt) (hP : va_P D vwCl (wC cA ad ta σ) H) (hlk : Cond.fieldLinkNest own index "NeededTrees$Tree" "kind" "[I" host ∈ lw_tbl) (hdg : decode cc pc = .ok (.getfield index, 3)) (kk : W p l e R s m args below meth c H locs cells slots Q (F0 m (pc + 3) ls (.ref (ad 23) :: rest))) : W p l e R s m args below meth c H locs cells slots Q (F0 m pc ls (.ref (ad 4) :: rest)) := by
  obtain ⟨hx, hb, -, -, hown, -, hE, hK, -⟩ := X
  exact va_getN hx hb (hE.use args) inG6 hown hK hP 4 rfl rfl 0 (by decide) (hE.at args hlk) (fun _ h => h) rfl hdg kk
theorem gC_Tre_label (X : Fx p s m meth c D cA A own cc nL rt) (hP : va_P D vwCl (wC cA ad ta σ) H) (hlk : Cond.fieldLink own index "NeededTrees$Tree" "label" "[I" ∈ lw_tbl) (hdg : decode cc pc = .ok (.getfield index, 3)) (kk : W p l e R s m args below meth c H locs cells slots Q (F0 m (pc + 3) ls (.ref (ad 26) :: rest))) : W p l e R s m args below meth c H locs cells slots Q (F0 m pc ls (.ref (ad 4) :: rest)) := by
  obtain ⟨hx, hb, -, -, hown, -, hE, hK, -⟩ := X
  exact va_get hx hb (hE.use args) inG6 hown hK hP 4 rfl rfl 3 (by decide) (hE.at args hlk) (fun _ h => h) rfl hdg kk
theorem gCN_Tre_label {host : String} (X : Fx p s m meth c D cA A own cc nL rt) (hP : va_P D vwCl (wC cA ad ta σ) H) (hlk : Cond.fieldLinkNest own index "NeededTrees$Tree" "label" "[I" host ∈ lw_tbl) (hdg : decode cc pc = .ok (.getfield index, 3)) (kk : W p l e R s m args below meth c H locs cells slots Q (F0 m (pc + 3) ls (.ref (ad 26) :: rest))) : W p l e R s m args below meth c H locs cells slots Q (F0 m pc ls (.ref (ad 4) :: rest)) := by
  obtain ⟨hx, hb, -, -, hown, -, hE, hK, -⟩ := X
  exact va_getN hx hb (hE.use args) inG6 hown hK hP 4 rfl rfl 3 (by decide) (hE.at args hlk) (fun _ h => h) rfl hdg kk
theorem gC_Tre_nodes (X : Fx p s m meth c D cA A own cc nL rt) (hP : va_P D vwCl (wC cA ad ta σ) H) (hlk : Cond.fieldLink own index "NeededTrees$Tree" "nodes" "I" ∈ lw_tbl) (hdg : decode cc pc = .ok (.getfield index, 3)) (kk : W p l e R s m args below meth c H locs cells slots Q (F0 m (pc + 3) ls (.int (gF σ 9) :: rest))) : W p l e R s m args below meth c H locs cells slots Q (F0 m pc ls (.ref (ad 4) :: rest)) := by
  obtain ⟨hx, hb, -, -, hown, -, hE, hK, -⟩ := X
  exact va_get hx hb (hE.use args) inG6 hown hK hP 4 rfl rfl 6 (by decide) (hE.at args hlk) (fun _ h => h) rfl hdg kk
theorem gCN_Tre_nodes {host : String} (X : Fx p s m meth c D cA A own cc nL rt) (hP : va_P D vwCl (wC cA ad ta σ) H) (hlk : Cond.fieldLinkNest own index "NeededTrees$Tree" "nodes" "I" host ∈ lw_tbl) (hdg : decode cc pc = .ok (.getfield index, 3)) (kk : W p l e R s m args below meth c H locs cells slots Q (F0 m (pc + 3) ls (.int (gF σ 9) :: rest))) : W p l e R s m args below meth c H locs cells slots Q (F0 m pc ls (.ref (ad 4) :: rest)) := by
  obtain ⟨hx, hb, -, -, hown, -, hE, hK, -⟩ := X
  exact va_getN hx hb (hE.use args) inG6 hown hK hP 4 rfl rfl 6 (by decide) (hE.at args hlk) (fun _ h => h) rfl hdg kk
theorem gC_Tre_subject (X : Fx p s m meth c D cA A own cc nL rt) (hP : va_P D vwCl (wC cA ad ta σ) H) (hlk : Cond.fieldLink own index "NeededTrees$Tree" "subject" "[I" ∈ lw_tbl) (hdg : decode cc pc = .ok (.getfield index, 3)) (kk : W p l e R s m args below meth c H locs cells slots Q (F0 m (pc + 3) ls (.ref (ad 24) :: rest))) : W p l e R s m args below meth c H locs cells slots Q (F0 m pc ls (.ref (ad 4) :: rest)) := by
  obtain ⟨hx, hb, -, -, hown, -, hE, hK, -⟩ := X
  exact va_get hx hb (hE.use args) inG6 hown hK hP 4 rfl rfl 1 (by decide) (hE.at args hlk) (fun _ h => h) rfl hdg kk
theorem gCN_Tre_subject {host : String} (X : Fx p s m meth c D cA A own cc nL rt) (hP : va_P D vwCl (wC cA ad ta σ) H) (hlk : Cond.fieldLinkNest own index "NeededTrees$Tree" "subject" "[I" host ∈ lw_tbl) (hdg : decode cc pc = .ok (.getfield index, 3)) (kk : W p l e R s m args below meth c H locs cells slots Q (F0 m (pc + 3) ls (.ref (ad 24) :: rest))) : W p l e R s m args below meth c H locs cells slots Q (F0 m pc ls (.ref (ad 4) :: rest)) := by
  obtain ⟨hx, hb, -, -, hown, -, hE, hK, -⟩ := X
  exact va_getN hx hb (hE.use args) inG6 hown hK hP 4 rfl rfl 1 (by decide) (hE.at args hlk) (fun _ h => h) rfl hdg kk
theorem gC_Wal_asks (X : Fx p s m meth c D cA A own cc nL rt) (hP : va_P D vwCl (wC cA ad ta σ) H) (hlk : Cond.fieldLink own index "NeededTrees$Walk" "asks" "[I" ∈ lw_tbl) (hdg : decode cc pc = .ok (.getfield index, 3)) (kk : W p l e R s m args below meth c H locs cells slots Q (F0 m (pc + 3) ls (.ref (ad 46) :: rest))) : W p l e R s m args below meth c H locs cells slots Q (F0 m pc ls (.ref (ad 8) :: rest)) := by
  obtain ⟨hx, hb, -, -, hown, -, hE, hK, -⟩ := X
  exact va_get hx hb (hE.use args) inG7 hown hK hP 8 rfl rfl 6 (by decide) (hE.at args hlk) (fun _ h => h) rfl hdg kk
theorem gC_Wal_cells (X : Fx p s m meth c D cA A own cc nL rt) (hP : va_P D vwCl (wC cA ad ta σ) H) (hlk : Cond.fieldLink own index "NeededTrees$Walk" "cells" "[I" ∈ lw_tbl) (hdg : decode cc pc = .ok (.getfield index, 3)) (kk : W p l e R s m args below meth c H locs cells slots Q (F0 m (pc + 3) ls (.ref (ad 45) :: rest))) : W p l e R s m args below meth c H locs cells slots Q (F0 m pc ls (.ref (ad 8) :: rest)) := by
  obtain ⟨hx, hb, -, -, hown, -, hE, hK, -⟩ := X
  exact va_get hx hb (hE.use args) inG7 hown hK hP 8 rfl rfl 5 (by decide) (hE.at args hlk) (fun _ h => h) rfl hdg kk
theorem gC_Wal_freeAsks (X : Fx p s m meth c D cA A own cc nL rt) (hP : va_P D vwCl (wC cA ad ta σ) H) (hlk : Cond.fieldLink own index "NeededTrees$Walk" "freeAsks" "[I" ∈ lw_tbl) (hdg : decode cc pc = .ok (.getfield index, 3)) (kk : W p l e R s m args below meth c H locs cells slots Q (F0 m (pc + 3) ls (.ref (ad 47) :: rest))) : W p l e R s m args below meth c H locs cells slots Q (F0 m pc ls (.ref (ad 8) :: rest)) := by
  obtain ⟨hx, hb, -, -, hown, -, hE, hK, -⟩ := X
  exact va_get hx hb (hE.use args) inG7 hown hK hP 8 rfl rfl 7 (by decide) (hE.at args hlk) (fun _ h => h) rfl hdg kk
theorem gC_Wal_marks (X : Fx p s m meth c D cA A own cc nL rt) (hP : va_P D vwCl (wC cA ad ta σ) H) (hlk : Cond.fieldLink own index "NeededTrees$Walk" "marks" "[I" ∈ lw_tbl) (hdg : decode cc pc = .ok (.getfield index, 3)) (kk : W p l e R s m args below meth c H locs cells slots Q (F0 m (pc + 3) ls (.ref (ad 44) :: rest))) : W p l e R s m args below meth c H locs cells slots Q (F0 m pc ls (.ref (ad 8) :: rest)) := by
  obtain ⟨hx, hb, -, -, hown, -, hE, hK, -⟩ := X
  exact va_get hx hb (hE.use args) inG7 hown hK hP 8 rfl rfl 4 (by decide) (hE.at args hlk) (fun _ h => h) rfl hdg kk
theorem gC_Wal_outcomes (X : Fx p s m meth c D cA A own cc nL rt) (hP : va_P D vwCl (wC cA ad ta σ) H) (hlk : Cond.fieldLink own index "NeededTrees$Walk" "outcomes" "LNeededTrees$Outcomes;" ∈ lw_tbl) (hdg : decode cc pc = .ok (.getfield index, 3)) (kk : W p l e R s m args below meth c H locs cells slots Q (F0 m (pc + 3) ls (.ref (ad 7) :: rest))) : W p l e R s m args below meth c H locs cells slots Q (F0 m pc ls (.ref (ad 8) :: rest)) := by
  obtain ⟨hx, hb, -, -, hown, -, hE, hK, -⟩ := X
  exact va_get hx hb (hE.use args) inG7 hown hK hP 8 rfl rfl 3 (by decide) (hE.at args hlk) (fun _ h => h) rfl hdg kk
theorem gC_Wal_rules (X : Fx p s m meth c D cA A own cc nL rt) (hP : va_P D vwCl (wC cA ad ta σ) H) (hlk : Cond.fieldLink own index "NeededTrees$Walk" "rules" "LNeededTrees$Rules;" ∈ lw_tbl) (hdg : decode cc pc = .ok (.getfield index, 3)) (kk : W p l e R s m args below meth c H locs cells slots Q (F0 m (pc + 3) ls (.ref (ad 3) :: rest))) : W p l e R s m args below meth c H locs cells slots Q (F0 m pc ls (.ref (ad 8) :: rest)) := by
  obtain ⟨hx, hb, -, -, hown, -, hE, hK, -⟩ := X
  exact va_get hx hb (hE.use args) inG7 hown hK hP 8 rfl rfl 0 (by decide) (hE.at args hlk) (fun _ h => h) rfl hdg kk
theorem gC_Wal_terms (X : Fx p s m meth c D cA A own cc nL rt) (hP : va_P D vwCl (wC cA ad ta σ) H) (hlk : Cond.fieldLink own index "NeededTrees$Walk" "terms" "LNeededTrees$Terms;" ∈ lw_tbl) (hdg : decode cc pc = .ok (.getfield index, 3)) (kk : W p l e R s m args below meth c H locs cells slots Q (F0 m (pc + 3) ls (.ref (ad 6) :: rest))) : W p l e R s m args below meth c H locs cells slots Q (F0 m pc ls (.ref (ad 8) :: rest)) := by
  obtain ⟨hx, hb, -, -, hown, -, hE, hK, -⟩ := X
  exact va_get hx hb (hE.use args) inG7 hown hK hP 8 rfl rfl 2 (by decide) (hE.at args hlk) (fun _ h => h) rfl hdg kk
theorem gC_Wal_tree (X : Fx p s m meth c D cA A own cc nL rt) (hP : va_P D vwCl (wC cA ad ta σ) H) (hlk : Cond.fieldLink own index "NeededTrees$Walk" "tree" "LNeededTrees$Tree;" ∈ lw_tbl) (hdg : decode cc pc = .ok (.getfield index, 3)) (kk : W p l e R s m args below meth c H locs cells slots Q (F0 m (pc + 3) ls (.ref (ad 4) :: rest))) : W p l e R s m args below meth c H locs cells slots Q (F0 m pc ls (.ref (ad 8) :: rest)) := by
  obtain ⟨hx, hb, -, -, hown, -, hE, hK, -⟩ := X
  exact va_get hx hb (hE.use args) inG7 hown hK hP 8 rfl rfl 1 (by decide) (hE.at args hlk) (fun _ h => h) rfl hdg kk
theorem gC_Top_outcomes (X : Fx p s m meth c D cA A own cc nL rt) (hP : va_P D vwCl (wC cA ad ta σ) H) (hlk : Cond.fieldLink own index "NeededTrees" "outcomes" "LNeededTrees$Outcomes;" ∈ lw_tbl) (hdg : decode cc pc = .ok (.getfield index, 3)) (kk : W p l e R s m args below meth c H locs cells slots Q (F0 m (pc + 3) ls (.ref (ad 7) :: rest))) : W p l e R s m args below meth c H locs cells slots Q (F0 m pc ls (.ref (ad 0) :: rest)) := by
  obtain ⟨hx, hb, -, -, hown, -, hE, hK, -⟩ := X
  exact va_get hx hb (hE.use args) inG8 hown hK hP 0 rfl rfl 6 (by decide) (hE.at args hlk) (fun _ h => h) rfl hdg kk
theorem gC_Top_planter (X : Fx p s m meth c D cA A own cc nL rt) (hP : va_P D vwCl (wC cA ad ta σ) H) (hlk : Cond.fieldLink own index "NeededTrees" "planter" "LNeededTrees$Planter;" ∈ lw_tbl) (hdg : decode cc pc = .ok (.getfield index, 3)) (kk : W p l e R s m args below meth c H locs cells slots Q (F0 m (pc + 3) ls (.ref (ad 5) :: rest))) : W p l e R s m args below meth c H locs cells slots Q (F0 m pc ls (.ref (ad 0) :: rest)) := by
  obtain ⟨hx, hb, -, -, hown, -, hE, hK, -⟩ := X
  exact va_get hx hb (hE.use args) inG8 hown hK hP 0 rfl rfl 4 (by decide) (hE.at args hlk) (fun _ h => h) rfl hdg kk
theorem gC_Top_row (X : Fx p s m meth c D cA A own cc nL rt) (hP : va_P D vwCl (wC cA ad ta σ) H) (hlk : Cond.fieldLink own index "NeededTrees" "row" "LNeededTrees$Row;" ∈ lw_tbl) (hdg : decode cc pc = .ok (.getfield index, 3)) (kk : W p l e R s m args below meth c H locs cells slots Q (F0 m (pc + 3) ls (.ref (ad 2) :: rest))) : W p l e R s m args below meth c H locs cells slots Q (F0 m pc ls (.ref (ad 0) :: rest)) := by
  obtain ⟨hx, hb, -, -, hown, -, hE, hK, -⟩ := X
  exact va_get hx hb (hE.use args) inG8 hown hK hP 0 rfl rfl 1 (by decide) (hE.at args hlk) (fun _ h => h) rfl hdg kk
theorem gC_Top_rules (X : Fx p s m meth c D cA A own cc nL rt) (hP : va_P D vwCl (wC cA ad ta σ) H) (hlk : Cond.fieldLink own index "NeededTrees" "rules" "LNeededTrees$Rules;" ∈ lw_tbl) (hdg : decode cc pc = .ok (.getfield index, 3)) (kk : W p l e R s m args below meth c H locs cells slots Q (F0 m (pc + 3) ls (.ref (ad 3) :: rest))) : W p l e R s m args below meth c H locs cells slots Q (F0 m pc ls (.ref (ad 0) :: rest)) := by
  obtain ⟨hx, hb, -, -, hown, -, hE, hK, -⟩ := X
  exact va_get hx hb (hE.use args) inG8 hown hK hP 0 rfl rfl 2 (by decide) (hE.at args hlk) (fun _ h => h) rfl hdg kk
theorem gC_Top_signature (X : Fx p s m meth c D cA A own cc nL rt) (hP : va_P D vwCl (wC cA ad ta σ) H) (hlk : Cond.fieldLink own index "NeededTrees" "signature" "LNeededTrees$Signature;" ∈ lw_tbl) (hdg : decode cc pc = .ok (.getfield index, 3)) (kk : W p l e R s m args below meth c H locs cells slots Q (F0 m (pc + 3) ls (.ref (ad 1) :: rest))) : W p l e R s m args below meth c H locs cells slots Q (F0 m pc ls (.ref (ad 0) :: rest)) := by
  obtain ⟨hx, hb, -, -, hown, -, hE, hK, -⟩ := X
  exact va_get hx hb (hE.use args) inG8 hown hK hP 0 rfl rfl 0 (by decide) (hE.at args hlk) (fun _ h => h) rfl hdg kk
theorem gC_Top_terms (X : Fx p s m meth c D cA A own cc nL rt) (hP : va_P D vwCl (wC cA ad ta σ) H) (hlk : Cond.fieldLink own index "NeededTrees" "terms" "LNeededTrees$Terms;" ∈ lw_tbl) (hdg : decode cc pc = .ok (.getfield index, 3)) (kk : W p l e R s m args below meth c H locs cells slots Q (F0 m (pc + 3) ls (.ref (ad 6) :: rest))) : W p l e R s m args below meth c H locs cells slots Q (F0 m pc ls (.ref (ad 0) :: rest)) := by
  obtain ⟨hx, hb, -, -, hown, -, hE, hK, -⟩ := X
  exact va_get hx hb (hE.use args) inG8 hown hK hP 0 rfl rfl 5 (by decide) (hE.at args hlk) (fun _ h => h) rfl hdg kk
theorem gC_Top_tree (X : Fx p s m meth c D cA A own cc nL rt) (hP : va_P D vwCl (wC cA ad ta σ) H) (hlk : Cond.fieldLink own index "NeededTrees" "tree" "LNeededTrees$Tree;" ∈ lw_tbl) (hdg : decode cc pc = .ok (.getfield index, 3)) (kk : W p l e R s m args below meth c H locs cells slots Q (F0 m (pc + 3) ls (.ref (ad 4) :: rest))) : W p l e R s m args below meth c H locs cells slots Q (F0 m pc ls (.ref (ad 0) :: rest)) := by
  obtain ⟨hx, hb, -, -, hown, -, hE, hK, -⟩ := X
  exact va_get hx hb (hE.use args) inG8 hown hK hP 0 rfl rfl 3 (by decide) (hE.at args hlk) (fun _ h => h) rfl hdg kk
theorem gC_Top_treeIsOld (X : Fx p s m meth c D cA A own cc nL rt) (hP : va_P D vwCl (wC cA ad ta σ) H) (hlk : Cond.fieldLink own index "NeededTrees" "treeIsOld" "Z" ∈ lw_tbl) (hdg : decode cc pc = .ok (.getfield index, 3)) (kk : W p l e R s m args below meth c H locs cells slots Q (F0 m (pc + 3) ls (.int (gF σ 0) :: rest))) : W p l e R s m args below meth c H locs cells slots Q (F0 m pc ls (.ref (ad 0) :: rest)) := by
  obtain ⟨hx, hb, -, -, hown, -, hE, hK, -⟩ := X
  exact va_get hx hb (hE.use args) inG8 hown hK hP 0 rfl rfl 8 (by decide) (hE.at args hlk) (fun _ h => h) rfl hdg kk
theorem gC_Top_walk (X : Fx p s m meth c D cA A own cc nL rt) (hP : va_P D vwCl (wC cA ad ta σ) H) (hlk : Cond.fieldLink own index "NeededTrees" "walk" "LNeededTrees$Walk;" ∈ lw_tbl) (hdg : decode cc pc = .ok (.getfield index, 3)) (kk : W p l e R s m args below meth c H locs cells slots Q (F0 m (pc + 3) ls (.ref (ad 8) :: rest))) : W p l e R s m args below meth c H locs cells slots Q (F0 m pc ls (.ref (ad 0) :: rest)) := by
  obtain ⟨hx, hb, -, -, hown, -, hE, hK, -⟩ := X
  exact va_get hx hb (hE.use args) inG8 hown hK hP 0 rfl rfl 7 (by decide) (hE.at args hlk) (fun _ h => h) rfl hdg kk
theorem pC_Out_many (X : Fx p s m meth c D cA A own cc nL rt) (hP : va_P D vwCl (wC cA ad ta σ) H) (hD : va_D A (wC cA ad ta σ)) (hS : va_S A s.heap H locs) (hlk : Cond.fieldLink own index "NeededTrees$Outcomes" "many" "I" ∈ lw_tbl) (hdg : decode cc pc = .ok (.putfield index, 3)) (kk : ∀ (H1 : Heap) (locs1 : List Loc), va_P D vwCl (wC cA ad ta (sF σ 15 v)) H1 → va_D A (wC cA ad ta (sF σ 15 v)) → va_S A s.heap H1 locs1 → W p l e R s m args below meth c H1 locs1 cells slots Q (F0 m (pc + 3) ls rest)) : W p l e R s m args below meth c H locs cells slots Q (F0 m pc ls (.int v :: .ref (ad 7) :: rest)) := by
  obtain ⟨hx, hb, -, -, hown, -, hE, hK, -⟩ := X
  exact va_put hx hb (hE.use args) inG0 tyX0 tyX0_ok nmX0 hown hK hP hD hS 7 rfl rfl 5 (by decide) (hE.at args hlk) (fun _ h => h) rfl rfl rfl rfl (Nat.le_of_ble_eq_true rfl) hdg kk
theorem pC_Pla_waiting (X : Fx p s m meth c D cA A own cc nL rt) (hP : va_P D vwCl (wC cA ad ta σ) H) (hD : va_D A (wC cA ad ta σ)) (hS : va_S A s.heap H locs) (hlk : Cond.fieldLink own index "NeededTrees$Planter" "waiting" "I" ∈ lw_tbl) (hdg : decode cc pc = .ok (.putfield index, 3)) (kk : ∀ (H1 : Heap) (locs1 : List Loc), va_P D vwCl (wC cA ad ta (sF σ 10 v)) H1 → va_D A (wC cA ad ta (sF σ 10 v)) → va_S A s.heap H1 locs1 → W p l e R s m args below meth c H1 locs1 cells slots Q (F0 m (pc + 3) ls rest)) : W p l e R s m args below meth c H locs cells slots Q (F0 m pc ls (.int v :: .ref (ad 5) :: rest)) := by
  obtain ⟨hx, hb, -, -, hown, -, hE, hK, -⟩ := X
  exact va_put hx hb (hE.use args) inG1 tyX1 tyX1_ok nmX1 hown hK hP hD hS 5 rfl rfl 6 (by decide) (hE.at args hlk) (fun _ h => h) rfl rfl rfl rfl (Nat.le_of_ble_eq_true rfl) hdg kk
theorem pC_Row_holder (X : Fx p s m meth c D cA A own cc nL rt) (hP : va_P D vwCl (wC cA ad ta σ) H) (hD : va_D A (wC cA ad ta σ)) (hS : va_S A s.heap H locs) (hlk : Cond.fieldLink own index "NeededTrees$Row" "holder" "I" ∈ lw_tbl) (hdg : decode cc pc = .ok (.putfield index, 3)) (kk : ∀ (H1 : Heap) (locs1 : List Loc), va_P D vwCl (wC cA ad ta (sF σ 6 v)) H1 → va_D A (wC cA ad ta (sF σ 6 v)) → va_S A s.heap H1 locs1 → W p l e R s m args below meth c H1 locs1 cells slots Q (F0 m (pc + 3) ls rest)) : W p l e R s m args below meth c H locs cells slots Q (F0 m pc ls (.int v :: .ref (ad 2) :: rest)) := by
  obtain ⟨hx, hb, -, -, hown, -, hE, hK, -⟩ := X
  exact va_put hx hb (hE.use args) inG2 tyX2 tyX2_ok nmX2 hown hK hP hD hS 2 rfl rfl 6 (by decide) (hE.at args hlk) (fun _ h => h) rfl rfl rfl rfl (Nat.le_of_ble_eq_true rfl) hdg kk
theorem pC_Row_length (X : Fx p s m meth c D cA A own cc nL rt) (hP : va_P D vwCl (wC cA ad ta σ) H) (hD : va_D A (wC cA ad ta σ)) (hS : va_S A s.heap H locs) (hlk : Cond.fieldLink own index "NeededTrees$Row" "length" "I" ∈ lw_tbl) (hdg : decode cc pc = .ok (.putfield index, 3)) (kk : ∀ (H1 : Heap) (locs1 : List Loc), va_P D vwCl (wC cA ad ta (sF σ 5 v)) H1 → va_D A (wC cA ad ta (sF σ 5 v)) → va_S A s.heap H1 locs1 → W p l e R s m args below meth c H1 locs1 cells slots Q (F0 m (pc + 3) ls rest)) : W p l e R s m args below meth c H locs cells slots Q (F0 m pc ls (.int v :: .ref (ad 2) :: rest)) := by
  obtain ⟨hx, hb, -, -, hown, -, hE, hK, -⟩ := X
  exact va_put hx hb (hE.use args) inG2 tyX2 tyX2_ok nmX2 hown hK hP hD hS 2 rfl rfl 5 (by decide) (hE.at args hlk) (fun _ h => h) rfl rfl rfl rfl (Nat.le_of_ble_eq_true rfl) hdg kk
theorem pC_Row_next (X : Fx p s m meth c D cA A own cc nL rt) (hP : va_P D vwCl (wC cA ad ta σ) H) (hD : va_D A (wC cA ad ta σ)) (hS : va_S A s.heap H locs) (hlk : Cond.fieldLink own index "NeededTrees$Row" "next" "I" ∈ lw_tbl) (hdg : decode cc pc = .ok (.putfield index, 3)) (kk : ∀ (H1 : Heap) (locs1 : List Loc), va_P D vwCl (wC cA ad ta (sF σ 7 v)) H1 → va_D A (wC cA ad ta (sF σ 7 v)) → va_S A s.heap H1 locs1 → W p l e R s m args below meth c H1 locs1 cells slots Q (F0 m (pc + 3) ls rest)) : W p l e R s m args below meth c H locs cells slots Q (F0 m pc ls (.int v :: .ref (ad 2) :: rest)) := by
  obtain ⟨hx, hb, -, -, hown, -, hE, hK, -⟩ := X
  exact va_put hx hb (hE.use args) inG2 tyX2 tyX2_ok nmX2 hown hK hP hD hS 2 rfl rfl 7 (by decide) (hE.at args hlk) (fun _ h => h) rfl rfl rfl rfl (Nat.le_of_ble_eq_true rfl) hdg kk
theorem pC_Rul_many (X : Fx p s m meth c D cA A own cc nL rt) (hP : va_P D vwCl (wC cA ad ta σ) H) (hD : va_D A (wC cA ad ta σ)) (hS : va_S A s.heap H locs) (hlk : Cond.fieldLink own index "NeededTrees$Rules" "many" "I" ∈ lw_tbl) (hdg : decode cc pc = .ok (.putfield index, 3)) (kk : ∀ (H1 : Heap) (locs1 : List Loc), va_P D vwCl (wC cA ad ta (sF σ 8 v)) H1 → va_D A (wC cA ad ta (sF σ 8 v)) → va_S A s.heap H1 locs1 → W p l e R s m args below meth c H1 locs1 cells slots Q (F0 m (pc + 3) ls rest)) : W p l e R s m args below meth c H locs cells slots Q (F0 m pc ls (.int v :: .ref (ad 3) :: rest)) := by
  obtain ⟨hx, hb, -, -, hown, -, hE, hK, -⟩ := X
  exact va_put hx hb (hE.use args) inG3 tyX3 tyX3_ok nmX3 hown hK hP hD hS 3 rfl rfl 6 (by decide) (hE.at args hlk) (fun _ h => h) rfl rfl rfl rfl (Nat.le_of_ble_eq_true rfl) hdg kk
theorem pC_Sig_argumentTypes (X : Fx p s m meth c D cA A own cc nL rt) (hP : va_P D vwCl (wC cA ad ta σ) H) (hD : va_D A (wC cA ad ta σ)) (hS : va_S A s.heap H locs) (hlk : Cond.fieldLink own index "NeededTrees$Signature" "argumentTypes" "I" ∈ lw_tbl) (hdg : decode cc pc = .ok (.putfield index, 3)) (kk : ∀ (H1 : Heap) (locs1 : List Loc), va_P D vwCl (wC cA ad ta (sF σ 4 v)) H1 → va_D A (wC cA ad ta (sF σ 4 v)) → va_S A s.heap H1 locs1 → W p l e R s m args below meth c H1 locs1 cells slots Q (F0 m (pc + 3) ls rest)) : W p l e R s m args below meth c H locs cells slots Q (F0 m pc ls (.int v :: .ref (ad 1) :: rest)) := by
  obtain ⟨hx, hb, -, -, hown, -, hE, hK, -⟩ := X
  exact va_put hx hb (hE.use args) inG4 tyX4 tyX4_ok nmX4 hown hK hP hD hS 1 rfl rfl 6 (by decide) (hE.at args hlk) (fun _ h => h) rfl rfl rfl rfl (Nat.le_of_ble_eq_true rfl) hdg kk
theorem pC_Sig_arguments (X : Fx p s m meth c D cA A own cc nL rt) (hP : va_P D vwCl (wC cA ad ta σ) H) (hD : va_D A (wC cA ad ta σ)) (hS : va_S A s.heap H locs) (hlk : Cond.fieldLink own index "NeededTrees$Signature" "arguments" "I" ∈ lw_tbl) (hdg : decode cc pc = .ok (.putfield index, 3)) (kk : ∀ (H1 : Heap) (locs1 : List Loc), va_P D vwCl (wC cA ad ta (sF σ 3 v)) H1 → va_D A (wC cA ad ta (sF σ 3 v)) → va_S A s.heap H1 locs1 → W p l e R s m args below meth c H1 locs1 cells slots Q (F0 m (pc + 3) ls rest)) : W p l e R s m args below meth c H locs cells slots Q (F0 m pc ls (.int v :: .ref (ad 1) :: rest)) := by
  obtain ⟨hx, hb, -, -, hown, -, hE, hK, -⟩ := X
  exact va_put hx hb (hE.use args) inG4 tyX4 tyX4_ok nmX4 hown hK hP hD hS 1 rfl rfl 5 (by decide) (hE.at args hlk) (fun _ h => h) rfl rfl rfl rfl (Nat.le_of_ble_eq_true rfl) hdg kk
theorem pC_Sig_made (X : Fx p s m meth c D cA A own cc nL rt) (hP : va_P D vwCl (wC cA ad ta σ) H) (hD : va_D A (wC cA ad ta σ)) (hS : va_S A s.heap H locs) (hlk : Cond.fieldLink own index "NeededTrees$Signature" "made" "I" ∈ lw_tbl) (hdg : decode cc pc = .ok (.putfield index, 3)) (kk : ∀ (H1 : Heap) (locs1 : List Loc), va_P D vwCl (wC cA ad ta (sF σ 2 v)) H1 → va_D A (wC cA ad ta (sF σ 2 v)) → va_S A s.heap H1 locs1 → W p l e R s m args below meth c H1 locs1 cells slots Q (F0 m (pc + 3) ls rest)) : W p l e R s m args below meth c H locs cells slots Q (F0 m pc ls (.int v :: .ref (ad 1) :: rest)) := by
  obtain ⟨hx, hb, -, -, hown, -, hE, hK, -⟩ := X
  exact va_put hx hb (hE.use args) inG4 tyX4 tyX4_ok nmX4 hown hK hP hD hS 1 rfl rfl 4 (by decide) (hE.at args hlk) (fun _ h => h) rfl rfl rfl rfl (Nat.le_of_ble_eq_true rfl) hdg kk
theorem pC_Sig_types (X : Fx p s m meth c D cA A own cc nL rt) (hP : va_P D vwCl (wC cA ad ta σ) H) (hD : va_D A (wC cA ad ta σ)) (hS : va_S A s.heap H locs) (hlk : Cond.fieldLink own index "NeededTrees$Signature" "types" "I" ∈ lw_tbl) (hdg : decode cc pc = .ok (.putfield index, 3)) (kk : ∀ (H1 : Heap) (locs1 : List Loc), va_P D vwCl (wC cA ad ta (sF σ 1 v)) H1 → va_D A (wC cA ad ta (sF σ 1 v)) → va_S A s.heap H1 locs1 → W p l e R s m args below meth c H1 locs1 cells slots Q (F0 m (pc + 3) ls rest)) : W p l e R s m args below meth c H locs cells slots Q (F0 m pc ls (.int v :: .ref (ad 1) :: rest)) := by
  obtain ⟨hx, hb, -, -, hown, -, hE, hK, -⟩ := X
  exact va_put hx hb (hE.use args) inG4 tyX4 tyX4_ok nmX4 hown hK hP hD hS 1 rfl rfl 3 (by decide) (hE.at args hlk) (fun _ h => h) rfl rfl rfl rfl (Nat.le_of_ble_eq_true rfl) hdg kk
theorem pC_Ter_bindings (X : Fx p s m meth c D cA A own cc nL rt) (hP : va_P D vwCl (wC cA ad ta σ) H) (hD : va_D A (wC cA ad ta σ)) (hS : va_S A s.heap H locs) (hlk : Cond.fieldLink own index "NeededTrees$Terms" "bindings" "I" ∈ lw_tbl) (hdg : decode cc pc = .ok (.putfield index, 3)) (kk : ∀ (H1 : Heap) (locs1 : List Loc), va_P D vwCl (wC cA ad ta (sF σ 12 v)) H1 → va_D A (wC cA ad ta (sF σ 12 v)) → va_S A s.heap H1 locs1 → W p l e R s m args below meth c H1 locs1 cells slots Q (F0 m (pc + 3) ls rest)) : W p l e R s m args below meth c H locs cells slots Q (F0 m pc ls (.int v :: .ref (ad 6) :: rest)) := by
  obtain ⟨hx, hb, -, -, hown, -, hE, hK, -⟩ := X
  exact va_put hx hb (hE.use args) inG5 tyX5 tyX5_ok nmX5 hown hK hP hD hS 6 rfl rfl 9 (by decide) (hE.at args hlk) (fun _ h => h) rfl rfl rfl rfl (Nat.le_of_ble_eq_true rfl) hdg kk
theorem pC_Ter_cells (X : Fx p s m meth c D cA A own cc nL rt) (hP : va_P D vwCl (wC cA ad ta σ) H) (hD : va_D A (wC cA ad ta σ)) (hS : va_S A s.heap H locs) (hlk : Cond.fieldLink own index "NeededTrees$Terms" "cells" "I" ∈ lw_tbl) (hdg : decode cc pc = .ok (.putfield index, 3)) (kk : ∀ (H1 : Heap) (locs1 : List Loc), va_P D vwCl (wC cA ad ta (sF σ 11 v)) H1 → va_D A (wC cA ad ta (sF σ 11 v)) → va_S A s.heap H1 locs1 → W p l e R s m args below meth c H1 locs1 cells slots Q (F0 m (pc + 3) ls rest)) : W p l e R s m args below meth c H locs cells slots Q (F0 m pc ls (.int v :: .ref (ad 6) :: rest)) := by
  obtain ⟨hx, hb, -, -, hown, -, hE, hK, -⟩ := X
  exact va_put hx hb (hE.use args) inG5 tyX5 tyX5_ok nmX5 hown hK hP hD hS 6 rfl rfl 8 (by decide) (hE.at args hlk) (fun _ h => h) rfl rfl rfl rfl (Nat.le_of_ble_eq_true rfl) hdg kk
theorem pC_Ter_left (X : Fx p s m meth c D cA A own cc nL rt) (hP : va_P D vwCl (wC cA ad ta σ) H) (hD : va_D A (wC cA ad ta σ)) (hS : va_S A s.heap H locs) (hlk : Cond.fieldLink own index "NeededTrees$Terms" "left" "I" ∈ lw_tbl) (hdg : decode cc pc = .ok (.putfield index, 3)) (kk : ∀ (H1 : Heap) (locs1 : List Loc), va_P D vwCl (wC cA ad ta (sF σ 14 v)) H1 → va_D A (wC cA ad ta (sF σ 14 v)) → va_S A s.heap H1 locs1 → W p l e R s m args below meth c H1 locs1 cells slots Q (F0 m (pc + 3) ls rest)) : W p l e R s m args below meth c H locs cells slots Q (F0 m pc ls (.int v :: .ref (ad 6) :: rest)) := by
  obtain ⟨hx, hb, -, -, hown, -, hE, hK, -⟩ := X
  exact va_put hx hb (hE.use args) inG5 tyX5 tyX5_ok nmX5 hown hK hP hD hS 6 rfl rfl 11 (by decide) (hE.at args hlk) (fun _ h => h) rfl rfl rfl rfl (Nat.le_of_ble_eq_true rfl) hdg kk
theorem pC_Ter_length (X : Fx p s m meth c D cA A own cc nL rt) (hP : va_P D vwCl (wC cA ad ta σ) H) (hD : va_D A (wC cA ad ta σ)) (hS : va_S A s.heap H locs) (hlk : Cond.fieldLink own index "NeededTrees$Terms" "length" "I" ∈ lw_tbl) (hdg : decode cc pc = .ok (.putfield index, 3)) (kk : ∀ (H1 : Heap) (locs1 : List Loc), va_P D vwCl (wC cA ad ta (sF σ 13 v)) H1 → va_D A (wC cA ad ta (sF σ 13 v)) → va_S A s.heap H1 locs1 → W p l e R s m args below meth c H1 locs1 cells slots Q (F0 m (pc + 3) ls rest)) : W p l e R s m args below meth c H locs cells slots Q (F0 m pc ls (.int v :: .ref (ad 6) :: rest)) := by
  obtain ⟨hx, hb, -, -, hown, -, hE, hK, -⟩ := X
  exact va_put hx hb (hE.use args) inG5 tyX5 tyX5_ok nmX5 hown hK hP hD hS 6 rfl rfl 10 (by decide) (hE.at args hlk) (fun _ h => h) rfl rfl rfl rfl (Nat.le_of_ble_eq_true rfl) hdg kk
theorem pC_Tre_nodes (X : Fx p s m meth c D cA A own cc nL rt) (hP : va_P D vwCl (wC cA ad ta σ) H) (hD : va_D A (wC cA ad ta σ)) (hS : va_S A s.heap H locs) (hlk : Cond.fieldLink own index "NeededTrees$Tree" "nodes" "I" ∈ lw_tbl) (hdg : decode cc pc = .ok (.putfield index, 3)) (kk : ∀ (H1 : Heap) (locs1 : List Loc), va_P D vwCl (wC cA ad ta (sF σ 9 v)) H1 → va_D A (wC cA ad ta (sF σ 9 v)) → va_S A s.heap H1 locs1 → W p l e R s m args below meth c H1 locs1 cells slots Q (F0 m (pc + 3) ls rest)) : W p l e R s m args below meth c H locs cells slots Q (F0 m pc ls (.int v :: .ref (ad 4) :: rest)) := by
  obtain ⟨hx, hb, -, -, hown, -, hE, hK, -⟩ := X
  exact va_put hx hb (hE.use args) inG6 tyX6 tyX6_ok nmX6 hown hK hP hD hS 4 rfl rfl 6 (by decide) (hE.at args hlk) (fun _ h => h) rfl rfl rfl rfl (Nat.le_of_ble_eq_true rfl) hdg kk
theorem pC_Top_treeIsOld (X : Fx p s m meth c D cA A own cc nL rt) (hz : isB v = true) (hP : va_P D vwCl (wC cA ad ta σ) H) (hD : va_D A (wC cA ad ta σ)) (hS : va_S A s.heap H locs) (hlk : Cond.fieldLink own index "NeededTrees" "treeIsOld" "Z" ∈ lw_tbl) (hdg : decode cc pc = .ok (.putfield index, 3)) (kk : ∀ (H1 : Heap) (locs1 : List Loc), va_P D vwCl (wC cA ad ta (sF σ 0 v)) H1 → va_D A (wC cA ad ta (sF σ 0 v)) → va_S A s.heap H1 locs1 → W p l e R s m args below meth c H1 locs1 cells slots Q (F0 m (pc + 3) ls rest)) : W p l e R s m args below meth c H locs cells slots Q (F0 m pc ls (.int v :: .ref (ad 0) :: rest)) := by
  obtain ⟨hx, hb, -, -, hown, -, hE, hK, -⟩ := X
  exact va_put hx hb (hE.use args) inG8 tyX8 tyX8_ok nmX8 hown hK hP hD hS 0 rfl rfl 8 (by decide) (hE.at args hlk) (fun _ h => h) rfl rfl (isB_n hz) (isB_f hz) (Nat.le_of_ble_eq_true rfl) hdg kk
end ROWSC
end
section
theorem bd_x {α : Type} {x e : α} {k : α → Rs} {y : Int32 × St} (hx : x = e) (h : bd e k = some y) : k x = some y := by
  subst hx
  exact h
theorem cl_lt (x : Int32) : x.toNatClampNeg < 2 ^ 31 := by
  have h := Int32.toInt_lt x
  have h2 : x.toNatClampNeg = x.toInt.toNat := rfl
  omega
theorem cl_in {i : Int32} {n : Nat} (hn : n < 2 ^ 31) (h0 : ¬ i < 0) (h1 : ¬ nI n ≤ i) : inb i n = true := by
  simp only [inb, Bool.and_eq_true, decide_eq_true_eq]
  refine ⟨Int32.not_lt.mp h0, ?_⟩
  obtain ⟨j, hj, rfl⟩ := nI_of h0
  rw [nI_clamp hj]
  rcases Nat.lt_or_ge j n with h | h
  · exact h
  · exact absurd (nI_le h hj) h1
theorem cl_out1 {i : Int32} {n : Nat} (h0 : i < 0) : ¬ inb i n = true := by
  simp only [inb, Bool.and_eq_true, decide_eq_true_eq]
  exact fun h => absurd h.1 (Int32.not_le.mpr h0)
theorem cl_out2 {i : Int32} {n : Nat} (hn : n < 2 ^ 31) (h0 : ¬ i < 0) (h1 : nI n ≤ i) : ¬ inb i n = true := by
  simp only [inb, Bool.and_eq_true, decide_eq_true_eq]
  intro h
  obtain ⟨j, hj, rfl⟩ := nI_of h0
  rw [nI_clamp hj] at h
  exact nI_ge h.2 hn h1
/-- all places of a row the same -/
def fl (n : Nat) (f : Nat → Int32) (v : Int32) : Nat → Int32 := fun k => if k < n then v else f k
abbrev rm_X8_get : Room := { frames := 0, cells := 0, slots := 0, locals := 0 }
set_option maxHeartbeats 4000000 in
set_option maxRecDepth 100000 in
theorem c_get (l : Launch) (D : va_G) (cA : ClassId) (A : Nat → Prop) (w : Wf) (ta : Nat) (σ : St) (j a n : Nat) (f : Nat → Int32) (i : Int32) (hn : n < 2 ^ 31) (he : (w ta σ)[j]? = some (a, .inl (cA, n, .inl f))) :
    MI l D cA A w yX8_get cX8_get 2 (some .int) rm_X8_get [.ref a, .int i] ta σ (rd n f i) σ 0 0 := by
  refine enter (by decide) (Nat.le_of_ble_eq_true rfl) ?_
  intro p e s m below meth c ls X hnm hP hD hS hl
  obtain ⟨hx, hb, hr, hml, hown, hlk, hE, hK, hA⟩ := id X
  have hl : lv_has ls 2 [(0, .ref a), (1, .int i)] := hl
  refine lv_iload_n hx hb dX8_get_0 rfl (lv_at hl 1 rfl) ?_
  refine lv_if_lt (tgt := 16) hx hb dX8_get_1 (by decide) (fun c1 => ?_) (fun c1 => ?_)
  · refine lv_iconst (v := -1) hx hb dX8_get_16 (by decide) ?_
    rw [show rd n f i = -1 from if_neg (cl_out1 c1)]
    exact ret_i X hP hD hS dX8_get_17
  · refine lv_iload_n hx hb dX8_get_4 rfl (lv_at hl 1 rfl) ?_
    refine lv_aload_n hx hb dX8_get_5 rfl (lv_at hl 0 rfl) ?_
    refine va_alen (v := nI n) hx hb hK hP j 0 he rfl rfl dX8_get_6 ?_
    refine lv_icmp_ge (tgt := 16) hx hb dX8_get_7 (by decide) (fun c2 => ?_) (fun c2 => ?_)
    · refine lv_iconst (v := -1) hx hb dX8_get_16 (by decide) ?_
      rw [show rd n f i = -1 from if_neg (cl_out2 hn c1 c2)]
      exact ret_i X hP hD hS dX8_get_17
    · refine lv_aload_n hx hb dX8_get_10 rfl (lv_at hl 0 rfl) ?_
      refine lv_iload_n hx hb dX8_get_11 rfl (lv_at hl 1 rfl) ?_
      refine va_iald hx hb hK hP j 0 he rfl (inb_in (cl_in hn c1 c2)) dX8_get_12 ?_
      refine lv_goto (tgt := 17) hx hb dX8_get_13 (by decide) ?_
      rw [show rd n f i = f i.toNatClampNeg from if_pos (cl_in hn c1 c2)]
      exact ret_i X hP hD hS dX8_get_17
abbrev rm_X8_set : Room := { frames := 0, cells := 0, slots := 0, locals := 0 }
set_option maxHeartbeats 4000000 in
set_option maxRecDepth 100000 in
theorem c_set (l : Launch) (D : va_G) (cA : ClassId) (A : Nat → Prop) (w : Wf) (ta : Nat) (σ : St) (j a n k : Nat) (i v : Int32) (hn : n < 2 ^ 31) (he : (w ta σ)[j]? = some (a, .inl (cA, n, .inl (gA σ k)))) (hs : ∀ f, (w ta σ).set j (a, .inl (cA, n, .inl f)) = w ta (sA σ k f)) :
    MV l D cA A w yX8_set cX8_set 3 none rm_X8_set [.ref a, .int i, .int v] ta σ (sA σ k (wr n (gA σ k) i v)) 0 0 := by
  have h0 : w ta (sA σ k (gA σ k)) = w ta σ := by
    rw [← hs]
    exact List.ext_getElem? fun q => by
      by_cases hq : q = j
      · subst hq
        rw [List.getElem?_set_self (List.getElem?_eq_some_iff.mp he).1, he]
      · rw [List.getElem?_set_ne (Ne.symm hq)]
  refine enter (by decide) (Nat.le_of_ble_eq_true rfl) ?_
  intro p e s m below meth c ls X hnm hP hD hS hl
  obtain ⟨hx, hb, hr, hml, hown, hlk, hE, hK, hA⟩ := id X
  have hl : lv_has ls 3 [(0, .ref a), (1, .int i), (2, .int v)] := hl
  refine lv_iload_n hx hb dX8_set_0 rfl (lv_at hl 1 rfl) ?_
  refine lv_if_lt (tgt := 14) hx hb dX8_set_1 (by decide) (fun c1 => ?_) (fun c1 => ?_)
  · rw [show wr n (gA σ k) i v = gA σ k from if_neg (cl_out1 c1)]
    exact ret_v (w := w) (ta := ta) X (by rw [h0]; exact hP) (by rw [h0]; exact hD) hS dX8_set_14
  · refine lv_iload_n hx hb dX8_set_4 rfl (lv_at hl 1 rfl) ?_
    refine lv_aload_n hx hb dX8_set_5 rfl (lv_at hl 0 rfl) ?_
    refine va_alen (v := nI n) hx hb hK hP j 0 he rfl rfl dX8_set_6 ?_
    refine lv_icmp_ge (tgt := 14) hx hb dX8_set_7 (by decide) (fun c2 => ?_) (fun c2 => ?_)
    · rw [show wr n (gA σ k) i v = gA σ k from if_neg (cl_out2 hn c1 c2)]
      exact ret_v (w := w) (ta := ta) X (by rw [h0]; exact hP) (by rw [h0]; exact hD) hS dX8_set_14
    · refine lv_aload_n hx hb dX8_set_10 rfl (lv_at hl 0 rfl) ?_
      refine lv_iload_n hx hb dX8_set_11 rfl (lv_at hl 1 rfl) ?_
      refine lv_iload_n hx hb dX8_set_12 rfl (lv_at hl 2 rfl) ?_
      refine va_iast hx hb hK hP hD hS j 0 he rfl (inb_in (cl_in hn c1 c2)) dX8_set_13 (fun H locs hP hD hS => ?_)
      rw [hs] at hP hD
      rw [show wr n (gA σ k) i v = upd (gA σ k) i.toNatClampNeg v from if_pos (cl_in hn c1 c2)]
      exact ret_v X hP hD hS dX8_set_14
abbrev rm_J7_fill_53178 : Room := { frames := 0, cells := 0, slots := 0, locals := 0 }
theorem fl_0 (n : Nat) (f : Nat → Int32) (v : Int32) (i : Nat) (h : n ≤ i) : (fun k => if k < i ∧ k < n then v else f k) = fl n f v := by
  funext k
  unfold fl
  by_cases hk : k < n
  · rw [if_pos hk, if_pos ⟨by omega, hk⟩]
  · rw [if_neg hk, if_neg (fun q => hk q.2)]
theorem fl_s (n : Nat) (f : Nat → Int32) (v : Int32) (i : Nat) (h : i < n) : upd (fun k => if k < i ∧ k < n then v else f k) i v = (fun k => if k < i + 1 ∧ k < n then v else f k) := by
  funext k
  unfold upd
  by_cases hk : k = i
  · subst hk
    rw [if_pos rfl, if_pos ⟨by omega, h⟩]
  · rw [if_neg hk]
    dsimp only
    by_cases h2 : k < i ∧ k < n
    · rw [if_pos h2, if_pos ⟨by omega, h2.2⟩]
    · rw [if_neg h2, if_neg (fun q => h2 ⟨by omega, q.2⟩)]
section FILL
variable {p : Program} {l : Launch} {e : Env} {s : State} {m : MethodId} {args : Array Value} {below : List Frame} {meth : Method} {c : Code}
variable {D : va_G} {cA : ClassId} {A : Nat → Prop}
set_option maxHeartbeats 4000000 in
set_option maxRecDepth 100000 in
theorem t_fill (w : Wf) (ta : Nat) (σ : St) (j a n k : Nat) (v : Int32) (hn : n < 2 ^ 31) (he : ∀ f, (w ta (sA σ k f))[j]? = some (a, .inl (cA, n, .inl f))) (hs : ∀ g f, (w ta (sA σ k g)).set j (a, .inl (cA, n, .inl f)) = w ta (sA σ k f))
    (X : Fx p s m meth c D cA A RJ7 cJ7_fill_53178 4 none) : ∀ (d i : Nat) (H : Heap) (locs : List Loc) (ls : Array Slot), i + d = n → va_P D vwCl (w ta (sA σ k (fun q => if q < i ∧ q < n then v else gA σ k q))) H → va_D A (w ta (sA σ k (fun q => if q < i ∧ q < n then v else gA σ k q))) → va_S A s.heap H locs → lv_has ls 4 [(0, .ref a), (1, .int v), (2, .int (nI i)), (3, .int (nI n))] →
      W p l e rm_J7_fill_53178 s m args below meth c H locs 0 0 (MQ below (QV D cA A w (sA σ k (fl n (gA σ k) v))) args s 0 0 A) (F0 m 5 ls []) := by
  obtain ⟨hx, hb, hr, hml, hown, hlk, hE, hK, hA⟩ := id X
  intro d
  induction d with
  | zero =>
    intro i H locs ls hi hP hD hS hl
    refine lv_iload_n hx hb dJ7_fill_53178_5 rfl (lv_at hl 2 rfl) ?_
    refine lv_iload_n hx hb dJ7_fill_53178_6 rfl (lv_at hl 3 rfl) ?_
    refine lv_icmp_ge (tgt := 20) hx hb dJ7_fill_53178_7 (by decide) (fun c1 => ?_) (fun c1 => absurd (nI_le (by omega) (by omega)) c1)
    rw [fl_0 n (gA σ k) v i (by omega)] at hP hD
    exact ret_v X hP hD hS dJ7_fill_53178_20
  | succ d ih =>
    intro i H locs ls hi hP hD hS hl
    refine lv_iload_n hx hb dJ7_fill_53178_5 rfl (lv_at hl 2 rfl) ?_
    refine lv_iload_n hx hb dJ7_fill_53178_6 rfl (lv_at hl 3 rfl) ?_
    refine lv_icmp_ge (tgt := 20) hx hb dJ7_fill_53178_7 (by decide) (fun c1 => absurd c1 (nI_ge (by omega) hn)) (fun c1 => ?_)
    refine lv_aload_n hx hb dJ7_fill_53178_10 rfl (lv_at hl 0 rfl) ?_
    refine lv_iload_n hx hb dJ7_fill_53178_11 rfl (lv_at hl 2 rfl) ?_
    refine lv_iload_n hx hb dJ7_fill_53178_12 rfl (lv_at hl 1 rfl) ?_
    refine va_iast hx hb hK hP hD hS j 0 (he _) rfl (vp_in_nI (by omega) hn) dJ7_fill_53178_13 (fun H locs hP hD hS => ?_)
    rw [hs, nI_clamp (by omega), fl_s n (gA σ k) v i (by omega)] at hP hD
    refine lv_iinc (v := nI (i + 1)) (lv' := [(2, .int (nI (i + 1))), (0, .ref a), (1, .int v), (3, .int (nI n))]) hx hb dJ7_fill_53178_14 hl (k := 2) rfl (nI_1 i) (by decide) rfl (fun ls hl => ?_)
    refine lv_goto (tgt := 5) hx hb dJ7_fill_53178_17 (by decide) ?_
    exact ih (i + 1) _ _ _ (by omega) hP hD hS (lv_sub hl [1, 2, 0, 3] rfl)
end FILL
set_option maxHeartbeats 4000000 in
set_option maxRecDepth 100000 in
theorem c_fill (l : Launch) (D : va_G) (cA : ClassId) (A : Nat → Prop) (w : Wf) (ta : Nat) (σ : St) (j a n k : Nat) (v : Int32) (hn : n < 2 ^ 31) (he : ∀ f, (w ta (sA σ k f))[j]? = some (a, .inl (cA, n, .inl f))) (hs : ∀ g f, (w ta (sA σ k g)).set j (a, .inl (cA, n, .inl f)) = w ta (sA σ k f)) (h0 : sA σ k (gA σ k) = σ) :
    MV l D cA A w yJ7_fill_53178 cJ7_fill_53178 4 none rm_J7_fill_53178 [.ref a, .int v] ta σ (sA σ k (fl n (gA σ k) v)) 0 0 := by
  refine enter (by decide) (Nat.le_of_ble_eq_true rfl) ?_
  intro p e s m below meth c ls X hnm hP hD hS hl
  obtain ⟨hx, hb, hr, hml, hown, hlk, hE, hK, hA⟩ := id X
  have hl : lv_has ls 4 [(0, .ref a), (1, .int v)] := hl
  have he0 := he (gA σ k)
  rw [h0] at he0
  refine lv_iconst (v := 0) hx hb dJ7_fill_53178_0 (by decide) ?_
  refine lv_istore_n (lv' := [(2, .int 0), (0, .ref a), (1, .int v)]) hx hb dJ7_fill_53178_1 rfl hl (by decide) rfl (fun ls hl => ?_)
  refine lv_aload_n hx hb dJ7_fill_53178_2 rfl (lv_at hl 1 rfl) ?_
  refine va_alen (v := nI n) hx hb hK hP j 0 he0 rfl rfl dJ7_fill_53178_3 ?_
  refine lv_istore_n (lv' := [(3, .int (nI n)), (2, .int 0), (0, .ref a), (1, .int v)]) hx hb dJ7_fill_53178_4 rfl hl (by decide) rfl (fun ls hl => ?_)
  have hq : (fun q => if q < 0 ∧ q < n then v else gA σ k q) = gA σ k := by
    funext q
    rw [if_neg (fun z => absurd z.1 (Nat.not_lt_zero q))]
  exact t_fill w ta σ j a n k v hn he hs X n 0 _ _ _ (by omega) (by rw [hq, h0]; exact hP) (by rw [hq, h0]; exact hD) hS (lv_sub hl [2, 3, 1, 0] rfl)
theorem sA_gA (σ : St) (k : Nat) : sA σ k (gA σ k) = σ := by
  obtain ⟨a, b⟩ := σ
  show (a, va_up b k (b k)) = (a, b)
  congr 1
  funext j
  unfold va_up
  split
  · next h => rw [h]
  · rfl
end
section
theorem cv_X0_clear : Cv yX0_clear RX0 cX0_clear 1 none 0 := ⟨kw352, kw8, kw351, ks_X0_clear, by decide, by decide +kernel⟩
theorem cv_X0_add : Cv yX0_add RX0 cX0_add 5 none 4 := ⟨kw587, kw8, kw586, ks_X0_add, by decide, by decide +kernel⟩
theorem cv_X0_answer : Cv yX0_answer RX0 cX0_answer 4 (some .int) 2 := ⟨kw605, kw8, kw604, ks_X0_answer, by decide, by decide +kernel⟩
theorem cv_X1_plant : Cv yX1_plant RX1 cX1_plant 2 none 0 := ⟨kw460, kw6, kw459, ks_X1_plant, by decide, by decide +kernel⟩
theorem cv_X1_await : Cv yX1_await RX1 cX1_await 4 none 3 := ⟨kw473, kw6, kw472, ks_X1_await, by decide, by decide +kernel⟩
theorem cv_X1_grow : Cv yX1_grow RX1 cX1_grow 7 none 3 := ⟨kw479, kw6, kw478, ks_X1_grow, by decide, by decide +kernel⟩
theorem cv_X1_takePosition : Cv yX1_takePosition RX1 cX1_takePosition 6 (some .int) 1 := ⟨kw483, kw6, kw482, ks_X1_takePosition, by decide, by decide +kernel⟩
theorem cv_X1_startCursors : Cv yX1_startCursors RX1 cX1_startCursors 3 none 1 := ⟨kw496, kw6, kw495, ks_X1_startCursors, by decide, by decide +kernel⟩
theorem cv_X1_enter : Cv yX1_enter RX1 cX1_enter 3 none 1 := ⟨kw508, kw6, kw507, ks_X1_enter, by decide, by decide +kernel⟩
theorem cv_X1_pass : Cv yX1_pass RX1 cX1_pass 3 none 1 := ⟨kw520, kw6, kw519, ks_X1_pass, by decide, by decide +kernel⟩
theorem cv_X1_needing : Cv yX1_needing RX1 cX1_needing 4 (some .int) 1 := ⟨kw512, kw6, kw511, ks_X1_needing, by decide, by decide +kernel⟩
theorem cv_X1_ask : Cv yX1_ask RX1 cX1_ask 7 none 2 := ⟨kw524, kw6, kw523, ks_X1_ask, by decide, by decide +kernel⟩
theorem cv_X1_lastConstructor : Cv yX1_lastConstructor RX1 cX1_lastConstructor 4 (some .int) 1 := ⟨kw528, kw6, kw527, ks_X1_lastConstructor, by decide, by decide +kernel⟩
theorem cv_X1_having : Cv yX1_having RX1 cX1_having 5 (some .int) 2 := ⟨kw535, kw6, kw534, ks_X1_having, by decide, by decide +kernel⟩
theorem cv_X1_partByNeed : Cv yX1_partByNeed RX1 cX1_partByNeed 7 none 3 := ⟨kw544, kw6, kw543, ks_X1_partByNeed, by decide, by decide +kernel⟩
theorem cv_X1_partEach : Cv yX1_partEach RX1 cX1_partEach 4 none 2 := ⟨kw548, kw6, kw547, ks_X1_partEach, by decide, by decide +kernel⟩
theorem cs_X1_firstOf : Cs yX1_firstOf cX1_firstOf 1 (some .int) 1 := ⟨kw486, kw6, kw485, by decide, by decide +kernel⟩
theorem cv_X2_add : Cv yX2_add RX2 cX2_add 2 (some .int) 1 := ⟨kw372, kw3, kw371, ks_X2_add, by decide, by decide +kernel⟩
theorem cv_X2_take : Cv yX2_take RX2 cX2_take 2 (some .int) 0 := ⟨kw381, kw3, kw380, ks_X2_take, by decide, by decide +kernel⟩
theorem cv_X2_firstWrong : Cv yX2_firstWrong RX2 cX2_firstWrong 6 (some .int) 3 := ⟨kw400, kw3, kw399, ks_X2_firstWrong, by decide, by decide +kernel⟩
theorem cv_X2_isWhole : Cv yX2_isWhole RX2 cX2_isWhole 2 (some .boolean) 1 := ⟨kw407, kw3, kw406, ks_X2_isWhole, by decide, by decide +kernel⟩
theorem cv_X2_holding : Cv yX2_holding RX2 cX2_holding 1 (some .int) 0 := ⟨kw416, kw3, kw415, ks_X2_holding, by decide, by decide +kernel⟩
theorem cv_X2_fits : Cv yX2_fits RX2 cX2_fits 6 (some .boolean) 4 := ⟨kw425, kw3, kw424, ks_X2_fits, by decide, by decide +kernel⟩
theorem cv_X2_hang : Cv yX2_hang RX2 cX2_hang 2 none 1 := ⟨kw433, kw3, kw432, ks_X2_hang, by decide, by decide +kernel⟩
theorem cv_X2_closeWhole : Cv yX2_closeWhole RX2 cX2_closeWhole 4 none 2 := ⟨kw437, kw3, kw436, ks_X2_closeWhole, by decide, by decide +kernel⟩
theorem cv_X3_clear : Cv yX3_clear RX3 cX3_clear 1 none 0 := ⟨kw364, kw4, kw363, ks_X3_clear, by decide, by decide +kernel⟩
theorem cv_X3_hasRoom : Cv yX3_hasRoom RX3 cX3_hasRoom 2 (some .boolean) 1 := ⟨kw389, kw4, kw388, ks_X3_hasRoom, by decide, by decide +kernel⟩
theorem cv_X3_start : Cv yX3_start RX3 cX3_start 2 (some .int) 1 := ⟨kw393, kw4, kw392, ks_X3_start, by decide, by decide +kernel⟩
theorem cv_X3_add : Cv yX3_add RX3 cX3_add 6 (some .int) 2 := ⟨kw441, kw4, kw440, ks_X3_add, by decide, by decide +kernel⟩
theorem cv_X3_forgetAsked : Cv yX3_forgetAsked RX3 cX3_forgetAsked 1 none 0 := ⟨kw468, kw4, kw467, ks_X3_forgetAsked, by decide, by decide +kernel⟩
theorem cv_X3_isAsked : Cv yX3_isAsked RX3 cX3_isAsked 2 (some .boolean) 1 := ⟨kw504, kw4, kw503, ks_X3_isAsked, by decide, by decide +kernel⟩
theorem cv_X3_isVariable : Cv yX3_isVariable RX3 cX3_isVariable 2 (some .boolean) 1 := ⟨kw516, kw4, kw515, ks_X3_isVariable, by decide, by decide +kernel⟩
theorem cv_X3_meet : Cv yX3_meet RX3 cX3_meet 6 (some .boolean) 2 := ⟨kw658, kw4, kw657, ks_X3_meet, by decide, by decide +kernel⟩
theorem cv_X3_placesTo : Cv yX3_placesTo RX3 cX3_placesTo 5 (some .int) 1 := ⟨kw627, kw4, kw626, ks_X3_placesTo, by decide, by decide +kernel⟩
theorem cv_X3_placeOnWay : Cv yX3_placeOnWay RX3 cX3_placeOnWay 5 (some .int) 2 := ⟨kw631, kw4, kw630, ks_X3_placeOnWay, by decide, by decide +kernel⟩
theorem cv_X4_addType : Cv yX4_addType RX4 cX4_addType 1 (some .int) 0 := ⟨kw330, kw2, kw329, ks_X4_addType, by decide, by decide +kernel⟩
theorem cv_X4_addConstructor : Cv yX4_addConstructor RX4 cX4_addConstructor 4 (some .int) 3 := ⟨kw338, kw2, kw337, ks_X4_addConstructor, by decide, by decide +kernel⟩
theorem cv_X4_setFunction : Cv yX4_setFunction RX4 cX4_setFunction 3 (some .boolean) 2 := ⟨kw360, kw2, kw359, ks_X4_setFunction, by decide, by decide +kernel⟩
theorem cv_X4_hasFunction : Cv yX4_hasFunction RX4 cX4_hasFunction 1 (some .boolean) 0 := ⟨kw385, kw2, kw384, ks_X4_hasFunction, by decide, by decide +kernel⟩
theorem cv_X4_areTypes : Cv yX4_areTypes RX4 cX4_areTypes 4 (some .boolean) 2 := ⟨kw342, kw2, kw341, ks_X4_areTypes, by decide, by decide +kernel⟩
theorem cv_X4_typeOf : Cv yX4_typeOf RX4 cX4_typeOf 2 (some .int) 1 := ⟨kw429, kw2, kw428, ks_X4_typeOf, by decide, by decide +kernel⟩
theorem cv_X4_parts : Cv yX4_parts RX4 cX4_parts 2 (some .int) 1 := ⟨kw411, kw2, kw410, ks_X4_parts, by decide, by decide +kernel⟩
theorem cv_X4_wanted : Cv yX4_wanted RX4 cX4_wanted 3 (some .int) 2 := ⟨kw421, kw2, kw420, ks_X4_wanted, by decide, by decide +kernel⟩
theorem cv_X4_constructorsOf : Cv yX4_constructorsOf RX4 cX4_constructorsOf 4 (some .int) 1 := ⟨kw650, kw2, kw649, ks_X4_constructorsOf, by decide, by decide +kernel⟩
theorem cs_X4_unpack : Cs yX4_unpack cX4_unpack 2 (some .int) 2 := ⟨kw345, kw2, kw344, by decide, by decide +kernel⟩
theorem cv_X5_load : Cv yX5_load RX5 cX5_load 6 none 2 := ⟨kw450, kw7, kw449, ks_X5_load, by decide, by decide +kernel⟩
theorem cv_X5_meant : Cv yX5_meant RX5 cX5_meant 3 (some .int) 1 := ⟨kw583, kw7, kw582, ks_X5_meant, by decide, by decide +kernel⟩
theorem cv_X5_isFree : Cv yX5_isFree RX5 cX5_isFree 2 (some .boolean) 1 := ⟨kw566, kw7, kw565, ks_X5_isFree, by decide, by decide +kernel⟩
theorem cv_X5_part : Cv yX5_part RX5 cX5_part 5 (some .int) 2 := ⟨kw579, kw7, kw578, ks_X5_part, by decide, by decide +kernel⟩
theorem cv_X5_bind : Cv yX5_bind RX5 cX5_bind 5 none 2 := ⟨kw570, kw7, kw569, ks_X5_bind, by decide, by decide +kernel⟩
theorem cv_X5_unbindTo : Cv yX5_unbindTo RX5 cX5_unbindTo 4 none 1 := ⟨kw561, kw7, kw560, ks_X5_unbindTo, by decide, by decide +kernel⟩
theorem cv_X5_write : Cv yX5_write RX5 cX5_write 7 none 2 := ⟨kw592, kw7, kw591, ks_X5_write, by decide, by decide +kernel⟩
theorem cv_X5_leave : Cv yX5_leave RX5 cX5_leave 5 none 2 := ⟨kw597, kw7, kw596, ks_X5_leave, by decide, by decide +kernel⟩
theorem cv_X6_clear : Cv yX6_clear RX6 cX6_clear 1 none 0 := ⟨kw464, kw5, kw463, ks_X6_clear, by decide, by decide +kernel⟩
theorem cv_X6_add : Cv yX6_add RX6 cX6_add 6 none 5 := ⟨kw539, kw5, kw538, ks_X6_add, by decide, by decide +kernel⟩
theorem cv_X6_answer : Cv yX6_answer RX6 cX6_answer 5 (some .int) 3 := ⟨kw618, kw5, kw617, ks_X6_answer, by decide, by decide +kernel⟩
theorem cv_X6_places : Cv yX6_places RX6 cX6_places 3 (some .int) 2 := ⟨kw623, kw5, kw622, ks_X6_places, by decide, by decide +kernel⟩
theorem cv_X6_howMany : Cv yX6_howMany RX6 cX6_howMany 4 (some .int) 1 := ⟨kw667, kw5, kw666, ks_X6_howMany, by decide, by decide +kernel⟩
theorem cv_X6_deepest : Cv yX6_deepest RX6 cX6_deepest 3 (some .int) 0 := ⟨kw671, kw5, kw670, ks_X6_deepest, by decide, by decide +kernel⟩
theorem cv_X6_coversAll : Cv yX6_coversAll RX6 cX6_coversAll 6 (some .boolean) 2 := ⟨kw640, kw5, kw639, ks_X6_coversAll, by decide, by decide +kernel⟩
theorem cv_X6_coversWith : Cv yX6_coversWith RX6 cX6_coversWith 6 (some .boolean) 4 := ⟨kw645, kw5, kw644, ks_X6_coversWith, by decide, by decide +kernel⟩
theorem cv_X7_reachesAll : Cv yX7_reachesAll RX7 cX7_reachesAll 4 (some .boolean) 0 := ⟨kw552, kw9, kw551, ks_X7_reachesAll, by decide, by decide +kernel⟩
theorem cv_X7_comesTo : Cv yX7_comesTo RX7 cX7_comesTo 5 (some .boolean) 2 := ⟨kw557, kw9, kw556, ks_X7_comesTo, by decide, by decide +kernel⟩
theorem cv_X7_ask : Cv yX7_ask RX7 cX7_ask 6 none 2 := ⟨kw575, kw9, kw574, ks_X7_ask, by decide, by decide +kernel⟩
theorem cv_X8_type : Cv yX8_type RX8 cX8_type 1 (some .int) 0 := ⟨kw326, kw1, kw324, kw325, by decide, by decide +kernel⟩
theorem cv_X8_constructor : Cv yX8_constructor RX8 cX8_constructor 5 (some .int) 3 := ⟨kw334, kw1, kw332, kw333, by decide, by decide +kernel⟩
theorem cv_X8_begin : Cv yX8_begin RX8 cX8_begin 3 (some .boolean) 2 := ⟨kw356, kw1, kw354, kw355, by decide, by decide +kernel⟩
theorem cv_X8_put : Cv yX8_put RX8 cX8_put 2 (some .int) 1 := ⟨kw368, kw1, kw366, kw367, by decide, by decide +kernel⟩
theorem cv_X8_rule : Cv yX8_rule RX8 cX8_rule 4 (some .int) 0 := ⟨kw377, kw1, kw375, kw376, by decide, by decide +kernel⟩
theorem cv_X8_lead : Cv yX8_lead RX8 cX8_lead 3 (some .int) 0 := ⟨kw446, kw1, kw444, kw445, by decide, by decide +kernel⟩
theorem cv_X8_outcome : Cv yX8_outcome RX8 cX8_outcome 3 (some .int) 2 := ⟨kw601, kw1, kw599, kw600, by decide, by decide +kernel⟩
theorem cv_X8_size : Cv yX8_size RX8 cX8_size 1 (some .int) 0 := ⟨kw610, kw1, kw608, kw609, by decide, by decide +kernel⟩
theorem cv_X8_node : Cv yX8_node RX8 cX8_node 3 (some .int) 2 := ⟨kw614, kw1, kw612, kw613, by decide, by decide +kernel⟩
theorem cv_X8_covers : Cv yX8_covers RX8 cX8_covers 1 (some .boolean) 0 := ⟨kw636, kw1, kw634, kw635, by decide, by decide +kernel⟩
theorem cv_X8_clash : Cv yX8_clash RX8 cX8_clash 3 (some .boolean) 2 := ⟨kw654, kw1, kw652, kw653, by decide, by decide +kernel⟩
theorem cv_X8_count : Cv yX8_count RX8 cX8_count 2 (some .int) 1 := ⟨kw663, kw1, kw661, kw662, by decide, by decide +kernel⟩
theorem cv_X8_refreshTree : Cv yX8_refreshTree RX8 cX8_refreshTree 1 none 0 := ⟨kw456, kw1, kw455, ks_X8_refreshTree, by decide, by decide +kernel⟩
theorem cs_X8_get : Cs yX8_get cX8_get 2 (some .int) 2 := ⟨kw396, kw1, kw395, by decide, by decide +kernel⟩
theorem cs_X8_set : Cs yX8_set cX8_set 3 none 3 := ⟨kw348, kw1, kw347, by decide, by decide +kernel⟩
theorem cs_X8_has : Cs yX8_has cX8_has 2 (some .boolean) 2 := ⟨kw499, kw1, kw498, by decide, by decide +kernel⟩
theorem cs_X9_typeOf : Cs yX9_typeOf cX9_typeOf 2 (some .int) 2 := ⟨kw871, kw10, kw870, by decide, by decide +kernel⟩
theorem cv_X9_areTypes : Cv yX9_areTypes RX9 cX9_areTypes 4 (some .boolean) 2 := ⟨kw868, kw10, kw867, ks_X9_areTypes, by decide, by decide +kernel⟩
theorem cv_X9_type : Cv yX9_type RX9 cX9_type 1 (some .int) 0 := ⟨kw860, kw10, kw858, kw859, by decide, by decide +kernel⟩
theorem cv_X9_constructor : Cv yX9_constructor RX9 cX9_constructor 4 (some .int) 3 := ⟨kw864, kw10, kw862, kw863, by decide, by decide +kernel⟩
theorem cv_X9_begin : Cv yX9_begin RX9 cX9_begin 3 (some .boolean) 2 := ⟨kw875, kw10, kw873, kw874, by decide, by decide +kernel⟩
theorem cv_X9_put : Cv yX9_put RX9 cX9_put 2 (some .int) 1 := ⟨kw919, kw10, kw917, kw918, by decide, by decide +kernel⟩
theorem cv_X9_want : Cv yX9_want RX9 cX9_want 5 none 3 := ⟨kw931, kw10, kw930, ks_X9_want, by decide, by decide +kernel⟩
theorem cv_X9_wrong : Cv yX9_wrong RX9 cX9_wrong 3 (some .int) 1 := ⟨kw927, kw10, kw926, ks_X9_wrong, by decide, by decide +kernel⟩
theorem cv_X9_fits : Cv yX9_fits RX9 cX9_fits 6 (some .boolean) 3 := ⟨kw935, kw10, kw934, ks_X9_fits, by decide, by decide +kernel⟩
theorem cv_X9_rule : Cv yX9_rule RX9 cX9_rule 6 (some .int) 0 := ⟨kw923, kw10, kw921, kw922, by decide, by decide +kernel⟩
theorem cv_X9_openAll : Cv yX9_openAll RX9 cX9_openAll 4 none 0 := ⟨kw883, kw10, kw882, ks_X9_openAll, by decide, by decide +kernel⟩
theorem cv_X9_there : Cv yX9_there RX9 cX9_there 3 (some .int) 2 := ⟨kw894, kw10, kw893, ks_X9_there, by decide, by decide +kernel⟩
theorem cv_X9_those : Cv yX9_those RX9 cX9_those 7 (some .int) 4 := ⟨kw903, kw10, kw902, ks_X9_those, by decide, by decide +kernel⟩
theorem cv_X9_take : Cv yX9_take RX9 cX9_take 9 none 4 := ⟨kw907, kw10, kw906, ks_X9_take, by decide, by decide +kernel⟩
theorem cv_X9_putBack : Cv yX9_putBack RX9 cX9_putBack 8 none 4 := ⟨kw911, kw10, kw910, ks_X9_putBack, by decide, by decide +kernel⟩
theorem cv_X9_needed : Cv yX9_needed RX9 cX9_needed 7 (some .int) 2 := ⟨kw890, kw10, kw889, ks_X9_needed, by decide, by decide +kernel⟩
theorem cv_X9_run : Cv yX9_run RX9 cX9_run 6 (some .int) 3 := ⟨kw915, kw10, kw914, ks_X9_run, by decide, by decide +kernel⟩
theorem cv_X9_lay : Cv yX9_lay RX9 cX9_lay 1 none 0 := ⟨kw879, kw10, kw878, ks_X9_lay, by decide, by decide +kernel⟩
theorem cv_X9_node : Cv yX9_node RX9 cX9_node 5 (some .int) 4 := ⟨kw898, kw10, kw897, ks_X9_node, by decide, by decide +kernel⟩
theorem cs_X9_laid : Cs yX9_laid cX9_laid 14 (some .boolean) 5 := ⟨kw886, kw10, kw885, by decide, by decide +kernel⟩
theorem cv_X9_newCells : Cv yX9_newCells RX9 cX9_newCells 2 (some .int) 1 := ⟨kw947, kw10, kw946, ks_X9_newCells, by decide, by decide +kernel⟩
theorem cv_X9_read : Cv yX9_read RX9 cX9_read 5 none 0 := ⟨kw943, kw10, kw942, ks_X9_read, by decide, by decide +kernel⟩
theorem cv_X9_here : Cv yX9_here RX9 cX9_here 3 (some .int) 1 := ⟨kw962, kw10, kw961, ks_X9_here, by decide, by decide +kernel⟩
theorem cv_X9_lead : Cv yX9_lead RX9 cX9_lead 2 (some .int) 0 := ⟨kw939, kw10, kw937, kw938, by decide, by decide +kernel⟩
theorem cv_X9_go : Cv yX9_go RX9 cX9_go 3 none 1 := ⟨kw951, kw10, kw950, ks_X9_go, by decide, by decide +kernel⟩
theorem cs_X9_led : Cs yX9_led cX9_led 13 none 3 := ⟨kw954, kw10, kw953, by decide, by decide +kernel⟩
theorem cv_X9_grown : Cv yX9_grown RX9 cX9_grown 4 (some .int) 1 := ⟨kw966, kw10, kw965, ks_X9_grown, by decide, by decide +kernel⟩
theorem cv_X9_shift : Cv yX9_shift RX9 cX9_shift 6 none 3 := ⟨kw970, kw10, kw969, ks_X9_shift, by decide, by decide +kernel⟩
theorem cv_X9_shiftBack : Cv yX9_shiftBack RX9 cX9_shiftBack 5 none 3 := ⟨kw974, kw10, kw973, ks_X9_shiftBack, by decide, by decide +kernel⟩
theorem cv_X9_comes : Cv yX9_comes RX9 cX9_comes 7 none 1 := ⟨kw958, kw10, kw957, ks_X9_comes, by decide, by decide +kernel⟩
theorem cv_X9_outcome : Cv yX9_outcome RX9 cX9_outcome 3 (some .int) 2 := ⟨kw978, kw10, kw976, kw977, by decide, by decide +kernel⟩
theorem cv_X9_size : Cv yX9_size RX9 cX9_size 1 (some .int) 0 := ⟨kw982, kw10, kw980, kw981, by decide, by decide +kernel⟩
theorem cv_X9_places : Cv yX9_places RX9 cX9_places 5 (some .int) 2 := ⟨kw990, kw10, kw989, ks_X9_places, by decide, by decide +kernel⟩
theorem cv_X9_node_ : Cv yX9_node_ RX9 cX9_node_ 6 (some .int) 2 := ⟨kw986, kw10, kw984, kw985, by decide, by decide +kernel⟩
theorem cv_X9_covers : Cv yX9_covers RX9 cX9_covers 1 (some .boolean) 0 := ⟨kw994, kw10, kw992, kw993, by decide, by decide +kernel⟩
theorem cv_X9_clash : Cv yX9_clash RX9 cX9_clash 8 (some .boolean) 2 := ⟨kw998, kw10, kw996, kw997, by decide, by decide +kernel⟩
theorem cv_X9_count : Cv yX9_count RX9 cX9_count 2 (some .int) 1 := ⟨kw1002, kw10, kw1000, kw1001, by decide, by decide +kernel⟩
theorem cs_J6_bitCount_0f7a4 : Cs yJ6_bitCount_0f7a4 cJ6_bitCount_0f7a4 1 (some .int) 1 := ⟨kw489, kw13, kw488, by decide, by decide +kernel⟩
theorem cs_J9_max_7cf53 : Cs yJ9_max_7cf53 cJ9_max_7cf53 2 (some .int) 2 := ⟨kw531, kw11, kw530, by decide, by decide +kernel⟩
theorem cs_J7_fill_53178 : Cs yJ7_fill_53178 cJ7_fill_53178 4 none 2 := ⟨kw403, kw12, kw402, by decide, by decide +kernel⟩
end
section
abbrev rm_X4_addType : Room := { frames := 0, cells := 0, slots := 0, locals := 0 }
def F_X4_addType  (σ : St) : Rs :=
  if (gF σ 1) < 12 then (bd (sF σ 1 ((gF σ 1) + 1)) (fun s2 => some (((gF s2 1) - 1), s2))) else (some ((-1), σ))
section S_X4_addType
variable {p : Program} {l : Launch} {e : Env} {s : State} {m : MethodId} {args : Array Value} {below : List Frame} {meth : Method} {c : Code}
variable {D : va_G} {cA : ClassId} {A : Nat → Prop} {ad : Nat → Nat} {r : Int32} {σ' : St}
set_option maxHeartbeats 4000000 in
set_option maxRecDepth 100000 in
theorem t_X4_addType_0  (X : Fx p s m meth c D cA A RX4 cX4_addType 1 (some .int))  { σ : St} {ta : Nat} {H : Heap} {locs : List Loc} {ls : Array Slot} (hf : F_X4_addType σ = some (r, σ')) (hP : va_P D vwCl (wC cA ad ta σ) H) (hD : va_D A (wC cA ad ta σ)) (hS : va_S A s.heap H locs) (hl : lv_has ls 1 [(0, .ref (ad 1))]) : W p l e (rm_X4_addType) s m args below meth c H locs 0 0 (MQ below (QI D cA A (wC cA ad) r σ') args s 0 0 A) (F0 m 0 ls []) := by
  obtain ⟨hx, hb, hr, hml, hown, hlk, hE, hK, hA⟩ := id X
  rw [F_X4_addType] at hf
  refine lv_aload_n hx hb dX4_addType_0 rfl (lv_at hl 0 rfl) ?_
  refine gC_Sig_types X hP kw31 dX4_addType_1 ?_
  refine lv_bipush (v := 12) hx hb dX4_addType_4 (by decide) ?_
  refine lv_icmp_lt (tgt := 11) hx hb dX4_addType_6 (by decide) (fun c1 => ?_) (fun c1 => ?_)
  · have hf := it_t c1 hf
    refine lv_aload_n hx hb dX4_addType_11 rfl (lv_at hl 0 rfl) ?_
    refine lv_dup hx hb dX4_addType_12 rfl ?_
    refine gC_Sig_types X hP kw31 dX4_addType_13 ?_
    refine lv_iconst (v := 1) hx hb dX4_addType_16 (by decide) ?_
    refine lv_iadd hx hb dX4_addType_17 ?_
    refine pC_Sig_types X hP hD hS kw31 dX4_addType_18 (fun H locs hP hD hS => ?_)
    obtain ⟨s2, es2, hf⟩ := bd_e hf
    rw [← es2] at hP hD
    refine lv_aload_n hx hb dX4_addType_21 rfl (lv_at hl 0 rfl) ?_
    refine gC_Sig_types X hP kw31 dX4_addType_22 ?_
    refine lv_iconst (v := 1) hx hb dX4_addType_25 (by decide) ?_
    refine lv_isub hx hb dX4_addType_26 ?_
    cases hf
    exact ret_i X hP hD hS dX4_addType_27
  · have hf := it_f c1 hf
    refine lv_iconst (v := -1) hx hb dX4_addType_9 (by decide) ?_
    cases hf
    exact ret_i X hP hD hS dX4_addType_10
end S_X4_addType
theorem c_X4_addType (l : Launch) (D : va_G) (cA : ClassId) (A : Nat → Prop) (ad : Nat → Nat) (ta : Nat) (σ : St) (r : Int32) (σ' : St) (hf : F_X4_addType σ = some (r, σ')) : MI l D cA A (wC cA ad) yX4_addType cX4_addType 1 (some .int) rm_X4_addType [.ref (ad 1)] ta σ r σ' 0 0 := by
  refine enter (by decide) (Nat.le_of_ble_eq_true rfl) ?_
  intro p e s m below meth c ls X hnm hP hD hS hl
  exact t_X4_addType_0 X hf hP hD hS hl
abbrev rm_X4_unpack : Room := { frames := 0, cells := 0, slots := 0, locals := 0 }
def F_X4_unpack (x0 : Int32) (x1 : Int32) (σ : St) : Rs :=
  some (((x0 >>> ((4 * x1) &&& 31)) &&& 15), σ)
section S_X4_unpack
variable {p : Program} {l : Launch} {e : Env} {s : State} {m : MethodId} {args : Array Value} {below : List Frame} {meth : Method} {c : Code}
variable {D : va_G} {cA : ClassId} {A : Nat → Prop} {ad : Nat → Nat} {r : Int32} {σ' : St}
set_option maxHeartbeats 4000000 in
set_option maxRecDepth 100000 in
theorem t_X4_unpack_0  (X : Fx p s m meth c D cA A RX4 cX4_unpack 2 (some .int))  {x0 x1 : Int32} { σ : St} {ta : Nat} {H : Heap} {locs : List Loc} {ls : Array Slot} (hf : F_X4_unpack x0 x1 σ = some (r, σ')) (hP : va_P D vwCl (wC cA ad ta σ) H) (hD : va_D A (wC cA ad ta σ)) (hS : va_S A s.heap H locs) (hl : lv_has ls 2 [(0, .int x0), (1, .int x1)]) : W p l e (rm_X4_unpack) s m args below meth c H locs 0 0 (MQ below (QI D cA A (wC cA ad) r σ') args s 0 0 A) (F0 m 0 ls []) := by
  obtain ⟨hx, hb, hr, hml, hown, hlk, hE, hK, hA⟩ := id X
  rw [F_X4_unpack] at hf
  refine lv_iload_n hx hb dX4_unpack_0 rfl (lv_at hl 0 rfl) ?_
  refine lv_iconst (v := 4) hx hb dX4_unpack_1 (by decide) ?_
  refine lv_iload_n hx hb dX4_unpack_2 rfl (lv_at hl 1 rfl) ?_
  refine lv_imul hx hb dX4_unpack_3 ?_
  refine lv_ishr hx hb dX4_unpack_4 ?_
  refine lv_bipush (v := 15) hx hb dX4_unpack_5 (by decide) ?_
  refine lv_iand hx hb dX4_unpack_7 ?_
  cases hf
  exact ret_i X hP hD hS dX4_unpack_8
end S_X4_unpack
theorem c_X4_unpack (l : Launch) (D : va_G) (cA : ClassId) (A : Nat → Prop) (ad : Nat → Nat) (ta : Nat) (σ : St) (x0 x1 : Int32) (r : Int32) (σ' : St) (hf : F_X4_unpack x0 x1 σ = some (r, σ')) : MI l D cA A (wC cA ad) yX4_unpack cX4_unpack 2 (some .int) rm_X4_unpack [.int x0, .int x1] ta σ r σ' 0 0 := by
  refine enter (by decide) (Nat.le_of_ble_eq_true rfl) ?_
  intro p e s m below meth c ls X hnm hP hD hS hl
  exact t_X4_unpack_0 X hf hP hD hS hl
abbrev rm_X4_areTypes : Room := { frames := 1, cells := 0, slots := 0, locals := 21 }
def F_X4_areTypes_2  : Nat → Int32 → Int32 → Int32 → St → Rs
  | 0, _, _, _, _ => none
  | n + 1, x1, x2, x3, σ => if x1 ≤ x3 then (ck (isB 1) (some (1, σ))) else (bo (F_X4_unpack x2 x3 σ) (fun r3 s4 => if r3 < (gF s4 1) then (F_X4_areTypes_2 n x1 x2 (x3 + 1) s4) else (ck (isB 0) (some (0, s4)))))
def F_X4_areTypes (x1 : Int32) (x2 : Int32) (σ : St) : Rs :=
  F_X4_areTypes_2 5000 x1 x2 0 σ
section S_X4_areTypes
variable {p : Program} {l : Launch} {e : Env} {s : State} {m : MethodId} {args : Array Value} {below : List Frame} {meth : Method} {c : Code}
variable {D : va_G} {cA : ClassId} {A : Nat → Prop} {ad : Nat → Nat} {r : Int32} {σ' : St}
set_option maxHeartbeats 4000000 in
set_option maxRecDepth 100000 in
theorem t_X4_areTypes_2  (X : Fx p s m meth c D cA A RX4 cX4_areTypes 4 (some .boolean))  : ∀ (n : Nat) (x1 x2 x3 : Int32) (σ : St) (ta : Nat) (H : Heap) (locs : List Loc) (ls : Array Slot), F_X4_areTypes_2 n x1 x2 x3 σ = some (r, σ') → va_P D vwCl (wC cA ad ta σ) H → va_D A (wC cA ad ta σ) → va_S A s.heap H locs → lv_has ls 4 [(0, .ref (ad 1)), (1, .int x1), (2, .int x2), (3, .int x3)] → W p l e (rm_X4_areTypes) s m args below meth c H locs 0 0 (MQ below (QI D cA A (wC cA ad) r σ') args s 0 0 A) (F0 m 2 ls []) := by
  obtain ⟨hx, hb, hr, hml, hown, hlk, hE, hK, hA⟩ := id X
  intro n
  induction n with
  | zero =>
    intro x1 x2 x3 σ ta H locs ls hf
    cases (show (none : Rs) = some _ from hf)
  | succ n ih =>
    intro x1 x2 x3 σ ta H locs ls hf hP hD hS hl
    rw [F_X4_areTypes_2] at hf
    refine lv_iload_n hx hb dX4_areTypes_2 rfl (lv_at hl 3 rfl) ?_
    refine lv_iload_n hx hb dX4_areTypes_3 rfl (lv_at hl 1 rfl) ?_
    refine lv_icmp_ge (tgt := 27) hx hb dX4_areTypes_4 (by decide) (fun c1 => ?_) (fun c1 => ?_)
    · have hf := it_t c1 hf
      refine lv_iconst (v := 1) hx hb dX4_areTypes_27 (by decide) ?_
      obtain ⟨b2, hf⟩ := ck_e hf
      cases hf
      exact ret_z X b2 hP hD hS dX4_areTypes_28
    · have hf := it_f c1 hf
      refine lv_iload_n hx hb dX4_areTypes_7 rfl (lv_at hl 2 rfl) ?_
      refine lv_iload_n hx hb dX4_areTypes_8 rfl (lv_at hl 3 rfl) ?_
      obtain ⟨r3, s4, h5, hf⟩ := bo_e hf
      refine callS_i X cs_X4_unpack kw343 (c_X4_unpack l D cA A ad ta σ x2 x3 r3 s4 h5) ⟨by decide, by decide⟩ ⟨rfl, rfl⟩ hP hD hS rfl hl rfl (Nat.le_of_ble_eq_true rfl) dX4_areTypes_9 ⟨by decide, by decide⟩ (fun ta H locs hP hD hS => ?_)
      refine lv_aload_n hx hb dX4_areTypes_12 rfl (lv_at hl 0 rfl) ?_
      refine gC_Sig_types X hP kw31 dX4_areTypes_13 ?_
      refine lv_icmp_lt (tgt := 21) hx hb dX4_areTypes_16 (by decide) (fun c6 => ?_) (fun c6 => ?_)
      · have hf := it_t c6 hf
        refine lv_iinc (v := (x3 + 1)) (lv' := [(3, .int (x3 + 1)), (0, .ref (ad 1)), (1, .int x1), (2, .int x2)]) hx hb dX4_areTypes_21 hl (k := 3) rfl rfl (by decide) rfl (fun ls hl => ?_)
        refine lv_goto (tgt := 2) hx hb dX4_areTypes_24 (by decide) ?_
        exact ih x1 x2 (x3 + 1) s4 ta _ _ _ hf hP hD hS (lv_sub hl [1, 2, 3, 0] rfl)
      · have hf := it_f c6 hf
        refine lv_iconst (v := 0) hx hb dX4_areTypes_19 (by decide) ?_
        obtain ⟨b7, hf⟩ := ck_e hf
        cases hf
        exact ret_z X b7 hP hD hS dX4_areTypes_20
set_option maxHeartbeats 4000000 in
set_option maxRecDepth 100000 in
theorem t_X4_areTypes_0  (X : Fx p s m meth c D cA A RX4 cX4_areTypes 4 (some .boolean))  {x1 x2 : Int32} { σ : St} {ta : Nat} {H : Heap} {locs : List Loc} {ls : Array Slot} (hf : F_X4_areTypes x1 x2 σ = some (r, σ')) (hP : va_P D vwCl (wC cA ad ta σ) H) (hD : va_D A (wC cA ad ta σ)) (hS : va_S A s.heap H locs) (hl : lv_has ls 4 [(0, .ref (ad 1)), (1, .int x1), (2, .int x2)]) : W p l e (rm_X4_areTypes) s m args below meth c H locs 0 0 (MQ below (QI D cA A (wC cA ad) r σ') args s 0 0 A) (F0 m 0 ls []) := by
  obtain ⟨hx, hb, hr, hml, hown, hlk, hE, hK, hA⟩ := id X
  rw [F_X4_areTypes] at hf
  refine lv_iconst (v := 0) hx hb dX4_areTypes_0 (by decide) ?_
  refine lv_istore_n (lv' := [(3, .int 0), (0, .ref (ad 1)), (1, .int x1), (2, .int x2)]) hx hb dX4_areTypes_1 rfl hl (by decide) rfl (fun ls hl => ?_)
  exact t_X4_areTypes_2 X  5000 x1 x2 0 σ ta _ _ _ hf hP hD hS (lv_sub hl [1, 2, 3, 0] rfl)
end S_X4_areTypes
theorem c_X4_areTypes (l : Launch) (D : va_G) (cA : ClassId) (A : Nat → Prop) (ad : Nat → Nat) (ta : Nat) (σ : St) (x1 x2 : Int32) (r : Int32) (σ' : St) (hf : F_X4_areTypes x1 x2 σ = some (r, σ')) : MI l D cA A (wC cA ad) yX4_areTypes cX4_areTypes 4 (some .boolean) rm_X4_areTypes [.ref (ad 1), .int x1, .int x2] ta σ r σ' 0 0 := by
  refine enter (by decide) (Nat.le_of_ble_eq_true rfl) ?_
  intro p e s m below meth c ls X hnm hP hD hS hl
  exact t_X4_areTypes_0 X hf hP hD hS hl
abbrev rm_X4_addConstructor : Room := { frames := 2, cells := 0, slots := 0, locals := 44 }
def F_X4_addConstructor (x1 : Int32) (x2 : Int32) (x3 : Int32) (σ : St) : Rs :=
  if x1 < 0 then (some ((-1), σ)) else (if (gF σ 1) ≤ x1 then (some ((-1), σ)) else (if (gF σ 2) < 60 then (if x2 < 0 then (some ((-1), σ)) else (if 4 < x2 then (some ((-1), σ)) else (bo (F_X4_areTypes x2 x3 σ) (fun r6 s7 => if r6 = 0 then (some ((-1), s7)) else (bd (sA s7 9 (wr 60 (gA s7 9) (gF s7 2) x1)) (fun s10 => bd (sA s10 10 (wr 60 (gA s10 10) (gF s10 2) x2)) (fun s11 => bd (sA s11 11 (wr 60 (gA s11 11) (gF s11 2) x3)) (fun s12 => bd (sF s12 2 ((gF s12 2) + 1)) (fun s13 => some (((gF s13 2) - 1), s13)))))))))) else (some ((-1), σ))))
section S_X4_addConstructor
variable {p : Program} {l : Launch} {e : Env} {s : State} {m : MethodId} {args : Array Value} {below : List Frame} {meth : Method} {c : Code}
variable {D : va_G} {cA : ClassId} {A : Nat → Prop} {ad : Nat → Nat} {r : Int32} {σ' : St}
set_option maxHeartbeats 4000000 in
set_option maxRecDepth 100000 in
theorem t_X4_addConstructor_0  (X : Fx p s m meth c D cA A RX4 cX4_addConstructor 4 (some .int))  {x1 x2 x3 : Int32} { σ : St} {ta : Nat} {H : Heap} {locs : List Loc} {ls : Array Slot} (hf : F_X4_addConstructor x1 x2 x3 σ = some (r, σ')) (hP : va_P D vwCl (wC cA ad ta σ) H) (hD : va_D A (wC cA ad ta σ)) (hS : va_S A s.heap H locs) (hl : lv_has ls 4 [(0, .ref (ad 1)), (1, .int x1), (2, .int x2), (3, .int x3)]) : W p l e (rm_X4_addConstructor) s m args below meth c H locs 0 0 (MQ below (QI D cA A (wC cA ad) r σ') args s 0 0 A) (F0 m 0 ls []) := by
  obtain ⟨hx, hb, hr, hml, hown, hlk, hE, hK, hA⟩ := id X
  rw [F_X4_addConstructor] at hf
  refine lv_iload_n hx hb dX4_addConstructor_0 rfl (lv_at hl 1 rfl) ?_
  refine lv_if_lt (tgt := 21) hx hb dX4_addConstructor_1 (by decide) (fun c1 => ?_) (fun c1 => ?_)
  · have hf := it_t c1 hf
    refine lv_iconst (v := -1) hx hb dX4_addConstructor_21 (by decide) ?_
    cases hf
    exact ret_i X hP hD hS dX4_addConstructor_22
  · have hf := it_f c1 hf
    refine lv_iload_n hx hb dX4_addConstructor_4 rfl (lv_at hl 1 rfl) ?_
    refine lv_aload_n hx hb dX4_addConstructor_5 rfl (lv_at hl 0 rfl) ?_
    refine gC_Sig_types X hP kw31 dX4_addConstructor_6 ?_
    refine lv_icmp_ge (tgt := 21) hx hb dX4_addConstructor_9 (by decide) (fun c2 => ?_) (fun c2 => ?_)
    · have hf := it_t c2 hf
      refine lv_iconst (v := -1) hx hb dX4_addConstructor_21 (by decide) ?_
      cases hf
      exact ret_i X hP hD hS dX4_addConstructor_22
    · have hf := it_f c2 hf
      refine lv_aload_n hx hb dX4_addConstructor_12 rfl (lv_at hl 0 rfl) ?_
      refine gC_Sig_made X hP kw33 dX4_addConstructor_13 ?_
      refine lv_bipush (v := 60) hx hb dX4_addConstructor_16 (by decide) ?_
      refine lv_icmp_lt (tgt := 23) hx hb dX4_addConstructor_18 (by decide) (fun c3 => ?_) (fun c3 => ?_)
      · have hf := it_t c3 hf
        refine lv_iload_n hx hb dX4_addConstructor_23 rfl (lv_at hl 2 rfl) ?_
        refine lv_if_lt (tgt := 41) hx hb dX4_addConstructor_24 (by decide) (fun c4 => ?_) (fun c4 => ?_)
        · have hf := it_t c4 hf
          refine lv_iconst (v := -1) hx hb dX4_addConstructor_41 (by decide) ?_
          cases hf
          exact ret_i X hP hD hS dX4_addConstructor_42
        · have hf := it_f c4 hf
          refine lv_iload_n hx hb dX4_addConstructor_27 rfl (lv_at hl 2 rfl) ?_
          refine lv_iconst (v := 4) hx hb dX4_addConstructor_28 (by decide) ?_
          refine lv_icmp_gt (tgt := 41) hx hb dX4_addConstructor_29 (by decide) (fun c5 => ?_) (fun c5 => ?_)
          · have hf := it_t c5 hf
            refine lv_iconst (v := -1) hx hb dX4_addConstructor_41 (by decide) ?_
            cases hf
            exact ret_i X hP hD hS dX4_addConstructor_42
          · have hf := it_f c5 hf
            refine lv_aload_n hx hb dX4_addConstructor_32 rfl (lv_at hl 0 rfl) ?_
            refine lv_iload_n hx hb dX4_addConstructor_33 rfl (lv_at hl 2 rfl) ?_
            refine lv_iload_n hx hb dX4_addConstructor_34 rfl (lv_at hl 3 rfl) ?_
            obtain ⟨r6, s7, h8, hf⟩ := bo_e hf
            refine callV_i X cv_X4_areTypes kw339 (c_X4_areTypes l D cA A ad ta σ x2 x3 r6 s7 h8) ⟨by decide, by decide⟩ ⟨rfl, rfl⟩ hP hD hS (q0 := 1) (ci := 4) rfl rfl rfl rfl hl rfl (Nat.le_of_ble_eq_true rfl) dX4_addConstructor_35 ⟨by decide, by decide⟩ (fun ta H locs hP hD hS => ?_)
            refine lv_if_ne (tgt := 43) hx hb dX4_addConstructor_38 (by decide) (fun c9 => ?_) (fun c9 => ?_)
            · have hf := it_f c9 hf
              refine lv_aload_n hx hb dX4_addConstructor_43 rfl (lv_at hl 0 rfl) ?_
              refine gC_Sig_ownTypes X hP kw28 dX4_addConstructor_44 ?_
              refine lv_aload_n hx hb dX4_addConstructor_47 rfl (lv_at hl 0 rfl) ?_
              refine gC_Sig_made X hP kw33 dX4_addConstructor_48 ?_
              refine lv_iload_n hx hb dX4_addConstructor_51 rfl (lv_at hl 1 rfl) ?_
              refine callSN_v X cs_X8_set kw346 (c_set l D cA A (wC cA ad) ta s7 9 (ad 9) 60 9 (gF s7 2) x1 (by decide) rfl (fun f => wC_a9 f)) ⟨by decide, by decide⟩ ⟨rfl, rfl⟩ hP hD hS rfl hl rfl (Nat.le_of_ble_eq_true rfl) dX4_addConstructor_52 ⟨by decide, by decide⟩ (fun ta H locs hP hD hS => ?_)
              obtain ⟨s10, es10, hf⟩ := bd_e hf
              rw [← es10] at hP hD
              refine lv_aload_n hx hb dX4_addConstructor_55 rfl (lv_at hl 0 rfl) ?_
              refine gC_Sig_arities X hP kw29 dX4_addConstructor_56 ?_
              refine lv_aload_n hx hb dX4_addConstructor_59 rfl (lv_at hl 0 rfl) ?_
              refine gC_Sig_made X hP kw33 dX4_addConstructor_60 ?_
              refine lv_iload_n hx hb dX4_addConstructor_63 rfl (lv_at hl 2 rfl) ?_
              refine callSN_v X cs_X8_set kw346 (c_set l D cA A (wC cA ad) ta s10 10 (ad 10) 60 10 (gF s10 2) x2 (by decide) rfl (fun f => wC_a10 f)) ⟨by decide, by decide⟩ ⟨rfl, rfl⟩ hP hD hS rfl hl rfl (Nat.le_of_ble_eq_true rfl) dX4_addConstructor_64 ⟨by decide, by decide⟩ (fun ta H locs hP hD hS => ?_)
              obtain ⟨s11, es11, hf⟩ := bd_e hf
              rw [← es11] at hP hD
              refine lv_aload_n hx hb dX4_addConstructor_67 rfl (lv_at hl 0 rfl) ?_
              refine gC_Sig_partTypes X hP kw30 dX4_addConstructor_68 ?_
              refine lv_aload_n hx hb dX4_addConstructor_71 rfl (lv_at hl 0 rfl) ?_
              refine gC_Sig_made X hP kw33 dX4_addConstructor_72 ?_
              refine lv_iload_n hx hb dX4_addConstructor_75 rfl (lv_at hl 3 rfl) ?_
              refine callSN_v X cs_X8_set kw346 (c_set l D cA A (wC cA ad) ta s11 11 (ad 11) 60 11 (gF s11 2) x3 (by decide) rfl (fun f => wC_a11 f)) ⟨by decide, by decide⟩ ⟨rfl, rfl⟩ hP hD hS rfl hl rfl (Nat.le_of_ble_eq_true rfl) dX4_addConstructor_76 ⟨by decide, by decide⟩ (fun ta H locs hP hD hS => ?_)
              obtain ⟨s12, es12, hf⟩ := bd_e hf
              rw [← es12] at hP hD
              refine lv_aload_n hx hb dX4_addConstructor_79 rfl (lv_at hl 0 rfl) ?_
              refine lv_dup hx hb dX4_addConstructor_80 rfl ?_
              refine gC_Sig_made X hP kw33 dX4_addConstructor_81 ?_
              refine lv_iconst (v := 1) hx hb dX4_addConstructor_84 (by decide) ?_
              refine lv_iadd hx hb dX4_addConstructor_85 ?_
              refine pC_Sig_made X hP hD hS kw33 dX4_addConstructor_86 (fun H locs hP hD hS => ?_)
              obtain ⟨s13, es13, hf⟩ := bd_e hf
              rw [← es13] at hP hD
              refine lv_aload_n hx hb dX4_addConstructor_89 rfl (lv_at hl 0 rfl) ?_
              refine gC_Sig_made X hP kw33 dX4_addConstructor_90 ?_
              refine lv_iconst (v := 1) hx hb dX4_addConstructor_93 (by decide) ?_
              refine lv_isub hx hb dX4_addConstructor_94 ?_
              cases hf
              exact ret_i X hP hD hS dX4_addConstructor_95
            · have hf := it_t c9 hf
              refine lv_iconst (v := -1) hx hb dX4_addConstructor_41 (by decide) ?_
              cases hf
              exact ret_i X hP hD hS dX4_addConstructor_42
      · have hf := it_f c3 hf
        refine lv_iconst (v := -1) hx hb dX4_addConstructor_21 (by decide) ?_
        cases hf
        exact ret_i X hP hD hS dX4_addConstructor_22
end S_X4_addConstructor
theorem c_X4_addConstructor (l : Launch) (D : va_G) (cA : ClassId) (A : Nat → Prop) (ad : Nat → Nat) (ta : Nat) (σ : St) (x1 x2 x3 : Int32) (r : Int32) (σ' : St) (hf : F_X4_addConstructor x1 x2 x3 σ = some (r, σ')) : MI l D cA A (wC cA ad) yX4_addConstructor cX4_addConstructor 4 (some .int) rm_X4_addConstructor [.ref (ad 1), .int x1, .int x2, .int x3] ta σ r σ' 0 0 := by
  refine enter (by decide) (Nat.le_of_ble_eq_true rfl) ?_
  intro p e s m below meth c ls X hnm hP hD hS hl
  exact t_X4_addConstructor_0 X hf hP hD hS hl
abbrev rm_X4_setFunction : Room := { frames := 2, cells := 0, slots := 0, locals := 44 }
def F_X4_setFunction (x1 : Int32) (x2 : Int32) (σ : St) : Rs :=
  if x1 < 0 then (ck (isB 0) (some (0, σ))) else (if 6 < x1 then (ck (isB 0) (some (0, σ))) else (bo (F_X4_areTypes x1 x2 σ) (fun r5 s6 => if r5 = 0 then (ck (isB 0) (some (0, s6))) else (bd (sF s6 3 x1) (fun s9 => bd (sF s9 4 x2) (fun s10 => ck (isB 1) (some (1, s10))))))))
section S_X4_setFunction
variable {p : Program} {l : Launch} {e : Env} {s : State} {m : MethodId} {args : Array Value} {below : List Frame} {meth : Method} {c : Code}
variable {D : va_G} {cA : ClassId} {A : Nat → Prop} {ad : Nat → Nat} {r : Int32} {σ' : St}
set_option maxHeartbeats 4000000 in
set_option maxRecDepth 100000 in
theorem t_X4_setFunction_0  (X : Fx p s m meth c D cA A RX4 cX4_setFunction 3 (some .boolean))  {x1 x2 : Int32} { σ : St} {ta : Nat} {H : Heap} {locs : List Loc} {ls : Array Slot} (hf : F_X4_setFunction x1 x2 σ = some (r, σ')) (hP : va_P D vwCl (wC cA ad ta σ) H) (hD : va_D A (wC cA ad ta σ)) (hS : va_S A s.heap H locs) (hl : lv_has ls 3 [(0, .ref (ad 1)), (1, .int x1), (2, .int x2)]) : W p l e (rm_X4_setFunction) s m args below meth c H locs 0 0 (MQ below (QI D cA A (wC cA ad) r σ') args s 0 0 A) (F0 m 0 ls []) := by
  obtain ⟨hx, hb, hr, hml, hown, hlk, hE, hK, hA⟩ := id X
  rw [F_X4_setFunction] at hf
  refine lv_iload_n hx hb dX4_setFunction_0 rfl (lv_at hl 1 rfl) ?_
  refine lv_if_lt (tgt := 19) hx hb dX4_setFunction_1 (by decide) (fun c1 => ?_) (fun c1 => ?_)
  · have hf := it_t c1 hf
    refine lv_iconst (v := 0) hx hb dX4_setFunction_19 (by decide) ?_
    obtain ⟨b2, hf⟩ := ck_e hf
    cases hf
    exact ret_z X b2 hP hD hS dX4_setFunction_20
  · have hf := it_f c1 hf
    refine lv_iload_n hx hb dX4_setFunction_4 rfl (lv_at hl 1 rfl) ?_
    refine lv_bipush (v := 6) hx hb dX4_setFunction_5 (by decide) ?_
    refine lv_icmp_gt (tgt := 19) hx hb dX4_setFunction_7 (by decide) (fun c3 => ?_) (fun c3 => ?_)
    · have hf := it_t c3 hf
      refine lv_iconst (v := 0) hx hb dX4_setFunction_19 (by decide) ?_
      obtain ⟨b4, hf⟩ := ck_e hf
      cases hf
      exact ret_z X b4 hP hD hS dX4_setFunction_20
    · have hf := it_f c3 hf
      refine lv_aload_n hx hb dX4_setFunction_10 rfl (lv_at hl 0 rfl) ?_
      refine lv_iload_n hx hb dX4_setFunction_11 rfl (lv_at hl 1 rfl) ?_
      refine lv_iload_n hx hb dX4_setFunction_12 rfl (lv_at hl 2 rfl) ?_
      obtain ⟨r5, s6, h7, hf⟩ := bo_e hf
      refine callV_i X cv_X4_areTypes kw339 (c_X4_areTypes l D cA A ad ta σ x1 x2 r5 s6 h7) ⟨by decide, by decide⟩ ⟨rfl, rfl⟩ hP hD hS (q0 := 1) (ci := 4) rfl rfl rfl rfl hl rfl (Nat.le_of_ble_eq_true rfl) dX4_setFunction_13 ⟨by decide, by decide⟩ (fun ta H locs hP hD hS => ?_)
      refine lv_if_ne (tgt := 21) hx hb dX4_setFunction_16 (by decide) (fun c8 => ?_) (fun c8 => ?_)
      · have hf := it_f c8 hf
        refine lv_aload_n hx hb dX4_setFunction_21 rfl (lv_at hl 0 rfl) ?_
        refine lv_iload_n hx hb dX4_setFunction_22 rfl (lv_at hl 1 rfl) ?_
        refine pC_Sig_arguments X hP hD hS kw35 dX4_setFunction_23 (fun H locs hP hD hS => ?_)
        obtain ⟨s9, es9, hf⟩ := bd_e hf
        rw [← es9] at hP hD
        refine lv_aload_n hx hb dX4_setFunction_26 rfl (lv_at hl 0 rfl) ?_
        refine lv_iload_n hx hb dX4_setFunction_27 rfl (lv_at hl 2 rfl) ?_
        refine pC_Sig_argumentTypes X hP hD hS kw37 dX4_setFunction_28 (fun H locs hP hD hS => ?_)
        obtain ⟨s10, es10, hf⟩ := bd_e hf
        rw [← es10] at hP hD
        refine lv_iconst (v := 1) hx hb dX4_setFunction_31 (by decide) ?_
        obtain ⟨b11, hf⟩ := ck_e hf
        cases hf
        exact ret_z X b11 hP hD hS dX4_setFunction_32
      · have hf := it_t c8 hf
        refine lv_iconst (v := 0) hx hb dX4_setFunction_19 (by decide) ?_
        obtain ⟨b12, hf⟩ := ck_e hf
        cases hf
        exact ret_z X b12 hP hD hS dX4_setFunction_20
end S_X4_setFunction
theorem c_X4_setFunction (l : Launch) (D : va_G) (cA : ClassId) (A : Nat → Prop) (ad : Nat → Nat) (ta : Nat) (σ : St) (x1 x2 : Int32) (r : Int32) (σ' : St) (hf : F_X4_setFunction x1 x2 σ = some (r, σ')) : MI l D cA A (wC cA ad) yX4_setFunction cX4_setFunction 3 (some .boolean) rm_X4_setFunction [.ref (ad 1), .int x1, .int x2] ta σ r σ' 0 0 := by
  refine enter (by decide) (Nat.le_of_ble_eq_true rfl) ?_
  intro p e s m below meth c ls X hnm hP hD hS hl
  exact t_X4_setFunction_0 X hf hP hD hS hl
abbrev rm_X4_hasFunction : Room := { frames := 0, cells := 0, slots := 0, locals := 0 }
def F_X4_hasFunction  (σ : St) : Rs :=
  if (gF σ 3) = (-1) then (ck (isB 0) (some (0, σ))) else (ck (isB 1) (some (1, σ)))
section S_X4_hasFunction
variable {p : Program} {l : Launch} {e : Env} {s : State} {m : MethodId} {args : Array Value} {below : List Frame} {meth : Method} {c : Code}
variable {D : va_G} {cA : ClassId} {A : Nat → Prop} {ad : Nat → Nat} {r : Int32} {σ' : St}
set_option maxHeartbeats 4000000 in
set_option maxRecDepth 100000 in
theorem t_X4_hasFunction_0  (X : Fx p s m meth c D cA A RX4 cX4_hasFunction 1 (some .boolean))  { σ : St} {ta : Nat} {H : Heap} {locs : List Loc} {ls : Array Slot} (hf : F_X4_hasFunction σ = some (r, σ')) (hP : va_P D vwCl (wC cA ad ta σ) H) (hD : va_D A (wC cA ad ta σ)) (hS : va_S A s.heap H locs) (hl : lv_has ls 1 [(0, .ref (ad 1))]) : W p l e (rm_X4_hasFunction) s m args below meth c H locs 0 0 (MQ below (QI D cA A (wC cA ad) r σ') args s 0 0 A) (F0 m 0 ls []) := by
  obtain ⟨hx, hb, hr, hml, hown, hlk, hE, hK, hA⟩ := id X
  rw [F_X4_hasFunction] at hf
  refine lv_aload_n hx hb dX4_hasFunction_0 rfl (lv_at hl 0 rfl) ?_
  refine gC_Sig_arguments X hP kw35 dX4_hasFunction_1 ?_
  refine lv_iconst (v := -1) hx hb dX4_hasFunction_4 (by decide) ?_
  refine lv_icmp_eq (tgt := 12) hx hb dX4_hasFunction_5 (by decide) (fun c1 => ?_) (fun c1 => ?_)
  · have hf := it_t c1 hf
    refine lv_iconst (v := 0) hx hb dX4_hasFunction_12 (by decide) ?_
    obtain ⟨b2, hf⟩ := ck_e hf
    cases hf
    exact ret_z X b2 hP hD hS dX4_hasFunction_13
  · have hf := it_f c1 hf
    refine lv_iconst (v := 1) hx hb dX4_hasFunction_8 (by decide) ?_
    refine lv_goto (tgt := 13) hx hb dX4_hasFunction_9 (by decide) ?_
    obtain ⟨b3, hf⟩ := ck_e hf
    cases hf
    exact ret_z X b3 hP hD hS dX4_hasFunction_13
end S_X4_hasFunction
theorem c_X4_hasFunction (l : Launch) (D : va_G) (cA : ClassId) (A : Nat → Prop) (ad : Nat → Nat) (ta : Nat) (σ : St) (r : Int32) (σ' : St) (hf : F_X4_hasFunction σ = some (r, σ')) : MI l D cA A (wC cA ad) yX4_hasFunction cX4_hasFunction 1 (some .boolean) rm_X4_hasFunction [.ref (ad 1)] ta σ r σ' 0 0 := by
  refine enter (by decide) (Nat.le_of_ble_eq_true rfl) ?_
  intro p e s m below meth c ls X hnm hP hD hS hl
  exact t_X4_hasFunction_0 X hf hP hD hS hl
abbrev rm_X4_typeOf : Room := { frames := 1, cells := 0, slots := 0, locals := 21 }
def F_X4_typeOf (x1 : Int32) (σ : St) : Rs :=
  if (gF σ 2) ≤ x1 then (some ((-1), σ)) else (bd (rd 60 (gA σ 9) x1) (fun y2 => some (y2, σ)))
section S_X4_typeOf
variable {p : Program} {l : Launch} {e : Env} {s : State} {m : MethodId} {args : Array Value} {below : List Frame} {meth : Method} {c : Code}
variable {D : va_G} {cA : ClassId} {A : Nat → Prop} {ad : Nat → Nat} {r : Int32} {σ' : St}
set_option maxHeartbeats 4000000 in
set_option maxRecDepth 100000 in
theorem t_X4_typeOf_0  (X : Fx p s m meth c D cA A RX4 cX4_typeOf 2 (some .int))  {x1 : Int32} { σ : St} {ta : Nat} {H : Heap} {locs : List Loc} {ls : Array Slot} (hf : F_X4_typeOf x1 σ = some (r, σ')) (hP : va_P D vwCl (wC cA ad ta σ) H) (hD : va_D A (wC cA ad ta σ)) (hS : va_S A s.heap H locs) (hl : lv_has ls 2 [(0, .ref (ad 1)), (1, .int x1)]) : W p l e (rm_X4_typeOf) s m args below meth c H locs 0 0 (MQ below (QI D cA A (wC cA ad) r σ') args s 0 0 A) (F0 m 0 ls []) := by
  obtain ⟨hx, hb, hr, hml, hown, hlk, hE, hK, hA⟩ := id X
  rw [F_X4_typeOf] at hf
  refine lv_iload_n hx hb dX4_typeOf_0 rfl (lv_at hl 1 rfl) ?_
  refine lv_aload_n hx hb dX4_typeOf_1 rfl (lv_at hl 0 rfl) ?_
  refine gC_Sig_made X hP kw33 dX4_typeOf_2 ?_
  refine lv_icmp_ge (tgt := 19) hx hb dX4_typeOf_5 (by decide) (fun c1 => ?_) (fun c1 => ?_)
  · have hf := it_t c1 hf
    refine lv_iconst (v := -1) hx hb dX4_typeOf_19 (by decide) ?_
    cases hf
    exact ret_i X hP hD hS dX4_typeOf_20
  · have hf := it_f c1 hf
    refine lv_aload_n hx hb dX4_typeOf_8 rfl (lv_at hl 0 rfl) ?_
    refine gC_Sig_ownTypes X hP kw28 dX4_typeOf_9 ?_
    refine lv_iload_n hx hb dX4_typeOf_12 rfl (lv_at hl 1 rfl) ?_
    refine callSN_i X cs_X8_get kw412 (c_get l D cA A (wC cA ad) ta σ 9 (ad 9) 60 (gA σ 9) x1 (by decide) rfl) ⟨by decide, by decide⟩ ⟨rfl, rfl⟩ hP hD hS rfl hl rfl (Nat.le_of_ble_eq_true rfl) dX4_typeOf_13 ⟨by decide, by decide⟩ (fun ta H locs hP hD hS => ?_)
    refine lv_topi (fun y2 ey2 => ?_)
    have hf := bd_x ey2 hf
    refine lv_goto (tgt := 20) hx hb dX4_typeOf_16 (by decide) ?_
    cases hf
    exact ret_i X hP hD hS dX4_typeOf_20
end S_X4_typeOf
theorem c_X4_typeOf (l : Launch) (D : va_G) (cA : ClassId) (A : Nat → Prop) (ad : Nat → Nat) (ta : Nat) (σ : St) (x1 : Int32) (r : Int32) (σ' : St) (hf : F_X4_typeOf x1 σ = some (r, σ')) : MI l D cA A (wC cA ad) yX4_typeOf cX4_typeOf 2 (some .int) rm_X4_typeOf [.ref (ad 1), .int x1] ta σ r σ' 0 0 := by
  refine enter (by decide) (Nat.le_of_ble_eq_true rfl) ?_
  intro p e s m below meth c ls X hnm hP hD hS hl
  exact t_X4_typeOf_0 X hf hP hD hS hl
abbrev rm_X4_parts : Room := { frames := 1, cells := 0, slots := 0, locals := 21 }
def F_X4_parts (x1 : Int32) (σ : St) : Rs :=
  if x1 = (-1) then (some ((gF σ 3), σ)) else (bd (rd 60 (gA σ 10) x1) (fun y2 => some (y2, σ)))
section S_X4_parts
variable {p : Program} {l : Launch} {e : Env} {s : State} {m : MethodId} {args : Array Value} {below : List Frame} {meth : Method} {c : Code}
variable {D : va_G} {cA : ClassId} {A : Nat → Prop} {ad : Nat → Nat} {r : Int32} {σ' : St}
set_option maxHeartbeats 4000000 in
set_option maxRecDepth 100000 in
theorem t_X4_parts_0  (X : Fx p s m meth c D cA A RX4 cX4_parts 2 (some .int))  {x1 : Int32} { σ : St} {ta : Nat} {H : Heap} {locs : List Loc} {ls : Array Slot} (hf : F_X4_parts x1 σ = some (r, σ')) (hP : va_P D vwCl (wC cA ad ta σ) H) (hD : va_D A (wC cA ad ta σ)) (hS : va_S A s.heap H locs) (hl : lv_has ls 2 [(0, .ref (ad 1)), (1, .int x1)]) : W p l e (rm_X4_parts) s m args below meth c H locs 0 0 (MQ below (QI D cA A (wC cA ad) r σ') args s 0 0 A) (F0 m 0 ls []) := by
  obtain ⟨hx, hb, hr, hml, hown, hlk, hE, hK, hA⟩ := id X
  rw [F_X4_parts] at hf
  refine lv_iload_n hx hb dX4_parts_0 rfl (lv_at hl 1 rfl) ?_
  refine lv_iconst (v := -1) hx hb dX4_parts_1 (by decide) ?_
  refine lv_icmp_ne (tgt := 12) hx hb dX4_parts_2 (by decide) (fun c1 => ?_) (fun c1 => ?_)
  · have hf := it_f c1 hf
    refine lv_aload_n hx hb dX4_parts_12 rfl (lv_at hl 0 rfl) ?_
    refine gC_Sig_arities X hP kw29 dX4_parts_13 ?_
    refine lv_iload_n hx hb dX4_parts_16 rfl (lv_at hl 1 rfl) ?_
    refine callSN_i X cs_X8_get kw412 (c_get l D cA A (wC cA ad) ta σ 10 (ad 10) 60 (gA σ 10) x1 (by decide) rfl) ⟨by decide, by decide⟩ ⟨rfl, rfl⟩ hP hD hS rfl hl rfl (Nat.le_of_ble_eq_true rfl) dX4_parts_17 ⟨by decide, by decide⟩ (fun ta H locs hP hD hS => ?_)
    refine lv_topi (fun y2 ey2 => ?_)
    have hf := bd_x ey2 hf
    cases hf
    exact ret_i X hP hD hS dX4_parts_20
  · have hf := it_t c1 hf
    refine lv_aload_n hx hb dX4_parts_5 rfl (lv_at hl 0 rfl) ?_
    refine gC_Sig_arguments X hP kw35 dX4_parts_6 ?_
    refine lv_goto (tgt := 20) hx hb dX4_parts_9 (by decide) ?_
    cases hf
    exact ret_i X hP hD hS dX4_parts_20
end S_X4_parts
theorem c_X4_parts (l : Launch) (D : va_G) (cA : ClassId) (A : Nat → Prop) (ad : Nat → Nat) (ta : Nat) (σ : St) (x1 : Int32) (r : Int32) (σ' : St) (hf : F_X4_parts x1 σ = some (r, σ')) : MI l D cA A (wC cA ad) yX4_parts cX4_parts 2 (some .int) rm_X4_parts [.ref (ad 1), .int x1] ta σ r σ' 0 0 := by
  refine enter (by decide) (Nat.le_of_ble_eq_true rfl) ?_
  intro p e s m below meth c ls X hnm hP hD hS hl
  exact t_X4_parts_0 X hf hP hD hS hl
abbrev rm_X4_wanted : Room := { frames := 1, cells := 0, slots := 0, locals := 21 }
def F_X4_wanted_20 (x2 : Int32) (z0 : Int32) (σ : St) : Rs :=
  bo (F_X4_unpack z0 x2 σ) (fun r1 s2 => some (r1, s2))
def F_X4_wanted (x1 : Int32) (x2 : Int32) (σ : St) : Rs :=
  if x1 = (-1) then (F_X4_wanted_20 x2 (gF σ 4) σ) else (bd (rd 60 (gA σ 11) x1) (fun y2 => F_X4_wanted_20 x2 y2 σ))
section S_X4_wanted
variable {p : Program} {l : Launch} {e : Env} {s : State} {m : MethodId} {args : Array Value} {below : List Frame} {meth : Method} {c : Code}
variable {D : va_G} {cA : ClassId} {A : Nat → Prop} {ad : Nat → Nat} {r : Int32} {σ' : St}
set_option maxHeartbeats 4000000 in
set_option maxRecDepth 100000 in
theorem t_X4_wanted_20  (X : Fx p s m meth c D cA A RX4 cX4_wanted 3 (some .int))  {x2 z0 : Int32} { σ : St} {ta : Nat} {H : Heap} {locs : List Loc} {ls : Array Slot} (hf : F_X4_wanted_20 x2 z0 σ = some (r, σ')) (hP : va_P D vwCl (wC cA ad ta σ) H) (hD : va_D A (wC cA ad ta σ)) (hS : va_S A s.heap H locs) (hl : lv_has ls 3 [(2, .int x2)]) : W p l e (rm_X4_wanted) s m args below meth c H locs 0 0 (MQ below (QI D cA A (wC cA ad) r σ') args s 0 0 A) (F0 m 20 ls [.int z0]) := by
  obtain ⟨hx, hb, hr, hml, hown, hlk, hE, hK, hA⟩ := id X
  rw [F_X4_wanted_20] at hf
  refine lv_iload_n hx hb dX4_wanted_20 rfl (lv_at hl 0 rfl) ?_
  obtain ⟨r1, s2, h3, hf⟩ := bo_e hf
  refine callS_i X cs_X4_unpack kw343 (c_X4_unpack l D cA A ad ta σ z0 x2 r1 s2 h3) ⟨by decide, by decide⟩ ⟨rfl, rfl⟩ hP hD hS rfl hl rfl (Nat.le_of_ble_eq_true rfl) dX4_wanted_21 ⟨by decide, by decide⟩ (fun ta H locs hP hD hS => ?_)
  cases hf
  exact ret_i X hP hD hS dX4_wanted_24
set_option maxHeartbeats 4000000 in
set_option maxRecDepth 100000 in
theorem t_X4_wanted_0  (X : Fx p s m meth c D cA A RX4 cX4_wanted 3 (some .int))  {x1 x2 : Int32} { σ : St} {ta : Nat} {H : Heap} {locs : List Loc} {ls : Array Slot} (hf : F_X4_wanted x1 x2 σ = some (r, σ')) (hP : va_P D vwCl (wC cA ad ta σ) H) (hD : va_D A (wC cA ad ta σ)) (hS : va_S A s.heap H locs) (hl : lv_has ls 3 [(0, .ref (ad 1)), (1, .int x1), (2, .int x2)]) : W p l e (rm_X4_wanted) s m args below meth c H locs 0 0 (MQ below (QI D cA A (wC cA ad) r σ') args s 0 0 A) (F0 m 0 ls []) := by
  obtain ⟨hx, hb, hr, hml, hown, hlk, hE, hK, hA⟩ := id X
  rw [F_X4_wanted] at hf
  refine lv_iload_n hx hb dX4_wanted_0 rfl (lv_at hl 1 rfl) ?_
  refine lv_iconst (v := -1) hx hb dX4_wanted_1 (by decide) ?_
  refine lv_icmp_ne (tgt := 12) hx hb dX4_wanted_2 (by decide) (fun c1 => ?_) (fun c1 => ?_)
  · have hf := it_f c1 hf
    refine lv_aload_n hx hb dX4_wanted_12 rfl (lv_at hl 0 rfl) ?_
    refine gC_Sig_partTypes X hP kw30 dX4_wanted_13 ?_
    refine lv_iload_n hx hb dX4_wanted_16 rfl (lv_at hl 1 rfl) ?_
    refine callSN_i X cs_X8_get kw412 (c_get l D cA A (wC cA ad) ta σ 11 (ad 11) 60 (gA σ 11) x1 (by decide) rfl) ⟨by decide, by decide⟩ ⟨rfl, rfl⟩ hP hD hS rfl hl rfl (Nat.le_of_ble_eq_true rfl) dX4_wanted_17 ⟨by decide, by decide⟩ (fun ta H locs hP hD hS => ?_)
    refine lv_topi (fun y2 ey2 => ?_)
    have hf := bd_x ey2 hf
    exact t_X4_wanted_20 X  hf hP hD hS (lv_sub hl [2] rfl)
  · have hf := it_t c1 hf
    refine lv_aload_n hx hb dX4_wanted_5 rfl (lv_at hl 0 rfl) ?_
    refine gC_Sig_argumentTypes X hP kw37 dX4_wanted_6 ?_
    refine lv_goto (tgt := 20) hx hb dX4_wanted_9 (by decide) ?_
    exact t_X4_wanted_20 X  hf hP hD hS (lv_sub hl [2] rfl)
end S_X4_wanted
theorem c_X4_wanted (l : Launch) (D : va_G) (cA : ClassId) (A : Nat → Prop) (ad : Nat → Nat) (ta : Nat) (σ : St) (x1 x2 : Int32) (r : Int32) (σ' : St) (hf : F_X4_wanted x1 x2 σ = some (r, σ')) : MI l D cA A (wC cA ad) yX4_wanted cX4_wanted 3 (some .int) rm_X4_wanted [.ref (ad 1), .int x1, .int x2] ta σ r σ' 0 0 := by
  refine enter (by decide) (Nat.le_of_ble_eq_true rfl) ?_
  intro p e s m below meth c ls X hnm hP hD hS hl
  exact t_X4_wanted_0 X hf hP hD hS hl
abbrev rm_X4_constructorsOf : Room := { frames := 1, cells := 0, slots := 0, locals := 21 }
def F_X4_constructorsOf_27 (k4 : Int32 → Int32 → Int32 → St → Rs) (x1 : Int32) (x2 : Int32) (x3 : Int32) (σ : St) : Rs :=
  k4 x1 x2 (x3 + 1) σ
def F_X4_constructorsOf_4  : Nat → Int32 → Int32 → Int32 → St → Rs
  | 0, _, _, _, _ => none
  | n + 1, x1, x2, x3, σ => if (gF σ 2) ≤ x3 then (some (x2, σ)) else (bd (rd 60 (gA σ 9) x3) (fun y2 => if y2 = x1 then (F_X4_constructorsOf_27 (F_X4_constructorsOf_4 n) x1 (x2 + 1) x3 σ) else (F_X4_constructorsOf_27 (F_X4_constructorsOf_4 n) x1 x2 x3 σ)))
def F_X4_constructorsOf (x1 : Int32) (σ : St) : Rs :=
  F_X4_constructorsOf_4 5000 x1 0 0 σ
section S_X4_constructorsOf
variable {p : Program} {l : Launch} {e : Env} {s : State} {m : MethodId} {args : Array Value} {below : List Frame} {meth : Method} {c : Code}
variable {D : va_G} {cA : ClassId} {A : Nat → Prop} {ad : Nat → Nat} {r : Int32} {σ' : St}
set_option maxHeartbeats 4000000 in
set_option maxRecDepth 100000 in
theorem t_X4_constructorsOf_27 {k4 : Int32 → Int32 → Int32 → St → Rs} (X : Fx p s m meth c D cA A RX4 cX4_constructorsOf 4 (some .int)) (K4 : ∀ (x1 x2 x3 : Int32) (σ : St) (ta : Nat) (H : Heap) (locs : List Loc) (ls : Array Slot), k4 x1 x2 x3 σ = some (r, σ') → va_P D vwCl (wC cA ad ta σ) H → va_D A (wC cA ad ta σ) → va_S A s.heap H locs → lv_has ls 4 [(0, .ref (ad 1)), (1, .int x1), (2, .int x2), (3, .int x3)] → W p l e (rm_X4_constructorsOf) s m args below meth c H locs 0 0 (MQ below (QI D cA A (wC cA ad) r σ') args s 0 0 A) (F0 m 4 ls [])) {x1 x2 x3 : Int32} { σ : St} {ta : Nat} {H : Heap} {locs : List Loc} {ls : Array Slot} (hf : F_X4_constructorsOf_27 k4 x1 x2 x3 σ = some (r, σ')) (hP : va_P D vwCl (wC cA ad ta σ) H) (hD : va_D A (wC cA ad ta σ)) (hS : va_S A s.heap H locs) (hl : lv_has ls 4 [(0, .ref (ad 1)), (1, .int x1), (2, .int x2), (3, .int x3)]) : W p l e (rm_X4_constructorsOf) s m args below meth c H locs 0 0 (MQ below (QI D cA A (wC cA ad) r σ') args s 0 0 A) (F0 m 27 ls []) := by
  obtain ⟨hx, hb, hr, hml, hown, hlk, hE, hK, hA⟩ := id X
  rw [F_X4_constructorsOf_27] at hf
  refine lv_iinc (v := (x3 + 1)) (lv' := [(3, .int (x3 + 1)), (0, .ref (ad 1)), (1, .int x1), (2, .int x2)]) hx hb dX4_constructorsOf_27 hl (k := 3) rfl rfl (by decide) rfl (fun ls hl => ?_)
  refine lv_goto (tgt := 4) hx hb dX4_constructorsOf_30 (by decide) ?_
  exact K4 x1 x2 (x3 + 1) σ ta _ _ _ hf hP hD hS (lv_sub hl [1, 2, 3, 0] rfl)
set_option maxHeartbeats 4000000 in
set_option maxRecDepth 100000 in
theorem t_X4_constructorsOf_4  (X : Fx p s m meth c D cA A RX4 cX4_constructorsOf 4 (some .int))  : ∀ (n : Nat) (x1 x2 x3 : Int32) (σ : St) (ta : Nat) (H : Heap) (locs : List Loc) (ls : Array Slot), F_X4_constructorsOf_4 n x1 x2 x3 σ = some (r, σ') → va_P D vwCl (wC cA ad ta σ) H → va_D A (wC cA ad ta σ) → va_S A s.heap H locs → lv_has ls 4 [(0, .ref (ad 1)), (1, .int x1), (2, .int x2), (3, .int x3)] → W p l e (rm_X4_constructorsOf) s m args below meth c H locs 0 0 (MQ below (QI D cA A (wC cA ad) r σ') args s 0 0 A) (F0 m 4 ls []) := by
  obtain ⟨hx, hb, hr, hml, hown, hlk, hE, hK, hA⟩ := id X
  intro n
  induction n with
  | zero =>
    intro x1 x2 x3 σ ta H locs ls hf
    cases (show (none : Rs) = some _ from hf)
  | succ n ih =>
    intro x1 x2 x3 σ ta H locs ls hf hP hD hS hl
    rw [F_X4_constructorsOf_4] at hf
    refine lv_iload_n hx hb dX4_constructorsOf_4 rfl (lv_at hl 3 rfl) ?_
    refine lv_aload_n hx hb dX4_constructorsOf_5 rfl (lv_at hl 0 rfl) ?_
    refine gC_Sig_made X hP kw33 dX4_constructorsOf_6 ?_
    refine lv_icmp_ge (tgt := 33) hx hb dX4_constructorsOf_9 (by decide) (fun c1 => ?_) (fun c1 => ?_)
    · have hf := it_t c1 hf
      refine lv_iload_n hx hb dX4_constructorsOf_33 rfl (lv_at hl 2 rfl) ?_
      cases hf
      exact ret_i X hP hD hS dX4_constructorsOf_34
    · have hf := it_f c1 hf
      refine lv_aload_n hx hb dX4_constructorsOf_12 rfl (lv_at hl 0 rfl) ?_
      refine gC_Sig_ownTypes X hP kw28 dX4_constructorsOf_13 ?_
      refine lv_iload_n hx hb dX4_constructorsOf_16 rfl (lv_at hl 3 rfl) ?_
      refine callSN_i X cs_X8_get kw412 (c_get l D cA A (wC cA ad) ta σ 9 (ad 9) 60 (gA σ 9) x3 (by decide) rfl) ⟨by decide, by decide⟩ ⟨rfl, rfl⟩ hP hD hS rfl hl rfl (Nat.le_of_ble_eq_true rfl) dX4_constructorsOf_17 ⟨by decide, by decide⟩ (fun ta H locs hP hD hS => ?_)
      refine lv_topi (fun y2 ey2 => ?_)
      have hf := bd_x ey2 hf
      refine lv_iload_n hx hb dX4_constructorsOf_20 rfl (lv_at hl 1 rfl) ?_
      refine lv_icmp_ne (tgt := 27) hx hb dX4_constructorsOf_21 (by decide) (fun c3 => ?_) (fun c3 => ?_)
      · have hf := it_f c3 hf
        exact t_X4_constructorsOf_27 X ih hf hP hD hS (lv_sub hl [0, 1, 2, 3] rfl)
      · have hf := it_t c3 hf
        refine lv_iinc (v := (x2 + 1)) (lv' := [(2, .int (x2 + 1)), (0, .ref (ad 1)), (1, .int x1), (3, .int x3)]) hx hb dX4_constructorsOf_24 hl (k := 2) rfl rfl (by decide) rfl (fun ls hl => ?_)
        exact t_X4_constructorsOf_27 X ih hf hP hD hS (lv_sub hl [1, 2, 0, 3] rfl)
set_option maxHeartbeats 4000000 in
set_option maxRecDepth 100000 in
theorem t_X4_constructorsOf_0  (X : Fx p s m meth c D cA A RX4 cX4_constructorsOf 4 (some .int))  {x1 : Int32} { σ : St} {ta : Nat} {H : Heap} {locs : List Loc} {ls : Array Slot} (hf : F_X4_constructorsOf x1 σ = some (r, σ')) (hP : va_P D vwCl (wC cA ad ta σ) H) (hD : va_D A (wC cA ad ta σ)) (hS : va_S A s.heap H locs) (hl : lv_has ls 4 [(0, .ref (ad 1)), (1, .int x1)]) : W p l e (rm_X4_constructorsOf) s m args below meth c H locs 0 0 (MQ below (QI D cA A (wC cA ad) r σ') args s 0 0 A) (F0 m 0 ls []) := by
  obtain ⟨hx, hb, hr, hml, hown, hlk, hE, hK, hA⟩ := id X
  rw [F_X4_constructorsOf] at hf
  refine lv_iconst (v := 0) hx hb dX4_constructorsOf_0 (by decide) ?_
  refine lv_istore_n (lv' := [(2, .int 0), (0, .ref (ad 1)), (1, .int x1)]) hx hb dX4_constructorsOf_1 rfl hl (by decide) rfl (fun ls hl => ?_)
  refine lv_iconst (v := 0) hx hb dX4_constructorsOf_2 (by decide) ?_
  refine lv_istore_n (lv' := [(3, .int 0), (2, .int 0), (0, .ref (ad 1)), (1, .int x1)]) hx hb dX4_constructorsOf_3 rfl hl (by decide) rfl (fun ls hl => ?_)
  exact t_X4_constructorsOf_4 X  5000 x1 0 0 σ ta _ _ _ hf hP hD hS (lv_sub hl [2, 3, 1, 0] rfl)
end S_X4_constructorsOf
theorem c_X4_constructorsOf (l : Launch) (D : va_G) (cA : ClassId) (A : Nat → Prop) (ad : Nat → Nat) (ta : Nat) (σ : St) (x1 : Int32) (r : Int32) (σ' : St) (hf : F_X4_constructorsOf x1 σ = some (r, σ')) : MI l D cA A (wC cA ad) yX4_constructorsOf cX4_constructorsOf 4 (some .int) rm_X4_constructorsOf [.ref (ad 1), .int x1] ta σ r σ' 0 0 := by
  refine enter (by decide) (Nat.le_of_ble_eq_true rfl) ?_
  intro p e s m below meth c ls X hnm hP hD hS hl
  exact t_X4_constructorsOf_0 X hf hP hD hS hl
end
section
theorem zz_look : True := trivial
end
