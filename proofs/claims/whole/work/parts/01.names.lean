-- ===== PART A: goes FIRST, ahead of the names: the tables' words, and 'selects' of the private methods out of them =====
/-- a private method of a class that the tables say can be made, by its rows of tables_1 -/
def lw_okq (q : MethodName × Nat) : Prop := (q.1.cls ≠ "java/lang/invoke/MethodHandle" ∧ q.1.cls ≠ "java/lang/invoke/VarHandle") ∧ Cond.instantiable q.1.cls q.2 ∈ tables_1 ∧ Cond.privateMethod q.1 ∈ tables_1 ∧ Cond.instanceMethod q.1 ∈ tables_1
theorem lw_p0 : lw_okq (⟨"CookHands$Limbs", "set", "(I)V"⟩, 2) := ⟨⟨by decide +kernel, by decide +kernel⟩, List.mem_of_getElem? (i := 276) (by decide +kernel), List.mem_of_getElem? (i := 282) (by decide +kernel), List.mem_of_getElem? (i := 283) (by decide +kernel)⟩
theorem lw_p1 : lw_okq (⟨"CookHands$Planner", "forget", "()V"⟩, 16) := ⟨⟨by decide +kernel, by decide +kernel⟩, List.mem_of_getElem? (i := 171) (by decide +kernel), List.mem_of_getElem? (i := 341) (by decide +kernel), List.mem_of_getElem? (i := 342) (by decide +kernel)⟩
theorem lw_p2 : lw_okq (⟨"CookHands$Kitchen", "addCook", "(II)I"⟩, 9) := ⟨⟨by decide +kernel, by decide +kernel⟩, List.mem_of_getElem? (i := 29) (by decide +kernel), List.mem_of_getElem? (i := 345) (by decide +kernel), List.mem_of_getElem? (i := 346) (by decide +kernel)⟩
theorem lw_p3 : lw_okq (⟨"CookHands$Kitchen", "beginAnew", "()V"⟩, 9) := ⟨⟨by decide +kernel, by decide +kernel⟩, List.mem_of_getElem? (i := 29) (by decide +kernel), List.mem_of_getElem? (i := 352) (by decide +kernel), List.mem_of_getElem? (i := 353) (by decide +kernel)⟩
theorem lw_p4 : lw_okq (⟨"CookHands", "noted", "(I)I"⟩, 11) := ⟨⟨by decide +kernel, by decide +kernel⟩, List.mem_of_getElem? (i := 21) (by decide +kernel), List.mem_of_getElem? (i := 356) (by decide +kernel), List.mem_of_getElem? (i := 357) (by decide +kernel)⟩
theorem lw_p5 : lw_okq (⟨"CookHands", "refuse", "(II)I"⟩, 11) := ⟨⟨by decide +kernel, by decide +kernel⟩, List.mem_of_getElem? (i := 21) (by decide +kernel), List.mem_of_getElem? (i := 363) (by decide +kernel), List.mem_of_getElem? (i := 364) (by decide +kernel)⟩
theorem lw_p6 : lw_okq (⟨"CookHands$Kitchen", "addDish", "()I"⟩, 9) := ⟨⟨by decide +kernel, by decide +kernel⟩, List.mem_of_getElem? (i := 29) (by decide +kernel), List.mem_of_getElem? (i := 371) (by decide +kernel), List.mem_of_getElem? (i := 372) (by decide +kernel)⟩
theorem lw_p7 : lw_okq (⟨"CookHands$Kitchen", "addStep", "(IIIII)I"⟩, 9) := ⟨⟨by decide +kernel, by decide +kernel⟩, List.mem_of_getElem? (i := 29) (by decide +kernel), List.mem_of_getElem? (i := 379) (by decide +kernel), List.mem_of_getElem? (i := 380) (by decide +kernel)⟩
theorem lw_p8 : lw_okq (⟨"CookHands$Kitchen", "hasDish", "(I)Z"⟩, 9) := ⟨⟨by decide +kernel, by decide +kernel⟩, List.mem_of_getElem? (i := 29) (by decide +kernel), List.mem_of_getElem? (i := 383) (by decide +kernel), List.mem_of_getElem? (i := 384) (by decide +kernel)⟩
theorem lw_p9 : lw_okq (⟨"CookHands$Dish", "add", "(IIII)V"⟩, 6) := ⟨⟨by decide +kernel, by decide +kernel⟩, List.mem_of_getElem? (i := 36) (by decide +kernel), List.mem_of_getElem? (i := 387) (by decide +kernel), List.mem_of_getElem? (i := 388) (by decide +kernel)⟩
theorem lw_p10 : lw_okq (⟨"CookHands$Kitchen", "layKnives", "(I)I"⟩, 9) := ⟨⟨by decide +kernel, by decide +kernel⟩, List.mem_of_getElem? (i := 29) (by decide +kernel), List.mem_of_getElem? (i := 395) (by decide +kernel), List.mem_of_getElem? (i := 396) (by decide +kernel)⟩
theorem lw_p11 : lw_okq (⟨"CookHands$Kitchen", "tellStrike", "(Z)I"⟩, 9) := ⟨⟨by decide +kernel, by decide +kernel⟩, List.mem_of_getElem? (i := 29) (by decide +kernel), List.mem_of_getElem? (i := 403) (by decide +kernel), List.mem_of_getElem? (i := 404) (by decide +kernel)⟩
theorem lw_p12 : lw_okq (⟨"CookHands$Kitchen", "hasCook", "(I)Z"⟩, 9) := ⟨⟨by decide +kernel, by decide +kernel⟩, List.mem_of_getElem? (i := 29) (by decide +kernel), List.mem_of_getElem? (i := 411) (by decide +kernel), List.mem_of_getElem? (i := 412) (by decide +kernel)⟩
theorem lw_p13 : lw_okq (⟨"CookHands$Kitchen", "kindOf", "(I)I"⟩, 9) := ⟨⟨by decide +kernel, by decide +kernel⟩, List.mem_of_getElem? (i := 29) (by decide +kernel), List.mem_of_getElem? (i := 415) (by decide +kernel), List.mem_of_getElem? (i := 416) (by decide +kernel)⟩
theorem lw_p14 : lw_okq (⟨"CookHands$Card", "append", "(JI)V"⟩, 6) := ⟨⟨by decide +kernel, by decide +kernel⟩, List.mem_of_getElem? (i := 243) (by decide +kernel), List.mem_of_getElem? (i := 438) (by decide +kernel), List.mem_of_getElem? (i := 439) (by decide +kernel)⟩
theorem lw_p15 : lw_okq (⟨"CookHands$Card", "parse", "()I"⟩, 6) := ⟨⟨by decide +kernel, by decide +kernel⟩, List.mem_of_getElem? (i := 243) (by decide +kernel), List.mem_of_getElem? (i := 451) (by decide +kernel), List.mem_of_getElem? (i := 452) (by decide +kernel)⟩
def lw_privs_1 : List (MethodName × Nat) := [(⟨"CookHands$Limbs", "set", "(I)V"⟩, 2), (⟨"CookHands$Planner", "forget", "()V"⟩, 16), (⟨"CookHands$Kitchen", "addCook", "(II)I"⟩, 9), (⟨"CookHands$Kitchen", "beginAnew", "()V"⟩, 9), (⟨"CookHands", "noted", "(I)I"⟩, 11), (⟨"CookHands", "refuse", "(II)I"⟩, 11), (⟨"CookHands$Kitchen", "addDish", "()I"⟩, 9), (⟨"CookHands$Kitchen", "addStep", "(IIIII)I"⟩, 9), (⟨"CookHands$Kitchen", "hasDish", "(I)Z"⟩, 9), (⟨"CookHands$Dish", "add", "(IIII)V"⟩, 6), (⟨"CookHands$Kitchen", "layKnives", "(I)I"⟩, 9), (⟨"CookHands$Kitchen", "tellStrike", "(Z)I"⟩, 9), (⟨"CookHands$Kitchen", "hasCook", "(I)Z"⟩, 9), (⟨"CookHands$Kitchen", "kindOf", "(I)I"⟩, 9), (⟨"CookHands$Card", "append", "(JI)V"⟩, 6), (⟨"CookHands$Card", "parse", "()I"⟩, 6)]
theorem lw_r1 : ∀ q ∈ lw_privs_1, lw_okq q := List.forall_mem_cons.mpr ⟨lw_p0, List.forall_mem_cons.mpr ⟨lw_p1, List.forall_mem_cons.mpr ⟨lw_p2, List.forall_mem_cons.mpr ⟨lw_p3, List.forall_mem_cons.mpr ⟨lw_p4, List.forall_mem_cons.mpr ⟨lw_p5, List.forall_mem_cons.mpr ⟨lw_p6, List.forall_mem_cons.mpr ⟨lw_p7, List.forall_mem_cons.mpr ⟨lw_p8, List.forall_mem_cons.mpr ⟨lw_p9, List.forall_mem_cons.mpr ⟨lw_p10, List.forall_mem_cons.mpr ⟨lw_p11, List.forall_mem_cons.mpr ⟨lw_p12, List.forall_mem_cons.mpr ⟨lw_p13, List.forall_mem_cons.mpr ⟨lw_p14, List.forall_mem_cons.mpr ⟨lw_p15, fun _ h => absurd h List.not_mem_nil⟩⟩⟩⟩⟩⟩⟩⟩⟩⟩⟩⟩⟩⟩⟩⟩
theorem lw_p16 : lw_okq (⟨"CookHands$Card", "skipBlanks", "()V"⟩, 6) := ⟨⟨by decide +kernel, by decide +kernel⟩, List.mem_of_getElem? (i := 243) (by decide +kernel), List.mem_of_getElem? (i := 455) (by decide +kernel), List.mem_of_getElem? (i := 456) (by decide +kernel)⟩
theorem lw_p17 : lw_okq (⟨"CookHands$Card", "runEnd", "(II)I"⟩, 6) := ⟨⟨by decide +kernel, by decide +kernel⟩, List.mem_of_getElem? (i := 243) (by decide +kernel), List.mem_of_getElem? (i := 459) (by decide +kernel), List.mem_of_getElem? (i := 460) (by decide +kernel)⟩
theorem lw_p18 : lw_okq (⟨"CookHands$Card", "byteAt", "(I)I"⟩, 6) := ⟨⟨by decide +kernel, by decide +kernel⟩, List.mem_of_getElem? (i := 243) (by decide +kernel), List.mem_of_getElem? (i := 463) (by decide +kernel), List.mem_of_getElem? (i := 464) (by decide +kernel)⟩
theorem lw_p19 : lw_okq (⟨"CookHands$Card", "takeItem", "()Z"⟩, 6) := ⟨⟨by decide +kernel, by decide +kernel⟩, List.mem_of_getElem? (i := 243) (by decide +kernel), List.mem_of_getElem? (i := 467) (by decide +kernel), List.mem_of_getElem? (i := 468) (by decide +kernel)⟩
theorem lw_p20 : lw_okq (⟨"CookHands$Card", "takeWord", "()I"⟩, 6) := ⟨⟨by decide +kernel, by decide +kernel⟩, List.mem_of_getElem? (i := 243) (by decide +kernel), List.mem_of_getElem? (i := 471) (by decide +kernel), List.mem_of_getElem? (i := 472) (by decide +kernel)⟩
theorem lw_p21 : lw_okq (⟨"CookHands$Card", "isSpelt", "(Ljava/lang/String;I)Z"⟩, 6) := ⟨⟨by decide +kernel, by decide +kernel⟩, List.mem_of_getElem? (i := 243) (by decide +kernel), List.mem_of_getElem? (i := 476) (by decide +kernel), List.mem_of_getElem? (i := 477) (by decide +kernel)⟩
theorem lw_p22 : lw_okq (⟨"CookHands$Card", "takeNumber", "()I"⟩, 6) := ⟨⟨by decide +kernel, by decide +kernel⟩, List.mem_of_getElem? (i := 243) (by decide +kernel), List.mem_of_getElem? (i := 534) (by decide +kernel), List.mem_of_getElem? (i := 535) (by decide +kernel)⟩
theorem lw_p23 : lw_okq (⟨"CookHands$Card", "takeSemicolon", "()Z"⟩, 6) := ⟨⟨by decide +kernel, by decide +kernel⟩, List.mem_of_getElem? (i := 243) (by decide +kernel), List.mem_of_getElem? (i := 538) (by decide +kernel), List.mem_of_getElem? (i := 539) (by decide +kernel)⟩
theorem lw_p24 : lw_okq (⟨"CookHands$Kitchen", "empty", "()V"⟩, 9) := ⟨⟨by decide +kernel, by decide +kernel⟩, List.mem_of_getElem? (i := 29) (by decide +kernel), List.mem_of_getElem? (i := 542) (by decide +kernel), List.mem_of_getElem? (i := 543) (by decide +kernel)⟩
theorem lw_p25 : lw_okq (⟨"CookHands$Card", "tellItem", "(ILCookHands$Kitchen;)I"⟩, 6) := ⟨⟨by decide +kernel, by decide +kernel⟩, List.mem_of_getElem? (i := 243) (by decide +kernel), List.mem_of_getElem? (i := 546) (by decide +kernel), List.mem_of_getElem? (i := 547) (by decide +kernel)⟩
theorem lw_p26 : lw_okq (⟨"CookHands$Kitchen", "copyFrom", "(LCookHands$Kitchen;)V"⟩, 9) := ⟨⟨by decide +kernel, by decide +kernel⟩, List.mem_of_getElem? (i := 29) (by decide +kernel), List.mem_of_getElem? (i := 555) (by decide +kernel), List.mem_of_getElem? (i := 556) (by decide +kernel)⟩
theorem lw_p27 : lw_okq (⟨"CookHands$Dish", "copyFrom", "(LCookHands$Dish;)V"⟩, 6) := ⟨⟨by decide +kernel, by decide +kernel⟩, List.mem_of_getElem? (i := 36) (by decide +kernel), List.mem_of_getElem? (i := 562) (by decide +kernel), List.mem_of_getElem? (i := 563) (by decide +kernel)⟩
theorem lw_p28 : lw_okq (⟨"CookHands$Planner", "plan", "()I"⟩, 16) := ⟨⟨by decide +kernel, by decide +kernel⟩, List.mem_of_getElem? (i := 171) (by decide +kernel), List.mem_of_getElem? (i := 572) (by decide +kernel), List.mem_of_getElem? (i := 573) (by decide +kernel)⟩
theorem lw_p29 : lw_okq (⟨"CookHands$Crew", "gather", "(Z)V"⟩, 11) := ⟨⟨by decide +kernel, by decide +kernel⟩, List.mem_of_getElem? (i := 107) (by decide +kernel), List.mem_of_getElem? (i := 576) (by decide +kernel), List.mem_of_getElem? (i := 577) (by decide +kernel)⟩
theorem lw_p30 : lw_okq (⟨"CookHands$Hands", "empty", "()V"⟩, 5) := ⟨⟨by decide +kernel, by decide +kernel⟩, List.mem_of_getElem? (i := 113) (by decide +kernel), List.mem_of_getElem? (i := 580) (by decide +kernel), List.mem_of_getElem? (i := 581) (by decide +kernel)⟩
theorem lw_p31 : lw_okq (⟨"CookHands$Crew", "setFree", "(IZZ)V"⟩, 11) := ⟨⟨by decide +kernel, by decide +kernel⟩, List.mem_of_getElem? (i := 107) (by decide +kernel), List.mem_of_getElem? (i := 589) (by decide +kernel), List.mem_of_getElem? (i := 590) (by decide +kernel)⟩
def lw_privs_2 : List (MethodName × Nat) := [(⟨"CookHands$Card", "skipBlanks", "()V"⟩, 6), (⟨"CookHands$Card", "runEnd", "(II)I"⟩, 6), (⟨"CookHands$Card", "byteAt", "(I)I"⟩, 6), (⟨"CookHands$Card", "takeItem", "()Z"⟩, 6), (⟨"CookHands$Card", "takeWord", "()I"⟩, 6), (⟨"CookHands$Card", "isSpelt", "(Ljava/lang/String;I)Z"⟩, 6), (⟨"CookHands$Card", "takeNumber", "()I"⟩, 6), (⟨"CookHands$Card", "takeSemicolon", "()Z"⟩, 6), (⟨"CookHands$Kitchen", "empty", "()V"⟩, 9), (⟨"CookHands$Card", "tellItem", "(ILCookHands$Kitchen;)I"⟩, 6), (⟨"CookHands$Kitchen", "copyFrom", "(LCookHands$Kitchen;)V"⟩, 9), (⟨"CookHands$Dish", "copyFrom", "(LCookHands$Dish;)V"⟩, 6), (⟨"CookHands$Planner", "plan", "()I"⟩, 16), (⟨"CookHands$Crew", "gather", "(Z)V"⟩, 11), (⟨"CookHands$Hands", "empty", "()V"⟩, 5), (⟨"CookHands$Crew", "setFree", "(IZZ)V"⟩, 11)]
theorem lw_r2 : ∀ q ∈ lw_privs_2, lw_okq q := List.forall_mem_cons.mpr ⟨lw_p16, List.forall_mem_cons.mpr ⟨lw_p17, List.forall_mem_cons.mpr ⟨lw_p18, List.forall_mem_cons.mpr ⟨lw_p19, List.forall_mem_cons.mpr ⟨lw_p20, List.forall_mem_cons.mpr ⟨lw_p21, List.forall_mem_cons.mpr ⟨lw_p22, List.forall_mem_cons.mpr ⟨lw_p23, List.forall_mem_cons.mpr ⟨lw_p24, List.forall_mem_cons.mpr ⟨lw_p25, List.forall_mem_cons.mpr ⟨lw_p26, List.forall_mem_cons.mpr ⟨lw_p27, List.forall_mem_cons.mpr ⟨lw_p28, List.forall_mem_cons.mpr ⟨lw_p29, List.forall_mem_cons.mpr ⟨lw_p30, List.forall_mem_cons.mpr ⟨lw_p31, fun _ h => absurd h List.not_mem_nil⟩⟩⟩⟩⟩⟩⟩⟩⟩⟩⟩⟩⟩⟩⟩⟩
theorem lw_p32 : lw_okq (⟨"CookHands$Hands", "add", "(ZZI)V"⟩, 5) := ⟨⟨by decide +kernel, by decide +kernel⟩, List.mem_of_getElem? (i := 113) (by decide +kernel), List.mem_of_getElem? (i := 593) (by decide +kernel), List.mem_of_getElem? (i := 594) (by decide +kernel)⟩
theorem lw_p33 : lw_okq (⟨"CookHands$Planner", "survey", "()I"⟩, 16) := ⟨⟨by decide +kernel, by decide +kernel⟩, List.mem_of_getElem? (i := 171) (by decide +kernel), List.mem_of_getElem? (i := 598) (by decide +kernel), List.mem_of_getElem? (i := 599) (by decide +kernel)⟩
theorem lw_p34 : lw_okq (⟨"CookHands$Planner", "layPlaces", "()V"⟩, 16) := ⟨⟨by decide +kernel, by decide +kernel⟩, List.mem_of_getElem? (i := 171) (by decide +kernel), List.mem_of_getElem? (i := 602) (by decide +kernel), List.mem_of_getElem? (i := 603) (by decide +kernel)⟩
theorem lw_p35 : lw_okq (⟨"CookHands$Kitchen", "dishAt", "(I)LCookHands$Dish;"⟩, 9) := ⟨⟨by decide +kernel, by decide +kernel⟩, List.mem_of_getElem? (i := 29) (by decide +kernel), List.mem_of_getElem? (i := 606) (by decide +kernel), List.mem_of_getElem? (i := 607) (by decide +kernel)⟩
theorem lw_p36 : lw_okq (⟨"CookHands$Dish", "minutesLong", "()I"⟩, 6) := ⟨⟨by decide +kernel, by decide +kernel⟩, List.mem_of_getElem? (i := 36) (by decide +kernel), List.mem_of_getElem? (i := 613) (by decide +kernel), List.mem_of_getElem? (i := 614) (by decide +kernel)⟩
theorem lw_p37 : lw_okq (⟨"CookHands$Dish", "stepAfter", "(I)I"⟩, 6) := ⟨⟨by decide +kernel, by decide +kernel⟩, List.mem_of_getElem? (i := 36) (by decide +kernel), List.mem_of_getElem? (i := 617) (by decide +kernel), List.mem_of_getElem? (i := 618) (by decide +kernel)⟩
theorem lw_p38 : lw_okq (⟨"CookHands$Dish", "minutesInStepAfter", "(I)I"⟩, 6) := ⟨⟨by decide +kernel, by decide +kernel⟩, List.mem_of_getElem? (i := 36) (by decide +kernel), List.mem_of_getElem? (i := 621) (by decide +kernel), List.mem_of_getElem? (i := 622) (by decide +kernel)⟩
theorem lw_p39 : lw_okq (⟨"CookHands$Planner", "layOpenSets", "()V"⟩, 16) := ⟨⟨by decide +kernel, by decide +kernel⟩, List.mem_of_getElem? (i := 171) (by decide +kernel), List.mem_of_getElem? (i := 626) (by decide +kernel), List.mem_of_getElem? (i := 627) (by decide +kernel)⟩
theorem lw_p40 : lw_okq (⟨"CookHands$Crew", "isEnoughFor", "(I)Z"⟩, 11) := ⟨⟨by decide +kernel, by decide +kernel⟩, List.mem_of_getElem? (i := 107) (by decide +kernel), List.mem_of_getElem? (i := 630) (by decide +kernel), List.mem_of_getElem? (i := 631) (by decide +kernel)⟩
theorem lw_p41 : lw_okq (⟨"CookHands$Crew", "askFor", "(I)V"⟩, 11) := ⟨⟨by decide +kernel, by decide +kernel⟩, List.mem_of_getElem? (i := 107) (by decide +kernel), List.mem_of_getElem? (i := 634) (by decide +kernel), List.mem_of_getElem? (i := 635) (by decide +kernel)⟩
theorem lw_p42 : lw_okq (⟨"CookHands$Dish", "hasStep", "(I)Z"⟩, 6) := ⟨⟨by decide +kernel, by decide +kernel⟩, List.mem_of_getElem? (i := 36) (by decide +kernel), List.mem_of_getElem? (i := 642) (by decide +kernel), List.mem_of_getElem? (i := 643) (by decide +kernel)⟩
theorem lw_p43 : lw_okq (⟨"CookHands$Hands", "addStep", "(III)V"⟩, 5) := ⟨⟨by decide +kernel, by decide +kernel⟩, List.mem_of_getElem? (i := 113) (by decide +kernel), List.mem_of_getElem? (i := 646) (by decide +kernel), List.mem_of_getElem? (i := 647) (by decide +kernel)⟩
theorem lw_p44 : lw_okq (⟨"CookHands$Hands", "covers", "(LCookHands$Hands;)Z"⟩, 5) := ⟨⟨by decide +kernel, by decide +kernel⟩, List.mem_of_getElem? (i := 113) (by decide +kernel), List.mem_of_getElem? (i := 650) (by decide +kernel), List.mem_of_getElem? (i := 651) (by decide +kernel)⟩
theorem lw_p45 : lw_okq (⟨"CookHands$Planner", "layStates", "()V"⟩, 16) := ⟨⟨by decide +kernel, by decide +kernel⟩, List.mem_of_getElem? (i := 171) (by decide +kernel), List.mem_of_getElem? (i := 666) (by decide +kernel), List.mem_of_getElem? (i := 667) (by decide +kernel)⟩
theorem lw_p46 : lw_okq (⟨"CookHands$Planner", "keyOfState", "(I)I"⟩, 16) := ⟨⟨by decide +kernel, by decide +kernel⟩, List.mem_of_getElem? (i := 171) (by decide +kernel), List.mem_of_getElem? (i := 673) (by decide +kernel), List.mem_of_getElem? (i := 674) (by decide +kernel)⟩
theorem lw_p47 : lw_okq (⟨"CookHands$Planner", "begunIn", "(I)I"⟩, 16) := ⟨⟨by decide +kernel, by decide +kernel⟩, List.mem_of_getElem? (i := 171) (by decide +kernel), List.mem_of_getElem? (i := 682) (by decide +kernel), List.mem_of_getElem? (i := 683) (by decide +kernel)⟩
def lw_privs_3 : List (MethodName × Nat) := [(⟨"CookHands$Hands", "add", "(ZZI)V"⟩, 5), (⟨"CookHands$Planner", "survey", "()I"⟩, 16), (⟨"CookHands$Planner", "layPlaces", "()V"⟩, 16), (⟨"CookHands$Kitchen", "dishAt", "(I)LCookHands$Dish;"⟩, 9), (⟨"CookHands$Dish", "minutesLong", "()I"⟩, 6), (⟨"CookHands$Dish", "stepAfter", "(I)I"⟩, 6), (⟨"CookHands$Dish", "minutesInStepAfter", "(I)I"⟩, 6), (⟨"CookHands$Planner", "layOpenSets", "()V"⟩, 16), (⟨"CookHands$Crew", "isEnoughFor", "(I)Z"⟩, 11), (⟨"CookHands$Crew", "askFor", "(I)V"⟩, 11), (⟨"CookHands$Dish", "hasStep", "(I)Z"⟩, 6), (⟨"CookHands$Hands", "addStep", "(III)V"⟩, 5), (⟨"CookHands$Hands", "covers", "(LCookHands$Hands;)Z"⟩, 5), (⟨"CookHands$Planner", "layStates", "()V"⟩, 16), (⟨"CookHands$Planner", "keyOfState", "(I)I"⟩, 16), (⟨"CookHands$Planner", "begunIn", "(I)I"⟩, 16)]
theorem lw_r3 : ∀ q ∈ lw_privs_3, lw_okq q := List.forall_mem_cons.mpr ⟨lw_p32, List.forall_mem_cons.mpr ⟨lw_p33, List.forall_mem_cons.mpr ⟨lw_p34, List.forall_mem_cons.mpr ⟨lw_p35, List.forall_mem_cons.mpr ⟨lw_p36, List.forall_mem_cons.mpr ⟨lw_p37, List.forall_mem_cons.mpr ⟨lw_p38, List.forall_mem_cons.mpr ⟨lw_p39, List.forall_mem_cons.mpr ⟨lw_p40, List.forall_mem_cons.mpr ⟨lw_p41, List.forall_mem_cons.mpr ⟨lw_p42, List.forall_mem_cons.mpr ⟨lw_p43, List.forall_mem_cons.mpr ⟨lw_p44, List.forall_mem_cons.mpr ⟨lw_p45, List.forall_mem_cons.mpr ⟨lw_p46, List.forall_mem_cons.mpr ⟨lw_p47, fun _ h => absurd h List.not_mem_nil⟩⟩⟩⟩⟩⟩⟩⟩⟩⟩⟩⟩⟩⟩⟩⟩
theorem lw_p48 : lw_okq (⟨"CookHands$Planner", "countFewest", "()V"⟩, 16) := ⟨⟨by decide +kernel, by decide +kernel⟩, List.mem_of_getElem? (i := 171) (by decide +kernel), List.mem_of_getElem? (i := 686) (by decide +kernel), List.mem_of_getElem? (i := 687) (by decide +kernel)⟩
theorem lw_p49 : lw_okq (⟨"CookHands$Planner", "lastState", "()I"⟩, 16) := ⟨⟨by decide +kernel, by decide +kernel⟩, List.mem_of_getElem? (i := 171) (by decide +kernel), List.mem_of_getElem? (i := 690) (by decide +kernel), List.mem_of_getElem? (i := 691) (by decide +kernel)⟩
theorem lw_p50 : lw_okq (⟨"CookHands$Planner", "leastBehind", "([III)I"⟩, 16) := ⟨⟨by decide +kernel, by decide +kernel⟩, List.mem_of_getElem? (i := 171) (by decide +kernel), List.mem_of_getElem? (i := 694) (by decide +kernel), List.mem_of_getElem? (i := 695) (by decide +kernel)⟩
theorem lw_p51 : lw_okq (⟨"CookHands$Planner", "minutesFor", "(I)I"⟩, 16) := ⟨⟨by decide +kernel, by decide +kernel⟩, List.mem_of_getElem? (i := 171) (by decide +kernel), List.mem_of_getElem? (i := 704) (by decide +kernel), List.mem_of_getElem? (i := 705) (by decide +kernel)⟩
theorem lw_p52 : lw_okq (⟨"CookHands$Planner", "writeRow", "()V"⟩, 16) := ⟨⟨by decide +kernel, by decide +kernel⟩, List.mem_of_getElem? (i := 171) (by decide +kernel), List.mem_of_getElem? (i := 708) (by decide +kernel), List.mem_of_getElem? (i := 709) (by decide +kernel)⟩
theorem lw_p53 : lw_okq (⟨"CookHands$Row", "empty", "()V"⟩, 3) := ⟨⟨by decide +kernel, by decide +kernel⟩, List.mem_of_getElem? (i := 177) (by decide +kernel), List.mem_of_getElem? (i := 712) (by decide +kernel), List.mem_of_getElem? (i := 713) (by decide +kernel)⟩
theorem lw_p54 : lw_okq (⟨"CookHands$Planner", "firstState", "()I"⟩, 16) := ⟨⟨by decide +kernel, by decide +kernel⟩, List.mem_of_getElem? (i := 171) (by decide +kernel), List.mem_of_getElem? (i := 716) (by decide +kernel), List.mem_of_getElem? (i := 717) (by decide +kernel)⟩
theorem lw_p55 : lw_okq (⟨"CookHands$Planner", "firstShortening", "(I)I"⟩, 16) := ⟨⟨by decide +kernel, by decide +kernel⟩, List.mem_of_getElem? (i := 171) (by decide +kernel), List.mem_of_getElem? (i := 720) (by decide +kernel), List.mem_of_getElem? (i := 721) (by decide +kernel)⟩
theorem lw_p56 : lw_okq (⟨"CookHands$Crew", "lineUp", "(I)V"⟩, 11) := ⟨⟨by decide +kernel, by decide +kernel⟩, List.mem_of_getElem? (i := 107) (by decide +kernel), List.mem_of_getElem? (i := 724) (by decide +kernel), List.mem_of_getElem? (i := 725) (by decide +kernel)⟩
theorem lw_p57 : lw_okq (⟨"CookHands$Dish", "handsOf", "(I)I"⟩, 6) := ⟨⟨by decide +kernel, by decide +kernel⟩, List.mem_of_getElem? (i := 36) (by decide +kernel), List.mem_of_getElem? (i := 728) (by decide +kernel), List.mem_of_getElem? (i := 729) (by decide +kernel)⟩
theorem lw_p58 : lw_okq (⟨"CookHands$Dish", "isRightHand", "(II)Z"⟩, 6) := ⟨⟨by decide +kernel, by decide +kernel⟩, List.mem_of_getElem? (i := 36) (by decide +kernel), List.mem_of_getElem? (i := 733) (by decide +kernel), List.mem_of_getElem? (i := 734) (by decide +kernel)⟩
theorem lw_p59 : lw_okq (⟨"CookHands$Dish", "isSharpHand", "(II)Z"⟩, 6) := ⟨⟨by decide +kernel, by decide +kernel⟩, List.mem_of_getElem? (i := 36) (by decide +kernel), List.mem_of_getElem? (i := 737) (by decide +kernel), List.mem_of_getElem? (i := 738) (by decide +kernel)⟩
theorem lw_p60 : lw_okq (⟨"CookHands$Crew", "firstFor", "(ZZ)I"⟩, 11) := ⟨⟨by decide +kernel, by decide +kernel⟩, List.mem_of_getElem? (i := 107) (by decide +kernel), List.mem_of_getElem? (i := 741) (by decide +kernel), List.mem_of_getElem? (i := 742) (by decide +kernel)⟩
theorem lw_p61 : lw_okq (⟨"CookHands$Crew", "canGive", "(IZZ)Z"⟩, 11) := ⟨⟨by decide +kernel, by decide +kernel⟩, List.mem_of_getElem? (i := 107) (by decide +kernel), List.mem_of_getElem? (i := 745) (by decide +kernel), List.mem_of_getElem? (i := 746) (by decide +kernel)⟩
theorem lw_p62 : lw_okq (⟨"CookHands$Row", "add", "(ILCookHands$Crew;)V"⟩, 3) := ⟨⟨by decide +kernel, by decide +kernel⟩, List.mem_of_getElem? (i := 177) (by decide +kernel), List.mem_of_getElem? (i := 749) (by decide +kernel), List.mem_of_getElem? (i := 750) (by decide +kernel)⟩
theorem lw_p63 : lw_okq (⟨"CookHands$Crew", "teamOf", "(I)I"⟩, 11) := ⟨⟨by decide +kernel, by decide +kernel⟩, List.mem_of_getElem? (i := 107) (by decide +kernel), List.mem_of_getElem? (i := 753) (by decide +kernel), List.mem_of_getElem? (i := 754) (by decide +kernel)⟩
def lw_privs_4 : List (MethodName × Nat) := [(⟨"CookHands$Planner", "countFewest", "()V"⟩, 16), (⟨"CookHands$Planner", "lastState", "()I"⟩, 16), (⟨"CookHands$Planner", "leastBehind", "([III)I"⟩, 16), (⟨"CookHands$Planner", "minutesFor", "(I)I"⟩, 16), (⟨"CookHands$Planner", "writeRow", "()V"⟩, 16), (⟨"CookHands$Row", "empty", "()V"⟩, 3), (⟨"CookHands$Planner", "firstState", "()I"⟩, 16), (⟨"CookHands$Planner", "firstShortening", "(I)I"⟩, 16), (⟨"CookHands$Crew", "lineUp", "(I)V"⟩, 11), (⟨"CookHands$Dish", "handsOf", "(I)I"⟩, 6), (⟨"CookHands$Dish", "isRightHand", "(II)Z"⟩, 6), (⟨"CookHands$Dish", "isSharpHand", "(II)Z"⟩, 6), (⟨"CookHands$Crew", "firstFor", "(ZZ)I"⟩, 11), (⟨"CookHands$Crew", "canGive", "(IZZ)Z"⟩, 11), (⟨"CookHands$Row", "add", "(ILCookHands$Crew;)V"⟩, 3), (⟨"CookHands$Crew", "teamOf", "(I)I"⟩, 11)]
theorem lw_r4 : ∀ q ∈ lw_privs_4, lw_okq q := List.forall_mem_cons.mpr ⟨lw_p48, List.forall_mem_cons.mpr ⟨lw_p49, List.forall_mem_cons.mpr ⟨lw_p50, List.forall_mem_cons.mpr ⟨lw_p51, List.forall_mem_cons.mpr ⟨lw_p52, List.forall_mem_cons.mpr ⟨lw_p53, List.forall_mem_cons.mpr ⟨lw_p54, List.forall_mem_cons.mpr ⟨lw_p55, List.forall_mem_cons.mpr ⟨lw_p56, List.forall_mem_cons.mpr ⟨lw_p57, List.forall_mem_cons.mpr ⟨lw_p58, List.forall_mem_cons.mpr ⟨lw_p59, List.forall_mem_cons.mpr ⟨lw_p60, List.forall_mem_cons.mpr ⟨lw_p61, List.forall_mem_cons.mpr ⟨lw_p62, List.forall_mem_cons.mpr ⟨lw_p63, fun _ h => absurd h List.not_mem_nil⟩⟩⟩⟩⟩⟩⟩⟩⟩⟩⟩⟩⟩⟩⟩⟩
theorem lw_p64 : lw_okq (⟨"CookHands$Row", "setAt", "(I)I"⟩, 3) := ⟨⟨by decide +kernel, by decide +kernel⟩, List.mem_of_getElem? (i := 177) (by decide +kernel), List.mem_of_getElem? (i := 761) (by decide +kernel), List.mem_of_getElem? (i := 762) (by decide +kernel)⟩
theorem lw_p65 : lw_okq (⟨"CookHands$Kitchen", "hasDishes", "(I)Z"⟩, 9) := ⟨⟨by decide +kernel, by decide +kernel⟩, List.mem_of_getElem? (i := 29) (by decide +kernel), List.mem_of_getElem? (i := 769) (by decide +kernel), List.mem_of_getElem? (i := 770) (by decide +kernel)⟩
theorem lw_p66 : lw_okq (⟨"CookHands$Kitchen", "allDishes", "()I"⟩, 9) := ⟨⟨by decide +kernel, by decide +kernel⟩, List.mem_of_getElem? (i := 29) (by decide +kernel), List.mem_of_getElem? (i := 773) (by decide +kernel), List.mem_of_getElem? (i := 774) (by decide +kernel)⟩
theorem lw_p67 : lw_okq (⟨"CookHands$Kitchen", "anyDone", "(I)Z"⟩, 9) := ⟨⟨by decide +kernel, by decide +kernel⟩, List.mem_of_getElem? (i := 29) (by decide +kernel), List.mem_of_getElem? (i := 777) (by decide +kernel), List.mem_of_getElem? (i := 778) (by decide +kernel)⟩
theorem lw_p68 : lw_okq (⟨"CookHands$Dish", "isDone", "()Z"⟩, 6) := ⟨⟨by decide +kernel, by decide +kernel⟩, List.mem_of_getElem? (i := 36) (by decide +kernel), List.mem_of_getElem? (i := 782) (by decide +kernel), List.mem_of_getElem? (i := 783) (by decide +kernel)⟩
theorem lw_p69 : lw_okq (⟨"CookHands", "canGoOn", "(I)Z"⟩, 11) := ⟨⟨by decide +kernel, by decide +kernel⟩, List.mem_of_getElem? (i := 21) (by decide +kernel), List.mem_of_getElem? (i := 787) (by decide +kernel), List.mem_of_getElem? (i := 788) (by decide +kernel)⟩
theorem lw_p70 : lw_okq (⟨"CookHands$Kitchen", "keyOf", "(I)I"⟩, 9) := ⟨⟨by decide +kernel, by decide +kernel⟩, List.mem_of_getElem? (i := 29) (by decide +kernel), List.mem_of_getElem? (i := 792) (by decide +kernel), List.mem_of_getElem? (i := 793) (by decide +kernel)⟩
theorem lw_p71 : lw_okq (⟨"CookHands$Crew", "cookInRow", "(I)I"⟩, 11) := ⟨⟨by decide +kernel, by decide +kernel⟩, List.mem_of_getElem? (i := 107) (by decide +kernel), List.mem_of_getElem? (i := 802) (by decide +kernel), List.mem_of_getElem? (i := 803) (by decide +kernel)⟩
theorem lw_p72 : lw_okq (⟨"CookHands$Planner", "coldest", "(I)I"⟩, 16) := ⟨⟨by decide +kernel, by decide +kernel⟩, List.mem_of_getElem? (i := 171) (by decide +kernel), List.mem_of_getElem? (i := 810) (by decide +kernel), List.mem_of_getElem? (i := 811) (by decide +kernel)⟩
theorem lw_p73 : lw_okq (⟨"CookHands$Planner", "doneIn", "(I)I"⟩, 16) := ⟨⟨by decide +kernel, by decide +kernel⟩, List.mem_of_getElem? (i := 171) (by decide +kernel), List.mem_of_getElem? (i := 814) (by decide +kernel), List.mem_of_getElem? (i := 815) (by decide +kernel)⟩
theorem lw_p74 : lw_okq (⟨"CookHands$Crew", "addNobodysHand", "(Z)V"⟩, 11) := ⟨⟨by decide +kernel, by decide +kernel⟩, List.mem_of_getElem? (i := 107) (by decide +kernel), List.mem_of_getElem? (i := 822) (by decide +kernel), List.mem_of_getElem? (i := 823) (by decide +kernel)⟩
theorem lw_p75 : lw_okq (⟨"CookHands$Planner", "fewestMinutes", "()I"⟩, 16) := ⟨⟨by decide +kernel, by decide +kernel⟩, List.mem_of_getElem? (i := 171) (by decide +kernel), List.mem_of_getElem? (i := 826) (by decide +kernel), List.mem_of_getElem? (i := 827) (by decide +kernel)⟩
theorem lw_p76 : lw_okq (⟨"CookHands$Crew", "sendAway", "(I)V"⟩, 11) := ⟨⟨by decide +kernel, by decide +kernel⟩, List.mem_of_getElem? (i := 107) (by decide +kernel), List.mem_of_getElem? (i := 834) (by decide +kernel), List.mem_of_getElem? (i := 835) (by decide +kernel)⟩
theorem lw_p77 : lw_okq (⟨"CookHands$Row", "countShared", "()I"⟩, 3) := ⟨⟨by decide +kernel, by decide +kernel⟩, List.mem_of_getElem? (i := 177) (by decide +kernel), List.mem_of_getElem? (i := 858) (by decide +kernel), List.mem_of_getElem? (i := 859) (by decide +kernel)⟩
theorem lw_p78 : lw_okq (⟨"CookHands$Row", "isShared", "(II)Z"⟩, 3) := ⟨⟨by decide +kernel, by decide +kernel⟩, List.mem_of_getElem? (i := 177) (by decide +kernel), List.mem_of_getElem? (i := 862) (by decide +kernel), List.mem_of_getElem? (i := 863) (by decide +kernel)⟩
theorem lw_p79 : lw_okq (⟨"CookHands$Row", "teamAt", "(II)I"⟩, 3) := ⟨⟨by decide +kernel, by decide +kernel⟩, List.mem_of_getElem? (i := 177) (by decide +kernel), List.mem_of_getElem? (i := 866) (by decide +kernel), List.mem_of_getElem? (i := 867) (by decide +kernel)⟩
def lw_privs_5 : List (MethodName × Nat) := [(⟨"CookHands$Row", "setAt", "(I)I"⟩, 3), (⟨"CookHands$Kitchen", "hasDishes", "(I)Z"⟩, 9), (⟨"CookHands$Kitchen", "allDishes", "()I"⟩, 9), (⟨"CookHands$Kitchen", "anyDone", "(I)Z"⟩, 9), (⟨"CookHands$Dish", "isDone", "()Z"⟩, 6), (⟨"CookHands", "canGoOn", "(I)Z"⟩, 11), (⟨"CookHands$Kitchen", "keyOf", "(I)I"⟩, 9), (⟨"CookHands$Crew", "cookInRow", "(I)I"⟩, 11), (⟨"CookHands$Planner", "coldest", "(I)I"⟩, 16), (⟨"CookHands$Planner", "doneIn", "(I)I"⟩, 16), (⟨"CookHands$Crew", "addNobodysHand", "(Z)V"⟩, 11), (⟨"CookHands$Planner", "fewestMinutes", "()I"⟩, 16), (⟨"CookHands$Crew", "sendAway", "(I)V"⟩, 11), (⟨"CookHands$Row", "countShared", "()I"⟩, 3), (⟨"CookHands$Row", "isShared", "(II)Z"⟩, 3), (⟨"CookHands$Row", "teamAt", "(II)I"⟩, 3)]
theorem lw_r5 : ∀ q ∈ lw_privs_5, lw_okq q := List.forall_mem_cons.mpr ⟨lw_p64, List.forall_mem_cons.mpr ⟨lw_p65, List.forall_mem_cons.mpr ⟨lw_p66, List.forall_mem_cons.mpr ⟨lw_p67, List.forall_mem_cons.mpr ⟨lw_p68, List.forall_mem_cons.mpr ⟨lw_p69, List.forall_mem_cons.mpr ⟨lw_p70, List.forall_mem_cons.mpr ⟨lw_p71, List.forall_mem_cons.mpr ⟨lw_p72, List.forall_mem_cons.mpr ⟨lw_p73, List.forall_mem_cons.mpr ⟨lw_p74, List.forall_mem_cons.mpr ⟨lw_p75, List.forall_mem_cons.mpr ⟨lw_p76, List.forall_mem_cons.mpr ⟨lw_p77, List.forall_mem_cons.mpr ⟨lw_p78, List.forall_mem_cons.mpr ⟨lw_p79, fun _ h => absurd h List.not_mem_nil⟩⟩⟩⟩⟩⟩⟩⟩⟩⟩⟩⟩⟩⟩⟩⟩
theorem lw_p80 : lw_okq (⟨"CookHands$Fraction", "setPower", "(III)V"⟩, 2) := ⟨⟨by decide +kernel, by decide +kernel⟩, List.mem_of_getElem? (i := 270) (by decide +kernel), List.mem_of_getElem? (i := 871) (by decide +kernel), List.mem_of_getElem? (i := 872) (by decide +kernel)⟩
theorem lw_p81 : lw_okq (⟨"CookHands$Fraction", "setZero", "()V"⟩, 2) := ⟨⟨by decide +kernel, by decide +kernel⟩, List.mem_of_getElem? (i := 270) (by decide +kernel), List.mem_of_getElem? (i := 879) (by decide +kernel), List.mem_of_getElem? (i := 880) (by decide +kernel)⟩
theorem lw_p82 : lw_okq (⟨"CookHands$Limbs", "multiply", "(I)V"⟩, 2) := ⟨⟨by decide +kernel, by decide +kernel⟩, List.mem_of_getElem? (i := 276) (by decide +kernel), List.mem_of_getElem? (i := 884) (by decide +kernel), List.mem_of_getElem? (i := 885) (by decide +kernel)⟩
theorem lw_p83 : lw_okq (⟨"CookHands$Limbs", "isZero", "()Z"⟩, 2) := ⟨⟨by decide +kernel, by decide +kernel⟩, List.mem_of_getElem? (i := 276) (by decide +kernel), List.mem_of_getElem? (i := 889) (by decide +kernel), List.mem_of_getElem? (i := 890) (by decide +kernel)⟩
theorem lw_p84 : lw_okq (⟨"CookHands$Row", "firstBurnt", "(II)I"⟩, 3) := ⟨⟨by decide +kernel, by decide +kernel⟩, List.mem_of_getElem? (i := 177) (by decide +kernel), List.mem_of_getElem? (i := 898) (by decide +kernel), List.mem_of_getElem? (i := 899) (by decide +kernel)⟩
theorem lw_p85 : lw_okq (⟨"CookHands$Row", "countSharedBy", "(I)I"⟩, 3) := ⟨⟨by decide +kernel, by decide +kernel⟩, List.mem_of_getElem? (i := 177) (by decide +kernel), List.mem_of_getElem? (i := 912) (by decide +kernel), List.mem_of_getElem? (i := 913) (by decide +kernel)⟩
theorem lw_p86 : lw_okq (⟨"CookHands$Row", "sumOfWages", "(LCookHands$Kitchen;)I"⟩, 3) := ⟨⟨by decide +kernel, by decide +kernel⟩, List.mem_of_getElem? (i := 177) (by decide +kernel), List.mem_of_getElem? (i := 921) (by decide +kernel), List.mem_of_getElem? (i := 922) (by decide +kernel)⟩
theorem lw_p87 : lw_okq (⟨"CookHands$Kitchen", "wageOf", "(I)I"⟩, 9) := ⟨⟨by decide +kernel, by decide +kernel⟩, List.mem_of_getElem? (i := 29) (by decide +kernel), List.mem_of_getElem? (i := 925) (by decide +kernel), List.mem_of_getElem? (i := 926) (by decide +kernel)⟩
theorem lw_p88 : lw_okq (⟨"CookHands$Kitchen", "begunDishes", "()I"⟩, 9) := ⟨⟨by decide +kernel, by decide +kernel⟩, List.mem_of_getElem? (i := 29) (by decide +kernel), List.mem_of_getElem? (i := 933) (by decide +kernel), List.mem_of_getElem? (i := 934) (by decide +kernel)⟩
theorem lw_p89 : lw_okq (⟨"CookHands$Kitchen", "goOn", "(I)V"⟩, 9) := ⟨⟨by decide +kernel, by decide +kernel⟩, List.mem_of_getElem? (i := 29) (by decide +kernel), List.mem_of_getElem? (i := 938) (by decide +kernel), List.mem_of_getElem? (i := 939) (by decide +kernel)⟩
theorem lw_p90 : lw_okq (⟨"CookHands$Kitchen", "bringOn", "(II)V"⟩, 9) := ⟨⟨by decide +kernel, by decide +kernel⟩, List.mem_of_getElem? (i := 29) (by decide +kernel), List.mem_of_getElem? (i := 942) (by decide +kernel), List.mem_of_getElem? (i := 943) (by decide +kernel)⟩
theorem lw_p91 : lw_okq (⟨"CookHands$Kitchen", "doneCount", "()I"⟩, 9) := ⟨⟨by decide +kernel, by decide +kernel⟩, List.mem_of_getElem? (i := 29) (by decide +kernel), List.mem_of_getElem? (i := 946) (by decide +kernel), List.mem_of_getElem? (i := 947) (by decide +kernel)⟩
theorem lw_p92 : lw_okq (⟨"CookHands$Kitchen", "goBack", "()Z"⟩, 9) := ⟨⟨by decide +kernel, by decide +kernel⟩, List.mem_of_getElem? (i := 29) (by decide +kernel), List.mem_of_getElem? (i := 954) (by decide +kernel), List.mem_of_getElem? (i := 955) (by decide +kernel)⟩
theorem lw_p93 : lw_okq (⟨"CookHands", "signOf", "(I)I"⟩, 11) := ⟨⟨by decide +kernel, by decide +kernel⟩, List.mem_of_getElem? (i := 21) (by decide +kernel), List.mem_of_getElem? (i := 973) (by decide +kernel), List.mem_of_getElem? (i := 974) (by decide +kernel)⟩
theorem lw_p94 : lw_okq (⟨"CookHands$Limbs", "limbAt", "(I)I"⟩, 2) := ⟨⟨by decide +kernel, by decide +kernel⟩, List.mem_of_getElem? (i := 276) (by decide +kernel), List.mem_of_getElem? (i := 982) (by decide +kernel), List.mem_of_getElem? (i := 983) (by decide +kernel)⟩
theorem lw_p95 : lw_okq (⟨"CookHands", "countOf", "(I)I"⟩, 11) := ⟨⟨by decide +kernel, by decide +kernel⟩, List.mem_of_getElem? (i := 21) (by decide +kernel), List.mem_of_getElem? (i := 1002) (by decide +kernel), List.mem_of_getElem? (i := 1003) (by decide +kernel)⟩
def lw_privs_6 : List (MethodName × Nat) := [(⟨"CookHands$Fraction", "setPower", "(III)V"⟩, 2), (⟨"CookHands$Fraction", "setZero", "()V"⟩, 2), (⟨"CookHands$Limbs", "multiply", "(I)V"⟩, 2), (⟨"CookHands$Limbs", "isZero", "()Z"⟩, 2), (⟨"CookHands$Row", "firstBurnt", "(II)I"⟩, 3), (⟨"CookHands$Row", "countSharedBy", "(I)I"⟩, 3), (⟨"CookHands$Row", "sumOfWages", "(LCookHands$Kitchen;)I"⟩, 3), (⟨"CookHands$Kitchen", "wageOf", "(I)I"⟩, 9), (⟨"CookHands$Kitchen", "begunDishes", "()I"⟩, 9), (⟨"CookHands$Kitchen", "goOn", "(I)V"⟩, 9), (⟨"CookHands$Kitchen", "bringOn", "(II)V"⟩, 9), (⟨"CookHands$Kitchen", "doneCount", "()I"⟩, 9), (⟨"CookHands$Kitchen", "goBack", "()Z"⟩, 9), (⟨"CookHands", "signOf", "(I)I"⟩, 11), (⟨"CookHands$Limbs", "limbAt", "(I)I"⟩, 2), (⟨"CookHands", "countOf", "(I)I"⟩, 11)]
theorem lw_r6 : ∀ q ∈ lw_privs_6, lw_okq q := List.forall_mem_cons.mpr ⟨lw_p80, List.forall_mem_cons.mpr ⟨lw_p81, List.forall_mem_cons.mpr ⟨lw_p82, List.forall_mem_cons.mpr ⟨lw_p83, List.forall_mem_cons.mpr ⟨lw_p84, List.forall_mem_cons.mpr ⟨lw_p85, List.forall_mem_cons.mpr ⟨lw_p86, List.forall_mem_cons.mpr ⟨lw_p87, List.forall_mem_cons.mpr ⟨lw_p88, List.forall_mem_cons.mpr ⟨lw_p89, List.forall_mem_cons.mpr ⟨lw_p90, List.forall_mem_cons.mpr ⟨lw_p91, List.forall_mem_cons.mpr ⟨lw_p92, List.forall_mem_cons.mpr ⟨lw_p93, List.forall_mem_cons.mpr ⟨lw_p94, List.forall_mem_cons.mpr ⟨lw_p95, fun _ h => absurd h List.not_mem_nil⟩⟩⟩⟩⟩⟩⟩⟩⟩⟩⟩⟩⟩⟩⟩⟩
theorem lw_p96 : lw_okq (⟨"CookHands$Kitchen", "digestOnto", "(J)J"⟩, 9) := ⟨⟨by decide +kernel, by decide +kernel⟩, List.mem_of_getElem? (i := 29) (by decide +kernel), List.mem_of_getElem? (i := 1012) (by decide +kernel), List.mem_of_getElem? (i := 1013) (by decide +kernel)⟩
theorem lw_p97 : lw_okq (⟨"CookHands$Dish", "digestOnto", "(J)J"⟩, 6) := ⟨⟨by decide +kernel, by decide +kernel⟩, List.mem_of_getElem? (i := 36) (by decide +kernel), List.mem_of_getElem? (i := 1017) (by decide +kernel), List.mem_of_getElem? (i := 1018) (by decide +kernel)⟩
theorem lw_p98 : lw_okq (⟨"CookHands$Limbs", "digestOnto", "(J)J"⟩, 2) := ⟨⟨by decide +kernel, by decide +kernel⟩, List.mem_of_getElem? (i := 276) (by decide +kernel), List.mem_of_getElem? (i := 1022) (by decide +kernel), List.mem_of_getElem? (i := 1023) (by decide +kernel)⟩
theorem lw_p99 : lw_okq (⟨"CookHandsModel", "addCook", "(III)I"⟩, 34) := ⟨⟨by decide +kernel, by decide +kernel⟩, List.mem_of_getElem? (i := 1027) (by decide +kernel), List.mem_of_getElem? (i := 1141) (by decide +kernel), List.mem_of_getElem? (i := 1142) (by decide +kernel)⟩
theorem lw_p100 : lw_okq (⟨"CookHandsModel", "beginAnew", "(I)V"⟩, 34) := ⟨⟨by decide +kernel, by decide +kernel⟩, List.mem_of_getElem? (i := 1027) (by decide +kernel), List.mem_of_getElem? (i := 1150) (by decide +kernel), List.mem_of_getElem? (i := 1151) (by decide +kernel)⟩
theorem lw_p101 : lw_okq (⟨"CookHandsModel", "told", "(I)I"⟩, 34) := ⟨⟨by decide +kernel, by decide +kernel⟩, List.mem_of_getElem? (i := 1027) (by decide +kernel), List.mem_of_getElem? (i := 1154) (by decide +kernel), List.mem_of_getElem? (i := 1155) (by decide +kernel)⟩
theorem lw_p102 : lw_okq (⟨"CookHandsModel", "addDish", "(I)I"⟩, 34) := ⟨⟨by decide +kernel, by decide +kernel⟩, List.mem_of_getElem? (i := 1027) (by decide +kernel), List.mem_of_getElem? (i := 1162) (by decide +kernel), List.mem_of_getElem? (i := 1163) (by decide +kernel)⟩
theorem lw_p103 : lw_okq (⟨"CookHandsModel", "addStep", "(IIIIII)I"⟩, 34) := ⟨⟨by decide +kernel, by decide +kernel⟩, List.mem_of_getElem? (i := 1027) (by decide +kernel), List.mem_of_getElem? (i := 1170) (by decide +kernel), List.mem_of_getElem? (i := 1171) (by decide +kernel)⟩
theorem lw_p104 : lw_okq (⟨"CookHandsModel", "setKnives", "(II)I"⟩, 34) := ⟨⟨by decide +kernel, by decide +kernel⟩, List.mem_of_getElem? (i := 1027) (by decide +kernel), List.mem_of_getElem? (i := 1179) (by decide +kernel), List.mem_of_getElem? (i := 1180) (by decide +kernel)⟩
theorem lw_p105 : lw_okq (⟨"CookHandsModel", "setStrike", "(IZ)I"⟩, 34) := ⟨⟨by decide +kernel, by decide +kernel⟩, List.mem_of_getElem? (i := 1027) (by decide +kernel), List.mem_of_getElem? (i := 1188) (by decide +kernel), List.mem_of_getElem? (i := 1189) (by decide +kernel)⟩
theorem lw_p106 : lw_okq (⟨"CookHandsModel", "isCook", "(I)Z"⟩, 34) := ⟨⟨by decide +kernel, by decide +kernel⟩, List.mem_of_getElem? (i := 1027) (by decide +kernel), List.mem_of_getElem? (i := 1196) (by decide +kernel), List.mem_of_getElem? (i := 1197) (by decide +kernel)⟩
theorem lw_p107 : lw_okq (⟨"CookHandsModel", "handsNow", "(I)I"⟩, 34) := ⟨⟨by decide +kernel, by decide +kernel⟩, List.mem_of_getElem? (i := 1027) (by decide +kernel), List.mem_of_getElem? (i := 1200) (by decide +kernel), List.mem_of_getElem? (i := 1201) (by decide +kernel)⟩
theorem lw_p108 : lw_okq (⟨"CookHandsModel", "isEnd", "()Z"⟩, 34) := ⟨⟨by decide +kernel, by decide +kernel⟩, List.mem_of_getElem? (i := 1027) (by decide +kernel), List.mem_of_getElem? (i := 1224) (by decide +kernel), List.mem_of_getElem? (i := 1225) (by decide +kernel)⟩
theorem lw_p109 : lw_okq (⟨"CookHandsModel", "takeItem", "()V"⟩, 34) := ⟨⟨by decide +kernel, by decide +kernel⟩, List.mem_of_getElem? (i := 1027) (by decide +kernel), List.mem_of_getElem? (i := 1228) (by decide +kernel), List.mem_of_getElem? (i := 1229) (by decide +kernel)⟩
theorem lw_p110 : lw_okq (⟨"CookHandsModel", "takeWord", "()I"⟩, 34) := ⟨⟨by decide +kernel, by decide +kernel⟩, List.mem_of_getElem? (i := 1027) (by decide +kernel), List.mem_of_getElem? (i := 1232) (by decide +kernel), List.mem_of_getElem? (i := 1233) (by decide +kernel)⟩
theorem lw_p111 : lw_okq (⟨"CookHandsModel", "takeNumber", "()I"⟩, 34) := ⟨⟨by decide +kernel, by decide +kernel⟩, List.mem_of_getElem? (i := 1027) (by decide +kernel), List.mem_of_getElem? (i := 1251) (by decide +kernel), List.mem_of_getElem? (i := 1252) (by decide +kernel)⟩
def lw_privs_7 : List (MethodName × Nat) := [(⟨"CookHands$Kitchen", "digestOnto", "(J)J"⟩, 9), (⟨"CookHands$Dish", "digestOnto", "(J)J"⟩, 6), (⟨"CookHands$Limbs", "digestOnto", "(J)J"⟩, 2), (⟨"CookHandsModel", "addCook", "(III)I"⟩, 34), (⟨"CookHandsModel", "beginAnew", "(I)V"⟩, 34), (⟨"CookHandsModel", "told", "(I)I"⟩, 34), (⟨"CookHandsModel", "addDish", "(I)I"⟩, 34), (⟨"CookHandsModel", "addStep", "(IIIIII)I"⟩, 34), (⟨"CookHandsModel", "setKnives", "(II)I"⟩, 34), (⟨"CookHandsModel", "setStrike", "(IZ)I"⟩, 34), (⟨"CookHandsModel", "isCook", "(I)Z"⟩, 34), (⟨"CookHandsModel", "handsNow", "(I)I"⟩, 34), (⟨"CookHandsModel", "isEnd", "()Z"⟩, 34), (⟨"CookHandsModel", "takeItem", "()V"⟩, 34), (⟨"CookHandsModel", "takeWord", "()I"⟩, 34), (⟨"CookHandsModel", "takeNumber", "()I"⟩, 34)]
theorem lw_r7 : ∀ q ∈ lw_privs_7, lw_okq q := List.forall_mem_cons.mpr ⟨lw_p96, List.forall_mem_cons.mpr ⟨lw_p97, List.forall_mem_cons.mpr ⟨lw_p98, List.forall_mem_cons.mpr ⟨lw_p99, List.forall_mem_cons.mpr ⟨lw_p100, List.forall_mem_cons.mpr ⟨lw_p101, List.forall_mem_cons.mpr ⟨lw_p102, List.forall_mem_cons.mpr ⟨lw_p103, List.forall_mem_cons.mpr ⟨lw_p104, List.forall_mem_cons.mpr ⟨lw_p105, List.forall_mem_cons.mpr ⟨lw_p106, List.forall_mem_cons.mpr ⟨lw_p107, List.forall_mem_cons.mpr ⟨lw_p108, List.forall_mem_cons.mpr ⟨lw_p109, List.forall_mem_cons.mpr ⟨lw_p110, List.forall_mem_cons.mpr ⟨lw_p111, fun _ h => absurd h List.not_mem_nil⟩⟩⟩⟩⟩⟩⟩⟩⟩⟩⟩⟩⟩⟩⟩⟩
theorem lw_p112 : lw_okq (⟨"CookHandsModel", "tellItem", "(I)I"⟩, 34) := ⟨⟨by decide +kernel, by decide +kernel⟩, List.mem_of_getElem? (i := 1027) (by decide +kernel), List.mem_of_getElem? (i := 1257) (by decide +kernel), List.mem_of_getElem? (i := 1258) (by decide +kernel)⟩
theorem lw_p113 : lw_okq (⟨"CookHandsModel", "copy", "(II)V"⟩, 34) := ⟨⟨by decide +kernel, by decide +kernel⟩, List.mem_of_getElem? (i := 1027) (by decide +kernel), List.mem_of_getElem? (i := 1261) (by decide +kernel), List.mem_of_getElem? (i := 1262) (by decide +kernel)⟩
theorem lw_p114 : lw_okq (⟨"CookHandsModel", "findNow", "()I"⟩, 34) := ⟨⟨by decide +kernel, by decide +kernel⟩, List.mem_of_getElem? (i := 1027) (by decide +kernel), List.mem_of_getElem? (i := 1269) (by decide +kernel), List.mem_of_getElem? (i := 1270) (by decide +kernel)⟩
theorem lw_p115 : lw_okq (⟨"CookHandsModel", "gather", "(IZ)V"⟩, 34) := ⟨⟨by decide +kernel, by decide +kernel⟩, List.mem_of_getElem? (i := 1027) (by decide +kernel), List.mem_of_getElem? (i := 1273) (by decide +kernel), List.mem_of_getElem? (i := 1274) (by decide +kernel)⟩
theorem lw_p116 : lw_okq (⟨"CookHandsModel", "giveHand", "(I)V"⟩, 34) := ⟨⟨by decide +kernel, by decide +kernel⟩, List.mem_of_getElem? (i := 1027) (by decide +kernel), List.mem_of_getElem? (i := 1277) (by decide +kernel), List.mem_of_getElem? (i := 1278) (by decide +kernel)⟩
theorem lw_p117 : lw_okq (⟨"CookHandsModel", "allDishes", "()I"⟩, 34) := ⟨⟨by decide +kernel, by decide +kernel⟩, List.mem_of_getElem? (i := 1027) (by decide +kernel), List.mem_of_getElem? (i := 1281) (by decide +kernel), List.mem_of_getElem? (i := 1282) (by decide +kernel)⟩
theorem lw_p118 : lw_okq (⟨"CookHandsModel", "findSoonest", "(I)I"⟩, 34) := ⟨⟨by decide +kernel, by decide +kernel⟩, List.mem_of_getElem? (i := 1027) (by decide +kernel), List.mem_of_getElem? (i := 1285) (by decide +kernel), List.mem_of_getElem? (i := 1286) (by decide +kernel)⟩
theorem lw_p119 : lw_okq (⟨"CookHandsModel", "findMay", "(I)V"⟩, 34) := ⟨⟨by decide +kernel, by decide +kernel⟩, List.mem_of_getElem? (i := 1027) (by decide +kernel), List.mem_of_getElem? (i := 1289) (by decide +kernel), List.mem_of_getElem? (i := 1290) (by decide +kernel)⟩
theorem lw_p120 : lw_okq (⟨"CookHandsModel", "totalOf", "(I)I"⟩, 34) := ⟨⟨by decide +kernel, by decide +kernel⟩, List.mem_of_getElem? (i := 1027) (by decide +kernel), List.mem_of_getElem? (i := 1293) (by decide +kernel), List.mem_of_getElem? (i := 1294) (by decide +kernel)⟩
theorem lw_p121 : lw_okq (⟨"CookHandsModel", "isState", "(I)Z"⟩, 34) := ⟨⟨by decide +kernel, by decide +kernel⟩, List.mem_of_getElem? (i := 1027) (by decide +kernel), List.mem_of_getElem? (i := 1297) (by decide +kernel), List.mem_of_getElem? (i := 1298) (by decide +kernel)⟩
theorem lw_p122 : lw_okq (⟨"CookHandsModel", "doneIn", "(I)I"⟩, 34) := ⟨⟨by decide +kernel, by decide +kernel⟩, List.mem_of_getElem? (i := 1027) (by decide +kernel), List.mem_of_getElem? (i := 1301) (by decide +kernel), List.mem_of_getElem? (i := 1302) (by decide +kernel)⟩
theorem lw_p123 : lw_okq (⟨"CookHandsModel", "stepOf", "(II)I"⟩, 34) := ⟨⟨by decide +kernel, by decide +kernel⟩, List.mem_of_getElem? (i := 1027) (by decide +kernel), List.mem_of_getElem? (i := 1305) (by decide +kernel), List.mem_of_getElem? (i := 1306) (by decide +kernel)⟩
theorem lw_p124 : lw_okq (⟨"CookHandsModel", "mayGo", "(II)Z"⟩, 34) := ⟨⟨by decide +kernel, by decide +kernel⟩, List.mem_of_getElem? (i := 1027) (by decide +kernel), List.mem_of_getElem? (i := 1309) (by decide +kernel), List.mem_of_getElem? (i := 1310) (by decide +kernel)⟩
theorem lw_p125 : lw_okq (⟨"CookHandsModel", "stateNow", "()I"⟩, 34) := ⟨⟨by decide +kernel, by decide +kernel⟩, List.mem_of_getElem? (i := 1027) (by decide +kernel), List.mem_of_getElem? (i := 1326) (by decide +kernel), List.mem_of_getElem? (i := 1327) (by decide +kernel)⟩
theorem lw_p126 : lw_okq (⟨"CookHandsModel", "toldElse", "(I)I"⟩, 34) := ⟨⟨by decide +kernel, by decide +kernel⟩, List.mem_of_getElem? (i := 1027) (by decide +kernel), List.mem_of_getElem? (i := 1334) (by decide +kernel), List.mem_of_getElem? (i := 1335) (by decide +kernel)⟩
theorem lw_p127 : lw_okq (⟨"CookHandsModel", "nextOf", "(I)I"⟩, 34) := ⟨⟨by decide +kernel, by decide +kernel⟩, List.mem_of_getElem? (i := 1027) (by decide +kernel), List.mem_of_getElem? (i := 1338) (by decide +kernel), List.mem_of_getElem? (i := 1339) (by decide +kernel)⟩
def lw_privs_8 : List (MethodName × Nat) := [(⟨"CookHandsModel", "tellItem", "(I)I"⟩, 34), (⟨"CookHandsModel", "copy", "(II)V"⟩, 34), (⟨"CookHandsModel", "findNow", "()I"⟩, 34), (⟨"CookHandsModel", "gather", "(IZ)V"⟩, 34), (⟨"CookHandsModel", "giveHand", "(I)V"⟩, 34), (⟨"CookHandsModel", "allDishes", "()I"⟩, 34), (⟨"CookHandsModel", "findSoonest", "(I)I"⟩, 34), (⟨"CookHandsModel", "findMay", "(I)V"⟩, 34), (⟨"CookHandsModel", "totalOf", "(I)I"⟩, 34), (⟨"CookHandsModel", "isState", "(I)Z"⟩, 34), (⟨"CookHandsModel", "doneIn", "(I)I"⟩, 34), (⟨"CookHandsModel", "stepOf", "(II)I"⟩, 34), (⟨"CookHandsModel", "mayGo", "(II)Z"⟩, 34), (⟨"CookHandsModel", "stateNow", "()I"⟩, 34), (⟨"CookHandsModel", "toldElse", "(I)I"⟩, 34), (⟨"CookHandsModel", "nextOf", "(I)I"⟩, 34)]
theorem lw_r8 : ∀ q ∈ lw_privs_8, lw_okq q := List.forall_mem_cons.mpr ⟨lw_p112, List.forall_mem_cons.mpr ⟨lw_p113, List.forall_mem_cons.mpr ⟨lw_p114, List.forall_mem_cons.mpr ⟨lw_p115, List.forall_mem_cons.mpr ⟨lw_p116, List.forall_mem_cons.mpr ⟨lw_p117, List.forall_mem_cons.mpr ⟨lw_p118, List.forall_mem_cons.mpr ⟨lw_p119, List.forall_mem_cons.mpr ⟨lw_p120, List.forall_mem_cons.mpr ⟨lw_p121, List.forall_mem_cons.mpr ⟨lw_p122, List.forall_mem_cons.mpr ⟨lw_p123, List.forall_mem_cons.mpr ⟨lw_p124, List.forall_mem_cons.mpr ⟨lw_p125, List.forall_mem_cons.mpr ⟨lw_p126, List.forall_mem_cons.mpr ⟨lw_p127, fun _ h => absurd h List.not_mem_nil⟩⟩⟩⟩⟩⟩⟩⟩⟩⟩⟩⟩⟩⟩⟩⟩
theorem lw_p128 : lw_okq (⟨"CookHandsModel", "findWhose", "(II)V"⟩, 34) := ⟨⟨by decide +kernel, by decide +kernel⟩, List.mem_of_getElem? (i := 1027) (by decide +kernel), List.mem_of_getElem? (i := 1346) (by decide +kernel), List.mem_of_getElem? (i := 1347) (by decide +kernel)⟩
theorem lw_p129 : lw_okq (⟨"CookHandsModel", "handFor", "(II)I"⟩, 34) := ⟨⟨by decide +kernel, by decide +kernel⟩, List.mem_of_getElem? (i := 1027) (by decide +kernel), List.mem_of_getElem? (i := 1350) (by decide +kernel), List.mem_of_getElem? (i := 1351) (by decide +kernel)⟩
theorem lw_p130 : lw_okq (⟨"CookHandsModel", "isEnoughFrom", "(I)Z"⟩, 34) := ⟨⟨by decide +kernel, by decide +kernel⟩, List.mem_of_getElem? (i := 1027) (by decide +kernel), List.mem_of_getElem? (i := 1354) (by decide +kernel), List.mem_of_getElem? (i := 1355) (by decide +kernel)⟩
theorem lw_p131 : lw_okq (⟨"CookHandsModel", "goThrough", "(IIIJ)V"⟩, 34) := ⟨⟨by decide +kernel, by decide +kernel⟩, List.mem_of_getElem? (i := 1027) (by decide +kernel), List.mem_of_getElem? (i := 1387) (by decide +kernel), List.mem_of_getElem? (i := 1388) (by decide +kernel)⟩
theorem lw_p132 : lw_okq (⟨"CookHandsModel", "share", "(III)I"⟩, 34) := ⟨⟨by decide +kernel, by decide +kernel⟩, List.mem_of_getElem? (i := 1027) (by decide +kernel), List.mem_of_getElem? (i := 1395) (by decide +kernel), List.mem_of_getElem? (i := 1396) (by decide +kernel)⟩
theorem lw_p133 : lw_okq (⟨"CookHandsModel", "isDish", "(I)Z"⟩, 34) := ⟨⟨by decide +kernel, by decide +kernel⟩, List.mem_of_getElem? (i := 1027) (by decide +kernel), List.mem_of_getElem? (i := 1428) (by decide +kernel), List.mem_of_getElem? (i := 1429) (by decide +kernel)⟩
theorem lw_p134 : lw_okq (⟨"CookHandsModel", "stateOf", "(II)I"⟩, 34) := ⟨⟨by decide +kernel, by decide +kernel⟩, List.mem_of_getElem? (i := 1027) (by decide +kernel), List.mem_of_getElem? (i := 1432) (by decide +kernel), List.mem_of_getElem? (i := 1433) (by decide +kernel)⟩
theorem lw_p135 : lw_okq (⟨"CookHandsModel", "signOf", "(I)I"⟩, 34) := ⟨⟨by decide +kernel, by decide +kernel⟩, List.mem_of_getElem? (i := 1027) (by decide +kernel), List.mem_of_getElem? (i := 1441) (by decide +kernel), List.mem_of_getElem? (i := 1442) (by decide +kernel)⟩
theorem lw_p136 : lw_okq (⟨"CookHandsModel", "countOf", "(I)I"⟩, 34) := ⟨⟨by decide +kernel, by decide +kernel⟩, List.mem_of_getElem? (i := 1027) (by decide +kernel), List.mem_of_getElem? (i := 1466) (by decide +kernel), List.mem_of_getElem? (i := 1467) (by decide +kernel)⟩
theorem lw_p137 : lw_okq (⟨"CookHandsModel", "mix", "(J)V"⟩, 34) := ⟨⟨by decide +kernel, by decide +kernel⟩, List.mem_of_getElem? (i := 1027) (by decide +kernel), List.mem_of_getElem? (i := 1475) (by decide +kernel), List.mem_of_getElem? (i := 1476) (by decide +kernel)⟩
def lw_privs_9 : List (MethodName × Nat) := [(⟨"CookHandsModel", "findWhose", "(II)V"⟩, 34), (⟨"CookHandsModel", "handFor", "(II)I"⟩, 34), (⟨"CookHandsModel", "isEnoughFrom", "(I)Z"⟩, 34), (⟨"CookHandsModel", "goThrough", "(IIIJ)V"⟩, 34), (⟨"CookHandsModel", "share", "(III)I"⟩, 34), (⟨"CookHandsModel", "isDish", "(I)Z"⟩, 34), (⟨"CookHandsModel", "stateOf", "(II)I"⟩, 34), (⟨"CookHandsModel", "signOf", "(I)I"⟩, 34), (⟨"CookHandsModel", "countOf", "(I)I"⟩, 34), (⟨"CookHandsModel", "mix", "(J)V"⟩, 34)]
theorem lw_r9 : ∀ q ∈ lw_privs_9, lw_okq q := List.forall_mem_cons.mpr ⟨lw_p128, List.forall_mem_cons.mpr ⟨lw_p129, List.forall_mem_cons.mpr ⟨lw_p130, List.forall_mem_cons.mpr ⟨lw_p131, List.forall_mem_cons.mpr ⟨lw_p132, List.forall_mem_cons.mpr ⟨lw_p133, List.forall_mem_cons.mpr ⟨lw_p134, List.forall_mem_cons.mpr ⟨lw_p135, List.forall_mem_cons.mpr ⟨lw_p136, List.forall_mem_cons.mpr ⟨lw_p137, fun _ h => absurd h List.not_mem_nil⟩⟩⟩⟩⟩⟩⟩⟩⟩⟩
def lw_privs : List (MethodName × Nat) := lw_privs_1 ++ (lw_privs_2 ++ (lw_privs_3 ++ (lw_privs_4 ++ (lw_privs_5 ++ (lw_privs_6 ++ (lw_privs_7 ++ (lw_privs_8 ++ (lw_privs_9))))))))
def lw_tbl : List Cond := k2_sels lw_privs ++ tables_1
theorem lw_privs_ok : ∀ q ∈ lw_privs, lw_okq q := by
  show ∀ q ∈ lw_privs_1 ++ (lw_privs_2 ++ (lw_privs_3 ++ (lw_privs_4 ++ (lw_privs_5 ++ (lw_privs_6 ++ (lw_privs_7 ++ (lw_privs_8 ++ (lw_privs_9)))))))), lw_okq q
  exact List.forall_mem_append.mpr ⟨lw_r1, List.forall_mem_append.mpr ⟨lw_r2, List.forall_mem_append.mpr ⟨lw_r3, List.forall_mem_append.mpr ⟨lw_r4, List.forall_mem_append.mpr ⟨lw_r5, List.forall_mem_append.mpr ⟨lw_r6, List.forall_mem_append.mpr ⟨lw_r7, List.forall_mem_append.mpr ⟨lw_r8, lw_r9⟩⟩⟩⟩⟩⟩⟩⟩

-- ===== end of part A; names and tables, by program out of the Statement =====
def zR0 : String := "CookHands"
def zT0 : u_T := fun k => match k with
  | 0 => ("CookHands", "kitchen", "LCookHands$Kitchen;", true)
  | 1 => ("CookHands", "draft", "LCookHands$Kitchen;", true)
  | 2 => ("CookHands", "images", "[LCookHands$Kitchen;", true)
  | 3 => ("CookHands", "kept", "[Z", true)
  | 4 => ("CookHands", "crew", "LCookHands$Crew;", true)
  | 5 => ("CookHands", "planner", "LCookHands$Planner;", true)
  | 6 => ("CookHands", "card", "LCookHands$Card;", true)
  | 7 => ("CookHands", "fraction", "LCookHands$Fraction;", true)
  | 8 => ("CookHands", "badCalls", "I", false)
  | 9 => ("CookHands", "noCalls", "I", false)
  | _ => ("CookHands", "fullCalls", "I", false)
def zY0 : Nat → FieldType := fun k => match k with
  | 0 => (.object "CookHands$Kitchen")
  | 1 => (.object "CookHands$Kitchen")
  | 2 => (.array (.object "CookHands$Kitchen"))
  | 3 => (.array .boolean)
  | 4 => (.object "CookHands$Crew")
  | 5 => (.object "CookHands$Planner")
  | 6 => (.object "CookHands$Card")
  | 7 => (.object "CookHands$Fraction")
  | 8 => .int
  | 9 => .int
  | _ => .int
theorem zN0 : ∀ a, a < 11 → ∀ b, b < 11 → a ≠ b → (zT0 a).2.1 ≠ (zT0 b).2.1 := by decide +kernel
theorem zP0 : ∀ k, k < 11 → parseFieldDescriptor (zT0 k).2.2.1 = some (zY0 k) := by decide +kernel
theorem zW0 : ∀ w ∈ u_ws zR0 zT0 11, w ∈ lw_tbl := fun w hw => by
  obtain ⟨k, hk, rfl⟩ := List.mem_map.mp hw
  have hk := List.mem_range.mp hk
  match k, hk with
  | 0, _ => exact List.mem_of_getElem? (i := 451) (by decide +kernel)
  | 1, _ => exact List.mem_of_getElem? (i := 453) (by decide +kernel)
  | 2, _ => exact List.mem_of_getElem? (i := 455) (by decide +kernel)
  | 3, _ => exact List.mem_of_getElem? (i := 457) (by decide +kernel)
  | 4, _ => exact List.mem_of_getElem? (i := 459) (by decide +kernel)
  | 5, _ => exact List.mem_of_getElem? (i := 461) (by decide +kernel)
  | 6, _ => exact List.mem_of_getElem? (i := 463) (by decide +kernel)
  | 7, _ => exact List.mem_of_getElem? (i := 465) (by decide +kernel)
  | 8, _ => exact List.mem_of_getElem? (i := 467) (by decide +kernel)
  | 9, _ => exact List.mem_of_getElem? (i := 469) (by decide +kernel)
  | 10, _ => exact List.mem_of_getElem? (i := 471) (by decide +kernel)
  | k + 11, h => exact absurd h (by omega)
def zR1 : String := "CookHands$Card"
def zT1 : u_T := fun k => match k with
  | 0 => ("CookHands$Card", "text", "[I", true)
  | 1 => ("CookHands$Card", "length", "I", false)
  | 2 => ("CookHands$Card", "place", "I", false)
  | 3 => ("CookHands$Card", "words", "[I", true)
  | 4 => ("CookHands$Card", "numbers", "[I", true)
  | _ => ("CookHands$Card", "items", "I", false)
def zY1 : Nat → FieldType := fun k => match k with
  | 0 => (.array .int)
  | 1 => .int
  | 2 => .int
  | 3 => (.array .int)
  | 4 => (.array .int)
  | _ => .int
theorem zN1 : ∀ a, a < 6 → ∀ b, b < 6 → a ≠ b → (zT1 a).2.1 ≠ (zT1 b).2.1 := by decide +kernel
theorem zP1 : ∀ k, k < 6 → parseFieldDescriptor (zT1 k).2.2.1 = some (zY1 k) := by decide +kernel
theorem zW1 : ∀ w ∈ u_ws zR1 zT1 6, w ∈ lw_tbl := fun w hw => by
  obtain ⟨k, hk, rfl⟩ := List.mem_map.mp hw
  have hk := List.mem_range.mp hk
  match k, hk with
  | 0, _ => exact List.mem_of_getElem? (i := 394) (by decide +kernel)
  | 1, _ => exact List.mem_of_getElem? (i := 396) (by decide +kernel)
  | 2, _ => exact List.mem_of_getElem? (i := 398) (by decide +kernel)
  | 3, _ => exact List.mem_of_getElem? (i := 400) (by decide +kernel)
  | 4, _ => exact List.mem_of_getElem? (i := 402) (by decide +kernel)
  | 5, _ => exact List.mem_of_getElem? (i := 404) (by decide +kernel)
  | k + 6, h => exact absurd h (by omega)
def zR2 : String := "CookHands$Crew"
def zT2 : u_T := fun k => match k with
  | 0 => ("CookHands$Crew", "kitchen", "LCookHands$Kitchen;", true)
  | 1 => ("CookHands$Crew", "rightFree", "[Z", true)
  | 2 => ("CookHands$Crew", "leftFree", "[Z", true)
  | 3 => ("CookHands$Crew", "holdsKnives", "[Z", true)
  | 4 => ("CookHands$Crew", "oneForBoth", "[Z", true)
  | 5 => ("CookHands$Crew", "there", "LCookHands$Hands;", true)
  | 6 => ("CookHands$Crew", "needed", "LCookHands$Hands;", true)
  | 7 => ("CookHands$Crew", "knivesNeeded", "I", false)
  | 8 => ("CookHands$Crew", "cooksInRow", "[I", true)
  | 9 => ("CookHands$Crew", "length", "I", false)
  | _ => ("CookHands$Crew", "teams", "[I", true)
def zY2 : Nat → FieldType := fun k => match k with
  | 0 => (.object "CookHands$Kitchen")
  | 1 => (.array .boolean)
  | 2 => (.array .boolean)
  | 3 => (.array .boolean)
  | 4 => (.array .boolean)
  | 5 => (.object "CookHands$Hands")
  | 6 => (.object "CookHands$Hands")
  | 7 => .int
  | 8 => (.array .int)
  | 9 => .int
  | _ => (.array .int)
theorem zN2 : ∀ a, a < 11 → ∀ b, b < 11 → a ≠ b → (zT2 a).2.1 ≠ (zT2 b).2.1 := by decide +kernel
theorem zP2 : ∀ k, k < 11 → parseFieldDescriptor (zT2 k).2.2.1 = some (zY2 k) := by decide +kernel
theorem zW2 : ∀ w ∈ u_ws zR2 zT2 11, w ∈ lw_tbl := fun w hw => by
  obtain ⟨k, hk, rfl⟩ := List.mem_map.mp hw
  have hk := List.mem_range.mp hk
  match k, hk with
  | 0, _ => exact List.mem_of_getElem? (i := 285) (by decide +kernel)
  | 1, _ => exact List.mem_of_getElem? (i := 287) (by decide +kernel)
  | 2, _ => exact List.mem_of_getElem? (i := 289) (by decide +kernel)
  | 3, _ => exact List.mem_of_getElem? (i := 291) (by decide +kernel)
  | 4, _ => exact List.mem_of_getElem? (i := 293) (by decide +kernel)
  | 5, _ => exact List.mem_of_getElem? (i := 295) (by decide +kernel)
  | 6, _ => exact List.mem_of_getElem? (i := 297) (by decide +kernel)
  | 7, _ => exact List.mem_of_getElem? (i := 299) (by decide +kernel)
  | 8, _ => exact List.mem_of_getElem? (i := 301) (by decide +kernel)
  | 9, _ => exact List.mem_of_getElem? (i := 303) (by decide +kernel)
  | 10, _ => exact List.mem_of_getElem? (i := 305) (by decide +kernel)
  | k + 11, h => exact absurd h (by omega)
def zR3 : String := "CookHands$Dish"
def zT3 : u_T := fun k => match k with
  | 0 => ("CookHands$Dish", "right", "[I", true)
  | 1 => ("CookHands$Dish", "left", "[I", true)
  | 2 => ("CookHands$Dish", "knives", "[I", true)
  | 3 => ("CookHands$Dish", "minutes", "[I", true)
  | 4 => ("CookHands$Dish", "steps", "I", false)
  | _ => ("CookHands$Dish", "minutesDone", "I", false)
def zY3 : Nat → FieldType := fun k => match k with
  | 0 => (.array .int)
  | 1 => (.array .int)
  | 2 => (.array .int)
  | 3 => (.array .int)
  | 4 => .int
  | _ => .int
theorem zN3 : ∀ a, a < 6 → ∀ b, b < 6 → a ≠ b → (zT3 a).2.1 ≠ (zT3 b).2.1 := by decide +kernel
theorem zP3 : ∀ k, k < 6 → parseFieldDescriptor (zT3 k).2.2.1 = some (zY3 k) := by decide +kernel
theorem zW3 : ∀ w ∈ u_ws zR3 zT3 6, w ∈ lw_tbl := fun w hw => by
  obtain ⟨k, hk, rfl⟩ := List.mem_map.mp hw
  have hk := List.mem_range.mp hk
  match k, hk with
  | 0, _ => exact List.mem_of_getElem? (i := 192) (by decide +kernel)
  | 1, _ => exact List.mem_of_getElem? (i := 194) (by decide +kernel)
  | 2, _ => exact List.mem_of_getElem? (i := 196) (by decide +kernel)
  | 3, _ => exact List.mem_of_getElem? (i := 198) (by decide +kernel)
  | 4, _ => exact List.mem_of_getElem? (i := 200) (by decide +kernel)
  | 5, _ => exact List.mem_of_getElem? (i := 202) (by decide +kernel)
  | k + 6, h => exact absurd h (by omega)
def zR4 : String := "CookHands$Fraction"
def zT4 : u_T := fun k => match k with
  | 0 => ("CookHands$Fraction", "above", "LCookHands$Limbs;", true)
  | _ => ("CookHands$Fraction", "below", "LCookHands$Limbs;", true)
def zY4 : Nat → FieldType := fun k => match k with
  | 0 => (.object "CookHands$Limbs")
  | _ => (.object "CookHands$Limbs")
theorem zN4 : ∀ a, a < 2 → ∀ b, b < 2 → a ≠ b → (zT4 a).2.1 ≠ (zT4 b).2.1 := by decide +kernel
theorem zP4 : ∀ k, k < 2 → parseFieldDescriptor (zT4 k).2.2.1 = some (zY4 k) := by decide +kernel
theorem zW4 : ∀ w ∈ u_ws zR4 zT4 2, w ∈ lw_tbl := fun w hw => by
  obtain ⟨k, hk, rfl⟩ := List.mem_map.mp hw
  have hk := List.mem_range.mp hk
  match k, hk with
  | 0, _ => exact List.mem_of_getElem? (i := 435) (by decide +kernel)
  | 1, _ => exact List.mem_of_getElem? (i := 437) (by decide +kernel)
  | k + 2, h => exact absurd h (by omega)
def zR5 : String := "CookHands$Hands"
def zT5 : u_T := fun k => match k with
  | 0 => ("CookHands$Hands", "sharpRight", "I", false)
  | 1 => ("CookHands$Hands", "bluntRight", "I", false)
  | 2 => ("CookHands$Hands", "sharpLeft", "I", false)
  | 3 => ("CookHands$Hands", "bluntLeft", "I", false)
  | _ => ("CookHands$Hands", "either", "I", false)
def zY5 : Nat → FieldType := fun k => match k with
  | 0 => .int
  | 1 => .int
  | 2 => .int
  | 3 => .int
  | _ => .int
theorem zN5 : ∀ a, a < 5 → ∀ b, b < 5 → a ≠ b → (zT5 a).2.1 ≠ (zT5 b).2.1 := by decide +kernel
theorem zP5 : ∀ k, k < 5 → parseFieldDescriptor (zT5 k).2.2.1 = some (zY5 k) := by decide +kernel
theorem zW5 : ∀ w ∈ u_ws zR5 zT5 5, w ∈ lw_tbl := fun w hw => by
  obtain ⟨k, hk, rfl⟩ := List.mem_map.mp hw
  have hk := List.mem_range.mp hk
  match k, hk with
  | 0, _ => exact List.mem_of_getElem? (i := 262) (by decide +kernel)
  | 1, _ => exact List.mem_of_getElem? (i := 264) (by decide +kernel)
  | 2, _ => exact List.mem_of_getElem? (i := 266) (by decide +kernel)
  | 3, _ => exact List.mem_of_getElem? (i := 268) (by decide +kernel)
  | 4, _ => exact List.mem_of_getElem? (i := 270) (by decide +kernel)
  | k + 5, h => exact absurd h (by omega)
def zR6 : String := "CookHands$Kitchen"
def zT6 : u_T := fun k => match k with
  | 0 => ("CookHands$Kitchen", "kinds", "[I", true)
  | 1 => ("CookHands$Kitchen", "wagesTold", "[I", true)
  | 2 => ("CookHands$Kitchen", "cooks", "I", false)
  | 3 => ("CookHands$Kitchen", "dishes", "[LCookHands$Dish;", true)
  | 4 => ("CookHands$Kitchen", "dishCount", "I", false)
  | 5 => ("CookHands$Kitchen", "knives", "I", false)
  | 6 => ("CookHands$Kitchen", "strike", "Z", false)
  | 7 => ("CookHands$Kitchen", "past", "[I", true)
  | _ => ("CookHands$Kitchen", "minutesCooked", "I", false)
def zY6 : Nat → FieldType := fun k => match k with
  | 0 => (.array .int)
  | 1 => (.array .int)
  | 2 => .int
  | 3 => (.array (.object "CookHands$Dish"))
  | 4 => .int
  | 5 => .int
  | 6 => .boolean
  | 7 => (.array .int)
  | _ => .int
theorem zN6 : ∀ a, a < 9 → ∀ b, b < 9 → a ≠ b → (zT6 a).2.1 ≠ (zT6 b).2.1 := by decide +kernel
theorem zP6 : ∀ k, k < 9 → parseFieldDescriptor (zT6 k).2.2.1 = some (zY6 k) := by decide +kernel
theorem zW6 : ∀ w ∈ u_ws zR6 zT6 9, w ∈ lw_tbl := fun w hw => by
  obtain ⟨k, hk, rfl⟩ := List.mem_map.mp hw
  have hk := List.mem_range.mp hk
  match k, hk with
  | 0, _ => exact List.mem_of_getElem? (i := 224) (by decide +kernel)
  | 1, _ => exact List.mem_of_getElem? (i := 226) (by decide +kernel)
  | 2, _ => exact List.mem_of_getElem? (i := 228) (by decide +kernel)
  | 3, _ => exact List.mem_of_getElem? (i := 230) (by decide +kernel)
  | 4, _ => exact List.mem_of_getElem? (i := 232) (by decide +kernel)
  | 5, _ => exact List.mem_of_getElem? (i := 234) (by decide +kernel)
  | 6, _ => exact List.mem_of_getElem? (i := 236) (by decide +kernel)
  | 7, _ => exact List.mem_of_getElem? (i := 238) (by decide +kernel)
  | 8, _ => exact List.mem_of_getElem? (i := 240) (by decide +kernel)
  | k + 9, h => exact absurd h (by omega)
def zR7 : String := "CookHands$Limbs"
def zT7 : u_T := fun k => match k with
  | 0 => ("CookHands$Limbs", "digits", "[I", true)
  | _ => ("CookHands$Limbs", "length", "I", false)
def zY7 : Nat → FieldType := fun k => match k with
  | 0 => (.array .int)
  | _ => .int
theorem zN7 : ∀ a, a < 2 → ∀ b, b < 2 → a ≠ b → (zT7 a).2.1 ≠ (zT7 b).2.1 := by decide +kernel
theorem zP7 : ∀ k, k < 2 → parseFieldDescriptor (zT7 k).2.2.1 = some (zY7 k) := by decide +kernel
theorem zW7 : ∀ w ∈ u_ws zR7 zT7 2, w ∈ lw_tbl := fun w hw => by
  obtain ⟨k, hk, rfl⟩ := List.mem_map.mp hw
  have hk := List.mem_range.mp hk
  match k, hk with
  | 0, _ => exact List.mem_of_getElem? (i := 426) (by decide +kernel)
  | 1, _ => exact List.mem_of_getElem? (i := 428) (by decide +kernel)
  | k + 2, h => exact absurd h (by omega)
def zR8 : String := "CookHands$Planner"
def zT8 : u_T := fun k => match k with
  | 0 => ("CookHands$Planner", "kitchen", "LCookHands$Kitchen;", true)
  | 1 => ("CookHands$Planner", "crew", "LCookHands$Crew;", true)
  | 2 => ("CookHands$Planner", "row", "LCookHands$Row;", true)
  | 3 => ("CookHands$Planner", "isKnown", "Z", false)
  | 4 => ("CookHands$Planner", "soonestMinutes", "I", false)
  | 5 => ("CookHands$Planner", "now", "[I", true)
  | 6 => ("CookHands$Planner", "end", "[I", true)
  | 7 => ("CookHands$Planner", "stepAt", "[I", true)
  | 8 => ("CookHands$Planner", "begunAt", "[Z", true)
  | 9 => ("CookHands$Planner", "canBe", "[Z", true)
  | 10 => ("CookHands$Planner", "openSets", "[I", true)
  | 11 => ("CookHands$Planner", "states", "[I", true)
  | 12 => ("CookHands$Planner", "stateCount", "I", false)
  | 13 => ("CookHands$Planner", "moves", "[I", true)
  | 14 => ("CookHands$Planner", "fewest", "[I", true)
  | _ => ("CookHands$Planner", "coldSums", "[I", true)
def zY8 : Nat → FieldType := fun k => match k with
  | 0 => (.object "CookHands$Kitchen")
  | 1 => (.object "CookHands$Crew")
  | 2 => (.object "CookHands$Row")
  | 3 => .boolean
  | 4 => .int
  | 5 => (.array .int)
  | 6 => (.array .int)
  | 7 => (.array .int)
  | 8 => (.array .boolean)
  | 9 => (.array .boolean)
  | 10 => (.array .int)
  | 11 => (.array .int)
  | 12 => .int
  | 13 => (.array .int)
  | 14 => (.array .int)
  | _ => (.array .int)
theorem zN8 : ∀ a, a < 16 → ∀ b, b < 16 → a ≠ b → (zT8 a).2.1 ≠ (zT8 b).2.1 := by decide +kernel
theorem zP8 : ∀ k, k < 16 → parseFieldDescriptor (zT8 k).2.2.1 = some (zY8 k) := by decide +kernel
theorem zW8 : ∀ w ∈ u_ws zR8 zT8 16, w ∈ lw_tbl := fun w hw => by
  obtain ⟨k, hk, rfl⟩ := List.mem_map.mp hw
  have hk := List.mem_range.mp hk
  match k, hk with
  | 0, _ => exact List.mem_of_getElem? (i := 347) (by decide +kernel)
  | 1, _ => exact List.mem_of_getElem? (i := 349) (by decide +kernel)
  | 2, _ => exact List.mem_of_getElem? (i := 351) (by decide +kernel)
  | 3, _ => exact List.mem_of_getElem? (i := 353) (by decide +kernel)
  | 4, _ => exact List.mem_of_getElem? (i := 355) (by decide +kernel)
  | 5, _ => exact List.mem_of_getElem? (i := 357) (by decide +kernel)
  | 6, _ => exact List.mem_of_getElem? (i := 359) (by decide +kernel)
  | 7, _ => exact List.mem_of_getElem? (i := 361) (by decide +kernel)
  | 8, _ => exact List.mem_of_getElem? (i := 363) (by decide +kernel)
  | 9, _ => exact List.mem_of_getElem? (i := 365) (by decide +kernel)
  | 10, _ => exact List.mem_of_getElem? (i := 367) (by decide +kernel)
  | 11, _ => exact List.mem_of_getElem? (i := 369) (by decide +kernel)
  | 12, _ => exact List.mem_of_getElem? (i := 371) (by decide +kernel)
  | 13, _ => exact List.mem_of_getElem? (i := 373) (by decide +kernel)
  | 14, _ => exact List.mem_of_getElem? (i := 375) (by decide +kernel)
  | 15, _ => exact List.mem_of_getElem? (i := 377) (by decide +kernel)
  | k + 16, h => exact absurd h (by omega)
def zR9 : String := "CookHands$Row"
def zT9 : u_T := fun k => match k with
  | 0 => ("CookHands$Row", "sets", "[I", true)
  | 1 => ("CookHands$Row", "teams", "[I", true)
  | _ => ("CookHands$Row", "minutes", "I", false)
def zY9 : Nat → FieldType := fun k => match k with
  | 0 => (.array .int)
  | 1 => (.array .int)
  | _ => .int
theorem zN9 : ∀ a, a < 3 → ∀ b, b < 3 → a ≠ b → (zT9 a).2.1 ≠ (zT9 b).2.1 := by decide +kernel
theorem zP9 : ∀ k, k < 3 → parseFieldDescriptor (zT9 k).2.2.1 = some (zY9 k) := by decide +kernel
theorem zW9 : ∀ w ∈ u_ws zR9 zT9 3, w ∈ lw_tbl := fun w hw => by
  obtain ⟨k, hk, rfl⟩ := List.mem_map.mp hw
  have hk := List.mem_range.mp hk
  match k, hk with
  | 0, _ => exact List.mem_of_getElem? (i := 323) (by decide +kernel)
  | 1, _ => exact List.mem_of_getElem? (i := 325) (by decide +kernel)
  | 2, _ => exact List.mem_of_getElem? (i := 327) (by decide +kernel)
  | k + 3, h => exact absurd h (by omega)
def zR10 : String := "CookHandsModel"
def zT10 : u_T := fun k => match k with
  | 0 => ("CookHandsModel", "w", "[I", true)
  | 1 => ("CookHandsModel", "isKept", "[Z", true)
  | 2 => ("CookHandsModel", "text", "[I", true)
  | 3 => ("CookHandsModel", "texted", "I", false)
  | 4 => ("CookHandsModel", "refused", "[I", true)
  | 5 => ("CookHandsModel", "itemWord", "[I", true)
  | 6 => ("CookHandsModel", "number", "[I", true)
  | 7 => ("CookHandsModel", "items", "I", false)
  | 8 => ("CookHandsModel", "at", "I", false)
  | 9 => ("CookHandsModel", "fault", "I", false)
  | 10 => ("CookHandsModel", "rights", "I", false)
  | 11 => ("CookHandsModel", "lefts", "I", false)
  | 12 => ("CookHandsModel", "plainRights", "I", false)
  | 13 => ("CookHandsModel", "plainLefts", "I", false)
  | 14 => ("CookHandsModel", "thumbs", "I", false)
  | 15 => ("CookHandsModel", "may", "[I", true)
  | 16 => ("CookHandsModel", "soon", "[I", true)
  | 17 => ("CookHandsModel", "totals", "[I", true)
  | 18 => ("CookHandsModel", "whoses", "[I", true)
  | 19 => ("CookHandsModel", "whoseMany", "I", false)
  | 20 => ("CookHandsModel", "ofDish", "[I", true)
  | 21 => ("CookHandsModel", "hasLeft", "[I", true)
  | 22 => ("CookHandsModel", "side", "[I", true)
  | 23 => ("CookHandsModel", "coldNow", "[I", true)
  | 24 => ("CookHandsModel", "coldThen", "[I", true)
  | 25 => ("CookHandsModel", "above", "[J", true)
  | 26 => ("CookHandsModel", "aboveMany", "I", false)
  | 27 => ("CookHandsModel", "below", "[J", true)
  | 28 => ("CookHandsModel", "belowMany", "I", false)
  | 29 => ("CookHandsModel", "risky", "I", false)
  | 30 => ("CookHandsModel", "byOne", "I", false)
  | 31 => ("CookHandsModel", "paid", "I", false)
  | 32 => ("CookHandsModel", "burnt", "I", false)
  | _ => ("CookHandsModel", "h", "J", false)
def zY10 : Nat → FieldType := fun k => match k with
  | 0 => (.array .int)
  | 1 => (.array .boolean)
  | 2 => (.array .int)
  | 3 => .int
  | 4 => (.array .int)
  | 5 => (.array .int)
  | 6 => (.array .int)
  | 7 => .int
  | 8 => .int
  | 9 => .int
  | 10 => .int
  | 11 => .int
  | 12 => .int
  | 13 => .int
  | 14 => .int
  | 15 => (.array .int)
  | 16 => (.array .int)
  | 17 => (.array .int)
  | 18 => (.array .int)
  | 19 => .int
  | 20 => (.array .int)
  | 21 => (.array .int)
  | 22 => (.array .int)
  | 23 => (.array .int)
  | 24 => (.array .int)
  | 25 => (.array .long)
  | 26 => .int
  | 27 => (.array .long)
  | 28 => .int
  | 29 => .int
  | 30 => .int
  | 31 => .int
  | 32 => .int
  | _ => .long
theorem zN10 : ∀ a, a < 34 → ∀ b, b < 34 → a ≠ b → (zT10 a).2.1 ≠ (zT10 b).2.1 := by decide +kernel
theorem zP10 : ∀ k, k < 34 → parseFieldDescriptor (zT10 k).2.2.1 = some (zY10 k) := by decide +kernel
theorem zW10 : ∀ w ∈ u_ws zR10 zT10 34, w ∈ lw_tbl := fun w hw => by
  obtain ⟨k, hk, rfl⟩ := List.mem_map.mp hw
  have hk := List.mem_range.mp hk
  match k, hk with
  | 0, _ => exact List.mem_of_getElem? (i := 1204) (by decide +kernel)
  | 1, _ => exact List.mem_of_getElem? (i := 1206) (by decide +kernel)
  | 2, _ => exact List.mem_of_getElem? (i := 1208) (by decide +kernel)
  | 3, _ => exact List.mem_of_getElem? (i := 1210) (by decide +kernel)
  | 4, _ => exact List.mem_of_getElem? (i := 1212) (by decide +kernel)
  | 5, _ => exact List.mem_of_getElem? (i := 1214) (by decide +kernel)
  | 6, _ => exact List.mem_of_getElem? (i := 1216) (by decide +kernel)
  | 7, _ => exact List.mem_of_getElem? (i := 1218) (by decide +kernel)
  | 8, _ => exact List.mem_of_getElem? (i := 1220) (by decide +kernel)
  | 9, _ => exact List.mem_of_getElem? (i := 1222) (by decide +kernel)
  | 10, _ => exact List.mem_of_getElem? (i := 1224) (by decide +kernel)
  | 11, _ => exact List.mem_of_getElem? (i := 1226) (by decide +kernel)
  | 12, _ => exact List.mem_of_getElem? (i := 1228) (by decide +kernel)
  | 13, _ => exact List.mem_of_getElem? (i := 1230) (by decide +kernel)
  | 14, _ => exact List.mem_of_getElem? (i := 1232) (by decide +kernel)
  | 15, _ => exact List.mem_of_getElem? (i := 1234) (by decide +kernel)
  | 16, _ => exact List.mem_of_getElem? (i := 1236) (by decide +kernel)
  | 17, _ => exact List.mem_of_getElem? (i := 1238) (by decide +kernel)
  | 18, _ => exact List.mem_of_getElem? (i := 1240) (by decide +kernel)
  | 19, _ => exact List.mem_of_getElem? (i := 1242) (by decide +kernel)
  | 20, _ => exact List.mem_of_getElem? (i := 1244) (by decide +kernel)
  | 21, _ => exact List.mem_of_getElem? (i := 1246) (by decide +kernel)
  | 22, _ => exact List.mem_of_getElem? (i := 1248) (by decide +kernel)
  | 23, _ => exact List.mem_of_getElem? (i := 1250) (by decide +kernel)
  | 24, _ => exact List.mem_of_getElem? (i := 1252) (by decide +kernel)
  | 25, _ => exact List.mem_of_getElem? (i := 1254) (by decide +kernel)
  | 26, _ => exact List.mem_of_getElem? (i := 1256) (by decide +kernel)
  | 27, _ => exact List.mem_of_getElem? (i := 1258) (by decide +kernel)
  | 28, _ => exact List.mem_of_getElem? (i := 1260) (by decide +kernel)
  | 29, _ => exact List.mem_of_getElem? (i := 1262) (by decide +kernel)
  | 30, _ => exact List.mem_of_getElem? (i := 1264) (by decide +kernel)
  | 31, _ => exact List.mem_of_getElem? (i := 1266) (by decide +kernel)
  | 32, _ => exact List.mem_of_getElem? (i := 1268) (by decide +kernel)
  | 33, _ => exact List.mem_of_getElem? (i := 1270) (by decide +kernel)
  | k + 34, h => exact absurd h (by omega)
abbrev z_cl : List vw_C := [(zR0, zT0, 11), (zR1, zT1, 6), (zR2, zT2, 11), (zR3, zT3, 6), (zR4, zT4, 2), (zR5, zT5, 5), (zR6, zT6, 9), (zR7, zT7, 2), (zR8, zT8, 16), (zR9, zT9, 3), (zR10, zT10, 34)]
def z_cn : List String := ["CookHands", "CookHands$Card", "CookHands$Crew", "CookHands$Dish", "CookHands$Fraction", "CookHands$Hands", "CookHands$Kitchen", "CookHands$Limbs", "CookHands$Planner", "CookHands$Row", "CookHandsModel", "CookHandsLaw", "CookHands$Kind", "java/lang/String", "java/lang/StringLatin1", "jdk/internal/util/Preconditions", "java/lang/Integer"]
def z_kdL : List Nat := [9, 6, 6, 6, 6, 6, 6, 8, 8, 8, 8, 8, 7, 7, 7, 7, 7, 99, 10, 16, 1, 1, 4, 1, 13, 1, 1, 1, 1, 13, 1, 1, 1, 1, 13, 1, 1, 1, 1, 16, 1, 1, 4, 1, 13, 1, 1, 1, 1, 13, 1, 1, 1, 1, 13, 1, 1, 1, 1, 5, 2, 12, 2, 2, 2, 2, 15, 15, 1, 1, 18, 19, 1, 1, 1, 1, 1, 2, 2, 1, 1, 1, 1, 1, 11, 1, 1, 1, 14, 17, 1, 17, 1, 16, 1, 1, 4, 1, 13, 1, 1, 1, 1, 13, 1, 1, 1, 1, 13, 1, 1, 1, 1, 16, 1, 1, 4, 1, 13, 1, 1, 1, 1, 13, 1, 1, 1, 1, 13, 1, 1, 1, 1, 20, 1, 2, 1, 1, 1, 1, 1, 1, 1, 1, 1, 1, 1, 1, 1, 3, 3]
def z_lnL : List Nat := [0, 6, 6, 8, 8, 8, 5, 0, 0, 0, 0, 0, 4, 4, 4, 6, 6, 0, 0, 0, 6, 6, 3, 45, 0, 3, 3, 3, 3, 0, 3, 3, 3, 3, 0, 3, 3, 3, 3, 0, 6, 6, 3, 45, 0, 3, 3, 3, 3, 0, 3, 3, 3, 3, 0, 3, 3, 3, 3, 2, 2, 0, 6, 6, 6, 6, 0, 0, 18, 3, 0, 0, 45, 135, 3, 3, 48, 48, 64, 64, 4096, 4096, 4096, 4096, 0, 200, 40, 200, 0, 0, 8, 0, 8, 0, 6, 6, 3, 45, 0, 3, 3, 3, 3, 0, 3, 3, 3, 3, 0, 3, 3, 3, 3, 0, 6, 6, 3, 45, 0, 3, 3, 3, 3, 0, 3, 3, 3, 3, 0, 3, 3, 3, 3, 0, 440, 2, 200, 3, 50, 250, 4096, 4096, 3, 18, 18, 6, 18, 4096, 4096, 10, 10]
def z_szL : List Nat := [0, 0, 0, 0, 0, 0, 0, 0, 0, 0, 0, 0, 0, 0, 0, 0, 0, 0, 11, 9, 6, 6, 3, 45, 6, 3, 3, 3, 3, 6, 3, 3, 3, 3, 6, 3, 3, 3, 3, 9, 6, 6, 3, 45, 6, 3, 3, 3, 3, 6, 3, 3, 3, 3, 6, 3, 3, 3, 3, 2, 2, 11, 6, 6, 6, 6, 5, 5, 18, 3, 16, 3, 45, 135, 3, 3, 48, 48, 64, 64, 4096, 4096, 4096, 4096, 6, 200, 40, 200, 2, 2, 8, 2, 8, 9, 6, 6, 3, 45, 6, 3, 3, 3, 3, 6, 3, 3, 3, 3, 6, 3, 3, 3, 3, 9, 6, 6, 3, 45, 6, 3, 3, 3, 3, 6, 3, 3, 3, 3, 6, 3, 3, 3, 3, 34, 440, 2, 200, 3, 50, 250, 4096, 4096, 3, 18, 18, 6, 18, 4096, 4096, 10, 10]
def z_xfL : List (List Int32) := [[], [1, 0, 1, 1, 1, 1], [0, 1, 0, 1, 0, 1], [0, 1, 16, 17, 256, 257, 272, 273], [63, 60, 51, 48, 15, 12, 3, 0], [255, 170, 204, 136, 240, 160, 192, 128], [2, 0, 5, 1, 0], [], [], [], [], [], [99, 111, 111, 107], [100, 105, 115, 104], [115, 116, 101, 112], [107, 110, 105, 118, 101, 115], [115, 116, 114, 105, 107, 101], []]
def z_fkL : List Nat := [10, 10, 10, 10, 10, 10, 10, 10, 10, 10, 10, 11, 11, 11, 11, 11, 11, 12, 12, 12, 12, 12, 12, 12, 12, 12, 12, 12, 13, 13, 13, 13, 13, 13, 14, 14, 15, 15, 15, 15, 15, 16, 16, 16, 16, 16, 16, 16, 16, 16, 17, 17, 18, 18, 18, 18, 18, 18, 18, 18, 18, 18, 18, 18, 18, 18, 18, 18, 19, 19, 19, 20, 20, 20, 20, 20, 20, 20, 20, 20, 20, 20, 20, 20, 20, 20, 20, 20, 20, 20, 20, 20, 20, 20, 20, 20, 20, 20, 20, 20, 20, 20, 20, 20, 20]
def z_ftL : List Nat := [2, 2, 2, 2, 2, 2, 2, 2, 0, 0, 0, 2, 0, 0, 2, 2, 0, 2, 2, 2, 2, 2, 2, 2, 0, 2, 0, 2, 2, 2, 2, 2, 0, 0, 2, 2, 0, 0, 0, 0, 0, 2, 2, 0, 2, 0, 0, 0, 2, 0, 2, 0, 2, 2, 2, 0, 0, 2, 2, 2, 2, 2, 2, 2, 0, 2, 2, 2, 2, 2, 0, 2, 2, 2, 0, 2, 2, 2, 0, 0, 0, 0, 0, 0, 0, 0, 2, 2, 2, 2, 0, 2, 2, 2, 2, 2, 2, 0, 2, 0, 0, 0, 0, 0, 1]
def z_fzL : List Nat := [0, 0, 0, 0, 0, 0, 0, 0, 0, 0, 0, 0, 0, 0, 0, 0, 0, 0, 0, 0, 0, 0, 0, 0, 0, 0, 0, 0, 0, 0, 0, 0, 0, 0, 0, 0, 0, 0, 0, 0, 0, 0, 0, 0, 0, 0, 0, 1, 0, 0, 0, 0, 0, 0, 0, 1, 0, 0, 0, 0, 0, 0, 0, 0, 0, 0, 0, 0, 0, 0, 0, 0, 0, 0, 0, 0, 0, 0, 0, 0, 0, 0, 0, 0, 0, 0, 0, 0, 0, 0, 0, 0, 0, 0, 0, 0, 0, 0, 0, 0, 0, 0, 0, 0, 0]
def z_fnL : List Nat := [1, 1, 1, 1, 1, 1, 1, 1, 0, 0, 0, 1, 0, 0, 1, 1, 0, 1, 1, 1, 1, 1, 1, 1, 0, 1, 0, 1, 1, 1, 1, 1, 0, 0, 1, 1, 0, 0, 0, 0, 0, 1, 1, 0, 1, 0, 0, 0, 1, 0, 1, 0, 1, 1, 1, 0, 0, 1, 1, 1, 1, 1, 1, 1, 0, 1, 1, 1, 1, 1, 0, 1, 1, 1, 0, 1, 1, 1, 0, 0, 0, 0, 0, 0, 0, 0, 1, 1, 1, 1, 0, 1, 1, 1, 1, 1, 1, 0, 1, 0, 0, 0, 0, 0, 0]
def z_fbL : List Nat := [0, 11, 17, 28, 34, 36, 41, 50, 52, 68, 71]
def z_fNL : List Nat := [11, 6, 11, 6, 2, 5, 9, 2, 16, 3, 34]
def z_kDish : Nat := 13
def z_kKit : Nat := 16
def z_naL : List Nat := [1, 1, 3, 2, 2, 2, 2, 2, 1, 3, 2, 4, 2, 7, 3, 3, 3, 1, 6, 2, 2, 2, 2, 2, 2, 3, 3, 1, 1, 1, 1, 1, 1, 1, 2, 1, 2, 3, 9, 2, 3, 3, 1, 2, 2, 2, 2, 2, 1, 1, 1, 2, 2, 2, 3, 3, 3, 2, 2, 1, 1, 2, 3, 4, 5, 2, 3, 2, 1, 2, 1, 3, 3, 2, 2, 3, 2, 2, 2, 2, 2, 2, 1, 1, 3, 1, 6, 2, 2, 3, 3, 1, 1, 1, 2, 3, 2, 2, 1, 1, 2, 2, 3, 2, 1, 2, 1, 3, 2, 3, 2, 2, 2, 2, 1, 1, 2, 3, 2, 2, 3, 2, 2, 2, 2, 1, 3, 1, 1, 1, 1, 1, 1, 3, 3, 2, 3, 2, 2, 2, 2, 4, 2, 2, 2, 3, 4, 2, 2, 1, 5, 2, 1, 2, 2, 3, 3, 1, 2, 2, 2, 1, 1, 4, 2, 1, 1, 4, 4, 2, 1, 2, 2, 2, 1, 1, 1, 2, 3, 1, 6, 2, 2, 1, 2, 2, 2, 2, 2, 1, 2, 2, 1, 1, 2, 2, 1, 3, 2, 2, 2, 1, 2, 2, 2, 3, 1, 1, 1, 1, 1, 1, 2, 3, 2, 1, 2, 2, 2, 1, 1, 1, 4, 2, 1, 2, 2, 2, 1, 1, 3, 2, 3, 3, 1, 2, 3, 2, 1, 1, 2, 1, 1, 2, 2, 3]
def z_mlL : List Nat := [4, 1, 6, 2, 2, 2, 2, 2, 1, 4, 3, 5, 3, 10, 4, 4, 3, 1, 6, 2, 2, 2, 2, 2, 2, 4, 5, 2, 1, 2, 1, 5, 3, 3, 4, 2, 3, 4, 11, 4, 5, 10, 1, 2, 4, 2, 6, 4, 1, 1, 1, 3, 5, 7, 6, 8, 5, 7, 4, 4, 3, 5, 10, 7, 15, 3, 4, 3, 2, 4, 2, 4, 3, 2, 2, 3, 2, 2, 2, 2, 2, 3, 3, 2, 3, 1, 6, 2, 2, 4, 4, 2, 3, 1, 2, 3, 2, 4, 4, 3, 5, 2, 3, 3, 1, 2, 1, 3, 2, 3, 2, 2, 2, 2, 5, 1, 2, 3, 2, 2, 4, 2, 2, 2, 2, 1, 5, 2, 4, 3, 4, 1, 1, 4, 4, 2, 4, 2, 4, 2, 2, 5, 2, 5, 7, 4, 5, 2, 2, 1, 5, 2, 3, 2, 2, 3, 3, 1, 4, 5, 6, 1, 1, 6, 3, 1, 1, 4, 6, 6, 1, 2, 2, 2, 1, 2, 2, 3, 3, 1, 7, 3, 2, 2, 2, 2, 2, 2, 2, 1, 2, 3, 3, 3, 4, 2, 1, 4, 6, 2, 2, 1, 5, 2, 6, 3, 1, 1, 1, 1, 4, 4, 3, 3, 2, 5, 4, 4, 3, 1, 1, 3, 7, 6, 4, 3, 5, 4, 1, 1, 4, 2, 4, 3, 4, 5, 7, 6, 1, 1, 2, 1, 1, 2, 2, 3]
def z_rkL : List Nat := [0, 20, 0, 20, 20, 0, 0, 0, 0, 20, 20, 20, 20, 20, 20, 20, 20, 20, 20, 20, 20, 20, 20, 0, 20, 20, 20, 20, 20, 0, 0, 20, 20, 20, 20, 20, 20, 20, 0, 20, 20, 20, 20, 20, 20, 0, 20, 20, 20, 20, 20, 20, 20, 20, 20, 20, 20, 20, 20, 20, 20, 20, 0, 20, 20, 20, 20, 20, 20, 20, 20, 20, 20, 20, 20, 20, 20, 20, 20, 20, 20, 20, 20, 10, 10, 10, 10, 10, 10, 10, 10, 10, 10, 10, 10, 10, 10, 10, 10, 10, 10, 10, 10, 10, 10, 10, 10, 10, 10, 10, 10, 10, 10, 10, 10, 0, 10, 10, 10, 0, 0, 0, 0, 10, 10, 11, 11, 11, 11, 11, 11, 11, 11, 11, 11, 11, 11, 12, 12, 12, 12, 12, 12, 12, 12, 12, 12, 12, 12, 13, 13, 13, 13, 13, 13, 13, 13, 13, 13, 13, 13, 14, 14, 14, 0, 15, 15, 15, 15, 15, 0, 0, 0, 0, 0, 16, 16, 16, 16, 16, 16, 16, 16, 16, 16, 16, 16, 16, 16, 16, 16, 16, 16, 16, 16, 16, 16, 16, 16, 17, 17, 17, 17, 17, 17, 18, 18, 18, 18, 18, 18, 18, 0, 0, 0, 18, 18, 18, 0, 18, 18, 18, 18, 18, 18, 18, 18, 18, 19, 19, 19, 19, 19, 19, 19, 19, 19, 19, 0, 8, 8, 8, 8, 0, 0, 0]
def z_rFL : List Nat := [10, 1, 1, 1, 1, 1, 1, 1, 1, 1, 1, 2, 2, 2, 2, 2, 3, 3, 3, 3, 3, 2, 2, 1, 2, 3, 2, 1, 1, 1, 1, 2, 2, 3, 3, 4, 2, 3, 2, 1, 1, 3, 1, 1, 1, 1, 4, 5, 1, 6, 7, 2, 7, 3, 2, 4, 5, 5, 7, 7, 6, 6, 1, 2, 5, 7, 7, 7, 7, 5, 2, 2, 3, 1, 2, 2, 2, 2, 2, 1, 2, 1, 3, 4, 3, 3, 3, 3, 3, 3, 2, 1, 9, 7, 7, 5, 7, 7, 7, 7, 7, 7, 7, 7, 7, 5, 4, 4, 3, 2, 3, 3, 2, 2, 4, 1, 2, 1, 4, 1, 1, 1, 3, 2, 1, 1, 1, 8, 7, 6, 4, 2, 3, 2, 5, 1, 3, 2, 3, 2, 3, 2, 3, 2, 4, 3, 1, 1, 1, 1, 1, 1, 1, 1, 2, 2, 2, 2, 1, 2, 1, 3, 2, 3, 1, 1, 1, 1, 1, 1, 1, 2, 2, 1, 1, 2, 2, 2, 2, 2, 2, 2, 2, 1, 1, 2, 2, 1, 1, 1, 2, 3, 3, 3, 3, 3, 3, 2, 2, 2, 1, 1, 2, 1, 1, 2, 1, 6, 6, 5, 3, 4, 2, 1, 1, 3, 2, 2, 1, 2, 2, 3, 2, 2, 5, 2, 3, 2, 1, 1, 2, 1, 1, 2, 3, 3, 3, 3, 1, 2, 4, 1, 1, 2, 3, 1]
def z_rLL : List Nat := [256, 60, 60, 60, 60, 60, 60, 60, 60, 60, 60, 85, 82, 85, 85, 82, 109, 104, 114, 108, 105, 85, 85, 60, 81, 106, 85, 60, 60, 60, 60, 85, 85, 109, 114, 137, 81, 103, 81, 60, 60, 111, 60, 60, 60, 60, 140, 165, 60, 188, 208, 81, 208, 111, 81, 137, 164, 165, 208, 208, 188, 188, 60, 89, 164, 208, 208, 208, 208, 165, 81, 84, 107, 60, 85, 85, 85, 85, 85, 60, 85, 60, 107, 122, 103, 103, 110, 103, 103, 102, 84, 60, 234, 199, 199, 156, 199, 199, 199, 193, 199, 199, 199, 199, 199, 151, 124, 128, 101, 82, 103, 103, 82, 82, 128, 60, 82, 60, 130, 60, 60, 60, 107, 80, 60, 60, 60, 213, 190, 168, 124, 81, 104, 81, 145, 60, 110, 80, 107, 83, 107, 83, 109, 85, 130, 107, 60, 60, 60, 60, 60, 60, 60, 60, 81, 81, 81, 82, 60, 83, 60, 102, 81, 105, 60, 60, 60, 60, 60, 60, 60, 81, 81, 60, 60, 80, 81, 81, 81, 81, 84, 81, 81, 60, 60, 81, 81, 60, 60, 60, 80, 102, 102, 107, 102, 104, 104, 81, 85, 81, 60, 60, 81, 60, 60, 80, 60, 179, 173, 153, 107, 130, 81, 60, 60, 104, 81, 81, 60, 82, 82, 108, 82, 82, 156, 82, 108, 81, 60, 60, 81, 60, 60, 83, 105, 105, 105, 102, 60, 80, 124, 60, 60, 82, 103, 60]
def z_owL : List Nat := [11, 10, 10, 10, 10, 10, 10, 10, 10, 10, 10, 10, 10, 10, 10, 10, 10, 10, 10, 10, 10, 10, 10, 10, 10, 10, 10, 10, 10, 10, 10, 10, 10, 10, 10, 10, 10, 10, 10, 10, 10, 10, 10, 10, 10, 10, 10, 10, 10, 10, 10, 10, 10, 10, 10, 10, 10, 10, 10, 10, 10, 10, 10, 10, 10, 10, 10, 10, 10, 10, 10, 10, 10, 10, 10, 10, 10, 10, 10, 10, 10, 10, 10, 0, 0, 0, 0, 0, 0, 0, 0, 0, 0, 0, 0, 0, 0, 0, 0, 0, 0, 0, 0, 0, 0, 0, 0, 0, 0, 0, 0, 0, 0, 0, 0, 0, 0, 0, 0, 0, 0, 0, 0, 0, 0, 1, 1, 1, 1, 1, 1, 1, 1, 1, 1, 1, 1, 2, 2, 2, 2, 2, 2, 2, 2, 2, 2, 2, 2, 3, 3, 3, 3, 3, 3, 3, 3, 3, 3, 3, 3, 4, 4, 4, 4, 5, 5, 5, 5, 5, 12, 12, 12, 12, 12, 6, 6, 6, 6, 6, 6, 6, 6, 6, 6, 6, 6, 6, 6, 6, 6, 6, 6, 6, 6, 6, 6, 6, 6, 7, 7, 7, 7, 7, 7, 8, 8, 8, 8, 8, 8, 8, 8, 8, 8, 8, 8, 8, 8, 8, 8, 8, 8, 8, 8, 8, 8, 8, 9, 9, 9, 9, 9, 9, 9, 9, 9, 9, 16, 13, 13, 13, 13, 13, 14, 15]
def z_rtL : List Nat := [1, 6, 1, 0, 0, 1, 0, 0, 0, 6, 6, 0, 0, 0, 0, 0, 0, 0, 0, 0, 0, 1, 1, 0, 0, 0, 0, 0, 1, 0, 0, 0, 0, 6, 0, 0, 6, 6, 1, 0, 0, 1, 0, 1, 0, 0, 6, 0, 0, 0, 0, 0, 0, 1, 0, 6, 0, 0, 0, 0, 0, 0, 0, 0, 6, 0, 0, 0, 0, 0, 0, 0, 0, 0, 0, 0, 0, 0, 0, 0, 0, 6, 4, 6, 0, 0, 0, 0, 0, 0, 0, 0, 0, 0, 0, 0, 0, 0, 0, 0, 0, 0, 0, 0, 0, 0, 0, 0, 0, 0, 0, 0, 0, 0, 4, 1, 0, 0, 1, 1, 0, 0, 0, 0, 0, 6, 6, 0, 1, 0, 0, 1, 6, 0, 1, 0, 0, 6, 6, 6, 6, 6, 1, 6, 6, 0, 1, 0, 0, 6, 6, 6, 0, 1, 0, 1, 1, 1, 0, 0, 4, 6, 6, 6, 0, 6, 6, 6, 6, 1, 1, 0, 0, 1, 1, 6, 6, 6, 0, 0, 0, 0, 0, 6, 1, 0, 0, 1, 5, 0, 1, 1, 0, 0, 0, 6, 1, 6, 4, 6, 6, 1, 6, 0, 4, 6, 6, 0, 0, 0, 6, 6, 1, 0, 0, 6, 0, 0, 0, 0, 0, 6, 0, 0, 6, 0, 0, 0, 6, 6, 6, 0, 0, 1, 0, 0, 0, 0, 0, 0, 2, 3, 1, 6, 2, 0]
def z_inL : List Bool := [false, true, false, false, false, false, false, false, false, false, false, false, false, false, false, false, false, false, false, false, false, false, false, false, false, false, false, false, false, false, false, false, false, false, false, false, false, false, false, false, false, false, false, false, false, false, false, false, false, false, false, false, false, false, false, false, false, false, false, false, false, false, false, false, false, false, false, false, false, false, false, false, false, false, false, false, false, false, false, false, false, false, false, true, false, false, false, false, false, false, false, false, false, false, false, false, false, false, false, false, false, false, false, false, false, false, false, false, false, false, false, false, false, false, false, false, false, false, false, false, false, false, false, false, false, true, false, false, false, false, false, false, false, false, false, false, false, true, false, false, false, false, false, false, false, false, false, false, false, true, false, false, false, false, false, false, false, false, false, false, false, true, false, false, false, true, false, false, false, false, false, false, false, false, false, true, false, false, false, false, false, false, false, false, false, false, false, false, false, false, false, false, false, false, false, false, false, false, false, true, false, false, false, false, false, true, false, false, false, false, false, false, false, false, false, false, false, false, false, false, false, false, false, false, false, false, false, false, true, false, false, false, false, false, false, false, false, false, false, false, false, false, false, false, false, false]
def z_kd (a : Nat) : Nat := z_kdL.getD a 0
def z_fk (F : Nat) : Nat := z_fkL.getD F 0
def z_ft (F : Nat) : Nat := z_ftL.getD F 0
def z_na (j : Nat) : Nat := z_naL.getD j 0
def z_ml (j : Nat) : Nat := z_mlL.getD j 0
def z_rk (j : Nat) : Nat := z_rkL.getD j 0
def z_nmL : List MethodName := [⟨"CookHandsLaw", "law", "([I)Z"⟩, ⟨"CookHandsModel", "<init>", "()V"⟩, ⟨"CookHandsModel", "in", "(JJJ)Z"⟩, ⟨"CookHandsModel", "told", "(I)I"⟩, ⟨"CookHandsModel", "toldElse", "(I)I"⟩, ⟨"CookHandsModel", "has", "(II)Z"⟩, ⟨"CookHandsModel", "lesser", "(II)I"⟩, ⟨"CookHandsModel", "greater", "(II)I"⟩, ⟨"CookHandsModel", "ones", "(I)I"⟩, ⟨"CookHandsModel", "copy", "(II)V"⟩, ⟨"CookHandsModel", "beginAnew", "(I)V"⟩, ⟨"CookHandsModel", "addCook", "(III)I"⟩, ⟨"CookHandsModel", "addDish", "(I)I"⟩, ⟨"CookHandsModel", "addStep", "(IIIIII)I"⟩, ⟨"CookHandsModel", "setKnives", "(II)I"⟩, ⟨"CookHandsModel", "setStrike", "(IZ)I"⟩, ⟨"CookHandsModel", "cook", "(II)I"⟩, ⟨"CookHandsModel", "dish", "()I"⟩, ⟨"CookHandsModel", "step", "(IIIII)I"⟩, ⟨"CookHandsModel", "knives", "(I)I"⟩, ⟨"CookHandsModel", "strike", "(Z)I"⟩, ⟨"CookHandsModel", "isCook", "(I)Z"⟩, ⟨"CookHandsModel", "isDish", "(I)Z"⟩, ⟨"CookHandsModel", "handsOf", "(IZ)I"⟩, ⟨"CookHandsModel", "handsNow", "(I)I"⟩, ⟨"CookHandsModel", "hands", "(II)I"⟩, ⟨"CookHandsModel", "type", "(JI)I"⟩, ⟨"CookHandsModel", "clear", "()I"⟩, ⟨"CookHandsModel", "isEnd", "()Z"⟩, ⟨"CookHandsModel", "wordOf", "(J)I"⟩, ⟨"CookHandsModel", "numbersOf", "(I)I"⟩, ⟨"CookHandsModel", "takeWord", "()I"⟩, ⟨"CookHandsModel", "takeNumber", "()I"⟩, ⟨"CookHandsModel", "takeItem", "()V"⟩, ⟨"CookHandsModel", "tellItem", "(I)I"⟩, ⟨"CookHandsModel", "read", "()I"⟩, ⟨"CookHandsModel", "giveHand", "(I)V"⟩, ⟨"CookHandsModel", "gather", "(IZ)V"⟩, ⟨"CookHandsModel", "areEnough", "(IIIIIIIII)Z"⟩, ⟨"CookHandsModel", "totalOf", "(I)I"⟩, ⟨"CookHandsModel", "stepOf", "(II)I"⟩, ⟨"CookHandsModel", "mayGo", "(II)Z"⟩, ⟨"CookHandsModel", "stateNow", "()I"⟩, ⟨"CookHandsModel", "isState", "(I)Z"⟩, ⟨"CookHandsModel", "doneIn", "(I)I"⟩, ⟨"CookHandsModel", "onward", "(II)I"⟩, ⟨"CookHandsModel", "findMay", "(I)V"⟩, ⟨"CookHandsModel", "findSoonest", "(I)I"⟩, ⟨"CookHandsModel", "allDishes", "()I"⟩, ⟨"CookHandsModel", "findNow", "()I"⟩, ⟨"CookHandsModel", "soonest", "()I"⟩, ⟨"CookHandsModel", "nextOf", "(I)I"⟩, ⟨"CookHandsModel", "row", "(I)I"⟩, ⟨"CookHandsModel", "isEnoughFrom", "(I)Z"⟩, ⟨"CookHandsModel", "handFor", "(II)I"⟩, ⟨"CookHandsModel", "findWhose", "(II)V"⟩, ⟨"CookHandsModel", "whose", "(II)I"⟩, ⟨"CookHandsModel", "cold", "(I)I"⟩, ⟨"CookHandsModel", "help", "(I)I"⟩, ⟨"CookHandsModel", "spared", "()I"⟩, ⟨"CookHandsModel", "strikeCost", "()I"⟩, ⟨"CookHandsModel", "menu", "(I)I"⟩, ⟨"CookHandsModel", "times", "([JIJ)I"⟩, ⟨"CookHandsModel", "share", "(III)I"⟩, ⟨"CookHandsModel", "goThrough", "(IIIJ)V"⟩, ⟨"CookHandsModel", "burns", "(I)I"⟩, ⟨"CookHandsModel", "drawn", "(II)I"⟩, ⟨"CookHandsModel", "letGo", "(I)I"⟩, ⟨"CookHandsModel", "wages", "()I"⟩, ⟨"CookHandsModel", "cooked", "(I)I"⟩, ⟨"CookHandsModel", "undo", "()I"⟩, ⟨"CookHandsModel", "stateOf", "(II)I"⟩, ⟨"CookHandsModel", "state", "(II)I"⟩, ⟨"CookHandsModel", "signOf", "(I)I"⟩, ⟨"CookHandsModel", "sign", "(I)I"⟩, ⟨"CookHandsModel", "limb", "(II)I"⟩, ⟨"CookHandsModel", "image", "(I)I"⟩, ⟨"CookHandsModel", "from", "(I)I"⟩, ⟨"CookHandsModel", "status", "(I)I"⟩, ⟨"CookHandsModel", "countOf", "(I)I"⟩, ⟨"CookHandsModel", "count", "(I)I"⟩, ⟨"CookHandsModel", "mix", "(J)V"⟩, ⟨"CookHandsModel", "digest", "()J"⟩, ⟨"CookHands", "<init>", "()V"⟩, ⟨"CookHands", "cook", "(II)I"⟩, ⟨"CookHands", "dish", "()I"⟩, ⟨"CookHands", "step", "(IIIII)I"⟩, ⟨"CookHands", "knives", "(I)I"⟩, ⟨"CookHands", "strike", "(Z)I"⟩, ⟨"CookHands", "hands", "(II)I"⟩, ⟨"CookHands", "type", "(JI)I"⟩, ⟨"CookHands", "clear", "()I"⟩, ⟨"CookHands", "read", "()I"⟩, ⟨"CookHands", "soonest", "()I"⟩, ⟨"CookHands", "row", "(I)I"⟩, ⟨"CookHands", "whose", "(II)I"⟩, ⟨"CookHands", "cold", "(I)I"⟩, ⟨"CookHands", "help", "(I)I"⟩, ⟨"CookHands", "spared", "()I"⟩, ⟨"CookHands", "strikeCost", "()I"⟩, ⟨"CookHands", "menu", "(I)I"⟩, ⟨"CookHands", "burns", "(I)I"⟩, ⟨"CookHands", "drawn", "(II)I"⟩, ⟨"CookHands", "letGo", "(I)I"⟩, ⟨"CookHands", "wages", "()I"⟩, ⟨"CookHands", "cooked", "(I)I"⟩, ⟨"CookHands", "undo", "()I"⟩, ⟨"CookHands", "state", "(II)I"⟩, ⟨"CookHands", "sign", "(I)I"⟩, ⟨"CookHands", "limb", "(II)I"⟩, ⟨"CookHands", "image", "(I)I"⟩, ⟨"CookHands", "from", "(I)I"⟩, ⟨"CookHands", "status", "(I)I"⟩, ⟨"CookHands", "count", "(I)I"⟩, ⟨"CookHands", "digest", "()J"⟩, ⟨"CookHands", "isRefusal", "(I)Z"⟩, ⟨"CookHands", "noted", "(I)I"⟩, ⟨"CookHands", "refuse", "(II)I"⟩, ⟨"CookHands", "canGoOn", "(I)Z"⟩, ⟨"CookHands", "isIn", "(II)Z"⟩, ⟨"CookHands", "keyWithStep", "(III)I"⟩, ⟨"CookHands", "stepInKey", "(II)I"⟩, ⟨"CookHands", "stateOf", "(LCookHands$Dish;I)I"⟩, ⟨"CookHands", "signOf", "(I)I"⟩, ⟨"CookHands", "countOf", "(I)I"⟩, ⟨"CookHands$Card", "<init>", "()V"⟩, ⟨"CookHands$Card", "append", "(JI)V"⟩, ⟨"CookHands$Card", "parse", "()I"⟩, ⟨"CookHands$Card", "takeItem", "()Z"⟩, ⟨"CookHands$Card", "takeWord", "()I"⟩, ⟨"CookHands$Card", "takeNumber", "()I"⟩, ⟨"CookHands$Card", "takeSemicolon", "()Z"⟩, ⟨"CookHands$Card", "skipBlanks", "()V"⟩, ⟨"CookHands$Card", "runEnd", "(II)I"⟩, ⟨"CookHands$Card", "isSpelt", "(Ljava/lang/String;I)Z"⟩, ⟨"CookHands$Card", "byteAt", "(I)I"⟩, ⟨"CookHands$Card", "tellItem", "(ILCookHands$Kitchen;)I"⟩, ⟨"CookHands$Crew", "<init>", "(LCookHands$Kitchen;)V"⟩, ⟨"CookHands$Crew", "gather", "(Z)V"⟩, ⟨"CookHands$Crew", "addNobodysHand", "(Z)V"⟩, ⟨"CookHands$Crew", "sendAway", "(I)V"⟩, ⟨"CookHands$Crew", "setFree", "(IZZ)V"⟩, ⟨"CookHands$Crew", "isEnoughFor", "(I)Z"⟩, ⟨"CookHands$Crew", "askFor", "(I)V"⟩, ⟨"CookHands$Crew", "lineUp", "(I)V"⟩, ⟨"CookHands$Crew", "firstFor", "(ZZ)I"⟩, ⟨"CookHands$Crew", "canGive", "(IZZ)Z"⟩, ⟨"CookHands$Crew", "cookInRow", "(I)I"⟩, ⟨"CookHands$Crew", "teamOf", "(I)I"⟩, ⟨"CookHands$Dish", "<init>", "()V"⟩, ⟨"CookHands$Dish", "add", "(IIII)V"⟩, ⟨"CookHands$Dish", "copyFrom", "(LCookHands$Dish;)V"⟩, ⟨"CookHands$Dish", "minutesLong", "()I"⟩, ⟨"CookHands$Dish", "hasStep", "(I)Z"⟩, ⟨"CookHands$Dish", "handsOf", "(I)I"⟩, ⟨"CookHands$Dish", "isRightHand", "(II)Z"⟩, ⟨"CookHands$Dish", "isSharpHand", "(II)Z"⟩, ⟨"CookHands$Dish", "isDone", "()Z"⟩, ⟨"CookHands$Dish", "stepAfter", "(I)I"⟩, ⟨"CookHands$Dish", "minutesInStepAfter", "(I)I"⟩, ⟨"CookHands$Dish", "digestOnto", "(J)J"⟩, ⟨"CookHands$Fraction", "<init>", "()V"⟩, ⟨"CookHands$Fraction", "setZero", "()V"⟩, ⟨"CookHands$Fraction", "setPower", "(III)V"⟩, ⟨"CookHands$Fraction", "commonDivisor", "(II)I"⟩, ⟨"CookHands$Hands", "<init>", "()V"⟩, ⟨"CookHands$Hands", "empty", "()V"⟩, ⟨"CookHands$Hands", "add", "(ZZI)V"⟩, ⟨"CookHands$Hands", "addStep", "(III)V"⟩, ⟨"CookHands$Hands", "covers", "(LCookHands$Hands;)Z"⟩, ⟨"CookHands$Kind", "isOne", "(I)Z"⟩, ⟨"CookHands$Kind", "rightHands", "(IZ)I"⟩, ⟨"CookHands$Kind", "leftHands", "(IZ)I"⟩, ⟨"CookHands$Kind", "isOut", "(IZ)Z"⟩, ⟨"CookHands$Kind", "holdsKnives", "(I)Z"⟩, ⟨"CookHands$Kitchen", "<init>", "()V"⟩, ⟨"CookHands$Kitchen", "empty", "()V"⟩, ⟨"CookHands$Kitchen", "copyFrom", "(LCookHands$Kitchen;)V"⟩, ⟨"CookHands$Kitchen", "addCook", "(II)I"⟩, ⟨"CookHands$Kitchen", "addDish", "()I"⟩, ⟨"CookHands$Kitchen", "addStep", "(IIIII)I"⟩, ⟨"CookHands$Kitchen", "layKnives", "(I)I"⟩, ⟨"CookHands$Kitchen", "tellStrike", "(Z)I"⟩, ⟨"CookHands$Kitchen", "beginAnew", "()V"⟩, ⟨"CookHands$Kitchen", "hasCook", "(I)Z"⟩, ⟨"CookHands$Kitchen", "kindOf", "(I)I"⟩, ⟨"CookHands$Kitchen", "wageOf", "(I)I"⟩, ⟨"CookHands$Kitchen", "hasDish", "(I)Z"⟩, ⟨"CookHands$Kitchen", "dishAt", "(I)LCookHands$Dish;"⟩, ⟨"CookHands$Kitchen", "allDishes", "()I"⟩, ⟨"CookHands$Kitchen", "hasDishes", "(I)Z"⟩, ⟨"CookHands$Kitchen", "anyDone", "(I)Z"⟩, ⟨"CookHands$Kitchen", "doneCount", "()I"⟩, ⟨"CookHands$Kitchen", "begunDishes", "()I"⟩, ⟨"CookHands$Kitchen", "keyOf", "(I)I"⟩, ⟨"CookHands$Kitchen", "goOn", "(I)V"⟩, ⟨"CookHands$Kitchen", "goBack", "()Z"⟩, ⟨"CookHands$Kitchen", "bringOn", "(II)V"⟩, ⟨"CookHands$Kitchen", "digestOnto", "(J)J"⟩, ⟨"CookHands$Limbs", "<init>", "(I)V"⟩, ⟨"CookHands$Limbs", "set", "(I)V"⟩, ⟨"CookHands$Limbs", "isZero", "()Z"⟩, ⟨"CookHands$Limbs", "multiply", "(I)V"⟩, ⟨"CookHands$Limbs", "limbAt", "(I)I"⟩, ⟨"CookHands$Limbs", "digestOnto", "(J)J"⟩, ⟨"CookHands$Planner", "<init>", "(LCookHands$Kitchen;LCookHands$Crew;)V"⟩, ⟨"CookHands$Planner", "forget", "()V"⟩, ⟨"CookHands$Planner", "plan", "()I"⟩, ⟨"CookHands$Planner", "fewestMinutes", "()I"⟩, ⟨"CookHands$Planner", "survey", "()I"⟩, ⟨"CookHands$Planner", "layPlaces", "()V"⟩, ⟨"CookHands$Planner", "layOpenSets", "()V"⟩, ⟨"CookHands$Planner", "hasSteps", "(II)Z"⟩, ⟨"CookHands$Planner", "stateOfPlaces", "(III)I"⟩, ⟨"CookHands$Planner", "placeIn", "(II)I"⟩, ⟨"CookHands$Planner", "layStates", "()V"⟩, ⟨"CookHands$Planner", "keyOfState", "(I)I"⟩, ⟨"CookHands$Planner", "begunIn", "(I)I"⟩, ⟨"CookHands$Planner", "stateBehind", "(II)I"⟩, ⟨"CookHands$Planner", "firstState", "()I"⟩, ⟨"CookHands$Planner", "lastState", "()I"⟩, ⟨"CookHands$Planner", "countFewest", "()V"⟩, ⟨"CookHands$Planner", "leastBehind", "([III)I"⟩, ⟨"CookHands$Planner", "minutesFor", "(I)I"⟩, ⟨"CookHands$Planner", "writeRow", "()V"⟩, ⟨"CookHands$Planner", "firstShortening", "(I)I"⟩, ⟨"CookHands$Planner", "coldest", "(I)I"⟩, ⟨"CookHands$Planner", "doneIn", "(I)I"⟩, ⟨"CookHands$Row", "<init>", "()V"⟩, ⟨"CookHands$Row", "empty", "()V"⟩, ⟨"CookHands$Row", "add", "(ILCookHands$Crew;)V"⟩, ⟨"CookHands$Row", "setAt", "(I)I"⟩, ⟨"CookHands$Row", "teamAt", "(II)I"⟩, ⟨"CookHands$Row", "isShared", "(II)Z"⟩, ⟨"CookHands$Row", "countShared", "()I"⟩, ⟨"CookHands$Row", "countSharedBy", "(I)I"⟩, ⟨"CookHands$Row", "firstBurnt", "(II)I"⟩, ⟨"CookHands$Row", "sumOfWages", "(LCookHands$Kitchen;)I"⟩, ⟨"java/lang/Integer", "bitCount", "(I)I"⟩, ⟨"java/lang/String", "length", "()I"⟩, ⟨"java/lang/String", "charAt", "(I)C"⟩, ⟨"java/lang/String", "coder", "()B"⟩, ⟨"java/lang/String", "isLatin1", "()Z"⟩, ⟨"java/lang/String", "checkIndex", "(II)V"⟩, ⟨"java/lang/StringLatin1", "charAt", "([BI)C"⟩, ⟨"jdk/internal/util/Preconditions", "checkIndex", "(IILjava/util/function/BiFunction;)I"⟩]
def z_byL : List ByteArray := [code, prog_13_method_1_code, prog_13_method_3_code, prog_13_method_4_code, prog_13_method_5_code, prog_13_method_6_code, prog_13_method_7_code, prog_13_method_8_code, prog_13_method_9_code, prog_13_method_10_code, prog_13_method_11_code, prog_13_method_12_code, prog_13_method_13_code, prog_13_method_14_code, prog_13_method_15_code, prog_13_method_16_code, prog_13_method_17_code, prog_13_method_18_code, prog_13_method_19_code, prog_13_method_20_code, prog_13_method_21_code, prog_13_method_22_code, prog_13_method_23_code, prog_13_method_24_code, prog_13_method_25_code, prog_13_method_26_code, prog_13_method_27_code, prog_13_method_28_code, prog_13_method_29_code, prog_13_method_30_code, prog_13_method_31_code, prog_13_method_32_code, prog_13_method_33_code, prog_13_method_34_code, prog_13_method_35_code, prog_13_method_36_code, prog_13_method_37_code, prog_13_method_38_code, prog_13_method_39_code, prog_13_method_40_code, prog_13_method_41_code, prog_13_method_42_code, prog_13_method_43_code, prog_13_method_44_code, prog_13_method_45_code, prog_13_method_46_code, prog_13_method_47_code, prog_13_method_48_code, prog_13_method_49_code, prog_13_method_50_code, prog_13_method_51_code, prog_13_method_52_code, prog_13_method_53_code, prog_13_method_54_code, prog_13_method_55_code, prog_13_method_56_code, prog_13_method_57_code, prog_13_method_58_code, prog_13_method_59_code, prog_13_method_60_code, prog_13_method_61_code, prog_13_method_62_code, prog_13_method_63_code, prog_13_method_64_code, prog_13_method_65_code, prog_13_method_66_code, prog_13_method_67_code, prog_13_method_68_code, prog_13_method_69_code, prog_13_method_70_code, prog_13_method_71_code, prog_13_method_72_code, prog_13_method_73_code, prog_13_method_74_code, prog_13_method_75_code, prog_13_method_76_code, prog_13_method_77_code, prog_13_method_78_code, prog_13_method_79_code, prog_13_method_80_code, prog_13_method_81_code, prog_13_method_82_code, prog_13_method_83_code, prog_1_method_1_code, prog_1_method_2_code, prog_1_method_3_code, prog_1_method_4_code, prog_1_method_5_code, prog_1_method_6_code, prog_1_method_7_code, prog_1_method_8_code, prog_1_method_9_code, prog_1_method_10_code, prog_1_method_11_code, prog_1_method_12_code, prog_1_method_13_code, prog_1_method_14_code, prog_1_method_15_code, prog_1_method_16_code, prog_1_method_17_code, prog_1_method_18_code, prog_1_method_19_code, prog_1_method_20_code, prog_1_method_21_code, prog_1_method_22_code, prog_1_method_23_code, prog_1_method_24_code, prog_1_method_25_code, prog_1_method_26_code, prog_1_method_27_code, prog_1_method_28_code, prog_1_method_29_code, prog_1_method_30_code, prog_1_method_31_code, prog_1_method_32_code, prog_1_method_33_code, prog_1_method_34_code, prog_1_method_35_code, prog_1_method_36_code, prog_1_method_37_code, prog_1_method_38_code, prog_1_method_39_code, prog_1_method_40_code, prog_1_method_41_code, prog_1_method_42_code, prog_2_method_1_code, prog_2_method_2_code, prog_2_method_3_code, prog_2_method_4_code, prog_2_method_5_code, prog_2_method_6_code, prog_2_method_7_code, prog_2_method_8_code, prog_2_method_9_code, prog_2_method_10_code, prog_2_method_11_code, prog_2_method_12_code, prog_3_method_1_code, prog_3_method_2_code, prog_3_method_3_code, prog_3_method_4_code, prog_3_method_5_code, prog_3_method_6_code, prog_3_method_7_code, prog_3_method_8_code, prog_3_method_9_code, prog_3_method_10_code, prog_3_method_11_code, prog_3_method_12_code, prog_4_method_1_code, prog_4_method_2_code, prog_4_method_3_code, prog_4_method_4_code, prog_4_method_5_code, prog_4_method_6_code, prog_4_method_7_code, prog_4_method_8_code, prog_4_method_9_code, prog_4_method_10_code, prog_4_method_11_code, prog_4_method_12_code, prog_5_method_1_code, prog_5_method_2_code, prog_5_method_3_code, prog_5_method_4_code, prog_6_method_1_code, prog_6_method_2_code, prog_6_method_3_code, prog_6_method_4_code, prog_6_method_5_code, prog_7_method_2_code, prog_7_method_3_code, prog_7_method_4_code, prog_7_method_5_code, prog_7_method_6_code, prog_8_method_1_code, prog_8_method_2_code, prog_8_method_3_code, prog_8_method_4_code, prog_8_method_5_code, prog_8_method_6_code, prog_8_method_7_code, prog_8_method_8_code, prog_8_method_9_code, prog_8_method_10_code, prog_8_method_11_code, prog_8_method_12_code, prog_8_method_13_code, prog_8_method_14_code, prog_8_method_15_code, prog_8_method_16_code, prog_8_method_17_code, prog_8_method_18_code, prog_8_method_19_code, prog_8_method_20_code, prog_8_method_21_code, prog_8_method_22_code, prog_8_method_23_code, prog_8_method_24_code, prog_9_method_1_code, prog_9_method_2_code, prog_9_method_3_code, prog_9_method_4_code, prog_9_method_5_code, prog_9_method_6_code, prog_10_method_1_code, prog_10_method_2_code, prog_10_method_3_code, prog_10_method_4_code, prog_10_method_5_code, prog_10_method_6_code, prog_10_method_7_code, prog_10_method_8_code, prog_10_method_9_code, prog_10_method_10_code, prog_10_method_11_code, prog_10_method_12_code, prog_10_method_13_code, prog_10_method_14_code, prog_10_method_15_code, prog_10_method_16_code, prog_10_method_17_code, prog_10_method_18_code, prog_10_method_19_code, prog_10_method_20_code, prog_10_method_21_code, prog_10_method_22_code, prog_10_method_23_code, prog_11_method_1_code, prog_11_method_2_code, prog_11_method_3_code, prog_11_method_4_code, prog_11_method_5_code, prog_11_method_6_code, prog_11_method_7_code, prog_11_method_8_code, prog_11_method_9_code, prog_11_method_10_code, prog_14_method_49_code, prog_16_method_54_code, prog_16_method_56_code, prog_16_method_152_code, prog_16_method_154_code, prog_16_method_155_code, prog_17_method_2_code, prog_20_method_11_code]
def z_reL : List (Option FieldType) := [(some .boolean), none, (some .boolean), (some .int), (some .int), (some .boolean), (some .int), (some .int), (some .int), none, none, (some .int), (some .int), (some .int), (some .int), (some .int), (some .int), (some .int), (some .int), (some .int), (some .int), (some .boolean), (some .boolean), (some .int), (some .int), (some .int), (some .int), (some .int), (some .boolean), (some .int), (some .int), (some .int), (some .int), none, (some .int), (some .int), none, none, (some .boolean), (some .int), (some .int), (some .boolean), (some .int), (some .boolean), (some .int), (some .int), none, (some .int), (some .int), (some .int), (some .int), (some .int), (some .int), (some .boolean), (some .int), none, (some .int), (some .int), (some .int), (some .int), (some .int), (some .int), (some .int), (some .int), none, (some .int), (some .int), (some .int), (some .int), (some .int), (some .int), (some .int), (some .int), (some .int), (some .int), (some .int), (some .int), (some .int), (some .int), (some .int), (some .int), none, (some .long), none, (some .int), (some .int), (some .int), (some .int), (some .int), (some .int), (some .int), (some .int), (some .int), (some .int), (some .int), (some .int), (some .int), (some .int), (some .int), (some .int), (some .int), (some .int), (some .int), (some .int), (some .int), (some .int), (some .int), (some .int), (some .int), (some .int), (some .int), (some .int), (some .int), (some .int), (some .long), (some .boolean), (some .int), (some .int), (some .boolean), (some .boolean), (some .int), (some .int), (some .int), (some .int), (some .int), none, none, (some .int), (some .boolean), (some .int), (some .int), (some .boolean), none, (some .int), (some .boolean), (some .int), (some .int), none, none, none, none, none, (some .boolean), none, none, (some .int), (some .boolean), (some .int), (some .int), none, none, none, (some .int), (some .boolean), (some .int), (some .boolean), (some .boolean), (some .boolean), (some .int), (some .int), (some .long), none, none, none, (some .int), none, none, none, none, (some .boolean), (some .boolean), (some .int), (some .int), (some .boolean), (some .boolean), none, none, none, (some .int), (some .int), (some .int), (some .int), (some .int), none, (some .boolean), (some .int), (some .int), (some .boolean), (some (.object "CookHands$Dish")), (some .int), (some .boolean), (some .boolean), (some .int), (some .int), (some .int), none, (some .boolean), none, (some .long), none, none, (some .boolean), none, (some .int), (some .long), none, none, (some .int), (some .int), (some .int), none, none, (some .boolean), (some .int), (some .int), none, (some .int), (some .int), (some .int), (some .int), (some .int), none, (some .int), (some .int), none, (some .int), (some .int), (some .int), none, none, none, (some .int), (some .int), (some .boolean), (some .int), (some .int), (some .int), (some .int), (some .int), (some .int), (some .char), (some .byte), (some .boolean), none, (some .char), (some .int)]
